section
set_option maxHeartbeats 4000000 in
set_option maxRecDepth 100000 in
theorem k_M_keep (l : Launch) (dC : Nat → ClassId) (dI : Nat → Nat → Nat) (cI cZ cF : ClassId) (sz : Nat) (k0 : Nat) (a : Nat → Nat) (I0 : Nat → Int32) (J0 : Nat → Int64) (i : Nat) (ft : Nat) (w0 : Nat) (cp : Nat) (cE : Nat) (kd : Nat → Int32) (st : Nat → Int32) (gb : Nat → Int32) (it : Nat → Int32) (pa : Nat → Int32) (pb : Nat → Int32) (rk : Nat → Int32) (wd : Nat → Int32) (tw : Nat → Int32) (tn : Nat → Int32) (mn : Nat → Int32) (cx : Nat → Int32) (cy : Nat → Int32) (sa : Nat → Int32) (sh : Nat → Int32) (hft : I0 0 = nI ft) (h200 : ft ≤ 200) (hi5 : i < 515) (hsa : sa i = nI w0) (hmn : ∀ f, f < ft → (tn f).toInt = 0 → ¬ (st f).toInt = 0 → mn f = nI (nN (mn f)) ∧ nN (mn f) ≤ 40) (hc1 : 1 ≤ cp) (hpw : pw cp cE) (hw0 : w0 ≤ 4096 * cp) (hfit : psN (nnF st tn mn) w0 ft ≤ 4096 * cE) (hmin : cE = cp ∨ 2048 * cE < psN (nnF st tn mn) w0 ft) (hcE : cE ≤ 512) : zM l yX11_keep cX11_keep 5 none ({ frames := 1, cells := cE - cp, slots := 8192 * (cE - cp), locals := 23 } : Room) [.ref k0, .int (nI i)] (dC, dI) (zTy cI cZ cF) [(om k0 a I0 J0), (oa (a 1) cI 201 kd), (oa (a 5) cI 201 st), (oa (a 7) cI 201 gb), (oa (a 10) cI 201 it), (oa (a 8) cI 201 pa), (oa (a 9) cI 201 pb), (oa (a 2) cI 201 rk), (oa (a 3) cI 201 wd), (oa (a 4) cI 201 tw), (oa (a 6) cZ 201 tn), (oa (a 11) cI 201 mn), (oa (a 12) cI 8040 cx), (oa (a 13) cI 8040 cy), (oa (a 27) cI 516 sa), (oa (a 28) cI (4096 * cp) sh)] sz none (fun A t => ∃ (b1 : Nat), ∃ (sh1 : Nat → Int32), (sh1 w0 = nI ft) ∧ (∀ j, j < w0 → sh1 j = sh j) ∧ (∀ g, g < ft → ∀ j, j < 10 + 2 * nnF st tn mn g → sh1 (psN (nnF st tn mn) w0 g + j) = (shD kd st gb it pa pb rk wd tw (nnF st tn mn) cx cy) g j) ∧ (∀ j, psN (nnF st tn mn) w0 ft ≤ j → j < 4096 * cp → sh1 j = sh j) ∧ zPD (dC, dI) classes A [(om k0 (va_up a 28 b1) (upd I0 41 (nI (psN (nnF st tn mn) w0 ft))) J0), (oa (a 1) cI 201 kd), (oa (a 5) cI 201 st), (oa (a 7) cI 201 gb), (oa (a 10) cI 201 it), (oa (a 8) cI 201 pa), (oa (a 9) cI 201 pb), (oa (a 2) cI 201 rk), (oa (a 3) cI 201 wd), (oa (a 4) cI 201 tw), (oa (a 6) cZ 201 tn), (oa (a 11) cI 201 mn), (oa (a 12) cI 8040 cx), (oa (a 13) cI 8040 cy), (oa (a 27) cI 516 (upd sa (i + 1) (nI (psN (nnF st tn mn) w0 ft)))), (oa b1 cI (4096 * cE) sh1)] t.heap) (cE - cp) (8192 * (cE - cp)) := by
  refine zIn (own := "ScaleShopModel") (loc := [(0, .ref k0), (1, .int (nI i))]) rfl rfl rfl rfl (fun p e s m below meth c hx hb hr hts hown hlocks hml hnm9 A hA hS hP hD hK hXN Q9 hQ9 ls hl => ?_)
  refine lv_aload_n hx hb dX11_keep_0 rfl (lv_at hl 0 rfl) ?_
  refine lv_aload_n hx hb dX11_keep_1 rfl (lv_at hl 0 rfl) ?_
  refine va_get (D := (dC, dI)) (ci := 9) (v := .ref (a 27)) (C := RX11) (T := TX11) (N := 55) hx hb hts inX11 hown hK hP 0 rfl rfl 27 (Nat.le_of_ble_eq_true rfl) (hts _ mw_1186) (fun _ h9 => h9) rfl dX11_keep_2 ?_
  refine lv_iload_n hx hb dX11_keep_5 rfl (lv_at hl 1 rfl) ?_
  have b9_1 : i < 516 := by omega
  refine z_iald hx hb hK hP 14 0 rfl rfl (e := i) rfl b9_1 (Nat.le_of_ble_eq_true rfl) dX11_keep_6 ?_
  refine zz_i (v := nI w0) (hsa) ?_
  refine va_put (D := (dC, dI)) (ci := 9) (v := .int (nI w0)) (ty := .int) (C := RX11) (T := TX11) (N := 55) hx hb hts inX11 tyX11 tyX11_ok nmX11 hown hK hP hD hS 0 rfl rfl 41 (by decide) (hts _ mw_1200) (fun _ h9 => h9) rfl (by decide +kernel) rfl rfl (Nat.le_of_ble_eq_true rfl) dX11_keep_7 (fun H locs hP hD hS => ?_)
  obtain ⟨hP, hD⟩ := zre (W2 := [(om k0 a (upd I0 41 (nI w0)) J0), _, _, _, _, _, _, _, _, _, _, _, _, _, _, _]) hP hD rfl
  refine lv_aload_n hx hb dX11_keep_10 rfl (lv_at hl 0 rfl) ?_
  refine lv_aload_n hx hb dX11_keep_11 rfl (lv_at hl 0 rfl) ?_
  refine va_get (D := (dC, dI)) (ci := 9) (v := .int (I0 0)) (C := RX11) (T := TX11) (N := 55) hx hb hts inX11 hown hK hP 0 rfl rfl 0 (Nat.le_of_ble_eq_true rfl) (hts _ mw_1159) (fun _ h9 => h9) rfl dX11_keep_12 ?_
  refine zz_i (v := nI ft) (hft) ?_
  have hmo0 := psN_ge (nnF st tn mn) w0 ft
  have hd0 := dc_pw hpw (w := w0) (by omega)
  obtain ⟨hPc, hDc, hFc⟩ := zo_sub (wc := [_, _]) hP hD hS hA [0, 15] rfl rfl
  refine zcall (st1 := []) (va_runV (As := [.int (nI ft)]) (rest := []) ⟨hx, hb, hml, hown, hts⟩ (k_M_write l dC dI cI cZ cF H.size k0 a (upd I0 41 (nI w0)) J0 w0 cp (nI ft) sh (rfl) (by first | with_reducible assumption | omega) (by first | with_reducible assumption | omega) (by first | with_reducible assumption | omega)) (csV_193 hts rfl rfl ⟨Nat.le_of_ble_eq_true rfl, Nat.le_of_ble_eq_true rfl⟩) (zPV2 (q0 := 0) (ci := 9) hPc hDc hK hXN rfl rfl) rfl rfl hl.1 rfl (lv_room (Nat.le_of_ble_eq_true rfl)) dX11_keep_15 ⟨show (0 + (dc cp w0 - cp)) ≤ cE - cp by omega, show (0 + (8192 * (dc cp w0 - cp))) ≤ 8192 * (cE - cp) by omega⟩) hS hFc hFc rfl (fun t H locs ht hB hk1 hS => ?_)
  obtain ⟨b0, c0, sh0, hcc0, hwv0, hwk0, hwo0, hP1, hD1⟩ := hB
  rw [ht] at hP1
  obtain ⟨hP, hD⟩ := zn (W2 := [_, _, _, _, _, _, _, _, _, _, _, _, _, _, (om k0 (va_up a 28 b0) (upd I0 41 (nI (w0 + 1))) J0), (oa b0 cI (4096 * c0) sh0)]) hP hD hk1 hFc hP1 hD1 [0, 15] zl_163 zl_164 [14, 15] (by decide +kernel) rfl rfl rfl rfl rfl
  clear hk1 hPc hDc hFc hP1 hD1 ht
  have hV0 := KI_0 (D := (shD kd st gb it pa pb rk wd tw (nnF st tn mn) cx cy)) (nn := nnF st tn mn) hc1 hpw hw0 (by omega) hwv0 hwk0 hwo0 hcc0
  have hU0 := hV0.1
  refine lv_iconst (v := 0) hx hb dX11_keep_18 rfl ?_
  refine lv_istore_n (lv' := [(2, .int 0), (0, .ref k0), (1, .int (nI i))]) hx hb dX11_keep_19 rfl hl (Nat.le_of_ble_eq_true rfl) rfl (fun ls hl => ?_)
  have hl_20 : ∀ (n9 : Nat) (q : Nat) (b1 : Nat) (c1 : Nat) (w : Nat) (sh1 : Nat → Int32) (H : Heap) (locs : List Loc) (ls : Array Slot), ft - q < n9 → (q ≤ ft) → (KI cp cE w0 (nI ft) (nnF st tn mn) (shD kd st gb it pa pb rk wd tw (nnF st tn mn) cx cy) sh q 0 sh1 c1 w) → va_P (dC, dI) classes [(oa (a 1) cI 201 kd), (oa (a 5) cI 201 st), (oa (a 7) cI 201 gb), (oa (a 10) cI 201 it), (oa (a 8) cI 201 pa), (oa (a 9) cI 201 pb), (oa (a 2) cI 201 rk), (oa (a 3) cI 201 wd), (oa (a 4) cI 201 tw), (oa (a 6) cZ 201 tn), (oa (a 11) cI 201 mn), (oa (a 12) cI 8040 cx), (oa (a 13) cI 8040 cy), (oa (a 27) cI 516 sa), (om k0 (va_up a 28 b1) (upd I0 41 (nI w)) J0), (oa b1 cI (4096 * c1) sh1)] H → va_D A [(oa (a 1) cI 201 kd), (oa (a 5) cI 201 st), (oa (a 7) cI 201 gb), (oa (a 10) cI 201 it), (oa (a 8) cI 201 pa), (oa (a 9) cI 201 pb), (oa (a 2) cI 201 rk), (oa (a 3) cI 201 wd), (oa (a 4) cI 201 tw), (oa (a 6) cZ 201 tn), (oa (a 11) cI 201 mn), (oa (a 12) cI 8040 cx), (oa (a 13) cI 8040 cy), (oa (a 27) cI 516 sa), (om k0 (va_up a 28 b1) (upd I0 41 (nI w)) J0), (oa b1 cI (4096 * c1) sh1)] → va_S A s.heap H locs → lv_has ls 5 [(2, .int (nI q)), (0, .ref k0), (1, .int (nI i))] → W p l e ({ frames := 1, cells := cE - cp, slots := 8192 * (cE - cp), locals := 23 } : Room) s m ([.ref k0, .int (nI i)] : List Value).toArray below meth c H locs (c1 - cp) (8192 * (c1 - cp)) Q9 (F0 m 20 ls []) := by
    intro n9
    induction n9 with
    | zero => intro q b1 c1 w sh1 H locs ls hm; exact absurd hm (Nat.not_lt_zero _)
    | succ n9 ih_20 =>
      intro q b1 c1 w sh1 H locs ls hm hq hV hP hD hS hl
      have hU := hV.1
      refine lv_iload_n hx hb dX11_keep_20 rfl (lv_at hl 0 rfl) ?_
      refine lv_aload_n hx hb dX11_keep_21 rfl (lv_at hl 1 rfl) ?_
      refine va_get (D := (dC, dI)) (ci := 9) (v := .int (I0 0)) (C := RX11) (T := TX11) (N := 55) hx hb hts inX11 hown hK hP 14 rfl rfl 0 (Nat.le_of_ble_eq_true rfl) (hts _ mw_1159) (fun _ h9 => h9) rfl dX11_keep_22 ?_
      refine zz_i (v := nI ft) (hft) ?_
      have b9_3 : zlt (q) := show q < 2147483648 by omega
      have b9_4 : zlt (ft) := show ft < 2147483648 by omega
      refine lv_icmp_ge (tgt := 205) hx hb dX11_keep_25 rfl (fun c_2 => ?_) (fun c_2 => ?_)
      · have c_2 : ((ft : Nat) : Int) ≤ ((q : Nat) : Int) := zc_le (nI_toInt b9_4) (nI_toInt b9_3) c_2
        refine lv_aload_n hx hb dX11_keep_205 rfl (lv_at hl 1 rfl) ?_
        refine va_get (D := (dC, dI)) (ci := 9) (v := .ref (a 27)) (C := RX11) (T := TX11) (N := 55) hx hb hts inX11 hown hK hP 14 rfl rfl 27 (Nat.le_of_ble_eq_true rfl) (hts _ mw_1186) (fun _ h9 => h9) rfl dX11_keep_206 ?_
        refine lv_iload_n hx hb dX11_keep_209 rfl (lv_at hl 2 rfl) ?_
        refine lv_iconst (v := 1) hx hb dX11_keep_210 rfl ?_
        refine lv_iadd hx hb dX11_keep_211 ?_
        refine zz_i (v := nI (i + 1)) (nI_add i 1) ?_
        refine lv_aload_n hx hb dX11_keep_212 rfl (lv_at hl 1 rfl) ?_
        refine va_get (D := (dC, dI)) (ci := 9) (v := .int (nI w)) (C := RX11) (T := TX11) (N := 55) hx hb hts inX11 hown hK hP 14 rfl rfl 41 (Nat.le_of_ble_eq_true rfl) (hts _ mw_1200) (fun _ h9 => h9) rfl dX11_keep_213 ?_
        have b9_5 : i + 1 < 516 := by omega
        refine z_iast hx hb hK hP hD hS 13 0 rfl rfl (e := i + 1) (x := nI w) rfl b9_5 (Nat.le_of_ble_eq_true rfl) dX11_keep_216 (fun H locs hP hD hS => ?_)
        obtain ⟨hP, hD⟩ := zre (W2 := [_, _, _, _, _, _, _, _, _, _, _, _, _, (oa (a 27) cI 516 (upd sa (i + 1) (nI w))), _, _]) hP hD rfl
        have hqe : q = ft := (by omega)
        rw [hqe] at hV
        have hU9 := hV.1
        have hce : c1 = cE := (by rcases hmin with h | h; omega; exact pw_end (e := psN (nnF st tn mn) w0 ft) hV.1.1 (by omega) (by omega))
        have hwe : w = psN (nnF st tn mn) w0 ft := hV.1.2.2.2.2
        obtain ⟨hP9, hD9⟩ := zq_sub (wc := [(om k0 (va_up a 28 b1) (upd I0 41 (nI w)) J0), (oa (a 1) cI 201 kd), (oa (a 5) cI 201 st), (oa (a 7) cI 201 gb), (oa (a 10) cI 201 it), (oa (a 8) cI 201 pa), (oa (a 9) cI 201 pb), (oa (a 2) cI 201 rk), (oa (a 3) cI 201 wd), (oa (a 4) cI 201 tw), (oa (a 6) cZ 201 tn), (oa (a 11) cI 201 mn), (oa (a 12) cI 8040 cx), (oa (a 13) cI 8040 cy), (oa (a 27) cI 516 (upd sa (i + 1) (nI w))), (oa b1 cI (4096 * c1) sh1)]) hP hD [14, 0, 1, 2, 3, 4, 5, 6, 7, 8, 9, 10, 11, 12, 13, 15] rfl rfl
        have hE9 : ([(om k0 (va_up a 28 b1) (upd I0 41 (nI w)) J0), (oa (a 1) cI 201 kd), (oa (a 5) cI 201 st), (oa (a 7) cI 201 gb), (oa (a 10) cI 201 it), (oa (a 8) cI 201 pa), (oa (a 9) cI 201 pb), (oa (a 2) cI 201 rk), (oa (a 3) cI 201 wd), (oa (a 4) cI 201 tw), (oa (a 6) cZ 201 tn), (oa (a 11) cI 201 mn), (oa (a 12) cI 8040 cx), (oa (a 13) cI 8040 cy), (oa (a 27) cI 516 (upd sa (i + 1) (nI w))), (oa b1 cI (4096 * c1) sh1)] : va_W) = [(om k0 (va_up a 28 b1) (upd I0 41 (nI (psN (nnF st tn mn) w0 ft))) J0), (oa (a 1) cI 201 kd), (oa (a 5) cI 201 st), (oa (a 7) cI 201 gb), (oa (a 10) cI 201 it), (oa (a 8) cI 201 pa), (oa (a 9) cI 201 pb), (oa (a 2) cI 201 rk), (oa (a 3) cI 201 wd), (oa (a 4) cI 201 tw), (oa (a 6) cZ 201 tn), (oa (a 11) cI 201 mn), (oa (a 12) cI 8040 cx), (oa (a 13) cI 8040 cy), (oa (a 27) cI 516 (upd sa (i + 1) (nI (psN (nnF st tn mn) w0 ft)))), (oa b1 cI (4096 * cE) sh1)] := by rw [hwe, hce]
        rw [hE9] at hP9 hD9
        refine W.widen (k := cE - cp) (n := 8192 * (cE - cp)) (by omega) (by omega) ?_
        rw [hQ9]
        exact W.vret hx hb hr (fun t ht hW => ⟨⟨rfl, b1, sh1, (hV.2.1), (hV.2.2.1), (hV.2.2.2.1), (fun j hj hc => hV.2.2.2.2.2 j (by omega) hc), by rw [ht]; exact hP9, hD9⟩, hS.F ht⟩) hS.2.2 dX11_keep_217
      · have c_2 : ((q : Nat) : Int) < ((ft : Nat) : Int) := zc_nle (nI_toInt b9_4) (nI_toInt b9_3) c_2
        have hmo := psN_mono (nnF st tn mn) w0 (f := q) (g := ft) (by omega)
        refine lv_aload_n hx hb dX11_keep_28 rfl (lv_at hl 1 rfl) ?_
        refine lv_aload_n hx hb dX11_keep_29 rfl (lv_at hl 1 rfl) ?_
        refine va_get (D := (dC, dI)) (ci := 9) (v := .ref (a 1)) (C := RX11) (T := TX11) (N := 55) hx hb hts inX11 hown hK hP 14 rfl rfl 1 (Nat.le_of_ble_eq_true rfl) (hts _ mw_1160) (fun _ h9 => h9) rfl dX11_keep_30 ?_
        refine lv_iload_n hx hb dX11_keep_33 rfl (lv_at hl 0 rfl) ?_
        have b9_6 : q < 201 := by omega
        refine z_iald hx hb hK hP 0 0 rfl rfl (e := q) rfl b9_6 (Nat.le_of_ble_eq_true rfl) dX11_keep_34 ?_
        have hd_0 := dc_pw hV.1.1 (w := w) (by omega)
        obtain ⟨hPc, hDc, hFc⟩ := zo_sub (wc := [_, _]) hP hD hS hA [14, 15] rfl rfl
        refine zcall (st1 := []) (va_runV (As := [.int (kd q)]) (rest := []) ⟨hx, hb, hml, hown, hts⟩ (k_M_write l dC dI cI cZ cF H.size k0 (va_up a 28 b1) (upd I0 41 (nI w)) J0 w c1 (kd q) sh1 (rfl) (by first | with_reducible assumption | omega) (by first | with_reducible assumption | omega) (by first | with_reducible assumption | omega)) (csV_193 hts rfl rfl ⟨Nat.le_of_ble_eq_true rfl, Nat.le_of_ble_eq_true rfl⟩) (zPV2 (q0 := 0) (ci := 9) hPc hDc hK hXN rfl rfl) rfl rfl hl.1 rfl (lv_room (Nat.le_of_ble_eq_true rfl)) dX11_keep_35 ⟨show (c1 - cp + (dc c1 w - c1)) ≤ cE - cp by omega, show (8192 * (c1 - cp) + (8192 * (dc c1 w - c1))) ≤ 8192 * (cE - cp) by omega⟩) hS hFc hFc rfl (fun t H locs ht hB hk1 hS => ?_)
        obtain ⟨bb0, cc0, sv0, hcc_0, hwv_0, hwk_0, hwo_0, hP1, hD1⟩ := hB
        rw [ht] at hP1
        obtain ⟨hP, hD⟩ := zn (W2 := [_, _, _, _, _, _, _, _, _, _, _, _, _, _, (om k0 (va_up a 28 bb0) (upd I0 41 (nI (w + 1))) J0), (oa bb0 cI (4096 * cc0) sv0)]) hP hD hk1 hFc hP1 hD1 [14, 15] zl_165 zl_164 [14, 15] (by decide +kernel) rfl rfl rfl rfl rfl
        clear hk1 hPc hDc hFc hP1 hD1 ht
        have hV_0 := KI_s hc1 hV (by omega) hwv_0 hwk_0 hwo_0 hcc_0
        have hU_0 := hV_0.1
        refine lv_aload_n hx hb dX11_keep_38 rfl (lv_at hl 1 rfl) ?_
        refine lv_aload_n hx hb dX11_keep_39 rfl (lv_at hl 1 rfl) ?_
        refine va_get (D := (dC, dI)) (ci := 9) (v := .ref (a 5)) (C := RX11) (T := TX11) (N := 55) hx hb hts inX11 hown hK hP 14 rfl rfl 5 (Nat.le_of_ble_eq_true rfl) (hts _ mw_1164) (fun _ h9 => h9) rfl dX11_keep_40 ?_
        refine lv_iload_n hx hb dX11_keep_43 rfl (lv_at hl 0 rfl) ?_
        refine z_iald hx hb hK hP 1 0 rfl rfl (e := q) rfl b9_6 (Nat.le_of_ble_eq_true rfl) dX11_keep_44 ?_
        have hd_1 := dc_pw hV_0.1.1 (w := w + 1) (by omega)
        obtain ⟨hPc, hDc, hFc⟩ := zo_sub (wc := [_, _]) hP hD hS hA [14, 15] rfl rfl
        refine zcall (st1 := []) (va_runV (As := [.int (st q)]) (rest := []) ⟨hx, hb, hml, hown, hts⟩ (k_M_write l dC dI cI cZ cF H.size k0 (va_up a 28 bb0) (upd I0 41 (nI (w + 1))) J0 (w + 1) cc0 (st q) sv0 (rfl) (by first | with_reducible assumption | omega) (by first | with_reducible assumption | omega) (by first | with_reducible assumption | omega)) (csV_193 hts rfl rfl ⟨Nat.le_of_ble_eq_true rfl, Nat.le_of_ble_eq_true rfl⟩) (zPV2 (q0 := 0) (ci := 9) hPc hDc hK hXN rfl rfl) rfl rfl hl.1 rfl (lv_room (Nat.le_of_ble_eq_true rfl)) dX11_keep_45 ⟨show ((c1 - cp + (dc c1 w - c1)) + (dc cc0 (w + 1) - cc0)) ≤ cE - cp by omega, show ((8192 * (c1 - cp) + (8192 * (dc c1 w - c1))) + (8192 * (dc cc0 (w + 1) - cc0))) ≤ 8192 * (cE - cp) by omega⟩) hS hFc hFc rfl (fun t H locs ht hB hk1 hS => ?_)
        obtain ⟨bb1, cc1, sv1, hcc_1, hwv_1, hwk_1, hwo_1, hP1, hD1⟩ := hB
        rw [ht] at hP1
        obtain ⟨hP, hD⟩ := zn (W2 := [_, _, _, _, _, _, _, _, _, _, _, _, _, _, (om k0 (va_up a 28 bb1) (upd I0 41 (nI ((w + 1) + 1))) J0), (oa bb1 cI (4096 * cc1) sv1)]) hP hD hk1 hFc hP1 hD1 [14, 15] zl_165 zl_164 [14, 15] (by decide +kernel) rfl rfl rfl rfl rfl
        clear hk1 hPc hDc hFc hP1 hD1 ht
        have hV_1 := KI_s hc1 hV_0 (by omega) hwv_1 hwk_1 hwo_1 hcc_1
        have hU_1 := hV_1.1
        refine lv_aload_n hx hb dX11_keep_48 rfl (lv_at hl 1 rfl) ?_
        refine lv_aload_n hx hb dX11_keep_49 rfl (lv_at hl 1 rfl) ?_
        refine va_get (D := (dC, dI)) (ci := 9) (v := .ref (a 7)) (C := RX11) (T := TX11) (N := 55) hx hb hts inX11 hown hK hP 14 rfl rfl 7 (Nat.le_of_ble_eq_true rfl) (hts _ mw_1166) (fun _ h9 => h9) rfl dX11_keep_50 ?_
        refine lv_iload_n hx hb dX11_keep_53 rfl (lv_at hl 0 rfl) ?_
        refine z_iald hx hb hK hP 2 0 rfl rfl (e := q) rfl b9_6 (Nat.le_of_ble_eq_true rfl) dX11_keep_54 ?_
        have hd_2 := dc_pw hV_1.1.1 (w := w + 1 + 1) (by omega)
        obtain ⟨hPc, hDc, hFc⟩ := zo_sub (wc := [_, _]) hP hD hS hA [14, 15] rfl rfl
        refine zcall (st1 := []) (va_runV (As := [.int (gb q)]) (rest := []) ⟨hx, hb, hml, hown, hts⟩ (k_M_write l dC dI cI cZ cF H.size k0 (va_up a 28 bb1) (upd I0 41 (nI ((w + 1) + 1))) J0 ((w + 1) + 1) cc1 (gb q) sv1 (rfl) (by first | with_reducible assumption | omega) (by first | with_reducible assumption | omega) (by first | with_reducible assumption | omega)) (csV_193 hts rfl rfl ⟨Nat.le_of_ble_eq_true rfl, Nat.le_of_ble_eq_true rfl⟩) (zPV2 (q0 := 0) (ci := 9) hPc hDc hK hXN rfl rfl) rfl rfl hl.1 rfl (lv_room (Nat.le_of_ble_eq_true rfl)) dX11_keep_55 ⟨show (((c1 - cp + (dc c1 w - c1)) + (dc cc0 (w + 1) - cc0)) + (dc cc1 ((w + 1) + 1) - cc1)) ≤ cE - cp by omega, show (((8192 * (c1 - cp) + (8192 * (dc c1 w - c1))) + (8192 * (dc cc0 (w + 1) - cc0))) + (8192 * (dc cc1 ((w + 1) + 1) - cc1))) ≤ 8192 * (cE - cp) by omega⟩) hS hFc hFc rfl (fun t H locs ht hB hk1 hS => ?_)
        obtain ⟨bb2, cc2, sv2, hcc_2, hwv_2, hwk_2, hwo_2, hP1, hD1⟩ := hB
        rw [ht] at hP1
        obtain ⟨hP, hD⟩ := zn (W2 := [_, _, _, _, _, _, _, _, _, _, _, _, _, _, (om k0 (va_up a 28 bb2) (upd I0 41 (nI (((w + 1) + 1) + 1))) J0), (oa bb2 cI (4096 * cc2) sv2)]) hP hD hk1 hFc hP1 hD1 [14, 15] zl_165 zl_164 [14, 15] (by decide +kernel) rfl rfl rfl rfl rfl
        clear hk1 hPc hDc hFc hP1 hD1 ht
        have hV_2 := KI_s hc1 hV_1 (by omega) hwv_2 hwk_2 hwo_2 hcc_2
        have hU_2 := hV_2.1
        refine lv_aload_n hx hb dX11_keep_58 rfl (lv_at hl 1 rfl) ?_
        refine lv_aload_n hx hb dX11_keep_59 rfl (lv_at hl 1 rfl) ?_
        refine va_get (D := (dC, dI)) (ci := 9) (v := .ref (a 10)) (C := RX11) (T := TX11) (N := 55) hx hb hts inX11 hown hK hP 14 rfl rfl 10 (Nat.le_of_ble_eq_true rfl) (hts _ mw_1169) (fun _ h9 => h9) rfl dX11_keep_60 ?_
        refine lv_iload_n hx hb dX11_keep_63 rfl (lv_at hl 0 rfl) ?_
        refine z_iald hx hb hK hP 3 0 rfl rfl (e := q) rfl b9_6 (Nat.le_of_ble_eq_true rfl) dX11_keep_64 ?_
        have hd_3 := dc_pw hV_2.1.1 (w := w + 1 + 1 + 1) (by omega)
        obtain ⟨hPc, hDc, hFc⟩ := zo_sub (wc := [_, _]) hP hD hS hA [14, 15] rfl rfl
        refine zcall (st1 := []) (va_runV (As := [.int (it q)]) (rest := []) ⟨hx, hb, hml, hown, hts⟩ (k_M_write l dC dI cI cZ cF H.size k0 (va_up a 28 bb2) (upd I0 41 (nI (((w + 1) + 1) + 1))) J0 (((w + 1) + 1) + 1) cc2 (it q) sv2 (rfl) (by first | with_reducible assumption | omega) (by first | with_reducible assumption | omega) (by first | with_reducible assumption | omega)) (csV_193 hts rfl rfl ⟨Nat.le_of_ble_eq_true rfl, Nat.le_of_ble_eq_true rfl⟩) (zPV2 (q0 := 0) (ci := 9) hPc hDc hK hXN rfl rfl) rfl rfl hl.1 rfl (lv_room (Nat.le_of_ble_eq_true rfl)) dX11_keep_65 ⟨show ((((c1 - cp + (dc c1 w - c1)) + (dc cc0 (w + 1) - cc0)) + (dc cc1 ((w + 1) + 1) - cc1)) + (dc cc2 (((w + 1) + 1) + 1) - cc2)) ≤ cE - cp by omega, show ((((8192 * (c1 - cp) + (8192 * (dc c1 w - c1))) + (8192 * (dc cc0 (w + 1) - cc0))) + (8192 * (dc cc1 ((w + 1) + 1) - cc1))) + (8192 * (dc cc2 (((w + 1) + 1) + 1) - cc2))) ≤ 8192 * (cE - cp) by omega⟩) hS hFc hFc rfl (fun t H locs ht hB hk1 hS => ?_)
        obtain ⟨bb3, cc3, sv3, hcc_3, hwv_3, hwk_3, hwo_3, hP1, hD1⟩ := hB
        rw [ht] at hP1
        obtain ⟨hP, hD⟩ := zn (W2 := [_, _, _, _, _, _, _, _, _, _, _, _, _, _, (om k0 (va_up a 28 bb3) (upd I0 41 (nI ((((w + 1) + 1) + 1) + 1))) J0), (oa bb3 cI (4096 * cc3) sv3)]) hP hD hk1 hFc hP1 hD1 [14, 15] zl_165 zl_164 [14, 15] (by decide +kernel) rfl rfl rfl rfl rfl
        clear hk1 hPc hDc hFc hP1 hD1 ht
        have hV_3 := KI_s hc1 hV_2 (by omega) hwv_3 hwk_3 hwo_3 hcc_3
        have hU_3 := hV_3.1
        refine lv_aload_n hx hb dX11_keep_68 rfl (lv_at hl 1 rfl) ?_
        refine lv_aload_n hx hb dX11_keep_69 rfl (lv_at hl 1 rfl) ?_
        refine va_get (D := (dC, dI)) (ci := 9) (v := .ref (a 8)) (C := RX11) (T := TX11) (N := 55) hx hb hts inX11 hown hK hP 14 rfl rfl 8 (Nat.le_of_ble_eq_true rfl) (hts _ mw_1167) (fun _ h9 => h9) rfl dX11_keep_70 ?_
        refine lv_iload_n hx hb dX11_keep_73 rfl (lv_at hl 0 rfl) ?_
        refine z_iald hx hb hK hP 4 0 rfl rfl (e := q) rfl b9_6 (Nat.le_of_ble_eq_true rfl) dX11_keep_74 ?_
        have hd_4 := dc_pw hV_3.1.1 (w := w + 1 + 1 + 1 + 1) (by omega)
        obtain ⟨hPc, hDc, hFc⟩ := zo_sub (wc := [_, _]) hP hD hS hA [14, 15] rfl rfl
        refine zcall (st1 := []) (va_runV (As := [.int (pa q)]) (rest := []) ⟨hx, hb, hml, hown, hts⟩ (k_M_write l dC dI cI cZ cF H.size k0 (va_up a 28 bb3) (upd I0 41 (nI ((((w + 1) + 1) + 1) + 1))) J0 ((((w + 1) + 1) + 1) + 1) cc3 (pa q) sv3 (rfl) (by first | with_reducible assumption | omega) (by first | with_reducible assumption | omega) (by first | with_reducible assumption | omega)) (csV_193 hts rfl rfl ⟨Nat.le_of_ble_eq_true rfl, Nat.le_of_ble_eq_true rfl⟩) (zPV2 (q0 := 0) (ci := 9) hPc hDc hK hXN rfl rfl) rfl rfl hl.1 rfl (lv_room (Nat.le_of_ble_eq_true rfl)) dX11_keep_75 ⟨show (((((c1 - cp + (dc c1 w - c1)) + (dc cc0 (w + 1) - cc0)) + (dc cc1 ((w + 1) + 1) - cc1)) + (dc cc2 (((w + 1) + 1) + 1) - cc2)) + (dc cc3 ((((w + 1) + 1) + 1) + 1) - cc3)) ≤ cE - cp by omega, show (((((8192 * (c1 - cp) + (8192 * (dc c1 w - c1))) + (8192 * (dc cc0 (w + 1) - cc0))) + (8192 * (dc cc1 ((w + 1) + 1) - cc1))) + (8192 * (dc cc2 (((w + 1) + 1) + 1) - cc2))) + (8192 * (dc cc3 ((((w + 1) + 1) + 1) + 1) - cc3))) ≤ 8192 * (cE - cp) by omega⟩) hS hFc hFc rfl (fun t H locs ht hB hk1 hS => ?_)
        obtain ⟨bb4, cc4, sv4, hcc_4, hwv_4, hwk_4, hwo_4, hP1, hD1⟩ := hB
        rw [ht] at hP1
        obtain ⟨hP, hD⟩ := zn (W2 := [_, _, _, _, _, _, _, _, _, _, _, _, _, _, (om k0 (va_up a 28 bb4) (upd I0 41 (nI (((((w + 1) + 1) + 1) + 1) + 1))) J0), (oa bb4 cI (4096 * cc4) sv4)]) hP hD hk1 hFc hP1 hD1 [14, 15] zl_165 zl_164 [14, 15] (by decide +kernel) rfl rfl rfl rfl rfl
        clear hk1 hPc hDc hFc hP1 hD1 ht
        have hV_4 := KI_s hc1 hV_3 (by omega) hwv_4 hwk_4 hwo_4 hcc_4
        have hU_4 := hV_4.1
        refine lv_aload_n hx hb dX11_keep_78 rfl (lv_at hl 1 rfl) ?_
        refine lv_aload_n hx hb dX11_keep_79 rfl (lv_at hl 1 rfl) ?_
        refine va_get (D := (dC, dI)) (ci := 9) (v := .ref (a 9)) (C := RX11) (T := TX11) (N := 55) hx hb hts inX11 hown hK hP 14 rfl rfl 9 (Nat.le_of_ble_eq_true rfl) (hts _ mw_1168) (fun _ h9 => h9) rfl dX11_keep_80 ?_
        refine lv_iload_n hx hb dX11_keep_83 rfl (lv_at hl 0 rfl) ?_
        refine z_iald hx hb hK hP 5 0 rfl rfl (e := q) rfl b9_6 (Nat.le_of_ble_eq_true rfl) dX11_keep_84 ?_
        have hd_5 := dc_pw hV_4.1.1 (w := w + 1 + 1 + 1 + 1 + 1) (by omega)
        obtain ⟨hPc, hDc, hFc⟩ := zo_sub (wc := [_, _]) hP hD hS hA [14, 15] rfl rfl
        refine zcall (st1 := []) (va_runV (As := [.int (pb q)]) (rest := []) ⟨hx, hb, hml, hown, hts⟩ (k_M_write l dC dI cI cZ cF H.size k0 (va_up a 28 bb4) (upd I0 41 (nI (((((w + 1) + 1) + 1) + 1) + 1))) J0 (((((w + 1) + 1) + 1) + 1) + 1) cc4 (pb q) sv4 (rfl) (by first | with_reducible assumption | omega) (by first | with_reducible assumption | omega) (by first | with_reducible assumption | omega)) (csV_193 hts rfl rfl ⟨Nat.le_of_ble_eq_true rfl, Nat.le_of_ble_eq_true rfl⟩) (zPV2 (q0 := 0) (ci := 9) hPc hDc hK hXN rfl rfl) rfl rfl hl.1 rfl (lv_room (Nat.le_of_ble_eq_true rfl)) dX11_keep_85 ⟨show ((((((c1 - cp + (dc c1 w - c1)) + (dc cc0 (w + 1) - cc0)) + (dc cc1 ((w + 1) + 1) - cc1)) + (dc cc2 (((w + 1) + 1) + 1) - cc2)) + (dc cc3 ((((w + 1) + 1) + 1) + 1) - cc3)) + (dc cc4 (((((w + 1) + 1) + 1) + 1) + 1) - cc4)) ≤ cE - cp by omega, show ((((((8192 * (c1 - cp) + (8192 * (dc c1 w - c1))) + (8192 * (dc cc0 (w + 1) - cc0))) + (8192 * (dc cc1 ((w + 1) + 1) - cc1))) + (8192 * (dc cc2 (((w + 1) + 1) + 1) - cc2))) + (8192 * (dc cc3 ((((w + 1) + 1) + 1) + 1) - cc3))) + (8192 * (dc cc4 (((((w + 1) + 1) + 1) + 1) + 1) - cc4))) ≤ 8192 * (cE - cp) by omega⟩) hS hFc hFc rfl (fun t H locs ht hB hk1 hS => ?_)
        obtain ⟨bb5, cc5, sv5, hcc_5, hwv_5, hwk_5, hwo_5, hP1, hD1⟩ := hB
        rw [ht] at hP1
        obtain ⟨hP, hD⟩ := zn (W2 := [_, _, _, _, _, _, _, _, _, _, _, _, _, _, (om k0 (va_up a 28 bb5) (upd I0 41 (nI ((((((w + 1) + 1) + 1) + 1) + 1) + 1))) J0), (oa bb5 cI (4096 * cc5) sv5)]) hP hD hk1 hFc hP1 hD1 [14, 15] zl_165 zl_164 [14, 15] (by decide +kernel) rfl rfl rfl rfl rfl
        clear hk1 hPc hDc hFc hP1 hD1 ht
        have hV_5 := KI_s hc1 hV_4 (by omega) hwv_5 hwk_5 hwo_5 hcc_5
        have hU_5 := hV_5.1
        refine lv_aload_n hx hb dX11_keep_88 rfl (lv_at hl 1 rfl) ?_
        refine lv_aload_n hx hb dX11_keep_89 rfl (lv_at hl 1 rfl) ?_
        refine va_get (D := (dC, dI)) (ci := 9) (v := .ref (a 2)) (C := RX11) (T := TX11) (N := 55) hx hb hts inX11 hown hK hP 14 rfl rfl 2 (Nat.le_of_ble_eq_true rfl) (hts _ mw_1161) (fun _ h9 => h9) rfl dX11_keep_90 ?_
        refine lv_iload_n hx hb dX11_keep_93 rfl (lv_at hl 0 rfl) ?_
        refine z_iald hx hb hK hP 6 0 rfl rfl (e := q) rfl b9_6 (Nat.le_of_ble_eq_true rfl) dX11_keep_94 ?_
        have hd_6 := dc_pw hV_5.1.1 (w := w + 1 + 1 + 1 + 1 + 1 + 1) (by omega)
        obtain ⟨hPc, hDc, hFc⟩ := zo_sub (wc := [_, _]) hP hD hS hA [14, 15] rfl rfl
        refine zcall (st1 := []) (va_runV (As := [.int (rk q)]) (rest := []) ⟨hx, hb, hml, hown, hts⟩ (k_M_write l dC dI cI cZ cF H.size k0 (va_up a 28 bb5) (upd I0 41 (nI ((((((w + 1) + 1) + 1) + 1) + 1) + 1))) J0 ((((((w + 1) + 1) + 1) + 1) + 1) + 1) cc5 (rk q) sv5 (rfl) (by first | with_reducible assumption | omega) (by first | with_reducible assumption | omega) (by first | with_reducible assumption | omega)) (csV_193 hts rfl rfl ⟨Nat.le_of_ble_eq_true rfl, Nat.le_of_ble_eq_true rfl⟩) (zPV2 (q0 := 0) (ci := 9) hPc hDc hK hXN rfl rfl) rfl rfl hl.1 rfl (lv_room (Nat.le_of_ble_eq_true rfl)) dX11_keep_95 ⟨show (((((((c1 - cp + (dc c1 w - c1)) + (dc cc0 (w + 1) - cc0)) + (dc cc1 ((w + 1) + 1) - cc1)) + (dc cc2 (((w + 1) + 1) + 1) - cc2)) + (dc cc3 ((((w + 1) + 1) + 1) + 1) - cc3)) + (dc cc4 (((((w + 1) + 1) + 1) + 1) + 1) - cc4)) + (dc cc5 ((((((w + 1) + 1) + 1) + 1) + 1) + 1) - cc5)) ≤ cE - cp by omega, show (((((((8192 * (c1 - cp) + (8192 * (dc c1 w - c1))) + (8192 * (dc cc0 (w + 1) - cc0))) + (8192 * (dc cc1 ((w + 1) + 1) - cc1))) + (8192 * (dc cc2 (((w + 1) + 1) + 1) - cc2))) + (8192 * (dc cc3 ((((w + 1) + 1) + 1) + 1) - cc3))) + (8192 * (dc cc4 (((((w + 1) + 1) + 1) + 1) + 1) - cc4))) + (8192 * (dc cc5 ((((((w + 1) + 1) + 1) + 1) + 1) + 1) - cc5))) ≤ 8192 * (cE - cp) by omega⟩) hS hFc hFc rfl (fun t H locs ht hB hk1 hS => ?_)
        obtain ⟨bb6, cc6, sv6, hcc_6, hwv_6, hwk_6, hwo_6, hP1, hD1⟩ := hB
        rw [ht] at hP1
        obtain ⟨hP, hD⟩ := zn (W2 := [_, _, _, _, _, _, _, _, _, _, _, _, _, _, (om k0 (va_up a 28 bb6) (upd I0 41 (nI (((((((w + 1) + 1) + 1) + 1) + 1) + 1) + 1))) J0), (oa bb6 cI (4096 * cc6) sv6)]) hP hD hk1 hFc hP1 hD1 [14, 15] zl_165 zl_164 [14, 15] (by decide +kernel) rfl rfl rfl rfl rfl
        clear hk1 hPc hDc hFc hP1 hD1 ht
        have hV_6 := KI_s hc1 hV_5 (by omega) hwv_6 hwk_6 hwo_6 hcc_6
        have hU_6 := hV_6.1
        refine lv_aload_n hx hb dX11_keep_98 rfl (lv_at hl 1 rfl) ?_
        refine lv_aload_n hx hb dX11_keep_99 rfl (lv_at hl 1 rfl) ?_
        refine va_get (D := (dC, dI)) (ci := 9) (v := .ref (a 3)) (C := RX11) (T := TX11) (N := 55) hx hb hts inX11 hown hK hP 14 rfl rfl 3 (Nat.le_of_ble_eq_true rfl) (hts _ mw_1162) (fun _ h9 => h9) rfl dX11_keep_100 ?_
        refine lv_iload_n hx hb dX11_keep_103 rfl (lv_at hl 0 rfl) ?_
        refine z_iald hx hb hK hP 7 0 rfl rfl (e := q) rfl b9_6 (Nat.le_of_ble_eq_true rfl) dX11_keep_104 ?_
        have hd_7 := dc_pw hV_6.1.1 (w := w + 1 + 1 + 1 + 1 + 1 + 1 + 1) (by omega)
        obtain ⟨hPc, hDc, hFc⟩ := zo_sub (wc := [_, _]) hP hD hS hA [14, 15] rfl rfl
        refine zcall (st1 := []) (va_runV (As := [.int (wd q)]) (rest := []) ⟨hx, hb, hml, hown, hts⟩ (k_M_write l dC dI cI cZ cF H.size k0 (va_up a 28 bb6) (upd I0 41 (nI (((((((w + 1) + 1) + 1) + 1) + 1) + 1) + 1))) J0 (((((((w + 1) + 1) + 1) + 1) + 1) + 1) + 1) cc6 (wd q) sv6 (rfl) (by first | with_reducible assumption | omega) (by first | with_reducible assumption | omega) (by first | with_reducible assumption | omega)) (csV_193 hts rfl rfl ⟨Nat.le_of_ble_eq_true rfl, Nat.le_of_ble_eq_true rfl⟩) (zPV2 (q0 := 0) (ci := 9) hPc hDc hK hXN rfl rfl) rfl rfl hl.1 rfl (lv_room (Nat.le_of_ble_eq_true rfl)) dX11_keep_105 ⟨show ((((((((c1 - cp + (dc c1 w - c1)) + (dc cc0 (w + 1) - cc0)) + (dc cc1 ((w + 1) + 1) - cc1)) + (dc cc2 (((w + 1) + 1) + 1) - cc2)) + (dc cc3 ((((w + 1) + 1) + 1) + 1) - cc3)) + (dc cc4 (((((w + 1) + 1) + 1) + 1) + 1) - cc4)) + (dc cc5 ((((((w + 1) + 1) + 1) + 1) + 1) + 1) - cc5)) + (dc cc6 (((((((w + 1) + 1) + 1) + 1) + 1) + 1) + 1) - cc6)) ≤ cE - cp by omega, show ((((((((8192 * (c1 - cp) + (8192 * (dc c1 w - c1))) + (8192 * (dc cc0 (w + 1) - cc0))) + (8192 * (dc cc1 ((w + 1) + 1) - cc1))) + (8192 * (dc cc2 (((w + 1) + 1) + 1) - cc2))) + (8192 * (dc cc3 ((((w + 1) + 1) + 1) + 1) - cc3))) + (8192 * (dc cc4 (((((w + 1) + 1) + 1) + 1) + 1) - cc4))) + (8192 * (dc cc5 ((((((w + 1) + 1) + 1) + 1) + 1) + 1) - cc5))) + (8192 * (dc cc6 (((((((w + 1) + 1) + 1) + 1) + 1) + 1) + 1) - cc6))) ≤ 8192 * (cE - cp) by omega⟩) hS hFc hFc rfl (fun t H locs ht hB hk1 hS => ?_)
        obtain ⟨bb7, cc7, sv7, hcc_7, hwv_7, hwk_7, hwo_7, hP1, hD1⟩ := hB
        rw [ht] at hP1
        obtain ⟨hP, hD⟩ := zn (W2 := [_, _, _, _, _, _, _, _, _, _, _, _, _, _, (om k0 (va_up a 28 bb7) (upd I0 41 (nI ((((((((w + 1) + 1) + 1) + 1) + 1) + 1) + 1) + 1))) J0), (oa bb7 cI (4096 * cc7) sv7)]) hP hD hk1 hFc hP1 hD1 [14, 15] zl_165 zl_164 [14, 15] (by decide +kernel) rfl rfl rfl rfl rfl
        clear hk1 hPc hDc hFc hP1 hD1 ht
        have hV_7 := KI_s hc1 hV_6 (by omega) hwv_7 hwk_7 hwo_7 hcc_7
        have hU_7 := hV_7.1
        refine lv_aload_n hx hb dX11_keep_108 rfl (lv_at hl 1 rfl) ?_
        refine lv_aload_n hx hb dX11_keep_109 rfl (lv_at hl 1 rfl) ?_
        refine va_get (D := (dC, dI)) (ci := 9) (v := .ref (a 4)) (C := RX11) (T := TX11) (N := 55) hx hb hts inX11 hown hK hP 14 rfl rfl 4 (Nat.le_of_ble_eq_true rfl) (hts _ mw_1163) (fun _ h9 => h9) rfl dX11_keep_110 ?_
        refine lv_iload_n hx hb dX11_keep_113 rfl (lv_at hl 0 rfl) ?_
        refine z_iald hx hb hK hP 8 0 rfl rfl (e := q) rfl b9_6 (Nat.le_of_ble_eq_true rfl) dX11_keep_114 ?_
        have hd_8 := dc_pw hV_7.1.1 (w := w + 1 + 1 + 1 + 1 + 1 + 1 + 1 + 1) (by omega)
        obtain ⟨hPc, hDc, hFc⟩ := zo_sub (wc := [_, _]) hP hD hS hA [14, 15] rfl rfl
        refine zcall (st1 := []) (va_runV (As := [.int (tw q)]) (rest := []) ⟨hx, hb, hml, hown, hts⟩ (k_M_write l dC dI cI cZ cF H.size k0 (va_up a 28 bb7) (upd I0 41 (nI ((((((((w + 1) + 1) + 1) + 1) + 1) + 1) + 1) + 1))) J0 ((((((((w + 1) + 1) + 1) + 1) + 1) + 1) + 1) + 1) cc7 (tw q) sv7 (rfl) (by first | with_reducible assumption | omega) (by first | with_reducible assumption | omega) (by first | with_reducible assumption | omega)) (csV_193 hts rfl rfl ⟨Nat.le_of_ble_eq_true rfl, Nat.le_of_ble_eq_true rfl⟩) (zPV2 (q0 := 0) (ci := 9) hPc hDc hK hXN rfl rfl) rfl rfl hl.1 rfl (lv_room (Nat.le_of_ble_eq_true rfl)) dX11_keep_115 ⟨show (((((((((c1 - cp + (dc c1 w - c1)) + (dc cc0 (w + 1) - cc0)) + (dc cc1 ((w + 1) + 1) - cc1)) + (dc cc2 (((w + 1) + 1) + 1) - cc2)) + (dc cc3 ((((w + 1) + 1) + 1) + 1) - cc3)) + (dc cc4 (((((w + 1) + 1) + 1) + 1) + 1) - cc4)) + (dc cc5 ((((((w + 1) + 1) + 1) + 1) + 1) + 1) - cc5)) + (dc cc6 (((((((w + 1) + 1) + 1) + 1) + 1) + 1) + 1) - cc6)) + (dc cc7 ((((((((w + 1) + 1) + 1) + 1) + 1) + 1) + 1) + 1) - cc7)) ≤ cE - cp by omega, show (((((((((8192 * (c1 - cp) + (8192 * (dc c1 w - c1))) + (8192 * (dc cc0 (w + 1) - cc0))) + (8192 * (dc cc1 ((w + 1) + 1) - cc1))) + (8192 * (dc cc2 (((w + 1) + 1) + 1) - cc2))) + (8192 * (dc cc3 ((((w + 1) + 1) + 1) + 1) - cc3))) + (8192 * (dc cc4 (((((w + 1) + 1) + 1) + 1) + 1) - cc4))) + (8192 * (dc cc5 ((((((w + 1) + 1) + 1) + 1) + 1) + 1) - cc5))) + (8192 * (dc cc6 (((((((w + 1) + 1) + 1) + 1) + 1) + 1) + 1) - cc6))) + (8192 * (dc cc7 ((((((((w + 1) + 1) + 1) + 1) + 1) + 1) + 1) + 1) - cc7))) ≤ 8192 * (cE - cp) by omega⟩) hS hFc hFc rfl (fun t H locs ht hB hk1 hS => ?_)
        obtain ⟨bb8, cc8, sv8, hcc_8, hwv_8, hwk_8, hwo_8, hP1, hD1⟩ := hB
        rw [ht] at hP1
        obtain ⟨hP, hD⟩ := zn (W2 := [_, _, _, _, _, _, _, _, _, _, _, _, _, _, (om k0 (va_up a 28 bb8) (upd I0 41 (nI (((((((((w + 1) + 1) + 1) + 1) + 1) + 1) + 1) + 1) + 1))) J0), (oa bb8 cI (4096 * cc8) sv8)]) hP hD hk1 hFc hP1 hD1 [14, 15] zl_165 zl_164 [14, 15] (by decide +kernel) rfl rfl rfl rfl rfl
        clear hk1 hPc hDc hFc hP1 hD1 ht
        have hV_8 := KI_s hc1 hV_7 (by omega) hwv_8 hwk_8 hwo_8 hcc_8
        have hU_8 := hV_8.1
        refine lv_aload_n hx hb dX11_keep_118 rfl (lv_at hl 1 rfl) ?_
        have hj_7 : W p l e ({ frames := 1, cells := cE - cp, slots := 8192 * (cE - cp), locals := 23 } : Room) s m ([.ref k0, .int (nI i)] : List Value).toArray below meth c H locs (((((((((c1 - cp + (dc c1 w - c1)) + (dc cc0 (w + 1) - cc0)) + (dc cc1 ((w + 1) + 1) - cc1)) + (dc cc2 (((w + 1) + 1) + 1) - cc2)) + (dc cc3 ((((w + 1) + 1) + 1) + 1) - cc3)) + (dc cc4 (((((w + 1) + 1) + 1) + 1) + 1) - cc4)) + (dc cc5 ((((((w + 1) + 1) + 1) + 1) + 1) + 1) - cc5)) + (dc cc6 (((((((w + 1) + 1) + 1) + 1) + 1) + 1) + 1) - cc6)) + (dc cc7 ((((((((w + 1) + 1) + 1) + 1) + 1) + 1) + 1) + 1) - cc7)) (((((((((8192 * (c1 - cp) + (8192 * (dc c1 w - c1))) + (8192 * (dc cc0 (w + 1) - cc0))) + (8192 * (dc cc1 ((w + 1) + 1) - cc1))) + (8192 * (dc cc2 (((w + 1) + 1) + 1) - cc2))) + (8192 * (dc cc3 ((((w + 1) + 1) + 1) + 1) - cc3))) + (8192 * (dc cc4 (((((w + 1) + 1) + 1) + 1) + 1) - cc4))) + (8192 * (dc cc5 ((((((w + 1) + 1) + 1) + 1) + 1) + 1) - cc5))) + (8192 * (dc cc6 (((((((w + 1) + 1) + 1) + 1) + 1) + 1) + 1) - cc6))) + (8192 * (dc cc7 ((((((((w + 1) + 1) + 1) + 1) + 1) + 1) + 1) + 1) - cc7))) Q9 (F0 m 146 ls [.int (nI (nnF st tn mn q))]) := by
          refine lv_istore_n (lv' := [(3, .int (nI (nnF st tn mn q))), (2, .int (nI q)), (0, .ref k0), (1, .int (nI i))]) hx hb dX11_keep_146 rfl hl (Nat.le_of_ble_eq_true rfl) rfl (fun ls hl => ?_)
          refine lv_aload_n hx hb dX11_keep_147 rfl (lv_at hl 2 rfl) ?_
          refine lv_iload_n hx hb dX11_keep_148 rfl (lv_at hl 0 rfl) ?_
          have hd_9 := dc_pw hV_8.1.1 (w := w + 1 + 1 + 1 + 1 + 1 + 1 + 1 + 1 + 1) (by omega)
          obtain ⟨hPc, hDc, hFc⟩ := zo_sub (wc := [_, _]) hP hD hS hA [14, 15] rfl rfl
          refine zcall (st1 := []) (va_runV (As := [.int (nI (nnF st tn mn q))]) (rest := []) ⟨hx, hb, hml, hown, hts⟩ (k_M_write l dC dI cI cZ cF H.size k0 (va_up a 28 bb8) (upd I0 41 (nI (((((((((w + 1) + 1) + 1) + 1) + 1) + 1) + 1) + 1) + 1))) J0 (((((((((w + 1) + 1) + 1) + 1) + 1) + 1) + 1) + 1) + 1) cc8 (nI (nnF st tn mn q)) sv8 (rfl) (by first | with_reducible assumption | omega) (by first | with_reducible assumption | omega) (by first | with_reducible assumption | omega)) (csV_193 hts rfl rfl ⟨Nat.le_of_ble_eq_true rfl, Nat.le_of_ble_eq_true rfl⟩) (zPV2 (q0 := 0) (ci := 9) hPc hDc hK hXN rfl rfl) rfl rfl hl.1 rfl (lv_room (Nat.le_of_ble_eq_true rfl)) dX11_keep_149 ⟨show ((((((((((c1 - cp + (dc c1 w - c1)) + (dc cc0 (w + 1) - cc0)) + (dc cc1 ((w + 1) + 1) - cc1)) + (dc cc2 (((w + 1) + 1) + 1) - cc2)) + (dc cc3 ((((w + 1) + 1) + 1) + 1) - cc3)) + (dc cc4 (((((w + 1) + 1) + 1) + 1) + 1) - cc4)) + (dc cc5 ((((((w + 1) + 1) + 1) + 1) + 1) + 1) - cc5)) + (dc cc6 (((((((w + 1) + 1) + 1) + 1) + 1) + 1) + 1) - cc6)) + (dc cc7 ((((((((w + 1) + 1) + 1) + 1) + 1) + 1) + 1) + 1) - cc7)) + (dc cc8 (((((((((w + 1) + 1) + 1) + 1) + 1) + 1) + 1) + 1) + 1) - cc8)) ≤ cE - cp by omega, show ((((((((((8192 * (c1 - cp) + (8192 * (dc c1 w - c1))) + (8192 * (dc cc0 (w + 1) - cc0))) + (8192 * (dc cc1 ((w + 1) + 1) - cc1))) + (8192 * (dc cc2 (((w + 1) + 1) + 1) - cc2))) + (8192 * (dc cc3 ((((w + 1) + 1) + 1) + 1) - cc3))) + (8192 * (dc cc4 (((((w + 1) + 1) + 1) + 1) + 1) - cc4))) + (8192 * (dc cc5 ((((((w + 1) + 1) + 1) + 1) + 1) + 1) - cc5))) + (8192 * (dc cc6 (((((((w + 1) + 1) + 1) + 1) + 1) + 1) + 1) - cc6))) + (8192 * (dc cc7 ((((((((w + 1) + 1) + 1) + 1) + 1) + 1) + 1) + 1) - cc7))) + (8192 * (dc cc8 (((((((((w + 1) + 1) + 1) + 1) + 1) + 1) + 1) + 1) + 1) - cc8))) ≤ 8192 * (cE - cp) by omega⟩) hS hFc hFc rfl (fun t H locs ht hB hk1 hS => ?_)
          obtain ⟨bb9, cc9, sv9, hcc_9, hwv_9, hwk_9, hwo_9, hP1, hD1⟩ := hB
          rw [ht] at hP1
          obtain ⟨hP, hD⟩ := zn (W2 := [_, _, _, _, _, _, _, _, _, _, _, _, _, _, (om k0 (va_up a 28 bb9) (upd I0 41 (nI ((((((((((w + 1) + 1) + 1) + 1) + 1) + 1) + 1) + 1) + 1) + 1))) J0), (oa bb9 cI (4096 * cc9) sv9)]) hP hD hk1 hFc hP1 hD1 [14, 15] zl_165 zl_164 [14, 15] (by decide +kernel) rfl rfl rfl rfl rfl
          clear hk1 hPc hDc hFc hP1 hD1 ht
          have hV_9 := KI_s hc1 hV_8 (by omega) hwv_9 hwk_9 hwo_9 hcc_9
          have hU_9 := hV_9.1
          refine lv_iconst (v := 0) hx hb dX11_keep_152 rfl ?_
          refine lv_istore (lv' := [(4, .int 0), (3, .int (nI (nnF st tn mn q))), (2, .int (nI q)), (0, .ref k0), (1, .int (nI i))]) hx hb dX11_keep_153 hl (Nat.le_of_ble_eq_true rfl) rfl (fun ls hl => ?_)
          have hl_155 : ∀ (n9 : Nat) (k : Nat) (b2 : Nat) (c2 : Nat) (w2 : Nat) (sh2 : Nat → Int32) (H : Heap) (locs : List Loc) (ls : Array Slot), nnF st tn mn q - k < n9 → (k ≤ nnF st tn mn q) → (KI cp cE w0 (nI ft) (nnF st tn mn) (shD kd st gb it pa pb rk wd tw (nnF st tn mn) cx cy) sh q (10 + 2 * k) sh2 c2 w2) → va_P (dC, dI) classes [(oa (a 1) cI 201 kd), (oa (a 5) cI 201 st), (oa (a 7) cI 201 gb), (oa (a 10) cI 201 it), (oa (a 8) cI 201 pa), (oa (a 9) cI 201 pb), (oa (a 2) cI 201 rk), (oa (a 3) cI 201 wd), (oa (a 4) cI 201 tw), (oa (a 6) cZ 201 tn), (oa (a 11) cI 201 mn), (oa (a 12) cI 8040 cx), (oa (a 13) cI 8040 cy), (oa (a 27) cI 516 sa), (om k0 (va_up a 28 b2) (upd I0 41 (nI w2)) J0), (oa b2 cI (4096 * c2) sh2)] H → va_D A [(oa (a 1) cI 201 kd), (oa (a 5) cI 201 st), (oa (a 7) cI 201 gb), (oa (a 10) cI 201 it), (oa (a 8) cI 201 pa), (oa (a 9) cI 201 pb), (oa (a 2) cI 201 rk), (oa (a 3) cI 201 wd), (oa (a 4) cI 201 tw), (oa (a 6) cZ 201 tn), (oa (a 11) cI 201 mn), (oa (a 12) cI 8040 cx), (oa (a 13) cI 8040 cy), (oa (a 27) cI 516 sa), (om k0 (va_up a 28 b2) (upd I0 41 (nI w2)) J0), (oa b2 cI (4096 * c2) sh2)] → va_S A s.heap H locs → lv_has ls 5 [(4, .int (nI k)), (3, .int (nI (nnF st tn mn q))), (2, .int (nI q)), (0, .ref k0), (1, .int (nI i))] → W p l e ({ frames := 1, cells := cE - cp, slots := 8192 * (cE - cp), locals := 23 } : Room) s m ([.ref k0, .int (nI i)] : List Value).toArray below meth c H locs (c2 - cp) (8192 * (c2 - cp)) Q9 (F0 m 155 ls []) := by
            intro n9
            induction n9 with
            | zero => intro k b2 c2 w2 sh2 H locs ls hm; exact absurd hm (Nat.not_lt_zero _)
            | succ n9 ih_155 =>
              intro k b2 c2 w2 sh2 H locs ls hm hk hV2 hP hD hS hl
              have hU2 := hV2.1
              have hn40 : nnF st tn mn q ≤ 40 := (by unfold nnF; split; exact (hmn q (by omega) (by omega) (by omega)).2; omega)
              refine lv_iload hx hb dX11_keep_155 (lv_at hl 0 rfl) ?_
              refine lv_iload_n hx hb dX11_keep_157 rfl (lv_at hl 1 rfl) ?_
              have b9_9 : zlt (k) := show k < 2147483648 by omega
              have b9_10 : zlt ((nnF st tn mn q)) := show (nnF st tn mn q) < 2147483648 by omega
              refine lv_icmp_ge (tgt := 199) hx hb dX11_keep_158 rfl (fun c_8 => ?_) (fun c_8 => ?_)
              · have c_8 : ((nnF st tn mn q : Nat) : Int) ≤ ((k : Nat) : Int) := zc_le (nI_toInt b9_10) (nI_toInt b9_9) c_8
                refine lv_iinc (v := nI (q + 1)) (lv' := [(2, .int (nI (q + 1))), (4, .int (nI k)), (3, .int (nI (nnF st tn mn q))), (0, .ref k0), (1, .int (nI i))]) hx hb dX11_keep_199 hl (k := 2) rfl (nI_add q 1) (Nat.le_of_ble_eq_true rfl) rfl (fun ls hl => ?_)
                refine lv_goto (tgt := 20) hx hb dX11_keep_202 rfl ?_
                refine W.widen (k := c2 - cp) (n := 8192 * (c2 - cp)) (by omega) (by omega) ?_
                exact ih_20 (q + 1) b2 c2 w2 sh2 H locs ls (by first | with_reducible assumption | omega) (by first | with_reducible assumption | omega) (KI_n hV2 (by first | with_reducible assumption | omega)) hP hD hS (lv_sub hl [0, 3, 4] rfl)
              · have c_8 : ((k : Nat) : Int) < ((nnF st tn mn q : Nat) : Int) := zc_nle (nI_toInt b9_10) (nI_toInt b9_9) c_8
                have hdx := dc_pw hV2.1.1 (w := w2) (by omega)
                refine lv_aload_n hx hb dX11_keep_161 rfl (lv_at hl 3 rfl) ?_
                refine lv_aload_n hx hb dX11_keep_162 rfl (lv_at hl 3 rfl) ?_
                refine va_get (D := (dC, dI)) (ci := 9) (v := .ref (a 12)) (C := RX11) (T := TX11) (N := 55) hx hb hts inX11 hown hK hP 14 rfl rfl 12 (Nat.le_of_ble_eq_true rfl) (hts _ mw_1171) (fun _ h9 => h9) rfl dX11_keep_163 ?_
                refine lv_bipush (v := 40) hx hb dX11_keep_166 rfl ?_
                refine lv_iload_n hx hb dX11_keep_168 rfl (lv_at hl 2 rfl) ?_
                refine lv_imul hx hb dX11_keep_169 ?_
                refine zz_i (v := nI (40 * q)) (pk_mul 40 q) ?_
                refine lv_iload hx hb dX11_keep_170 (lv_at hl 0 rfl) ?_
                refine lv_iadd hx hb dX11_keep_172 ?_
                refine zz_i (v := nI (40 * q + k)) (nI_add (40 * q) k) ?_
                have b9_11 : 40 * q + k < 8040 := by omega
                refine z_iald hx hb hK hP 11 0 rfl rfl (e := 40 * q + k) rfl b9_11 (Nat.le_of_ble_eq_true rfl) dX11_keep_173 ?_
                obtain ⟨hPc, hDc, hFc⟩ := zo_sub (wc := [_, _]) hP hD hS hA [14, 15] rfl rfl
                refine zcall (st1 := []) (va_runV (As := [.int (cx (40 * q + k))]) (rest := []) ⟨hx, hb, hml, hown, hts⟩ (k_M_write l dC dI cI cZ cF H.size k0 (va_up a 28 b2) (upd I0 41 (nI w2)) J0 w2 c2 (cx (40 * q + k)) sh2 (rfl) (by first | with_reducible assumption | omega) (by first | with_reducible assumption | omega) (by first | with_reducible assumption | omega)) (csV_193 hts rfl rfl ⟨Nat.le_of_ble_eq_true rfl, Nat.le_of_ble_eq_true rfl⟩) (zPV2 (q0 := 0) (ci := 9) hPc hDc hK hXN rfl rfl) rfl rfl hl.1 rfl (lv_room (Nat.le_of_ble_eq_true rfl)) dX11_keep_174 ⟨show (c2 - cp + (dc c2 w2 - c2)) ≤ cE - cp by omega, show (8192 * (c2 - cp) + (8192 * (dc c2 w2 - c2))) ≤ 8192 * (cE - cp) by omega⟩) hS hFc hFc rfl (fun t H locs ht hB hk1 hS => ?_)
                obtain ⟨bx, cx9, sx, hcx, hwvx, hwkx, hwox, hP1, hD1⟩ := hB
                rw [ht] at hP1
                obtain ⟨hP, hD⟩ := zn (W2 := [_, _, _, _, _, _, _, _, _, _, _, _, _, _, (om k0 (va_up a 28 bx) (upd I0 41 (nI (w2 + 1))) J0), (oa bx cI (4096 * cx9) sx)]) hP hD hk1 hFc hP1 hD1 [14, 15] zl_165 zl_164 [14, 15] (by decide +kernel) rfl rfl rfl rfl rfl
                clear hk1 hPc hDc hFc hP1 hD1 ht
                have hV3 := KI_s hc1 hV2 (by omega) (hwvx.trans (shD_x (by omega)).symm) hwkx hwox hcx
                have hU3 := hV3.1
                have hdy := dc_pw hV3.1.1 (w := w2 + 1) (by omega)
                refine lv_aload_n hx hb dX11_keep_177 rfl (lv_at hl 3 rfl) ?_
                refine lv_aload_n hx hb dX11_keep_178 rfl (lv_at hl 3 rfl) ?_
                refine va_get (D := (dC, dI)) (ci := 9) (v := .ref (a 13)) (C := RX11) (T := TX11) (N := 55) hx hb hts inX11 hown hK hP 14 rfl rfl 13 (Nat.le_of_ble_eq_true rfl) (hts _ mw_1172) (fun _ h9 => h9) rfl dX11_keep_179 ?_
                refine lv_bipush (v := 40) hx hb dX11_keep_182 rfl ?_
                refine lv_iload_n hx hb dX11_keep_184 rfl (lv_at hl 2 rfl) ?_
                refine lv_imul hx hb dX11_keep_185 ?_
                refine zz_i (v := nI (40 * q)) (pk_mul 40 q) ?_
                refine lv_iload hx hb dX11_keep_186 (lv_at hl 0 rfl) ?_
                refine lv_iadd hx hb dX11_keep_188 ?_
                refine zz_i (v := nI (40 * q + k)) (nI_add (40 * q) k) ?_
                refine z_iald hx hb hK hP 12 0 rfl rfl (e := 40 * q + k) rfl b9_11 (Nat.le_of_ble_eq_true rfl) dX11_keep_189 ?_
                obtain ⟨hPc, hDc, hFc⟩ := zo_sub (wc := [_, _]) hP hD hS hA [14, 15] rfl rfl
                refine zcall (st1 := []) (va_runV (As := [.int (cy (40 * q + k))]) (rest := []) ⟨hx, hb, hml, hown, hts⟩ (k_M_write l dC dI cI cZ cF H.size k0 (va_up a 28 bx) (upd I0 41 (nI (w2 + 1))) J0 (w2 + 1) cx9 (cy (40 * q + k)) sx (rfl) (by first | with_reducible assumption | omega) (by first | with_reducible assumption | omega) (by first | with_reducible assumption | omega)) (csV_193 hts rfl rfl ⟨Nat.le_of_ble_eq_true rfl, Nat.le_of_ble_eq_true rfl⟩) (zPV2 (q0 := 0) (ci := 9) hPc hDc hK hXN rfl rfl) rfl rfl hl.1 rfl (lv_room (Nat.le_of_ble_eq_true rfl)) dX11_keep_190 ⟨show ((c2 - cp + (dc c2 w2 - c2)) + (dc cx9 (w2 + 1) - cx9)) ≤ cE - cp by omega, show ((8192 * (c2 - cp) + (8192 * (dc c2 w2 - c2))) + (8192 * (dc cx9 (w2 + 1) - cx9))) ≤ 8192 * (cE - cp) by omega⟩) hS hFc hFc rfl (fun t H locs ht hB hk1 hS => ?_)
                obtain ⟨by9, cy9, sy, hcy, hwvy, hwky, hwoy, hP1, hD1⟩ := hB
                rw [ht] at hP1
                obtain ⟨hP, hD⟩ := zn (W2 := [_, _, _, _, _, _, _, _, _, _, _, _, _, _, (om k0 (va_up a 28 by9) (upd I0 41 (nI ((w2 + 1) + 1))) J0), (oa by9 cI (4096 * cy9) sy)]) hP hD hk1 hFc hP1 hD1 [14, 15] zl_165 zl_164 [14, 15] (by decide +kernel) rfl rfl rfl rfl rfl
                clear hk1 hPc hDc hFc hP1 hD1 ht
                have hV4 := KI_s hc1 hV3 (by omega) (hwvy.trans (shD_y (by omega)).symm) hwky hwoy hcy
                have hU4 := hV4.1
                refine lv_iinc (v := nI (k + 1)) (lv' := [(4, .int (nI (k + 1))), (3, .int (nI (nnF st tn mn q))), (2, .int (nI q)), (0, .ref k0), (1, .int (nI i))]) hx hb dX11_keep_193 hl (k := 0) rfl (nI_add k 1) (Nat.le_of_ble_eq_true rfl) rfl (fun ls hl => ?_)
                refine lv_goto (tgt := 155) hx hb dX11_keep_196 rfl ?_
                refine W.widen (k := cy9 - cp) (n := 8192 * (cy9 - cp)) (by omega) (by omega) ?_
                exact ih_155 (k + 1) by9 cy9 ((w2 + 1) + 1) sy H locs ls (by first | with_reducible assumption | omega) (by first | with_reducible assumption | omega) (hV4) hP hD hS (lv_sub hl [0, 1, 2, 3, 4] rfl)
          refine W.widen (k := cc9 - cp) (n := 8192 * (cc9 - cp)) (by omega) (by omega) ?_
          exact hl_155 _ 0 bb9 cc9 ((((((((((w + 1) + 1) + 1) + 1) + 1) + 1) + 1) + 1) + 1) + 1) sv9 H locs ls (Nat.lt_succ_self _) (by first | with_reducible assumption | omega) (hV_9) hP hD hS (lv_sub hl [0, 1, 2, 3, 4] rfl)
        refine va_get (D := (dC, dI)) (ci := 9) (v := .ref (a 6)) (C := RX11) (T := TX11) (N := 55) hx hb hts inX11 hown hK hP 14 rfl rfl 6 (Nat.le_of_ble_eq_true rfl) (hts _ mw_1165) (fun _ h9 => h9) rfl dX11_keep_119 ?_
        refine lv_iload_n hx hb dX11_keep_122 rfl (lv_at hl 0 rfl) ?_
        refine z_zald hx hb hK hP 9 1 rfl rfl (e := q) rfl b9_6 (Nat.le_of_ble_eq_true rfl) dX11_keep_123 ?_
        refine lv_if_ne (tgt := 136) hx hb dX11_keep_124 rfl (fun c_12 => ?_) (fun c_12 => ?_)
        · have c_12 : ¬ (tn q).toInt = 0 := zc_ne rfl rfl c_12
          refine lv_iconst (v := 0) hx hb dX11_keep_136 rfl ?_
          refine lv_goto (tgt := 146) hx hb dX11_keep_137 rfl ?_
          refine zz_i (v := nI (nnF st tn mn q)) (by unfold nnF; first | (rw [if_neg (by omega)]; rfl) | (rw [if_pos ⟨by omega, by omega⟩])) ?_
          exact hj_7 
        · have c_12 : (tn q).toInt = 0 := zc_eq rfl rfl c_12
          refine lv_aload_n hx hb dX11_keep_127 rfl (lv_at hl 1 rfl) ?_
          refine va_get (D := (dC, dI)) (ci := 9) (v := .ref (a 5)) (C := RX11) (T := TX11) (N := 55) hx hb hts inX11 hown hK hP 14 rfl rfl 5 (Nat.le_of_ble_eq_true rfl) (hts _ mw_1164) (fun _ h9 => h9) rfl dX11_keep_128 ?_
          refine lv_iload_n hx hb dX11_keep_131 rfl (lv_at hl 0 rfl) ?_
          refine z_iald hx hb hK hP 1 0 rfl rfl (e := q) rfl b9_6 (Nat.le_of_ble_eq_true rfl) dX11_keep_132 ?_
          refine lv_if_ne (tgt := 140) hx hb dX11_keep_133 rfl (fun c_13 => ?_) (fun c_13 => ?_)
          · have c_13 : ¬ (st q).toInt = 0 := zc_ne rfl rfl c_13
            have hm9 := hmn q (by omega) (by omega) (by omega)
            refine lv_aload_n hx hb dX11_keep_140 rfl (lv_at hl 1 rfl) ?_
            refine va_get (D := (dC, dI)) (ci := 9) (v := .ref (a 11)) (C := RX11) (T := TX11) (N := 55) hx hb hts inX11 hown hK hP 14 rfl rfl 11 (Nat.le_of_ble_eq_true rfl) (hts _ mw_1170) (fun _ h9 => h9) rfl dX11_keep_141 ?_
            refine lv_iload_n hx hb dX11_keep_144 rfl (lv_at hl 0 rfl) ?_
            refine z_iald hx hb hK hP 10 0 rfl rfl (e := q) rfl b9_6 (Nat.le_of_ble_eq_true rfl) dX11_keep_145 ?_
            refine zz_i (v := nI (nN (mn q))) (hm9.1) ?_
            refine zz_i (v := nI (nnF st tn mn q)) (by unfold nnF; first | (rw [if_neg (by omega)]; rfl) | (rw [if_pos ⟨by omega, by omega⟩])) ?_
            exact hj_7 
          · have c_13 : (st q).toInt = 0 := zc_eq rfl rfl c_13
            refine lv_iconst (v := 0) hx hb dX11_keep_136 rfl ?_
            refine lv_goto (tgt := 146) hx hb dX11_keep_137 rfl ?_
            refine zz_i (v := nI (nnF st tn mn q)) (by unfold nnF; first | (rw [if_neg (by omega)]; rfl) | (rw [if_pos ⟨by omega, by omega⟩])) ?_
            exact hj_7 
  refine W.widen (k := c0 - cp) (n := 8192 * (c0 - cp)) (by omega) (by omega) ?_
  exact hl_20 _ 0 b0 c0 (w0 + 1) sh0 H locs ls (Nat.lt_succ_self _) (by first | with_reducible assumption | omega) (hV0) hP hD hS (lv_sub hl [0, 1, 2] rfl)
end
section
set_option maxHeartbeats 4000000 in
set_option maxRecDepth 100000 in
theorem k_M_restore (l : Launch) (dC : Nat → ClassId) (dI : Nat → Nat → Nat) (cI cZ cF : ClassId) (sz : Nat) (k0 : Nat) (a : Nat → Nat) (I0 : Nat → Int32) (J0 : Nat → Int64) (i : Nat) (ft1 : Nat) (w0 : Nat) (cp : Nat) (nn : Nat → Nat) (D : Nat → Nat → Int32) (kd : Nat → Int32) (st : Nat → Int32) (gb : Nat → Int32) (it : Nat → Int32) (pa : Nat → Int32) (pb : Nat → Int32) (rk : Nat → Int32) (wd : Nat → Int32) (tw : Nat → Int32) (tn : Nat → Int32) (mn : Nat → Int32) (cx : Nat → Int32) (cy : Nat → Int32) (sa : Nat → Int32) (sh : Nat → Int32) (hi5 : i < 516) (hsa : sa i = nI w0) (hft1 : sh w0 = nI ft1) (h200 : ft1 ≤ 200) (hblk : ∀ g, g < ft1 → ∀ j, j < 10 + 2 * nn g → sh (psN nn w0 g + j) = D g j) (h9 : ∀ g, g < ft1 → D g 9 = nI (nn g)) (hn40 : ∀ g, g < ft1 → nn g ≤ 40) (hfit : psN nn w0 ft1 ≤ 4096 * cp) (hcm : cp ≤ 512) : zM l yX11_restore cX11_restore 5 none ({ frames := 1, cells := 0, slots := 0, locals := 20 } : Room) [.ref k0, .int (nI i)] (dC, dI) (zTy cI cZ cF) [(om k0 a I0 J0), (oa (a 1) cI 201 kd), (oa (a 5) cI 201 st), (oa (a 7) cI 201 gb), (oa (a 10) cI 201 it), (oa (a 8) cI 201 pa), (oa (a 9) cI 201 pb), (oa (a 2) cI 201 rk), (oa (a 3) cI 201 wd), (oa (a 4) cI 201 tw), (oa (a 6) cZ 201 tn), (oa (a 11) cI 201 mn), (oa (a 12) cI 8040 cx), (oa (a 13) cI 8040 cy), (oa (a 27) cI 516 sa), (oa (a 28) cI (4096 * cp) sh)] sz none (fun A t => zPD (dC, dI) classes A [(om k0 a (upd (upd I0 0 (nI ft1)) 42 (nI (psN nn w0 ft1))) J0), (oa (a 1) cI 201 (rsA ft1 (fun g => D g 0) kd)), (oa (a 5) cI 201 (rsA ft1 (fun g => D g 1) st)), (oa (a 7) cI 201 (rsA ft1 (fun g => D g 2) gb)), (oa (a 10) cI 201 (rsA ft1 (fun g => D g 3) it)), (oa (a 8) cI 201 (rsA ft1 (fun g => D g 4) pa)), (oa (a 9) cI 201 (rsA ft1 (fun g => D g 5) pb)), (oa (a 2) cI 201 (rsA ft1 (fun g => D g 6) rk)), (oa (a 3) cI 201 (rsA ft1 (fun g => D g 7) wd)), (oa (a 4) cI 201 (rsA ft1 (fun g => D g 8) tw)), (oa (a 6) cZ 201 tn), (oa (a 11) cI 201 (rsM ft1 D nn tn mn)), (oa (a 12) cI 8040 (rsC ft1 0 D nn 10 cx)), (oa (a 13) cI 8040 (rsC ft1 0 D nn 11 cy)), (oa (a 27) cI 516 sa), (oa (a 28) cI (4096 * cp) sh)] t.heap) 0 0 := by
  refine zIn (own := "ScaleShopModel") (loc := [(0, .ref k0), (1, .int (nI i))]) rfl rfl rfl rfl (fun p e s m below meth c hx hb hr hts hown hlocks hml hnm9 A hA hS hP hD hK hXN Q9 hQ9 ls hl => ?_)
  refine lv_aload_n hx hb dX11_restore_0 rfl (lv_at hl 0 rfl) ?_
  refine lv_aload_n hx hb dX11_restore_1 rfl (lv_at hl 0 rfl) ?_
  refine va_get (D := (dC, dI)) (ci := 9) (v := .ref (a 27)) (C := RX11) (T := TX11) (N := 55) hx hb hts inX11 hown hK hP 0 rfl rfl 27 (Nat.le_of_ble_eq_true rfl) (hts _ mw_1186) (fun _ h9 => h9) rfl dX11_restore_2 ?_
  refine lv_iload_n hx hb dX11_restore_5 rfl (lv_at hl 1 rfl) ?_
  have b9_1 : i < 516 := by omega
  refine z_iald hx hb hK hP 14 0 rfl rfl (e := i) rfl b9_1 (Nat.le_of_ble_eq_true rfl) dX11_restore_6 ?_
  refine zz_i (v := nI w0) (hsa) ?_
  refine va_put (D := (dC, dI)) (ci := 9) (v := .int (nI w0)) (ty := .int) (C := RX11) (T := TX11) (N := 55) hx hb hts inX11 tyX11 tyX11_ok nmX11 hown hK hP hD hS 0 rfl rfl 42 (by decide) (hts _ mw_1201) (fun _ h9 => h9) rfl (by decide +kernel) rfl rfl (Nat.le_of_ble_eq_true rfl) dX11_restore_7 (fun H locs hP hD hS => ?_)
  obtain ⟨hP, hD⟩ := zre (W2 := [(om k0 a (upd I0 42 (nI w0)) J0), _, _, _, _, _, _, _, _, _, _, _, _, _, _, _]) hP hD rfl
  refine lv_aload_n hx hb dX11_restore_10 rfl (lv_at hl 0 rfl) ?_
  refine lv_aload_n hx hb dX11_restore_11 rfl (lv_at hl 0 rfl) ?_
  have hge := psN_ge nn w0 ft1
  obtain ⟨hPc, hDc, hFc⟩ := zo_sub (wc := [_, _]) hP hD hS hA [0, 15] rfl rfl
  refine zcall (st1 := [.int (sh w0), .ref k0]) (va_runV (As := []) (rest := [.ref k0]) ⟨hx, hb, hml, hown, hts⟩ (k_M_next l dC dI cI cZ cF H.size k0 a (upd I0 42 (nI w0)) J0 w0 cp sh (rfl) (by first | with_reducible assumption | omega) (by first | with_reducible assumption | omega)) (csV_194 hts rfl rfl ⟨Nat.le_of_ble_eq_true rfl, Nat.le_of_ble_eq_true rfl⟩) (zPV2 (q0 := 0) (ci := 9) hPc hDc hK hXN rfl rfl) rfl rfl hl.1 rfl (lv_room (Nat.le_of_ble_eq_true rfl)) dX11_restore_12 ⟨Nat.le_of_ble_eq_true rfl, Nat.le_of_ble_eq_true rfl⟩) hS hFc hFc rfl (fun t H locs ht hB hk1 hS => ?_)
  obtain ⟨hP1, hD1⟩ := hB
  rw [ht] at hP1
  obtain ⟨hP, hD⟩ := zn (W2 := [(om k0 a (upd I0 42 (nI (w0 + 1))) J0), _, _, _, _, _, _, _, _, _, _, _, _, _, _, _]) hP hD hk1 hFc hP1 hD1 [0, 15] zl_163 zl_166 [0, 15] (by decide +kernel) rfl rfl rfl rfl rfl
  clear hk1 hPc hDc hFc hP1 hD1 ht
  refine zz_i (v := nI ft1) (hft1) ?_
  refine va_put (D := (dC, dI)) (ci := 9) (v := .int (nI ft1)) (ty := .int) (C := RX11) (T := TX11) (N := 55) hx hb hts inX11 tyX11 tyX11_ok nmX11 hown hK hP hD hS 0 rfl rfl 0 (by decide) (hts _ mw_1159) (fun _ h9 => h9) rfl (by decide +kernel) rfl rfl (Nat.le_of_ble_eq_true rfl) dX11_restore_15 (fun H locs hP hD hS => ?_)
  obtain ⟨hP, hD⟩ := zre (W2 := [(om k0 a (upd (upd I0 0 (nI ft1)) 42 (nI (w0 + 1))) J0), _, _, _, _, _, _, _, _, _, _, _, _, _, _, _]) hP hD rfl
  refine lv_iconst (v := 0) hx hb dX11_restore_18 rfl ?_
  refine lv_istore_n (lv' := [(2, .int 0), (0, .ref k0), (1, .int (nI i))]) hx hb dX11_restore_19 rfl hl (Nat.le_of_ble_eq_true rfl) rfl (fun ls hl => ?_)
  have hl_20 : ∀ (n9 : Nat) (q : Nat) (w : Nat) (kd1 : Nat → Int32) (st1 : Nat → Int32) (gb1 : Nat → Int32) (it1 : Nat → Int32) (pa1 : Nat → Int32) (pb1 : Nat → Int32) (rk1 : Nat → Int32) (wd1 : Nat → Int32) (tw1 : Nat → Int32) (mn1 : Nat → Int32) (cx1 : Nat → Int32) (cy1 : Nat → Int32) (H : Heap) (locs : List Loc) (ls : Array Slot), ft1 - q < n9 → (q ≤ ft1) → (w = psN nn w0 q) → (kd1 = rsA q (fun g => D g 0) kd) → (st1 = rsA q (fun g => D g 1) st) → (gb1 = rsA q (fun g => D g 2) gb) → (it1 = rsA q (fun g => D g 3) it) → (pa1 = rsA q (fun g => D g 4) pa) → (pb1 = rsA q (fun g => D g 5) pb) → (rk1 = rsA q (fun g => D g 6) rk) → (wd1 = rsA q (fun g => D g 7) wd) → (tw1 = rsA q (fun g => D g 8) tw) → (mn1 = rsM q D nn tn mn) → (cx1 = rsC q 0 D nn 10 cx) → (cy1 = rsC q 0 D nn 11 cy) → va_P (dC, dI) classes [(om k0 a (upd (upd I0 0 (nI ft1)) 42 (nI w)) J0), (oa (a 1) cI 201 kd1), (oa (a 5) cI 201 st1), (oa (a 7) cI 201 gb1), (oa (a 10) cI 201 it1), (oa (a 8) cI 201 pa1), (oa (a 9) cI 201 pb1), (oa (a 2) cI 201 rk1), (oa (a 3) cI 201 wd1), (oa (a 4) cI 201 tw1), (oa (a 6) cZ 201 tn), (oa (a 11) cI 201 mn1), (oa (a 12) cI 8040 cx1), (oa (a 13) cI 8040 cy1), (oa (a 27) cI 516 sa), (oa (a 28) cI (4096 * cp) sh)] H → va_D A [(om k0 a (upd (upd I0 0 (nI ft1)) 42 (nI w)) J0), (oa (a 1) cI 201 kd1), (oa (a 5) cI 201 st1), (oa (a 7) cI 201 gb1), (oa (a 10) cI 201 it1), (oa (a 8) cI 201 pa1), (oa (a 9) cI 201 pb1), (oa (a 2) cI 201 rk1), (oa (a 3) cI 201 wd1), (oa (a 4) cI 201 tw1), (oa (a 6) cZ 201 tn), (oa (a 11) cI 201 mn1), (oa (a 12) cI 8040 cx1), (oa (a 13) cI 8040 cy1), (oa (a 27) cI 516 sa), (oa (a 28) cI (4096 * cp) sh)] → va_S A s.heap H locs → lv_has ls 5 [(2, .int (nI q)), (0, .ref k0), (1, .int (nI i))] → W p l e ({ frames := 1, cells := 0, slots := 0, locals := 20 } : Room) s m ([.ref k0, .int (nI i)] : List Value).toArray below meth c H locs 0 0 Q9 (F0 m 20 ls []) := by
    intro n9
    induction n9 with
    | zero => intro q w kd1 st1 gb1 it1 pa1 pb1 rk1 wd1 tw1 mn1 cx1 cy1 H locs ls hm; exact absurd hm (Nat.not_lt_zero _)
    | succ n9 ih_20 =>
      intro q w kd1 st1 gb1 it1 pa1 pb1 rk1 wd1 tw1 mn1 cx1 cy1 H locs ls hm hq hw h_kd h_st h_gb h_it h_pa h_pb h_rk h_wd h_tw h_mn h_cx h_cy hP hD hS hl
      refine lv_iload_n hx hb dX11_restore_20 rfl (lv_at hl 0 rfl) ?_
      refine lv_aload_n hx hb dX11_restore_21 rfl (lv_at hl 1 rfl) ?_
      refine va_get (D := (dC, dI)) (ci := 9) (v := .int (nI ft1)) (C := RX11) (T := TX11) (N := 55) hx hb hts inX11 hown hK hP 0 rfl rfl 0 (Nat.le_of_ble_eq_true rfl) (hts _ mw_1159) (fun _ h9 => h9) rfl dX11_restore_22 ?_
      have b9_3 : zlt (q) := show q < 2147483648 by omega
      have b9_4 : zlt (ft1) := show ft1 < 2147483648 by omega
      refine lv_icmp_ge (tgt := 201) hx hb dX11_restore_25 rfl (fun c_2 => ?_) (fun c_2 => ?_)
      · have c_2 : ((ft1 : Nat) : Int) ≤ ((q : Nat) : Int) := zc_le (nI_toInt b9_4) (nI_toInt b9_3) c_2
        have hqe : q = ft1 := (by omega)
        rw [hqe] at hw h_cx h_cy h_mn h_kd h_st h_gb h_it h_pa h_pb h_rk h_wd h_tw
        obtain ⟨hP9, hD9⟩ := zu_sub (wc := [(om k0 a (upd (upd I0 0 (nI ft1)) 42 (nI w)) J0), (oa (a 1) cI 201 kd1), (oa (a 5) cI 201 st1), (oa (a 7) cI 201 gb1), (oa (a 10) cI 201 it1), (oa (a 8) cI 201 pa1), (oa (a 9) cI 201 pb1), (oa (a 2) cI 201 rk1), (oa (a 3) cI 201 wd1), (oa (a 4) cI 201 tw1), (oa (a 6) cZ 201 tn), (oa (a 11) cI 201 mn1), (oa (a 12) cI 8040 cx1), (oa (a 13) cI 8040 cy1), (oa (a 27) cI 516 sa), (oa (a 28) cI (4096 * cp) sh)]) hP hD [true, true, true, true, true, true, true, true, true, true, true, true, true, true, true, true] rfl rfl
        have hE9 : ([(om k0 a (upd (upd I0 0 (nI ft1)) 42 (nI w)) J0), (oa (a 1) cI 201 kd1), (oa (a 5) cI 201 st1), (oa (a 7) cI 201 gb1), (oa (a 10) cI 201 it1), (oa (a 8) cI 201 pa1), (oa (a 9) cI 201 pb1), (oa (a 2) cI 201 rk1), (oa (a 3) cI 201 wd1), (oa (a 4) cI 201 tw1), (oa (a 6) cZ 201 tn), (oa (a 11) cI 201 mn1), (oa (a 12) cI 8040 cx1), (oa (a 13) cI 8040 cy1), (oa (a 27) cI 516 sa), (oa (a 28) cI (4096 * cp) sh)] : va_W) = [(om k0 a (upd (upd I0 0 (nI ft1)) 42 (nI (psN nn w0 ft1))) J0), (oa (a 1) cI 201 (rsA ft1 (fun g => D g 0) kd)), (oa (a 5) cI 201 (rsA ft1 (fun g => D g 1) st)), (oa (a 7) cI 201 (rsA ft1 (fun g => D g 2) gb)), (oa (a 10) cI 201 (rsA ft1 (fun g => D g 3) it)), (oa (a 8) cI 201 (rsA ft1 (fun g => D g 4) pa)), (oa (a 9) cI 201 (rsA ft1 (fun g => D g 5) pb)), (oa (a 2) cI 201 (rsA ft1 (fun g => D g 6) rk)), (oa (a 3) cI 201 (rsA ft1 (fun g => D g 7) wd)), (oa (a 4) cI 201 (rsA ft1 (fun g => D g 8) tw)), (oa (a 6) cZ 201 tn), (oa (a 11) cI 201 (rsM ft1 D nn tn mn)), (oa (a 12) cI 8040 (rsC ft1 0 D nn 10 cx)), (oa (a 13) cI 8040 (rsC ft1 0 D nn 11 cy)), (oa (a 27) cI 516 sa), (oa (a 28) cI (4096 * cp) sh)] := by rw [hw, h_cx, h_cy, h_mn, h_kd, h_st, h_gb, h_it, h_pa, h_pb, h_rk, h_wd, h_tw]
        rw [hE9] at hP9 hD9
        rw [hQ9]
        exact W.vret hx hb hr (fun t ht hW => ⟨⟨rfl, by rw [ht]; exact hP9, hD9⟩, hS.F ht⟩) hS.2.2 dX11_restore_201
      · have c_2 : ((q : Nat) : Int) < ((ft1 : Nat) : Int) := zc_nle (nI_toInt b9_4) (nI_toInt b9_3) c_2
        have hmo := psN_mono nn w0 (f := q) (g := ft1) (by omega)
        have hq40 := hn40 q (by omega)
        refine lv_aload_n hx hb dX11_restore_28 rfl (lv_at hl 1 rfl) ?_
        refine va_get (D := (dC, dI)) (ci := 9) (v := .ref (a 1)) (C := RX11) (T := TX11) (N := 55) hx hb hts inX11 hown hK hP 0 rfl rfl 1 (Nat.le_of_ble_eq_true rfl) (hts _ mw_1160) (fun _ h9 => h9) rfl dX11_restore_29 ?_
        refine lv_iload_n hx hb dX11_restore_32 rfl (lv_at hl 0 rfl) ?_
        refine lv_aload_n hx hb dX11_restore_33 rfl (lv_at hl 1 rfl) ?_
        obtain ⟨hPc, hDc, hFc⟩ := zo_sub (wc := [_, _]) hP hD hS hA [0, 15] rfl rfl
        refine zcall (st1 := [.int (sh w), .int (nI q), .ref (a 1)]) (va_runV (As := []) (rest := [.int (nI q), .ref (a 1)]) ⟨hx, hb, hml, hown, hts⟩ (k_M_next l dC dI cI cZ cF H.size k0 a (upd (upd I0 0 (nI ft1)) 42 (nI w)) J0 w cp sh (rfl) (by first | with_reducible assumption | omega) (by first | with_reducible assumption | omega)) (csV_194 hts rfl rfl ⟨Nat.le_of_ble_eq_true rfl, Nat.le_of_ble_eq_true rfl⟩) (zPV2 (q0 := 0) (ci := 9) hPc hDc hK hXN rfl rfl) rfl rfl hl.1 rfl (lv_room (Nat.le_of_ble_eq_true rfl)) dX11_restore_34 ⟨Nat.le_of_ble_eq_true rfl, Nat.le_of_ble_eq_true rfl⟩) hS hFc hFc rfl (fun t H locs ht hB hk1 hS => ?_)
        obtain ⟨hP1, hD1⟩ := hB
        rw [ht] at hP1
        obtain ⟨hP, hD⟩ := zn (W2 := [(om k0 a (upd (upd I0 0 (nI ft1)) 42 (nI (w + 1))) J0), _, _, _, _, _, _, _, _, _, _, _, _, _, _, _]) hP hD hk1 hFc hP1 hD1 [0, 15] zl_163 zl_166 [0, 15] (by decide +kernel) rfl rfl rfl rfl rfl
        clear hk1 hPc hDc hFc hP1 hD1 ht
        refine zz_i (v := D q 0) ((show sh w = D q 0 from by rw [show w = psN nn w0 q + 0 by omega]; exact hblk q (by omega) _ (by omega))) ?_
        have b9_5 : q < 201 := by omega
        refine z_iast hx hb hK hP hD hS 1 0 rfl rfl (e := q) (x := D q 0) rfl b9_5 (Nat.le_of_ble_eq_true rfl) dX11_restore_37 (fun H locs hP hD hS => ?_)
        obtain ⟨hP, hD⟩ := zre (W2 := [_, (oa (a 1) cI 201 (upd kd1 q (D q 0))), _, _, _, _, _, _, _, _, _, _, _, _, _, _]) hP hD rfl
        refine lv_aload_n hx hb dX11_restore_38 rfl (lv_at hl 1 rfl) ?_
        refine va_get (D := (dC, dI)) (ci := 9) (v := .ref (a 5)) (C := RX11) (T := TX11) (N := 55) hx hb hts inX11 hown hK hP 0 rfl rfl 5 (Nat.le_of_ble_eq_true rfl) (hts _ mw_1164) (fun _ h9 => h9) rfl dX11_restore_39 ?_
        refine lv_iload_n hx hb dX11_restore_42 rfl (lv_at hl 0 rfl) ?_
        refine lv_aload_n hx hb dX11_restore_43 rfl (lv_at hl 1 rfl) ?_
        obtain ⟨hPc, hDc, hFc⟩ := zo_sub (wc := [_, _]) hP hD hS hA [0, 15] rfl rfl
        refine zcall (st1 := [.int (sh (w + 1)), .int (nI q), .ref (a 5)]) (va_runV (As := []) (rest := [.int (nI q), .ref (a 5)]) ⟨hx, hb, hml, hown, hts⟩ (k_M_next l dC dI cI cZ cF H.size k0 a (upd (upd I0 0 (nI ft1)) 42 (nI (w + 1))) J0 (w + 1) cp sh (rfl) (by first | with_reducible assumption | omega) (by first | with_reducible assumption | omega)) (csV_194 hts rfl rfl ⟨Nat.le_of_ble_eq_true rfl, Nat.le_of_ble_eq_true rfl⟩) (zPV2 (q0 := 0) (ci := 9) hPc hDc hK hXN rfl rfl) rfl rfl hl.1 rfl (lv_room (Nat.le_of_ble_eq_true rfl)) dX11_restore_44 ⟨Nat.le_of_ble_eq_true rfl, Nat.le_of_ble_eq_true rfl⟩) hS hFc hFc rfl (fun t H locs ht hB hk1 hS => ?_)
        obtain ⟨hP1, hD1⟩ := hB
        rw [ht] at hP1
        obtain ⟨hP, hD⟩ := zn (W2 := [(om k0 a (upd (upd I0 0 (nI ft1)) 42 (nI ((w + 1) + 1))) J0), _, _, _, _, _, _, _, _, _, _, _, _, _, _, _]) hP hD hk1 hFc hP1 hD1 [0, 15] zl_163 zl_166 [0, 15] (by decide +kernel) rfl rfl rfl rfl rfl
        clear hk1 hPc hDc hFc hP1 hD1 ht
        refine zz_i (v := D q 1) ((show sh (w + 1) = D q 1 from by rw [show w + 1 = psN nn w0 q + 1 by omega]; exact hblk q (by omega) _ (by omega))) ?_
        refine z_iast hx hb hK hP hD hS 2 0 rfl rfl (e := q) (x := D q 1) rfl b9_5 (Nat.le_of_ble_eq_true rfl) dX11_restore_47 (fun H locs hP hD hS => ?_)
        obtain ⟨hP, hD⟩ := zre (W2 := [_, _, (oa (a 5) cI 201 (upd st1 q (D q 1))), _, _, _, _, _, _, _, _, _, _, _, _, _]) hP hD rfl
        refine lv_aload_n hx hb dX11_restore_48 rfl (lv_at hl 1 rfl) ?_
        refine va_get (D := (dC, dI)) (ci := 9) (v := .ref (a 7)) (C := RX11) (T := TX11) (N := 55) hx hb hts inX11 hown hK hP 0 rfl rfl 7 (Nat.le_of_ble_eq_true rfl) (hts _ mw_1166) (fun _ h9 => h9) rfl dX11_restore_49 ?_
        refine lv_iload_n hx hb dX11_restore_52 rfl (lv_at hl 0 rfl) ?_
        refine lv_aload_n hx hb dX11_restore_53 rfl (lv_at hl 1 rfl) ?_
        obtain ⟨hPc, hDc, hFc⟩ := zo_sub (wc := [_, _]) hP hD hS hA [0, 15] rfl rfl
        refine zcall (st1 := [.int (sh ((w + 1) + 1)), .int (nI q), .ref (a 7)]) (va_runV (As := []) (rest := [.int (nI q), .ref (a 7)]) ⟨hx, hb, hml, hown, hts⟩ (k_M_next l dC dI cI cZ cF H.size k0 a (upd (upd I0 0 (nI ft1)) 42 (nI ((w + 1) + 1))) J0 ((w + 1) + 1) cp sh (rfl) (by first | with_reducible assumption | omega) (by first | with_reducible assumption | omega)) (csV_194 hts rfl rfl ⟨Nat.le_of_ble_eq_true rfl, Nat.le_of_ble_eq_true rfl⟩) (zPV2 (q0 := 0) (ci := 9) hPc hDc hK hXN rfl rfl) rfl rfl hl.1 rfl (lv_room (Nat.le_of_ble_eq_true rfl)) dX11_restore_54 ⟨Nat.le_of_ble_eq_true rfl, Nat.le_of_ble_eq_true rfl⟩) hS hFc hFc rfl (fun t H locs ht hB hk1 hS => ?_)
        obtain ⟨hP1, hD1⟩ := hB
        rw [ht] at hP1
        obtain ⟨hP, hD⟩ := zn (W2 := [(om k0 a (upd (upd I0 0 (nI ft1)) 42 (nI (((w + 1) + 1) + 1))) J0), _, _, _, _, _, _, _, _, _, _, _, _, _, _, _]) hP hD hk1 hFc hP1 hD1 [0, 15] zl_163 zl_166 [0, 15] (by decide +kernel) rfl rfl rfl rfl rfl
        clear hk1 hPc hDc hFc hP1 hD1 ht
        refine zz_i (v := D q 2) ((show sh ((w + 1) + 1) = D q 2 from by rw [show (w + 1) + 1 = psN nn w0 q + 2 by omega]; exact hblk q (by omega) _ (by omega))) ?_
        refine z_iast hx hb hK hP hD hS 3 0 rfl rfl (e := q) (x := D q 2) rfl b9_5 (Nat.le_of_ble_eq_true rfl) dX11_restore_57 (fun H locs hP hD hS => ?_)
        obtain ⟨hP, hD⟩ := zre (W2 := [_, _, _, (oa (a 7) cI 201 (upd gb1 q (D q 2))), _, _, _, _, _, _, _, _, _, _, _, _]) hP hD rfl
        refine lv_aload_n hx hb dX11_restore_58 rfl (lv_at hl 1 rfl) ?_
        refine va_get (D := (dC, dI)) (ci := 9) (v := .ref (a 10)) (C := RX11) (T := TX11) (N := 55) hx hb hts inX11 hown hK hP 0 rfl rfl 10 (Nat.le_of_ble_eq_true rfl) (hts _ mw_1169) (fun _ h9 => h9) rfl dX11_restore_59 ?_
        refine lv_iload_n hx hb dX11_restore_62 rfl (lv_at hl 0 rfl) ?_
        refine lv_aload_n hx hb dX11_restore_63 rfl (lv_at hl 1 rfl) ?_
        obtain ⟨hPc, hDc, hFc⟩ := zo_sub (wc := [_, _]) hP hD hS hA [0, 15] rfl rfl
        refine zcall (st1 := [.int (sh (((w + 1) + 1) + 1)), .int (nI q), .ref (a 10)]) (va_runV (As := []) (rest := [.int (nI q), .ref (a 10)]) ⟨hx, hb, hml, hown, hts⟩ (k_M_next l dC dI cI cZ cF H.size k0 a (upd (upd I0 0 (nI ft1)) 42 (nI (((w + 1) + 1) + 1))) J0 (((w + 1) + 1) + 1) cp sh (rfl) (by first | with_reducible assumption | omega) (by first | with_reducible assumption | omega)) (csV_194 hts rfl rfl ⟨Nat.le_of_ble_eq_true rfl, Nat.le_of_ble_eq_true rfl⟩) (zPV2 (q0 := 0) (ci := 9) hPc hDc hK hXN rfl rfl) rfl rfl hl.1 rfl (lv_room (Nat.le_of_ble_eq_true rfl)) dX11_restore_64 ⟨Nat.le_of_ble_eq_true rfl, Nat.le_of_ble_eq_true rfl⟩) hS hFc hFc rfl (fun t H locs ht hB hk1 hS => ?_)
        obtain ⟨hP1, hD1⟩ := hB
        rw [ht] at hP1
        obtain ⟨hP, hD⟩ := zn (W2 := [(om k0 a (upd (upd I0 0 (nI ft1)) 42 (nI ((((w + 1) + 1) + 1) + 1))) J0), _, _, _, _, _, _, _, _, _, _, _, _, _, _, _]) hP hD hk1 hFc hP1 hD1 [0, 15] zl_163 zl_166 [0, 15] (by decide +kernel) rfl rfl rfl rfl rfl
        clear hk1 hPc hDc hFc hP1 hD1 ht
        refine zz_i (v := D q 3) ((show sh (((w + 1) + 1) + 1) = D q 3 from by rw [show ((w + 1) + 1) + 1 = psN nn w0 q + 3 by omega]; exact hblk q (by omega) _ (by omega))) ?_
        refine z_iast hx hb hK hP hD hS 4 0 rfl rfl (e := q) (x := D q 3) rfl b9_5 (Nat.le_of_ble_eq_true rfl) dX11_restore_67 (fun H locs hP hD hS => ?_)
        obtain ⟨hP, hD⟩ := zre (W2 := [_, _, _, _, (oa (a 10) cI 201 (upd it1 q (D q 3))), _, _, _, _, _, _, _, _, _, _, _]) hP hD rfl
        refine lv_aload_n hx hb dX11_restore_68 rfl (lv_at hl 1 rfl) ?_
        refine va_get (D := (dC, dI)) (ci := 9) (v := .ref (a 8)) (C := RX11) (T := TX11) (N := 55) hx hb hts inX11 hown hK hP 0 rfl rfl 8 (Nat.le_of_ble_eq_true rfl) (hts _ mw_1167) (fun _ h9 => h9) rfl dX11_restore_69 ?_
        refine lv_iload_n hx hb dX11_restore_72 rfl (lv_at hl 0 rfl) ?_
        refine lv_aload_n hx hb dX11_restore_73 rfl (lv_at hl 1 rfl) ?_
        obtain ⟨hPc, hDc, hFc⟩ := zo_sub (wc := [_, _]) hP hD hS hA [0, 15] rfl rfl
        refine zcall (st1 := [.int (sh ((((w + 1) + 1) + 1) + 1)), .int (nI q), .ref (a 8)]) (va_runV (As := []) (rest := [.int (nI q), .ref (a 8)]) ⟨hx, hb, hml, hown, hts⟩ (k_M_next l dC dI cI cZ cF H.size k0 a (upd (upd I0 0 (nI ft1)) 42 (nI ((((w + 1) + 1) + 1) + 1))) J0 ((((w + 1) + 1) + 1) + 1) cp sh (rfl) (by first | with_reducible assumption | omega) (by first | with_reducible assumption | omega)) (csV_194 hts rfl rfl ⟨Nat.le_of_ble_eq_true rfl, Nat.le_of_ble_eq_true rfl⟩) (zPV2 (q0 := 0) (ci := 9) hPc hDc hK hXN rfl rfl) rfl rfl hl.1 rfl (lv_room (Nat.le_of_ble_eq_true rfl)) dX11_restore_74 ⟨Nat.le_of_ble_eq_true rfl, Nat.le_of_ble_eq_true rfl⟩) hS hFc hFc rfl (fun t H locs ht hB hk1 hS => ?_)
        obtain ⟨hP1, hD1⟩ := hB
        rw [ht] at hP1
        obtain ⟨hP, hD⟩ := zn (W2 := [(om k0 a (upd (upd I0 0 (nI ft1)) 42 (nI (((((w + 1) + 1) + 1) + 1) + 1))) J0), _, _, _, _, _, _, _, _, _, _, _, _, _, _, _]) hP hD hk1 hFc hP1 hD1 [0, 15] zl_163 zl_166 [0, 15] (by decide +kernel) rfl rfl rfl rfl rfl
        clear hk1 hPc hDc hFc hP1 hD1 ht
        refine zz_i (v := D q 4) ((show sh ((((w + 1) + 1) + 1) + 1) = D q 4 from by rw [show (((w + 1) + 1) + 1) + 1 = psN nn w0 q + 4 by omega]; exact hblk q (by omega) _ (by omega))) ?_
        refine z_iast hx hb hK hP hD hS 5 0 rfl rfl (e := q) (x := D q 4) rfl b9_5 (Nat.le_of_ble_eq_true rfl) dX11_restore_77 (fun H locs hP hD hS => ?_)
        obtain ⟨hP, hD⟩ := zre (W2 := [_, _, _, _, _, (oa (a 8) cI 201 (upd pa1 q (D q 4))), _, _, _, _, _, _, _, _, _, _]) hP hD rfl
        refine lv_aload_n hx hb dX11_restore_78 rfl (lv_at hl 1 rfl) ?_
        refine va_get (D := (dC, dI)) (ci := 9) (v := .ref (a 9)) (C := RX11) (T := TX11) (N := 55) hx hb hts inX11 hown hK hP 0 rfl rfl 9 (Nat.le_of_ble_eq_true rfl) (hts _ mw_1168) (fun _ h9 => h9) rfl dX11_restore_79 ?_
        refine lv_iload_n hx hb dX11_restore_82 rfl (lv_at hl 0 rfl) ?_
        refine lv_aload_n hx hb dX11_restore_83 rfl (lv_at hl 1 rfl) ?_
        obtain ⟨hPc, hDc, hFc⟩ := zo_sub (wc := [_, _]) hP hD hS hA [0, 15] rfl rfl
        refine zcall (st1 := [.int (sh (((((w + 1) + 1) + 1) + 1) + 1)), .int (nI q), .ref (a 9)]) (va_runV (As := []) (rest := [.int (nI q), .ref (a 9)]) ⟨hx, hb, hml, hown, hts⟩ (k_M_next l dC dI cI cZ cF H.size k0 a (upd (upd I0 0 (nI ft1)) 42 (nI (((((w + 1) + 1) + 1) + 1) + 1))) J0 (((((w + 1) + 1) + 1) + 1) + 1) cp sh (rfl) (by first | with_reducible assumption | omega) (by first | with_reducible assumption | omega)) (csV_194 hts rfl rfl ⟨Nat.le_of_ble_eq_true rfl, Nat.le_of_ble_eq_true rfl⟩) (zPV2 (q0 := 0) (ci := 9) hPc hDc hK hXN rfl rfl) rfl rfl hl.1 rfl (lv_room (Nat.le_of_ble_eq_true rfl)) dX11_restore_84 ⟨Nat.le_of_ble_eq_true rfl, Nat.le_of_ble_eq_true rfl⟩) hS hFc hFc rfl (fun t H locs ht hB hk1 hS => ?_)
        obtain ⟨hP1, hD1⟩ := hB
        rw [ht] at hP1
        obtain ⟨hP, hD⟩ := zn (W2 := [(om k0 a (upd (upd I0 0 (nI ft1)) 42 (nI ((((((w + 1) + 1) + 1) + 1) + 1) + 1))) J0), _, _, _, _, _, _, _, _, _, _, _, _, _, _, _]) hP hD hk1 hFc hP1 hD1 [0, 15] zl_163 zl_166 [0, 15] (by decide +kernel) rfl rfl rfl rfl rfl
        clear hk1 hPc hDc hFc hP1 hD1 ht
        refine zz_i (v := D q 5) ((show sh (((((w + 1) + 1) + 1) + 1) + 1) = D q 5 from by rw [show ((((w + 1) + 1) + 1) + 1) + 1 = psN nn w0 q + 5 by omega]; exact hblk q (by omega) _ (by omega))) ?_
        refine z_iast hx hb hK hP hD hS 6 0 rfl rfl (e := q) (x := D q 5) rfl b9_5 (Nat.le_of_ble_eq_true rfl) dX11_restore_87 (fun H locs hP hD hS => ?_)
        obtain ⟨hP, hD⟩ := zre (W2 := [_, _, _, _, _, _, (oa (a 9) cI 201 (upd pb1 q (D q 5))), _, _, _, _, _, _, _, _, _]) hP hD rfl
        refine lv_aload_n hx hb dX11_restore_88 rfl (lv_at hl 1 rfl) ?_
        refine va_get (D := (dC, dI)) (ci := 9) (v := .ref (a 2)) (C := RX11) (T := TX11) (N := 55) hx hb hts inX11 hown hK hP 0 rfl rfl 2 (Nat.le_of_ble_eq_true rfl) (hts _ mw_1161) (fun _ h9 => h9) rfl dX11_restore_89 ?_
        refine lv_iload_n hx hb dX11_restore_92 rfl (lv_at hl 0 rfl) ?_
        refine lv_aload_n hx hb dX11_restore_93 rfl (lv_at hl 1 rfl) ?_
        obtain ⟨hPc, hDc, hFc⟩ := zo_sub (wc := [_, _]) hP hD hS hA [0, 15] rfl rfl
        refine zcall (st1 := [.int (sh ((((((w + 1) + 1) + 1) + 1) + 1) + 1)), .int (nI q), .ref (a 2)]) (va_runV (As := []) (rest := [.int (nI q), .ref (a 2)]) ⟨hx, hb, hml, hown, hts⟩ (k_M_next l dC dI cI cZ cF H.size k0 a (upd (upd I0 0 (nI ft1)) 42 (nI ((((((w + 1) + 1) + 1) + 1) + 1) + 1))) J0 ((((((w + 1) + 1) + 1) + 1) + 1) + 1) cp sh (rfl) (by first | with_reducible assumption | omega) (by first | with_reducible assumption | omega)) (csV_194 hts rfl rfl ⟨Nat.le_of_ble_eq_true rfl, Nat.le_of_ble_eq_true rfl⟩) (zPV2 (q0 := 0) (ci := 9) hPc hDc hK hXN rfl rfl) rfl rfl hl.1 rfl (lv_room (Nat.le_of_ble_eq_true rfl)) dX11_restore_94 ⟨Nat.le_of_ble_eq_true rfl, Nat.le_of_ble_eq_true rfl⟩) hS hFc hFc rfl (fun t H locs ht hB hk1 hS => ?_)
        obtain ⟨hP1, hD1⟩ := hB
        rw [ht] at hP1
        obtain ⟨hP, hD⟩ := zn (W2 := [(om k0 a (upd (upd I0 0 (nI ft1)) 42 (nI (((((((w + 1) + 1) + 1) + 1) + 1) + 1) + 1))) J0), _, _, _, _, _, _, _, _, _, _, _, _, _, _, _]) hP hD hk1 hFc hP1 hD1 [0, 15] zl_163 zl_166 [0, 15] (by decide +kernel) rfl rfl rfl rfl rfl
        clear hk1 hPc hDc hFc hP1 hD1 ht
        refine zz_i (v := D q 6) ((show sh ((((((w + 1) + 1) + 1) + 1) + 1) + 1) = D q 6 from by rw [show (((((w + 1) + 1) + 1) + 1) + 1) + 1 = psN nn w0 q + 6 by omega]; exact hblk q (by omega) _ (by omega))) ?_
        refine z_iast hx hb hK hP hD hS 7 0 rfl rfl (e := q) (x := D q 6) rfl b9_5 (Nat.le_of_ble_eq_true rfl) dX11_restore_97 (fun H locs hP hD hS => ?_)
        obtain ⟨hP, hD⟩ := zre (W2 := [_, _, _, _, _, _, _, (oa (a 2) cI 201 (upd rk1 q (D q 6))), _, _, _, _, _, _, _, _]) hP hD rfl
        refine lv_aload_n hx hb dX11_restore_98 rfl (lv_at hl 1 rfl) ?_
        refine va_get (D := (dC, dI)) (ci := 9) (v := .ref (a 3)) (C := RX11) (T := TX11) (N := 55) hx hb hts inX11 hown hK hP 0 rfl rfl 3 (Nat.le_of_ble_eq_true rfl) (hts _ mw_1162) (fun _ h9 => h9) rfl dX11_restore_99 ?_
        refine lv_iload_n hx hb dX11_restore_102 rfl (lv_at hl 0 rfl) ?_
        refine lv_aload_n hx hb dX11_restore_103 rfl (lv_at hl 1 rfl) ?_
        obtain ⟨hPc, hDc, hFc⟩ := zo_sub (wc := [_, _]) hP hD hS hA [0, 15] rfl rfl
        refine zcall (st1 := [.int (sh (((((((w + 1) + 1) + 1) + 1) + 1) + 1) + 1)), .int (nI q), .ref (a 3)]) (va_runV (As := []) (rest := [.int (nI q), .ref (a 3)]) ⟨hx, hb, hml, hown, hts⟩ (k_M_next l dC dI cI cZ cF H.size k0 a (upd (upd I0 0 (nI ft1)) 42 (nI (((((((w + 1) + 1) + 1) + 1) + 1) + 1) + 1))) J0 (((((((w + 1) + 1) + 1) + 1) + 1) + 1) + 1) cp sh (rfl) (by first | with_reducible assumption | omega) (by first | with_reducible assumption | omega)) (csV_194 hts rfl rfl ⟨Nat.le_of_ble_eq_true rfl, Nat.le_of_ble_eq_true rfl⟩) (zPV2 (q0 := 0) (ci := 9) hPc hDc hK hXN rfl rfl) rfl rfl hl.1 rfl (lv_room (Nat.le_of_ble_eq_true rfl)) dX11_restore_104 ⟨Nat.le_of_ble_eq_true rfl, Nat.le_of_ble_eq_true rfl⟩) hS hFc hFc rfl (fun t H locs ht hB hk1 hS => ?_)
        obtain ⟨hP1, hD1⟩ := hB
        rw [ht] at hP1
        obtain ⟨hP, hD⟩ := zn (W2 := [(om k0 a (upd (upd I0 0 (nI ft1)) 42 (nI ((((((((w + 1) + 1) + 1) + 1) + 1) + 1) + 1) + 1))) J0), _, _, _, _, _, _, _, _, _, _, _, _, _, _, _]) hP hD hk1 hFc hP1 hD1 [0, 15] zl_163 zl_166 [0, 15] (by decide +kernel) rfl rfl rfl rfl rfl
        clear hk1 hPc hDc hFc hP1 hD1 ht
        refine zz_i (v := D q 7) ((show sh (((((((w + 1) + 1) + 1) + 1) + 1) + 1) + 1) = D q 7 from by rw [show ((((((w + 1) + 1) + 1) + 1) + 1) + 1) + 1 = psN nn w0 q + 7 by omega]; exact hblk q (by omega) _ (by omega))) ?_
        refine z_iast hx hb hK hP hD hS 8 0 rfl rfl (e := q) (x := D q 7) rfl b9_5 (Nat.le_of_ble_eq_true rfl) dX11_restore_107 (fun H locs hP hD hS => ?_)
        obtain ⟨hP, hD⟩ := zre (W2 := [_, _, _, _, _, _, _, _, (oa (a 3) cI 201 (upd wd1 q (D q 7))), _, _, _, _, _, _, _]) hP hD rfl
        refine lv_aload_n hx hb dX11_restore_108 rfl (lv_at hl 1 rfl) ?_
        refine va_get (D := (dC, dI)) (ci := 9) (v := .ref (a 4)) (C := RX11) (T := TX11) (N := 55) hx hb hts inX11 hown hK hP 0 rfl rfl 4 (Nat.le_of_ble_eq_true rfl) (hts _ mw_1163) (fun _ h9 => h9) rfl dX11_restore_109 ?_
        refine lv_iload_n hx hb dX11_restore_112 rfl (lv_at hl 0 rfl) ?_
        refine lv_aload_n hx hb dX11_restore_113 rfl (lv_at hl 1 rfl) ?_
        obtain ⟨hPc, hDc, hFc⟩ := zo_sub (wc := [_, _]) hP hD hS hA [0, 15] rfl rfl
        refine zcall (st1 := [.int (sh ((((((((w + 1) + 1) + 1) + 1) + 1) + 1) + 1) + 1)), .int (nI q), .ref (a 4)]) (va_runV (As := []) (rest := [.int (nI q), .ref (a 4)]) ⟨hx, hb, hml, hown, hts⟩ (k_M_next l dC dI cI cZ cF H.size k0 a (upd (upd I0 0 (nI ft1)) 42 (nI ((((((((w + 1) + 1) + 1) + 1) + 1) + 1) + 1) + 1))) J0 ((((((((w + 1) + 1) + 1) + 1) + 1) + 1) + 1) + 1) cp sh (rfl) (by first | with_reducible assumption | omega) (by first | with_reducible assumption | omega)) (csV_194 hts rfl rfl ⟨Nat.le_of_ble_eq_true rfl, Nat.le_of_ble_eq_true rfl⟩) (zPV2 (q0 := 0) (ci := 9) hPc hDc hK hXN rfl rfl) rfl rfl hl.1 rfl (lv_room (Nat.le_of_ble_eq_true rfl)) dX11_restore_114 ⟨Nat.le_of_ble_eq_true rfl, Nat.le_of_ble_eq_true rfl⟩) hS hFc hFc rfl (fun t H locs ht hB hk1 hS => ?_)
        obtain ⟨hP1, hD1⟩ := hB
        rw [ht] at hP1
        obtain ⟨hP, hD⟩ := zn (W2 := [(om k0 a (upd (upd I0 0 (nI ft1)) 42 (nI (((((((((w + 1) + 1) + 1) + 1) + 1) + 1) + 1) + 1) + 1))) J0), _, _, _, _, _, _, _, _, _, _, _, _, _, _, _]) hP hD hk1 hFc hP1 hD1 [0, 15] zl_163 zl_166 [0, 15] (by decide +kernel) rfl rfl rfl rfl rfl
        clear hk1 hPc hDc hFc hP1 hD1 ht
        refine zz_i (v := D q 8) ((show sh ((((((((w + 1) + 1) + 1) + 1) + 1) + 1) + 1) + 1) = D q 8 from by rw [show (((((((w + 1) + 1) + 1) + 1) + 1) + 1) + 1) + 1 = psN nn w0 q + 8 by omega]; exact hblk q (by omega) _ (by omega))) ?_
        refine z_iast hx hb hK hP hD hS 9 0 rfl rfl (e := q) (x := D q 8) rfl b9_5 (Nat.le_of_ble_eq_true rfl) dX11_restore_117 (fun H locs hP hD hS => ?_)
        obtain ⟨hP, hD⟩ := zre (W2 := [_, _, _, _, _, _, _, _, _, (oa (a 4) cI 201 (upd tw1 q (D q 8))), _, _, _, _, _, _]) hP hD rfl
        refine lv_aload_n hx hb dX11_restore_118 rfl (lv_at hl 1 rfl) ?_
        obtain ⟨hPc, hDc, hFc⟩ := zo_sub (wc := [_, _]) hP hD hS hA [0, 15] rfl rfl
        refine zcall (st1 := [.int (sh (((((((((w + 1) + 1) + 1) + 1) + 1) + 1) + 1) + 1) + 1))]) (va_runV (As := []) (rest := []) ⟨hx, hb, hml, hown, hts⟩ (k_M_next l dC dI cI cZ cF H.size k0 a (upd (upd I0 0 (nI ft1)) 42 (nI (((((((((w + 1) + 1) + 1) + 1) + 1) + 1) + 1) + 1) + 1))) J0 (((((((((w + 1) + 1) + 1) + 1) + 1) + 1) + 1) + 1) + 1) cp sh (rfl) (by first | with_reducible assumption | omega) (by first | with_reducible assumption | omega)) (csV_194 hts rfl rfl ⟨Nat.le_of_ble_eq_true rfl, Nat.le_of_ble_eq_true rfl⟩) (zPV2 (q0 := 0) (ci := 9) hPc hDc hK hXN rfl rfl) rfl rfl hl.1 rfl (lv_room (Nat.le_of_ble_eq_true rfl)) dX11_restore_119 ⟨Nat.le_of_ble_eq_true rfl, Nat.le_of_ble_eq_true rfl⟩) hS hFc hFc rfl (fun t H locs ht hB hk1 hS => ?_)
        obtain ⟨hP1, hD1⟩ := hB
        rw [ht] at hP1
        obtain ⟨hP, hD⟩ := zn (W2 := [(om k0 a (upd (upd I0 0 (nI ft1)) 42 (nI ((((((((((w + 1) + 1) + 1) + 1) + 1) + 1) + 1) + 1) + 1) + 1))) J0), _, _, _, _, _, _, _, _, _, _, _, _, _, _, _]) hP hD hk1 hFc hP1 hD1 [0, 15] zl_163 zl_166 [0, 15] (by decide +kernel) rfl rfl rfl rfl rfl
        clear hk1 hPc hDc hFc hP1 hD1 ht
        refine zz_i (v := nI (nn q)) ((show sh (((((((((w + 1) + 1) + 1) + 1) + 1) + 1) + 1) + 1) + 1) = D q 9 from by rw [show ((((((((w + 1) + 1) + 1) + 1) + 1) + 1) + 1) + 1) + 1 = psN nn w0 q + 9 by omega]; exact hblk q (by omega) _ (by omega)).trans (h9 q (by omega))) ?_
        refine lv_istore_n (lv' := [(3, .int (nI (nn q))), (2, .int (nI q)), (0, .ref k0), (1, .int (nI i))]) hx hb dX11_restore_122 rfl hl (Nat.le_of_ble_eq_true rfl) rfl (fun ls hl => ?_)
        refine lv_aload_n hx hb dX11_restore_123 rfl (lv_at hl 2 rfl) ?_
        refine va_get (D := (dC, dI)) (ci := 9) (v := .ref (a 5)) (C := RX11) (T := TX11) (N := 55) hx hb hts inX11 hown hK hP 0 rfl rfl 5 (Nat.le_of_ble_eq_true rfl) (hts _ mw_1164) (fun _ h9 => h9) rfl dX11_restore_124 ?_
        refine lv_iload_n hx hb dX11_restore_127 rfl (lv_at hl 1 rfl) ?_
        refine z_iald hx hb hK hP 2 0 rfl rfl (e := q) rfl b9_5 (Nat.le_of_ble_eq_true rfl) dX11_restore_128 ?_
        refine zz_i (v := D q 1) (up_at _ _ _) ?_
        refine lv_if_eq (tgt := 148) hx hb dX11_restore_129 rfl (fun c_6 => ?_) (fun c_6 => ?_)
        · have c_6 : (D q 1).toInt = 0 := zc_eq rfl rfl c_6
          refine lv_iconst (v := 0) hx hb dX11_restore_148 rfl ?_
          refine lv_istore (lv' := [(4, .int 0), (3, .int (nI (nn q))), (2, .int (nI q)), (0, .ref k0), (1, .int (nI i))]) hx hb dX11_restore_149 hl (Nat.le_of_ble_eq_true rfl) rfl (fun ls hl => ?_)
          have hl_151 : ∀ (n9 : Nat) (k : Nat) (w2 : Nat) (cx2 : Nat → Int32) (cy2 : Nat → Int32) (H : Heap) (locs : List Loc) (ls : Array Slot), nn q - k < n9 → (k ≤ nn q) → (w2 = psN nn w0 q + 10 + 2 * k) → (cx2 = rsC q k D nn 10 cx) → (cy2 = rsC q k D nn 11 cy) → va_P (dC, dI) classes [(om k0 a (upd (upd I0 0 (nI ft1)) 42 (nI w2)) J0), (oa (a 1) cI 201 (upd kd1 q (D q 0))), (oa (a 5) cI 201 (upd st1 q (D q 1))), (oa (a 7) cI 201 (upd gb1 q (D q 2))), (oa (a 10) cI 201 (upd it1 q (D q 3))), (oa (a 8) cI 201 (upd pa1 q (D q 4))), (oa (a 9) cI 201 (upd pb1 q (D q 5))), (oa (a 2) cI 201 (upd rk1 q (D q 6))), (oa (a 3) cI 201 (upd wd1 q (D q 7))), (oa (a 4) cI 201 (upd tw1 q (D q 8))), (oa (a 6) cZ 201 tn), (oa (a 11) cI 201 mn1), (oa (a 12) cI 8040 cx2), (oa (a 13) cI 8040 cy2), (oa (a 27) cI 516 sa), (oa (a 28) cI (4096 * cp) sh)] H → va_D A [(om k0 a (upd (upd I0 0 (nI ft1)) 42 (nI w2)) J0), (oa (a 1) cI 201 (upd kd1 q (D q 0))), (oa (a 5) cI 201 (upd st1 q (D q 1))), (oa (a 7) cI 201 (upd gb1 q (D q 2))), (oa (a 10) cI 201 (upd it1 q (D q 3))), (oa (a 8) cI 201 (upd pa1 q (D q 4))), (oa (a 9) cI 201 (upd pb1 q (D q 5))), (oa (a 2) cI 201 (upd rk1 q (D q 6))), (oa (a 3) cI 201 (upd wd1 q (D q 7))), (oa (a 4) cI 201 (upd tw1 q (D q 8))), (oa (a 6) cZ 201 tn), (oa (a 11) cI 201 mn1), (oa (a 12) cI 8040 cx2), (oa (a 13) cI 8040 cy2), (oa (a 27) cI 516 sa), (oa (a 28) cI (4096 * cp) sh)] → va_S A s.heap H locs → lv_has ls 5 [(4, .int (nI k)), (3, .int (nI (nn q))), (2, .int (nI q)), (0, .ref k0), (1, .int (nI i))] → W p l e ({ frames := 1, cells := 0, slots := 0, locals := 20 } : Room) s m ([.ref k0, .int (nI i)] : List Value).toArray below meth c H locs 0 0 Q9 (F0 m 151 ls []) := by
            intro n9
            induction n9 with
            | zero => intro k w2 cx2 cy2 H locs ls hm; exact absurd hm (Nat.not_lt_zero _)
            | succ n9 ih_151 =>
              intro k w2 cx2 cy2 H locs ls hm hk hw2 h_cx2 h_cy2 hP hD hS hl
              refine lv_iload hx hb dX11_restore_151 (lv_at hl 0 rfl) ?_
              refine lv_iload_n hx hb dX11_restore_153 rfl (lv_at hl 1 rfl) ?_
              have b9_8 : zlt (k) := show k < 2147483648 by omega
              have b9_9 : zlt ((nn q)) := show (nn q) < 2147483648 by omega
              refine lv_icmp_ge (tgt := 195) hx hb dX11_restore_154 rfl (fun c_7 => ?_) (fun c_7 => ?_)
              · have c_7 : ((nn q : Nat) : Int) ≤ ((k : Nat) : Int) := zc_le (nI_toInt b9_9) (nI_toInt b9_8) c_7
                refine lv_iinc (v := nI (q + 1)) (lv' := [(2, .int (nI (q + 1))), (4, .int (nI k)), (3, .int (nI (nn q))), (0, .ref k0), (1, .int (nI i))]) hx hb dX11_restore_195 hl (k := 2) rfl (nI_add q 1) (Nat.le_of_ble_eq_true rfl) rfl (fun ls hl => ?_)
                refine lv_goto (tgt := 20) hx hb dX11_restore_198 rfl ?_
                exact ih_20 (q + 1) w2 (upd kd1 q (D q 0)) (upd st1 q (D q 1)) (upd gb1 q (D q 2)) (upd it1 q (D q 3)) (upd pa1 q (D q 4)) (upd pb1 q (D q 5)) (upd rk1 q (D q 6)) (upd wd1 q (D q 7)) (upd tw1 q (D q 8)) mn1 cx2 cy2 H locs ls (by first | with_reducible assumption | omega) (by first | with_reducible assumption | omega) (by show _ = psN nn w0 q + (10 + 2 * nn q); omega) (rsA_s h_kd rfl) (rsA_s h_st rfl) (rsA_s h_gb rfl) (rsA_s h_it rfl) (rsA_s h_pa rfl) (rsA_s h_pb rfl) (rsA_s h_rk rfl) (rsA_s h_wd rfl) (rsA_s h_tw rfl) (by first | exact rsM_y h_mn (by first | with_reducible assumption | omega) (by first | with_reducible assumption | omega) | exact rsM_n h_mn (by first | with_reducible assumption | omega)) (rsC_n h_cx2 (by first | with_reducible assumption | omega)) (rsC_n h_cy2 (by first | with_reducible assumption | omega)) hP hD hS (lv_sub hl [0, 3, 4] rfl)
              · have c_7 : ((k : Nat) : Int) < ((nn q : Nat) : Int) := zc_nle (nI_toInt b9_9) (nI_toInt b9_8) c_7
                refine lv_aload_n hx hb dX11_restore_157 rfl (lv_at hl 3 rfl) ?_
                refine va_get (D := (dC, dI)) (ci := 9) (v := .ref (a 12)) (C := RX11) (T := TX11) (N := 55) hx hb hts inX11 hown hK hP 0 rfl rfl 12 (Nat.le_of_ble_eq_true rfl) (hts _ mw_1171) (fun _ h9 => h9) rfl dX11_restore_158 ?_
                refine lv_bipush (v := 40) hx hb dX11_restore_161 rfl ?_
                refine lv_iload_n hx hb dX11_restore_163 rfl (lv_at hl 2 rfl) ?_
                refine lv_imul hx hb dX11_restore_164 ?_
                refine zz_i (v := nI (40 * q)) (pk_mul 40 q) ?_
                refine lv_iload hx hb dX11_restore_165 (lv_at hl 0 rfl) ?_
                refine lv_iadd hx hb dX11_restore_167 ?_
                refine zz_i (v := nI (40 * q + k)) (nI_add (40 * q) k) ?_
                refine lv_aload_n hx hb dX11_restore_168 rfl (lv_at hl 3 rfl) ?_
                obtain ⟨hPc, hDc, hFc⟩ := zo_sub (wc := [_, _]) hP hD hS hA [0, 15] rfl rfl
                refine zcall (st1 := [.int (sh w2), .int (nI (40 * q + k)), .ref (a 12)]) (va_runV (As := []) (rest := [.int (nI (40 * q + k)), .ref (a 12)]) ⟨hx, hb, hml, hown, hts⟩ (k_M_next l dC dI cI cZ cF H.size k0 a (upd (upd I0 0 (nI ft1)) 42 (nI w2)) J0 w2 cp sh (rfl) (by first | with_reducible assumption | omega) (by first | with_reducible assumption | omega)) (csV_194 hts rfl rfl ⟨Nat.le_of_ble_eq_true rfl, Nat.le_of_ble_eq_true rfl⟩) (zPV2 (q0 := 0) (ci := 9) hPc hDc hK hXN rfl rfl) rfl rfl hl.1 rfl (lv_room (Nat.le_of_ble_eq_true rfl)) dX11_restore_169 ⟨Nat.le_of_ble_eq_true rfl, Nat.le_of_ble_eq_true rfl⟩) hS hFc hFc rfl (fun t H locs ht hB hk1 hS => ?_)
                obtain ⟨hP1, hD1⟩ := hB
                rw [ht] at hP1
                obtain ⟨hP, hD⟩ := zn (W2 := [(om k0 a (upd (upd I0 0 (nI ft1)) 42 (nI (w2 + 1))) J0), _, _, _, _, _, _, _, _, _, _, _, _, _, _, _]) hP hD hk1 hFc hP1 hD1 [0, 15] zl_163 zl_166 [0, 15] (by decide +kernel) rfl rfl rfl rfl rfl
                clear hk1 hPc hDc hFc hP1 hD1 ht
                refine zz_i (v := D q (10 + 2 * k)) ((show sh w2 = D q (10 + 2 * k) from by rw [show w2 = psN nn w0 q + (10 + 2 * k) by omega]; exact hblk q (by omega) _ (by omega))) ?_
                have b9_10 : 40 * q + k < 8040 := by omega
                refine z_iast hx hb hK hP hD hS 12 0 rfl rfl (e := 40 * q + k) (x := D q (10 + 2 * k)) rfl b9_10 (Nat.le_of_ble_eq_true rfl) dX11_restore_172 (fun H locs hP hD hS => ?_)
                obtain ⟨hP, hD⟩ := zre (W2 := [_, _, _, _, _, _, _, _, _, _, _, _, (oa (a 12) cI 8040 (upd cx2 (40 * q + k) (D q (10 + 2 * k)))), _, _, _]) hP hD rfl
                refine lv_aload_n hx hb dX11_restore_173 rfl (lv_at hl 3 rfl) ?_
                refine va_get (D := (dC, dI)) (ci := 9) (v := .ref (a 13)) (C := RX11) (T := TX11) (N := 55) hx hb hts inX11 hown hK hP 0 rfl rfl 13 (Nat.le_of_ble_eq_true rfl) (hts _ mw_1172) (fun _ h9 => h9) rfl dX11_restore_174 ?_
                refine lv_bipush (v := 40) hx hb dX11_restore_177 rfl ?_
                refine lv_iload_n hx hb dX11_restore_179 rfl (lv_at hl 2 rfl) ?_
                refine lv_imul hx hb dX11_restore_180 ?_
                refine zz_i (v := nI (40 * q)) (pk_mul 40 q) ?_
                refine lv_iload hx hb dX11_restore_181 (lv_at hl 0 rfl) ?_
                refine lv_iadd hx hb dX11_restore_183 ?_
                refine zz_i (v := nI (40 * q + k)) (nI_add (40 * q) k) ?_
                refine lv_aload_n hx hb dX11_restore_184 rfl (lv_at hl 3 rfl) ?_
                obtain ⟨hPc, hDc, hFc⟩ := zo_sub (wc := [_, _]) hP hD hS hA [0, 15] rfl rfl
                refine zcall (st1 := [.int (sh (w2 + 1)), .int (nI (40 * q + k)), .ref (a 13)]) (va_runV (As := []) (rest := [.int (nI (40 * q + k)), .ref (a 13)]) ⟨hx, hb, hml, hown, hts⟩ (k_M_next l dC dI cI cZ cF H.size k0 a (upd (upd I0 0 (nI ft1)) 42 (nI (w2 + 1))) J0 (w2 + 1) cp sh (rfl) (by first | with_reducible assumption | omega) (by first | with_reducible assumption | omega)) (csV_194 hts rfl rfl ⟨Nat.le_of_ble_eq_true rfl, Nat.le_of_ble_eq_true rfl⟩) (zPV2 (q0 := 0) (ci := 9) hPc hDc hK hXN rfl rfl) rfl rfl hl.1 rfl (lv_room (Nat.le_of_ble_eq_true rfl)) dX11_restore_185 ⟨Nat.le_of_ble_eq_true rfl, Nat.le_of_ble_eq_true rfl⟩) hS hFc hFc rfl (fun t H locs ht hB hk1 hS => ?_)
                obtain ⟨hP1, hD1⟩ := hB
                rw [ht] at hP1
                obtain ⟨hP, hD⟩ := zn (W2 := [(om k0 a (upd (upd I0 0 (nI ft1)) 42 (nI ((w2 + 1) + 1))) J0), _, _, _, _, _, _, _, _, _, _, _, _, _, _, _]) hP hD hk1 hFc hP1 hD1 [0, 15] zl_163 zl_166 [0, 15] (by decide +kernel) rfl rfl rfl rfl rfl
                clear hk1 hPc hDc hFc hP1 hD1 ht
                refine zz_i (v := D q (11 + 2 * k)) ((show sh (w2 + 1) = D q (11 + 2 * k) from by rw [show w2 + 1 = psN nn w0 q + (11 + 2 * k) by omega]; exact hblk q (by omega) _ (by omega))) ?_
                refine z_iast hx hb hK hP hD hS 13 0 rfl rfl (e := 40 * q + k) (x := D q (11 + 2 * k)) rfl b9_10 (Nat.le_of_ble_eq_true rfl) dX11_restore_188 (fun H locs hP hD hS => ?_)
                obtain ⟨hP, hD⟩ := zre (W2 := [_, _, _, _, _, _, _, _, _, _, _, _, _, (oa (a 13) cI 8040 (upd cy2 (40 * q + k) (D q (11 + 2 * k)))), _, _]) hP hD rfl
                refine lv_iinc (v := nI (k + 1)) (lv' := [(4, .int (nI (k + 1))), (3, .int (nI (nn q))), (2, .int (nI q)), (0, .ref k0), (1, .int (nI i))]) hx hb dX11_restore_189 hl (k := 0) rfl (nI_add k 1) (Nat.le_of_ble_eq_true rfl) rfl (fun ls hl => ?_)
                refine lv_goto (tgt := 151) hx hb dX11_restore_192 rfl ?_
                exact ih_151 (k + 1) ((w2 + 1) + 1) (upd cx2 (40 * q + k) (D q (10 + 2 * k))) (upd cy2 (40 * q + k) (D q (11 + 2 * k))) H locs ls (by first | with_reducible assumption | omega) (by first | with_reducible assumption | omega) (by first | with_reducible assumption | omega) (rsC_s h_cx2 (by first | with_reducible assumption | omega) rfl) (rsC_s h_cy2 (by first | with_reducible assumption | omega) rfl) hP hD hS (lv_sub hl [0, 1, 2, 3, 4] rfl)
          exact hl_151 _ 0 ((((((((((w + 1) + 1) + 1) + 1) + 1) + 1) + 1) + 1) + 1) + 1) cx1 cy1 H locs ls (Nat.lt_succ_self _) (by first | with_reducible assumption | omega) (by first | with_reducible assumption | omega) (h_cx) (h_cy) hP hD hS (lv_sub hl [0, 1, 2, 3, 4] rfl)
        · have c_6 : ¬ (D q 1).toInt = 0 := zc_ne rfl rfl c_6
          refine lv_aload_n hx hb dX11_restore_132 rfl (lv_at hl 2 rfl) ?_
          refine va_get (D := (dC, dI)) (ci := 9) (v := .ref (a 6)) (C := RX11) (T := TX11) (N := 55) hx hb hts inX11 hown hK hP 0 rfl rfl 6 (Nat.le_of_ble_eq_true rfl) (hts _ mw_1165) (fun _ h9 => h9) rfl dX11_restore_133 ?_
          refine lv_iload_n hx hb dX11_restore_136 rfl (lv_at hl 1 rfl) ?_
          refine z_zald hx hb hK hP 10 1 rfl rfl (e := q) rfl b9_5 (Nat.le_of_ble_eq_true rfl) dX11_restore_137 ?_
          refine lv_if_ne (tgt := 148) hx hb dX11_restore_138 rfl (fun c_11 => ?_) (fun c_11 => ?_)
          · have c_11 : ¬ (tn q).toInt = 0 := zc_ne rfl rfl c_11
            refine lv_iconst (v := 0) hx hb dX11_restore_148 rfl ?_
            refine lv_istore (lv' := [(4, .int 0), (3, .int (nI (nn q))), (2, .int (nI q)), (0, .ref k0), (1, .int (nI i))]) hx hb dX11_restore_149 hl (Nat.le_of_ble_eq_true rfl) rfl (fun ls hl => ?_)
            have hl_151 : ∀ (n9 : Nat) (k : Nat) (w2 : Nat) (cx2 : Nat → Int32) (cy2 : Nat → Int32) (H : Heap) (locs : List Loc) (ls : Array Slot), nn q - k < n9 → (k ≤ nn q) → (w2 = psN nn w0 q + 10 + 2 * k) → (cx2 = rsC q k D nn 10 cx) → (cy2 = rsC q k D nn 11 cy) → va_P (dC, dI) classes [(om k0 a (upd (upd I0 0 (nI ft1)) 42 (nI w2)) J0), (oa (a 1) cI 201 (upd kd1 q (D q 0))), (oa (a 5) cI 201 (upd st1 q (D q 1))), (oa (a 7) cI 201 (upd gb1 q (D q 2))), (oa (a 10) cI 201 (upd it1 q (D q 3))), (oa (a 8) cI 201 (upd pa1 q (D q 4))), (oa (a 9) cI 201 (upd pb1 q (D q 5))), (oa (a 2) cI 201 (upd rk1 q (D q 6))), (oa (a 3) cI 201 (upd wd1 q (D q 7))), (oa (a 4) cI 201 (upd tw1 q (D q 8))), (oa (a 6) cZ 201 tn), (oa (a 11) cI 201 mn1), (oa (a 12) cI 8040 cx2), (oa (a 13) cI 8040 cy2), (oa (a 27) cI 516 sa), (oa (a 28) cI (4096 * cp) sh)] H → va_D A [(om k0 a (upd (upd I0 0 (nI ft1)) 42 (nI w2)) J0), (oa (a 1) cI 201 (upd kd1 q (D q 0))), (oa (a 5) cI 201 (upd st1 q (D q 1))), (oa (a 7) cI 201 (upd gb1 q (D q 2))), (oa (a 10) cI 201 (upd it1 q (D q 3))), (oa (a 8) cI 201 (upd pa1 q (D q 4))), (oa (a 9) cI 201 (upd pb1 q (D q 5))), (oa (a 2) cI 201 (upd rk1 q (D q 6))), (oa (a 3) cI 201 (upd wd1 q (D q 7))), (oa (a 4) cI 201 (upd tw1 q (D q 8))), (oa (a 6) cZ 201 tn), (oa (a 11) cI 201 mn1), (oa (a 12) cI 8040 cx2), (oa (a 13) cI 8040 cy2), (oa (a 27) cI 516 sa), (oa (a 28) cI (4096 * cp) sh)] → va_S A s.heap H locs → lv_has ls 5 [(4, .int (nI k)), (3, .int (nI (nn q))), (2, .int (nI q)), (0, .ref k0), (1, .int (nI i))] → W p l e ({ frames := 1, cells := 0, slots := 0, locals := 20 } : Room) s m ([.ref k0, .int (nI i)] : List Value).toArray below meth c H locs 0 0 Q9 (F0 m 151 ls []) := by
              intro n9
              induction n9 with
              | zero => intro k w2 cx2 cy2 H locs ls hm; exact absurd hm (Nat.not_lt_zero _)
              | succ n9 ih_151 =>
                intro k w2 cx2 cy2 H locs ls hm hk hw2 h_cx2 h_cy2 hP hD hS hl
                refine lv_iload hx hb dX11_restore_151 (lv_at hl 0 rfl) ?_
                refine lv_iload_n hx hb dX11_restore_153 rfl (lv_at hl 1 rfl) ?_
                have b9_13 : zlt (k) := show k < 2147483648 by omega
                have b9_14 : zlt ((nn q)) := show (nn q) < 2147483648 by omega
                refine lv_icmp_ge (tgt := 195) hx hb dX11_restore_154 rfl (fun c_12 => ?_) (fun c_12 => ?_)
                · have c_12 : ((nn q : Nat) : Int) ≤ ((k : Nat) : Int) := zc_le (nI_toInt b9_14) (nI_toInt b9_13) c_12
                  refine lv_iinc (v := nI (q + 1)) (lv' := [(2, .int (nI (q + 1))), (4, .int (nI k)), (3, .int (nI (nn q))), (0, .ref k0), (1, .int (nI i))]) hx hb dX11_restore_195 hl (k := 2) rfl (nI_add q 1) (Nat.le_of_ble_eq_true rfl) rfl (fun ls hl => ?_)
                  refine lv_goto (tgt := 20) hx hb dX11_restore_198 rfl ?_
                  exact ih_20 (q + 1) w2 (upd kd1 q (D q 0)) (upd st1 q (D q 1)) (upd gb1 q (D q 2)) (upd it1 q (D q 3)) (upd pa1 q (D q 4)) (upd pb1 q (D q 5)) (upd rk1 q (D q 6)) (upd wd1 q (D q 7)) (upd tw1 q (D q 8)) mn1 cx2 cy2 H locs ls (by first | with_reducible assumption | omega) (by first | with_reducible assumption | omega) (by show _ = psN nn w0 q + (10 + 2 * nn q); omega) (rsA_s h_kd rfl) (rsA_s h_st rfl) (rsA_s h_gb rfl) (rsA_s h_it rfl) (rsA_s h_pa rfl) (rsA_s h_pb rfl) (rsA_s h_rk rfl) (rsA_s h_wd rfl) (rsA_s h_tw rfl) (by first | exact rsM_y h_mn (by first | with_reducible assumption | omega) (by first | with_reducible assumption | omega) | exact rsM_n h_mn (by first | with_reducible assumption | omega)) (rsC_n h_cx2 (by first | with_reducible assumption | omega)) (rsC_n h_cy2 (by first | with_reducible assumption | omega)) hP hD hS (lv_sub hl [0, 3, 4] rfl)
                · have c_12 : ((k : Nat) : Int) < ((nn q : Nat) : Int) := zc_nle (nI_toInt b9_14) (nI_toInt b9_13) c_12
                  refine lv_aload_n hx hb dX11_restore_157 rfl (lv_at hl 3 rfl) ?_
                  refine va_get (D := (dC, dI)) (ci := 9) (v := .ref (a 12)) (C := RX11) (T := TX11) (N := 55) hx hb hts inX11 hown hK hP 0 rfl rfl 12 (Nat.le_of_ble_eq_true rfl) (hts _ mw_1171) (fun _ h9 => h9) rfl dX11_restore_158 ?_
                  refine lv_bipush (v := 40) hx hb dX11_restore_161 rfl ?_
                  refine lv_iload_n hx hb dX11_restore_163 rfl (lv_at hl 2 rfl) ?_
                  refine lv_imul hx hb dX11_restore_164 ?_
                  refine zz_i (v := nI (40 * q)) (pk_mul 40 q) ?_
                  refine lv_iload hx hb dX11_restore_165 (lv_at hl 0 rfl) ?_
                  refine lv_iadd hx hb dX11_restore_167 ?_
                  refine zz_i (v := nI (40 * q + k)) (nI_add (40 * q) k) ?_
                  refine lv_aload_n hx hb dX11_restore_168 rfl (lv_at hl 3 rfl) ?_
                  obtain ⟨hPc, hDc, hFc⟩ := zo_sub (wc := [_, _]) hP hD hS hA [0, 15] rfl rfl
                  refine zcall (st1 := [.int (sh w2), .int (nI (40 * q + k)), .ref (a 12)]) (va_runV (As := []) (rest := [.int (nI (40 * q + k)), .ref (a 12)]) ⟨hx, hb, hml, hown, hts⟩ (k_M_next l dC dI cI cZ cF H.size k0 a (upd (upd I0 0 (nI ft1)) 42 (nI w2)) J0 w2 cp sh (rfl) (by first | with_reducible assumption | omega) (by first | with_reducible assumption | omega)) (csV_194 hts rfl rfl ⟨Nat.le_of_ble_eq_true rfl, Nat.le_of_ble_eq_true rfl⟩) (zPV2 (q0 := 0) (ci := 9) hPc hDc hK hXN rfl rfl) rfl rfl hl.1 rfl (lv_room (Nat.le_of_ble_eq_true rfl)) dX11_restore_169 ⟨Nat.le_of_ble_eq_true rfl, Nat.le_of_ble_eq_true rfl⟩) hS hFc hFc rfl (fun t H locs ht hB hk1 hS => ?_)
                  obtain ⟨hP1, hD1⟩ := hB
                  rw [ht] at hP1
                  obtain ⟨hP, hD⟩ := zn (W2 := [(om k0 a (upd (upd I0 0 (nI ft1)) 42 (nI (w2 + 1))) J0), _, _, _, _, _, _, _, _, _, _, _, _, _, _, _]) hP hD hk1 hFc hP1 hD1 [0, 15] zl_163 zl_166 [0, 15] (by decide +kernel) rfl rfl rfl rfl rfl
                  clear hk1 hPc hDc hFc hP1 hD1 ht
                  refine zz_i (v := D q (10 + 2 * k)) ((show sh w2 = D q (10 + 2 * k) from by rw [show w2 = psN nn w0 q + (10 + 2 * k) by omega]; exact hblk q (by omega) _ (by omega))) ?_
                  have b9_15 : 40 * q + k < 8040 := by omega
                  refine z_iast hx hb hK hP hD hS 12 0 rfl rfl (e := 40 * q + k) (x := D q (10 + 2 * k)) rfl b9_15 (Nat.le_of_ble_eq_true rfl) dX11_restore_172 (fun H locs hP hD hS => ?_)
                  obtain ⟨hP, hD⟩ := zre (W2 := [_, _, _, _, _, _, _, _, _, _, _, _, (oa (a 12) cI 8040 (upd cx2 (40 * q + k) (D q (10 + 2 * k)))), _, _, _]) hP hD rfl
                  refine lv_aload_n hx hb dX11_restore_173 rfl (lv_at hl 3 rfl) ?_
                  refine va_get (D := (dC, dI)) (ci := 9) (v := .ref (a 13)) (C := RX11) (T := TX11) (N := 55) hx hb hts inX11 hown hK hP 0 rfl rfl 13 (Nat.le_of_ble_eq_true rfl) (hts _ mw_1172) (fun _ h9 => h9) rfl dX11_restore_174 ?_
                  refine lv_bipush (v := 40) hx hb dX11_restore_177 rfl ?_
                  refine lv_iload_n hx hb dX11_restore_179 rfl (lv_at hl 2 rfl) ?_
                  refine lv_imul hx hb dX11_restore_180 ?_
                  refine zz_i (v := nI (40 * q)) (pk_mul 40 q) ?_
                  refine lv_iload hx hb dX11_restore_181 (lv_at hl 0 rfl) ?_
                  refine lv_iadd hx hb dX11_restore_183 ?_
                  refine zz_i (v := nI (40 * q + k)) (nI_add (40 * q) k) ?_
                  refine lv_aload_n hx hb dX11_restore_184 rfl (lv_at hl 3 rfl) ?_
                  obtain ⟨hPc, hDc, hFc⟩ := zo_sub (wc := [_, _]) hP hD hS hA [0, 15] rfl rfl
                  refine zcall (st1 := [.int (sh (w2 + 1)), .int (nI (40 * q + k)), .ref (a 13)]) (va_runV (As := []) (rest := [.int (nI (40 * q + k)), .ref (a 13)]) ⟨hx, hb, hml, hown, hts⟩ (k_M_next l dC dI cI cZ cF H.size k0 a (upd (upd I0 0 (nI ft1)) 42 (nI (w2 + 1))) J0 (w2 + 1) cp sh (rfl) (by first | with_reducible assumption | omega) (by first | with_reducible assumption | omega)) (csV_194 hts rfl rfl ⟨Nat.le_of_ble_eq_true rfl, Nat.le_of_ble_eq_true rfl⟩) (zPV2 (q0 := 0) (ci := 9) hPc hDc hK hXN rfl rfl) rfl rfl hl.1 rfl (lv_room (Nat.le_of_ble_eq_true rfl)) dX11_restore_185 ⟨Nat.le_of_ble_eq_true rfl, Nat.le_of_ble_eq_true rfl⟩) hS hFc hFc rfl (fun t H locs ht hB hk1 hS => ?_)
                  obtain ⟨hP1, hD1⟩ := hB
                  rw [ht] at hP1
                  obtain ⟨hP, hD⟩ := zn (W2 := [(om k0 a (upd (upd I0 0 (nI ft1)) 42 (nI ((w2 + 1) + 1))) J0), _, _, _, _, _, _, _, _, _, _, _, _, _, _, _]) hP hD hk1 hFc hP1 hD1 [0, 15] zl_163 zl_166 [0, 15] (by decide +kernel) rfl rfl rfl rfl rfl
                  clear hk1 hPc hDc hFc hP1 hD1 ht
                  refine zz_i (v := D q (11 + 2 * k)) ((show sh (w2 + 1) = D q (11 + 2 * k) from by rw [show w2 + 1 = psN nn w0 q + (11 + 2 * k) by omega]; exact hblk q (by omega) _ (by omega))) ?_
                  refine z_iast hx hb hK hP hD hS 13 0 rfl rfl (e := 40 * q + k) (x := D q (11 + 2 * k)) rfl b9_15 (Nat.le_of_ble_eq_true rfl) dX11_restore_188 (fun H locs hP hD hS => ?_)
                  obtain ⟨hP, hD⟩ := zre (W2 := [_, _, _, _, _, _, _, _, _, _, _, _, _, (oa (a 13) cI 8040 (upd cy2 (40 * q + k) (D q (11 + 2 * k)))), _, _]) hP hD rfl
                  refine lv_iinc (v := nI (k + 1)) (lv' := [(4, .int (nI (k + 1))), (3, .int (nI (nn q))), (2, .int (nI q)), (0, .ref k0), (1, .int (nI i))]) hx hb dX11_restore_189 hl (k := 0) rfl (nI_add k 1) (Nat.le_of_ble_eq_true rfl) rfl (fun ls hl => ?_)
                  refine lv_goto (tgt := 151) hx hb dX11_restore_192 rfl ?_
                  exact ih_151 (k + 1) ((w2 + 1) + 1) (upd cx2 (40 * q + k) (D q (10 + 2 * k))) (upd cy2 (40 * q + k) (D q (11 + 2 * k))) H locs ls (by first | with_reducible assumption | omega) (by first | with_reducible assumption | omega) (by first | with_reducible assumption | omega) (rsC_s h_cx2 (by first | with_reducible assumption | omega) rfl) (rsC_s h_cy2 (by first | with_reducible assumption | omega) rfl) hP hD hS (lv_sub hl [0, 1, 2, 3, 4] rfl)
            exact hl_151 _ 0 ((((((((((w + 1) + 1) + 1) + 1) + 1) + 1) + 1) + 1) + 1) + 1) cx1 cy1 H locs ls (Nat.lt_succ_self _) (by first | with_reducible assumption | omega) (by first | with_reducible assumption | omega) (h_cx) (h_cy) hP hD hS (lv_sub hl [0, 1, 2, 3, 4] rfl)
          · have c_11 : (tn q).toInt = 0 := zc_eq rfl rfl c_11
            refine lv_aload_n hx hb dX11_restore_141 rfl (lv_at hl 2 rfl) ?_
            refine va_get (D := (dC, dI)) (ci := 9) (v := .ref (a 11)) (C := RX11) (T := TX11) (N := 55) hx hb hts inX11 hown hK hP 0 rfl rfl 11 (Nat.le_of_ble_eq_true rfl) (hts _ mw_1170) (fun _ h9 => h9) rfl dX11_restore_142 ?_
            refine lv_iload_n hx hb dX11_restore_145 rfl (lv_at hl 1 rfl) ?_
            refine lv_iload_n hx hb dX11_restore_146 rfl (lv_at hl 0 rfl) ?_
            refine z_iast hx hb hK hP hD hS 11 0 rfl rfl (e := q) (x := nI (nn q)) rfl b9_5 (Nat.le_of_ble_eq_true rfl) dX11_restore_147 (fun H locs hP hD hS => ?_)
            obtain ⟨hP, hD⟩ := zre (W2 := [_, _, _, _, _, _, _, _, _, _, _, (oa (a 11) cI 201 (upd mn1 q (nI (nn q)))), _, _, _, _]) hP hD rfl
            refine lv_iconst (v := 0) hx hb dX11_restore_148 rfl ?_
            refine lv_istore (lv' := [(4, .int 0), (3, .int (nI (nn q))), (2, .int (nI q)), (0, .ref k0), (1, .int (nI i))]) hx hb dX11_restore_149 hl (Nat.le_of_ble_eq_true rfl) rfl (fun ls hl => ?_)
            have hl_151 : ∀ (n9 : Nat) (k : Nat) (w2 : Nat) (cx2 : Nat → Int32) (cy2 : Nat → Int32) (H : Heap) (locs : List Loc) (ls : Array Slot), nn q - k < n9 → (k ≤ nn q) → (w2 = psN nn w0 q + 10 + 2 * k) → (cx2 = rsC q k D nn 10 cx) → (cy2 = rsC q k D nn 11 cy) → va_P (dC, dI) classes [(om k0 a (upd (upd I0 0 (nI ft1)) 42 (nI w2)) J0), (oa (a 1) cI 201 (upd kd1 q (D q 0))), (oa (a 5) cI 201 (upd st1 q (D q 1))), (oa (a 7) cI 201 (upd gb1 q (D q 2))), (oa (a 10) cI 201 (upd it1 q (D q 3))), (oa (a 8) cI 201 (upd pa1 q (D q 4))), (oa (a 9) cI 201 (upd pb1 q (D q 5))), (oa (a 2) cI 201 (upd rk1 q (D q 6))), (oa (a 3) cI 201 (upd wd1 q (D q 7))), (oa (a 4) cI 201 (upd tw1 q (D q 8))), (oa (a 6) cZ 201 tn), (oa (a 11) cI 201 (upd mn1 q (nI (nn q)))), (oa (a 12) cI 8040 cx2), (oa (a 13) cI 8040 cy2), (oa (a 27) cI 516 sa), (oa (a 28) cI (4096 * cp) sh)] H → va_D A [(om k0 a (upd (upd I0 0 (nI ft1)) 42 (nI w2)) J0), (oa (a 1) cI 201 (upd kd1 q (D q 0))), (oa (a 5) cI 201 (upd st1 q (D q 1))), (oa (a 7) cI 201 (upd gb1 q (D q 2))), (oa (a 10) cI 201 (upd it1 q (D q 3))), (oa (a 8) cI 201 (upd pa1 q (D q 4))), (oa (a 9) cI 201 (upd pb1 q (D q 5))), (oa (a 2) cI 201 (upd rk1 q (D q 6))), (oa (a 3) cI 201 (upd wd1 q (D q 7))), (oa (a 4) cI 201 (upd tw1 q (D q 8))), (oa (a 6) cZ 201 tn), (oa (a 11) cI 201 (upd mn1 q (nI (nn q)))), (oa (a 12) cI 8040 cx2), (oa (a 13) cI 8040 cy2), (oa (a 27) cI 516 sa), (oa (a 28) cI (4096 * cp) sh)] → va_S A s.heap H locs → lv_has ls 5 [(4, .int (nI k)), (3, .int (nI (nn q))), (2, .int (nI q)), (0, .ref k0), (1, .int (nI i))] → W p l e ({ frames := 1, cells := 0, slots := 0, locals := 20 } : Room) s m ([.ref k0, .int (nI i)] : List Value).toArray below meth c H locs 0 0 Q9 (F0 m 151 ls []) := by
              intro n9
              induction n9 with
              | zero => intro k w2 cx2 cy2 H locs ls hm; exact absurd hm (Nat.not_lt_zero _)
              | succ n9 ih_151 =>
                intro k w2 cx2 cy2 H locs ls hm hk hw2 h_cx2 h_cy2 hP hD hS hl
                refine lv_iload hx hb dX11_restore_151 (lv_at hl 0 rfl) ?_
                refine lv_iload_n hx hb dX11_restore_153 rfl (lv_at hl 1 rfl) ?_
                have b9_17 : zlt (k) := show k < 2147483648 by omega
                have b9_18 : zlt ((nn q)) := show (nn q) < 2147483648 by omega
                refine lv_icmp_ge (tgt := 195) hx hb dX11_restore_154 rfl (fun c_16 => ?_) (fun c_16 => ?_)
                · have c_16 : ((nn q : Nat) : Int) ≤ ((k : Nat) : Int) := zc_le (nI_toInt b9_18) (nI_toInt b9_17) c_16
                  refine lv_iinc (v := nI (q + 1)) (lv' := [(2, .int (nI (q + 1))), (4, .int (nI k)), (3, .int (nI (nn q))), (0, .ref k0), (1, .int (nI i))]) hx hb dX11_restore_195 hl (k := 2) rfl (nI_add q 1) (Nat.le_of_ble_eq_true rfl) rfl (fun ls hl => ?_)
                  refine lv_goto (tgt := 20) hx hb dX11_restore_198 rfl ?_
                  exact ih_20 (q + 1) w2 (upd kd1 q (D q 0)) (upd st1 q (D q 1)) (upd gb1 q (D q 2)) (upd it1 q (D q 3)) (upd pa1 q (D q 4)) (upd pb1 q (D q 5)) (upd rk1 q (D q 6)) (upd wd1 q (D q 7)) (upd tw1 q (D q 8)) (upd mn1 q (nI (nn q))) cx2 cy2 H locs ls (by first | with_reducible assumption | omega) (by first | with_reducible assumption | omega) (by show _ = psN nn w0 q + (10 + 2 * nn q); omega) (rsA_s h_kd rfl) (rsA_s h_st rfl) (rsA_s h_gb rfl) (rsA_s h_it rfl) (rsA_s h_pa rfl) (rsA_s h_pb rfl) (rsA_s h_rk rfl) (rsA_s h_wd rfl) (rsA_s h_tw rfl) (by first | exact rsM_y h_mn (by first | with_reducible assumption | omega) (by first | with_reducible assumption | omega) | exact rsM_n h_mn (by first | with_reducible assumption | omega)) (rsC_n h_cx2 (by first | with_reducible assumption | omega)) (rsC_n h_cy2 (by first | with_reducible assumption | omega)) hP hD hS (lv_sub hl [0, 3, 4] rfl)
                · have c_16 : ((k : Nat) : Int) < ((nn q : Nat) : Int) := zc_nle (nI_toInt b9_18) (nI_toInt b9_17) c_16
                  refine lv_aload_n hx hb dX11_restore_157 rfl (lv_at hl 3 rfl) ?_
                  refine va_get (D := (dC, dI)) (ci := 9) (v := .ref (a 12)) (C := RX11) (T := TX11) (N := 55) hx hb hts inX11 hown hK hP 0 rfl rfl 12 (Nat.le_of_ble_eq_true rfl) (hts _ mw_1171) (fun _ h9 => h9) rfl dX11_restore_158 ?_
                  refine lv_bipush (v := 40) hx hb dX11_restore_161 rfl ?_
                  refine lv_iload_n hx hb dX11_restore_163 rfl (lv_at hl 2 rfl) ?_
                  refine lv_imul hx hb dX11_restore_164 ?_
                  refine zz_i (v := nI (40 * q)) (pk_mul 40 q) ?_
                  refine lv_iload hx hb dX11_restore_165 (lv_at hl 0 rfl) ?_
                  refine lv_iadd hx hb dX11_restore_167 ?_
                  refine zz_i (v := nI (40 * q + k)) (nI_add (40 * q) k) ?_
                  refine lv_aload_n hx hb dX11_restore_168 rfl (lv_at hl 3 rfl) ?_
                  obtain ⟨hPc, hDc, hFc⟩ := zo_sub (wc := [_, _]) hP hD hS hA [0, 15] rfl rfl
                  refine zcall (st1 := [.int (sh w2), .int (nI (40 * q + k)), .ref (a 12)]) (va_runV (As := []) (rest := [.int (nI (40 * q + k)), .ref (a 12)]) ⟨hx, hb, hml, hown, hts⟩ (k_M_next l dC dI cI cZ cF H.size k0 a (upd (upd I0 0 (nI ft1)) 42 (nI w2)) J0 w2 cp sh (rfl) (by first | with_reducible assumption | omega) (by first | with_reducible assumption | omega)) (csV_194 hts rfl rfl ⟨Nat.le_of_ble_eq_true rfl, Nat.le_of_ble_eq_true rfl⟩) (zPV2 (q0 := 0) (ci := 9) hPc hDc hK hXN rfl rfl) rfl rfl hl.1 rfl (lv_room (Nat.le_of_ble_eq_true rfl)) dX11_restore_169 ⟨Nat.le_of_ble_eq_true rfl, Nat.le_of_ble_eq_true rfl⟩) hS hFc hFc rfl (fun t H locs ht hB hk1 hS => ?_)
                  obtain ⟨hP1, hD1⟩ := hB
                  rw [ht] at hP1
                  obtain ⟨hP, hD⟩ := zn (W2 := [(om k0 a (upd (upd I0 0 (nI ft1)) 42 (nI (w2 + 1))) J0), _, _, _, _, _, _, _, _, _, _, _, _, _, _, _]) hP hD hk1 hFc hP1 hD1 [0, 15] zl_163 zl_166 [0, 15] (by decide +kernel) rfl rfl rfl rfl rfl
                  clear hk1 hPc hDc hFc hP1 hD1 ht
                  refine zz_i (v := D q (10 + 2 * k)) ((show sh w2 = D q (10 + 2 * k) from by rw [show w2 = psN nn w0 q + (10 + 2 * k) by omega]; exact hblk q (by omega) _ (by omega))) ?_
                  have b9_19 : 40 * q + k < 8040 := by omega
                  refine z_iast hx hb hK hP hD hS 12 0 rfl rfl (e := 40 * q + k) (x := D q (10 + 2 * k)) rfl b9_19 (Nat.le_of_ble_eq_true rfl) dX11_restore_172 (fun H locs hP hD hS => ?_)
                  obtain ⟨hP, hD⟩ := zre (W2 := [_, _, _, _, _, _, _, _, _, _, _, _, (oa (a 12) cI 8040 (upd cx2 (40 * q + k) (D q (10 + 2 * k)))), _, _, _]) hP hD rfl
                  refine lv_aload_n hx hb dX11_restore_173 rfl (lv_at hl 3 rfl) ?_
                  refine va_get (D := (dC, dI)) (ci := 9) (v := .ref (a 13)) (C := RX11) (T := TX11) (N := 55) hx hb hts inX11 hown hK hP 0 rfl rfl 13 (Nat.le_of_ble_eq_true rfl) (hts _ mw_1172) (fun _ h9 => h9) rfl dX11_restore_174 ?_
                  refine lv_bipush (v := 40) hx hb dX11_restore_177 rfl ?_
                  refine lv_iload_n hx hb dX11_restore_179 rfl (lv_at hl 2 rfl) ?_
                  refine lv_imul hx hb dX11_restore_180 ?_
                  refine zz_i (v := nI (40 * q)) (pk_mul 40 q) ?_
                  refine lv_iload hx hb dX11_restore_181 (lv_at hl 0 rfl) ?_
                  refine lv_iadd hx hb dX11_restore_183 ?_
                  refine zz_i (v := nI (40 * q + k)) (nI_add (40 * q) k) ?_
                  refine lv_aload_n hx hb dX11_restore_184 rfl (lv_at hl 3 rfl) ?_
                  obtain ⟨hPc, hDc, hFc⟩ := zo_sub (wc := [_, _]) hP hD hS hA [0, 15] rfl rfl
                  refine zcall (st1 := [.int (sh (w2 + 1)), .int (nI (40 * q + k)), .ref (a 13)]) (va_runV (As := []) (rest := [.int (nI (40 * q + k)), .ref (a 13)]) ⟨hx, hb, hml, hown, hts⟩ (k_M_next l dC dI cI cZ cF H.size k0 a (upd (upd I0 0 (nI ft1)) 42 (nI (w2 + 1))) J0 (w2 + 1) cp sh (rfl) (by first | with_reducible assumption | omega) (by first | with_reducible assumption | omega)) (csV_194 hts rfl rfl ⟨Nat.le_of_ble_eq_true rfl, Nat.le_of_ble_eq_true rfl⟩) (zPV2 (q0 := 0) (ci := 9) hPc hDc hK hXN rfl rfl) rfl rfl hl.1 rfl (lv_room (Nat.le_of_ble_eq_true rfl)) dX11_restore_185 ⟨Nat.le_of_ble_eq_true rfl, Nat.le_of_ble_eq_true rfl⟩) hS hFc hFc rfl (fun t H locs ht hB hk1 hS => ?_)
                  obtain ⟨hP1, hD1⟩ := hB
                  rw [ht] at hP1
                  obtain ⟨hP, hD⟩ := zn (W2 := [(om k0 a (upd (upd I0 0 (nI ft1)) 42 (nI ((w2 + 1) + 1))) J0), _, _, _, _, _, _, _, _, _, _, _, _, _, _, _]) hP hD hk1 hFc hP1 hD1 [0, 15] zl_163 zl_166 [0, 15] (by decide +kernel) rfl rfl rfl rfl rfl
                  clear hk1 hPc hDc hFc hP1 hD1 ht
                  refine zz_i (v := D q (11 + 2 * k)) ((show sh (w2 + 1) = D q (11 + 2 * k) from by rw [show w2 + 1 = psN nn w0 q + (11 + 2 * k) by omega]; exact hblk q (by omega) _ (by omega))) ?_
                  refine z_iast hx hb hK hP hD hS 13 0 rfl rfl (e := 40 * q + k) (x := D q (11 + 2 * k)) rfl b9_19 (Nat.le_of_ble_eq_true rfl) dX11_restore_188 (fun H locs hP hD hS => ?_)
                  obtain ⟨hP, hD⟩ := zre (W2 := [_, _, _, _, _, _, _, _, _, _, _, _, _, (oa (a 13) cI 8040 (upd cy2 (40 * q + k) (D q (11 + 2 * k)))), _, _]) hP hD rfl
                  refine lv_iinc (v := nI (k + 1)) (lv' := [(4, .int (nI (k + 1))), (3, .int (nI (nn q))), (2, .int (nI q)), (0, .ref k0), (1, .int (nI i))]) hx hb dX11_restore_189 hl (k := 0) rfl (nI_add k 1) (Nat.le_of_ble_eq_true rfl) rfl (fun ls hl => ?_)
                  refine lv_goto (tgt := 151) hx hb dX11_restore_192 rfl ?_
                  exact ih_151 (k + 1) ((w2 + 1) + 1) (upd cx2 (40 * q + k) (D q (10 + 2 * k))) (upd cy2 (40 * q + k) (D q (11 + 2 * k))) H locs ls (by first | with_reducible assumption | omega) (by first | with_reducible assumption | omega) (by first | with_reducible assumption | omega) (rsC_s h_cx2 (by first | with_reducible assumption | omega) rfl) (rsC_s h_cy2 (by first | with_reducible assumption | omega) rfl) hP hD hS (lv_sub hl [0, 1, 2, 3, 4] rfl)
            exact hl_151 _ 0 ((((((((((w + 1) + 1) + 1) + 1) + 1) + 1) + 1) + 1) + 1) + 1) cx1 cy1 H locs ls (Nat.lt_succ_self _) (by first | with_reducible assumption | omega) (by first | with_reducible assumption | omega) (h_cx) (h_cy) hP hD hS (lv_sub hl [0, 1, 2, 3, 4] rfl)
  exact hl_20 _ 0 (w0 + 1) kd st gb it pa pb rk wd tw mn cx cy H locs ls (Nat.lt_succ_self _) (by first | with_reducible assumption | omega) (rfl) (rsA_0 _ _) (rsA_0 _ _) (rsA_0 _ _) (rsA_0 _ _) (rsA_0 _ _) (rsA_0 _ _) (rsA_0 _ _) (rsA_0 _ _) (rsA_0 _ _) (rsM_0 _ _ _ _) (rsC_0 _ _ _ _) (rsC_0 _ _ _ _) hP hD hS (lv_sub hl [0, 1, 2] rfl)
end
section
set_option maxHeartbeats 4000000 in
set_option maxRecDepth 100000 in
theorem k_M_begins (l : Launch) (dC : Nat → ClassId) (dI : Nat → Nat → Nat) (cI cZ cF : ClassId) (sz : Nat) (k0 : Nat) (a : Nat → Nat) (I0 : Nat → Int32) (J0 : Nat → Int64) (dn : Nat) (bs : Nat) (ft : Nat) (w0 : Nat) (cp : Nat) (cE : Nat) (kd : Nat → Int32) (st : Nat → Int32) (gb : Nat → Int32) (it : Nat → Int32) (pa : Nat → Int32) (pb : Nat → Int32) (rk : Nat → Int32) (wd : Nat → Int32) (tw : Nat → Int32) (tn : Nat → Int32) (mn : Nat → Int32) (cx : Nat → Int32) (cy : Nat → Int32) (sa : Nat → Int32) (sh : Nat → Int32) (hft : I0 0 = nI ft) (h200 : ft ≤ 200) (hdn : I0 19 = nI dn) (hbs : I0 21 = nI bs) (hbd : bs ≤ dn) (hd512 : dn ≤ 512) (hi5 : (dn - bs) < 515) (hsa : sa (dn - bs) = nI w0) (hmn : ∀ f, f < ft → (tn f).toInt = 0 → ¬ (st f).toInt = 0 → mn f = nI (nN (mn f)) ∧ nN (mn f) ≤ 40) (hc1 : 1 ≤ cp) (hpw : pw cp cE) (hw0 : w0 ≤ 4096 * cp) (hfit : psN (nnF st tn mn) w0 ft ≤ 4096 * cE) (hmin : cE = cp ∨ 2048 * cE < psN (nnF st tn mn) w0 ft) (hcE : cE ≤ 512) : zM l yX11_begins cX11_begins 1 none ({ frames := 2, cells := cE - cp, slots := 8192 * (cE - cp), locals := 47 } : Room) [.ref k0] (dC, dI) (zTy cI cZ cF) [(om k0 a I0 J0), (oa (a 1) cI 201 kd), (oa (a 5) cI 201 st), (oa (a 7) cI 201 gb), (oa (a 10) cI 201 it), (oa (a 8) cI 201 pa), (oa (a 9) cI 201 pb), (oa (a 2) cI 201 rk), (oa (a 3) cI 201 wd), (oa (a 4) cI 201 tw), (oa (a 6) cZ 201 tn), (oa (a 11) cI 201 mn), (oa (a 12) cI 8040 cx), (oa (a 13) cI 8040 cy), (oa (a 27) cI 516 sa), (oa (a 28) cI (4096 * cp) sh)] sz none (fun A t => ∃ (b1 : Nat), ∃ (sh1 : Nat → Int32), (sh1 w0 = nI ft) ∧ (∀ j, j < w0 → sh1 j = sh j) ∧ (∀ g, g < ft → ∀ j, j < 10 + 2 * nnF st tn mn g → sh1 (psN (nnF st tn mn) w0 g + j) = (shD kd st gb it pa pb rk wd tw (nnF st tn mn) cx cy) g j) ∧ (∀ j, psN (nnF st tn mn) w0 ft ≤ j → j < 4096 * cp → sh1 j = sh j) ∧ zPD (dC, dI) classes A [(om k0 (va_up a 28 b1) (upd I0 41 (nI (psN (nnF st tn mn) w0 ft))) J0), (oa (a 1) cI 201 kd), (oa (a 5) cI 201 st), (oa (a 7) cI 201 gb), (oa (a 10) cI 201 it), (oa (a 8) cI 201 pa), (oa (a 9) cI 201 pb), (oa (a 2) cI 201 rk), (oa (a 3) cI 201 wd), (oa (a 4) cI 201 tw), (oa (a 6) cZ 201 tn), (oa (a 11) cI 201 mn), (oa (a 12) cI 8040 cx), (oa (a 13) cI 8040 cy), (oa (a 27) cI 516 (upd sa ((dn - bs) + 1) (nI (psN (nnF st tn mn) w0 ft)))), (oa b1 cI (4096 * cE) sh1)] t.heap) (cE - cp) (8192 * (cE - cp)) := by
  refine zIn (own := "ScaleShopModel") (loc := [(0, .ref k0)]) rfl rfl rfl rfl (fun p e s m below meth c hx hb hr hts hown hlocks hml hnm9 A hA hS hP hD hK hXN Q9 hQ9 ls hl => ?_)
  refine lv_aload_n hx hb dX11_begins_0 rfl (lv_at hl 0 rfl) ?_
  refine lv_aload_n hx hb dX11_begins_1 rfl (lv_at hl 0 rfl) ?_
  refine va_get (D := (dC, dI)) (ci := 9) (v := .int (I0 19)) (C := RX11) (T := TX11) (N := 55) hx hb hts inX11 hown hK hP 0 rfl rfl 19 (Nat.le_of_ble_eq_true rfl) (hts _ mw_1178) (fun _ h9 => h9) rfl dX11_begins_2 ?_
  refine zz_i (v := nI dn) (hdn) ?_
  refine lv_aload_n hx hb dX11_begins_5 rfl (lv_at hl 0 rfl) ?_
  refine va_get (D := (dC, dI)) (ci := 9) (v := .int (I0 21)) (C := RX11) (T := TX11) (N := 55) hx hb hts inX11 hown hK hP 0 rfl rfl 21 (Nat.le_of_ble_eq_true rfl) (hts _ mw_1180) (fun _ h9 => h9) rfl dX11_begins_6 ?_
  refine zz_i (v := nI bs) (hbs) ?_
  refine lv_isub hx hb dX11_begins_9 ?_
  refine zz_i (v := nI (dn - bs)) (pk_sub (a := dn) (b := bs) (by omega)) ?_
  obtain ⟨hPc, hDc, hFc⟩ := zo_sub (wc := [_, _, _, _, _, _, _, _, _, _, _, _, _, _, _, _]) hP hD hS hA [0, 1, 2, 3, 4, 5, 6, 7, 8, 9, 10, 11, 12, 13, 14, 15] (by decide +kernel) rfl
  refine zcall (st1 := []) (va_runV (As := [.int (nI (dn - bs))]) (rest := []) ⟨hx, hb, hml, hown, hts⟩ (k_M_keep l dC dI cI cZ cF s.heap.size k0 a I0 J0 (dn - bs) ft w0 cp cE kd st gb it pa pb rk wd tw tn mn cx cy sa sh (by first | with_reducible assumption | assumption) (by first | with_reducible assumption | omega) (by first | with_reducible assumption | omega) (by first | with_reducible assumption | assumption) (by first | with_reducible assumption | assumption) (by first | with_reducible assumption | omega) (by first | with_reducible assumption | assumption) (by first | with_reducible assumption | omega) (by first | with_reducible assumption | assumption) (by first | with_reducible assumption | assumption) (by first | with_reducible assumption | omega)) (csV_195 hts rfl rfl ⟨Nat.le_of_ble_eq_true rfl, Nat.le_of_ble_eq_true rfl⟩) (zPV2 (q0 := 0) (ci := 9) hPc hDc hK hXN rfl rfl) rfl rfl hl.1 rfl (lv_room (Nat.le_of_ble_eq_true rfl)) dX11_begins_10 ⟨show (0 + (cE - cp)) ≤ cE - cp by omega, show (0 + (8192 * (cE - cp))) ≤ 8192 * (cE - cp) by omega⟩) hS hFc hFc rfl (fun t H locs ht hB hk1 hS => ?_)
  obtain ⟨b1, sh1, hkf, hkl, hkb, hko, hP1, hD1⟩ := hB
  rw [ht] at hP1
  obtain ⟨hP, hD⟩ := zn (W2 := [(om k0 (va_up a 28 b1) (upd I0 41 (nI (psN (nnF st tn mn) w0 ft))) J0), (oa (a 1) cI 201 kd), (oa (a 5) cI 201 st), (oa (a 7) cI 201 gb), (oa (a 10) cI 201 it), (oa (a 8) cI 201 pa), (oa (a 9) cI 201 pb), (oa (a 2) cI 201 rk), (oa (a 3) cI 201 wd), (oa (a 4) cI 201 tw), (oa (a 6) cZ 201 tn), (oa (a 11) cI 201 mn), (oa (a 12) cI 8040 cx), (oa (a 13) cI 8040 cy), (oa (a 27) cI 516 (upd sa ((dn - bs) + 1) (nI (psN (nnF st tn mn) w0 ft)))), (oa b1 cI (4096 * cE) sh1)]) hP hD hk1 hFc hP1 hD1 zl_80 [] zl_79 zl_80 (by decide +kernel) rfl rfl rfl rfl rfl
  clear hk1 hPc hDc hFc hP1 hD1 ht
  obtain ⟨hP9, hD9⟩ := zu_sub (wc := [_, _, _, _, _, _, _, _, _, _, _, _, _, _, _, _]) hP hD [true, true, true, true, true, true, true, true, true, true, true, true, true, true, true, true] rfl rfl
  refine W.widen (k := cE - cp) (n := 8192 * (cE - cp)) (by omega) (by omega) ?_
  rw [hQ9]
  exact W.vret hx hb hr (fun t ht hW => ⟨⟨rfl, b1, sh1, (hkf), (hkl), (hkb), (hko), by rw [ht]; exact hP9, hD9⟩, hS.F ht⟩) hS.2.2 dX11_begins_13
set_option maxHeartbeats 4000000 in
set_option maxRecDepth 100000 in
theorem k_M_ends (l : Launch) (dC : Nat → ClassId) (dI : Nat → Nat → Nat) (cI cZ cF : ClassId) (sz : Nat) (k0 : Nat) (a : Nat → Nat) (I0 : Nat → Int32) (J0 : Nat → Int64) (e1 : Int32) (e2 : Int32) (e3 : Int32) (dn : Nat) (bs : Nat) (ft : Nat) (w0 : Nat) (cp : Nat) (cE : Nat) (kd : Nat → Int32) (st : Nat → Int32) (gb : Nat → Int32) (it : Nat → Int32) (pa : Nat → Int32) (pb : Nat → Int32) (rk : Nat → Int32) (wd : Nat → Int32) (tw : Nat → Int32) (tn : Nat → Int32) (mn : Nat → Int32) (cx : Nat → Int32) (cy : Nat → Int32) (sa : Nat → Int32) (sh : Nat → Int32) (wh : Nat → Int32) (of9 : Nat → Int32) (we : Nat → Int32) (hft : I0 0 = nI ft) (h200 : ft ≤ 200) (hdn : I0 19 = nI dn) (hbs : I0 21 = nI bs) (hbd : bs ≤ dn) (hd512 : dn ≤ 512) (hi5 : (dn + 1 - bs) < 515) (hsa : sa (dn + 1 - bs) = nI w0) (hmn : ∀ f, f < ft → (tn f).toInt = 0 → ¬ (st f).toInt = 0 → mn f = nI (nN (mn f)) ∧ nN (mn f) ≤ 40) (hc1 : 1 ≤ cp) (hpw : pw cp cE) (hw0 : w0 ≤ 4096 * cp) (hfit : psN (nnF st tn mn) w0 ft ≤ 4096 * cE) (hmin : cE = cp ∨ 2048 * cE < psN (nnF st tn mn) w0 ft) (hcE : cE ≤ 512) : zM l yX11_ends cX11_ends 4 (some .int) ({ frames := 2, cells := cE - cp, slots := 8192 * (cE - cp), locals := 47 } : Room) [.ref k0, .int e1, .int e2, .int e3] (dC, dI) (zTy cI cZ cF) [(om k0 a I0 J0), (oa (a 1) cI 201 kd), (oa (a 5) cI 201 st), (oa (a 7) cI 201 gb), (oa (a 10) cI 201 it), (oa (a 8) cI 201 pa), (oa (a 9) cI 201 pb), (oa (a 2) cI 201 rk), (oa (a 3) cI 201 wd), (oa (a 4) cI 201 tw), (oa (a 6) cZ 201 tn), (oa (a 11) cI 201 mn), (oa (a 12) cI 8040 cx), (oa (a 13) cI 8040 cy), (oa (a 27) cI 516 sa), (oa (a 28) cI (4096 * cp) sh), (oa (a 16) cI 514 wh), (oa (a 17) cI 514 of9), (oa (a 18) cI 514 we)] sz (some (.int (nI (dn + 1)))) (fun A t => ∃ (b1 : Nat), ∃ (sh1 : Nat → Int32), (sh1 w0 = nI ft) ∧ (∀ j, j < w0 → sh1 j = sh j) ∧ (∀ g, g < ft → ∀ j, j < 10 + 2 * nnF st tn mn g → sh1 (psN (nnF st tn mn) w0 g + j) = (shD kd st gb it pa pb rk wd tw (nnF st tn mn) cx cy) g j) ∧ (∀ j, psN (nnF st tn mn) w0 ft ≤ j → j < 4096 * cp → sh1 j = sh j) ∧ zPD (dC, dI) classes A [(om k0 (va_up a 28 b1) (upd (upd (upd (upd I0 14 0) 19 (nI (dn + 1))) 20 0) 41 (nI (psN (nnF st tn mn) w0 ft))) J0), (oa (a 1) cI 201 kd), (oa (a 5) cI 201 st), (oa (a 7) cI 201 gb), (oa (a 10) cI 201 it), (oa (a 8) cI 201 pa), (oa (a 9) cI 201 pb), (oa (a 2) cI 201 rk), (oa (a 3) cI 201 wd), (oa (a 4) cI 201 tw), (oa (a 6) cZ 201 tn), (oa (a 11) cI 201 mn), (oa (a 12) cI 8040 cx), (oa (a 13) cI 8040 cy), (oa (a 27) cI 516 (upd sa ((dn + 1 - bs) + 1) (nI (psN (nnF st tn mn) w0 ft)))), (oa b1 cI (4096 * cE) sh1), (oa (a 16) cI 514 (upd wh (dn + 1) e1)), (oa (a 17) cI 514 (upd of9 (dn + 1) e2)), (oa (a 18) cI 514 (upd we (dn + 1) e3))] t.heap) (cE - cp) (8192 * (cE - cp)) := by
  refine zIn (own := "ScaleShopModel") (loc := [(0, .ref k0), (1, .int e1), (2, .int e2), (3, .int e3)]) rfl rfl rfl rfl (fun p e s m below meth c hx hb hr hts hown hlocks hml hnm9 A hA hS hP hD hK hXN Q9 hQ9 ls hl => ?_)
  refine lv_aload_n hx hb dX11_ends_0 rfl (lv_at hl 0 rfl) ?_
  refine lv_dup hx hb dX11_ends_1 rfl ?_
  refine va_get (D := (dC, dI)) (ci := 9) (v := .int (I0 19)) (C := RX11) (T := TX11) (N := 55) hx hb hts inX11 hown hK hP 0 rfl rfl 19 (Nat.le_of_ble_eq_true rfl) (hts _ mw_1178) (fun _ h9 => h9) rfl dX11_ends_2 ?_
  refine zz_i (v := nI dn) (hdn) ?_
  refine lv_iconst (v := 1) hx hb dX11_ends_5 rfl ?_
  refine lv_iadd hx hb dX11_ends_6 ?_
  refine zz_i (v := nI (dn + 1)) (nI_add dn 1) ?_
  refine va_put (D := (dC, dI)) (ci := 9) (v := .int (nI (dn + 1))) (ty := .int) (C := RX11) (T := TX11) (N := 55) hx hb hts inX11 tyX11 tyX11_ok nmX11 hown hK hP hD hS 0 rfl rfl 19 (by decide) (hts _ mw_1178) (fun _ h9 => h9) rfl (by decide +kernel) rfl rfl (Nat.le_of_ble_eq_true rfl) dX11_ends_7 (fun H locs hP hD hS => ?_)
  obtain ⟨hP, hD⟩ := zre (W2 := [(om k0 a (upd I0 19 (nI (dn + 1))) J0), _, _, _, _, _, _, _, _, _, _, _, _, _, _, _, _, _, _]) hP hD rfl
  refine lv_aload_n hx hb dX11_ends_10 rfl (lv_at hl 0 rfl) ?_
  refine lv_iconst (v := 0) hx hb dX11_ends_11 rfl ?_
  refine va_put (D := (dC, dI)) (ci := 9) (v := .int 0) (ty := .int) (C := RX11) (T := TX11) (N := 55) hx hb hts inX11 tyX11 tyX11_ok nmX11 hown hK hP hD hS 0 rfl rfl 20 (by decide) (hts _ mw_1179) (fun _ h9 => h9) rfl (by decide +kernel) rfl rfl (Nat.le_of_ble_eq_true rfl) dX11_ends_12 (fun H locs hP hD hS => ?_)
  obtain ⟨hP, hD⟩ := zre (W2 := [(om k0 a (upd (upd I0 19 (nI (dn + 1))) 20 0) J0), _, _, _, _, _, _, _, _, _, _, _, _, _, _, _, _, _, _]) hP hD rfl
  refine lv_aload_n hx hb dX11_ends_15 rfl (lv_at hl 0 rfl) ?_
  refine va_get (D := (dC, dI)) (ci := 9) (v := .ref (a 16)) (C := RX11) (T := TX11) (N := 55) hx hb hts inX11 hown hK hP 0 rfl rfl 16 (Nat.le_of_ble_eq_true rfl) (hts _ mw_1175) (fun _ h9 => h9) rfl dX11_ends_16 ?_
  refine lv_aload_n hx hb dX11_ends_19 rfl (lv_at hl 0 rfl) ?_
  refine va_get (D := (dC, dI)) (ci := 9) (v := .int (nI (dn + 1))) (C := RX11) (T := TX11) (N := 55) hx hb hts inX11 hown hK hP 0 rfl rfl 19 (Nat.le_of_ble_eq_true rfl) (hts _ mw_1178) (fun _ h9 => h9) rfl dX11_ends_20 ?_
  refine lv_iload_n hx hb dX11_ends_23 rfl (lv_at hl 1 rfl) ?_
  have b9_1 : dn + 1 < 514 := by omega
  refine z_iast hx hb hK hP hD hS 16 0 rfl rfl (e := dn + 1) (x := e1) rfl b9_1 (Nat.le_of_ble_eq_true rfl) dX11_ends_24 (fun H locs hP hD hS => ?_)
  obtain ⟨hP, hD⟩ := zre (W2 := [_, _, _, _, _, _, _, _, _, _, _, _, _, _, _, _, (oa (a 16) cI 514 (upd wh (dn + 1) e1)), _, _]) hP hD rfl
  refine lv_aload_n hx hb dX11_ends_25 rfl (lv_at hl 0 rfl) ?_
  refine va_get (D := (dC, dI)) (ci := 9) (v := .ref (a 17)) (C := RX11) (T := TX11) (N := 55) hx hb hts inX11 hown hK hP 0 rfl rfl 17 (Nat.le_of_ble_eq_true rfl) (hts _ mw_1176) (fun _ h9 => h9) rfl dX11_ends_26 ?_
  refine lv_aload_n hx hb dX11_ends_29 rfl (lv_at hl 0 rfl) ?_
  refine va_get (D := (dC, dI)) (ci := 9) (v := .int (nI (dn + 1))) (C := RX11) (T := TX11) (N := 55) hx hb hts inX11 hown hK hP 0 rfl rfl 19 (Nat.le_of_ble_eq_true rfl) (hts _ mw_1178) (fun _ h9 => h9) rfl dX11_ends_30 ?_
  refine lv_iload_n hx hb dX11_ends_33 rfl (lv_at hl 2 rfl) ?_
  refine z_iast hx hb hK hP hD hS 17 0 rfl rfl (e := dn + 1) (x := e2) rfl b9_1 (Nat.le_of_ble_eq_true rfl) dX11_ends_34 (fun H locs hP hD hS => ?_)
  obtain ⟨hP, hD⟩ := zre (W2 := [_, _, _, _, _, _, _, _, _, _, _, _, _, _, _, _, _, (oa (a 17) cI 514 (upd of9 (dn + 1) e2)), _]) hP hD rfl
  refine lv_aload_n hx hb dX11_ends_35 rfl (lv_at hl 0 rfl) ?_
  refine va_get (D := (dC, dI)) (ci := 9) (v := .ref (a 18)) (C := RX11) (T := TX11) (N := 55) hx hb hts inX11 hown hK hP 0 rfl rfl 18 (Nat.le_of_ble_eq_true rfl) (hts _ mw_1177) (fun _ h9 => h9) rfl dX11_ends_36 ?_
  refine lv_aload_n hx hb dX11_ends_39 rfl (lv_at hl 0 rfl) ?_
  refine va_get (D := (dC, dI)) (ci := 9) (v := .int (nI (dn + 1))) (C := RX11) (T := TX11) (N := 55) hx hb hts inX11 hown hK hP 0 rfl rfl 19 (Nat.le_of_ble_eq_true rfl) (hts _ mw_1178) (fun _ h9 => h9) rfl dX11_ends_40 ?_
  refine lv_iload_n hx hb dX11_ends_43 rfl (lv_at hl 3 rfl) ?_
  refine z_iast hx hb hK hP hD hS 18 0 rfl rfl (e := dn + 1) (x := e3) rfl b9_1 (Nat.le_of_ble_eq_true rfl) dX11_ends_44 (fun H locs hP hD hS => ?_)
  obtain ⟨hP, hD⟩ := zre (W2 := [_, _, _, _, _, _, _, _, _, _, _, _, _, _, _, _, _, _, (oa (a 18) cI 514 (upd we (dn + 1) e3))]) hP hD rfl
  refine lv_aload_n hx hb dX11_ends_45 rfl (lv_at hl 0 rfl) ?_
  refine lv_aload_n hx hb dX11_ends_46 rfl (lv_at hl 0 rfl) ?_
  refine va_get (D := (dC, dI)) (ci := 9) (v := .int (nI (dn + 1))) (C := RX11) (T := TX11) (N := 55) hx hb hts inX11 hown hK hP 0 rfl rfl 19 (Nat.le_of_ble_eq_true rfl) (hts _ mw_1178) (fun _ h9 => h9) rfl dX11_ends_47 ?_
  refine lv_aload_n hx hb dX11_ends_50 rfl (lv_at hl 0 rfl) ?_
  refine va_get (D := (dC, dI)) (ci := 9) (v := .int (I0 21)) (C := RX11) (T := TX11) (N := 55) hx hb hts inX11 hown hK hP 0 rfl rfl 21 (Nat.le_of_ble_eq_true rfl) (hts _ mw_1180) (fun _ h9 => h9) rfl dX11_ends_51 ?_
  refine zz_i (v := nI bs) (hbs) ?_
  refine lv_isub hx hb dX11_ends_54 ?_
  refine zz_i (v := nI ((dn + 1) - bs)) (pk_sub (a := dn + 1) (b := bs) (by omega)) ?_
  obtain ⟨hPc, hDc, hFc⟩ := zo_sub (wc := [_, _, _, _, _, _, _, _, _, _, _, _, _, _, _, _]) hP hD hS hA [0, 1, 2, 3, 4, 5, 6, 7, 8, 9, 10, 11, 12, 13, 14, 15] (by decide +kernel) rfl
  refine zcall (st1 := []) (va_runV (As := [.int (nI ((dn + 1) - bs))]) (rest := []) ⟨hx, hb, hml, hown, hts⟩ (k_M_keep l dC dI cI cZ cF H.size k0 a (upd (upd I0 19 (nI (dn + 1))) 20 0) J0 ((dn + 1) - bs) ft w0 cp cE kd st gb it pa pb rk wd tw tn mn cx cy sa sh (by first | with_reducible assumption | assumption) (by first | with_reducible assumption | omega) (by first | with_reducible assumption | omega) (by first | with_reducible assumption | assumption) (by first | with_reducible assumption | assumption) (by first | with_reducible assumption | omega) (by first | with_reducible assumption | assumption) (by first | with_reducible assumption | omega) (by first | with_reducible assumption | assumption) (by first | with_reducible assumption | assumption) (by first | with_reducible assumption | omega)) (csV_195 hts rfl rfl ⟨Nat.le_of_ble_eq_true rfl, Nat.le_of_ble_eq_true rfl⟩) (zPV2 (q0 := 0) (ci := 9) hPc hDc hK hXN rfl rfl) rfl rfl hl.1 rfl (lv_room (Nat.le_of_ble_eq_true rfl)) dX11_ends_55 ⟨show (0 + (cE - cp)) ≤ cE - cp by omega, show (0 + (8192 * (cE - cp))) ≤ 8192 * (cE - cp) by omega⟩) hS hFc hFc rfl (fun t H locs ht hB hk1 hS => ?_)
  obtain ⟨b1, sh1, hkf, hkl, hkb, hko, hP1, hD1⟩ := hB
  rw [ht] at hP1
  obtain ⟨hP, hD⟩ := zn (W2 := [_, _, _, (om k0 (va_up a 28 b1) (upd (upd (upd I0 19 (nI (dn + 1))) 20 0) 41 (nI (psN (nnF st tn mn) w0 ft))) J0), (oa (a 1) cI 201 kd), (oa (a 5) cI 201 st), (oa (a 7) cI 201 gb), (oa (a 10) cI 201 it), (oa (a 8) cI 201 pa), (oa (a 9) cI 201 pb), (oa (a 2) cI 201 rk), (oa (a 3) cI 201 wd), (oa (a 4) cI 201 tw), (oa (a 6) cZ 201 tn), (oa (a 11) cI 201 mn), (oa (a 12) cI 8040 cx), (oa (a 13) cI 8040 cy), (oa (a 27) cI 516 (upd sa (((dn + 1) - bs) + 1) (nI (psN (nnF st tn mn) w0 ft)))), (oa b1 cI (4096 * cE) sh1)]) hP hD hk1 hFc hP1 hD1 zl_80 zl_167 zl_168 zl_169 (by decide +kernel) rfl rfl rfl rfl rfl
  clear hk1 hPc hDc hFc hP1 hD1 ht
  refine lv_aload_n hx hb dX11_ends_58 rfl (lv_at hl 0 rfl) ?_
  refine lv_iconst (v := 0) hx hb dX11_ends_59 rfl ?_
  refine va_put (D := (dC, dI)) (ci := 9) (v := .int 0) (ty := .int) (C := RX11) (T := TX11) (N := 55) hx hb hts inX11 tyX11 tyX11_ok nmX11 hown hK hP hD hS 3 rfl rfl 14 (by decide) (hts _ mw_1173) (fun _ h9 => h9) rfl (by decide +kernel) rfl rfl (Nat.le_of_ble_eq_true rfl) dX11_ends_60 (fun H locs hP hD hS => ?_)
  obtain ⟨hP, hD⟩ := zre (W2 := [_, _, _, (om k0 (va_up a 28 b1) (upd (upd (upd (upd I0 14 0) 19 (nI (dn + 1))) 20 0) 41 (nI (psN (nnF st tn mn) w0 ft))) J0), _, _, _, _, _, _, _, _, _, _, _, _, _, _, _]) hP hD rfl
  refine lv_aload_n hx hb dX11_ends_63 rfl (lv_at hl 0 rfl) ?_
  refine va_get (D := (dC, dI)) (ci := 9) (v := .int (nI (dn + 1))) (C := RX11) (T := TX11) (N := 55) hx hb hts inX11 hown hK hP 3 rfl rfl 19 (Nat.le_of_ble_eq_true rfl) (hts _ mw_1178) (fun _ h9 => h9) rfl dX11_ends_64 ?_
  obtain ⟨hP9, hD9⟩ := zq_sub (wc := [_, _, _, _, _, _, _, _, _, _, _, _, _, _, _, _, _, _, _]) hP hD [3, 4, 5, 6, 7, 8, 9, 10, 11, 12, 13, 14, 15, 16, 17, 18, 0, 1, 2] rfl rfl
  refine W.widen (k := cE - cp) (n := 8192 * (cE - cp)) (by omega) (by omega) ?_
  rw [hQ9]
  exact W.iret (v := nI (dn + 1)) hx hb hr (fun t ht hW => ⟨⟨rfl, b1, sh1, (hkf), (hkl), (hkb), (hko), by rw [ht]; exact hP9, hD9⟩, hS.F ht⟩) hS.2.2 dX11_ends_67
set_option maxHeartbeats 4000000 in
set_option maxRecDepth 100000 in
theorem k_M_lose (l : Launch) (dC : Nat → ClassId) (dI : Nat → Nat → Nat) (cI cZ cF : ClassId) (sz : Nat) (k0 : Nat) (a : Nat → Nat) (I0 : Nat → Int32) (J0 : Nat → Int64) (e1 : Int32) (e2 : Int32) (e3 : Int32) (e4 : Int32) (ln : Nat) (cl : Nat) (la : Nat → Int32) (lb : Nat → Int32) (lc : Nat → Int32) (ld : Nat → Int32) (hln : I0 26 = nI ln) (hlc : ln ≤ 64 * cl) (hcl1 : 1 ≤ cl) (hclm : cl ≤ 1000000) : zM l yX11_lose cX11_lose 11 none ({ frames := 0, cells := 4 * (dl cl ln - cl), slots := 512 * (dl cl ln - cl), locals := 0 } : Room) [.ref k0, .int e1, .int e2, .int e3, .int e4] (dC, dI) (zTy cI cZ cF) [(om k0 a I0 J0), (oa (a 22) cI (64 * cl) la), (oa (a 23) cI (64 * cl) lb), (oa (a 24) cI (64 * cl) lc), (oa (a 25) cI (64 * cl) ld)] sz none (fun A t => ∃ (bl0 : Nat), ∃ (bl1 : Nat), ∃ (bl2 : Nat), ∃ (bl3 : Nat), ∃ (cl1 : Nat), ∃ (la1 : Nat → Int32), ∃ (lb1 : Nat → Int32), ∃ (lc1 : Nat → Int32), ∃ (ld1 : Nat → Int32), (cl1 = dl cl ln) ∧ (la1 ln = e1) ∧ (lb1 ln = e2) ∧ (lc1 ln = e3) ∧ (ld1 ln = e4) ∧ (∀ j, j < ln → la1 j = la j) ∧ (∀ j, j < ln → lb1 j = lb j) ∧ (∀ j, j < ln → lc1 j = lc j) ∧ (∀ j, j < ln → ld1 j = ld j) ∧ zPD (dC, dI) classes A [(om k0 (va_up (va_up (va_up (va_up a 22 bl0) 23 bl1) 24 bl2) 25 bl3) (upd I0 26 (nI (ln + 1))) J0), (oa bl0 cI (64 * cl1) la1), (oa bl1 cI (64 * cl1) lb1), (oa bl2 cI (64 * cl1) lc1), (oa bl3 cI (64 * cl1) ld1)] t.heap) (4 * (dl cl ln - cl)) (512 * (dl cl ln - cl)) := by
  refine zIn (own := "ScaleShopModel") (loc := [(0, .ref k0), (1, .int e1), (2, .int e2), (3, .int e3), (4, .int e4)]) rfl rfl rfl rfl (fun p e s m below meth c hx hb hr hts hown hlocks hml hnm9 A hA hS hP hD hK hXN Q9 hQ9 ls hl => ?_)
  have hdl : dl cl ln = if ln = 64 * cl then 2 * cl else cl := rfl
  refine lv_aload_n hx hb dX11_lose_0 rfl (lv_at hl 0 rfl) ?_
  refine va_get (D := (dC, dI)) (ci := 9) (v := .int (I0 26)) (C := RX11) (T := TX11) (N := 55) hx hb hts inX11 hown hK hP 0 rfl rfl 26 (Nat.le_of_ble_eq_true rfl) (hts _ mw_1185) (fun _ h9 => h9) rfl dX11_lose_1 ?_
  refine zz_i (v := nI ln) (hln) ?_
  refine lv_aload_n hx hb dX11_lose_4 rfl (lv_at hl 0 rfl) ?_
  refine va_get (D := (dC, dI)) (ci := 9) (v := .ref (a 23)) (C := RX11) (T := TX11) (N := 55) hx hb hts inX11 hown hK hP 0 rfl rfl 23 (Nat.le_of_ble_eq_true rfl) (hts _ mw_1182) (fun _ h9 => h9) rfl dX11_lose_5 ?_
  refine va_alen (v := nI (64 * cl)) hx hb hK hP 2 0 rfl rfl rfl dX11_lose_8 ?_
  have b9_2 : zlt (ln) := show ln < 2147483648 by omega
  have b9_3 : zlt ((64 * cl)) := show (64 * cl) < 2147483648 by omega
  refine lv_icmp_ne (tgt := 134) hx hb dX11_lose_9 rfl (fun c_1 => ?_) (fun c_1 => ?_)
  · have c_1 : ¬ ((ln : Nat) : Int) = ((64 * cl : Nat) : Int) := zc_ne (nI_toInt b9_2) (nI_toInt b9_3) c_1
    refine lv_aload_n hx hb dX11_lose_134 rfl (lv_at hl 0 rfl) ?_
    refine va_get (D := (dC, dI)) (ci := 9) (v := .ref (a 22)) (C := RX11) (T := TX11) (N := 55) hx hb hts inX11 hown hK hP 0 rfl rfl 22 (Nat.le_of_ble_eq_true rfl) (hts _ mw_1181) (fun _ h9 => h9) rfl dX11_lose_135 ?_
    refine lv_aload_n hx hb dX11_lose_138 rfl (lv_at hl 0 rfl) ?_
    refine va_get (D := (dC, dI)) (ci := 9) (v := .int (I0 26)) (C := RX11) (T := TX11) (N := 55) hx hb hts inX11 hown hK hP 0 rfl rfl 26 (Nat.le_of_ble_eq_true rfl) (hts _ mw_1185) (fun _ h9 => h9) rfl dX11_lose_139 ?_
    refine zz_i (v := nI ln) (hln) ?_
    refine lv_iload_n hx hb dX11_lose_142 rfl (lv_at hl 1 rfl) ?_
    have b9_4 : ln < (64 * cl) := by omega
    refine z_iast hx hb hK hP hD hS 1 0 rfl rfl (e := ln) (x := e1) rfl b9_4 b9_3 dX11_lose_143 (fun H locs hP hD hS => ?_)
    obtain ⟨hP, hD⟩ := zre (W2 := [_, (oa (a 22) cI (64 * cl) (upd la ln e1)), _, _, _]) hP hD rfl
    refine lv_aload_n hx hb dX11_lose_144 rfl (lv_at hl 0 rfl) ?_
    refine va_get (D := (dC, dI)) (ci := 9) (v := .ref (a 23)) (C := RX11) (T := TX11) (N := 55) hx hb hts inX11 hown hK hP 0 rfl rfl 23 (Nat.le_of_ble_eq_true rfl) (hts _ mw_1182) (fun _ h9 => h9) rfl dX11_lose_145 ?_
    refine lv_aload_n hx hb dX11_lose_148 rfl (lv_at hl 0 rfl) ?_
    refine va_get (D := (dC, dI)) (ci := 9) (v := .int (I0 26)) (C := RX11) (T := TX11) (N := 55) hx hb hts inX11 hown hK hP 0 rfl rfl 26 (Nat.le_of_ble_eq_true rfl) (hts _ mw_1185) (fun _ h9 => h9) rfl dX11_lose_149 ?_
    refine zz_i (v := nI ln) (hln) ?_
    refine lv_iload_n hx hb dX11_lose_152 rfl (lv_at hl 2 rfl) ?_
    refine z_iast hx hb hK hP hD hS 2 0 rfl rfl (e := ln) (x := e2) rfl b9_4 b9_3 dX11_lose_153 (fun H locs hP hD hS => ?_)
    obtain ⟨hP, hD⟩ := zre (W2 := [_, _, (oa (a 23) cI (64 * cl) (upd lb ln e2)), _, _]) hP hD rfl
    refine lv_aload_n hx hb dX11_lose_154 rfl (lv_at hl 0 rfl) ?_
    refine va_get (D := (dC, dI)) (ci := 9) (v := .ref (a 24)) (C := RX11) (T := TX11) (N := 55) hx hb hts inX11 hown hK hP 0 rfl rfl 24 (Nat.le_of_ble_eq_true rfl) (hts _ mw_1183) (fun _ h9 => h9) rfl dX11_lose_155 ?_
    refine lv_aload_n hx hb dX11_lose_158 rfl (lv_at hl 0 rfl) ?_
    refine va_get (D := (dC, dI)) (ci := 9) (v := .int (I0 26)) (C := RX11) (T := TX11) (N := 55) hx hb hts inX11 hown hK hP 0 rfl rfl 26 (Nat.le_of_ble_eq_true rfl) (hts _ mw_1185) (fun _ h9 => h9) rfl dX11_lose_159 ?_
    refine zz_i (v := nI ln) (hln) ?_
    refine lv_iload_n hx hb dX11_lose_162 rfl (lv_at hl 3 rfl) ?_
    refine z_iast hx hb hK hP hD hS 3 0 rfl rfl (e := ln) (x := e3) rfl b9_4 b9_3 dX11_lose_163 (fun H locs hP hD hS => ?_)
    obtain ⟨hP, hD⟩ := zre (W2 := [_, _, _, (oa (a 24) cI (64 * cl) (upd lc ln e3)), _]) hP hD rfl
    refine lv_aload_n hx hb dX11_lose_164 rfl (lv_at hl 0 rfl) ?_
    refine va_get (D := (dC, dI)) (ci := 9) (v := .ref (a 25)) (C := RX11) (T := TX11) (N := 55) hx hb hts inX11 hown hK hP 0 rfl rfl 25 (Nat.le_of_ble_eq_true rfl) (hts _ mw_1184) (fun _ h9 => h9) rfl dX11_lose_165 ?_
    refine lv_aload_n hx hb dX11_lose_168 rfl (lv_at hl 0 rfl) ?_
    refine va_get (D := (dC, dI)) (ci := 9) (v := .int (I0 26)) (C := RX11) (T := TX11) (N := 55) hx hb hts inX11 hown hK hP 0 rfl rfl 26 (Nat.le_of_ble_eq_true rfl) (hts _ mw_1185) (fun _ h9 => h9) rfl dX11_lose_169 ?_
    refine zz_i (v := nI ln) (hln) ?_
    refine lv_iload hx hb dX11_lose_172 (lv_at hl 4 rfl) ?_
    refine z_iast hx hb hK hP hD hS 4 0 rfl rfl (e := ln) (x := e4) rfl b9_4 b9_3 dX11_lose_174 (fun H locs hP hD hS => ?_)
    obtain ⟨hP, hD⟩ := zre (W2 := [_, _, _, _, (oa (a 25) cI (64 * cl) (upd ld ln e4))]) hP hD rfl
    refine lv_aload_n hx hb dX11_lose_175 rfl (lv_at hl 0 rfl) ?_
    refine lv_dup hx hb dX11_lose_176 rfl ?_
    refine va_get (D := (dC, dI)) (ci := 9) (v := .int (I0 26)) (C := RX11) (T := TX11) (N := 55) hx hb hts inX11 hown hK hP 0 rfl rfl 26 (Nat.le_of_ble_eq_true rfl) (hts _ mw_1185) (fun _ h9 => h9) rfl dX11_lose_177 ?_
    refine zz_i (v := nI ln) (hln) ?_
    refine lv_iconst (v := 1) hx hb dX11_lose_180 rfl ?_
    refine lv_iadd hx hb dX11_lose_181 ?_
    refine zz_i (v := nI (ln + 1)) (nI_add ln 1) ?_
    refine va_put (D := (dC, dI)) (ci := 9) (v := .int (nI (ln + 1))) (ty := .int) (C := RX11) (T := TX11) (N := 55) hx hb hts inX11 tyX11 tyX11_ok nmX11 hown hK hP hD hS 0 rfl rfl 26 (by decide) (hts _ mw_1185) (fun _ h9 => h9) rfl (by decide +kernel) rfl rfl (Nat.le_of_ble_eq_true rfl) dX11_lose_182 (fun H locs hP hD hS => ?_)
    obtain ⟨hP, hD⟩ := zre (W2 := [(om k0 a (upd I0 26 (nI (ln + 1))) J0), _, _, _, _]) hP hD rfl
    obtain ⟨hP9, hD9⟩ := zu_sub (wc := [_, _, _, _, _]) hP hD [true, true, true, true, true] rfl rfl
    refine W.widen (k := 4 * (dl cl ln - cl)) (n := 512 * (dl cl ln - cl)) (by omega) (by omega) ?_
    rw [hQ9]
    exact W.vret hx hb hr (fun t ht hW => ⟨⟨rfl, (a 22), (a 23), (a 24), (a 25), cl, (upd la ln e1), (upd lb ln e2), (upd lc ln e3), (upd ld ln e4), (by first | (rw [hdl, if_neg (by omega)]) | (rw [hdl])), (by exact up_at _ _ _), (by exact up_at _ _ _), (by exact up_at _ _ _), (by exact up_at _ _ _), (by first | exact up_lo (fun j hj => ha1 j (by omega)) (Nat.le_refl _) | exact up_lo (fun j hj => rfl) (Nat.le_refl _)), (by first | exact up_lo (fun j hj => ha2 j (by omega)) (Nat.le_refl _) | exact up_lo (fun j hj => rfl) (Nat.le_refl _)), (by first | exact up_lo (fun j hj => ha3 j (by omega)) (Nat.le_refl _) | exact up_lo (fun j hj => rfl) (Nat.le_refl _)), (by first | exact up_lo (fun j hj => ha4 j (by omega)) (Nat.le_refl _) | exact up_lo (fun j hj => rfl) (Nat.le_refl _)), by rw [ht]; exact hP9, hD9⟩, hS.F ht⟩) hS.2.2 dX11_lose_185
  · have c_1 : ((ln : Nat) : Int) = ((64 * cl : Nat) : Int) := zc_eq (nI_toInt b9_2) (nI_toInt b9_3) c_1
    have hle : ln = 64 * cl := (by omega)
    rw [if_pos hle] at hdl
    refine lv_iconst (v := 2) hx hb dX11_lose_12 rfl ?_
    refine lv_aload_n hx hb dX11_lose_13 rfl (lv_at hl 0 rfl) ?_
    refine va_get (D := (dC, dI)) (ci := 9) (v := .int (I0 26)) (C := RX11) (T := TX11) (N := 55) hx hb hts inX11 hown hK hP 0 rfl rfl 26 (Nat.le_of_ble_eq_true rfl) (hts _ mw_1185) (fun _ h9 => h9) rfl dX11_lose_14 ?_
    refine zz_i (v := nI ln) (hln) ?_
    refine lv_imul hx hb dX11_lose_17 ?_
    refine zz_i (v := nI (2 * ln)) (pk_mul 2 ln) ?_
    refine zz_i (v := nI (64 * (2 * cl))) (zn_eq (by omega)) ?_
    refine lv_istore (lv' := [(5, .int (nI (64 * (2 * cl)))), (0, .ref k0), (1, .int e1), (2, .int e2), (3, .int e3), (4, .int e4)]) hx hb dX11_lose_18 hl (Nat.le_of_ble_eq_true rfl) rfl (fun ls hl => ?_)
    refine lv_iload hx hb dX11_lose_20 (lv_at hl 0 rfl) ?_
    refine zz_newa (atype := .int) (a0 := (64 * (2 * cl), .inl (fun _ => 0))) hx hb (hts _ mw_195) (ty := .int) rfl hK hP hD hS hA (n := nI (64 * (2 * cl))) (N' := 64 * (2 * cl)) (cA := cI) 0 rfl (fun _ => rfl) (nI_pos (by omega)) (nI_clamp (by omega)) (show (64 * (2 * cl)) * 4 ≤ 536870912 by omega) (show 1 ≤ 4 * (dl cl ln - cl) by omega) (show (0 + (64 * (2 * cl))) ≤ 512 * (dl cl ln - cl) by omega) dX11_lose_22 (fun n1 H hP hD hS => ?_)
    obtain ⟨hP, hD⟩ := zre (W2 := [_, _, _, _, _, (oa n1 cI (64 * (2 * cl)) (fun _ => 0))]) hP hD rfl
    refine lv_astore (lv' := [(6, .ref n1), (5, .int (nI (64 * (2 * cl)))), (0, .ref k0), (1, .int e1), (2, .int e2), (3, .int e3), (4, .int e4)]) hx hb dX11_lose_24 hl (Nat.le_of_ble_eq_true rfl) rfl (fun ls hl => ?_)
    refine lv_iload hx hb dX11_lose_26 (lv_at hl 1 rfl) ?_
    refine zz_newa (atype := .int) (a0 := (64 * (2 * cl), .inl (fun _ => 0))) hx hb (hts _ mw_195) (ty := .int) rfl hK hP hD hS hA (n := nI (64 * (2 * cl))) (N' := 64 * (2 * cl)) (cA := cI) 0 rfl (fun _ => rfl) (nI_pos (by omega)) (nI_clamp (by omega)) (show (64 * (2 * cl)) * 4 ≤ 536870912 by omega) (show 2 ≤ 4 * (dl cl ln - cl) by omega) (show ((0 + (64 * (2 * cl))) + (64 * (2 * cl))) ≤ 512 * (dl cl ln - cl) by omega) dX11_lose_28 (fun n2 H hP hD hS => ?_)
    obtain ⟨hP, hD⟩ := zre (W2 := [_, _, _, _, _, _, (oa n2 cI (64 * (2 * cl)) (fun _ => 0))]) hP hD rfl
    refine lv_astore (lv' := [(7, .ref n2), (6, .ref n1), (5, .int (nI (64 * (2 * cl)))), (0, .ref k0), (1, .int e1), (2, .int e2), (3, .int e3), (4, .int e4)]) hx hb dX11_lose_30 hl (Nat.le_of_ble_eq_true rfl) rfl (fun ls hl => ?_)
    refine lv_iload hx hb dX11_lose_32 (lv_at hl 2 rfl) ?_
    refine zz_newa (atype := .int) (a0 := (64 * (2 * cl), .inl (fun _ => 0))) hx hb (hts _ mw_195) (ty := .int) rfl hK hP hD hS hA (n := nI (64 * (2 * cl))) (N' := 64 * (2 * cl)) (cA := cI) 0 rfl (fun _ => rfl) (nI_pos (by omega)) (nI_clamp (by omega)) (show (64 * (2 * cl)) * 4 ≤ 536870912 by omega) (show 3 ≤ 4 * (dl cl ln - cl) by omega) (show (((0 + (64 * (2 * cl))) + (64 * (2 * cl))) + (64 * (2 * cl))) ≤ 512 * (dl cl ln - cl) by omega) dX11_lose_34 (fun n3 H hP hD hS => ?_)
    obtain ⟨hP, hD⟩ := zre (W2 := [_, _, _, _, _, _, _, (oa n3 cI (64 * (2 * cl)) (fun _ => 0))]) hP hD rfl
    refine lv_astore (lv' := [(8, .ref n3), (7, .ref n2), (6, .ref n1), (5, .int (nI (64 * (2 * cl)))), (0, .ref k0), (1, .int e1), (2, .int e2), (3, .int e3), (4, .int e4)]) hx hb dX11_lose_36 hl (Nat.le_of_ble_eq_true rfl) rfl (fun ls hl => ?_)
    refine lv_iload hx hb dX11_lose_38 (lv_at hl 3 rfl) ?_
    refine zz_newa (atype := .int) (a0 := (64 * (2 * cl), .inl (fun _ => 0))) hx hb (hts _ mw_195) (ty := .int) rfl hK hP hD hS hA (n := nI (64 * (2 * cl))) (N' := 64 * (2 * cl)) (cA := cI) 0 rfl (fun _ => rfl) (nI_pos (by omega)) (nI_clamp (by omega)) (show (64 * (2 * cl)) * 4 ≤ 536870912 by omega) (show 4 ≤ 4 * (dl cl ln - cl) by omega) (show ((((0 + (64 * (2 * cl))) + (64 * (2 * cl))) + (64 * (2 * cl))) + (64 * (2 * cl))) ≤ 512 * (dl cl ln - cl) by omega) dX11_lose_40 (fun n4 H hP hD hS => ?_)
    obtain ⟨hP, hD⟩ := zre (W2 := [_, _, _, _, _, _, _, _, (oa n4 cI (64 * (2 * cl)) (fun _ => 0))]) hP hD rfl
    refine lv_astore (lv' := [(9, .ref n4), (8, .ref n3), (7, .ref n2), (6, .ref n1), (5, .int (nI (64 * (2 * cl)))), (0, .ref k0), (1, .int e1), (2, .int e2), (3, .int e3), (4, .int e4)]) hx hb dX11_lose_42 hl (Nat.le_of_ble_eq_true rfl) rfl (fun ls hl => ?_)
    refine lv_iconst (v := 0) hx hb dX11_lose_44 rfl ?_
    refine lv_istore (lv' := [(10, .int 0), (9, .ref n4), (8, .ref n3), (7, .ref n2), (6, .ref n1), (5, .int (nI (64 * (2 * cl)))), (0, .ref k0), (1, .int e1), (2, .int e2), (3, .int e3), (4, .int e4)]) hx hb dX11_lose_45 hl (Nat.le_of_ble_eq_true rfl) rfl (fun ls hl => ?_)
    have hl_47 : ∀ (n9 : Nat) (k : Nat) (f1 : Nat → Int32) (f2 : Nat → Int32) (f3 : Nat → Int32) (f4 : Nat → Int32) (H : Heap) (locs : List Loc) (ls : Array Slot), ln - k < n9 → (k ≤ ln) → (∀ j, j < k → f1 j = la j) → (∀ j, j < k → f2 j = lb j) → (∀ j, j < k → f3 j = lc j) → (∀ j, j < k → f4 j = ld j) → va_P (dC, dI) classes [(om k0 a I0 J0), (oa (a 22) cI (64 * cl) la), (oa (a 23) cI (64 * cl) lb), (oa (a 24) cI (64 * cl) lc), (oa (a 25) cI (64 * cl) ld), (oa n1 cI (64 * (2 * cl)) f1), (oa n2 cI (64 * (2 * cl)) f2), (oa n3 cI (64 * (2 * cl)) f3), (oa n4 cI (64 * (2 * cl)) f4)] H → va_D A [(om k0 a I0 J0), (oa (a 22) cI (64 * cl) la), (oa (a 23) cI (64 * cl) lb), (oa (a 24) cI (64 * cl) lc), (oa (a 25) cI (64 * cl) ld), (oa n1 cI (64 * (2 * cl)) f1), (oa n2 cI (64 * (2 * cl)) f2), (oa n3 cI (64 * (2 * cl)) f3), (oa n4 cI (64 * (2 * cl)) f4)] → va_S A s.heap H locs → lv_has ls 11 [(10, .int (nI k)), (9, .ref n4), (8, .ref n3), (7, .ref n2), (6, .ref n1), (5, .int (nI (64 * (2 * cl)))), (0, .ref k0), (1, .int e1), (2, .int e2), (3, .int e3), (4, .int e4)] → W p l e ({ frames := 0, cells := 4 * (dl cl ln - cl), slots := 512 * (dl cl ln - cl), locals := 0 } : Room) s m ([.ref k0, .int e1, .int e2, .int e3, .int e4] : List Value).toArray below meth c H locs 4 ((((0 + (64 * (2 * cl))) + (64 * (2 * cl))) + (64 * (2 * cl))) + (64 * (2 * cl))) Q9 (F0 m 47 ls []) := by
      intro n9
      induction n9 with
      | zero => intro k f1 f2 f3 f4 H locs ls hm; exact absurd hm (Nat.not_lt_zero _)
      | succ n9 ih_47 =>
        intro k f1 f2 f3 f4 H locs ls hm hk ha1 ha2 ha3 ha4 hP hD hS hl
        refine lv_iload hx hb dX11_lose_47 (lv_at hl 0 rfl) ?_
        refine lv_aload_n hx hb dX11_lose_49 rfl (lv_at hl 6 rfl) ?_
        refine va_get (D := (dC, dI)) (ci := 9) (v := .int (I0 26)) (C := RX11) (T := TX11) (N := 55) hx hb hts inX11 hown hK hP 0 rfl rfl 26 (Nat.le_of_ble_eq_true rfl) (hts _ mw_1185) (fun _ h9 => h9) rfl dX11_lose_50 ?_
        refine zz_i (v := nI ln) (hln) ?_
        have b9_6 : zlt (k) := show k < 2147483648 by omega
        refine lv_icmp_ge (tgt := 110) hx hb dX11_lose_53 rfl (fun c_5 => ?_) (fun c_5 => ?_)
        · have c_5 : ((ln : Nat) : Int) ≤ ((k : Nat) : Int) := zc_le (nI_toInt b9_2) (nI_toInt b9_6) c_5
          refine lv_aload_n hx hb dX11_lose_110 rfl (lv_at hl 6 rfl) ?_
          refine lv_aload hx hb dX11_lose_111 (lv_at hl 4 rfl) ?_
          refine va_put (D := (dC, dI)) (ci := 9) (v := .ref n1) (ty := .array .int) (C := RX11) (T := TX11) (N := 55) hx hb hts inX11 tyX11 tyX11_ok nmX11 hown hK hP hD hS 0 rfl rfl 22 (by decide) (hts _ mw_1181) (fun _ h9 => h9) rfl (by decide +kernel) rfl rfl (Nat.le_of_ble_eq_true rfl) dX11_lose_113 (fun H locs hP hD hS => ?_)
          obtain ⟨hP, hD⟩ := zre (W2 := [(om k0 (va_up a 22 n1) I0 J0), _, _, _, _, _, _, _, _]) hP hD rfl
          refine lv_aload_n hx hb dX11_lose_116 rfl (lv_at hl 6 rfl) ?_
          refine lv_aload hx hb dX11_lose_117 (lv_at hl 3 rfl) ?_
          refine va_put (D := (dC, dI)) (ci := 9) (v := .ref n2) (ty := .array .int) (C := RX11) (T := TX11) (N := 55) hx hb hts inX11 tyX11 tyX11_ok nmX11 hown hK hP hD hS 0 rfl rfl 23 (by decide) (hts _ mw_1182) (fun _ h9 => h9) rfl (by decide +kernel) rfl rfl (Nat.le_of_ble_eq_true rfl) dX11_lose_119 (fun H locs hP hD hS => ?_)
          obtain ⟨hP, hD⟩ := zre (W2 := [(om k0 (va_up (va_up a 22 n1) 23 n2) I0 J0), _, _, _, _, _, _, _, _]) hP hD rfl
          refine lv_aload_n hx hb dX11_lose_122 rfl (lv_at hl 6 rfl) ?_
          refine lv_aload hx hb dX11_lose_123 (lv_at hl 2 rfl) ?_
          refine va_put (D := (dC, dI)) (ci := 9) (v := .ref n3) (ty := .array .int) (C := RX11) (T := TX11) (N := 55) hx hb hts inX11 tyX11 tyX11_ok nmX11 hown hK hP hD hS 0 rfl rfl 24 (by decide) (hts _ mw_1183) (fun _ h9 => h9) rfl (by decide +kernel) rfl rfl (Nat.le_of_ble_eq_true rfl) dX11_lose_125 (fun H locs hP hD hS => ?_)
          obtain ⟨hP, hD⟩ := zre (W2 := [(om k0 (va_up (va_up (va_up a 22 n1) 23 n2) 24 n3) I0 J0), _, _, _, _, _, _, _, _]) hP hD rfl
          refine lv_aload_n hx hb dX11_lose_128 rfl (lv_at hl 6 rfl) ?_
          refine lv_aload hx hb dX11_lose_129 (lv_at hl 1 rfl) ?_
          refine va_put (D := (dC, dI)) (ci := 9) (v := .ref n4) (ty := .array .int) (C := RX11) (T := TX11) (N := 55) hx hb hts inX11 tyX11 tyX11_ok nmX11 hown hK hP hD hS 0 rfl rfl 25 (by decide) (hts _ mw_1184) (fun _ h9 => h9) rfl (by decide +kernel) rfl rfl (Nat.le_of_ble_eq_true rfl) dX11_lose_131 (fun H locs hP hD hS => ?_)
          obtain ⟨hP, hD⟩ := zre (W2 := [(om k0 (va_up (va_up (va_up (va_up a 22 n1) 23 n2) 24 n3) 25 n4) I0 J0), _, _, _, _, _, _, _, _]) hP hD rfl
          refine lv_aload_n hx hb dX11_lose_134 rfl (lv_at hl 6 rfl) ?_
          refine va_get (D := (dC, dI)) (ci := 9) (v := .ref n1) (C := RX11) (T := TX11) (N := 55) hx hb hts inX11 hown hK hP 0 rfl rfl 22 (Nat.le_of_ble_eq_true rfl) (hts _ mw_1181) (fun _ h9 => h9) rfl dX11_lose_135 ?_
          refine lv_aload_n hx hb dX11_lose_138 rfl (lv_at hl 6 rfl) ?_
          refine va_get (D := (dC, dI)) (ci := 9) (v := .int (I0 26)) (C := RX11) (T := TX11) (N := 55) hx hb hts inX11 hown hK hP 0 rfl rfl 26 (Nat.le_of_ble_eq_true rfl) (hts _ mw_1185) (fun _ h9 => h9) rfl dX11_lose_139 ?_
          refine zz_i (v := nI ln) (hln) ?_
          refine lv_iload_n hx hb dX11_lose_142 rfl (lv_at hl 7 rfl) ?_
          have b9_7 : ln < (64 * (2 * cl)) := by omega
          have b9_8 : zlt ((64 * (2 * cl))) := show (64 * (2 * cl)) < 2147483648 by omega
          refine z_iast hx hb hK hP hD hS 5 0 rfl rfl (e := ln) (x := e1) rfl b9_7 b9_8 dX11_lose_143 (fun H locs hP hD hS => ?_)
          obtain ⟨hP, hD⟩ := zre (W2 := [_, _, _, _, _, (oa n1 cI (64 * (2 * cl)) (upd f1 ln e1)), _, _, _]) hP hD rfl
          refine lv_aload_n hx hb dX11_lose_144 rfl (lv_at hl 6 rfl) ?_
          refine va_get (D := (dC, dI)) (ci := 9) (v := .ref n2) (C := RX11) (T := TX11) (N := 55) hx hb hts inX11 hown hK hP 0 rfl rfl 23 (Nat.le_of_ble_eq_true rfl) (hts _ mw_1182) (fun _ h9 => h9) rfl dX11_lose_145 ?_
          refine lv_aload_n hx hb dX11_lose_148 rfl (lv_at hl 6 rfl) ?_
          refine va_get (D := (dC, dI)) (ci := 9) (v := .int (I0 26)) (C := RX11) (T := TX11) (N := 55) hx hb hts inX11 hown hK hP 0 rfl rfl 26 (Nat.le_of_ble_eq_true rfl) (hts _ mw_1185) (fun _ h9 => h9) rfl dX11_lose_149 ?_
          refine zz_i (v := nI ln) (hln) ?_
          refine lv_iload_n hx hb dX11_lose_152 rfl (lv_at hl 8 rfl) ?_
          refine z_iast hx hb hK hP hD hS 6 0 rfl rfl (e := ln) (x := e2) rfl b9_7 b9_8 dX11_lose_153 (fun H locs hP hD hS => ?_)
          obtain ⟨hP, hD⟩ := zre (W2 := [_, _, _, _, _, _, (oa n2 cI (64 * (2 * cl)) (upd f2 ln e2)), _, _]) hP hD rfl
          refine lv_aload_n hx hb dX11_lose_154 rfl (lv_at hl 6 rfl) ?_
          refine va_get (D := (dC, dI)) (ci := 9) (v := .ref n3) (C := RX11) (T := TX11) (N := 55) hx hb hts inX11 hown hK hP 0 rfl rfl 24 (Nat.le_of_ble_eq_true rfl) (hts _ mw_1183) (fun _ h9 => h9) rfl dX11_lose_155 ?_
          refine lv_aload_n hx hb dX11_lose_158 rfl (lv_at hl 6 rfl) ?_
          refine va_get (D := (dC, dI)) (ci := 9) (v := .int (I0 26)) (C := RX11) (T := TX11) (N := 55) hx hb hts inX11 hown hK hP 0 rfl rfl 26 (Nat.le_of_ble_eq_true rfl) (hts _ mw_1185) (fun _ h9 => h9) rfl dX11_lose_159 ?_
          refine zz_i (v := nI ln) (hln) ?_
          refine lv_iload_n hx hb dX11_lose_162 rfl (lv_at hl 9 rfl) ?_
          refine z_iast hx hb hK hP hD hS 7 0 rfl rfl (e := ln) (x := e3) rfl b9_7 b9_8 dX11_lose_163 (fun H locs hP hD hS => ?_)
          obtain ⟨hP, hD⟩ := zre (W2 := [_, _, _, _, _, _, _, (oa n3 cI (64 * (2 * cl)) (upd f3 ln e3)), _]) hP hD rfl
          refine lv_aload_n hx hb dX11_lose_164 rfl (lv_at hl 6 rfl) ?_
          refine va_get (D := (dC, dI)) (ci := 9) (v := .ref n4) (C := RX11) (T := TX11) (N := 55) hx hb hts inX11 hown hK hP 0 rfl rfl 25 (Nat.le_of_ble_eq_true rfl) (hts _ mw_1184) (fun _ h9 => h9) rfl dX11_lose_165 ?_
          refine lv_aload_n hx hb dX11_lose_168 rfl (lv_at hl 6 rfl) ?_
          refine va_get (D := (dC, dI)) (ci := 9) (v := .int (I0 26)) (C := RX11) (T := TX11) (N := 55) hx hb hts inX11 hown hK hP 0 rfl rfl 26 (Nat.le_of_ble_eq_true rfl) (hts _ mw_1185) (fun _ h9 => h9) rfl dX11_lose_169 ?_
          refine zz_i (v := nI ln) (hln) ?_
          refine lv_iload hx hb dX11_lose_172 (lv_at hl 10 rfl) ?_
          refine z_iast hx hb hK hP hD hS 8 0 rfl rfl (e := ln) (x := e4) rfl b9_7 b9_8 dX11_lose_174 (fun H locs hP hD hS => ?_)
          obtain ⟨hP, hD⟩ := zre (W2 := [_, _, _, _, _, _, _, _, (oa n4 cI (64 * (2 * cl)) (upd f4 ln e4))]) hP hD rfl
          refine lv_aload_n hx hb dX11_lose_175 rfl (lv_at hl 6 rfl) ?_
          refine lv_dup hx hb dX11_lose_176 rfl ?_
          refine va_get (D := (dC, dI)) (ci := 9) (v := .int (I0 26)) (C := RX11) (T := TX11) (N := 55) hx hb hts inX11 hown hK hP 0 rfl rfl 26 (Nat.le_of_ble_eq_true rfl) (hts _ mw_1185) (fun _ h9 => h9) rfl dX11_lose_177 ?_
          refine zz_i (v := nI ln) (hln) ?_
          refine lv_iconst (v := 1) hx hb dX11_lose_180 rfl ?_
          refine lv_iadd hx hb dX11_lose_181 ?_
          refine zz_i (v := nI (ln + 1)) (nI_add ln 1) ?_
          refine va_put (D := (dC, dI)) (ci := 9) (v := .int (nI (ln + 1))) (ty := .int) (C := RX11) (T := TX11) (N := 55) hx hb hts inX11 tyX11 tyX11_ok nmX11 hown hK hP hD hS 0 rfl rfl 26 (by decide) (hts _ mw_1185) (fun _ h9 => h9) rfl (by decide +kernel) rfl rfl (Nat.le_of_ble_eq_true rfl) dX11_lose_182 (fun H locs hP hD hS => ?_)
          obtain ⟨hP, hD⟩ := zre (W2 := [(om k0 (va_up (va_up (va_up (va_up a 22 n1) 23 n2) 24 n3) 25 n4) (upd I0 26 (nI (ln + 1))) J0), _, _, _, _, _, _, _, _]) hP hD rfl
          obtain ⟨hP9, hD9⟩ := zu_sub (wc := [_, _, _, _, _]) hP hD [true, false, false, false, false, true, true, true, true] rfl rfl
          refine W.widen (k := 4 * (dl cl ln - cl)) (n := 512 * (dl cl ln - cl)) (by omega) (by omega) ?_
          rw [hQ9]
          exact W.vret hx hb hr (fun t ht hW => ⟨⟨rfl, n1, n2, n3, n4, (2 * cl), (upd f1 ln e1), (upd f2 ln e2), (upd f3 ln e3), (upd f4 ln e4), (by first | (rw [hdl, if_neg (by omega)]) | (rw [hdl])), (by exact up_at _ _ _), (by exact up_at _ _ _), (by exact up_at _ _ _), (by exact up_at _ _ _), (by first | exact up_lo (fun j hj => ha1 j (by omega)) (Nat.le_refl _) | exact up_lo (fun j hj => rfl) (Nat.le_refl _)), (by first | exact up_lo (fun j hj => ha2 j (by omega)) (Nat.le_refl _) | exact up_lo (fun j hj => rfl) (Nat.le_refl _)), (by first | exact up_lo (fun j hj => ha3 j (by omega)) (Nat.le_refl _) | exact up_lo (fun j hj => rfl) (Nat.le_refl _)), (by first | exact up_lo (fun j hj => ha4 j (by omega)) (Nat.le_refl _) | exact up_lo (fun j hj => rfl) (Nat.le_refl _)), by rw [ht]; exact hP9, hD9⟩, hS.F ht⟩) hS.2.2 dX11_lose_185
        · have c_5 : ((k : Nat) : Int) < ((ln : Nat) : Int) := zc_nle (nI_toInt b9_2) (nI_toInt b9_6) c_5
          refine lv_aload hx hb dX11_lose_56 (lv_at hl 4 rfl) ?_
          refine lv_iload hx hb dX11_lose_58 (lv_at hl 0 rfl) ?_
          refine lv_aload_n hx hb dX11_lose_60 rfl (lv_at hl 6 rfl) ?_
          refine va_get (D := (dC, dI)) (ci := 9) (v := .ref (a 22)) (C := RX11) (T := TX11) (N := 55) hx hb hts inX11 hown hK hP 0 rfl rfl 22 (Nat.le_of_ble_eq_true rfl) (hts _ mw_1181) (fun _ h9 => h9) rfl dX11_lose_61 ?_
          refine lv_iload hx hb dX11_lose_64 (lv_at hl 0 rfl) ?_
          have b9_9 : k < (64 * cl) := by omega
          refine z_iald hx hb hK hP 1 0 rfl rfl (e := k) rfl b9_9 b9_3 dX11_lose_66 ?_
          have b9_10 : k < (64 * (2 * cl)) := by omega
          have b9_11 : zlt ((64 * (2 * cl))) := show (64 * (2 * cl)) < 2147483648 by omega
          refine z_iast hx hb hK hP hD hS 5 0 rfl rfl (e := k) (x := la k) rfl b9_10 b9_11 dX11_lose_67 (fun H locs hP hD hS => ?_)
          obtain ⟨hP, hD⟩ := zre (W2 := [_, _, _, _, _, (oa n1 cI (64 * (2 * cl)) (upd f1 k (la k))), _, _, _]) hP hD rfl
          refine lv_aload hx hb dX11_lose_68 (lv_at hl 3 rfl) ?_
          refine lv_iload hx hb dX11_lose_70 (lv_at hl 0 rfl) ?_
          refine lv_aload_n hx hb dX11_lose_72 rfl (lv_at hl 6 rfl) ?_
          refine va_get (D := (dC, dI)) (ci := 9) (v := .ref (a 23)) (C := RX11) (T := TX11) (N := 55) hx hb hts inX11 hown hK hP 0 rfl rfl 23 (Nat.le_of_ble_eq_true rfl) (hts _ mw_1182) (fun _ h9 => h9) rfl dX11_lose_73 ?_
          refine lv_iload hx hb dX11_lose_76 (lv_at hl 0 rfl) ?_
          refine z_iald hx hb hK hP 2 0 rfl rfl (e := k) rfl b9_9 b9_3 dX11_lose_78 ?_
          refine z_iast hx hb hK hP hD hS 6 0 rfl rfl (e := k) (x := lb k) rfl b9_10 b9_11 dX11_lose_79 (fun H locs hP hD hS => ?_)
          obtain ⟨hP, hD⟩ := zre (W2 := [_, _, _, _, _, _, (oa n2 cI (64 * (2 * cl)) (upd f2 k (lb k))), _, _]) hP hD rfl
          refine lv_aload hx hb dX11_lose_80 (lv_at hl 2 rfl) ?_
          refine lv_iload hx hb dX11_lose_82 (lv_at hl 0 rfl) ?_
          refine lv_aload_n hx hb dX11_lose_84 rfl (lv_at hl 6 rfl) ?_
          refine va_get (D := (dC, dI)) (ci := 9) (v := .ref (a 24)) (C := RX11) (T := TX11) (N := 55) hx hb hts inX11 hown hK hP 0 rfl rfl 24 (Nat.le_of_ble_eq_true rfl) (hts _ mw_1183) (fun _ h9 => h9) rfl dX11_lose_85 ?_
          refine lv_iload hx hb dX11_lose_88 (lv_at hl 0 rfl) ?_
          refine z_iald hx hb hK hP 3 0 rfl rfl (e := k) rfl b9_9 b9_3 dX11_lose_90 ?_
          refine z_iast hx hb hK hP hD hS 7 0 rfl rfl (e := k) (x := lc k) rfl b9_10 b9_11 dX11_lose_91 (fun H locs hP hD hS => ?_)
          obtain ⟨hP, hD⟩ := zre (W2 := [_, _, _, _, _, _, _, (oa n3 cI (64 * (2 * cl)) (upd f3 k (lc k))), _]) hP hD rfl
          refine lv_aload hx hb dX11_lose_92 (lv_at hl 1 rfl) ?_
          refine lv_iload hx hb dX11_lose_94 (lv_at hl 0 rfl) ?_
          refine lv_aload_n hx hb dX11_lose_96 rfl (lv_at hl 6 rfl) ?_
          refine va_get (D := (dC, dI)) (ci := 9) (v := .ref (a 25)) (C := RX11) (T := TX11) (N := 55) hx hb hts inX11 hown hK hP 0 rfl rfl 25 (Nat.le_of_ble_eq_true rfl) (hts _ mw_1184) (fun _ h9 => h9) rfl dX11_lose_97 ?_
          refine lv_iload hx hb dX11_lose_100 (lv_at hl 0 rfl) ?_
          refine z_iald hx hb hK hP 4 0 rfl rfl (e := k) rfl b9_9 b9_3 dX11_lose_102 ?_
          refine z_iast hx hb hK hP hD hS 8 0 rfl rfl (e := k) (x := ld k) rfl b9_10 b9_11 dX11_lose_103 (fun H locs hP hD hS => ?_)
          obtain ⟨hP, hD⟩ := zre (W2 := [_, _, _, _, _, _, _, _, (oa n4 cI (64 * (2 * cl)) (upd f4 k (ld k)))]) hP hD rfl
          refine lv_iinc (v := nI (k + 1)) (lv' := [(10, .int (nI (k + 1))), (9, .ref n4), (8, .ref n3), (7, .ref n2), (6, .ref n1), (5, .int (nI (64 * (2 * cl)))), (0, .ref k0), (1, .int e1), (2, .int e2), (3, .int e3), (4, .int e4)]) hx hb dX11_lose_104 hl (k := 0) rfl (nI_add k 1) (Nat.le_of_ble_eq_true rfl) rfl (fun ls hl => ?_)
          refine lv_goto (tgt := 47) hx hb dX11_lose_107 rfl ?_
          exact ih_47 (k + 1) (upd f1 k (la k)) (upd f2 k (lb k)) (upd f3 k (lc k)) (upd f4 k (ld k)) H locs ls (by first | with_reducible assumption | omega) (by first | with_reducible assumption | omega) (up_sn ha1 rfl) (up_sn ha2 rfl) (up_sn ha3 rfl) (up_sn ha4 rfl) hP hD hS (lv_sub hl [0, 1, 2, 3, 4, 5, 6, 7, 8, 9, 10] rfl)
    exact hl_47 _ 0 (fun _ => 0) (fun _ => 0) (fun _ => 0) (fun _ => 0) H [] ls (Nat.lt_succ_self _) (by first | with_reducible assumption | omega) (by intro j hj; omega) (by intro j hj; omega) (by intro j hj; omega) (by intro j hj; omega) hP hD hS (lv_sub hl [0, 1, 2, 3, 4, 5, 6, 7, 8, 9, 10] rfl)
set_option maxHeartbeats 4000000 in
set_option maxRecDepth 100000 in
theorem k_M_squeeze (l : Launch) (dC : Nat → ClassId) (dI : Nat → Nat → Nat) (cI cZ cF : ClassId) (sz : Nat) (k0 : Nat) (a : Nat → Nat) (I0 : Nat → Int32) (J0 : Nat → Int64) (fr : Nat) (ln : Nat) (cl : Nat) (dn : Nat) (la : Nat → Int32) (lb : Nat → Int32) (lc : Nat → Int32) (ld : Nat → Int32) (hln : I0 26 = nI ln) (hlc : ln ≤ 64 * cl) (hcl1 : 1 ≤ cl) (hclm : cl ≤ 1000000) (hfr : fr ≤ 64000000) (hdn : I0 19 = nI dn) (hdm : dn ≤ 600) : zM l yX11_squeeze cX11_squeeze 4 none ({ frames := 0, cells := 0, slots := 0, locals := 0 } : Room) [.ref k0, .int (nI fr)] (dC, dI) (zTy cI cZ cF) [(om k0 a I0 J0), (oa (a 22) cI (64 * cl) la), (oa (a 23) cI (64 * cl) lb), (oa (a 24) cI (64 * cl) lc), (oa (a 25) cI (64 * cl) ld)] sz none (fun A t => ∃ (t9 : Nat), ∃ (la1 : Nat → Int32), ∃ (lb1 : Nat → Int32), ∃ (lc1 : Nat → Int32), ∃ (ld1 : Nat → Int32), (t9 ≤ ln) ∧ (∀ j, j < t9 → ∃ i, i < ln ∧ lb1 j = lb i ∧ lc1 j = lc i) ∧ (sqX dn fr ln t9 la lb lc ld la1 lb1 lc1 ld1) ∧ zPD (dC, dI) classes A [(om k0 a (upd I0 26 (nI t9)) J0), (oa (a 22) cI (64 * cl) la1), (oa (a 23) cI (64 * cl) lb1), (oa (a 24) cI (64 * cl) lc1), (oa (a 25) cI (64 * cl) ld1)] t.heap) 0 0 := by
  refine zIn (own := "ScaleShopModel") (loc := [(0, .ref k0), (1, .int (nI fr))]) rfl rfl rfl rfl (fun p e s m below meth c hx hb hr hts hown hlocks hml hnm9 A hA hS hP hD hK hXN Q9 hQ9 ls hl => ?_)
  refine lv_iconst (v := 0) hx hb dX11_squeeze_0 rfl ?_
  refine lv_istore_n (lv' := [(2, .int 0), (0, .ref k0), (1, .int (nI fr))]) hx hb dX11_squeeze_1 rfl hl (Nat.le_of_ble_eq_true rfl) rfl (fun ls hl => ?_)
  refine lv_iconst (v := 0) hx hb dX11_squeeze_2 rfl ?_
  refine lv_istore_n (lv' := [(3, .int 0), (2, .int 0), (0, .ref k0), (1, .int (nI fr))]) hx hb dX11_squeeze_3 rfl hl (Nat.le_of_ble_eq_true rfl) rfl (fun ls hl => ?_)
  have hl_4 : ∀ (n9 : Nat) (k : Nat) (t9 : Nat) (la1 : Nat → Int32) (lb1 : Nat → Int32) (lc1 : Nat → Int32) (ld1 : Nat → Int32) (H : Heap) (locs : List Loc) (ls : Array Slot), ln - k < n9 → (k ≤ ln) → (t9 ≤ k) → (∀ j, j < t9 → ∃ i, i < ln ∧ lb1 j = lb i ∧ lc1 j = lc i) → (∀ j, k ≤ j → lb1 j = lb j ∧ lc1 j = lc j) → (∀ j, k ≤ j → la1 j = la j ∧ lb1 j = lb j ∧ lc1 j = lc j ∧ ld1 j = ld j) → (sqX dn fr k t9 la lb lc ld la1 lb1 lc1 ld1) → va_P (dC, dI) classes [(om k0 a I0 J0), (oa (a 22) cI (64 * cl) la1), (oa (a 23) cI (64 * cl) lb1), (oa (a 24) cI (64 * cl) lc1), (oa (a 25) cI (64 * cl) ld1)] H → va_D A [(om k0 a I0 J0), (oa (a 22) cI (64 * cl) la1), (oa (a 23) cI (64 * cl) lb1), (oa (a 24) cI (64 * cl) lc1), (oa (a 25) cI (64 * cl) ld1)] → va_S A s.heap H locs → lv_has ls 4 [(3, .int (nI k)), (2, .int (nI t9)), (0, .ref k0), (1, .int (nI fr))] → W p l e ({ frames := 0, cells := 0, slots := 0, locals := 0 } : Room) s m ([.ref k0, .int (nI fr)] : List Value).toArray below meth c H locs 0 0 Q9 (F0 m 4 ls []) := by
    intro n9
    induction n9 with
    | zero => intro k t9 la1 lb1 lc1 ld1 H locs ls hm; exact absurd hm (Nat.not_lt_zero _)
    | succ n9 ih_4 =>
      intro k t9 la1 lb1 lc1 ld1 H locs ls hm hk ht hs hrr hrx hsx hP hD hS hl
      refine lv_iload_n hx hb dX11_squeeze_4 rfl (lv_at hl 0 rfl) ?_
      refine lv_aload_n hx hb dX11_squeeze_5 rfl (lv_at hl 2 rfl) ?_
      refine va_get (D := (dC, dI)) (ci := 9) (v := .int (I0 26)) (C := RX11) (T := TX11) (N := 55) hx hb hts inX11 hown hK hP 0 rfl rfl 26 (Nat.le_of_ble_eq_true rfl) (hts _ mw_1185) (fun _ h9 => h9) rfl dX11_squeeze_6 ?_
      refine zz_i (v := nI ln) (hln) ?_
      have b9_2 : zlt (k) := show k < 2147483648 by omega
      have b9_3 : zlt (ln) := show ln < 2147483648 by omega
      refine lv_icmp_ge (tgt := 90) hx hb dX11_squeeze_9 rfl (fun c_1 => ?_) (fun c_1 => ?_)
      · have c_1 : ((ln : Nat) : Int) ≤ ((k : Nat) : Int) := zc_le (nI_toInt b9_3) (nI_toInt b9_2) c_1
        refine lv_aload_n hx hb dX11_squeeze_90 rfl (lv_at hl 2 rfl) ?_
        refine lv_iload_n hx hb dX11_squeeze_91 rfl (lv_at hl 1 rfl) ?_
        refine va_put (D := (dC, dI)) (ci := 9) (v := .int (nI t9)) (ty := .int) (C := RX11) (T := TX11) (N := 55) hx hb hts inX11 tyX11 tyX11_ok nmX11 hown hK hP hD hS 0 rfl rfl 26 (by decide) (hts _ mw_1185) (fun _ h9 => h9) rfl (by decide +kernel) rfl rfl (Nat.le_of_ble_eq_true rfl) dX11_squeeze_92 (fun H locs hP hD hS => ?_)
        obtain ⟨hP, hD⟩ := zre (W2 := [(om k0 a (upd I0 26 (nI t9)) J0), _, _, _, _]) hP hD rfl
        obtain ⟨hP9, hD9⟩ := zu_sub (wc := [_, _, _, _, _]) hP hD [true, true, true, true, true] rfl rfl
        rw [hQ9]
        exact W.vret hx hb hr (fun t ht hW => ⟨⟨rfl, t9, la1, lb1, lc1, ld1, (by omega), (hs), (by have e9 : k = ln := (by omega); rw [e9] at hsx; exact hsx), by rw [ht]; exact hP9, hD9⟩, hS.F ht⟩) hS.2.2 dX11_squeeze_95
      · have c_1 : ((k : Nat) : Int) < ((ln : Nat) : Int) := zc_nle (nI_toInt b9_3) (nI_toInt b9_2) c_1
        refine lv_iload_n hx hb dX11_squeeze_12 rfl (lv_at hl 0 rfl) ?_
        refine lv_iload_n hx hb dX11_squeeze_13 rfl (lv_at hl 3 rfl) ?_
        have b9_5 : zlt (fr) := show fr < 2147483648 by omega
        refine lv_icmp_ge (tgt := 33) hx hb dX11_squeeze_14 rfl (fun c_4 => ?_) (fun c_4 => ?_)
        · have c_4 : ((fr : Nat) : Int) ≤ ((k : Nat) : Int) := zc_le (nI_toInt b9_5) (nI_toInt b9_2) c_4
          refine lv_aload_n hx hb dX11_squeeze_33 rfl (lv_at hl 2 rfl) ?_
          refine va_get (D := (dC, dI)) (ci := 9) (v := .ref (a 22)) (C := RX11) (T := TX11) (N := 55) hx hb hts inX11 hown hK hP 0 rfl rfl 22 (Nat.le_of_ble_eq_true rfl) (hts _ mw_1181) (fun _ h9 => h9) rfl dX11_squeeze_34 ?_
          refine lv_iload_n hx hb dX11_squeeze_37 rfl (lv_at hl 1 rfl) ?_
          refine lv_aload_n hx hb dX11_squeeze_38 rfl (lv_at hl 2 rfl) ?_
          refine va_get (D := (dC, dI)) (ci := 9) (v := .ref (a 22)) (C := RX11) (T := TX11) (N := 55) hx hb hts inX11 hown hK hP 0 rfl rfl 22 (Nat.le_of_ble_eq_true rfl) (hts _ mw_1181) (fun _ h9 => h9) rfl dX11_squeeze_39 ?_
          refine lv_iload_n hx hb dX11_squeeze_42 rfl (lv_at hl 0 rfl) ?_
          have b9_6 : k < (64 * cl) := by omega
          have b9_7 : zlt ((64 * cl)) := show (64 * cl) < 2147483648 by omega
          refine z_iald hx hb hK hP 1 0 rfl rfl (e := k) rfl b9_6 b9_7 dX11_squeeze_43 ?_
          have b9_8 : t9 < (64 * cl) := by omega
          refine z_iast hx hb hK hP hD hS 1 0 rfl rfl (e := t9) (x := la1 k) rfl b9_8 b9_7 dX11_squeeze_44 (fun H locs hP hD hS => ?_)
          obtain ⟨hP, hD⟩ := zre (W2 := [_, (oa (a 22) cI (64 * cl) (upd la1 t9 (la1 k))), _, _, _]) hP hD rfl
          refine lv_aload_n hx hb dX11_squeeze_45 rfl (lv_at hl 2 rfl) ?_
          refine va_get (D := (dC, dI)) (ci := 9) (v := .ref (a 23)) (C := RX11) (T := TX11) (N := 55) hx hb hts inX11 hown hK hP 0 rfl rfl 23 (Nat.le_of_ble_eq_true rfl) (hts _ mw_1182) (fun _ h9 => h9) rfl dX11_squeeze_46 ?_
          refine lv_iload_n hx hb dX11_squeeze_49 rfl (lv_at hl 1 rfl) ?_
          refine lv_aload_n hx hb dX11_squeeze_50 rfl (lv_at hl 2 rfl) ?_
          refine va_get (D := (dC, dI)) (ci := 9) (v := .ref (a 23)) (C := RX11) (T := TX11) (N := 55) hx hb hts inX11 hown hK hP 0 rfl rfl 23 (Nat.le_of_ble_eq_true rfl) (hts _ mw_1182) (fun _ h9 => h9) rfl dX11_squeeze_51 ?_
          refine lv_iload_n hx hb dX11_squeeze_54 rfl (lv_at hl 0 rfl) ?_
          refine z_iald hx hb hK hP 2 0 rfl rfl (e := k) rfl b9_6 b9_7 dX11_squeeze_55 ?_
          refine z_iast hx hb hK hP hD hS 2 0 rfl rfl (e := t9) (x := lb1 k) rfl b9_8 b9_7 dX11_squeeze_56 (fun H locs hP hD hS => ?_)
          obtain ⟨hP, hD⟩ := zre (W2 := [_, _, (oa (a 23) cI (64 * cl) (upd lb1 t9 (lb1 k))), _, _]) hP hD rfl
          refine lv_aload_n hx hb dX11_squeeze_57 rfl (lv_at hl 2 rfl) ?_
          refine va_get (D := (dC, dI)) (ci := 9) (v := .ref (a 24)) (C := RX11) (T := TX11) (N := 55) hx hb hts inX11 hown hK hP 0 rfl rfl 24 (Nat.le_of_ble_eq_true rfl) (hts _ mw_1183) (fun _ h9 => h9) rfl dX11_squeeze_58 ?_
          refine lv_iload_n hx hb dX11_squeeze_61 rfl (lv_at hl 1 rfl) ?_
          refine lv_aload_n hx hb dX11_squeeze_62 rfl (lv_at hl 2 rfl) ?_
          refine va_get (D := (dC, dI)) (ci := 9) (v := .ref (a 24)) (C := RX11) (T := TX11) (N := 55) hx hb hts inX11 hown hK hP 0 rfl rfl 24 (Nat.le_of_ble_eq_true rfl) (hts _ mw_1183) (fun _ h9 => h9) rfl dX11_squeeze_63 ?_
          refine lv_iload_n hx hb dX11_squeeze_66 rfl (lv_at hl 0 rfl) ?_
          refine z_iald hx hb hK hP 3 0 rfl rfl (e := k) rfl b9_6 b9_7 dX11_squeeze_67 ?_
          refine z_iast hx hb hK hP hD hS 3 0 rfl rfl (e := t9) (x := lc1 k) rfl b9_8 b9_7 dX11_squeeze_68 (fun H locs hP hD hS => ?_)
          obtain ⟨hP, hD⟩ := zre (W2 := [_, _, _, (oa (a 24) cI (64 * cl) (upd lc1 t9 (lc1 k))), _]) hP hD rfl
          refine lv_aload_n hx hb dX11_squeeze_69 rfl (lv_at hl 2 rfl) ?_
          refine va_get (D := (dC, dI)) (ci := 9) (v := .ref (a 25)) (C := RX11) (T := TX11) (N := 55) hx hb hts inX11 hown hK hP 0 rfl rfl 25 (Nat.le_of_ble_eq_true rfl) (hts _ mw_1184) (fun _ h9 => h9) rfl dX11_squeeze_70 ?_
          refine lv_iload_n hx hb dX11_squeeze_73 rfl (lv_at hl 1 rfl) ?_
          refine lv_aload_n hx hb dX11_squeeze_74 rfl (lv_at hl 2 rfl) ?_
          refine va_get (D := (dC, dI)) (ci := 9) (v := .ref (a 25)) (C := RX11) (T := TX11) (N := 55) hx hb hts inX11 hown hK hP 0 rfl rfl 25 (Nat.le_of_ble_eq_true rfl) (hts _ mw_1184) (fun _ h9 => h9) rfl dX11_squeeze_75 ?_
          refine lv_iload_n hx hb dX11_squeeze_78 rfl (lv_at hl 0 rfl) ?_
          refine z_iald hx hb hK hP 4 0 rfl rfl (e := k) rfl b9_6 b9_7 dX11_squeeze_79 ?_
          refine z_iast hx hb hK hP hD hS 4 0 rfl rfl (e := t9) (x := ld1 k) rfl b9_8 b9_7 dX11_squeeze_80 (fun H locs hP hD hS => ?_)
          obtain ⟨hP, hD⟩ := zre (W2 := [_, _, _, _, (oa (a 25) cI (64 * cl) (upd ld1 t9 (ld1 k)))]) hP hD rfl
          refine lv_iinc (v := nI (t9 + 1)) (lv' := [(2, .int (nI (t9 + 1))), (3, .int (nI k)), (0, .ref k0), (1, .int (nI fr))]) hx hb dX11_squeeze_81 hl (k := 1) rfl (nI_add t9 1) (Nat.le_of_ble_eq_true rfl) rfl (fun ls hl => ?_)
          refine lv_iinc (v := nI (k + 1)) (lv' := [(3, .int (nI (k + 1))), (2, .int (nI (t9 + 1))), (0, .ref k0), (1, .int (nI fr))]) hx hb dX11_squeeze_84 hl (k := 1) rfl (nI_add k 1) (Nat.le_of_ble_eq_true rfl) rfl (fun ls hl => ?_)
          refine lv_goto (tgt := 4) hx hb dX11_squeeze_87 rfl ?_
          exact ih_4 (k + 1) (t9 + 1) (upd la1 t9 (la1 k)) (upd lb1 t9 (lb1 k)) (upd lc1 t9 (lc1 k)) (upd ld1 t9 (ld1 k)) H locs ls (by first | with_reducible assumption | omega) (by first | with_reducible assumption | omega) (by first | with_reducible assumption | omega) (by first | exact hs | (intro j hj; rcases Nat.lt_or_ge j t9 with h | h; simp only [upd, if_neg (show j ≠ t9 by omega)]; exact hs j h; rw [show j = t9 by omega]; simp only [upd, if_true]; exact ⟨k, by omega, (hrr k (Nat.le_refl _)).1, (hrr k (Nat.le_refl _)).2⟩)) (by intro j hj; first | exact hrr j (by first | with_reducible assumption | omega) | (simp only [upd, if_neg (show j ≠ t9 by omega)]; exact hrr j (by first | with_reducible assumption | omega))) (by intro j hj; first | exact hrx j (by first | with_reducible assumption | omega) | (simp only [upd, if_neg (show j ≠ t9 by omega)]; exact hrx j (by first | with_reducible assumption | omega))) (by first | exact sqX_y hsx hrx (fun _ => by omega) | exact sqX_n hsx hrx (by first | with_reducible assumption | omega) (by first | with_reducible assumption | omega)) hP hD hS (lv_sub hl [0, 1, 2, 3] rfl)
        · have c_4 : ((k : Nat) : Int) < ((fr : Nat) : Int) := zc_nle (nI_toInt b9_5) (nI_toInt b9_2) c_4
          refine lv_aload_n hx hb dX11_squeeze_17 rfl (lv_at hl 2 rfl) ?_
          refine va_get (D := (dC, dI)) (ci := 9) (v := .ref (a 25)) (C := RX11) (T := TX11) (N := 55) hx hb hts inX11 hown hK hP 0 rfl rfl 25 (Nat.le_of_ble_eq_true rfl) (hts _ mw_1184) (fun _ h9 => h9) rfl dX11_squeeze_18 ?_
          refine lv_iload_n hx hb dX11_squeeze_21 rfl (lv_at hl 0 rfl) ?_
          have b9_9 : k < (64 * cl) := by omega
          have b9_10 : zlt ((64 * cl)) := show (64 * cl) < 2147483648 by omega
          refine z_iald hx hb hK hP 4 0 rfl rfl (e := k) rfl b9_9 b9_10 dX11_squeeze_22 ?_
          refine lv_aload_n hx hb dX11_squeeze_23 rfl (lv_at hl 2 rfl) ?_
          refine va_get (D := (dC, dI)) (ci := 9) (v := .int (I0 19)) (C := RX11) (T := TX11) (N := 55) hx hb hts inX11 hown hK hP 0 rfl rfl 19 (Nat.le_of_ble_eq_true rfl) (hts _ mw_1178) (fun _ h9 => h9) rfl dX11_squeeze_24 ?_
          refine zz_i (v := nI dn) (hdn) ?_
          have b9_12 : zlt (dn) := show dn < 2147483648 by omega
          refine lv_icmp_le (tgt := 33) hx hb dX11_squeeze_27 rfl (fun c_11 => ?_) (fun c_11 => ?_)
          · have c_11 : (ld1 k).toInt ≤ ((dn : Nat) : Int) := zc_le rfl (nI_toInt b9_12) c_11
            refine lv_aload_n hx hb dX11_squeeze_33 rfl (lv_at hl 2 rfl) ?_
            refine va_get (D := (dC, dI)) (ci := 9) (v := .ref (a 22)) (C := RX11) (T := TX11) (N := 55) hx hb hts inX11 hown hK hP 0 rfl rfl 22 (Nat.le_of_ble_eq_true rfl) (hts _ mw_1181) (fun _ h9 => h9) rfl dX11_squeeze_34 ?_
            refine lv_iload_n hx hb dX11_squeeze_37 rfl (lv_at hl 1 rfl) ?_
            refine lv_aload_n hx hb dX11_squeeze_38 rfl (lv_at hl 2 rfl) ?_
            refine va_get (D := (dC, dI)) (ci := 9) (v := .ref (a 22)) (C := RX11) (T := TX11) (N := 55) hx hb hts inX11 hown hK hP 0 rfl rfl 22 (Nat.le_of_ble_eq_true rfl) (hts _ mw_1181) (fun _ h9 => h9) rfl dX11_squeeze_39 ?_
            refine lv_iload_n hx hb dX11_squeeze_42 rfl (lv_at hl 0 rfl) ?_
            refine z_iald hx hb hK hP 1 0 rfl rfl (e := k) rfl b9_9 b9_10 dX11_squeeze_43 ?_
            have b9_13 : t9 < (64 * cl) := by omega
            refine z_iast hx hb hK hP hD hS 1 0 rfl rfl (e := t9) (x := la1 k) rfl b9_13 b9_10 dX11_squeeze_44 (fun H locs hP hD hS => ?_)
            obtain ⟨hP, hD⟩ := zre (W2 := [_, (oa (a 22) cI (64 * cl) (upd la1 t9 (la1 k))), _, _, _]) hP hD rfl
            refine lv_aload_n hx hb dX11_squeeze_45 rfl (lv_at hl 2 rfl) ?_
            refine va_get (D := (dC, dI)) (ci := 9) (v := .ref (a 23)) (C := RX11) (T := TX11) (N := 55) hx hb hts inX11 hown hK hP 0 rfl rfl 23 (Nat.le_of_ble_eq_true rfl) (hts _ mw_1182) (fun _ h9 => h9) rfl dX11_squeeze_46 ?_
            refine lv_iload_n hx hb dX11_squeeze_49 rfl (lv_at hl 1 rfl) ?_
            refine lv_aload_n hx hb dX11_squeeze_50 rfl (lv_at hl 2 rfl) ?_
            refine va_get (D := (dC, dI)) (ci := 9) (v := .ref (a 23)) (C := RX11) (T := TX11) (N := 55) hx hb hts inX11 hown hK hP 0 rfl rfl 23 (Nat.le_of_ble_eq_true rfl) (hts _ mw_1182) (fun _ h9 => h9) rfl dX11_squeeze_51 ?_
            refine lv_iload_n hx hb dX11_squeeze_54 rfl (lv_at hl 0 rfl) ?_
            refine z_iald hx hb hK hP 2 0 rfl rfl (e := k) rfl b9_9 b9_10 dX11_squeeze_55 ?_
            refine z_iast hx hb hK hP hD hS 2 0 rfl rfl (e := t9) (x := lb1 k) rfl b9_13 b9_10 dX11_squeeze_56 (fun H locs hP hD hS => ?_)
            obtain ⟨hP, hD⟩ := zre (W2 := [_, _, (oa (a 23) cI (64 * cl) (upd lb1 t9 (lb1 k))), _, _]) hP hD rfl
            refine lv_aload_n hx hb dX11_squeeze_57 rfl (lv_at hl 2 rfl) ?_
            refine va_get (D := (dC, dI)) (ci := 9) (v := .ref (a 24)) (C := RX11) (T := TX11) (N := 55) hx hb hts inX11 hown hK hP 0 rfl rfl 24 (Nat.le_of_ble_eq_true rfl) (hts _ mw_1183) (fun _ h9 => h9) rfl dX11_squeeze_58 ?_
            refine lv_iload_n hx hb dX11_squeeze_61 rfl (lv_at hl 1 rfl) ?_
            refine lv_aload_n hx hb dX11_squeeze_62 rfl (lv_at hl 2 rfl) ?_
            refine va_get (D := (dC, dI)) (ci := 9) (v := .ref (a 24)) (C := RX11) (T := TX11) (N := 55) hx hb hts inX11 hown hK hP 0 rfl rfl 24 (Nat.le_of_ble_eq_true rfl) (hts _ mw_1183) (fun _ h9 => h9) rfl dX11_squeeze_63 ?_
            refine lv_iload_n hx hb dX11_squeeze_66 rfl (lv_at hl 0 rfl) ?_
            refine z_iald hx hb hK hP 3 0 rfl rfl (e := k) rfl b9_9 b9_10 dX11_squeeze_67 ?_
            refine z_iast hx hb hK hP hD hS 3 0 rfl rfl (e := t9) (x := lc1 k) rfl b9_13 b9_10 dX11_squeeze_68 (fun H locs hP hD hS => ?_)
            obtain ⟨hP, hD⟩ := zre (W2 := [_, _, _, (oa (a 24) cI (64 * cl) (upd lc1 t9 (lc1 k))), _]) hP hD rfl
            refine lv_aload_n hx hb dX11_squeeze_69 rfl (lv_at hl 2 rfl) ?_
            refine va_get (D := (dC, dI)) (ci := 9) (v := .ref (a 25)) (C := RX11) (T := TX11) (N := 55) hx hb hts inX11 hown hK hP 0 rfl rfl 25 (Nat.le_of_ble_eq_true rfl) (hts _ mw_1184) (fun _ h9 => h9) rfl dX11_squeeze_70 ?_
            refine lv_iload_n hx hb dX11_squeeze_73 rfl (lv_at hl 1 rfl) ?_
            refine lv_aload_n hx hb dX11_squeeze_74 rfl (lv_at hl 2 rfl) ?_
            refine va_get (D := (dC, dI)) (ci := 9) (v := .ref (a 25)) (C := RX11) (T := TX11) (N := 55) hx hb hts inX11 hown hK hP 0 rfl rfl 25 (Nat.le_of_ble_eq_true rfl) (hts _ mw_1184) (fun _ h9 => h9) rfl dX11_squeeze_75 ?_
            refine lv_iload_n hx hb dX11_squeeze_78 rfl (lv_at hl 0 rfl) ?_
            refine z_iald hx hb hK hP 4 0 rfl rfl (e := k) rfl b9_9 b9_10 dX11_squeeze_79 ?_
            refine z_iast hx hb hK hP hD hS 4 0 rfl rfl (e := t9) (x := ld1 k) rfl b9_13 b9_10 dX11_squeeze_80 (fun H locs hP hD hS => ?_)
            obtain ⟨hP, hD⟩ := zre (W2 := [_, _, _, _, (oa (a 25) cI (64 * cl) (upd ld1 t9 (ld1 k)))]) hP hD rfl
            refine lv_iinc (v := nI (t9 + 1)) (lv' := [(2, .int (nI (t9 + 1))), (3, .int (nI k)), (0, .ref k0), (1, .int (nI fr))]) hx hb dX11_squeeze_81 hl (k := 1) rfl (nI_add t9 1) (Nat.le_of_ble_eq_true rfl) rfl (fun ls hl => ?_)
            refine lv_iinc (v := nI (k + 1)) (lv' := [(3, .int (nI (k + 1))), (2, .int (nI (t9 + 1))), (0, .ref k0), (1, .int (nI fr))]) hx hb dX11_squeeze_84 hl (k := 1) rfl (nI_add k 1) (Nat.le_of_ble_eq_true rfl) rfl (fun ls hl => ?_)
            refine lv_goto (tgt := 4) hx hb dX11_squeeze_87 rfl ?_
            exact ih_4 (k + 1) (t9 + 1) (upd la1 t9 (la1 k)) (upd lb1 t9 (lb1 k)) (upd lc1 t9 (lc1 k)) (upd ld1 t9 (ld1 k)) H locs ls (by first | with_reducible assumption | omega) (by first | with_reducible assumption | omega) (by first | with_reducible assumption | omega) (by first | exact hs | (intro j hj; rcases Nat.lt_or_ge j t9 with h | h; simp only [upd, if_neg (show j ≠ t9 by omega)]; exact hs j h; rw [show j = t9 by omega]; simp only [upd, if_true]; exact ⟨k, by omega, (hrr k (Nat.le_refl _)).1, (hrr k (Nat.le_refl _)).2⟩)) (by intro j hj; first | exact hrr j (by first | with_reducible assumption | omega) | (simp only [upd, if_neg (show j ≠ t9 by omega)]; exact hrr j (by first | with_reducible assumption | omega))) (by intro j hj; first | exact hrx j (by first | with_reducible assumption | omega) | (simp only [upd, if_neg (show j ≠ t9 by omega)]; exact hrx j (by first | with_reducible assumption | omega))) (by first | exact sqX_y hsx hrx (fun _ => by omega) | exact sqX_n hsx hrx (by first | with_reducible assumption | omega) (by first | with_reducible assumption | omega)) hP hD hS (lv_sub hl [0, 1, 2, 3] rfl)
          · have c_11 : ((dn : Nat) : Int) < (ld1 k).toInt := zc_nle rfl (nI_toInt b9_12) c_11
            refine lv_goto (tgt := 84) hx hb dX11_squeeze_30 rfl ?_
            refine lv_iinc (v := nI (k + 1)) (lv' := [(3, .int (nI (k + 1))), (2, .int (nI t9)), (0, .ref k0), (1, .int (nI fr))]) hx hb dX11_squeeze_84 hl (k := 0) rfl (nI_add k 1) (Nat.le_of_ble_eq_true rfl) rfl (fun ls hl => ?_)
            refine lv_goto (tgt := 4) hx hb dX11_squeeze_87 rfl ?_
            exact ih_4 (k + 1) t9 la1 lb1 lc1 ld1 H locs ls (by first | with_reducible assumption | omega) (by first | with_reducible assumption | omega) (by first | with_reducible assumption | omega) (by first | exact hs | (intro j hj; rcases Nat.lt_or_ge j t9 with h | h; simp only [upd, if_neg (show j ≠ t9 by omega)]; exact hs j h; rw [show j = t9 by omega]; simp only [upd, if_true]; exact ⟨k, by omega, (hrr k (Nat.le_refl _)).1, (hrr k (Nat.le_refl _)).2⟩)) (by intro j hj; first | exact hrr j (by first | with_reducible assumption | omega) | (simp only [upd, if_neg (show j ≠ t9 by omega)]; exact hrr j (by first | with_reducible assumption | omega))) (by intro j hj; first | exact hrx j (by first | with_reducible assumption | omega) | (simp only [upd, if_neg (show j ≠ t9 by omega)]; exact hrx j (by first | with_reducible assumption | omega))) (by first | exact sqX_y hsx hrx (fun _ => by omega) | exact sqX_n hsx hrx (by first | with_reducible assumption | omega) (by first | with_reducible assumption | omega)) hP hD hS (lv_sub hl [0, 1, 2, 3] rfl)
  exact hl_4 _ 0 0 la lb lc ld s.heap [] ls (Nat.lt_succ_self _) (by first | with_reducible assumption | omega) (by first | with_reducible assumption | omega) (by intro j hj; omega) (by intro j hj; exact ⟨rfl, rfl⟩) (by intro j hj; exact ⟨rfl, rfl, rfl, rfl⟩) (sqX_0) hP hD hS (lv_sub hl [0, 1, 2, 3] rfl)
end
section
set_option maxHeartbeats 4000000 in
set_option maxRecDepth 100000 in
theorem k_M_feature_4 (l : Launch) (dC : Nat → ClassId) (dI : Nat → Nat → Nat) (cI cZ cF : ClassId) (sz : Nat) (k0 : Nat) (a : Nat → Nat) (I0 : Nat → Int32) (J0 : Nat → Int64) (k1 : Int32) (k2 : Int32) (k3 : Int32) (k4 : Int32) (hbad : ¬ ((0 ≤ k1.toInt ∧ k1.toInt ≤ 6 ∧ 0 ≤ k2.toInt ∧ k2.toInt ≤ 9) ∧ (0 ≤ k3.toInt ∧ k3.toInt ≤ 100 ∧ 0 ≤ k4.toInt ∧ k4.toInt ≤ 9))) : zM l yX11_feature cX11_feature 6 (some .int) ({ frames := 1, cells := 0, slots := 0, locals := 21 } : Room) [.ref k0, .int k1, .int k2, .int k3, .int k4] (dC, dI) (zTy cI cZ cF) [(om k0 a I0 J0)] sz (some (.int (-1))) (fun A t => zPD (dC, dI) classes A [(om k0 a (upd (upd I0 14 4) 15 (I0 15)) J0)] t.heap) 0 0 := by
  refine zIn (own := "ScaleShopModel") (loc := [(0, .ref k0), (1, .int k1), (2, .int k2), (3, .int k3), (4, .int k4)]) rfl rfl rfl rfl (fun p e s m below meth c hx hb hr hts hown hlocks hml hnm9 A hA hS hP hD hK hXN Q9 hQ9 ls hl => ?_)
  refine lv_iload_n hx hb dX11_feature_0 rfl (lv_at hl 1 rfl) ?_
  refine lv_if_lt (tgt := 42) hx hb dX11_feature_1 rfl (fun c_1 => ?_) (fun c_1 => ?_)
  · have c_1 : k1.toInt < 0 := zc_lt rfl rfl c_1
    refine lv_aload_n hx hb dX11_feature_42 rfl (lv_at hl 0 rfl) ?_
    refine lv_iconst (v := 4) hx hb dX11_feature_43 rfl ?_
    obtain ⟨hPc, hDc, hFc⟩ := zo_sub (wc := [_]) hP hD hS hA [0] rfl rfl
    refine zcall (st1 := [.int (-1)]) (va_runV (As := [.int 4]) (rest := []) ⟨hx, hb, hml, hown, hts⟩ (k_M_refuse l dC dI cI cZ cF s.heap.size k0 a I0 J0 4 (by decide)) (csV_185 hts rfl rfl ⟨Nat.le_of_ble_eq_true rfl, Nat.le_of_ble_eq_true rfl⟩) (zPV2 (q0 := 0) (ci := 9) hPc hDc hK hXN rfl rfl) rfl rfl hl.1 rfl (lv_room (Nat.le_of_ble_eq_true rfl)) dX11_feature_44 ⟨Nat.le_of_ble_eq_true rfl, Nat.le_of_ble_eq_true rfl⟩) hS hFc hFc rfl (fun t H locs ht hB hk1 hS => ?_)
    obtain ⟨hP1, hD1⟩ := hB
    rw [ht] at hP1
    obtain ⟨hP, hD⟩ := zn (W2 := [(om k0 a (upd (upd I0 14 4) 15 (I0 15)) J0)]) hP hD hk1 hFc hP1 hD1 [0] [] [false] [0] (by decide +kernel) rfl rfl rfl rfl rfl
    clear hk1 hPc hDc hFc hP1 hD1 ht
    obtain ⟨hP9, hD9⟩ := zu_sub (wc := [_]) hP hD [true] rfl rfl
    rw [hQ9]
    exact W.iret (v := (-1)) hx hb hr (fun t ht hW => ⟨⟨rfl, by rw [ht]; exact hP9, hD9⟩, hS.F ht⟩) hS.2.2 dX11_feature_47
  · have c_1 : 0 ≤ k1.toInt := zc_nlt rfl rfl c_1
    refine lv_iload_n hx hb dX11_feature_4 rfl (lv_at hl 1 rfl) ?_
    refine lv_bipush (v := 6) hx hb dX11_feature_5 rfl ?_
    refine lv_icmp_gt (tgt := 42) hx hb dX11_feature_7 rfl (fun c_2 => ?_) (fun c_2 => ?_)
    · have c_2 : 6 < k1.toInt := zc_lt rfl rfl c_2
      refine lv_aload_n hx hb dX11_feature_42 rfl (lv_at hl 0 rfl) ?_
      refine lv_iconst (v := 4) hx hb dX11_feature_43 rfl ?_
      obtain ⟨hPc, hDc, hFc⟩ := zo_sub (wc := [_]) hP hD hS hA [0] rfl rfl
      refine zcall (st1 := [.int (-1)]) (va_runV (As := [.int 4]) (rest := []) ⟨hx, hb, hml, hown, hts⟩ (k_M_refuse l dC dI cI cZ cF s.heap.size k0 a I0 J0 4 (by decide)) (csV_185 hts rfl rfl ⟨Nat.le_of_ble_eq_true rfl, Nat.le_of_ble_eq_true rfl⟩) (zPV2 (q0 := 0) (ci := 9) hPc hDc hK hXN rfl rfl) rfl rfl hl.1 rfl (lv_room (Nat.le_of_ble_eq_true rfl)) dX11_feature_44 ⟨Nat.le_of_ble_eq_true rfl, Nat.le_of_ble_eq_true rfl⟩) hS hFc hFc rfl (fun t H locs ht hB hk1 hS => ?_)
      obtain ⟨hP1, hD1⟩ := hB
      rw [ht] at hP1
      obtain ⟨hP, hD⟩ := zn (W2 := [(om k0 a (upd (upd I0 14 4) 15 (I0 15)) J0)]) hP hD hk1 hFc hP1 hD1 [0] [] [false] [0] (by decide +kernel) rfl rfl rfl rfl rfl
      clear hk1 hPc hDc hFc hP1 hD1 ht
      obtain ⟨hP9, hD9⟩ := zu_sub (wc := [_]) hP hD [true] rfl rfl
      rw [hQ9]
      exact W.iret (v := (-1)) hx hb hr (fun t ht hW => ⟨⟨rfl, by rw [ht]; exact hP9, hD9⟩, hS.F ht⟩) hS.2.2 dX11_feature_47
    · have c_2 : k1.toInt ≤ 6 := zc_nlt rfl rfl c_2
      refine lv_iload_n hx hb dX11_feature_10 rfl (lv_at hl 2 rfl) ?_
      refine lv_if_lt (tgt := 42) hx hb dX11_feature_11 rfl (fun c_3 => ?_) (fun c_3 => ?_)
      · have c_3 : k2.toInt < 0 := zc_lt rfl rfl c_3
        refine lv_aload_n hx hb dX11_feature_42 rfl (lv_at hl 0 rfl) ?_
        refine lv_iconst (v := 4) hx hb dX11_feature_43 rfl ?_
        obtain ⟨hPc, hDc, hFc⟩ := zo_sub (wc := [_]) hP hD hS hA [0] rfl rfl
        refine zcall (st1 := [.int (-1)]) (va_runV (As := [.int 4]) (rest := []) ⟨hx, hb, hml, hown, hts⟩ (k_M_refuse l dC dI cI cZ cF s.heap.size k0 a I0 J0 4 (by decide)) (csV_185 hts rfl rfl ⟨Nat.le_of_ble_eq_true rfl, Nat.le_of_ble_eq_true rfl⟩) (zPV2 (q0 := 0) (ci := 9) hPc hDc hK hXN rfl rfl) rfl rfl hl.1 rfl (lv_room (Nat.le_of_ble_eq_true rfl)) dX11_feature_44 ⟨Nat.le_of_ble_eq_true rfl, Nat.le_of_ble_eq_true rfl⟩) hS hFc hFc rfl (fun t H locs ht hB hk1 hS => ?_)
        obtain ⟨hP1, hD1⟩ := hB
        rw [ht] at hP1
        obtain ⟨hP, hD⟩ := zn (W2 := [(om k0 a (upd (upd I0 14 4) 15 (I0 15)) J0)]) hP hD hk1 hFc hP1 hD1 [0] [] [false] [0] (by decide +kernel) rfl rfl rfl rfl rfl
        clear hk1 hPc hDc hFc hP1 hD1 ht
        obtain ⟨hP9, hD9⟩ := zu_sub (wc := [_]) hP hD [true] rfl rfl
        rw [hQ9]
        exact W.iret (v := (-1)) hx hb hr (fun t ht hW => ⟨⟨rfl, by rw [ht]; exact hP9, hD9⟩, hS.F ht⟩) hS.2.2 dX11_feature_47
      · have c_3 : 0 ≤ k2.toInt := zc_nlt rfl rfl c_3
        refine lv_iload_n hx hb dX11_feature_14 rfl (lv_at hl 2 rfl) ?_
        refine lv_bipush (v := 9) hx hb dX11_feature_15 rfl ?_
        refine lv_icmp_gt (tgt := 42) hx hb dX11_feature_17 rfl (fun c_4 => ?_) (fun c_4 => ?_)
        · have c_4 : 9 < k2.toInt := zc_lt rfl rfl c_4
          refine lv_aload_n hx hb dX11_feature_42 rfl (lv_at hl 0 rfl) ?_
          refine lv_iconst (v := 4) hx hb dX11_feature_43 rfl ?_
          obtain ⟨hPc, hDc, hFc⟩ := zo_sub (wc := [_]) hP hD hS hA [0] rfl rfl
          refine zcall (st1 := [.int (-1)]) (va_runV (As := [.int 4]) (rest := []) ⟨hx, hb, hml, hown, hts⟩ (k_M_refuse l dC dI cI cZ cF s.heap.size k0 a I0 J0 4 (by decide)) (csV_185 hts rfl rfl ⟨Nat.le_of_ble_eq_true rfl, Nat.le_of_ble_eq_true rfl⟩) (zPV2 (q0 := 0) (ci := 9) hPc hDc hK hXN rfl rfl) rfl rfl hl.1 rfl (lv_room (Nat.le_of_ble_eq_true rfl)) dX11_feature_44 ⟨Nat.le_of_ble_eq_true rfl, Nat.le_of_ble_eq_true rfl⟩) hS hFc hFc rfl (fun t H locs ht hB hk1 hS => ?_)
          obtain ⟨hP1, hD1⟩ := hB
          rw [ht] at hP1
          obtain ⟨hP, hD⟩ := zn (W2 := [(om k0 a (upd (upd I0 14 4) 15 (I0 15)) J0)]) hP hD hk1 hFc hP1 hD1 [0] [] [false] [0] (by decide +kernel) rfl rfl rfl rfl rfl
          clear hk1 hPc hDc hFc hP1 hD1 ht
          obtain ⟨hP9, hD9⟩ := zu_sub (wc := [_]) hP hD [true] rfl rfl
          rw [hQ9]
          exact W.iret (v := (-1)) hx hb hr (fun t ht hW => ⟨⟨rfl, by rw [ht]; exact hP9, hD9⟩, hS.F ht⟩) hS.2.2 dX11_feature_47
        · have c_4 : k2.toInt ≤ 9 := zc_nlt rfl rfl c_4
          refine lv_iload_n hx hb dX11_feature_20 rfl (lv_at hl 3 rfl) ?_
          refine lv_if_lt (tgt := 42) hx hb dX11_feature_21 rfl (fun c_5 => ?_) (fun c_5 => ?_)
          · have c_5 : k3.toInt < 0 := zc_lt rfl rfl c_5
            refine lv_aload_n hx hb dX11_feature_42 rfl (lv_at hl 0 rfl) ?_
            refine lv_iconst (v := 4) hx hb dX11_feature_43 rfl ?_
            obtain ⟨hPc, hDc, hFc⟩ := zo_sub (wc := [_]) hP hD hS hA [0] rfl rfl
            refine zcall (st1 := [.int (-1)]) (va_runV (As := [.int 4]) (rest := []) ⟨hx, hb, hml, hown, hts⟩ (k_M_refuse l dC dI cI cZ cF s.heap.size k0 a I0 J0 4 (by decide)) (csV_185 hts rfl rfl ⟨Nat.le_of_ble_eq_true rfl, Nat.le_of_ble_eq_true rfl⟩) (zPV2 (q0 := 0) (ci := 9) hPc hDc hK hXN rfl rfl) rfl rfl hl.1 rfl (lv_room (Nat.le_of_ble_eq_true rfl)) dX11_feature_44 ⟨Nat.le_of_ble_eq_true rfl, Nat.le_of_ble_eq_true rfl⟩) hS hFc hFc rfl (fun t H locs ht hB hk1 hS => ?_)
            obtain ⟨hP1, hD1⟩ := hB
            rw [ht] at hP1
            obtain ⟨hP, hD⟩ := zn (W2 := [(om k0 a (upd (upd I0 14 4) 15 (I0 15)) J0)]) hP hD hk1 hFc hP1 hD1 [0] [] [false] [0] (by decide +kernel) rfl rfl rfl rfl rfl
            clear hk1 hPc hDc hFc hP1 hD1 ht
            obtain ⟨hP9, hD9⟩ := zu_sub (wc := [_]) hP hD [true] rfl rfl
            rw [hQ9]
            exact W.iret (v := (-1)) hx hb hr (fun t ht hW => ⟨⟨rfl, by rw [ht]; exact hP9, hD9⟩, hS.F ht⟩) hS.2.2 dX11_feature_47
          · have c_5 : 0 ≤ k3.toInt := zc_nlt rfl rfl c_5
            refine lv_iload_n hx hb dX11_feature_24 rfl (lv_at hl 3 rfl) ?_
            refine lv_bipush (v := 100) hx hb dX11_feature_25 rfl ?_
            refine lv_icmp_gt (tgt := 42) hx hb dX11_feature_27 rfl (fun c_6 => ?_) (fun c_6 => ?_)
            · have c_6 : 100 < k3.toInt := zc_lt rfl rfl c_6
              refine lv_aload_n hx hb dX11_feature_42 rfl (lv_at hl 0 rfl) ?_
              refine lv_iconst (v := 4) hx hb dX11_feature_43 rfl ?_
              obtain ⟨hPc, hDc, hFc⟩ := zo_sub (wc := [_]) hP hD hS hA [0] rfl rfl
              refine zcall (st1 := [.int (-1)]) (va_runV (As := [.int 4]) (rest := []) ⟨hx, hb, hml, hown, hts⟩ (k_M_refuse l dC dI cI cZ cF s.heap.size k0 a I0 J0 4 (by decide)) (csV_185 hts rfl rfl ⟨Nat.le_of_ble_eq_true rfl, Nat.le_of_ble_eq_true rfl⟩) (zPV2 (q0 := 0) (ci := 9) hPc hDc hK hXN rfl rfl) rfl rfl hl.1 rfl (lv_room (Nat.le_of_ble_eq_true rfl)) dX11_feature_44 ⟨Nat.le_of_ble_eq_true rfl, Nat.le_of_ble_eq_true rfl⟩) hS hFc hFc rfl (fun t H locs ht hB hk1 hS => ?_)
              obtain ⟨hP1, hD1⟩ := hB
              rw [ht] at hP1
              obtain ⟨hP, hD⟩ := zn (W2 := [(om k0 a (upd (upd I0 14 4) 15 (I0 15)) J0)]) hP hD hk1 hFc hP1 hD1 [0] [] [false] [0] (by decide +kernel) rfl rfl rfl rfl rfl
              clear hk1 hPc hDc hFc hP1 hD1 ht
              obtain ⟨hP9, hD9⟩ := zu_sub (wc := [_]) hP hD [true] rfl rfl
              rw [hQ9]
              exact W.iret (v := (-1)) hx hb hr (fun t ht hW => ⟨⟨rfl, by rw [ht]; exact hP9, hD9⟩, hS.F ht⟩) hS.2.2 dX11_feature_47
            · have c_6 : k3.toInt ≤ 100 := zc_nlt rfl rfl c_6
              refine lv_iload hx hb dX11_feature_30 (lv_at hl 4 rfl) ?_
              refine lv_if_lt (tgt := 42) hx hb dX11_feature_32 rfl (fun c_7 => ?_) (fun c_7 => ?_)
              · have c_7 : k4.toInt < 0 := zc_lt rfl rfl c_7
                refine lv_aload_n hx hb dX11_feature_42 rfl (lv_at hl 0 rfl) ?_
                refine lv_iconst (v := 4) hx hb dX11_feature_43 rfl ?_
                obtain ⟨hPc, hDc, hFc⟩ := zo_sub (wc := [_]) hP hD hS hA [0] rfl rfl
                refine zcall (st1 := [.int (-1)]) (va_runV (As := [.int 4]) (rest := []) ⟨hx, hb, hml, hown, hts⟩ (k_M_refuse l dC dI cI cZ cF s.heap.size k0 a I0 J0 4 (by decide)) (csV_185 hts rfl rfl ⟨Nat.le_of_ble_eq_true rfl, Nat.le_of_ble_eq_true rfl⟩) (zPV2 (q0 := 0) (ci := 9) hPc hDc hK hXN rfl rfl) rfl rfl hl.1 rfl (lv_room (Nat.le_of_ble_eq_true rfl)) dX11_feature_44 ⟨Nat.le_of_ble_eq_true rfl, Nat.le_of_ble_eq_true rfl⟩) hS hFc hFc rfl (fun t H locs ht hB hk1 hS => ?_)
                obtain ⟨hP1, hD1⟩ := hB
                rw [ht] at hP1
                obtain ⟨hP, hD⟩ := zn (W2 := [(om k0 a (upd (upd I0 14 4) 15 (I0 15)) J0)]) hP hD hk1 hFc hP1 hD1 [0] [] [false] [0] (by decide +kernel) rfl rfl rfl rfl rfl
                clear hk1 hPc hDc hFc hP1 hD1 ht
                obtain ⟨hP9, hD9⟩ := zu_sub (wc := [_]) hP hD [true] rfl rfl
                rw [hQ9]
                exact W.iret (v := (-1)) hx hb hr (fun t ht hW => ⟨⟨rfl, by rw [ht]; exact hP9, hD9⟩, hS.F ht⟩) hS.2.2 dX11_feature_47
              · have c_7 : 0 ≤ k4.toInt := zc_nlt rfl rfl c_7
                refine lv_iload hx hb dX11_feature_35 (lv_at hl 4 rfl) ?_
                refine lv_bipush (v := 9) hx hb dX11_feature_37 rfl ?_
                refine lv_icmp_le (tgt := 48) hx hb dX11_feature_39 rfl (fun c_8 => ?_) (fun c_8 => ?_)
                · have c_8 : k4.toInt ≤ 9 := zc_le rfl rfl c_8
                  exfalso; omega
                · have c_8 : 9 < k4.toInt := zc_nle rfl rfl c_8
                  refine lv_aload_n hx hb dX11_feature_42 rfl (lv_at hl 0 rfl) ?_
                  refine lv_iconst (v := 4) hx hb dX11_feature_43 rfl ?_
                  obtain ⟨hPc, hDc, hFc⟩ := zo_sub (wc := [_]) hP hD hS hA [0] rfl rfl
                  refine zcall (st1 := [.int (-1)]) (va_runV (As := [.int 4]) (rest := []) ⟨hx, hb, hml, hown, hts⟩ (k_M_refuse l dC dI cI cZ cF s.heap.size k0 a I0 J0 4 (by decide)) (csV_185 hts rfl rfl ⟨Nat.le_of_ble_eq_true rfl, Nat.le_of_ble_eq_true rfl⟩) (zPV2 (q0 := 0) (ci := 9) hPc hDc hK hXN rfl rfl) rfl rfl hl.1 rfl (lv_room (Nat.le_of_ble_eq_true rfl)) dX11_feature_44 ⟨Nat.le_of_ble_eq_true rfl, Nat.le_of_ble_eq_true rfl⟩) hS hFc hFc rfl (fun t H locs ht hB hk1 hS => ?_)
                  obtain ⟨hP1, hD1⟩ := hB
                  rw [ht] at hP1
                  obtain ⟨hP, hD⟩ := zn (W2 := [(om k0 a (upd (upd I0 14 4) 15 (I0 15)) J0)]) hP hD hk1 hFc hP1 hD1 [0] [] [false] [0] (by decide +kernel) rfl rfl rfl rfl rfl
                  clear hk1 hPc hDc hFc hP1 hD1 ht
                  obtain ⟨hP9, hD9⟩ := zu_sub (wc := [_]) hP hD [true] rfl rfl
                  rw [hQ9]
                  exact W.iret (v := (-1)) hx hb hr (fun t ht hW => ⟨⟨rfl, by rw [ht]; exact hP9, hD9⟩, hS.F ht⟩) hS.2.2 dX11_feature_47
set_option maxHeartbeats 4000000 in
set_option maxRecDepth 100000 in
theorem k_M_feature_8 (l : Launch) (dC : Nat → ClassId) (dI : Nat → Nat → Nat) (cI cZ cF : ClassId) (sz : Nat) (k0 : Nat) (a : Nat → Nat) (I0 : Nat → Int32) (J0 : Nat → Int64) (k1 : Int32) (k2 : Int32) (k3 : Int32) (k4 : Int32) (hgood : (0 ≤ k1.toInt ∧ k1.toInt ≤ 6 ∧ 0 ≤ k2.toInt ∧ k2.toInt ≤ 9) ∧ (0 ≤ k3.toInt ∧ k3.toInt ≤ 100 ∧ 0 ≤ k4.toInt ∧ k4.toInt ≤ 9)) (hfull : I0 0 = nI 200) : zM l yX11_feature cX11_feature 6 (some .int) ({ frames := 1, cells := 0, slots := 0, locals := 21 } : Room) [.ref k0, .int k1, .int k2, .int k3, .int k4] (dC, dI) (zTy cI cZ cF) [(om k0 a I0 J0)] sz (some (.int (-1))) (fun A t => zPD (dC, dI) classes A [(om k0 a (upd (upd I0 14 8) 15 (I0 15)) J0)] t.heap) 0 0 := by
  refine zIn (own := "ScaleShopModel") (loc := [(0, .ref k0), (1, .int k1), (2, .int k2), (3, .int k3), (4, .int k4)]) rfl rfl rfl rfl (fun p e s m below meth c hx hb hr hts hown hlocks hml hnm9 A hA hS hP hD hK hXN Q9 hQ9 ls hl => ?_)
  refine lv_iload_n hx hb dX11_feature_0 rfl (lv_at hl 1 rfl) ?_
  refine lv_if_lt (tgt := 42) hx hb dX11_feature_1 rfl (fun c_1 => ?_) (fun c_1 => ?_)
  · have c_1 : k1.toInt < 0 := zc_lt rfl rfl c_1
    exfalso; omega
  · have c_1 : 0 ≤ k1.toInt := zc_nlt rfl rfl c_1
    refine lv_iload_n hx hb dX11_feature_4 rfl (lv_at hl 1 rfl) ?_
    refine lv_bipush (v := 6) hx hb dX11_feature_5 rfl ?_
    refine lv_icmp_gt (tgt := 42) hx hb dX11_feature_7 rfl (fun c_2 => ?_) (fun c_2 => ?_)
    · have c_2 : 6 < k1.toInt := zc_lt rfl rfl c_2
      exfalso; omega
    · have c_2 : k1.toInt ≤ 6 := zc_nlt rfl rfl c_2
      refine lv_iload_n hx hb dX11_feature_10 rfl (lv_at hl 2 rfl) ?_
      refine lv_if_lt (tgt := 42) hx hb dX11_feature_11 rfl (fun c_3 => ?_) (fun c_3 => ?_)
      · have c_3 : k2.toInt < 0 := zc_lt rfl rfl c_3
        exfalso; omega
      · have c_3 : 0 ≤ k2.toInt := zc_nlt rfl rfl c_3
        refine lv_iload_n hx hb dX11_feature_14 rfl (lv_at hl 2 rfl) ?_
        refine lv_bipush (v := 9) hx hb dX11_feature_15 rfl ?_
        refine lv_icmp_gt (tgt := 42) hx hb dX11_feature_17 rfl (fun c_4 => ?_) (fun c_4 => ?_)
        · have c_4 : 9 < k2.toInt := zc_lt rfl rfl c_4
          exfalso; omega
        · have c_4 : k2.toInt ≤ 9 := zc_nlt rfl rfl c_4
          refine lv_iload_n hx hb dX11_feature_20 rfl (lv_at hl 3 rfl) ?_
          refine lv_if_lt (tgt := 42) hx hb dX11_feature_21 rfl (fun c_5 => ?_) (fun c_5 => ?_)
          · have c_5 : k3.toInt < 0 := zc_lt rfl rfl c_5
            exfalso; omega
          · have c_5 : 0 ≤ k3.toInt := zc_nlt rfl rfl c_5
            refine lv_iload_n hx hb dX11_feature_24 rfl (lv_at hl 3 rfl) ?_
            refine lv_bipush (v := 100) hx hb dX11_feature_25 rfl ?_
            refine lv_icmp_gt (tgt := 42) hx hb dX11_feature_27 rfl (fun c_6 => ?_) (fun c_6 => ?_)
            · have c_6 : 100 < k3.toInt := zc_lt rfl rfl c_6
              exfalso; omega
            · have c_6 : k3.toInt ≤ 100 := zc_nlt rfl rfl c_6
              refine lv_iload hx hb dX11_feature_30 (lv_at hl 4 rfl) ?_
              refine lv_if_lt (tgt := 42) hx hb dX11_feature_32 rfl (fun c_7 => ?_) (fun c_7 => ?_)
              · have c_7 : k4.toInt < 0 := zc_lt rfl rfl c_7
                exfalso; omega
              · have c_7 : 0 ≤ k4.toInt := zc_nlt rfl rfl c_7
                refine lv_iload hx hb dX11_feature_35 (lv_at hl 4 rfl) ?_
                refine lv_bipush (v := 9) hx hb dX11_feature_37 rfl ?_
                refine lv_icmp_le (tgt := 48) hx hb dX11_feature_39 rfl (fun c_8 => ?_) (fun c_8 => ?_)
                · have c_8 : k4.toInt ≤ 9 := zc_le rfl rfl c_8
                  refine lv_aload_n hx hb dX11_feature_48 rfl (lv_at hl 0 rfl) ?_
                  refine va_get (D := (dC, dI)) (ci := 9) (v := .int (I0 0)) (C := RX11) (T := TX11) (N := 55) hx hb hts inX11 hown hK hP 0 rfl rfl 0 (Nat.le_of_ble_eq_true rfl) (hts _ mw_1159) (fun _ h9 => h9) rfl dX11_feature_49 ?_
                  refine zz_i (v := nI 200) (hfull) ?_
                  refine lv_sipush (v := 200) hx hb dX11_feature_52 rfl ?_
                  refine lv_icmp_ne (tgt := 65) hx hb dX11_feature_55 rfl (fun c_9 => ?_) (fun c_9 => ?_)
                  · have c_9 : ¬ ((200 : Nat) : Int) = 200 := zc_ne (nI_toInt (by omega)) rfl c_9
                    exfalso; omega
                  · have c_9 : ((200 : Nat) : Int) = 200 := zc_eq (nI_toInt (by omega)) rfl c_9
                    refine lv_aload_n hx hb dX11_feature_58 rfl (lv_at hl 0 rfl) ?_
                    refine lv_bipush (v := 8) hx hb dX11_feature_59 rfl ?_
                    obtain ⟨hPc, hDc, hFc⟩ := zo_sub (wc := [_]) hP hD hS hA [0] rfl rfl
                    refine zcall (st1 := [.int (-1)]) (va_runV (As := [.int 8]) (rest := []) ⟨hx, hb, hml, hown, hts⟩ (k_M_refuse l dC dI cI cZ cF s.heap.size k0 a I0 J0 8 (by decide)) (csV_185 hts rfl rfl ⟨Nat.le_of_ble_eq_true rfl, Nat.le_of_ble_eq_true rfl⟩) (zPV2 (q0 := 0) (ci := 9) hPc hDc hK hXN rfl rfl) rfl rfl hl.1 rfl (lv_room (Nat.le_of_ble_eq_true rfl)) dX11_feature_61 ⟨Nat.le_of_ble_eq_true rfl, Nat.le_of_ble_eq_true rfl⟩) hS hFc hFc rfl (fun t H locs ht hB hk1 hS => ?_)
                    obtain ⟨hP1, hD1⟩ := hB
                    rw [ht] at hP1
                    obtain ⟨hP, hD⟩ := zn (W2 := [(om k0 a (upd (upd I0 14 8) 15 (I0 15)) J0)]) hP hD hk1 hFc hP1 hD1 [0] [] [false] [0] (by decide +kernel) rfl rfl rfl rfl rfl
                    clear hk1 hPc hDc hFc hP1 hD1 ht
                    obtain ⟨hP9, hD9⟩ := zu_sub (wc := [_]) hP hD [true] rfl rfl
                    rw [hQ9]
                    exact W.iret (v := (-1)) hx hb hr (fun t ht hW => ⟨⟨rfl, by rw [ht]; exact hP9, hD9⟩, hS.F ht⟩) hS.2.2 dX11_feature_64
                · have c_8 : 9 < k4.toInt := zc_nle rfl rfl c_8
                  exfalso; omega
set_option maxHeartbeats 4000000 in
set_option maxRecDepth 100000 in
theorem k_M_feature_ok (l : Launch) (dC : Nat → ClassId) (dI : Nat → Nat → Nat) (cI cZ cF : ClassId) (sz : Nat) (k0 : Nat) (a : Nat → Nat) (I0 : Nat → Int32) (J0 : Nat → Int64) (k1 : Int32) (k2 : Int32) (k3 : Int32) (k4 : Int32) (ft : Nat) (kd : Nat → Int32) (rk : Nat → Int32) (wd : Nat → Int32) (tw : Nat → Int32) (st : Nat → Int32) (tn : Nat → Int32) (gb : Nat → Int32) (pa : Nat → Int32) (pb : Nat → Int32) (it : Nat → Int32) (mn : Nat → Int32) (sa : Nat → Int32) (hgood : (0 ≤ k1.toInt ∧ k1.toInt ≤ 6 ∧ 0 ≤ k2.toInt ∧ k2.toInt ≤ 9) ∧ (0 ≤ k3.toInt ∧ k3.toInt ≤ 100 ∧ 0 ≤ k4.toInt ∧ k4.toInt ≤ 9)) (hft : I0 0 = nI ft) (h200 : ft < 200) : zM l yX11_feature cX11_feature 6 (some .int) ({ frames := 1, cells := 0, slots := 0, locals := 25 } : Room) [.ref k0, .int k1, .int k2, .int k3, .int k4] (dC, dI) (zTy cI cZ cF) [(om k0 a I0 J0), (oa (a 1) cI 201 kd), (oa (a 2) cI 201 rk), (oa (a 3) cI 201 wd), (oa (a 4) cI 201 tw), (oa (a 5) cI 201 st), (oa (a 6) cZ 201 tn), (oa (a 7) cI 201 gb), (oa (a 8) cI 201 pa), (oa (a 9) cI 201 pb), (oa (a 10) cI 201 it), (oa (a 11) cI 201 mn), (oa (a 27) cI 516 sa)] sz (some (.int (nI ft))) (fun A t => zPD (dC, dI) classes A [(om k0 a (upd (upd (upd (upd I0 0 (nI (ft + 1))) 14 0) 20 0) 21 (I0 19)) J0), (oa (a 1) cI 201 (upd kd ft k1)), (oa (a 2) cI 201 (upd rk ft k2)), (oa (a 3) cI 201 (upd wd ft k3)), (oa (a 4) cI 201 (upd tw ft k4)), (oa (a 5) cI 201 (upd st ft 0)), (oa (a 6) cZ 201 (upd tn ft 0)), (oa (a 7) cI 201 (upd gb ft 0)), (oa (a 8) cI 201 (upd pa ft (-1))), (oa (a 9) cI 201 (upd pb ft (-1))), (oa (a 10) cI 201 (upd it ft (-1))), (oa (a 11) cI 201 (upd mn ft 0)), (oa (a 27) cI 516 (upd sa 0 0))] t.heap) 0 0 := by
  refine zIn (own := "ScaleShopModel") (loc := [(0, .ref k0), (1, .int k1), (2, .int k2), (3, .int k3), (4, .int k4)]) rfl rfl rfl rfl (fun p e s m below meth c hx hb hr hts hown hlocks hml hnm9 A hA hS hP hD hK hXN Q9 hQ9 ls hl => ?_)
  refine lv_iload_n hx hb dX11_feature_0 rfl (lv_at hl 1 rfl) ?_
  refine lv_if_lt (tgt := 42) hx hb dX11_feature_1 rfl (fun c_1 => ?_) (fun c_1 => ?_)
  · have c_1 : k1.toInt < 0 := zc_lt rfl rfl c_1
    exfalso; omega
  · have c_1 : 0 ≤ k1.toInt := zc_nlt rfl rfl c_1
    refine lv_iload_n hx hb dX11_feature_4 rfl (lv_at hl 1 rfl) ?_
    refine lv_bipush (v := 6) hx hb dX11_feature_5 rfl ?_
    refine lv_icmp_gt (tgt := 42) hx hb dX11_feature_7 rfl (fun c_2 => ?_) (fun c_2 => ?_)
    · have c_2 : 6 < k1.toInt := zc_lt rfl rfl c_2
      exfalso; omega
    · have c_2 : k1.toInt ≤ 6 := zc_nlt rfl rfl c_2
      refine lv_iload_n hx hb dX11_feature_10 rfl (lv_at hl 2 rfl) ?_
      refine lv_if_lt (tgt := 42) hx hb dX11_feature_11 rfl (fun c_3 => ?_) (fun c_3 => ?_)
      · have c_3 : k2.toInt < 0 := zc_lt rfl rfl c_3
        exfalso; omega
      · have c_3 : 0 ≤ k2.toInt := zc_nlt rfl rfl c_3
        refine lv_iload_n hx hb dX11_feature_14 rfl (lv_at hl 2 rfl) ?_
        refine lv_bipush (v := 9) hx hb dX11_feature_15 rfl ?_
        refine lv_icmp_gt (tgt := 42) hx hb dX11_feature_17 rfl (fun c_4 => ?_) (fun c_4 => ?_)
        · have c_4 : 9 < k2.toInt := zc_lt rfl rfl c_4
          exfalso; omega
        · have c_4 : k2.toInt ≤ 9 := zc_nlt rfl rfl c_4
          refine lv_iload_n hx hb dX11_feature_20 rfl (lv_at hl 3 rfl) ?_
          refine lv_if_lt (tgt := 42) hx hb dX11_feature_21 rfl (fun c_5 => ?_) (fun c_5 => ?_)
          · have c_5 : k3.toInt < 0 := zc_lt rfl rfl c_5
            exfalso; omega
          · have c_5 : 0 ≤ k3.toInt := zc_nlt rfl rfl c_5
            refine lv_iload_n hx hb dX11_feature_24 rfl (lv_at hl 3 rfl) ?_
            refine lv_bipush (v := 100) hx hb dX11_feature_25 rfl ?_
            refine lv_icmp_gt (tgt := 42) hx hb dX11_feature_27 rfl (fun c_6 => ?_) (fun c_6 => ?_)
            · have c_6 : 100 < k3.toInt := zc_lt rfl rfl c_6
              exfalso; omega
            · have c_6 : k3.toInt ≤ 100 := zc_nlt rfl rfl c_6
              refine lv_iload hx hb dX11_feature_30 (lv_at hl 4 rfl) ?_
              refine lv_if_lt (tgt := 42) hx hb dX11_feature_32 rfl (fun c_7 => ?_) (fun c_7 => ?_)
              · have c_7 : k4.toInt < 0 := zc_lt rfl rfl c_7
                exfalso; omega
              · have c_7 : 0 ≤ k4.toInt := zc_nlt rfl rfl c_7
                refine lv_iload hx hb dX11_feature_35 (lv_at hl 4 rfl) ?_
                refine lv_bipush (v := 9) hx hb dX11_feature_37 rfl ?_
                refine lv_icmp_le (tgt := 48) hx hb dX11_feature_39 rfl (fun c_8 => ?_) (fun c_8 => ?_)
                · have c_8 : k4.toInt ≤ 9 := zc_le rfl rfl c_8
                  refine lv_aload_n hx hb dX11_feature_48 rfl (lv_at hl 0 rfl) ?_
                  refine va_get (D := (dC, dI)) (ci := 9) (v := .int (I0 0)) (C := RX11) (T := TX11) (N := 55) hx hb hts inX11 hown hK hP 0 rfl rfl 0 (Nat.le_of_ble_eq_true rfl) (hts _ mw_1159) (fun _ h9 => h9) rfl dX11_feature_49 ?_
                  refine zz_i (v := nI ft) (hft) ?_
                  refine lv_sipush (v := 200) hx hb dX11_feature_52 rfl ?_
                  have b9_10 : zlt (ft) := show ft < 2147483648 by omega
                  refine lv_icmp_ne (tgt := 65) hx hb dX11_feature_55 rfl (fun c_9 => ?_) (fun c_9 => ?_)
                  · have c_9 : ¬ ((ft : Nat) : Int) = 200 := zc_ne (nI_toInt b9_10) rfl c_9
                    refine lv_aload_n hx hb dX11_feature_65 rfl (lv_at hl 0 rfl) ?_
                    refine va_get (D := (dC, dI)) (ci := 9) (v := .int (I0 0)) (C := RX11) (T := TX11) (N := 55) hx hb hts inX11 hown hK hP 0 rfl rfl 0 (Nat.le_of_ble_eq_true rfl) (hts _ mw_1159) (fun _ h9 => h9) rfl dX11_feature_66 ?_
                    refine zz_i (v := nI ft) (hft) ?_
                    refine lv_istore (lv' := [(5, .int (nI ft)), (0, .ref k0), (1, .int k1), (2, .int k2), (3, .int k3), (4, .int k4)]) hx hb dX11_feature_69 hl (Nat.le_of_ble_eq_true rfl) rfl (fun ls hl => ?_)
                    refine lv_aload_n hx hb dX11_feature_71 rfl (lv_at hl 1 rfl) ?_
                    refine lv_iload hx hb dX11_feature_72 (lv_at hl 0 rfl) ?_
                    refine lv_iload_n hx hb dX11_feature_74 rfl (lv_at hl 2 rfl) ?_
                    refine lv_iload_n hx hb dX11_feature_75 rfl (lv_at hl 3 rfl) ?_
                    refine lv_iload_n hx hb dX11_feature_76 rfl (lv_at hl 4 rfl) ?_
                    refine lv_iload hx hb dX11_feature_77 (lv_at hl 5 rfl) ?_
                    obtain ⟨hPc, hDc, hFc⟩ := zo_sub (wc := [_, _, _, _, _, _, _, _, _, _, _, _]) hP hD hS hA [0, 1, 2, 3, 4, 5, 6, 7, 8, 9, 10, 11] (by decide +kernel) rfl
                    refine zcall (st1 := []) (va_runV (As := [.int (nI ft), .int k1, .int k2, .int k3, .int k4]) (rest := []) ⟨hx, hb, hml, hown, hts⟩ (k_M_begin l dC dI cI cZ cF s.heap.size k0 a I0 J0 ft k1 k2 k3 k4 kd rk wd tw st tn gb pa pb it mn (by first | with_reducible assumption | omega)) (csV_196 hts rfl rfl ⟨Nat.le_of_ble_eq_true rfl, Nat.le_of_ble_eq_true rfl⟩) (zPV2 (q0 := 0) (ci := 9) hPc hDc hK hXN rfl rfl) rfl rfl hl.1 rfl (lv_room (Nat.le_of_ble_eq_true rfl)) dX11_feature_79 ⟨Nat.le_of_ble_eq_true rfl, Nat.le_of_ble_eq_true rfl⟩) hS hFc hFc rfl (fun t H locs ht hB hk1 hS => ?_)
                    obtain ⟨hP1, hD1⟩ := hB
                    rw [ht] at hP1
                    obtain ⟨hP, hD⟩ := zn (W2 := [(om k0 a (upd I0 0 (nI (ft + 1))) J0), (oa (a 1) cI 201 (upd kd ft k1)), (oa (a 2) cI 201 (upd rk ft k2)), (oa (a 3) cI 201 (upd wd ft k3)), (oa (a 4) cI 201 (upd tw ft k4)), (oa (a 5) cI 201 (upd st ft 0)), (oa (a 6) cZ 201 (upd tn ft 0)), (oa (a 7) cI 201 (upd gb ft 0)), (oa (a 8) cI 201 (upd pa ft (-1))), (oa (a 9) cI 201 (upd pb ft (-1))), (oa (a 10) cI 201 (upd it ft (-1))), (oa (a 11) cI 201 (upd mn ft 0)), _]) hP hD hk1 hFc hP1 hD1 zl_170 zl_39 zl_39 zl_170 (by decide +kernel) rfl rfl rfl rfl rfl
                    clear hk1 hPc hDc hFc hP1 hD1 ht
                    refine lv_aload_n hx hb dX11_feature_82 rfl (lv_at hl 1 rfl) ?_
                    obtain ⟨hPc, hDc, hFc⟩ := zo_sub (wc := [_, _]) hP hD hS hA [0, 12] rfl rfl
                    refine zcall (st1 := []) (va_runV (As := []) (rest := []) ⟨hx, hb, hml, hown, hts⟩ (k_M_settle l dC dI cI cZ cF H.size k0 a (upd I0 0 (nI (ft + 1))) J0 sa ) (csV_197 hts rfl rfl ⟨Nat.le_of_ble_eq_true rfl, Nat.le_of_ble_eq_true rfl⟩) (zPV2 (q0 := 0) (ci := 9) hPc hDc hK hXN rfl rfl) rfl rfl hl.1 rfl (lv_room (Nat.le_of_ble_eq_true rfl)) dX11_feature_83 ⟨Nat.le_of_ble_eq_true rfl, Nat.le_of_ble_eq_true rfl⟩) hS hFc hFc rfl (fun t H locs ht hB hk1 hS => ?_)
                    obtain ⟨hP1, hD1⟩ := hB
                    rw [ht] at hP1
                    obtain ⟨hP, hD⟩ := zn (W2 := [(om k0 a (upd (upd (upd I0 0 (nI (ft + 1))) 20 0) 21 (I0 19)) J0), _, _, _, _, _, _, _, _, _, _, _, (oa (a 27) cI 516 (upd sa 0 0))]) hP hD hk1 hFc hP1 hD1 [0, 12] zl_171 zl_172 [0, 12] (by decide +kernel) rfl rfl rfl rfl rfl
                    clear hk1 hPc hDc hFc hP1 hD1 ht
                    refine lv_aload_n hx hb dX11_feature_86 rfl (lv_at hl 1 rfl) ?_
                    refine lv_iconst (v := 0) hx hb dX11_feature_87 rfl ?_
                    refine va_put (D := (dC, dI)) (ci := 9) (v := .int 0) (ty := .int) (C := RX11) (T := TX11) (N := 55) hx hb hts inX11 tyX11 tyX11_ok nmX11 hown hK hP hD hS 0 rfl rfl 14 (by decide) (hts _ mw_1173) (fun _ h9 => h9) rfl (by decide +kernel) rfl rfl (Nat.le_of_ble_eq_true rfl) dX11_feature_88 (fun H locs hP hD hS => ?_)
                    obtain ⟨hP, hD⟩ := zre (W2 := [(om k0 a (upd (upd (upd (upd I0 0 (nI (ft + 1))) 14 0) 20 0) 21 (I0 19)) J0), _, _, _, _, _, _, _, _, _, _, _, _]) hP hD rfl
                    refine lv_iload hx hb dX11_feature_91 (lv_at hl 0 rfl) ?_
                    obtain ⟨hP9, hD9⟩ := zu_sub (wc := [_, _, _, _, _, _, _, _, _, _, _, _, _]) hP hD [true, true, true, true, true, true, true, true, true, true, true, true, true] rfl rfl
                    rw [hQ9]
                    exact W.iret (v := nI ft) hx hb hr (fun t ht hW => ⟨⟨rfl, by rw [ht]; exact hP9, hD9⟩, hS.F ht⟩) hS.2.2 dX11_feature_93
                  · have c_9 : ((ft : Nat) : Int) = 200 := zc_eq (nI_toInt b9_10) rfl c_9
                    exfalso; omega
                · have c_8 : 9 < k4.toInt := zc_nle rfl rfl c_8
                  exfalso; omega
set_option maxHeartbeats 4000000 in
set_option maxRecDepth 100000 in
theorem k_M_corner_x (l : Launch) (dC : Nat → ClassId) (dI : Nat → Nat → Nat) (cI cZ cF : ClassId) (sz : Nat) (k0 : Nat) (a : Nat → Nat) (I0 : Nat → Int32) (J0 : Nat → Int64) (ft : Nat) (v : Int32) (px : Int32) (py : Int32) (hft : I0 0 = nI ft) (h200 : ft ≤ 200) (hv : ¬ (0 ≤ v.toInt ∧ v.toInt < (ft : Int))) : zM l yX11_corner cX11_corner 4 (some .int) ({ frames := 1, cells := 0, slots := 0, locals := 21 } : Room) [.ref k0, .int v, .int px, .int py] (dC, dI) (zTy cI cZ cF) [(om k0 a I0 J0)] sz (some (.int (-1))) (fun A t => zPD (dC, dI) classes A [(om k0 a (upd (upd I0 14 1) 15 (I0 15)) J0)] t.heap) 0 0 := by
  refine zIn (own := "ScaleShopModel") (loc := [(0, .ref k0), (1, .int v), (2, .int px), (3, .int py)]) rfl rfl rfl rfl (fun p e s m below meth c hx hb hr hts hown hlocks hml hnm9 A hA hS hP hD hK hXN Q9 hQ9 ls hl => ?_)
  refine lv_aload_n hx hb dX11_corner_0 rfl (lv_at hl 0 rfl) ?_
  refine lv_iload_n hx hb dX11_corner_1 rfl (lv_at hl 1 rfl) ?_
  obtain ⟨hPc, hDc, hFc, hI1⟩ := zi_sub (wc := [_]) hP hD hS hA [0] rfl rfl
  refine zcall (st1 := [.int (pI (0 ≤ v.toInt ∧ v.toInt < (ft : Int)))]) (va_runV (As := [.int v]) (rest := []) ⟨hx, hb, hml, hown, hts⟩ (k_M_isFeature l dC dI cI cZ cF s.heap.size k0 a I0 J0 ft v (by first | with_reducible assumption | assumption) (by first | with_reducible assumption | omega)) (csV_178 hts rfl rfl ⟨Nat.le_of_ble_eq_true rfl, Nat.le_of_ble_eq_true rfl⟩) (zPV2 (q0 := 0) (ci := 9) hPc hDc hK hXN rfl rfl) rfl rfl hl.1 rfl (lv_room (Nat.le_of_ble_eq_true rfl)) dX11_corner_2 ⟨Nat.le_of_ble_eq_true rfl, Nat.le_of_ble_eq_true rfl⟩) hS hFc hFc rfl (fun t H locs ht hB hk1 hS => ?_)
  obtain ⟨hP1, hD1⟩ := hB
  rw [ht] at hP1
  replace hP := z0 hP hD hk1 hP1 hI1
  clear hk1 hPc hDc hFc hP1 hD1 ht hI1
  refine lv_if_ne (tgt := 14) hx hb dX11_corner_5 rfl (fun c_1 => ?_) (fun c_1 => ?_)
  · have c_1 : 0 ≤ v.toInt ∧ v.toInt < (ft : Int) := zp_1 c_1
    exfalso; exact absurd (by first | with_reducible assumption | assumption) hv
  · have c_1 : ¬ (0 ≤ v.toInt ∧ v.toInt < (ft : Int)) := zp_0 c_1
    refine lv_aload_n hx hb dX11_corner_8 rfl (lv_at hl 0 rfl) ?_
    refine lv_iconst (v := 1) hx hb dX11_corner_9 rfl ?_
    obtain ⟨hPc, hDc, hFc⟩ := zo_sub (wc := [_]) hP hD hS hA [0] rfl rfl
    refine zcall (st1 := [.int (-1)]) (va_runV (As := [.int 1]) (rest := []) ⟨hx, hb, hml, hown, hts⟩ (k_M_refuse l dC dI cI cZ cF H.size k0 a I0 J0 1 (by decide)) (csV_185 hts rfl rfl ⟨Nat.le_of_ble_eq_true rfl, Nat.le_of_ble_eq_true rfl⟩) (zPV2 (q0 := 0) (ci := 9) hPc hDc hK hXN rfl rfl) rfl rfl hl.1 rfl (lv_room (Nat.le_of_ble_eq_true rfl)) dX11_corner_10 ⟨Nat.le_of_ble_eq_true rfl, Nat.le_of_ble_eq_true rfl⟩) hS hFc hFc rfl (fun t H locs ht hB hk1 hS => ?_)
    obtain ⟨hP1, hD1⟩ := hB
    rw [ht] at hP1
    obtain ⟨hP, hD⟩ := zn (W2 := [(om k0 a (upd (upd I0 14 1) 15 (I0 15)) J0)]) hP hD hk1 hFc hP1 hD1 [0] [] [false] [0] (by decide +kernel) rfl rfl rfl rfl rfl
    clear hk1 hPc hDc hFc hP1 hD1 ht
    obtain ⟨hP9, hD9⟩ := zu_sub (wc := [_]) hP hD [true] rfl rfl
    rw [hQ9]
    exact W.iret (v := (-1)) hx hb hr (fun t ht hW => ⟨⟨rfl, by rw [ht]; exact hP9, hD9⟩, hS.F ht⟩) hS.2.2 dX11_corner_13
set_option maxHeartbeats 4000000 in
set_option maxRecDepth 100000 in
theorem k_M_tear_x (l : Launch) (dC : Nat → ClassId) (dI : Nat → Nat → Nat) (cI cZ cF : ClassId) (sz : Nat) (k0 : Nat) (a : Nat → Nat) (I0 : Nat → Int32) (J0 : Nat → Int64) (ft : Nat) (v : Int32) (hft : I0 0 = nI ft) (h200 : ft ≤ 200) (hv : ¬ (0 ≤ v.toInt ∧ v.toInt < (ft : Int))) : zM l yX11_tear cX11_tear 2 (some .boolean) ({ frames := 2, cells := 0, slots := 0, locals := 42 } : Room) [.ref k0, .int v] (dC, dI) (zTy cI cZ cF) [(om k0 a I0 J0)] sz (some (.int 0)) (fun A t => zPD (dC, dI) classes A [(om k0 a (upd (upd I0 14 1) 15 (I0 15)) J0)] t.heap) 0 0 := by
  refine zIn (own := "ScaleShopModel") (loc := [(0, .ref k0), (1, .int v)]) rfl rfl rfl rfl (fun p e s m below meth c hx hb hr hts hown hlocks hml hnm9 A hA hS hP hD hK hXN Q9 hQ9 ls hl => ?_)
  refine lv_aload_n hx hb dX11_tear_0 rfl (lv_at hl 0 rfl) ?_
  refine lv_iload_n hx hb dX11_tear_1 rfl (lv_at hl 1 rfl) ?_
  obtain ⟨hPc, hDc, hFc, hI1⟩ := zi_sub (wc := [_]) hP hD hS hA [0] rfl rfl
  refine zcall (st1 := [.int (pI (0 ≤ v.toInt ∧ v.toInt < (ft : Int)))]) (va_runV (As := [.int v]) (rest := []) ⟨hx, hb, hml, hown, hts⟩ (k_M_isFeature l dC dI cI cZ cF s.heap.size k0 a I0 J0 ft v (by first | with_reducible assumption | assumption) (by first | with_reducible assumption | omega)) (csV_178 hts rfl rfl ⟨Nat.le_of_ble_eq_true rfl, Nat.le_of_ble_eq_true rfl⟩) (zPV2 (q0 := 0) (ci := 9) hPc hDc hK hXN rfl rfl) rfl rfl hl.1 rfl (lv_room (Nat.le_of_ble_eq_true rfl)) dX11_tear_2 ⟨Nat.le_of_ble_eq_true rfl, Nat.le_of_ble_eq_true rfl⟩) hS hFc hFc rfl (fun t H locs ht hB hk1 hS => ?_)
  obtain ⟨hP1, hD1⟩ := hB
  rw [ht] at hP1
  replace hP := z0 hP hD hk1 hP1 hI1
  clear hk1 hPc hDc hFc hP1 hD1 ht hI1
  refine lv_if_ne (tgt := 14) hx hb dX11_tear_5 rfl (fun c_1 => ?_) (fun c_1 => ?_)
  · have c_1 : 0 ≤ v.toInt ∧ v.toInt < (ft : Int) := zp_1 c_1
    exfalso; exact absurd (by first | with_reducible assumption | assumption) hv
  · have c_1 : ¬ (0 ≤ v.toInt ∧ v.toInt < (ft : Int)) := zp_0 c_1
    refine lv_aload_n hx hb dX11_tear_8 rfl (lv_at hl 0 rfl) ?_
    refine lv_iconst (v := 1) hx hb dX11_tear_9 rfl ?_
    obtain ⟨hPc, hDc, hFc⟩ := zo_sub (wc := [_]) hP hD hS hA [0] rfl rfl
    refine zcall (st1 := [.int 0]) (va_runV (As := [.int 1]) (rest := []) ⟨hx, hb, hml, hown, hts⟩ (k_M_no l dC dI cI cZ cF H.size k0 a I0 J0 1 (by decide)) (csV_198 hts rfl rfl ⟨Nat.le_of_ble_eq_true rfl, Nat.le_of_ble_eq_true rfl⟩) (zPV2 (q0 := 0) (ci := 9) hPc hDc hK hXN rfl rfl) rfl rfl hl.1 rfl (lv_room (Nat.le_of_ble_eq_true rfl)) dX11_tear_10 ⟨Nat.le_of_ble_eq_true rfl, Nat.le_of_ble_eq_true rfl⟩) hS hFc hFc rfl (fun t H locs ht hB hk1 hS => ?_)
    obtain ⟨hP1, hD1⟩ := hB
    rw [ht] at hP1
    obtain ⟨hP, hD⟩ := zn (W2 := [(om k0 a (upd (upd I0 14 1) 15 (I0 15)) J0)]) hP hD hk1 hFc hP1 hD1 [0] [] [false] [0] (by decide +kernel) rfl rfl rfl rfl rfl
    clear hk1 hPc hDc hFc hP1 hD1 ht
    obtain ⟨hP9, hD9⟩ := zu_sub (wc := [_]) hP hD [true] rfl rfl
    rw [hQ9]
    exact W.zret (ty := .boolean) (v := 0) hx hb hr (rfl) (fun t ht hW => ⟨⟨rfl, by rw [ht]; exact hP9, hD9⟩, hS.F ht⟩) hS.2.2 dX11_tear_13
set_option maxHeartbeats 4000000 in
set_option maxRecDepth 100000 in
theorem k_M_done_x (l : Launch) (dC : Nat → ClassId) (dI : Nat → Nat → Nat) (cI cZ cF : ClassId) (sz : Nat) (k0 : Nat) (a : Nat → Nat) (I0 : Nat → Int32) (J0 : Nat → Int64) (ft : Nat) (v : Int32) (hft : I0 0 = nI ft) (h200 : ft ≤ 200) (hv : ¬ (0 ≤ v.toInt ∧ v.toInt < (ft : Int))) : zM l yX11_done cX11_done 2 (some .boolean) ({ frames := 2, cells := 0, slots := 0, locals := 42 } : Room) [.ref k0, .int v] (dC, dI) (zTy cI cZ cF) [(om k0 a I0 J0)] sz (some (.int 0)) (fun A t => zPD (dC, dI) classes A [(om k0 a (upd (upd I0 14 1) 15 (I0 15)) J0)] t.heap) 0 0 := by
  refine zIn (own := "ScaleShopModel") (loc := [(0, .ref k0), (1, .int v)]) rfl rfl rfl rfl (fun p e s m below meth c hx hb hr hts hown hlocks hml hnm9 A hA hS hP hD hK hXN Q9 hQ9 ls hl => ?_)
  refine lv_aload_n hx hb dX11_done_0 rfl (lv_at hl 0 rfl) ?_
  refine lv_iload_n hx hb dX11_done_1 rfl (lv_at hl 1 rfl) ?_
  obtain ⟨hPc, hDc, hFc, hI1⟩ := zi_sub (wc := [_]) hP hD hS hA [0] rfl rfl
  refine zcall (st1 := [.int (pI (0 ≤ v.toInt ∧ v.toInt < (ft : Int)))]) (va_runV (As := [.int v]) (rest := []) ⟨hx, hb, hml, hown, hts⟩ (k_M_isFeature l dC dI cI cZ cF s.heap.size k0 a I0 J0 ft v (by first | with_reducible assumption | assumption) (by first | with_reducible assumption | omega)) (csV_178 hts rfl rfl ⟨Nat.le_of_ble_eq_true rfl, Nat.le_of_ble_eq_true rfl⟩) (zPV2 (q0 := 0) (ci := 9) hPc hDc hK hXN rfl rfl) rfl rfl hl.1 rfl (lv_room (Nat.le_of_ble_eq_true rfl)) dX11_done_2 ⟨Nat.le_of_ble_eq_true rfl, Nat.le_of_ble_eq_true rfl⟩) hS hFc hFc rfl (fun t H locs ht hB hk1 hS => ?_)
  obtain ⟨hP1, hD1⟩ := hB
  rw [ht] at hP1
  replace hP := z0 hP hD hk1 hP1 hI1
  clear hk1 hPc hDc hFc hP1 hD1 ht hI1
  refine lv_if_ne (tgt := 14) hx hb dX11_done_5 rfl (fun c_1 => ?_) (fun c_1 => ?_)
  · have c_1 : 0 ≤ v.toInt ∧ v.toInt < (ft : Int) := zp_1 c_1
    exfalso; exact absurd (by first | with_reducible assumption | assumption) hv
  · have c_1 : ¬ (0 ≤ v.toInt ∧ v.toInt < (ft : Int)) := zp_0 c_1
    refine lv_aload_n hx hb dX11_done_8 rfl (lv_at hl 0 rfl) ?_
    refine lv_iconst (v := 1) hx hb dX11_done_9 rfl ?_
    obtain ⟨hPc, hDc, hFc⟩ := zo_sub (wc := [_]) hP hD hS hA [0] rfl rfl
    refine zcall (st1 := [.int 0]) (va_runV (As := [.int 1]) (rest := []) ⟨hx, hb, hml, hown, hts⟩ (k_M_no l dC dI cI cZ cF H.size k0 a I0 J0 1 (by decide)) (csV_198 hts rfl rfl ⟨Nat.le_of_ble_eq_true rfl, Nat.le_of_ble_eq_true rfl⟩) (zPV2 (q0 := 0) (ci := 9) hPc hDc hK hXN rfl rfl) rfl rfl hl.1 rfl (lv_room (Nat.le_of_ble_eq_true rfl)) dX11_done_10 ⟨Nat.le_of_ble_eq_true rfl, Nat.le_of_ble_eq_true rfl⟩) hS hFc hFc rfl (fun t H locs ht hB hk1 hS => ?_)
    obtain ⟨hP1, hD1⟩ := hB
    rw [ht] at hP1
    obtain ⟨hP, hD⟩ := zn (W2 := [(om k0 a (upd (upd I0 14 1) 15 (I0 15)) J0)]) hP hD hk1 hFc hP1 hD1 [0] [] [false] [0] (by decide +kernel) rfl rfl rfl rfl rfl
    clear hk1 hPc hDc hFc hP1 hD1 ht
    obtain ⟨hP9, hD9⟩ := zu_sub (wc := [_]) hP hD [true] rfl rfl
    rw [hQ9]
    exact W.zret (ty := .boolean) (v := 0) hx hb hr (rfl) (fun t ht hW => ⟨⟨rfl, by rw [ht]; exact hP9, hD9⟩, hS.F ht⟩) hS.2.2 dX11_done_13
set_option maxHeartbeats 4000000 in
set_option maxRecDepth 100000 in
theorem k_M_corner_r (l : Launch) (dC : Nat → ClassId) (dI : Nat → Nat → Nat) (cI cZ cF : ClassId) (sz : Nat) (k0 : Nat) (a : Nat → Nat) (I0 : Nat → Int32) (J0 : Nat → Int64) (f : Nat) (n : Nat) (ft : Nat) (px : Int32) (py : Int32) (st : Nat → Int32) (tn : Nat → Int32) (mn : Nat → Int32) (kd : Nat → Int32) (hft : I0 0 = nI ft) (h200 : ft ≤ 200) (hf_t : f < ft) (hm_f : mn f = nI n) (hn_f : n ≤ 40) (hbad : ¬ ((st f).toInt = 0 ∧ (0 ≤ px.toInt ∧ px.toInt ≤ 1000 ∧ 0 ≤ py.toInt ∧ py.toInt ≤ 1000) ∧ (tn f).toInt = 0 ∧ ¬ n = cpk (kd f).toInt)) : zM l yX11_corner cX11_corner 4 (some .int) ({ frames := 1, cells := 0, slots := 0, locals := 21 } : Room) [.ref k0, .int (nI f), .int px, .int py] (dC, dI) (zTy cI cZ cF) [(om k0 a I0 J0), (oa (a 5) cI 201 st), (oa (a 6) cZ 201 tn), (oa (a 11) cI 201 mn), (oa (a 1) cI 201 kd)] sz (some (.int (-1))) (fun A t => ∃ (z9 : Int32), zPD (dC, dI) classes A [(om k0 a (upd (upd I0 14 z9) 15 (I0 15)) J0), (oa (a 5) cI 201 st), (oa (a 6) cZ 201 tn), (oa (a 11) cI 201 mn), (oa (a 1) cI 201 kd)] t.heap) 0 0 := by
  refine zIn (own := "ScaleShopModel") (loc := [(0, .ref k0), (1, .int (nI f)), (2, .int px), (3, .int py)]) rfl rfl rfl rfl (fun p e s m below meth c hx hb hr hts hown hlocks hml hnm9 A hA hS hP hD hK hXN Q9 hQ9 ls hl => ?_)
  have hcp := cpk_s (kd f).toInt
  refine lv_aload_n hx hb dX11_corner_0 rfl (lv_at hl 0 rfl) ?_
  refine lv_iload_n hx hb dX11_corner_1 rfl (lv_at hl 1 rfl) ?_
  obtain ⟨hPc, hDc, hFc, hI1⟩ := zi_sub (wc := [_]) hP hD hS hA [0] rfl rfl
  refine zcall (st1 := [.int (pI (f < ft))]) (va_runV (As := [.int (nI f)]) (rest := []) ⟨hx, hb, hml, hown, hts⟩ (k_M_isFeature_n l dC dI cI cZ cF s.heap.size k0 a I0 J0 f ft (by first | with_reducible assumption | assumption) (by first | with_reducible assumption | omega) (by first | with_reducible assumption | omega)) (csV_178 hts rfl rfl ⟨Nat.le_of_ble_eq_true rfl, Nat.le_of_ble_eq_true rfl⟩) (zPV2 (q0 := 0) (ci := 9) hPc hDc hK hXN rfl rfl) rfl rfl hl.1 rfl (lv_room (Nat.le_of_ble_eq_true rfl)) dX11_corner_2 ⟨Nat.le_of_ble_eq_true rfl, Nat.le_of_ble_eq_true rfl⟩) hS hFc hFc rfl (fun t H locs ht hB hk1 hS => ?_)
  obtain ⟨hP1, hD1⟩ := hB
  rw [ht] at hP1
  replace hP := z0 hP hD hk1 hP1 hI1
  clear hk1 hPc hDc hFc hP1 hD1 ht hI1
  refine lv_if_ne (tgt := 14) hx hb dX11_corner_5 rfl (fun c_1 => ?_) (fun c_1 => ?_)
  · have c_1 : f < ft := zp_1 c_1
    refine lv_aload_n hx hb dX11_corner_14 rfl (lv_at hl 0 rfl) ?_
    refine va_get (D := (dC, dI)) (ci := 9) (v := .ref (a 5)) (C := RX11) (T := TX11) (N := 55) hx hb hts inX11 hown hK hP 0 rfl rfl 5 (Nat.le_of_ble_eq_true rfl) (hts _ mw_1164) (fun _ h9 => h9) rfl dX11_corner_15 ?_
    refine lv_iload_n hx hb dX11_corner_18 rfl (lv_at hl 1 rfl) ?_
    have b9_2 : f < 201 := by omega
    refine z_iald hx hb hK hP 1 0 rfl rfl (e := f) rfl b9_2 (Nat.le_of_ble_eq_true rfl) dX11_corner_19 ?_
    refine lv_if_eq (tgt := 29) hx hb dX11_corner_20 rfl (fun c_3 => ?_) (fun c_3 => ?_)
    · have c_3 : (st f).toInt = 0 := zc_eq rfl rfl c_3
      refine lv_iload_n hx hb dX11_corner_29 rfl (lv_at hl 2 rfl) ?_
      refine lv_if_lt (tgt := 51) hx hb dX11_corner_30 rfl (fun c_4 => ?_) (fun c_4 => ?_)
      · have c_4 : px.toInt < 0 := zc_lt rfl rfl c_4
        refine lv_aload_n hx hb dX11_corner_51 rfl (lv_at hl 0 rfl) ?_
        refine lv_iconst (v := 4) hx hb dX11_corner_52 rfl ?_
        obtain ⟨hPc, hDc, hFc⟩ := zo_sub (wc := [_]) hP hD hS hA [0] rfl rfl
        refine zcall (st1 := [.int (-1)]) (va_runV (As := [.int 4]) (rest := []) ⟨hx, hb, hml, hown, hts⟩ (k_M_refuse l dC dI cI cZ cF H.size k0 a I0 J0 4 (by decide)) (csV_185 hts rfl rfl ⟨Nat.le_of_ble_eq_true rfl, Nat.le_of_ble_eq_true rfl⟩) (zPV2 (q0 := 0) (ci := 9) hPc hDc hK hXN rfl rfl) rfl rfl hl.1 rfl (lv_room (Nat.le_of_ble_eq_true rfl)) dX11_corner_53 ⟨Nat.le_of_ble_eq_true rfl, Nat.le_of_ble_eq_true rfl⟩) hS hFc hFc rfl (fun t H locs ht hB hk1 hS => ?_)
        obtain ⟨hP1, hD1⟩ := hB
        rw [ht] at hP1
        obtain ⟨hP, hD⟩ := zn (W2 := [(om k0 a (upd (upd I0 14 4) 15 (I0 15)) J0), _, _, _, _]) hP hD hk1 hFc hP1 hD1 [0] [false, true, true, true, true] [false, true, true, true, true] [0] (by decide +kernel) rfl rfl rfl rfl rfl
        clear hk1 hPc hDc hFc hP1 hD1 ht
        obtain ⟨hP9, hD9⟩ := zu_sub (wc := [_, _, _, _, _]) hP hD [true, true, true, true, true] rfl rfl
        rw [hQ9]
        exact W.iret (v := (-1)) hx hb hr (fun t ht hW => ⟨⟨rfl, 4, by rw [ht]; exact hP9, hD9⟩, hS.F ht⟩) hS.2.2 dX11_corner_56
      · have c_4 : 0 ≤ px.toInt := zc_nlt rfl rfl c_4
        refine lv_iload_n hx hb dX11_corner_33 rfl (lv_at hl 2 rfl) ?_
        refine lv_sipush (v := 1000) hx hb dX11_corner_34 rfl ?_
        refine lv_icmp_gt (tgt := 51) hx hb dX11_corner_37 rfl (fun c_5 => ?_) (fun c_5 => ?_)
        · have c_5 : 1000 < px.toInt := zc_lt rfl rfl c_5
          refine lv_aload_n hx hb dX11_corner_51 rfl (lv_at hl 0 rfl) ?_
          refine lv_iconst (v := 4) hx hb dX11_corner_52 rfl ?_
          obtain ⟨hPc, hDc, hFc⟩ := zo_sub (wc := [_]) hP hD hS hA [0] rfl rfl
          refine zcall (st1 := [.int (-1)]) (va_runV (As := [.int 4]) (rest := []) ⟨hx, hb, hml, hown, hts⟩ (k_M_refuse l dC dI cI cZ cF H.size k0 a I0 J0 4 (by decide)) (csV_185 hts rfl rfl ⟨Nat.le_of_ble_eq_true rfl, Nat.le_of_ble_eq_true rfl⟩) (zPV2 (q0 := 0) (ci := 9) hPc hDc hK hXN rfl rfl) rfl rfl hl.1 rfl (lv_room (Nat.le_of_ble_eq_true rfl)) dX11_corner_53 ⟨Nat.le_of_ble_eq_true rfl, Nat.le_of_ble_eq_true rfl⟩) hS hFc hFc rfl (fun t H locs ht hB hk1 hS => ?_)
          obtain ⟨hP1, hD1⟩ := hB
          rw [ht] at hP1
          obtain ⟨hP, hD⟩ := zn (W2 := [(om k0 a (upd (upd I0 14 4) 15 (I0 15)) J0), _, _, _, _]) hP hD hk1 hFc hP1 hD1 [0] [false, true, true, true, true] [false, true, true, true, true] [0] (by decide +kernel) rfl rfl rfl rfl rfl
          clear hk1 hPc hDc hFc hP1 hD1 ht
          obtain ⟨hP9, hD9⟩ := zu_sub (wc := [_, _, _, _, _]) hP hD [true, true, true, true, true] rfl rfl
          rw [hQ9]
          exact W.iret (v := (-1)) hx hb hr (fun t ht hW => ⟨⟨rfl, 4, by rw [ht]; exact hP9, hD9⟩, hS.F ht⟩) hS.2.2 dX11_corner_56
        · have c_5 : px.toInt ≤ 1000 := zc_nlt rfl rfl c_5
          refine lv_iload_n hx hb dX11_corner_40 rfl (lv_at hl 3 rfl) ?_
          refine lv_if_lt (tgt := 51) hx hb dX11_corner_41 rfl (fun c_6 => ?_) (fun c_6 => ?_)
          · have c_6 : py.toInt < 0 := zc_lt rfl rfl c_6
            refine lv_aload_n hx hb dX11_corner_51 rfl (lv_at hl 0 rfl) ?_
            refine lv_iconst (v := 4) hx hb dX11_corner_52 rfl ?_
            obtain ⟨hPc, hDc, hFc⟩ := zo_sub (wc := [_]) hP hD hS hA [0] rfl rfl
            refine zcall (st1 := [.int (-1)]) (va_runV (As := [.int 4]) (rest := []) ⟨hx, hb, hml, hown, hts⟩ (k_M_refuse l dC dI cI cZ cF H.size k0 a I0 J0 4 (by decide)) (csV_185 hts rfl rfl ⟨Nat.le_of_ble_eq_true rfl, Nat.le_of_ble_eq_true rfl⟩) (zPV2 (q0 := 0) (ci := 9) hPc hDc hK hXN rfl rfl) rfl rfl hl.1 rfl (lv_room (Nat.le_of_ble_eq_true rfl)) dX11_corner_53 ⟨Nat.le_of_ble_eq_true rfl, Nat.le_of_ble_eq_true rfl⟩) hS hFc hFc rfl (fun t H locs ht hB hk1 hS => ?_)
            obtain ⟨hP1, hD1⟩ := hB
            rw [ht] at hP1
            obtain ⟨hP, hD⟩ := zn (W2 := [(om k0 a (upd (upd I0 14 4) 15 (I0 15)) J0), _, _, _, _]) hP hD hk1 hFc hP1 hD1 [0] [false, true, true, true, true] [false, true, true, true, true] [0] (by decide +kernel) rfl rfl rfl rfl rfl
            clear hk1 hPc hDc hFc hP1 hD1 ht
            obtain ⟨hP9, hD9⟩ := zu_sub (wc := [_, _, _, _, _]) hP hD [true, true, true, true, true] rfl rfl
            rw [hQ9]
            exact W.iret (v := (-1)) hx hb hr (fun t ht hW => ⟨⟨rfl, 4, by rw [ht]; exact hP9, hD9⟩, hS.F ht⟩) hS.2.2 dX11_corner_56
          · have c_6 : 0 ≤ py.toInt := zc_nlt rfl rfl c_6
            refine lv_iload_n hx hb dX11_corner_44 rfl (lv_at hl 3 rfl) ?_
            refine lv_sipush (v := 1000) hx hb dX11_corner_45 rfl ?_
            refine lv_icmp_le (tgt := 57) hx hb dX11_corner_48 rfl (fun c_7 => ?_) (fun c_7 => ?_)
            · have c_7 : py.toInt ≤ 1000 := zc_le rfl rfl c_7
              refine lv_aload_n hx hb dX11_corner_57 rfl (lv_at hl 0 rfl) ?_
              refine va_get (D := (dC, dI)) (ci := 9) (v := .ref (a 6)) (C := RX11) (T := TX11) (N := 55) hx hb hts inX11 hown hK hP 0 rfl rfl 6 (Nat.le_of_ble_eq_true rfl) (hts _ mw_1165) (fun _ h9 => h9) rfl dX11_corner_58 ?_
              refine lv_iload_n hx hb dX11_corner_61 rfl (lv_at hl 1 rfl) ?_
              refine z_zald hx hb hK hP 2 1 rfl rfl (e := f) rfl b9_2 (Nat.le_of_ble_eq_true rfl) dX11_corner_62 ?_
              refine lv_if_eq (tgt := 72) hx hb dX11_corner_63 rfl (fun c_8 => ?_) (fun c_8 => ?_)
              · have c_8 : (tn f).toInt = 0 := zc_eq rfl rfl c_8
                refine lv_aload_n hx hb dX11_corner_72 rfl (lv_at hl 0 rfl) ?_
                refine va_get (D := (dC, dI)) (ci := 9) (v := .ref (a 11)) (C := RX11) (T := TX11) (N := 55) hx hb hts inX11 hown hK hP 0 rfl rfl 11 (Nat.le_of_ble_eq_true rfl) (hts _ mw_1170) (fun _ h9 => h9) rfl dX11_corner_73 ?_
                refine lv_iload_n hx hb dX11_corner_76 rfl (lv_at hl 1 rfl) ?_
                refine z_iald hx hb hK hP 3 0 rfl rfl (e := f) rfl b9_2 (Nat.le_of_ble_eq_true rfl) dX11_corner_77 ?_
                refine zz_i (v := nI n) (hm_f) ?_
                refine lv_aload_n hx hb dX11_corner_78 rfl (lv_at hl 0 rfl) ?_
                refine va_get (D := (dC, dI)) (ci := 9) (v := .ref (a 1)) (C := RX11) (T := TX11) (N := 55) hx hb hts inX11 hown hK hP 0 rfl rfl 1 (Nat.le_of_ble_eq_true rfl) (hts _ mw_1160) (fun _ h9 => h9) rfl dX11_corner_79 ?_
                refine lv_iload_n hx hb dX11_corner_82 rfl (lv_at hl 1 rfl) ?_
                refine z_iald hx hb hK hP 4 0 rfl rfl (e := f) rfl b9_2 (Nat.le_of_ble_eq_true rfl) dX11_corner_83 ?_
                refine lv_if_ne (tgt := 91) hx hb dX11_corner_84 rfl (fun c_9 => ?_) (fun c_9 => ?_)
                · have c_9 : ¬ (kd f).toInt = 0 := zc_ne rfl rfl c_9
                  refine lv_bipush (v := 40) hx hb dX11_corner_91 rfl ?_
                  have b9_11 : zlt (n) := show n < 2147483648 by omega
                  refine lv_icmp_ne (tgt := 103) hx hb dX11_corner_93 rfl (fun c_10 => ?_) (fun c_10 => ?_)
                  · have c_10 : ¬ ((n : Nat) : Int) = 40 := zc_ne (nI_toInt b9_11) rfl c_10
                    exfalso; omega
                  · have c_10 : ((n : Nat) : Int) = 40 := zc_eq (nI_toInt b9_11) rfl c_10
                    refine lv_aload_n hx hb dX11_corner_96 rfl (lv_at hl 0 rfl) ?_
                    refine lv_bipush (v := 6) hx hb dX11_corner_97 rfl ?_
                    obtain ⟨hPc, hDc, hFc⟩ := zo_sub (wc := [_]) hP hD hS hA [0] rfl rfl
                    refine zcall (st1 := [.int (-1)]) (va_runV (As := [.int 6]) (rest := []) ⟨hx, hb, hml, hown, hts⟩ (k_M_refuse l dC dI cI cZ cF H.size k0 a I0 J0 6 (by decide)) (csV_185 hts rfl rfl ⟨Nat.le_of_ble_eq_true rfl, Nat.le_of_ble_eq_true rfl⟩) (zPV2 (q0 := 0) (ci := 9) hPc hDc hK hXN rfl rfl) rfl rfl hl.1 rfl (lv_room (Nat.le_of_ble_eq_true rfl)) dX11_corner_99 ⟨Nat.le_of_ble_eq_true rfl, Nat.le_of_ble_eq_true rfl⟩) hS hFc hFc rfl (fun t H locs ht hB hk1 hS => ?_)
                    obtain ⟨hP1, hD1⟩ := hB
                    rw [ht] at hP1
                    obtain ⟨hP, hD⟩ := zn (W2 := [(om k0 a (upd (upd I0 14 6) 15 (I0 15)) J0), _, _, _, _]) hP hD hk1 hFc hP1 hD1 [0] [false, true, true, true, true] [false, true, true, true, true] [0] (by decide +kernel) rfl rfl rfl rfl rfl
                    clear hk1 hPc hDc hFc hP1 hD1 ht
                    obtain ⟨hP9, hD9⟩ := zu_sub (wc := [_, _, _, _, _]) hP hD [true, true, true, true, true] rfl rfl
                    rw [hQ9]
                    exact W.iret (v := (-1)) hx hb hr (fun t ht hW => ⟨⟨rfl, 6, by rw [ht]; exact hP9, hD9⟩, hS.F ht⟩) hS.2.2 dX11_corner_102
                · have c_9 : (kd f).toInt = 0 := zc_eq rfl rfl c_9
                  refine lv_iconst (v := 1) hx hb dX11_corner_87 rfl ?_
                  refine lv_goto (tgt := 93) hx hb dX11_corner_88 rfl ?_
                  have b9_13 : zlt (n) := show n < 2147483648 by omega
                  refine lv_icmp_ne (tgt := 103) hx hb dX11_corner_93 rfl (fun c_12 => ?_) (fun c_12 => ?_)
                  · have c_12 : ¬ ((n : Nat) : Int) = 1 := zc_ne (nI_toInt b9_13) rfl c_12
                    exfalso; omega
                  · have c_12 : ((n : Nat) : Int) = 1 := zc_eq (nI_toInt b9_13) rfl c_12
                    refine lv_aload_n hx hb dX11_corner_96 rfl (lv_at hl 0 rfl) ?_
                    refine lv_bipush (v := 6) hx hb dX11_corner_97 rfl ?_
                    obtain ⟨hPc, hDc, hFc⟩ := zo_sub (wc := [_]) hP hD hS hA [0] rfl rfl
                    refine zcall (st1 := [.int (-1)]) (va_runV (As := [.int 6]) (rest := []) ⟨hx, hb, hml, hown, hts⟩ (k_M_refuse l dC dI cI cZ cF H.size k0 a I0 J0 6 (by decide)) (csV_185 hts rfl rfl ⟨Nat.le_of_ble_eq_true rfl, Nat.le_of_ble_eq_true rfl⟩) (zPV2 (q0 := 0) (ci := 9) hPc hDc hK hXN rfl rfl) rfl rfl hl.1 rfl (lv_room (Nat.le_of_ble_eq_true rfl)) dX11_corner_99 ⟨Nat.le_of_ble_eq_true rfl, Nat.le_of_ble_eq_true rfl⟩) hS hFc hFc rfl (fun t H locs ht hB hk1 hS => ?_)
                    obtain ⟨hP1, hD1⟩ := hB
                    rw [ht] at hP1
                    obtain ⟨hP, hD⟩ := zn (W2 := [(om k0 a (upd (upd I0 14 6) 15 (I0 15)) J0), _, _, _, _]) hP hD hk1 hFc hP1 hD1 [0] [false, true, true, true, true] [false, true, true, true, true] [0] (by decide +kernel) rfl rfl rfl rfl rfl
                    clear hk1 hPc hDc hFc hP1 hD1 ht
                    obtain ⟨hP9, hD9⟩ := zu_sub (wc := [_, _, _, _, _]) hP hD [true, true, true, true, true] rfl rfl
                    rw [hQ9]
                    exact W.iret (v := (-1)) hx hb hr (fun t ht hW => ⟨⟨rfl, 6, by rw [ht]; exact hP9, hD9⟩, hS.F ht⟩) hS.2.2 dX11_corner_102
              · have c_8 : ¬ (tn f).toInt = 0 := zc_ne rfl rfl c_8
                refine lv_aload_n hx hb dX11_corner_66 rfl (lv_at hl 0 rfl) ?_
                refine lv_iconst (v := 5) hx hb dX11_corner_67 rfl ?_
                obtain ⟨hPc, hDc, hFc⟩ := zo_sub (wc := [_]) hP hD hS hA [0] rfl rfl
                refine zcall (st1 := [.int (-1)]) (va_runV (As := [.int 5]) (rest := []) ⟨hx, hb, hml, hown, hts⟩ (k_M_refuse l dC dI cI cZ cF H.size k0 a I0 J0 5 (by decide)) (csV_185 hts rfl rfl ⟨Nat.le_of_ble_eq_true rfl, Nat.le_of_ble_eq_true rfl⟩) (zPV2 (q0 := 0) (ci := 9) hPc hDc hK hXN rfl rfl) rfl rfl hl.1 rfl (lv_room (Nat.le_of_ble_eq_true rfl)) dX11_corner_68 ⟨Nat.le_of_ble_eq_true rfl, Nat.le_of_ble_eq_true rfl⟩) hS hFc hFc rfl (fun t H locs ht hB hk1 hS => ?_)
                obtain ⟨hP1, hD1⟩ := hB
                rw [ht] at hP1
                obtain ⟨hP, hD⟩ := zn (W2 := [(om k0 a (upd (upd I0 14 5) 15 (I0 15)) J0), _, _, _, _]) hP hD hk1 hFc hP1 hD1 [0] [false, true, true, true, true] [false, true, true, true, true] [0] (by decide +kernel) rfl rfl rfl rfl rfl
                clear hk1 hPc hDc hFc hP1 hD1 ht
                obtain ⟨hP9, hD9⟩ := zu_sub (wc := [_, _, _, _, _]) hP hD [true, true, true, true, true] rfl rfl
                rw [hQ9]
                exact W.iret (v := (-1)) hx hb hr (fun t ht hW => ⟨⟨rfl, 5, by rw [ht]; exact hP9, hD9⟩, hS.F ht⟩) hS.2.2 dX11_corner_71
            · have c_7 : 1000 < py.toInt := zc_nle rfl rfl c_7
              refine lv_aload_n hx hb dX11_corner_51 rfl (lv_at hl 0 rfl) ?_
              refine lv_iconst (v := 4) hx hb dX11_corner_52 rfl ?_
              obtain ⟨hPc, hDc, hFc⟩ := zo_sub (wc := [_]) hP hD hS hA [0] rfl rfl
              refine zcall (st1 := [.int (-1)]) (va_runV (As := [.int 4]) (rest := []) ⟨hx, hb, hml, hown, hts⟩ (k_M_refuse l dC dI cI cZ cF H.size k0 a I0 J0 4 (by decide)) (csV_185 hts rfl rfl ⟨Nat.le_of_ble_eq_true rfl, Nat.le_of_ble_eq_true rfl⟩) (zPV2 (q0 := 0) (ci := 9) hPc hDc hK hXN rfl rfl) rfl rfl hl.1 rfl (lv_room (Nat.le_of_ble_eq_true rfl)) dX11_corner_53 ⟨Nat.le_of_ble_eq_true rfl, Nat.le_of_ble_eq_true rfl⟩) hS hFc hFc rfl (fun t H locs ht hB hk1 hS => ?_)
              obtain ⟨hP1, hD1⟩ := hB
              rw [ht] at hP1
              obtain ⟨hP, hD⟩ := zn (W2 := [(om k0 a (upd (upd I0 14 4) 15 (I0 15)) J0), _, _, _, _]) hP hD hk1 hFc hP1 hD1 [0] [false, true, true, true, true] [false, true, true, true, true] [0] (by decide +kernel) rfl rfl rfl rfl rfl
              clear hk1 hPc hDc hFc hP1 hD1 ht
              obtain ⟨hP9, hD9⟩ := zu_sub (wc := [_, _, _, _, _]) hP hD [true, true, true, true, true] rfl rfl
              rw [hQ9]
              exact W.iret (v := (-1)) hx hb hr (fun t ht hW => ⟨⟨rfl, 4, by rw [ht]; exact hP9, hD9⟩, hS.F ht⟩) hS.2.2 dX11_corner_56
    · have c_3 : ¬ (st f).toInt = 0 := zc_ne rfl rfl c_3
      refine lv_aload_n hx hb dX11_corner_23 rfl (lv_at hl 0 rfl) ?_
      refine lv_iconst (v := 2) hx hb dX11_corner_24 rfl ?_
      obtain ⟨hPc, hDc, hFc⟩ := zo_sub (wc := [_]) hP hD hS hA [0] rfl rfl
      refine zcall (st1 := [.int (-1)]) (va_runV (As := [.int 2]) (rest := []) ⟨hx, hb, hml, hown, hts⟩ (k_M_refuse l dC dI cI cZ cF H.size k0 a I0 J0 2 (by decide)) (csV_185 hts rfl rfl ⟨Nat.le_of_ble_eq_true rfl, Nat.le_of_ble_eq_true rfl⟩) (zPV2 (q0 := 0) (ci := 9) hPc hDc hK hXN rfl rfl) rfl rfl hl.1 rfl (lv_room (Nat.le_of_ble_eq_true rfl)) dX11_corner_25 ⟨Nat.le_of_ble_eq_true rfl, Nat.le_of_ble_eq_true rfl⟩) hS hFc hFc rfl (fun t H locs ht hB hk1 hS => ?_)
      obtain ⟨hP1, hD1⟩ := hB
      rw [ht] at hP1
      obtain ⟨hP, hD⟩ := zn (W2 := [(om k0 a (upd (upd I0 14 2) 15 (I0 15)) J0), _, _, _, _]) hP hD hk1 hFc hP1 hD1 [0] [false, true, true, true, true] [false, true, true, true, true] [0] (by decide +kernel) rfl rfl rfl rfl rfl
      clear hk1 hPc hDc hFc hP1 hD1 ht
      obtain ⟨hP9, hD9⟩ := zu_sub (wc := [_, _, _, _, _]) hP hD [true, true, true, true, true] rfl rfl
      rw [hQ9]
      exact W.iret (v := (-1)) hx hb hr (fun t ht hW => ⟨⟨rfl, 2, by rw [ht]; exact hP9, hD9⟩, hS.F ht⟩) hS.2.2 dX11_corner_28
  · have c_1 : ¬ (f < ft) := zp_0 c_1
    exfalso; omega
set_option maxHeartbeats 4000000 in
set_option maxRecDepth 100000 in
theorem k_M_corner_ok (l : Launch) (dC : Nat → ClassId) (dI : Nat → Nat → Nat) (cI cZ cF : ClassId) (sz : Nat) (k0 : Nat) (a : Nat → Nat) (I0 : Nat → Int32) (J0 : Nat → Int64) (f : Nat) (n : Nat) (ft : Nat) (px : Int32) (py : Int32) (st : Nat → Int32) (tn : Nat → Int32) (mn : Nat → Int32) (kd : Nat → Int32) (cx : Nat → Int32) (cy : Nat → Int32) (hft : I0 0 = nI ft) (h200 : ft ≤ 200) (hf_t : f < ft) (hm_f : mn f = nI n) (hn_f : n ≤ 40) (hgood : (st f).toInt = 0 ∧ (0 ≤ px.toInt ∧ px.toInt ≤ 1000 ∧ 0 ≤ py.toInt ∧ py.toInt ≤ 1000) ∧ (tn f).toInt = 0 ∧ ¬ n = cpk (kd f).toInt) : zM l yX11_corner cX11_corner 4 (some .int) ({ frames := 1, cells := 0, slots := 0, locals := 21 } : Room) [.ref k0, .int (nI f), .int px, .int py] (dC, dI) (zTy cI cZ cF) [(om k0 a I0 J0), (oa (a 5) cI 201 st), (oa (a 6) cZ 201 tn), (oa (a 11) cI 201 mn), (oa (a 1) cI 201 kd), (oa (a 12) cI 8040 cx), (oa (a 13) cI 8040 cy)] sz (some (.int (nI (n + 1)))) (fun A t => zPD (dC, dI) classes A [(om k0 a (upd I0 14 0) J0), (oa (a 5) cI 201 st), (oa (a 6) cZ 201 tn), (oa (a 11) cI 201 (upd mn f (nI (n + 1)))), (oa (a 1) cI 201 kd), (oa (a 12) cI 8040 (upd cx (40 * f + n) px)), (oa (a 13) cI 8040 (upd cy (40 * f + n) py))] t.heap) 0 0 := by
  refine zIn (own := "ScaleShopModel") (loc := [(0, .ref k0), (1, .int (nI f)), (2, .int px), (3, .int py)]) rfl rfl rfl rfl (fun p e s m below meth c hx hb hr hts hown hlocks hml hnm9 A hA hS hP hD hK hXN Q9 hQ9 ls hl => ?_)
  have hcp := cpk_s (kd f).toInt
  refine lv_aload_n hx hb dX11_corner_0 rfl (lv_at hl 0 rfl) ?_
  refine lv_iload_n hx hb dX11_corner_1 rfl (lv_at hl 1 rfl) ?_
  obtain ⟨hPc, hDc, hFc, hI1⟩ := zi_sub (wc := [_]) hP hD hS hA [0] rfl rfl
  refine zcall (st1 := [.int (pI (f < ft))]) (va_runV (As := [.int (nI f)]) (rest := []) ⟨hx, hb, hml, hown, hts⟩ (k_M_isFeature_n l dC dI cI cZ cF s.heap.size k0 a I0 J0 f ft (by first | with_reducible assumption | assumption) (by first | with_reducible assumption | omega) (by first | with_reducible assumption | omega)) (csV_178 hts rfl rfl ⟨Nat.le_of_ble_eq_true rfl, Nat.le_of_ble_eq_true rfl⟩) (zPV2 (q0 := 0) (ci := 9) hPc hDc hK hXN rfl rfl) rfl rfl hl.1 rfl (lv_room (Nat.le_of_ble_eq_true rfl)) dX11_corner_2 ⟨Nat.le_of_ble_eq_true rfl, Nat.le_of_ble_eq_true rfl⟩) hS hFc hFc rfl (fun t H locs ht hB hk1 hS => ?_)
  obtain ⟨hP1, hD1⟩ := hB
  rw [ht] at hP1
  replace hP := z0 hP hD hk1 hP1 hI1
  clear hk1 hPc hDc hFc hP1 hD1 ht hI1
  refine lv_if_ne (tgt := 14) hx hb dX11_corner_5 rfl (fun c_1 => ?_) (fun c_1 => ?_)
  · have c_1 : f < ft := zp_1 c_1
    refine lv_aload_n hx hb dX11_corner_14 rfl (lv_at hl 0 rfl) ?_
    refine va_get (D := (dC, dI)) (ci := 9) (v := .ref (a 5)) (C := RX11) (T := TX11) (N := 55) hx hb hts inX11 hown hK hP 0 rfl rfl 5 (Nat.le_of_ble_eq_true rfl) (hts _ mw_1164) (fun _ h9 => h9) rfl dX11_corner_15 ?_
    refine lv_iload_n hx hb dX11_corner_18 rfl (lv_at hl 1 rfl) ?_
    have b9_2 : f < 201 := by omega
    refine z_iald hx hb hK hP 1 0 rfl rfl (e := f) rfl b9_2 (Nat.le_of_ble_eq_true rfl) dX11_corner_19 ?_
    refine lv_if_eq (tgt := 29) hx hb dX11_corner_20 rfl (fun c_3 => ?_) (fun c_3 => ?_)
    · have c_3 : (st f).toInt = 0 := zc_eq rfl rfl c_3
      refine lv_iload_n hx hb dX11_corner_29 rfl (lv_at hl 2 rfl) ?_
      refine lv_if_lt (tgt := 51) hx hb dX11_corner_30 rfl (fun c_4 => ?_) (fun c_4 => ?_)
      · have c_4 : px.toInt < 0 := zc_lt rfl rfl c_4
        exfalso; omega
      · have c_4 : 0 ≤ px.toInt := zc_nlt rfl rfl c_4
        refine lv_iload_n hx hb dX11_corner_33 rfl (lv_at hl 2 rfl) ?_
        refine lv_sipush (v := 1000) hx hb dX11_corner_34 rfl ?_
        refine lv_icmp_gt (tgt := 51) hx hb dX11_corner_37 rfl (fun c_5 => ?_) (fun c_5 => ?_)
        · have c_5 : 1000 < px.toInt := zc_lt rfl rfl c_5
          exfalso; omega
        · have c_5 : px.toInt ≤ 1000 := zc_nlt rfl rfl c_5
          refine lv_iload_n hx hb dX11_corner_40 rfl (lv_at hl 3 rfl) ?_
          refine lv_if_lt (tgt := 51) hx hb dX11_corner_41 rfl (fun c_6 => ?_) (fun c_6 => ?_)
          · have c_6 : py.toInt < 0 := zc_lt rfl rfl c_6
            exfalso; omega
          · have c_6 : 0 ≤ py.toInt := zc_nlt rfl rfl c_6
            refine lv_iload_n hx hb dX11_corner_44 rfl (lv_at hl 3 rfl) ?_
            refine lv_sipush (v := 1000) hx hb dX11_corner_45 rfl ?_
            refine lv_icmp_le (tgt := 57) hx hb dX11_corner_48 rfl (fun c_7 => ?_) (fun c_7 => ?_)
            · have c_7 : py.toInt ≤ 1000 := zc_le rfl rfl c_7
              refine lv_aload_n hx hb dX11_corner_57 rfl (lv_at hl 0 rfl) ?_
              refine va_get (D := (dC, dI)) (ci := 9) (v := .ref (a 6)) (C := RX11) (T := TX11) (N := 55) hx hb hts inX11 hown hK hP 0 rfl rfl 6 (Nat.le_of_ble_eq_true rfl) (hts _ mw_1165) (fun _ h9 => h9) rfl dX11_corner_58 ?_
              refine lv_iload_n hx hb dX11_corner_61 rfl (lv_at hl 1 rfl) ?_
              refine z_zald hx hb hK hP 2 1 rfl rfl (e := f) rfl b9_2 (Nat.le_of_ble_eq_true rfl) dX11_corner_62 ?_
              refine lv_if_eq (tgt := 72) hx hb dX11_corner_63 rfl (fun c_8 => ?_) (fun c_8 => ?_)
              · have c_8 : (tn f).toInt = 0 := zc_eq rfl rfl c_8
                refine lv_aload_n hx hb dX11_corner_72 rfl (lv_at hl 0 rfl) ?_
                refine va_get (D := (dC, dI)) (ci := 9) (v := .ref (a 11)) (C := RX11) (T := TX11) (N := 55) hx hb hts inX11 hown hK hP 0 rfl rfl 11 (Nat.le_of_ble_eq_true rfl) (hts _ mw_1170) (fun _ h9 => h9) rfl dX11_corner_73 ?_
                refine lv_iload_n hx hb dX11_corner_76 rfl (lv_at hl 1 rfl) ?_
                refine z_iald hx hb hK hP 3 0 rfl rfl (e := f) rfl b9_2 (Nat.le_of_ble_eq_true rfl) dX11_corner_77 ?_
                refine zz_i (v := nI n) (hm_f) ?_
                refine lv_aload_n hx hb dX11_corner_78 rfl (lv_at hl 0 rfl) ?_
                refine va_get (D := (dC, dI)) (ci := 9) (v := .ref (a 1)) (C := RX11) (T := TX11) (N := 55) hx hb hts inX11 hown hK hP 0 rfl rfl 1 (Nat.le_of_ble_eq_true rfl) (hts _ mw_1160) (fun _ h9 => h9) rfl dX11_corner_79 ?_
                refine lv_iload_n hx hb dX11_corner_82 rfl (lv_at hl 1 rfl) ?_
                refine z_iald hx hb hK hP 4 0 rfl rfl (e := f) rfl b9_2 (Nat.le_of_ble_eq_true rfl) dX11_corner_83 ?_
                refine lv_if_ne (tgt := 91) hx hb dX11_corner_84 rfl (fun c_9 => ?_) (fun c_9 => ?_)
                · have c_9 : ¬ (kd f).toInt = 0 := zc_ne rfl rfl c_9
                  refine lv_bipush (v := 40) hx hb dX11_corner_91 rfl ?_
                  have b9_11 : zlt (n) := show n < 2147483648 by omega
                  refine lv_icmp_ne (tgt := 103) hx hb dX11_corner_93 rfl (fun c_10 => ?_) (fun c_10 => ?_)
                  · have c_10 : ¬ ((n : Nat) : Int) = 40 := zc_ne (nI_toInt b9_11) rfl c_10
                    refine lv_aload_n hx hb dX11_corner_103 rfl (lv_at hl 0 rfl) ?_
                    refine va_get (D := (dC, dI)) (ci := 9) (v := .ref (a 12)) (C := RX11) (T := TX11) (N := 55) hx hb hts inX11 hown hK hP 0 rfl rfl 12 (Nat.le_of_ble_eq_true rfl) (hts _ mw_1171) (fun _ h9 => h9) rfl dX11_corner_104 ?_
                    refine lv_bipush (v := 40) hx hb dX11_corner_107 rfl ?_
                    refine lv_iload_n hx hb dX11_corner_109 rfl (lv_at hl 1 rfl) ?_
                    refine lv_imul hx hb dX11_corner_110 ?_
                    refine zz_i (v := nI (40 * f)) (pk_mul 40 f) ?_
                    refine lv_aload_n hx hb dX11_corner_111 rfl (lv_at hl 0 rfl) ?_
                    refine va_get (D := (dC, dI)) (ci := 9) (v := .ref (a 11)) (C := RX11) (T := TX11) (N := 55) hx hb hts inX11 hown hK hP 0 rfl rfl 11 (Nat.le_of_ble_eq_true rfl) (hts _ mw_1170) (fun _ h9 => h9) rfl dX11_corner_112 ?_
                    refine lv_iload_n hx hb dX11_corner_115 rfl (lv_at hl 1 rfl) ?_
                    refine z_iald hx hb hK hP 3 0 rfl rfl (e := f) rfl b9_2 (Nat.le_of_ble_eq_true rfl) dX11_corner_116 ?_
                    refine zz_i (v := nI n) (hm_f) ?_
                    refine lv_iadd hx hb dX11_corner_117 ?_
                    refine zz_i (v := nI (40 * f + n)) (nI_add (40 * f) n) ?_
                    refine lv_iload_n hx hb dX11_corner_118 rfl (lv_at hl 2 rfl) ?_
                    have b9_12 : 40 * f + n < 8040 := by omega
                    refine z_iast hx hb hK hP hD hS 5 0 rfl rfl (e := 40 * f + n) (x := px) rfl b9_12 (Nat.le_of_ble_eq_true rfl) dX11_corner_119 (fun H locs hP hD hS => ?_)
                    obtain ⟨hP, hD⟩ := zre (W2 := [_, _, _, _, _, (oa (a 12) cI 8040 (upd cx (40 * f + n) px)), _]) hP hD rfl
                    refine lv_aload_n hx hb dX11_corner_120 rfl (lv_at hl 0 rfl) ?_
                    refine va_get (D := (dC, dI)) (ci := 9) (v := .ref (a 13)) (C := RX11) (T := TX11) (N := 55) hx hb hts inX11 hown hK hP 0 rfl rfl 13 (Nat.le_of_ble_eq_true rfl) (hts _ mw_1172) (fun _ h9 => h9) rfl dX11_corner_121 ?_
                    refine lv_bipush (v := 40) hx hb dX11_corner_124 rfl ?_
                    refine lv_iload_n hx hb dX11_corner_126 rfl (lv_at hl 1 rfl) ?_
                    refine lv_imul hx hb dX11_corner_127 ?_
                    refine zz_i (v := nI (40 * f)) (pk_mul 40 f) ?_
                    refine lv_aload_n hx hb dX11_corner_128 rfl (lv_at hl 0 rfl) ?_
                    refine va_get (D := (dC, dI)) (ci := 9) (v := .ref (a 11)) (C := RX11) (T := TX11) (N := 55) hx hb hts inX11 hown hK hP 0 rfl rfl 11 (Nat.le_of_ble_eq_true rfl) (hts _ mw_1170) (fun _ h9 => h9) rfl dX11_corner_129 ?_
                    refine lv_iload_n hx hb dX11_corner_132 rfl (lv_at hl 1 rfl) ?_
                    refine z_iald hx hb hK hP 3 0 rfl rfl (e := f) rfl b9_2 (Nat.le_of_ble_eq_true rfl) dX11_corner_133 ?_
                    refine zz_i (v := nI n) (hm_f) ?_
                    refine lv_iadd hx hb dX11_corner_134 ?_
                    refine zz_i (v := nI (40 * f + n)) (nI_add (40 * f) n) ?_
                    refine lv_iload_n hx hb dX11_corner_135 rfl (lv_at hl 3 rfl) ?_
                    refine z_iast hx hb hK hP hD hS 6 0 rfl rfl (e := 40 * f + n) (x := py) rfl b9_12 (Nat.le_of_ble_eq_true rfl) dX11_corner_136 (fun H locs hP hD hS => ?_)
                    obtain ⟨hP, hD⟩ := zre (W2 := [_, _, _, _, _, _, (oa (a 13) cI 8040 (upd cy (40 * f + n) py))]) hP hD rfl
                    refine lv_aload_n hx hb dX11_corner_137 rfl (lv_at hl 0 rfl) ?_
                    refine va_get (D := (dC, dI)) (ci := 9) (v := .ref (a 11)) (C := RX11) (T := TX11) (N := 55) hx hb hts inX11 hown hK hP 0 rfl rfl 11 (Nat.le_of_ble_eq_true rfl) (hts _ mw_1170) (fun _ h9 => h9) rfl dX11_corner_138 ?_
                    refine lv_iload_n hx hb dX11_corner_141 rfl (lv_at hl 1 rfl) ?_
                    refine lv_dup2_11 hx hb dX11_corner_142 rfl rfl ?_
                    refine z_iald hx hb hK hP 3 0 rfl rfl (e := f) rfl b9_2 (Nat.le_of_ble_eq_true rfl) dX11_corner_143 ?_
                    refine zz_i (v := nI n) (hm_f) ?_
                    refine lv_iconst (v := 1) hx hb dX11_corner_144 rfl ?_
                    refine lv_iadd hx hb dX11_corner_145 ?_
                    refine zz_i (v := nI (n + 1)) (nI_add n 1) ?_
                    refine z_iast hx hb hK hP hD hS 3 0 rfl rfl (e := f) (x := nI (n + 1)) rfl b9_2 (Nat.le_of_ble_eq_true rfl) dX11_corner_146 (fun H locs hP hD hS => ?_)
                    obtain ⟨hP, hD⟩ := zre (W2 := [_, _, _, (oa (a 11) cI 201 (upd mn f (nI (n + 1)))), _, _, _]) hP hD rfl
                    refine lv_aload_n hx hb dX11_corner_147 rfl (lv_at hl 0 rfl) ?_
                    refine lv_iconst (v := 0) hx hb dX11_corner_148 rfl ?_
                    refine va_put (D := (dC, dI)) (ci := 9) (v := .int 0) (ty := .int) (C := RX11) (T := TX11) (N := 55) hx hb hts inX11 tyX11 tyX11_ok nmX11 hown hK hP hD hS 0 rfl rfl 14 (by decide) (hts _ mw_1173) (fun _ h9 => h9) rfl (by decide +kernel) rfl rfl (Nat.le_of_ble_eq_true rfl) dX11_corner_149 (fun H locs hP hD hS => ?_)
                    obtain ⟨hP, hD⟩ := zre (W2 := [(om k0 a (upd I0 14 0) J0), _, _, _, _, _, _]) hP hD rfl
                    refine lv_aload_n hx hb dX11_corner_152 rfl (lv_at hl 0 rfl) ?_
                    refine va_get (D := (dC, dI)) (ci := 9) (v := .ref (a 11)) (C := RX11) (T := TX11) (N := 55) hx hb hts inX11 hown hK hP 0 rfl rfl 11 (Nat.le_of_ble_eq_true rfl) (hts _ mw_1170) (fun _ h9 => h9) rfl dX11_corner_153 ?_
                    refine lv_iload_n hx hb dX11_corner_156 rfl (lv_at hl 1 rfl) ?_
                    refine z_iald hx hb hK hP 3 0 rfl rfl (e := f) rfl b9_2 (Nat.le_of_ble_eq_true rfl) dX11_corner_157 ?_
                    refine zz_i (v := nI (n + 1)) (up_at _ _ _) ?_
                    obtain ⟨hP9, hD9⟩ := zu_sub (wc := [_, _, _, _, _, _, _]) hP hD [true, true, true, true, true, true, true] rfl rfl
                    rw [hQ9]
                    exact W.iret (v := nI (n + 1)) hx hb hr (fun t ht hW => ⟨⟨rfl, by rw [ht]; exact hP9, hD9⟩, hS.F ht⟩) hS.2.2 dX11_corner_158
                  · have c_10 : ((n : Nat) : Int) = 40 := zc_eq (nI_toInt b9_11) rfl c_10
                    exfalso; omega
                · have c_9 : (kd f).toInt = 0 := zc_eq rfl rfl c_9
                  refine lv_iconst (v := 1) hx hb dX11_corner_87 rfl ?_
                  refine lv_goto (tgt := 93) hx hb dX11_corner_88 rfl ?_
                  have b9_14 : zlt (n) := show n < 2147483648 by omega
                  refine lv_icmp_ne (tgt := 103) hx hb dX11_corner_93 rfl (fun c_13 => ?_) (fun c_13 => ?_)
                  · have c_13 : ¬ ((n : Nat) : Int) = 1 := zc_ne (nI_toInt b9_14) rfl c_13
                    refine lv_aload_n hx hb dX11_corner_103 rfl (lv_at hl 0 rfl) ?_
                    refine va_get (D := (dC, dI)) (ci := 9) (v := .ref (a 12)) (C := RX11) (T := TX11) (N := 55) hx hb hts inX11 hown hK hP 0 rfl rfl 12 (Nat.le_of_ble_eq_true rfl) (hts _ mw_1171) (fun _ h9 => h9) rfl dX11_corner_104 ?_
                    refine lv_bipush (v := 40) hx hb dX11_corner_107 rfl ?_
                    refine lv_iload_n hx hb dX11_corner_109 rfl (lv_at hl 1 rfl) ?_
                    refine lv_imul hx hb dX11_corner_110 ?_
                    refine zz_i (v := nI (40 * f)) (pk_mul 40 f) ?_
                    refine lv_aload_n hx hb dX11_corner_111 rfl (lv_at hl 0 rfl) ?_
                    refine va_get (D := (dC, dI)) (ci := 9) (v := .ref (a 11)) (C := RX11) (T := TX11) (N := 55) hx hb hts inX11 hown hK hP 0 rfl rfl 11 (Nat.le_of_ble_eq_true rfl) (hts _ mw_1170) (fun _ h9 => h9) rfl dX11_corner_112 ?_
                    refine lv_iload_n hx hb dX11_corner_115 rfl (lv_at hl 1 rfl) ?_
                    refine z_iald hx hb hK hP 3 0 rfl rfl (e := f) rfl b9_2 (Nat.le_of_ble_eq_true rfl) dX11_corner_116 ?_
                    refine zz_i (v := nI n) (hm_f) ?_
                    refine lv_iadd hx hb dX11_corner_117 ?_
                    refine zz_i (v := nI (40 * f + n)) (nI_add (40 * f) n) ?_
                    refine lv_iload_n hx hb dX11_corner_118 rfl (lv_at hl 2 rfl) ?_
                    have b9_15 : 40 * f + n < 8040 := by omega
                    refine z_iast hx hb hK hP hD hS 5 0 rfl rfl (e := 40 * f + n) (x := px) rfl b9_15 (Nat.le_of_ble_eq_true rfl) dX11_corner_119 (fun H locs hP hD hS => ?_)
                    obtain ⟨hP, hD⟩ := zre (W2 := [_, _, _, _, _, (oa (a 12) cI 8040 (upd cx (40 * f + n) px)), _]) hP hD rfl
                    refine lv_aload_n hx hb dX11_corner_120 rfl (lv_at hl 0 rfl) ?_
                    refine va_get (D := (dC, dI)) (ci := 9) (v := .ref (a 13)) (C := RX11) (T := TX11) (N := 55) hx hb hts inX11 hown hK hP 0 rfl rfl 13 (Nat.le_of_ble_eq_true rfl) (hts _ mw_1172) (fun _ h9 => h9) rfl dX11_corner_121 ?_
                    refine lv_bipush (v := 40) hx hb dX11_corner_124 rfl ?_
                    refine lv_iload_n hx hb dX11_corner_126 rfl (lv_at hl 1 rfl) ?_
                    refine lv_imul hx hb dX11_corner_127 ?_
                    refine zz_i (v := nI (40 * f)) (pk_mul 40 f) ?_
                    refine lv_aload_n hx hb dX11_corner_128 rfl (lv_at hl 0 rfl) ?_
                    refine va_get (D := (dC, dI)) (ci := 9) (v := .ref (a 11)) (C := RX11) (T := TX11) (N := 55) hx hb hts inX11 hown hK hP 0 rfl rfl 11 (Nat.le_of_ble_eq_true rfl) (hts _ mw_1170) (fun _ h9 => h9) rfl dX11_corner_129 ?_
                    refine lv_iload_n hx hb dX11_corner_132 rfl (lv_at hl 1 rfl) ?_
                    refine z_iald hx hb hK hP 3 0 rfl rfl (e := f) rfl b9_2 (Nat.le_of_ble_eq_true rfl) dX11_corner_133 ?_
                    refine zz_i (v := nI n) (hm_f) ?_
                    refine lv_iadd hx hb dX11_corner_134 ?_
                    refine zz_i (v := nI (40 * f + n)) (nI_add (40 * f) n) ?_
                    refine lv_iload_n hx hb dX11_corner_135 rfl (lv_at hl 3 rfl) ?_
                    refine z_iast hx hb hK hP hD hS 6 0 rfl rfl (e := 40 * f + n) (x := py) rfl b9_15 (Nat.le_of_ble_eq_true rfl) dX11_corner_136 (fun H locs hP hD hS => ?_)
                    obtain ⟨hP, hD⟩ := zre (W2 := [_, _, _, _, _, _, (oa (a 13) cI 8040 (upd cy (40 * f + n) py))]) hP hD rfl
                    refine lv_aload_n hx hb dX11_corner_137 rfl (lv_at hl 0 rfl) ?_
                    refine va_get (D := (dC, dI)) (ci := 9) (v := .ref (a 11)) (C := RX11) (T := TX11) (N := 55) hx hb hts inX11 hown hK hP 0 rfl rfl 11 (Nat.le_of_ble_eq_true rfl) (hts _ mw_1170) (fun _ h9 => h9) rfl dX11_corner_138 ?_
                    refine lv_iload_n hx hb dX11_corner_141 rfl (lv_at hl 1 rfl) ?_
                    refine lv_dup2_11 hx hb dX11_corner_142 rfl rfl ?_
                    refine z_iald hx hb hK hP 3 0 rfl rfl (e := f) rfl b9_2 (Nat.le_of_ble_eq_true rfl) dX11_corner_143 ?_
                    refine zz_i (v := nI n) (hm_f) ?_
                    refine lv_iconst (v := 1) hx hb dX11_corner_144 rfl ?_
                    refine lv_iadd hx hb dX11_corner_145 ?_
                    refine zz_i (v := nI (n + 1)) (nI_add n 1) ?_
                    refine z_iast hx hb hK hP hD hS 3 0 rfl rfl (e := f) (x := nI (n + 1)) rfl b9_2 (Nat.le_of_ble_eq_true rfl) dX11_corner_146 (fun H locs hP hD hS => ?_)
                    obtain ⟨hP, hD⟩ := zre (W2 := [_, _, _, (oa (a 11) cI 201 (upd mn f (nI (n + 1)))), _, _, _]) hP hD rfl
                    refine lv_aload_n hx hb dX11_corner_147 rfl (lv_at hl 0 rfl) ?_
                    refine lv_iconst (v := 0) hx hb dX11_corner_148 rfl ?_
                    refine va_put (D := (dC, dI)) (ci := 9) (v := .int 0) (ty := .int) (C := RX11) (T := TX11) (N := 55) hx hb hts inX11 tyX11 tyX11_ok nmX11 hown hK hP hD hS 0 rfl rfl 14 (by decide) (hts _ mw_1173) (fun _ h9 => h9) rfl (by decide +kernel) rfl rfl (Nat.le_of_ble_eq_true rfl) dX11_corner_149 (fun H locs hP hD hS => ?_)
                    obtain ⟨hP, hD⟩ := zre (W2 := [(om k0 a (upd I0 14 0) J0), _, _, _, _, _, _]) hP hD rfl
                    refine lv_aload_n hx hb dX11_corner_152 rfl (lv_at hl 0 rfl) ?_
                    refine va_get (D := (dC, dI)) (ci := 9) (v := .ref (a 11)) (C := RX11) (T := TX11) (N := 55) hx hb hts inX11 hown hK hP 0 rfl rfl 11 (Nat.le_of_ble_eq_true rfl) (hts _ mw_1170) (fun _ h9 => h9) rfl dX11_corner_153 ?_
                    refine lv_iload_n hx hb dX11_corner_156 rfl (lv_at hl 1 rfl) ?_
                    refine z_iald hx hb hK hP 3 0 rfl rfl (e := f) rfl b9_2 (Nat.le_of_ble_eq_true rfl) dX11_corner_157 ?_
                    refine zz_i (v := nI (n + 1)) (up_at _ _ _) ?_
                    obtain ⟨hP9, hD9⟩ := zu_sub (wc := [_, _, _, _, _, _, _]) hP hD [true, true, true, true, true, true, true] rfl rfl
                    rw [hQ9]
                    exact W.iret (v := nI (n + 1)) hx hb hr (fun t ht hW => ⟨⟨rfl, by rw [ht]; exact hP9, hD9⟩, hS.F ht⟩) hS.2.2 dX11_corner_158
                  · have c_13 : ((n : Nat) : Int) = 1 := zc_eq (nI_toInt b9_14) rfl c_13
                    exfalso; omega
              · have c_8 : ¬ (tn f).toInt = 0 := zc_ne rfl rfl c_8
                exfalso; omega
            · have c_7 : 1000 < py.toInt := zc_nle rfl rfl c_7
              exfalso; omega
    · have c_3 : ¬ (st f).toInt = 0 := zc_ne rfl rfl c_3
      exfalso; omega
  · have c_1 : ¬ (f < ft) := zp_0 c_1
    exfalso; omega
set_option maxHeartbeats 4000000 in
set_option maxRecDepth 100000 in
theorem k_M_tear_r (l : Launch) (dC : Nat → ClassId) (dI : Nat → Nat → Nat) (cI cZ cF : ClassId) (sz : Nat) (k0 : Nat) (a : Nat → Nat) (I0 : Nat → Int32) (J0 : Nat → Int64) (f : Nat) (ft : Nat) (st : Nat → Int32) (tn : Nat → Int32) (hft : I0 0 = nI ft) (h200 : ft ≤ 200) (hf_t : f < ft) (hbad : ¬ (¬ (st f).toInt = 2 ∧ (tn f).toInt = 0)) : zM l yX11_tear cX11_tear 2 (some .boolean) ({ frames := 2, cells := 0, slots := 0, locals := 42 } : Room) [.ref k0, .int (nI f)] (dC, dI) (zTy cI cZ cF) [(om k0 a I0 J0), (oa (a 5) cI 201 st), (oa (a 6) cZ 201 tn)] sz (some (.int 0)) (fun A t => ∃ (z9 : Int32), zPD (dC, dI) classes A [(om k0 a (upd (upd I0 14 z9) 15 (I0 15)) J0), (oa (a 5) cI 201 st), (oa (a 6) cZ 201 tn)] t.heap) 0 0 := by
  refine zIn (own := "ScaleShopModel") (loc := [(0, .ref k0), (1, .int (nI f))]) rfl rfl rfl rfl (fun p e s m below meth c hx hb hr hts hown hlocks hml hnm9 A hA hS hP hD hK hXN Q9 hQ9 ls hl => ?_)
  refine lv_aload_n hx hb dX11_tear_0 rfl (lv_at hl 0 rfl) ?_
  refine lv_iload_n hx hb dX11_tear_1 rfl (lv_at hl 1 rfl) ?_
  obtain ⟨hPc, hDc, hFc, hI1⟩ := zi_sub (wc := [_]) hP hD hS hA [0] rfl rfl
  refine zcall (st1 := [.int (pI (f < ft))]) (va_runV (As := [.int (nI f)]) (rest := []) ⟨hx, hb, hml, hown, hts⟩ (k_M_isFeature_n l dC dI cI cZ cF s.heap.size k0 a I0 J0 f ft (by first | with_reducible assumption | assumption) (by first | with_reducible assumption | omega) (by first | with_reducible assumption | omega)) (csV_178 hts rfl rfl ⟨Nat.le_of_ble_eq_true rfl, Nat.le_of_ble_eq_true rfl⟩) (zPV2 (q0 := 0) (ci := 9) hPc hDc hK hXN rfl rfl) rfl rfl hl.1 rfl (lv_room (Nat.le_of_ble_eq_true rfl)) dX11_tear_2 ⟨Nat.le_of_ble_eq_true rfl, Nat.le_of_ble_eq_true rfl⟩) hS hFc hFc rfl (fun t H locs ht hB hk1 hS => ?_)
  obtain ⟨hP1, hD1⟩ := hB
  rw [ht] at hP1
  replace hP := z0 hP hD hk1 hP1 hI1
  clear hk1 hPc hDc hFc hP1 hD1 ht hI1
  refine lv_if_ne (tgt := 14) hx hb dX11_tear_5 rfl (fun c_1 => ?_) (fun c_1 => ?_)
  · have c_1 : f < ft := zp_1 c_1
    refine lv_aload_n hx hb dX11_tear_14 rfl (lv_at hl 0 rfl) ?_
    refine va_get (D := (dC, dI)) (ci := 9) (v := .ref (a 5)) (C := RX11) (T := TX11) (N := 55) hx hb hts inX11 hown hK hP 0 rfl rfl 5 (Nat.le_of_ble_eq_true rfl) (hts _ mw_1164) (fun _ h9 => h9) rfl dX11_tear_15 ?_
    refine lv_iload_n hx hb dX11_tear_18 rfl (lv_at hl 1 rfl) ?_
    have b9_2 : f < 201 := by omega
    refine z_iald hx hb hK hP 1 0 rfl rfl (e := f) rfl b9_2 (Nat.le_of_ble_eq_true rfl) dX11_tear_19 ?_
    refine lv_iconst (v := 2) hx hb dX11_tear_20 rfl ?_
    refine lv_icmp_ne (tgt := 30) hx hb dX11_tear_21 rfl (fun c_3 => ?_) (fun c_3 => ?_)
    · have c_3 : ¬ (st f).toInt = 2 := zc_ne rfl rfl c_3
      refine lv_aload_n hx hb dX11_tear_30 rfl (lv_at hl 0 rfl) ?_
      refine va_get (D := (dC, dI)) (ci := 9) (v := .ref (a 6)) (C := RX11) (T := TX11) (N := 55) hx hb hts inX11 hown hK hP 0 rfl rfl 6 (Nat.le_of_ble_eq_true rfl) (hts _ mw_1165) (fun _ h9 => h9) rfl dX11_tear_31 ?_
      refine lv_iload_n hx hb dX11_tear_34 rfl (lv_at hl 1 rfl) ?_
      refine z_zald hx hb hK hP 2 1 rfl rfl (e := f) rfl b9_2 (Nat.le_of_ble_eq_true rfl) dX11_tear_35 ?_
      refine lv_if_eq (tgt := 45) hx hb dX11_tear_36 rfl (fun c_4 => ?_) (fun c_4 => ?_)
      · have c_4 : (tn f).toInt = 0 := zc_eq rfl rfl c_4
        exfalso; omega
      · have c_4 : ¬ (tn f).toInt = 0 := zc_ne rfl rfl c_4
        refine lv_aload_n hx hb dX11_tear_39 rfl (lv_at hl 0 rfl) ?_
        refine lv_iconst (v := 5) hx hb dX11_tear_40 rfl ?_
        obtain ⟨hPc, hDc, hFc⟩ := zo_sub (wc := [_]) hP hD hS hA [0] rfl rfl
        refine zcall (st1 := [.int 0]) (va_runV (As := [.int 5]) (rest := []) ⟨hx, hb, hml, hown, hts⟩ (k_M_no l dC dI cI cZ cF H.size k0 a I0 J0 5 (by decide)) (csV_198 hts rfl rfl ⟨Nat.le_of_ble_eq_true rfl, Nat.le_of_ble_eq_true rfl⟩) (zPV2 (q0 := 0) (ci := 9) hPc hDc hK hXN rfl rfl) rfl rfl hl.1 rfl (lv_room (Nat.le_of_ble_eq_true rfl)) dX11_tear_41 ⟨Nat.le_of_ble_eq_true rfl, Nat.le_of_ble_eq_true rfl⟩) hS hFc hFc rfl (fun t H locs ht hB hk1 hS => ?_)
        obtain ⟨hP1, hD1⟩ := hB
        rw [ht] at hP1
        obtain ⟨hP, hD⟩ := zn (W2 := [(om k0 a (upd (upd I0 14 5) 15 (I0 15)) J0), _, _]) hP hD hk1 hFc hP1 hD1 [0] [false, true, true] [false, true, true] [0] (by decide +kernel) rfl rfl rfl rfl rfl
        clear hk1 hPc hDc hFc hP1 hD1 ht
        obtain ⟨hP9, hD9⟩ := zu_sub (wc := [_, _, _]) hP hD [true, true, true] rfl rfl
        rw [hQ9]
        exact W.zret (ty := .boolean) (v := 0) hx hb hr (rfl) (fun t ht hW => ⟨⟨rfl, 5, by rw [ht]; exact hP9, hD9⟩, hS.F ht⟩) hS.2.2 dX11_tear_44
    · have c_3 : (st f).toInt = 2 := zc_eq rfl rfl c_3
      refine lv_aload_n hx hb dX11_tear_24 rfl (lv_at hl 0 rfl) ?_
      refine lv_iconst (v := 2) hx hb dX11_tear_25 rfl ?_
      obtain ⟨hPc, hDc, hFc⟩ := zo_sub (wc := [_]) hP hD hS hA [0] rfl rfl
      refine zcall (st1 := [.int 0]) (va_runV (As := [.int 2]) (rest := []) ⟨hx, hb, hml, hown, hts⟩ (k_M_no l dC dI cI cZ cF H.size k0 a I0 J0 2 (by decide)) (csV_198 hts rfl rfl ⟨Nat.le_of_ble_eq_true rfl, Nat.le_of_ble_eq_true rfl⟩) (zPV2 (q0 := 0) (ci := 9) hPc hDc hK hXN rfl rfl) rfl rfl hl.1 rfl (lv_room (Nat.le_of_ble_eq_true rfl)) dX11_tear_26 ⟨Nat.le_of_ble_eq_true rfl, Nat.le_of_ble_eq_true rfl⟩) hS hFc hFc rfl (fun t H locs ht hB hk1 hS => ?_)
      obtain ⟨hP1, hD1⟩ := hB
      rw [ht] at hP1
      obtain ⟨hP, hD⟩ := zn (W2 := [(om k0 a (upd (upd I0 14 2) 15 (I0 15)) J0), _, _]) hP hD hk1 hFc hP1 hD1 [0] [false, true, true] [false, true, true] [0] (by decide +kernel) rfl rfl rfl rfl rfl
      clear hk1 hPc hDc hFc hP1 hD1 ht
      obtain ⟨hP9, hD9⟩ := zu_sub (wc := [_, _, _]) hP hD [true, true, true] rfl rfl
      rw [hQ9]
      exact W.zret (ty := .boolean) (v := 0) hx hb hr (rfl) (fun t ht hW => ⟨⟨rfl, 2, by rw [ht]; exact hP9, hD9⟩, hS.F ht⟩) hS.2.2 dX11_tear_29
  · have c_1 : ¬ (f < ft) := zp_0 c_1
    exfalso; omega
set_option maxHeartbeats 4000000 in
set_option maxRecDepth 100000 in
theorem k_M_tear_ok (l : Launch) (dC : Nat → ClassId) (dI : Nat → Nat → Nat) (cI cZ cF : ClassId) (sz : Nat) (k0 : Nat) (a : Nat → Nat) (I0 : Nat → Int32) (J0 : Nat → Int64) (f : Nat) (ft : Nat) (st : Nat → Int32) (tn : Nat → Int32) (mn : Nat → Int32) (sa : Nat → Int32) (hft : I0 0 = nI ft) (h200 : ft ≤ 200) (hf_t : f < ft) (hgood : ¬ (st f).toInt = 2 ∧ (tn f).toInt = 0) : zM l yX11_tear cX11_tear 2 (some .boolean) ({ frames := 1, cells := 0, slots := 0, locals := 21 } : Room) [.ref k0, .int (nI f)] (dC, dI) (zTy cI cZ cF) [(om k0 a I0 J0), (oa (a 5) cI 201 st), (oa (a 6) cZ 201 tn), (oa (a 11) cI 201 mn), (oa (a 27) cI 516 sa)] sz (some (.int 1)) (fun A t => zPD (dC, dI) classes A [(om k0 a (upd (upd (upd I0 14 0) 20 0) 21 (I0 19)) J0), (oa (a 5) cI 201 st), (oa (a 6) cZ 201 (upd tn f 1)), (oa (a 11) cI 201 (upd mn f 0)), (oa (a 27) cI 516 (upd sa 0 0))] t.heap) 0 0 := by
  refine zIn (own := "ScaleShopModel") (loc := [(0, .ref k0), (1, .int (nI f))]) rfl rfl rfl rfl (fun p e s m below meth c hx hb hr hts hown hlocks hml hnm9 A hA hS hP hD hK hXN Q9 hQ9 ls hl => ?_)
  refine lv_aload_n hx hb dX11_tear_0 rfl (lv_at hl 0 rfl) ?_
  refine lv_iload_n hx hb dX11_tear_1 rfl (lv_at hl 1 rfl) ?_
  obtain ⟨hPc, hDc, hFc, hI1⟩ := zi_sub (wc := [_]) hP hD hS hA [0] rfl rfl
  refine zcall (st1 := [.int (pI (f < ft))]) (va_runV (As := [.int (nI f)]) (rest := []) ⟨hx, hb, hml, hown, hts⟩ (k_M_isFeature_n l dC dI cI cZ cF s.heap.size k0 a I0 J0 f ft (by first | with_reducible assumption | assumption) (by first | with_reducible assumption | omega) (by first | with_reducible assumption | omega)) (csV_178 hts rfl rfl ⟨Nat.le_of_ble_eq_true rfl, Nat.le_of_ble_eq_true rfl⟩) (zPV2 (q0 := 0) (ci := 9) hPc hDc hK hXN rfl rfl) rfl rfl hl.1 rfl (lv_room (Nat.le_of_ble_eq_true rfl)) dX11_tear_2 ⟨Nat.le_of_ble_eq_true rfl, Nat.le_of_ble_eq_true rfl⟩) hS hFc hFc rfl (fun t H locs ht hB hk1 hS => ?_)
  obtain ⟨hP1, hD1⟩ := hB
  rw [ht] at hP1
  replace hP := z0 hP hD hk1 hP1 hI1
  clear hk1 hPc hDc hFc hP1 hD1 ht hI1
  refine lv_if_ne (tgt := 14) hx hb dX11_tear_5 rfl (fun c_1 => ?_) (fun c_1 => ?_)
  · have c_1 : f < ft := zp_1 c_1
    refine lv_aload_n hx hb dX11_tear_14 rfl (lv_at hl 0 rfl) ?_
    refine va_get (D := (dC, dI)) (ci := 9) (v := .ref (a 5)) (C := RX11) (T := TX11) (N := 55) hx hb hts inX11 hown hK hP 0 rfl rfl 5 (Nat.le_of_ble_eq_true rfl) (hts _ mw_1164) (fun _ h9 => h9) rfl dX11_tear_15 ?_
    refine lv_iload_n hx hb dX11_tear_18 rfl (lv_at hl 1 rfl) ?_
    have b9_2 : f < 201 := by omega
    refine z_iald hx hb hK hP 1 0 rfl rfl (e := f) rfl b9_2 (Nat.le_of_ble_eq_true rfl) dX11_tear_19 ?_
    refine lv_iconst (v := 2) hx hb dX11_tear_20 rfl ?_
    refine lv_icmp_ne (tgt := 30) hx hb dX11_tear_21 rfl (fun c_3 => ?_) (fun c_3 => ?_)
    · have c_3 : ¬ (st f).toInt = 2 := zc_ne rfl rfl c_3
      refine lv_aload_n hx hb dX11_tear_30 rfl (lv_at hl 0 rfl) ?_
      refine va_get (D := (dC, dI)) (ci := 9) (v := .ref (a 6)) (C := RX11) (T := TX11) (N := 55) hx hb hts inX11 hown hK hP 0 rfl rfl 6 (Nat.le_of_ble_eq_true rfl) (hts _ mw_1165) (fun _ h9 => h9) rfl dX11_tear_31 ?_
      refine lv_iload_n hx hb dX11_tear_34 rfl (lv_at hl 1 rfl) ?_
      refine z_zald hx hb hK hP 2 1 rfl rfl (e := f) rfl b9_2 (Nat.le_of_ble_eq_true rfl) dX11_tear_35 ?_
      refine lv_if_eq (tgt := 45) hx hb dX11_tear_36 rfl (fun c_4 => ?_) (fun c_4 => ?_)
      · have c_4 : (tn f).toInt = 0 := zc_eq rfl rfl c_4
        refine lv_aload_n hx hb dX11_tear_45 rfl (lv_at hl 0 rfl) ?_
        refine va_get (D := (dC, dI)) (ci := 9) (v := .ref (a 6)) (C := RX11) (T := TX11) (N := 55) hx hb hts inX11 hown hK hP 0 rfl rfl 6 (Nat.le_of_ble_eq_true rfl) (hts _ mw_1165) (fun _ h9 => h9) rfl dX11_tear_46 ?_
        refine lv_iload_n hx hb dX11_tear_49 rfl (lv_at hl 1 rfl) ?_
        refine lv_iconst (v := 1) hx hb dX11_tear_50 rfl ?_
        refine z_zast hx hb hK hP hD hS 2 1 rfl rfl (e := f) (x := 1) rfl b9_2 (Nat.le_of_ble_eq_true rfl) (by decide) dX11_tear_51 (fun H locs hP hD hS => ?_)
        obtain ⟨hP, hD⟩ := zre (W2 := [_, _, (oa (a 6) cZ 201 (upd tn f 1)), _, _]) hP hD rfl
        refine lv_aload_n hx hb dX11_tear_52 rfl (lv_at hl 0 rfl) ?_
        refine va_get (D := (dC, dI)) (ci := 9) (v := .ref (a 11)) (C := RX11) (T := TX11) (N := 55) hx hb hts inX11 hown hK hP 0 rfl rfl 11 (Nat.le_of_ble_eq_true rfl) (hts _ mw_1170) (fun _ h9 => h9) rfl dX11_tear_53 ?_
        refine lv_iload_n hx hb dX11_tear_56 rfl (lv_at hl 1 rfl) ?_
        refine lv_iconst (v := 0) hx hb dX11_tear_57 rfl ?_
        refine z_iast hx hb hK hP hD hS 3 0 rfl rfl (e := f) (x := 0) rfl b9_2 (Nat.le_of_ble_eq_true rfl) dX11_tear_58 (fun H locs hP hD hS => ?_)
        obtain ⟨hP, hD⟩ := zre (W2 := [_, _, _, (oa (a 11) cI 201 (upd mn f 0)), _]) hP hD rfl
        refine lv_aload_n hx hb dX11_tear_59 rfl (lv_at hl 0 rfl) ?_
        obtain ⟨hPc, hDc, hFc⟩ := zo_sub (wc := [_, _]) hP hD hS hA [0, 4] rfl rfl
        refine zcall (st1 := []) (va_runV (As := []) (rest := []) ⟨hx, hb, hml, hown, hts⟩ (k_M_settle l dC dI cI cZ cF H.size k0 a I0 J0 sa ) (csV_197 hts rfl rfl ⟨Nat.le_of_ble_eq_true rfl, Nat.le_of_ble_eq_true rfl⟩) (zPV2 (q0 := 0) (ci := 9) hPc hDc hK hXN rfl rfl) rfl rfl hl.1 rfl (lv_room (Nat.le_of_ble_eq_true rfl)) dX11_tear_60 ⟨Nat.le_of_ble_eq_true rfl, Nat.le_of_ble_eq_true rfl⟩) hS hFc hFc rfl (fun t H locs ht hB hk1 hS => ?_)
        obtain ⟨hP1, hD1⟩ := hB
        rw [ht] at hP1
        obtain ⟨hP, hD⟩ := zn (W2 := [(om k0 a (upd (upd I0 20 0) 21 (I0 19)) J0), _, _, _, (oa (a 27) cI 516 (upd sa 0 0))]) hP hD hk1 hFc hP1 hD1 [0, 4] [false, true, true, true] [false, true, true, true, false] [0, 4] (by decide +kernel) rfl rfl rfl rfl rfl
        clear hk1 hPc hDc hFc hP1 hD1 ht
        refine lv_aload_n hx hb dX11_tear_63 rfl (lv_at hl 0 rfl) ?_
        refine lv_iconst (v := 0) hx hb dX11_tear_64 rfl ?_
        refine va_put (D := (dC, dI)) (ci := 9) (v := .int 0) (ty := .int) (C := RX11) (T := TX11) (N := 55) hx hb hts inX11 tyX11 tyX11_ok nmX11 hown hK hP hD hS 0 rfl rfl 14 (by decide) (hts _ mw_1173) (fun _ h9 => h9) rfl (by decide +kernel) rfl rfl (Nat.le_of_ble_eq_true rfl) dX11_tear_65 (fun H locs hP hD hS => ?_)
        obtain ⟨hP, hD⟩ := zre (W2 := [(om k0 a (upd (upd (upd I0 14 0) 20 0) 21 (I0 19)) J0), _, _, _, _]) hP hD rfl
        refine lv_iconst (v := 1) hx hb dX11_tear_68 rfl ?_
        obtain ⟨hP9, hD9⟩ := zu_sub (wc := [_, _, _, _, _]) hP hD [true, true, true, true, true] rfl rfl
        rw [hQ9]
        exact W.zret (ty := .boolean) (v := 1) hx hb hr (rfl) (fun t ht hW => ⟨⟨rfl, by rw [ht]; exact hP9, hD9⟩, hS.F ht⟩) hS.2.2 dX11_tear_69
      · have c_4 : ¬ (tn f).toInt = 0 := zc_ne rfl rfl c_4
        exfalso; omega
    · have c_3 : (st f).toInt = 2 := zc_eq rfl rfl c_3
      exfalso; omega
  · have c_1 : ¬ (f < ft) := zp_0 c_1
    exfalso; omega
set_option maxHeartbeats 4000000 in
set_option maxRecDepth 100000 in
theorem k_M_done_r (l : Launch) (dC : Nat → ClassId) (dI : Nat → Nat → Nat) (cI cZ cF : ClassId) (sz : Nat) (k0 : Nat) (a : Nat → Nat) (I0 : Nat → Int32) (J0 : Nat → Int64) (f : Nat) (n : Nat) (ft : Nat) (st : Nat → Int32) (tn : Nat → Int32) (kd : Nat → Int32) (mn : Nat → Int32) (cx : Nat → Int32) (cy : Nat → Int32) (S0 : Nat → Int32) (hft : I0 0 = nI ft) (h200 : ft ≤ 200) (hf_t : f < ft) (hm_f : mn f = nI n) (hn_f : n ≤ 40) (hp_f : (st f).toInt = 0 → (tn f).toInt = 0 → pls n (cF40 cx f) (cF40 cy f)) (hbad : ¬ ((st f).toInt = 0 ∧ (tn f).toInt = 0 ∧ mSm (kd f).toInt n (cF40 cx f) (cF40 cy f))) : zM l yX11_done cX11_done 2 (some .boolean) ({ frames := 5, cells := 0, slots := 0, locals := 131 } : Room) [.ref k0, .int (nI f)] (dC, dI) (zTy cI cZ cF) [(om k0 a I0 J0), (oa (a 5) cI 201 st), (oa (a 6) cZ 201 tn), (oa (a 1) cI 201 kd), (oa (a 11) cI 201 mn), (oa (a 12) cI 8040 cx), (oa (a 13) cI 8040 cy), (oa (a 32) cI 8 S0)] sz (some (.int 0)) (fun A t => ∃ (z9 : Int32), ∃ (S1 : Nat → Int32), zPD (dC, dI) classes A [(om k0 a (upd (upd I0 14 z9) 15 (I0 15)) J0), (oa (a 5) cI 201 st), (oa (a 6) cZ 201 tn), (oa (a 1) cI 201 kd), (oa (a 11) cI 201 mn), (oa (a 12) cI 8040 cx), (oa (a 13) cI 8040 cy), (oa (a 32) cI 8 S1)] t.heap) 0 0 := by
  refine zIn (own := "ScaleShopModel") (loc := [(0, .ref k0), (1, .int (nI f))]) rfl rfl rfl rfl (fun p e s m below meth c hx hb hr hts hown hlocks hml hnm9 A hA hS hP hD hK hXN Q9 hQ9 ls hl => ?_)
  refine lv_aload_n hx hb dX11_done_0 rfl (lv_at hl 0 rfl) ?_
  refine lv_iload_n hx hb dX11_done_1 rfl (lv_at hl 1 rfl) ?_
  obtain ⟨hPc, hDc, hFc, hI1⟩ := zi_sub (wc := [_]) hP hD hS hA [0] rfl rfl
  refine zcall (st1 := [.int (pI (f < ft))]) (va_runV (As := [.int (nI f)]) (rest := []) ⟨hx, hb, hml, hown, hts⟩ (k_M_isFeature_n l dC dI cI cZ cF s.heap.size k0 a I0 J0 f ft (by first | with_reducible assumption | assumption) (by first | with_reducible assumption | omega) (by first | with_reducible assumption | omega)) (csV_178 hts rfl rfl ⟨Nat.le_of_ble_eq_true rfl, Nat.le_of_ble_eq_true rfl⟩) (zPV2 (q0 := 0) (ci := 9) hPc hDc hK hXN rfl rfl) rfl rfl hl.1 rfl (lv_room (Nat.le_of_ble_eq_true rfl)) dX11_done_2 ⟨Nat.le_of_ble_eq_true rfl, Nat.le_of_ble_eq_true rfl⟩) hS hFc hFc rfl (fun t H locs ht hB hk1 hS => ?_)
  obtain ⟨hP1, hD1⟩ := hB
  rw [ht] at hP1
  replace hP := z0 hP hD hk1 hP1 hI1
  clear hk1 hPc hDc hFc hP1 hD1 ht hI1
  refine lv_if_ne (tgt := 14) hx hb dX11_done_5 rfl (fun c_1 => ?_) (fun c_1 => ?_)
  · have c_1 : f < ft := zp_1 c_1
    refine lv_aload_n hx hb dX11_done_14 rfl (lv_at hl 0 rfl) ?_
    refine va_get (D := (dC, dI)) (ci := 9) (v := .ref (a 5)) (C := RX11) (T := TX11) (N := 55) hx hb hts inX11 hown hK hP 0 rfl rfl 5 (Nat.le_of_ble_eq_true rfl) (hts _ mw_1164) (fun _ h9 => h9) rfl dX11_done_15 ?_
    refine lv_iload_n hx hb dX11_done_18 rfl (lv_at hl 1 rfl) ?_
    have b9_2 : f < 201 := by omega
    refine z_iald hx hb hK hP 1 0 rfl rfl (e := f) rfl b9_2 (Nat.le_of_ble_eq_true rfl) dX11_done_19 ?_
    refine lv_if_eq (tgt := 29) hx hb dX11_done_20 rfl (fun c_3 => ?_) (fun c_3 => ?_)
    · have c_3 : (st f).toInt = 0 := zc_eq rfl rfl c_3
      refine lv_aload_n hx hb dX11_done_29 rfl (lv_at hl 0 rfl) ?_
      refine va_get (D := (dC, dI)) (ci := 9) (v := .ref (a 6)) (C := RX11) (T := TX11) (N := 55) hx hb hts inX11 hown hK hP 0 rfl rfl 6 (Nat.le_of_ble_eq_true rfl) (hts _ mw_1165) (fun _ h9 => h9) rfl dX11_done_30 ?_
      refine lv_iload_n hx hb dX11_done_33 rfl (lv_at hl 1 rfl) ?_
      refine z_zald hx hb hK hP 2 1 rfl rfl (e := f) rfl b9_2 (Nat.le_of_ble_eq_true rfl) dX11_done_34 ?_
      refine lv_if_eq (tgt := 44) hx hb dX11_done_35 rfl (fun c_4 => ?_) (fun c_4 => ?_)
      · have c_4 : (tn f).toInt = 0 := zc_eq rfl rfl c_4
        refine lv_aload_n hx hb dX11_done_44 rfl (lv_at hl 0 rfl) ?_
        refine lv_iload_n hx hb dX11_done_45 rfl (lv_at hl 1 rfl) ?_
        obtain ⟨hPc, hDc, hFc⟩ := zo_sub (wc := [_, _, _, _, _, _]) hP hD hS hA [0, 3, 4, 5, 6, 7] (by decide +kernel) rfl
        refine zcall (st1 := [.int (pI (mSm (kd f).toInt n (cF40 cx f) (cF40 cy f)))]) (va_runV (As := [.int (nI f)]) (rest := []) ⟨hx, hb, hml, hown, hts⟩ (k_M_isSimple l dC dI cI cZ cF H.size k0 a I0 J0 f n kd mn cx cy S0 (by first | with_reducible assumption | omega) (by first | with_reducible assumption | assumption) (hp_f (by first | with_reducible assumption | omega) (by first | with_reducible assumption | omega)) (by first | with_reducible assumption | omega)) (csV_187 hts rfl rfl ⟨Nat.le_of_ble_eq_true rfl, Nat.le_of_ble_eq_true rfl⟩) (zPV2 (q0 := 0) (ci := 9) hPc hDc hK hXN rfl rfl) rfl rfl hl.1 rfl (lv_room (Nat.le_of_ble_eq_true rfl)) dX11_done_46 ⟨Nat.le_of_ble_eq_true rfl, Nat.le_of_ble_eq_true rfl⟩) hS hFc hFc rfl (fun t H locs ht hB hk1 hS => ?_)
        obtain ⟨q_5, hP1, hD1⟩ := hB
        rw [ht] at hP1
        obtain ⟨hP, hD⟩ := zn (W2 := [_, _, _, _, _, _, _, (oa (a 32) cI 8 q_5)]) hP hD hk1 hFc hP1 hD1 [0, 3, 4, 5, 6, 7] [false, true, true] zl_146 [0, 3, 4, 5, 6, 7] (by decide +kernel) rfl rfl rfl rfl rfl
        clear hk1 hPc hDc hFc hP1 hD1 ht
        refine lv_if_ne (tgt := 59) hx hb dX11_done_49 rfl (fun c_6 => ?_) (fun c_6 => ?_)
        · have c_6 : mSm (kd f).toInt n (cF40 cx f) (cF40 cy f) := zp_1 c_6
          exact absurd ⟨by omega, by omega, by assumption⟩ hbad
        · have c_6 : ¬ (mSm (kd f).toInt n (cF40 cx f) (cF40 cy f)) := zp_0 c_6
          refine lv_aload_n hx hb dX11_done_52 rfl (lv_at hl 0 rfl) ?_
          refine lv_bipush (v := 6) hx hb dX11_done_53 rfl ?_
          obtain ⟨hPc, hDc, hFc⟩ := zo_sub (wc := [_]) hP hD hS hA [0] rfl rfl
          refine zcall (st1 := [.int 0]) (va_runV (As := [.int 6]) (rest := []) ⟨hx, hb, hml, hown, hts⟩ (k_M_no l dC dI cI cZ cF H.size k0 a I0 J0 6 (by decide)) (csV_198 hts rfl rfl ⟨Nat.le_of_ble_eq_true rfl, Nat.le_of_ble_eq_true rfl⟩) (zPV2 (q0 := 0) (ci := 9) hPc hDc hK hXN rfl rfl) rfl rfl hl.1 rfl (lv_room (Nat.le_of_ble_eq_true rfl)) dX11_done_55 ⟨Nat.le_of_ble_eq_true rfl, Nat.le_of_ble_eq_true rfl⟩) hS hFc hFc rfl (fun t H locs ht hB hk1 hS => ?_)
          obtain ⟨hP1, hD1⟩ := hB
          rw [ht] at hP1
          obtain ⟨hP, hD⟩ := zn (W2 := [(om k0 a (upd (upd I0 14 6) 15 (I0 15)) J0), _, _, _, _, _, _, _]) hP hD hk1 hFc hP1 hD1 [0] zl_54 zl_54 [0] (by decide +kernel) rfl rfl rfl rfl rfl
          clear hk1 hPc hDc hFc hP1 hD1 ht
          obtain ⟨hP9, hD9⟩ := zu_sub (wc := [_, _, _, _, _, _, _, _]) hP hD [true, true, true, true, true, true, true, true] rfl rfl
          rw [hQ9]
          exact W.zret (ty := .boolean) (v := 0) hx hb hr (rfl) (fun t ht hW => ⟨⟨rfl, 6, q_5, by rw [ht]; exact hP9, hD9⟩, hS.F ht⟩) hS.2.2 dX11_done_58
      · have c_4 : ¬ (tn f).toInt = 0 := zc_ne rfl rfl c_4
        refine lv_aload_n hx hb dX11_done_38 rfl (lv_at hl 0 rfl) ?_
        refine lv_iconst (v := 5) hx hb dX11_done_39 rfl ?_
        obtain ⟨hPc, hDc, hFc⟩ := zo_sub (wc := [_]) hP hD hS hA [0] rfl rfl
        refine zcall (st1 := [.int 0]) (va_runV (As := [.int 5]) (rest := []) ⟨hx, hb, hml, hown, hts⟩ (k_M_no l dC dI cI cZ cF H.size k0 a I0 J0 5 (by decide)) (csV_198 hts rfl rfl ⟨Nat.le_of_ble_eq_true rfl, Nat.le_of_ble_eq_true rfl⟩) (zPV2 (q0 := 0) (ci := 9) hPc hDc hK hXN rfl rfl) rfl rfl hl.1 rfl (lv_room (Nat.le_of_ble_eq_true rfl)) dX11_done_40 ⟨Nat.le_of_ble_eq_true rfl, Nat.le_of_ble_eq_true rfl⟩) hS hFc hFc rfl (fun t H locs ht hB hk1 hS => ?_)
        obtain ⟨hP1, hD1⟩ := hB
        rw [ht] at hP1
        obtain ⟨hP, hD⟩ := zn (W2 := [(om k0 a (upd (upd I0 14 5) 15 (I0 15)) J0), _, _, _, _, _, _, _]) hP hD hk1 hFc hP1 hD1 [0] zl_54 zl_54 [0] (by decide +kernel) rfl rfl rfl rfl rfl
        clear hk1 hPc hDc hFc hP1 hD1 ht
        obtain ⟨hP9, hD9⟩ := zu_sub (wc := [_, _, _, _, _, _, _, _]) hP hD [true, true, true, true, true, true, true, true] rfl rfl
        rw [hQ9]
        exact W.zret (ty := .boolean) (v := 0) hx hb hr (rfl) (fun t ht hW => ⟨⟨rfl, 5, S0, by rw [ht]; exact hP9, hD9⟩, hS.F ht⟩) hS.2.2 dX11_done_43
    · have c_3 : ¬ (st f).toInt = 0 := zc_ne rfl rfl c_3
      refine lv_aload_n hx hb dX11_done_23 rfl (lv_at hl 0 rfl) ?_
      refine lv_iconst (v := 2) hx hb dX11_done_24 rfl ?_
      obtain ⟨hPc, hDc, hFc⟩ := zo_sub (wc := [_]) hP hD hS hA [0] rfl rfl
      refine zcall (st1 := [.int 0]) (va_runV (As := [.int 2]) (rest := []) ⟨hx, hb, hml, hown, hts⟩ (k_M_no l dC dI cI cZ cF H.size k0 a I0 J0 2 (by decide)) (csV_198 hts rfl rfl ⟨Nat.le_of_ble_eq_true rfl, Nat.le_of_ble_eq_true rfl⟩) (zPV2 (q0 := 0) (ci := 9) hPc hDc hK hXN rfl rfl) rfl rfl hl.1 rfl (lv_room (Nat.le_of_ble_eq_true rfl)) dX11_done_25 ⟨Nat.le_of_ble_eq_true rfl, Nat.le_of_ble_eq_true rfl⟩) hS hFc hFc rfl (fun t H locs ht hB hk1 hS => ?_)
      obtain ⟨hP1, hD1⟩ := hB
      rw [ht] at hP1
      obtain ⟨hP, hD⟩ := zn (W2 := [(om k0 a (upd (upd I0 14 2) 15 (I0 15)) J0), _, _, _, _, _, _, _]) hP hD hk1 hFc hP1 hD1 [0] zl_54 zl_54 [0] (by decide +kernel) rfl rfl rfl rfl rfl
      clear hk1 hPc hDc hFc hP1 hD1 ht
      obtain ⟨hP9, hD9⟩ := zu_sub (wc := [_, _, _, _, _, _, _, _]) hP hD [true, true, true, true, true, true, true, true] rfl rfl
      rw [hQ9]
      exact W.zret (ty := .boolean) (v := 0) hx hb hr (rfl) (fun t ht hW => ⟨⟨rfl, 2, S0, by rw [ht]; exact hP9, hD9⟩, hS.F ht⟩) hS.2.2 dX11_done_28
  · have c_1 : ¬ (f < ft) := zp_0 c_1
    exfalso; omega
set_option maxHeartbeats 4000000 in
set_option maxRecDepth 100000 in
theorem k_M_done_ok (l : Launch) (dC : Nat → ClassId) (dI : Nat → Nat → Nat) (cI cZ cF : ClassId) (sz : Nat) (k0 : Nat) (a : Nat → Nat) (I0 : Nat → Int32) (J0 : Nat → Int64) (f : Nat) (n : Nat) (ft : Nat) (st : Nat → Int32) (tn : Nat → Int32) (kd : Nat → Int32) (mn : Nat → Int32) (cx : Nat → Int32) (cy : Nat → Int32) (S0 : Nat → Int32) (sa : Nat → Int32) (hft : I0 0 = nI ft) (h200 : ft ≤ 200) (hf_t : f < ft) (hm_f : mn f = nI n) (hn_f : n ≤ 40) (hp_f : (st f).toInt = 0 → (tn f).toInt = 0 → pls n (cF40 cx f) (cF40 cy f)) (hgood : (st f).toInt = 0 ∧ (tn f).toInt = 0 ∧ mSm (kd f).toInt n (cF40 cx f) (cF40 cy f)) : zM l yX11_done cX11_done 2 (some .boolean) ({ frames := 5, cells := 0, slots := 0, locals := 131 } : Room) [.ref k0, .int (nI f)] (dC, dI) (zTy cI cZ cF) [(om k0 a I0 J0), (oa (a 5) cI 201 st), (oa (a 6) cZ 201 tn), (oa (a 1) cI 201 kd), (oa (a 11) cI 201 mn), (oa (a 12) cI 8040 cx), (oa (a 13) cI 8040 cy), (oa (a 32) cI 8 S0), (oa (a 27) cI 516 sa)] sz (some (.int 1)) (fun A t => ∃ (S1 : Nat → Int32), zPD (dC, dI) classes A [(om k0 a (upd (upd (upd I0 14 0) 20 0) 21 (I0 19)) J0), (oa (a 5) cI 201 (upd st f 1)), (oa (a 6) cZ 201 tn), (oa (a 1) cI 201 kd), (oa (a 11) cI 201 mn), (oa (a 12) cI 8040 cx), (oa (a 13) cI 8040 cy), (oa (a 32) cI 8 S1), (oa (a 27) cI 516 (upd sa 0 0))] t.heap) 0 0 := by
  refine zIn (own := "ScaleShopModel") (loc := [(0, .ref k0), (1, .int (nI f))]) rfl rfl rfl rfl (fun p e s m below meth c hx hb hr hts hown hlocks hml hnm9 A hA hS hP hD hK hXN Q9 hQ9 ls hl => ?_)
  refine lv_aload_n hx hb dX11_done_0 rfl (lv_at hl 0 rfl) ?_
  refine lv_iload_n hx hb dX11_done_1 rfl (lv_at hl 1 rfl) ?_
  obtain ⟨hPc, hDc, hFc, hI1⟩ := zi_sub (wc := [_]) hP hD hS hA [0] rfl rfl
  refine zcall (st1 := [.int (pI (f < ft))]) (va_runV (As := [.int (nI f)]) (rest := []) ⟨hx, hb, hml, hown, hts⟩ (k_M_isFeature_n l dC dI cI cZ cF s.heap.size k0 a I0 J0 f ft (by first | with_reducible assumption | assumption) (by first | with_reducible assumption | omega) (by first | with_reducible assumption | omega)) (csV_178 hts rfl rfl ⟨Nat.le_of_ble_eq_true rfl, Nat.le_of_ble_eq_true rfl⟩) (zPV2 (q0 := 0) (ci := 9) hPc hDc hK hXN rfl rfl) rfl rfl hl.1 rfl (lv_room (Nat.le_of_ble_eq_true rfl)) dX11_done_2 ⟨Nat.le_of_ble_eq_true rfl, Nat.le_of_ble_eq_true rfl⟩) hS hFc hFc rfl (fun t H locs ht hB hk1 hS => ?_)
  obtain ⟨hP1, hD1⟩ := hB
  rw [ht] at hP1
  replace hP := z0 hP hD hk1 hP1 hI1
  clear hk1 hPc hDc hFc hP1 hD1 ht hI1
  refine lv_if_ne (tgt := 14) hx hb dX11_done_5 rfl (fun c_1 => ?_) (fun c_1 => ?_)
  · have c_1 : f < ft := zp_1 c_1
    refine lv_aload_n hx hb dX11_done_14 rfl (lv_at hl 0 rfl) ?_
    refine va_get (D := (dC, dI)) (ci := 9) (v := .ref (a 5)) (C := RX11) (T := TX11) (N := 55) hx hb hts inX11 hown hK hP 0 rfl rfl 5 (Nat.le_of_ble_eq_true rfl) (hts _ mw_1164) (fun _ h9 => h9) rfl dX11_done_15 ?_
    refine lv_iload_n hx hb dX11_done_18 rfl (lv_at hl 1 rfl) ?_
    have b9_2 : f < 201 := by omega
    refine z_iald hx hb hK hP 1 0 rfl rfl (e := f) rfl b9_2 (Nat.le_of_ble_eq_true rfl) dX11_done_19 ?_
    refine lv_if_eq (tgt := 29) hx hb dX11_done_20 rfl (fun c_3 => ?_) (fun c_3 => ?_)
    · have c_3 : (st f).toInt = 0 := zc_eq rfl rfl c_3
      refine lv_aload_n hx hb dX11_done_29 rfl (lv_at hl 0 rfl) ?_
      refine va_get (D := (dC, dI)) (ci := 9) (v := .ref (a 6)) (C := RX11) (T := TX11) (N := 55) hx hb hts inX11 hown hK hP 0 rfl rfl 6 (Nat.le_of_ble_eq_true rfl) (hts _ mw_1165) (fun _ h9 => h9) rfl dX11_done_30 ?_
      refine lv_iload_n hx hb dX11_done_33 rfl (lv_at hl 1 rfl) ?_
      refine z_zald hx hb hK hP 2 1 rfl rfl (e := f) rfl b9_2 (Nat.le_of_ble_eq_true rfl) dX11_done_34 ?_
      refine lv_if_eq (tgt := 44) hx hb dX11_done_35 rfl (fun c_4 => ?_) (fun c_4 => ?_)
      · have c_4 : (tn f).toInt = 0 := zc_eq rfl rfl c_4
        refine lv_aload_n hx hb dX11_done_44 rfl (lv_at hl 0 rfl) ?_
        refine lv_iload_n hx hb dX11_done_45 rfl (lv_at hl 1 rfl) ?_
        obtain ⟨hPc, hDc, hFc⟩ := zo_sub (wc := [_, _, _, _, _, _]) hP hD hS hA [0, 3, 4, 5, 6, 7] (by decide +kernel) rfl
        refine zcall (st1 := [.int (pI (mSm (kd f).toInt n (cF40 cx f) (cF40 cy f)))]) (va_runV (As := [.int (nI f)]) (rest := []) ⟨hx, hb, hml, hown, hts⟩ (k_M_isSimple l dC dI cI cZ cF H.size k0 a I0 J0 f n kd mn cx cy S0 (by first | with_reducible assumption | omega) (by first | with_reducible assumption | assumption) (hp_f (by first | with_reducible assumption | omega) (by first | with_reducible assumption | omega)) (by first | with_reducible assumption | omega)) (csV_187 hts rfl rfl ⟨Nat.le_of_ble_eq_true rfl, Nat.le_of_ble_eq_true rfl⟩) (zPV2 (q0 := 0) (ci := 9) hPc hDc hK hXN rfl rfl) rfl rfl hl.1 rfl (lv_room (Nat.le_of_ble_eq_true rfl)) dX11_done_46 ⟨Nat.le_of_ble_eq_true rfl, Nat.le_of_ble_eq_true rfl⟩) hS hFc hFc rfl (fun t H locs ht hB hk1 hS => ?_)
        obtain ⟨q_5, hP1, hD1⟩ := hB
        rw [ht] at hP1
        obtain ⟨hP, hD⟩ := zn (W2 := [_, _, _, _, _, _, _, (oa (a 32) cI 8 q_5), _]) hP hD hk1 hFc hP1 hD1 [0, 3, 4, 5, 6, 7] zl_173 zl_173 [0, 3, 4, 5, 6, 7] (by decide +kernel) rfl rfl rfl rfl rfl
        clear hk1 hPc hDc hFc hP1 hD1 ht
        refine lv_if_ne (tgt := 59) hx hb dX11_done_49 rfl (fun c_6 => ?_) (fun c_6 => ?_)
        · have c_6 : mSm (kd f).toInt n (cF40 cx f) (cF40 cy f) := zp_1 c_6
          refine lv_aload_n hx hb dX11_done_59 rfl (lv_at hl 0 rfl) ?_
          refine va_get (D := (dC, dI)) (ci := 9) (v := .ref (a 5)) (C := RX11) (T := TX11) (N := 55) hx hb hts inX11 hown hK hP 0 rfl rfl 5 (Nat.le_of_ble_eq_true rfl) (hts _ mw_1164) (fun _ h9 => h9) rfl dX11_done_60 ?_
          refine lv_iload_n hx hb dX11_done_63 rfl (lv_at hl 1 rfl) ?_
          refine lv_iconst (v := 1) hx hb dX11_done_64 rfl ?_
          refine z_iast hx hb hK hP hD hS 1 0 rfl rfl (e := f) (x := 1) rfl b9_2 (Nat.le_of_ble_eq_true rfl) dX11_done_65 (fun H locs hP hD hS => ?_)
          obtain ⟨hP, hD⟩ := zre (W2 := [_, (oa (a 5) cI 201 (upd st f 1)), _, _, _, _, _, _, _]) hP hD rfl
          refine lv_aload_n hx hb dX11_done_66 rfl (lv_at hl 0 rfl) ?_
          obtain ⟨hPc, hDc, hFc⟩ := zo_sub (wc := [_, _]) hP hD hS hA [0, 8] rfl rfl
          refine zcall (st1 := []) (va_runV (As := []) (rest := []) ⟨hx, hb, hml, hown, hts⟩ (k_M_settle l dC dI cI cZ cF H.size k0 a I0 J0 sa ) (csV_197 hts rfl rfl ⟨Nat.le_of_ble_eq_true rfl, Nat.le_of_ble_eq_true rfl⟩) (zPV2 (q0 := 0) (ci := 9) hPc hDc hK hXN rfl rfl) rfl rfl hl.1 rfl (lv_room (Nat.le_of_ble_eq_true rfl)) dX11_done_67 ⟨Nat.le_of_ble_eq_true rfl, Nat.le_of_ble_eq_true rfl⟩) hS hFc hFc rfl (fun t H locs ht hB hk1 hS => ?_)
          obtain ⟨hP1, hD1⟩ := hB
          rw [ht] at hP1
          obtain ⟨hP, hD⟩ := zn (W2 := [(om k0 a (upd (upd I0 20 0) 21 (I0 19)) J0), _, _, _, _, _, _, _, (oa (a 27) cI 516 (upd sa 0 0))]) hP hD hk1 hFc hP1 hD1 [0, 8] zl_54 zl_174 [0, 8] (by decide +kernel) rfl rfl rfl rfl rfl
          clear hk1 hPc hDc hFc hP1 hD1 ht
          refine lv_aload_n hx hb dX11_done_70 rfl (lv_at hl 0 rfl) ?_
          refine lv_iconst (v := 0) hx hb dX11_done_71 rfl ?_
          refine va_put (D := (dC, dI)) (ci := 9) (v := .int 0) (ty := .int) (C := RX11) (T := TX11) (N := 55) hx hb hts inX11 tyX11 tyX11_ok nmX11 hown hK hP hD hS 0 rfl rfl 14 (by decide) (hts _ mw_1173) (fun _ h9 => h9) rfl (by decide +kernel) rfl rfl (Nat.le_of_ble_eq_true rfl) dX11_done_72 (fun H locs hP hD hS => ?_)
          obtain ⟨hP, hD⟩ := zre (W2 := [(om k0 a (upd (upd (upd I0 14 0) 20 0) 21 (I0 19)) J0), _, _, _, _, _, _, _, _]) hP hD rfl
          refine lv_iconst (v := 1) hx hb dX11_done_75 rfl ?_
          obtain ⟨hP9, hD9⟩ := zu_sub (wc := [_, _, _, _, _, _, _, _, _]) hP hD [true, true, true, true, true, true, true, true, true] rfl rfl
          rw [hQ9]
          exact W.zret (ty := .boolean) (v := 1) hx hb hr (rfl) (fun t ht hW => ⟨⟨rfl, q_5, by rw [ht]; exact hP9, hD9⟩, hS.F ht⟩) hS.2.2 dX11_done_76
        · have c_6 : ¬ (mSm (kd f).toInt n (cF40 cx f) (cF40 cy f)) := zp_0 c_6
          exact absurd hgood.2.2 (by first | with_reducible assumption | assumption)
      · have c_4 : ¬ (tn f).toInt = 0 := zc_ne rfl rfl c_4
        exact absurd hgood.2.1 (by omega)
    · have c_3 : ¬ (st f).toInt = 0 := zc_ne rfl rfl c_3
      exact absurd hgood.1 (by omega)
  · have c_1 : ¬ (f < ft) := zp_0 c_1
    exfalso; omega
end
section
set_option maxHeartbeats 4000000 in
set_option maxRecDepth 100000 in
theorem k_M_undo_r (l : Launch) (dC : Nat → ClassId) (dI : Nat → Nat → Nat) (cI cZ cF : ClassId) (sz : Nat) (k0 : Nat) (a : Nat → Nat) (I0 : Nat → Int32) (J0 : Nat → Int64) (dn : Nat) (bs : Nat) (hdn : I0 19 = nI dn) (hbs : I0 21 = nI bs) (hbd : bs ≤ dn) (hd512 : dn ≤ 512) (heq : dn = bs) : zM l yX11_undo cX11_undo 1 (some .int) ({ frames := 1, cells := 0, slots := 0, locals := 21 } : Room) [.ref k0] (dC, dI) (zTy cI cZ cF) [(om k0 a I0 J0)] sz (some (.int (-1))) (fun A t => zPD (dC, dI) classes A [(om k0 a (upd (upd I0 14 8) 15 (I0 15)) J0)] t.heap) 0 0 := by
  refine zIn (own := "ScaleShopModel") (loc := [(0, .ref k0)]) rfl rfl rfl rfl (fun p e s m below meth c hx hb hr hts hown hlocks hml hnm9 A hA hS hP hD hK hXN Q9 hQ9 ls hl => ?_)
  refine lv_aload_n hx hb dX11_undo_0 rfl (lv_at hl 0 rfl) ?_
  refine va_get (D := (dC, dI)) (ci := 9) (v := .int (I0 19)) (C := RX11) (T := TX11) (N := 55) hx hb hts inX11 hown hK hP 0 rfl rfl 19 (Nat.le_of_ble_eq_true rfl) (hts _ mw_1178) (fun _ h9 => h9) rfl dX11_undo_1 ?_
  refine zz_i (v := nI dn) (hdn) ?_
  refine lv_aload_n hx hb dX11_undo_4 rfl (lv_at hl 0 rfl) ?_
  refine va_get (D := (dC, dI)) (ci := 9) (v := .int (I0 21)) (C := RX11) (T := TX11) (N := 55) hx hb hts inX11 hown hK hP 0 rfl rfl 21 (Nat.le_of_ble_eq_true rfl) (hts _ mw_1180) (fun _ h9 => h9) rfl dX11_undo_5 ?_
  refine zz_i (v := nI bs) (hbs) ?_
  have b9_2 : zlt (dn) := show dn < 2147483648 by omega
  have b9_3 : zlt (bs) := show bs < 2147483648 by omega
  refine lv_icmp_ne (tgt := 18) hx hb dX11_undo_8 rfl (fun c_1 => ?_) (fun c_1 => ?_)
  · have c_1 : ¬ ((dn : Nat) : Int) = ((bs : Nat) : Int) := zc_ne (nI_toInt b9_2) (nI_toInt b9_3) c_1
    exfalso; omega
  · have c_1 : ((dn : Nat) : Int) = ((bs : Nat) : Int) := zc_eq (nI_toInt b9_2) (nI_toInt b9_3) c_1
    refine lv_aload_n hx hb dX11_undo_11 rfl (lv_at hl 0 rfl) ?_
    refine lv_bipush (v := 8) hx hb dX11_undo_12 rfl ?_
    obtain ⟨hPc, hDc, hFc⟩ := zo_sub (wc := [_]) hP hD hS hA [0] rfl rfl
    refine zcall (st1 := [.int (-1)]) (va_runV (As := [.int 8]) (rest := []) ⟨hx, hb, hml, hown, hts⟩ (k_M_refuse l dC dI cI cZ cF s.heap.size k0 a I0 J0 8 (by decide)) (csV_185 hts rfl rfl ⟨Nat.le_of_ble_eq_true rfl, Nat.le_of_ble_eq_true rfl⟩) (zPV2 (q0 := 0) (ci := 9) hPc hDc hK hXN rfl rfl) rfl rfl hl.1 rfl (lv_room (Nat.le_of_ble_eq_true rfl)) dX11_undo_14 ⟨Nat.le_of_ble_eq_true rfl, Nat.le_of_ble_eq_true rfl⟩) hS hFc hFc rfl (fun t H locs ht hB hk1 hS => ?_)
    obtain ⟨hP1, hD1⟩ := hB
    rw [ht] at hP1
    obtain ⟨hP, hD⟩ := zn (W2 := [(om k0 a (upd (upd I0 14 8) 15 (I0 15)) J0)]) hP hD hk1 hFc hP1 hD1 [0] [] [false] [0] (by decide +kernel) rfl rfl rfl rfl rfl
    clear hk1 hPc hDc hFc hP1 hD1 ht
    obtain ⟨hP9, hD9⟩ := zu_sub (wc := [_]) hP hD [true] rfl rfl
    rw [hQ9]
    exact W.iret (v := (-1)) hx hb hr (fun t ht hW => ⟨⟨rfl, by rw [ht]; exact hP9, hD9⟩, hS.F ht⟩) hS.2.2 dX11_undo_17
set_option maxHeartbeats 4000000 in
set_option maxRecDepth 100000 in
theorem k_M_redo_r (l : Launch) (dC : Nat → ClassId) (dI : Nat → Nat → Nat) (cI cZ cF : ClassId) (sz : Nat) (k0 : Nat) (a : Nat → Nat) (I0 : Nat → Int32) (J0 : Nat → Int64) (rd : Nat) (hrd : I0 20 = nI rd) (hr512 : rd ≤ 512) (heq : rd = 0) : zM l yX11_redo cX11_redo 1 (some .int) ({ frames := 1, cells := 0, slots := 0, locals := 21 } : Room) [.ref k0] (dC, dI) (zTy cI cZ cF) [(om k0 a I0 J0)] sz (some (.int (-1))) (fun A t => zPD (dC, dI) classes A [(om k0 a (upd (upd I0 14 8) 15 (I0 15)) J0)] t.heap) 0 0 := by
  refine zIn (own := "ScaleShopModel") (loc := [(0, .ref k0)]) rfl rfl rfl rfl (fun p e s m below meth c hx hb hr hts hown hlocks hml hnm9 A hA hS hP hD hK hXN Q9 hQ9 ls hl => ?_)
  refine lv_aload_n hx hb dX11_redo_0 rfl (lv_at hl 0 rfl) ?_
  refine va_get (D := (dC, dI)) (ci := 9) (v := .int (I0 20)) (C := RX11) (T := TX11) (N := 55) hx hb hts inX11 hown hK hP 0 rfl rfl 20 (Nat.le_of_ble_eq_true rfl) (hts _ mw_1179) (fun _ h9 => h9) rfl dX11_redo_1 ?_
  refine zz_i (v := nI rd) (hrd) ?_
  have b9_2 : zlt (rd) := show rd < 2147483648 by omega
  refine lv_if_ne (tgt := 14) hx hb dX11_redo_4 rfl (fun c_1 => ?_) (fun c_1 => ?_)
  · have c_1 : ¬ ((rd : Nat) : Int) = 0 := zc_ne (nI_toInt b9_2) rfl c_1
    exfalso; omega
  · have c_1 : ((rd : Nat) : Int) = 0 := zc_eq (nI_toInt b9_2) rfl c_1
    refine lv_aload_n hx hb dX11_redo_7 rfl (lv_at hl 0 rfl) ?_
    refine lv_bipush (v := 8) hx hb dX11_redo_8 rfl ?_
    obtain ⟨hPc, hDc, hFc⟩ := zo_sub (wc := [_]) hP hD hS hA [0] rfl rfl
    refine zcall (st1 := [.int (-1)]) (va_runV (As := [.int 8]) (rest := []) ⟨hx, hb, hml, hown, hts⟩ (k_M_refuse l dC dI cI cZ cF s.heap.size k0 a I0 J0 8 (by decide)) (csV_185 hts rfl rfl ⟨Nat.le_of_ble_eq_true rfl, Nat.le_of_ble_eq_true rfl⟩) (zPV2 (q0 := 0) (ci := 9) hPc hDc hK hXN rfl rfl) rfl rfl hl.1 rfl (lv_room (Nat.le_of_ble_eq_true rfl)) dX11_redo_10 ⟨Nat.le_of_ble_eq_true rfl, Nat.le_of_ble_eq_true rfl⟩) hS hFc hFc rfl (fun t H locs ht hB hk1 hS => ?_)
    obtain ⟨hP1, hD1⟩ := hB
    rw [ht] at hP1
    obtain ⟨hP, hD⟩ := zn (W2 := [(om k0 a (upd (upd I0 14 8) 15 (I0 15)) J0)]) hP hD hk1 hFc hP1 hD1 [0] [] [false] [0] (by decide +kernel) rfl rfl rfl rfl rfl
    clear hk1 hPc hDc hFc hP1 hD1 ht
    obtain ⟨hP9, hD9⟩ := zu_sub (wc := [_]) hP hD [true] rfl rfl
    rw [hQ9]
    exact W.iret (v := (-1)) hx hb hr (fun t ht hW => ⟨⟨rfl, by rw [ht]; exact hP9, hD9⟩, hS.F ht⟩) hS.2.2 dX11_redo_13
set_option maxHeartbeats 4000000 in
set_option maxRecDepth 100000 in
theorem k_M_undo_ok (l : Launch) (dC : Nat → ClassId) (dI : Nat → Nat → Nat) (cI cZ cF : ClassId) (sz : Nat) (k0 : Nat) (a : Nat → Nat) (I0 : Nat → Int32) (J0 : Nat → Int64) (dn : Nat) (bs : Nat) (rd : Nat) (ft1 : Nat) (w0 : Nat) (cp : Nat) (nn : Nat → Nat) (D : Nat → Nat → Int32) (kd : Nat → Int32) (st : Nat → Int32) (gb : Nat → Int32) (it : Nat → Int32) (pa : Nat → Int32) (pb : Nat → Int32) (rk : Nat → Int32) (wd : Nat → Int32) (tw : Nat → Int32) (tn : Nat → Int32) (mn : Nat → Int32) (cx : Nat → Int32) (cy : Nat → Int32) (sa : Nat → Int32) (sh : Nat → Int32) (hdn : I0 19 = nI dn) (hbs : I0 21 = nI bs) (hbd : bs ≤ dn) (hd512 : dn ≤ 512) (hrd : I0 20 = nI rd) (hr512 : rd ≤ 512) (hlt : bs < dn) (hi5 : (dn - 1 - bs) < 516) (hsa : sa (dn - 1 - bs) = nI w0) (hft1 : sh w0 = nI ft1) (h200 : ft1 ≤ 200) (hblk : ∀ g, g < ft1 → ∀ j, j < 10 + 2 * nn g → sh (psN nn w0 g + j) = D g j) (h9 : ∀ g, g < ft1 → D g 9 = nI (nn g)) (hn40 : ∀ g, g < ft1 → nn g ≤ 40) (hfit : psN nn w0 ft1 ≤ 4096 * cp) (hcm : cp ≤ 512) : zM l yX11_undo cX11_undo 1 (some .int) ({ frames := 2, cells := 0, slots := 0, locals := 44 } : Room) [.ref k0] (dC, dI) (zTy cI cZ cF) [(om k0 a I0 J0), (oa (a 1) cI 201 kd), (oa (a 5) cI 201 st), (oa (a 7) cI 201 gb), (oa (a 10) cI 201 it), (oa (a 8) cI 201 pa), (oa (a 9) cI 201 pb), (oa (a 2) cI 201 rk), (oa (a 3) cI 201 wd), (oa (a 4) cI 201 tw), (oa (a 6) cZ 201 tn), (oa (a 11) cI 201 mn), (oa (a 12) cI 8040 cx), (oa (a 13) cI 8040 cy), (oa (a 27) cI 516 sa), (oa (a 28) cI (4096 * cp) sh)] sz (some (.int (nI (dn - 1 + 1)))) (fun A t => zPD (dC, dI) classes A [(om k0 a (upd (upd (upd (upd (upd I0 0 (nI ft1)) 14 0) 19 (nI (dn - 1))) 20 (nI (rd + 1))) 42 (nI (psN nn w0 ft1))) J0), (oa (a 1) cI 201 (rsA ft1 (fun g => D g 0) kd)), (oa (a 5) cI 201 (rsA ft1 (fun g => D g 1) st)), (oa (a 7) cI 201 (rsA ft1 (fun g => D g 2) gb)), (oa (a 10) cI 201 (rsA ft1 (fun g => D g 3) it)), (oa (a 8) cI 201 (rsA ft1 (fun g => D g 4) pa)), (oa (a 9) cI 201 (rsA ft1 (fun g => D g 5) pb)), (oa (a 2) cI 201 (rsA ft1 (fun g => D g 6) rk)), (oa (a 3) cI 201 (rsA ft1 (fun g => D g 7) wd)), (oa (a 4) cI 201 (rsA ft1 (fun g => D g 8) tw)), (oa (a 6) cZ 201 tn), (oa (a 11) cI 201 (rsM ft1 D nn tn mn)), (oa (a 12) cI 8040 (rsC ft1 0 D nn 10 cx)), (oa (a 13) cI 8040 (rsC ft1 0 D nn 11 cy)), (oa (a 27) cI 516 sa), (oa (a 28) cI (4096 * cp) sh)] t.heap) 0 0 := by
  refine zIn (own := "ScaleShopModel") (loc := [(0, .ref k0)]) rfl rfl rfl rfl (fun p e s m below meth c hx hb hr hts hown hlocks hml hnm9 A hA hS hP hD hK hXN Q9 hQ9 ls hl => ?_)
  refine lv_aload_n hx hb dX11_undo_0 rfl (lv_at hl 0 rfl) ?_
  refine va_get (D := (dC, dI)) (ci := 9) (v := .int (I0 19)) (C := RX11) (T := TX11) (N := 55) hx hb hts inX11 hown hK hP 0 rfl rfl 19 (Nat.le_of_ble_eq_true rfl) (hts _ mw_1178) (fun _ h9 => h9) rfl dX11_undo_1 ?_
  refine zz_i (v := nI dn) (hdn) ?_
  refine lv_aload_n hx hb dX11_undo_4 rfl (lv_at hl 0 rfl) ?_
  refine va_get (D := (dC, dI)) (ci := 9) (v := .int (I0 21)) (C := RX11) (T := TX11) (N := 55) hx hb hts inX11 hown hK hP 0 rfl rfl 21 (Nat.le_of_ble_eq_true rfl) (hts _ mw_1180) (fun _ h9 => h9) rfl dX11_undo_5 ?_
  refine zz_i (v := nI bs) (hbs) ?_
  have b9_2 : zlt (dn) := show dn < 2147483648 by omega
  have b9_3 : zlt (bs) := show bs < 2147483648 by omega
  refine lv_icmp_ne (tgt := 18) hx hb dX11_undo_8 rfl (fun c_1 => ?_) (fun c_1 => ?_)
  · have c_1 : ¬ ((dn : Nat) : Int) = ((bs : Nat) : Int) := zc_ne (nI_toInt b9_2) (nI_toInt b9_3) c_1
    refine lv_aload_n hx hb dX11_undo_18 rfl (lv_at hl 0 rfl) ?_
    refine lv_dup hx hb dX11_undo_19 rfl ?_
    refine va_get (D := (dC, dI)) (ci := 9) (v := .int (I0 19)) (C := RX11) (T := TX11) (N := 55) hx hb hts inX11 hown hK hP 0 rfl rfl 19 (Nat.le_of_ble_eq_true rfl) (hts _ mw_1178) (fun _ h9 => h9) rfl dX11_undo_20 ?_
    refine zz_i (v := nI dn) (hdn) ?_
    refine lv_iconst (v := 1) hx hb dX11_undo_23 rfl ?_
    refine lv_isub hx hb dX11_undo_24 ?_
    refine zz_i (v := nI (dn - 1)) (pk_sub (a := dn) (b := 1) (by omega)) ?_
    refine va_put (D := (dC, dI)) (ci := 9) (v := .int (nI (dn - 1))) (ty := .int) (C := RX11) (T := TX11) (N := 55) hx hb hts inX11 tyX11 tyX11_ok nmX11 hown hK hP hD hS 0 rfl rfl 19 (by decide) (hts _ mw_1178) (fun _ h9 => h9) rfl (by decide +kernel) rfl rfl (Nat.le_of_ble_eq_true rfl) dX11_undo_25 (fun H locs hP hD hS => ?_)
    obtain ⟨hP, hD⟩ := zre (W2 := [(om k0 a (upd I0 19 (nI (dn - 1))) J0), _, _, _, _, _, _, _, _, _, _, _, _, _, _, _]) hP hD rfl
    refine lv_aload_n hx hb dX11_undo_28 rfl (lv_at hl 0 rfl) ?_
    refine lv_dup hx hb dX11_undo_29 rfl ?_
    refine va_get (D := (dC, dI)) (ci := 9) (v := .int (I0 20)) (C := RX11) (T := TX11) (N := 55) hx hb hts inX11 hown hK hP 0 rfl rfl 20 (Nat.le_of_ble_eq_true rfl) (hts _ mw_1179) (fun _ h9 => h9) rfl dX11_undo_30 ?_
    refine zz_i (v := nI rd) (hrd) ?_
    refine lv_iconst (v := 1) hx hb dX11_undo_33 rfl ?_
    refine lv_iadd hx hb dX11_undo_34 ?_
    refine zz_i (v := nI (rd + 1)) (nI_add rd 1) ?_
    refine va_put (D := (dC, dI)) (ci := 9) (v := .int (nI (rd + 1))) (ty := .int) (C := RX11) (T := TX11) (N := 55) hx hb hts inX11 tyX11 tyX11_ok nmX11 hown hK hP hD hS 0 rfl rfl 20 (by decide) (hts _ mw_1179) (fun _ h9 => h9) rfl (by decide +kernel) rfl rfl (Nat.le_of_ble_eq_true rfl) dX11_undo_35 (fun H locs hP hD hS => ?_)
    obtain ⟨hP, hD⟩ := zre (W2 := [(om k0 a (upd (upd I0 19 (nI (dn - 1))) 20 (nI (rd + 1))) J0), _, _, _, _, _, _, _, _, _, _, _, _, _, _, _]) hP hD rfl
    refine lv_aload_n hx hb dX11_undo_38 rfl (lv_at hl 0 rfl) ?_
    refine lv_aload_n hx hb dX11_undo_39 rfl (lv_at hl 0 rfl) ?_
    refine va_get (D := (dC, dI)) (ci := 9) (v := .int (nI (dn - 1))) (C := RX11) (T := TX11) (N := 55) hx hb hts inX11 hown hK hP 0 rfl rfl 19 (Nat.le_of_ble_eq_true rfl) (hts _ mw_1178) (fun _ h9 => h9) rfl dX11_undo_40 ?_
    refine lv_aload_n hx hb dX11_undo_43 rfl (lv_at hl 0 rfl) ?_
    refine va_get (D := (dC, dI)) (ci := 9) (v := .int (I0 21)) (C := RX11) (T := TX11) (N := 55) hx hb hts inX11 hown hK hP 0 rfl rfl 21 (Nat.le_of_ble_eq_true rfl) (hts _ mw_1180) (fun _ h9 => h9) rfl dX11_undo_44 ?_
    refine zz_i (v := nI bs) (hbs) ?_
    refine lv_isub hx hb dX11_undo_47 ?_
    refine zz_i (v := nI ((dn - 1) - bs)) (pk_sub (a := dn - 1) (b := bs) (by omega)) ?_
    obtain ⟨hPc, hDc, hFc⟩ := zo_sub (wc := [_, _, _, _, _, _, _, _, _, _, _, _, _, _, _, _]) hP hD hS hA [0, 1, 2, 3, 4, 5, 6, 7, 8, 9, 10, 11, 12, 13, 14, 15] (by decide +kernel) rfl
    refine zcall (st1 := []) (va_runV (As := [.int (nI ((dn - 1) - bs))]) (rest := []) ⟨hx, hb, hml, hown, hts⟩ (k_M_restore l dC dI cI cZ cF H.size k0 a (upd (upd I0 19 (nI (dn - 1))) 20 (nI (rd + 1))) J0 ((dn - 1) - bs) ft1 w0 cp nn D kd st gb it pa pb rk wd tw tn mn cx cy sa sh (by first | with_reducible assumption | omega) (by first | with_reducible assumption | assumption) (by first | with_reducible assumption | assumption) (by first | with_reducible assumption | omega) (by first | with_reducible assumption | assumption) (by first | with_reducible assumption | assumption) (by first | with_reducible assumption | assumption) (by first | with_reducible assumption | assumption) (by first | with_reducible assumption | omega)) (csV_199 hts rfl rfl ⟨Nat.le_of_ble_eq_true rfl, Nat.le_of_ble_eq_true rfl⟩) (zPV2 (q0 := 0) (ci := 9) hPc hDc hK hXN rfl rfl) rfl rfl hl.1 rfl (lv_room (Nat.le_of_ble_eq_true rfl)) dX11_undo_48 ⟨Nat.le_of_ble_eq_true rfl, Nat.le_of_ble_eq_true rfl⟩) hS hFc hFc rfl (fun t H locs ht hB hk1 hS => ?_)
    obtain ⟨hP1, hD1⟩ := hB
    rw [ht] at hP1
    obtain ⟨hP, hD⟩ := zn (W2 := [(om k0 a (upd (upd (upd (upd I0 0 (nI ft1)) 19 (nI (dn - 1))) 20 (nI (rd + 1))) 42 (nI (psN nn w0 ft1))) J0), (oa (a 1) cI 201 (rsA ft1 (fun g => D g 0) kd)), (oa (a 5) cI 201 (rsA ft1 (fun g => D g 1) st)), (oa (a 7) cI 201 (rsA ft1 (fun g => D g 2) gb)), (oa (a 10) cI 201 (rsA ft1 (fun g => D g 3) it)), (oa (a 8) cI 201 (rsA ft1 (fun g => D g 4) pa)), (oa (a 9) cI 201 (rsA ft1 (fun g => D g 5) pb)), (oa (a 2) cI 201 (rsA ft1 (fun g => D g 6) rk)), (oa (a 3) cI 201 (rsA ft1 (fun g => D g 7) wd)), (oa (a 4) cI 201 (rsA ft1 (fun g => D g 8) tw)), _, (oa (a 11) cI 201 (rsM ft1 D nn tn mn)), (oa (a 12) cI 8040 (rsC ft1 0 D nn 10 cx)), (oa (a 13) cI 8040 (rsC ft1 0 D nn 11 cy)), _, _]) hP hD hk1 hFc hP1 hD1 zl_80 [] zl_79 zl_80 (by decide +kernel) rfl rfl rfl rfl rfl
    clear hk1 hPc hDc hFc hP1 hD1 ht
    refine lv_aload_n hx hb dX11_undo_51 rfl (lv_at hl 0 rfl) ?_
    refine lv_iconst (v := 0) hx hb dX11_undo_52 rfl ?_
    refine va_put (D := (dC, dI)) (ci := 9) (v := .int 0) (ty := .int) (C := RX11) (T := TX11) (N := 55) hx hb hts inX11 tyX11 tyX11_ok nmX11 hown hK hP hD hS 0 rfl rfl 14 (by decide) (hts _ mw_1173) (fun _ h9 => h9) rfl (by decide +kernel) rfl rfl (Nat.le_of_ble_eq_true rfl) dX11_undo_53 (fun H locs hP hD hS => ?_)
    obtain ⟨hP, hD⟩ := zre (W2 := [(om k0 a (upd (upd (upd (upd (upd I0 0 (nI ft1)) 14 0) 19 (nI (dn - 1))) 20 (nI (rd + 1))) 42 (nI (psN nn w0 ft1))) J0), _, _, _, _, _, _, _, _, _, _, _, _, _, _, _]) hP hD rfl
    refine lv_aload_n hx hb dX11_undo_56 rfl (lv_at hl 0 rfl) ?_
    refine va_get (D := (dC, dI)) (ci := 9) (v := .int (nI (dn - 1))) (C := RX11) (T := TX11) (N := 55) hx hb hts inX11 hown hK hP 0 rfl rfl 19 (Nat.le_of_ble_eq_true rfl) (hts _ mw_1178) (fun _ h9 => h9) rfl dX11_undo_57 ?_
    refine lv_iconst (v := 1) hx hb dX11_undo_60 rfl ?_
    refine lv_iadd hx hb dX11_undo_61 ?_
    refine zz_i (v := nI ((dn - 1) + 1)) (nI_add (dn - 1) 1) ?_
    obtain ⟨hP9, hD9⟩ := zu_sub (wc := [_, _, _, _, _, _, _, _, _, _, _, _, _, _, _, _]) hP hD [true, true, true, true, true, true, true, true, true, true, true, true, true, true, true, true] rfl rfl
    rw [hQ9]
    exact W.iret (v := nI ((dn - 1) + 1)) hx hb hr (fun t ht hW => ⟨⟨rfl, by rw [ht]; exact hP9, hD9⟩, hS.F ht⟩) hS.2.2 dX11_undo_62
  · have c_1 : ((dn : Nat) : Int) = ((bs : Nat) : Int) := zc_eq (nI_toInt b9_2) (nI_toInt b9_3) c_1
    exfalso; omega
set_option maxHeartbeats 4000000 in
set_option maxRecDepth 100000 in
theorem k_M_redo_ok (l : Launch) (dC : Nat → ClassId) (dI : Nat → Nat → Nat) (cI cZ cF : ClassId) (sz : Nat) (k0 : Nat) (a : Nat → Nat) (I0 : Nat → Int32) (J0 : Nat → Int64) (dn : Nat) (bs : Nat) (rd : Nat) (ft1 : Nat) (w0 : Nat) (cp : Nat) (nn : Nat → Nat) (D : Nat → Nat → Int32) (kd : Nat → Int32) (st : Nat → Int32) (gb : Nat → Int32) (it : Nat → Int32) (pa : Nat → Int32) (pb : Nat → Int32) (rk : Nat → Int32) (wd : Nat → Int32) (tw : Nat → Int32) (tn : Nat → Int32) (mn : Nat → Int32) (cx : Nat → Int32) (cy : Nat → Int32) (sa : Nat → Int32) (sh : Nat → Int32) (hdn : I0 19 = nI dn) (hbs : I0 21 = nI bs) (hbd : bs ≤ dn) (hd512 : dn ≤ 512) (hrd : I0 20 = nI rd) (hr512 : rd ≤ 512) (hlt : 0 < rd) (hi5 : (dn + 1 - bs) < 516) (hsa : sa (dn + 1 - bs) = nI w0) (hft1 : sh w0 = nI ft1) (h200 : ft1 ≤ 200) (hblk : ∀ g, g < ft1 → ∀ j, j < 10 + 2 * nn g → sh (psN nn w0 g + j) = D g j) (h9 : ∀ g, g < ft1 → D g 9 = nI (nn g)) (hn40 : ∀ g, g < ft1 → nn g ≤ 40) (hfit : psN nn w0 ft1 ≤ 4096 * cp) (hcm : cp ≤ 512) : zM l yX11_redo cX11_redo 1 (some .int) ({ frames := 2, cells := 0, slots := 0, locals := 44 } : Room) [.ref k0] (dC, dI) (zTy cI cZ cF) [(om k0 a I0 J0), (oa (a 1) cI 201 kd), (oa (a 5) cI 201 st), (oa (a 7) cI 201 gb), (oa (a 10) cI 201 it), (oa (a 8) cI 201 pa), (oa (a 9) cI 201 pb), (oa (a 2) cI 201 rk), (oa (a 3) cI 201 wd), (oa (a 4) cI 201 tw), (oa (a 6) cZ 201 tn), (oa (a 11) cI 201 mn), (oa (a 12) cI 8040 cx), (oa (a 13) cI 8040 cy), (oa (a 27) cI 516 sa), (oa (a 28) cI (4096 * cp) sh)] sz (some (.int (nI (dn + 1)))) (fun A t => zPD (dC, dI) classes A [(om k0 a (upd (upd (upd (upd (upd I0 0 (nI ft1)) 14 0) 19 (nI (dn + 1))) 20 (nI (rd - 1))) 42 (nI (psN nn w0 ft1))) J0), (oa (a 1) cI 201 (rsA ft1 (fun g => D g 0) kd)), (oa (a 5) cI 201 (rsA ft1 (fun g => D g 1) st)), (oa (a 7) cI 201 (rsA ft1 (fun g => D g 2) gb)), (oa (a 10) cI 201 (rsA ft1 (fun g => D g 3) it)), (oa (a 8) cI 201 (rsA ft1 (fun g => D g 4) pa)), (oa (a 9) cI 201 (rsA ft1 (fun g => D g 5) pb)), (oa (a 2) cI 201 (rsA ft1 (fun g => D g 6) rk)), (oa (a 3) cI 201 (rsA ft1 (fun g => D g 7) wd)), (oa (a 4) cI 201 (rsA ft1 (fun g => D g 8) tw)), (oa (a 6) cZ 201 tn), (oa (a 11) cI 201 (rsM ft1 D nn tn mn)), (oa (a 12) cI 8040 (rsC ft1 0 D nn 10 cx)), (oa (a 13) cI 8040 (rsC ft1 0 D nn 11 cy)), (oa (a 27) cI 516 sa), (oa (a 28) cI (4096 * cp) sh)] t.heap) 0 0 := by
  refine zIn (own := "ScaleShopModel") (loc := [(0, .ref k0)]) rfl rfl rfl rfl (fun p e s m below meth c hx hb hr hts hown hlocks hml hnm9 A hA hS hP hD hK hXN Q9 hQ9 ls hl => ?_)
  refine lv_aload_n hx hb dX11_redo_0 rfl (lv_at hl 0 rfl) ?_
  refine va_get (D := (dC, dI)) (ci := 9) (v := .int (I0 20)) (C := RX11) (T := TX11) (N := 55) hx hb hts inX11 hown hK hP 0 rfl rfl 20 (Nat.le_of_ble_eq_true rfl) (hts _ mw_1179) (fun _ h9 => h9) rfl dX11_redo_1 ?_
  refine zz_i (v := nI rd) (hrd) ?_
  have b9_2 : zlt (rd) := show rd < 2147483648 by omega
  refine lv_if_ne (tgt := 14) hx hb dX11_redo_4 rfl (fun c_1 => ?_) (fun c_1 => ?_)
  · have c_1 : ¬ ((rd : Nat) : Int) = 0 := zc_ne (nI_toInt b9_2) rfl c_1
    refine lv_aload_n hx hb dX11_redo_14 rfl (lv_at hl 0 rfl) ?_
    refine lv_dup hx hb dX11_redo_15 rfl ?_
    refine va_get (D := (dC, dI)) (ci := 9) (v := .int (I0 19)) (C := RX11) (T := TX11) (N := 55) hx hb hts inX11 hown hK hP 0 rfl rfl 19 (Nat.le_of_ble_eq_true rfl) (hts _ mw_1178) (fun _ h9 => h9) rfl dX11_redo_16 ?_
    refine zz_i (v := nI dn) (hdn) ?_
    refine lv_iconst (v := 1) hx hb dX11_redo_19 rfl ?_
    refine lv_iadd hx hb dX11_redo_20 ?_
    refine zz_i (v := nI (dn + 1)) (nI_add dn 1) ?_
    refine va_put (D := (dC, dI)) (ci := 9) (v := .int (nI (dn + 1))) (ty := .int) (C := RX11) (T := TX11) (N := 55) hx hb hts inX11 tyX11 tyX11_ok nmX11 hown hK hP hD hS 0 rfl rfl 19 (by decide) (hts _ mw_1178) (fun _ h9 => h9) rfl (by decide +kernel) rfl rfl (Nat.le_of_ble_eq_true rfl) dX11_redo_21 (fun H locs hP hD hS => ?_)
    obtain ⟨hP, hD⟩ := zre (W2 := [(om k0 a (upd I0 19 (nI (dn + 1))) J0), _, _, _, _, _, _, _, _, _, _, _, _, _, _, _]) hP hD rfl
    refine lv_aload_n hx hb dX11_redo_24 rfl (lv_at hl 0 rfl) ?_
    refine lv_dup hx hb dX11_redo_25 rfl ?_
    refine va_get (D := (dC, dI)) (ci := 9) (v := .int (I0 20)) (C := RX11) (T := TX11) (N := 55) hx hb hts inX11 hown hK hP 0 rfl rfl 20 (Nat.le_of_ble_eq_true rfl) (hts _ mw_1179) (fun _ h9 => h9) rfl dX11_redo_26 ?_
    refine zz_i (v := nI rd) (hrd) ?_
    refine lv_iconst (v := 1) hx hb dX11_redo_29 rfl ?_
    refine lv_isub hx hb dX11_redo_30 ?_
    refine zz_i (v := nI (rd - 1)) (pk_sub (a := rd) (b := 1) (by omega)) ?_
    refine va_put (D := (dC, dI)) (ci := 9) (v := .int (nI (rd - 1))) (ty := .int) (C := RX11) (T := TX11) (N := 55) hx hb hts inX11 tyX11 tyX11_ok nmX11 hown hK hP hD hS 0 rfl rfl 20 (by decide) (hts _ mw_1179) (fun _ h9 => h9) rfl (by decide +kernel) rfl rfl (Nat.le_of_ble_eq_true rfl) dX11_redo_31 (fun H locs hP hD hS => ?_)
    obtain ⟨hP, hD⟩ := zre (W2 := [(om k0 a (upd (upd I0 19 (nI (dn + 1))) 20 (nI (rd - 1))) J0), _, _, _, _, _, _, _, _, _, _, _, _, _, _, _]) hP hD rfl
    refine lv_aload_n hx hb dX11_redo_34 rfl (lv_at hl 0 rfl) ?_
    refine lv_aload_n hx hb dX11_redo_35 rfl (lv_at hl 0 rfl) ?_
    refine va_get (D := (dC, dI)) (ci := 9) (v := .int (nI (dn + 1))) (C := RX11) (T := TX11) (N := 55) hx hb hts inX11 hown hK hP 0 rfl rfl 19 (Nat.le_of_ble_eq_true rfl) (hts _ mw_1178) (fun _ h9 => h9) rfl dX11_redo_36 ?_
    refine lv_aload_n hx hb dX11_redo_39 rfl (lv_at hl 0 rfl) ?_
    refine va_get (D := (dC, dI)) (ci := 9) (v := .int (I0 21)) (C := RX11) (T := TX11) (N := 55) hx hb hts inX11 hown hK hP 0 rfl rfl 21 (Nat.le_of_ble_eq_true rfl) (hts _ mw_1180) (fun _ h9 => h9) rfl dX11_redo_40 ?_
    refine zz_i (v := nI bs) (hbs) ?_
    refine lv_isub hx hb dX11_redo_43 ?_
    refine zz_i (v := nI ((dn + 1) - bs)) (pk_sub (a := dn + 1) (b := bs) (by omega)) ?_
    obtain ⟨hPc, hDc, hFc⟩ := zo_sub (wc := [_, _, _, _, _, _, _, _, _, _, _, _, _, _, _, _]) hP hD hS hA [0, 1, 2, 3, 4, 5, 6, 7, 8, 9, 10, 11, 12, 13, 14, 15] (by decide +kernel) rfl
    refine zcall (st1 := []) (va_runV (As := [.int (nI ((dn + 1) - bs))]) (rest := []) ⟨hx, hb, hml, hown, hts⟩ (k_M_restore l dC dI cI cZ cF H.size k0 a (upd (upd I0 19 (nI (dn + 1))) 20 (nI (rd - 1))) J0 ((dn + 1) - bs) ft1 w0 cp nn D kd st gb it pa pb rk wd tw tn mn cx cy sa sh (by first | with_reducible assumption | omega) (by first | with_reducible assumption | assumption) (by first | with_reducible assumption | assumption) (by first | with_reducible assumption | omega) (by first | with_reducible assumption | assumption) (by first | with_reducible assumption | assumption) (by first | with_reducible assumption | assumption) (by first | with_reducible assumption | assumption) (by first | with_reducible assumption | omega)) (csV_199 hts rfl rfl ⟨Nat.le_of_ble_eq_true rfl, Nat.le_of_ble_eq_true rfl⟩) (zPV2 (q0 := 0) (ci := 9) hPc hDc hK hXN rfl rfl) rfl rfl hl.1 rfl (lv_room (Nat.le_of_ble_eq_true rfl)) dX11_redo_44 ⟨Nat.le_of_ble_eq_true rfl, Nat.le_of_ble_eq_true rfl⟩) hS hFc hFc rfl (fun t H locs ht hB hk1 hS => ?_)
    obtain ⟨hP1, hD1⟩ := hB
    rw [ht] at hP1
    obtain ⟨hP, hD⟩ := zn (W2 := [(om k0 a (upd (upd (upd (upd I0 0 (nI ft1)) 19 (nI (dn + 1))) 20 (nI (rd - 1))) 42 (nI (psN nn w0 ft1))) J0), (oa (a 1) cI 201 (rsA ft1 (fun g => D g 0) kd)), (oa (a 5) cI 201 (rsA ft1 (fun g => D g 1) st)), (oa (a 7) cI 201 (rsA ft1 (fun g => D g 2) gb)), (oa (a 10) cI 201 (rsA ft1 (fun g => D g 3) it)), (oa (a 8) cI 201 (rsA ft1 (fun g => D g 4) pa)), (oa (a 9) cI 201 (rsA ft1 (fun g => D g 5) pb)), (oa (a 2) cI 201 (rsA ft1 (fun g => D g 6) rk)), (oa (a 3) cI 201 (rsA ft1 (fun g => D g 7) wd)), (oa (a 4) cI 201 (rsA ft1 (fun g => D g 8) tw)), _, (oa (a 11) cI 201 (rsM ft1 D nn tn mn)), (oa (a 12) cI 8040 (rsC ft1 0 D nn 10 cx)), (oa (a 13) cI 8040 (rsC ft1 0 D nn 11 cy)), _, _]) hP hD hk1 hFc hP1 hD1 zl_80 [] zl_79 zl_80 (by decide +kernel) rfl rfl rfl rfl rfl
    clear hk1 hPc hDc hFc hP1 hD1 ht
    refine lv_aload_n hx hb dX11_redo_47 rfl (lv_at hl 0 rfl) ?_
    refine lv_iconst (v := 0) hx hb dX11_redo_48 rfl ?_
    refine va_put (D := (dC, dI)) (ci := 9) (v := .int 0) (ty := .int) (C := RX11) (T := TX11) (N := 55) hx hb hts inX11 tyX11 tyX11_ok nmX11 hown hK hP hD hS 0 rfl rfl 14 (by decide) (hts _ mw_1173) (fun _ h9 => h9) rfl (by decide +kernel) rfl rfl (Nat.le_of_ble_eq_true rfl) dX11_redo_49 (fun H locs hP hD hS => ?_)
    obtain ⟨hP, hD⟩ := zre (W2 := [(om k0 a (upd (upd (upd (upd (upd I0 0 (nI ft1)) 14 0) 19 (nI (dn + 1))) 20 (nI (rd - 1))) 42 (nI (psN nn w0 ft1))) J0), _, _, _, _, _, _, _, _, _, _, _, _, _, _, _]) hP hD rfl
    refine lv_aload_n hx hb dX11_redo_52 rfl (lv_at hl 0 rfl) ?_
    refine va_get (D := (dC, dI)) (ci := 9) (v := .int (nI (dn + 1))) (C := RX11) (T := TX11) (N := 55) hx hb hts inX11 hown hK hP 0 rfl rfl 19 (Nat.le_of_ble_eq_true rfl) (hts _ mw_1178) (fun _ h9 => h9) rfl dX11_redo_53 ?_
    obtain ⟨hP9, hD9⟩ := zu_sub (wc := [_, _, _, _, _, _, _, _, _, _, _, _, _, _, _, _]) hP hD [true, true, true, true, true, true, true, true, true, true, true, true, true, true, true, true] rfl rfl
    rw [hQ9]
    exact W.iret (v := nI (dn + 1)) hx hb hr (fun t ht hW => ⟨⟨rfl, by rw [ht]; exact hP9, hD9⟩, hS.F ht⟩) hS.2.2 dX11_redo_56
  · have c_1 : ((rd : Nat) : Int) = 0 := zc_eq (nI_toInt b9_2) rfl c_1
    exfalso; omega
set_option maxHeartbeats 4000000 in
set_option maxRecDepth 100000 in
theorem k_M_layBox (l : Launch) (dC : Nat → ClassId) (dI : Nat → Nat → Nat) (cI cZ cF : ClassId) (sz : Nat) (k0 : Nat) (a : Nat → Nat) (I0 : Nat → Int32) (J0 : Nat → Int64) (f : Nat) (kd : Nat → Int32) (mn : Nat → Int32) (cx : Nat → Int32) (cy : Nat → Int32) (hf_f : f ≤ 200) : zM l yX11_layBox cX11_layBox 3 none ({ frames := 0, cells := 0, slots := 0, locals := 0 } : Room) [.ref k0, .int (nI f)] (dC, dI) (zTy cI cZ cF) [(om k0 a I0 J0), (oa (a 1) cI 201 kd), (oa (a 11) cI 201 mn), (oa (a 12) cI 8040 cx), (oa (a 13) cI 8040 cy)] sz none (fun A t => zPD (dC, dI) classes A [(om k0 a I0 J0), (oa (a 1) cI 201 (upd kd f 6)), (oa (a 11) cI 201 (upd mn f 4)), (oa (a 12) cI 8040 (bxX f (I0 44) (I0 46) 4 cx)), (oa (a 13) cI 8040 (bxY f (I0 45) (I0 47) 4 cy))] t.heap) 0 0 := by
  refine zIn (own := "ScaleShopModel") (loc := [(0, .ref k0), (1, .int (nI f))]) rfl rfl rfl rfl (fun p e s m below meth c hx hb hr hts hown hlocks hml hnm9 A hA hS hP hD hK hXN Q9 hQ9 ls hl => ?_)
  refine lv_aload_n hx hb dX11_layBox_0 rfl (lv_at hl 0 rfl) ?_
  refine va_get (D := (dC, dI)) (ci := 9) (v := .ref (a 11)) (C := RX11) (T := TX11) (N := 55) hx hb hts inX11 hown hK hP 0 rfl rfl 11 (Nat.le_of_ble_eq_true rfl) (hts _ mw_1170) (fun _ h9 => h9) rfl dX11_layBox_1 ?_
  refine lv_iload_n hx hb dX11_layBox_4 rfl (lv_at hl 1 rfl) ?_
  refine lv_iconst (v := 4) hx hb dX11_layBox_5 rfl ?_
  have b9_1 : f < 201 := by omega
  refine z_iast hx hb hK hP hD hS 2 0 rfl rfl (e := f) (x := 4) rfl b9_1 (Nat.le_of_ble_eq_true rfl) dX11_layBox_6 (fun H locs hP hD hS => ?_)
  obtain ⟨hP, hD⟩ := zre (W2 := [_, _, (oa (a 11) cI 201 (upd mn f 4)), _, _]) hP hD rfl
  refine lv_iconst (v := 0) hx hb dX11_layBox_7 rfl ?_
  refine lv_istore_n (lv' := [(2, .int 0), (0, .ref k0), (1, .int (nI f))]) hx hb dX11_layBox_8 rfl hl (Nat.le_of_ble_eq_true rfl) rfl (fun ls hl => ?_)
  have hl_9 : ∀ (n9 : Nat) (k : Nat) (cx1 : Nat → Int32) (cy1 : Nat → Int32) (H : Heap) (locs : List Loc) (ls : Array Slot), 4 - k < n9 → (k ≤ 4) → (cx1 = bxX f (I0 44) (I0 46) k cx) → (cy1 = bxY f (I0 45) (I0 47) k cy) → va_P (dC, dI) classes [(om k0 a I0 J0), (oa (a 1) cI 201 kd), (oa (a 11) cI 201 (upd mn f 4)), (oa (a 12) cI 8040 cx1), (oa (a 13) cI 8040 cy1)] H → va_D A [(om k0 a I0 J0), (oa (a 1) cI 201 kd), (oa (a 11) cI 201 (upd mn f 4)), (oa (a 12) cI 8040 cx1), (oa (a 13) cI 8040 cy1)] → va_S A s.heap H locs → lv_has ls 3 [(2, .int (nI k)), (0, .ref k0), (1, .int (nI f))] → W p l e ({ frames := 0, cells := 0, slots := 0, locals := 0 } : Room) s m ([.ref k0, .int (nI f)] : List Value).toArray below meth c H locs 0 0 Q9 (F0 m 9 ls []) := by
    intro n9
    induction n9 with
    | zero => intro k cx1 cy1 H locs ls hm; exact absurd hm (Nat.not_lt_zero _)
    | succ n9 ih_9 =>
      intro k cx1 cy1 H locs ls hm hk hcx hcy hP hD hS hl
      refine lv_iload_n hx hb dX11_layBox_9 rfl (lv_at hl 0 rfl) ?_
      refine lv_iconst (v := 4) hx hb dX11_layBox_10 rfl ?_
      have b9_3 : zlt (k) := show k < 2147483648 by omega
      refine lv_icmp_ge (tgt := 79) hx hb dX11_layBox_11 rfl (fun c_2 => ?_) (fun c_2 => ?_)
      · have c_2 : 4 ≤ ((k : Nat) : Int) := zc_le rfl (nI_toInt b9_3) c_2
        refine lv_aload_n hx hb dX11_layBox_79 rfl (lv_at hl 1 rfl) ?_
        refine va_get (D := (dC, dI)) (ci := 9) (v := .ref (a 1)) (C := RX11) (T := TX11) (N := 55) hx hb hts inX11 hown hK hP 0 rfl rfl 1 (Nat.le_of_ble_eq_true rfl) (hts _ mw_1160) (fun _ h9 => h9) rfl dX11_layBox_80 ?_
        refine lv_iload_n hx hb dX11_layBox_83 rfl (lv_at hl 2 rfl) ?_
        refine lv_bipush (v := 6) hx hb dX11_layBox_84 rfl ?_
        refine z_iast hx hb hK hP hD hS 1 0 rfl rfl (e := f) (x := 6) rfl b9_1 (Nat.le_of_ble_eq_true rfl) dX11_layBox_86 (fun H locs hP hD hS => ?_)
        obtain ⟨hP, hD⟩ := zre (W2 := [_, (oa (a 1) cI 201 (upd kd f 6)), _, _, _]) hP hD rfl
        have hk4 : k = 4 := (by omega)
        subst hk4
        obtain ⟨hP9, hD9⟩ := zu_sub (wc := [(om k0 a I0 J0), (oa (a 1) cI 201 (upd kd f 6)), (oa (a 11) cI 201 (upd mn f 4)), (oa (a 12) cI 8040 cx1), (oa (a 13) cI 8040 cy1)]) hP hD [true, true, true, true, true] rfl rfl
        have hE9 : ([(om k0 a I0 J0), (oa (a 1) cI 201 (upd kd f 6)), (oa (a 11) cI 201 (upd mn f 4)), (oa (a 12) cI 8040 cx1), (oa (a 13) cI 8040 cy1)] : va_W) = [(om k0 a I0 J0), (oa (a 1) cI 201 (upd kd f 6)), (oa (a 11) cI 201 (upd mn f 4)), (oa (a 12) cI 8040 (bxX f (I0 44) (I0 46) 4 cx)), (oa (a 13) cI 8040 (bxY f (I0 45) (I0 47) 4 cy))] := by rw [hcx, hcy]
        rw [hE9] at hP9 hD9
        rw [hQ9]
        exact W.vret hx hb hr (fun t ht hW => ⟨⟨rfl, by rw [ht]; exact hP9, hD9⟩, hS.F ht⟩) hS.2.2 dX11_layBox_87
      · have c_2 : ((k : Nat) : Int) < 4 := zc_nle rfl (nI_toInt b9_3) c_2
        refine lv_aload_n hx hb dX11_layBox_14 rfl (lv_at hl 1 rfl) ?_
        refine va_get (D := (dC, dI)) (ci := 9) (v := .ref (a 12)) (C := RX11) (T := TX11) (N := 55) hx hb hts inX11 hown hK hP 0 rfl rfl 12 (Nat.le_of_ble_eq_true rfl) (hts _ mw_1171) (fun _ h9 => h9) rfl dX11_layBox_15 ?_
        refine lv_bipush (v := 40) hx hb dX11_layBox_18 rfl ?_
        refine lv_iload_n hx hb dX11_layBox_20 rfl (lv_at hl 2 rfl) ?_
        refine lv_imul hx hb dX11_layBox_21 ?_
        refine zz_i (v := nI (40 * f)) (pk_mul 40 f) ?_
        refine lv_iload_n hx hb dX11_layBox_22 rfl (lv_at hl 0 rfl) ?_
        refine lv_iadd hx hb dX11_layBox_23 ?_
        refine zz_i (v := nI (40 * f + k)) (nI_add (40 * f) k) ?_
        refine lv_iload_n hx hb dX11_layBox_24 rfl (lv_at hl 0 rfl) ?_
        refine lv_iconst (v := 1) hx hb dX11_layBox_25 rfl ?_
        refine lv_icmp_eq (tgt := 34) hx hb dX11_layBox_26 rfl (fun c_4 => ?_) (fun c_4 => ?_)
        · have c_4 : ((k : Nat) : Int) = 1 := zc_eq (nI_toInt b9_3) rfl c_4
          refine lv_aload_n hx hb dX11_layBox_34 rfl (lv_at hl 1 rfl) ?_
          refine va_get (D := (dC, dI)) (ci := 9) (v := .int (I0 46)) (C := RX11) (T := TX11) (N := 55) hx hb hts inX11 hown hK hP 0 rfl rfl 46 (Nat.le_of_ble_eq_true rfl) (hts _ mw_1205) (fun _ h9 => h9) rfl dX11_layBox_35 ?_
          refine lv_goto (tgt := 45) hx hb dX11_layBox_38 rfl ?_
          have b9_5 : 40 * f + k < 8040 := by omega
          refine z_iast hx hb hK hP hD hS 3 0 rfl rfl (e := 40 * f + k) (x := I0 46) rfl b9_5 (Nat.le_of_ble_eq_true rfl) dX11_layBox_45 (fun H locs hP hD hS => ?_)
          obtain ⟨hP, hD⟩ := zre (W2 := [_, _, _, (oa (a 12) cI 8040 (upd cx1 (40 * f + k) (I0 46))), _]) hP hD rfl
          refine lv_aload_n hx hb dX11_layBox_46 rfl (lv_at hl 1 rfl) ?_
          refine va_get (D := (dC, dI)) (ci := 9) (v := .ref (a 13)) (C := RX11) (T := TX11) (N := 55) hx hb hts inX11 hown hK hP 0 rfl rfl 13 (Nat.le_of_ble_eq_true rfl) (hts _ mw_1172) (fun _ h9 => h9) rfl dX11_layBox_47 ?_
          refine lv_bipush (v := 40) hx hb dX11_layBox_50 rfl ?_
          refine lv_iload_n hx hb dX11_layBox_52 rfl (lv_at hl 2 rfl) ?_
          refine lv_imul hx hb dX11_layBox_53 ?_
          refine zz_i (v := nI (40 * f)) (pk_mul 40 f) ?_
          refine lv_iload_n hx hb dX11_layBox_54 rfl (lv_at hl 0 rfl) ?_
          refine lv_iadd hx hb dX11_layBox_55 ?_
          refine zz_i (v := nI (40 * f + k)) (nI_add (40 * f) k) ?_
          refine lv_iload_n hx hb dX11_layBox_56 rfl (lv_at hl 0 rfl) ?_
          refine lv_iconst (v := 1) hx hb dX11_layBox_57 rfl ?_
          refine lv_icmp_le (tgt := 68) hx hb dX11_layBox_58 rfl (fun c_6 => ?_) (fun c_6 => ?_)
          · have c_6 : ((k : Nat) : Int) ≤ 1 := zc_le (nI_toInt b9_3) rfl c_6
            refine lv_aload_n hx hb dX11_layBox_68 rfl (lv_at hl 1 rfl) ?_
            refine va_get (D := (dC, dI)) (ci := 9) (v := .int (I0 45)) (C := RX11) (T := TX11) (N := 55) hx hb hts inX11 hown hK hP 0 rfl rfl 45 (Nat.le_of_ble_eq_true rfl) (hts _ mw_1204) (fun _ h9 => h9) rfl dX11_layBox_69 ?_
            refine z_iast hx hb hK hP hD hS 4 0 rfl rfl (e := 40 * f + k) (x := I0 45) rfl b9_5 (Nat.le_of_ble_eq_true rfl) dX11_layBox_72 (fun H locs hP hD hS => ?_)
            obtain ⟨hP, hD⟩ := zre (W2 := [_, _, _, _, (oa (a 13) cI 8040 (upd cy1 (40 * f + k) (I0 45)))]) hP hD rfl
            refine lv_iinc (v := nI (k + 1)) (lv' := [(2, .int (nI (k + 1))), (0, .ref k0), (1, .int (nI f))]) hx hb dX11_layBox_73 hl (k := 0) rfl (nI_add k 1) (Nat.le_of_ble_eq_true rfl) rfl (fun ls hl => ?_)
            refine lv_goto (tgt := 9) hx hb dX11_layBox_76 rfl ?_
            exact ih_9 (k + 1) (upd cx1 (40 * f + k) (I0 46)) (upd cy1 (40 * f + k) (I0 45)) H locs ls (by first | with_reducible assumption | omega) (by first | with_reducible assumption | omega) (bxX_s hcx (by first | (exfalso; omega) | (rw [if_pos (by first | with_reducible assumption | omega)]) | (rw [if_neg (by first | with_reducible assumption | omega)]))) (bxY_s hcy (by first | (exfalso; omega) | (rw [if_pos (by first | with_reducible assumption | omega)]) | (rw [if_neg (by first | with_reducible assumption | omega)]))) hP hD hS (lv_sub hl [0, 1, 2] rfl)
          · have c_6 : 1 < ((k : Nat) : Int) := zc_nle (nI_toInt b9_3) rfl c_6
            refine lv_aload_n hx hb dX11_layBox_61 rfl (lv_at hl 1 rfl) ?_
            refine va_get (D := (dC, dI)) (ci := 9) (v := .int (I0 47)) (C := RX11) (T := TX11) (N := 55) hx hb hts inX11 hown hK hP 0 rfl rfl 47 (Nat.le_of_ble_eq_true rfl) (hts _ mw_1206) (fun _ h9 => h9) rfl dX11_layBox_62 ?_
            refine lv_goto (tgt := 72) hx hb dX11_layBox_65 rfl ?_
            refine z_iast hx hb hK hP hD hS 4 0 rfl rfl (e := 40 * f + k) (x := I0 47) rfl b9_5 (Nat.le_of_ble_eq_true rfl) dX11_layBox_72 (fun H locs hP hD hS => ?_)
            obtain ⟨hP, hD⟩ := zre (W2 := [_, _, _, _, (oa (a 13) cI 8040 (upd cy1 (40 * f + k) (I0 47)))]) hP hD rfl
            refine lv_iinc (v := nI (k + 1)) (lv' := [(2, .int (nI (k + 1))), (0, .ref k0), (1, .int (nI f))]) hx hb dX11_layBox_73 hl (k := 0) rfl (nI_add k 1) (Nat.le_of_ble_eq_true rfl) rfl (fun ls hl => ?_)
            refine lv_goto (tgt := 9) hx hb dX11_layBox_76 rfl ?_
            exact ih_9 (k + 1) (upd cx1 (40 * f + k) (I0 46)) (upd cy1 (40 * f + k) (I0 47)) H locs ls (by first | with_reducible assumption | omega) (by first | with_reducible assumption | omega) (bxX_s hcx (by first | (exfalso; omega) | (rw [if_pos (by first | with_reducible assumption | omega)]) | (rw [if_neg (by first | with_reducible assumption | omega)]))) (bxY_s hcy (by first | (exfalso; omega) | (rw [if_pos (by first | with_reducible assumption | omega)]) | (rw [if_neg (by first | with_reducible assumption | omega)]))) hP hD hS (lv_sub hl [0, 1, 2] rfl)
        · have c_4 : ¬ ((k : Nat) : Int) = 1 := zc_ne (nI_toInt b9_3) rfl c_4
          refine lv_iload_n hx hb dX11_layBox_29 rfl (lv_at hl 0 rfl) ?_
          refine lv_iconst (v := 2) hx hb dX11_layBox_30 rfl ?_
          refine lv_icmp_ne (tgt := 41) hx hb dX11_layBox_31 rfl (fun c_7 => ?_) (fun c_7 => ?_)
          · have c_7 : ¬ ((k : Nat) : Int) = 2 := zc_ne (nI_toInt b9_3) rfl c_7
            refine lv_aload_n hx hb dX11_layBox_41 rfl (lv_at hl 1 rfl) ?_
            refine va_get (D := (dC, dI)) (ci := 9) (v := .int (I0 44)) (C := RX11) (T := TX11) (N := 55) hx hb hts inX11 hown hK hP 0 rfl rfl 44 (Nat.le_of_ble_eq_true rfl) (hts _ mw_1203) (fun _ h9 => h9) rfl dX11_layBox_42 ?_
            have b9_8 : 40 * f + k < 8040 := by omega
            refine z_iast hx hb hK hP hD hS 3 0 rfl rfl (e := 40 * f + k) (x := I0 44) rfl b9_8 (Nat.le_of_ble_eq_true rfl) dX11_layBox_45 (fun H locs hP hD hS => ?_)
            obtain ⟨hP, hD⟩ := zre (W2 := [_, _, _, (oa (a 12) cI 8040 (upd cx1 (40 * f + k) (I0 44))), _]) hP hD rfl
            refine lv_aload_n hx hb dX11_layBox_46 rfl (lv_at hl 1 rfl) ?_
            refine va_get (D := (dC, dI)) (ci := 9) (v := .ref (a 13)) (C := RX11) (T := TX11) (N := 55) hx hb hts inX11 hown hK hP 0 rfl rfl 13 (Nat.le_of_ble_eq_true rfl) (hts _ mw_1172) (fun _ h9 => h9) rfl dX11_layBox_47 ?_
            refine lv_bipush (v := 40) hx hb dX11_layBox_50 rfl ?_
            refine lv_iload_n hx hb dX11_layBox_52 rfl (lv_at hl 2 rfl) ?_
            refine lv_imul hx hb dX11_layBox_53 ?_
            refine zz_i (v := nI (40 * f)) (pk_mul 40 f) ?_
            refine lv_iload_n hx hb dX11_layBox_54 rfl (lv_at hl 0 rfl) ?_
            refine lv_iadd hx hb dX11_layBox_55 ?_
            refine zz_i (v := nI (40 * f + k)) (nI_add (40 * f) k) ?_
            refine lv_iload_n hx hb dX11_layBox_56 rfl (lv_at hl 0 rfl) ?_
            refine lv_iconst (v := 1) hx hb dX11_layBox_57 rfl ?_
            refine lv_icmp_le (tgt := 68) hx hb dX11_layBox_58 rfl (fun c_9 => ?_) (fun c_9 => ?_)
            · have c_9 : ((k : Nat) : Int) ≤ 1 := zc_le (nI_toInt b9_3) rfl c_9
              refine lv_aload_n hx hb dX11_layBox_68 rfl (lv_at hl 1 rfl) ?_
              refine va_get (D := (dC, dI)) (ci := 9) (v := .int (I0 45)) (C := RX11) (T := TX11) (N := 55) hx hb hts inX11 hown hK hP 0 rfl rfl 45 (Nat.le_of_ble_eq_true rfl) (hts _ mw_1204) (fun _ h9 => h9) rfl dX11_layBox_69 ?_
              refine z_iast hx hb hK hP hD hS 4 0 rfl rfl (e := 40 * f + k) (x := I0 45) rfl b9_8 (Nat.le_of_ble_eq_true rfl) dX11_layBox_72 (fun H locs hP hD hS => ?_)
              obtain ⟨hP, hD⟩ := zre (W2 := [_, _, _, _, (oa (a 13) cI 8040 (upd cy1 (40 * f + k) (I0 45)))]) hP hD rfl
              refine lv_iinc (v := nI (k + 1)) (lv' := [(2, .int (nI (k + 1))), (0, .ref k0), (1, .int (nI f))]) hx hb dX11_layBox_73 hl (k := 0) rfl (nI_add k 1) (Nat.le_of_ble_eq_true rfl) rfl (fun ls hl => ?_)
              refine lv_goto (tgt := 9) hx hb dX11_layBox_76 rfl ?_
              exact ih_9 (k + 1) (upd cx1 (40 * f + k) (I0 44)) (upd cy1 (40 * f + k) (I0 45)) H locs ls (by first | with_reducible assumption | omega) (by first | with_reducible assumption | omega) (bxX_s hcx (by first | (exfalso; omega) | (rw [if_pos (by first | with_reducible assumption | omega)]) | (rw [if_neg (by first | with_reducible assumption | omega)]))) (bxY_s hcy (by first | (exfalso; omega) | (rw [if_pos (by first | with_reducible assumption | omega)]) | (rw [if_neg (by first | with_reducible assumption | omega)]))) hP hD hS (lv_sub hl [0, 1, 2] rfl)
            · have c_9 : 1 < ((k : Nat) : Int) := zc_nle (nI_toInt b9_3) rfl c_9
              refine lv_aload_n hx hb dX11_layBox_61 rfl (lv_at hl 1 rfl) ?_
              refine va_get (D := (dC, dI)) (ci := 9) (v := .int (I0 47)) (C := RX11) (T := TX11) (N := 55) hx hb hts inX11 hown hK hP 0 rfl rfl 47 (Nat.le_of_ble_eq_true rfl) (hts _ mw_1206) (fun _ h9 => h9) rfl dX11_layBox_62 ?_
              refine lv_goto (tgt := 72) hx hb dX11_layBox_65 rfl ?_
              refine z_iast hx hb hK hP hD hS 4 0 rfl rfl (e := 40 * f + k) (x := I0 47) rfl b9_8 (Nat.le_of_ble_eq_true rfl) dX11_layBox_72 (fun H locs hP hD hS => ?_)
              obtain ⟨hP, hD⟩ := zre (W2 := [_, _, _, _, (oa (a 13) cI 8040 (upd cy1 (40 * f + k) (I0 47)))]) hP hD rfl
              refine lv_iinc (v := nI (k + 1)) (lv' := [(2, .int (nI (k + 1))), (0, .ref k0), (1, .int (nI f))]) hx hb dX11_layBox_73 hl (k := 0) rfl (nI_add k 1) (Nat.le_of_ble_eq_true rfl) rfl (fun ls hl => ?_)
              refine lv_goto (tgt := 9) hx hb dX11_layBox_76 rfl ?_
              exact ih_9 (k + 1) (upd cx1 (40 * f + k) (I0 44)) (upd cy1 (40 * f + k) (I0 47)) H locs ls (by first | with_reducible assumption | omega) (by first | with_reducible assumption | omega) (bxX_s hcx (by first | (exfalso; omega) | (rw [if_pos (by first | with_reducible assumption | omega)]) | (rw [if_neg (by first | with_reducible assumption | omega)]))) (bxY_s hcy (by first | (exfalso; omega) | (rw [if_pos (by first | with_reducible assumption | omega)]) | (rw [if_neg (by first | with_reducible assumption | omega)]))) hP hD hS (lv_sub hl [0, 1, 2] rfl)
          · have c_7 : ((k : Nat) : Int) = 2 := zc_eq (nI_toInt b9_3) rfl c_7
            refine lv_aload_n hx hb dX11_layBox_34 rfl (lv_at hl 1 rfl) ?_
            refine va_get (D := (dC, dI)) (ci := 9) (v := .int (I0 46)) (C := RX11) (T := TX11) (N := 55) hx hb hts inX11 hown hK hP 0 rfl rfl 46 (Nat.le_of_ble_eq_true rfl) (hts _ mw_1205) (fun _ h9 => h9) rfl dX11_layBox_35 ?_
            refine lv_goto (tgt := 45) hx hb dX11_layBox_38 rfl ?_
            have b9_10 : 40 * f + k < 8040 := by omega
            refine z_iast hx hb hK hP hD hS 3 0 rfl rfl (e := 40 * f + k) (x := I0 46) rfl b9_10 (Nat.le_of_ble_eq_true rfl) dX11_layBox_45 (fun H locs hP hD hS => ?_)
            obtain ⟨hP, hD⟩ := zre (W2 := [_, _, _, (oa (a 12) cI 8040 (upd cx1 (40 * f + k) (I0 46))), _]) hP hD rfl
            refine lv_aload_n hx hb dX11_layBox_46 rfl (lv_at hl 1 rfl) ?_
            refine va_get (D := (dC, dI)) (ci := 9) (v := .ref (a 13)) (C := RX11) (T := TX11) (N := 55) hx hb hts inX11 hown hK hP 0 rfl rfl 13 (Nat.le_of_ble_eq_true rfl) (hts _ mw_1172) (fun _ h9 => h9) rfl dX11_layBox_47 ?_
            refine lv_bipush (v := 40) hx hb dX11_layBox_50 rfl ?_
            refine lv_iload_n hx hb dX11_layBox_52 rfl (lv_at hl 2 rfl) ?_
            refine lv_imul hx hb dX11_layBox_53 ?_
            refine zz_i (v := nI (40 * f)) (pk_mul 40 f) ?_
            refine lv_iload_n hx hb dX11_layBox_54 rfl (lv_at hl 0 rfl) ?_
            refine lv_iadd hx hb dX11_layBox_55 ?_
            refine zz_i (v := nI (40 * f + k)) (nI_add (40 * f) k) ?_
            refine lv_iload_n hx hb dX11_layBox_56 rfl (lv_at hl 0 rfl) ?_
            refine lv_iconst (v := 1) hx hb dX11_layBox_57 rfl ?_
            refine lv_icmp_le (tgt := 68) hx hb dX11_layBox_58 rfl (fun c_11 => ?_) (fun c_11 => ?_)
            · have c_11 : ((k : Nat) : Int) ≤ 1 := zc_le (nI_toInt b9_3) rfl c_11
              refine lv_aload_n hx hb dX11_layBox_68 rfl (lv_at hl 1 rfl) ?_
              refine va_get (D := (dC, dI)) (ci := 9) (v := .int (I0 45)) (C := RX11) (T := TX11) (N := 55) hx hb hts inX11 hown hK hP 0 rfl rfl 45 (Nat.le_of_ble_eq_true rfl) (hts _ mw_1204) (fun _ h9 => h9) rfl dX11_layBox_69 ?_
              refine z_iast hx hb hK hP hD hS 4 0 rfl rfl (e := 40 * f + k) (x := I0 45) rfl b9_10 (Nat.le_of_ble_eq_true rfl) dX11_layBox_72 (fun H locs hP hD hS => ?_)
              obtain ⟨hP, hD⟩ := zre (W2 := [_, _, _, _, (oa (a 13) cI 8040 (upd cy1 (40 * f + k) (I0 45)))]) hP hD rfl
              refine lv_iinc (v := nI (k + 1)) (lv' := [(2, .int (nI (k + 1))), (0, .ref k0), (1, .int (nI f))]) hx hb dX11_layBox_73 hl (k := 0) rfl (nI_add k 1) (Nat.le_of_ble_eq_true rfl) rfl (fun ls hl => ?_)
              refine lv_goto (tgt := 9) hx hb dX11_layBox_76 rfl ?_
              exact ih_9 (k + 1) (upd cx1 (40 * f + k) (I0 46)) (upd cy1 (40 * f + k) (I0 45)) H locs ls (by first | with_reducible assumption | omega) (by first | with_reducible assumption | omega) (bxX_s hcx (by first | (exfalso; omega) | (rw [if_pos (by first | with_reducible assumption | omega)]) | (rw [if_neg (by first | with_reducible assumption | omega)]))) (bxY_s hcy (by first | (exfalso; omega) | (rw [if_pos (by first | with_reducible assumption | omega)]) | (rw [if_neg (by first | with_reducible assumption | omega)]))) hP hD hS (lv_sub hl [0, 1, 2] rfl)
            · have c_11 : 1 < ((k : Nat) : Int) := zc_nle (nI_toInt b9_3) rfl c_11
              refine lv_aload_n hx hb dX11_layBox_61 rfl (lv_at hl 1 rfl) ?_
              refine va_get (D := (dC, dI)) (ci := 9) (v := .int (I0 47)) (C := RX11) (T := TX11) (N := 55) hx hb hts inX11 hown hK hP 0 rfl rfl 47 (Nat.le_of_ble_eq_true rfl) (hts _ mw_1206) (fun _ h9 => h9) rfl dX11_layBox_62 ?_
              refine lv_goto (tgt := 72) hx hb dX11_layBox_65 rfl ?_
              refine z_iast hx hb hK hP hD hS 4 0 rfl rfl (e := 40 * f + k) (x := I0 47) rfl b9_10 (Nat.le_of_ble_eq_true rfl) dX11_layBox_72 (fun H locs hP hD hS => ?_)
              obtain ⟨hP, hD⟩ := zre (W2 := [_, _, _, _, (oa (a 13) cI 8040 (upd cy1 (40 * f + k) (I0 47)))]) hP hD rfl
              refine lv_iinc (v := nI (k + 1)) (lv' := [(2, .int (nI (k + 1))), (0, .ref k0), (1, .int (nI f))]) hx hb dX11_layBox_73 hl (k := 0) rfl (nI_add k 1) (Nat.le_of_ble_eq_true rfl) rfl (fun ls hl => ?_)
              refine lv_goto (tgt := 9) hx hb dX11_layBox_76 rfl ?_
              exact ih_9 (k + 1) (upd cx1 (40 * f + k) (I0 46)) (upd cy1 (40 * f + k) (I0 47)) H locs ls (by first | with_reducible assumption | omega) (by first | with_reducible assumption | omega) (bxX_s hcx (by first | (exfalso; omega) | (rw [if_pos (by first | with_reducible assumption | omega)]) | (rw [if_neg (by first | with_reducible assumption | omega)]))) (bxY_s hcy (by first | (exfalso; omega) | (rw [if_pos (by first | with_reducible assumption | omega)]) | (rw [if_neg (by first | with_reducible assumption | omega)]))) hP hD hS (lv_sub hl [0, 1, 2] rfl)
  exact hl_9 _ 0 cx cy H locs ls (Nat.lt_succ_self _) (by first | with_reducible assumption | omega) (bxX_0 _ _ _ _) (bxY_0 _ _ _ _) hP hD hS (lv_sub hl [0, 1, 2] rfl)
end
section
set_option maxHeartbeats 4000000 in
set_option maxRecDepth 100000 in
theorem k_M_plain_y (l : Launch) (dC : Nat → ClassId) (dI : Nat → Nat → Nat) (cI cZ cF : ClassId) (sz : Nat) (k0 : Nat) (a : Nat → Nat) (I0 : Nat → Int32) (J0 : Nat → Int64) (f : Nat) (n : Nat) (L : Nat) (ft : Nat) (ln : Nat) (cl : Nat) (kb : Nat) (stp : Int32) (st : Nat → Int32) (tn : Nat → Int32) (kd : Nat → Int32) (mn : Nat → Int32) (cx : Nat → Int32) (cy : Nat → Int32) (S0 : Nat → Int32) (T0 : Nat → Int32) (P0 : Nat → Int32) (Q0 : Nat → Int32) (ox : Nat → Int32) (oy : Nat → Int32) (mt : Nat → Int32) (wi : Nat → Int32) (ins : Nat → Int32) (fl : Nat → Int32) (la : Nat → Int32) (lb : Nat → Int32) (lc : Nat → Int32) (ld : Nat → Int32) (hft : I0 0 = nI ft) (h200 : ft ≤ 200) (hf_f : f ≤ 200) (hm_f : mn f = nI n) (hn_f : 1 ≤ n ∧ n ≤ 40) (hp_f : pls n (cF40 cx f) (cF40 cy f)) (hL : L ≤ 2147483647) (hwf : ∀ q, lvF ft st tn q → wfM mn cx cy q) (hr3 : 5 ≤ (kd f).toInt → 3 ≤ n) (hlc : ln ≤ 64 * cl) (hcl1 : 1 ≤ cl) (hclm : cl ≤ 1000000) (hkb : pBest ft st tn kd mn cx cy f n L kb) : zM l yX11_plain cX11_plain 8 (some .boolean) ({ frames := 7, cells := 4 * (dl cl ln - cl), slots := 512 * (dl cl ln - cl), locals := 182 } : Room) [.ref k0, .int (nI f), .long (jI ((L : Nat) : Int)), .int stp] (dC, dI) (zTy cI cZ cF) [(om k0 a (upd I0 26 (nI ln)) J0), (oa (a 5) cI 201 st), (oa (a 6) cZ 201 tn), (oa (a 1) cI 201 kd), (oa (a 11) cI 201 mn), (oa (a 12) cI 8040 cx), (oa (a 13) cI 8040 cy), (oa (a 32) cI 8 S0), (oa (a 40) cI 6 T0), (oa (a 29) cI 42 P0), (oa (a 30) cI 42 Q0), (oa (a 33) cI 42 ox), (oa (a 34) cI 42 oy), (oa (a 37) cZ 201 mt), (oa (a 38) cZ 201 wi), (oa (a 39) cZ 8040 ins), (oa (a 43) cZ 40 fl), (oa (a 22) cI (64 * cl) la), (oa (a 23) cI (64 * cl) lb), (oa (a 24) cI (64 * cl) lc), (oa (a 25) cI (64 * cl) ld)] sz (some (.int 1)) (fun A t => ∃ (z9 : Int32), ∃ (on1 : Int32), ∃ (ok1 : Int32), ∃ (S1 : Nat → Int32), ∃ (T1 : Nat → Int32), ∃ (P1 : Nat → Int32), ∃ (Q1 : Nat → Int32), ∃ (ox1 : Nat → Int32), ∃ (oy1 : Nat → Int32), ∃ (mt1 : Nat → Int32), ∃ (wi1 : Nat → Int32), ∃ (ins1 : Nat → Int32), ∃ (fl1 : Nat → Int32), ∃ (bl0 : Nat), ∃ (bl1 : Nat), ∃ (bl2 : Nat), ∃ (bl3 : Nat), ∃ (la1 : Nat → Int32), ∃ (lb1 : Nat → Int32), ∃ (lc1 : Nat → Int32), ∃ (ld1 : Nat → Int32), ((∀ j, j < ln → pl (lb j) ∧ pl (lc j)) → ∀ j, j < ln + 1 → pl (lb1 j) ∧ pl (lc1 j)) ∧ (lsP ln f stp (cF40 cx f kb) (cF40 cy f kb) la lb lc ld la1 lb1 lc1 ld1) ∧ zPD (dC, dI) classes A [(om k0 (va_up (va_up (va_up (va_up a 22 bl0) 23 bl1) 24 bl2) 25 bl3) (upd (upd (upd (upd I0 26 (nI (ln + 1))) 31 z9) 35 on1) 36 ok1) J0), (oa (a 5) cI 201 st), (oa (a 6) cZ 201 tn), (oa (a 1) cI 201 kd), (oa (a 11) cI 201 (upd mn f (nI (n - 1)))), (oa (a 12) cI 8040 (shp f kb (n - 1) cx)), (oa (a 13) cI 8040 (shp f kb (n - 1) cy)), (oa (a 32) cI 8 S1), (oa (a 40) cI 6 T1), (oa (a 29) cI 42 P1), (oa (a 30) cI 42 Q1), (oa (a 33) cI 42 ox1), (oa (a 34) cI 42 oy1), (oa (a 37) cZ 201 mt1), (oa (a 38) cZ 201 wi1), (oa (a 39) cZ 8040 ins1), (oa (a 43) cZ 40 fl1), (oa bl0 cI (64 * (dl cl ln)) la1), (oa bl1 cI (64 * (dl cl ln)) lb1), (oa bl2 cI (64 * (dl cl ln)) lc1), (oa bl3 cI (64 * (dl cl ln)) ld1)] t.heap) (4 * (dl cl ln - cl)) (512 * (dl cl ln - cl)) := by
  refine zIn (own := "ScaleShopModel") (loc := [(0, .ref k0), (1, .int (nI f)), (2, .long (jI ((L : Nat) : Int))), (4, .int stp)]) rfl rfl rfl rfl (fun p e s m below meth c hx hb hr hts hown hlocks hml hnm9 A hA hS hP hD hK hXN Q9 hQ9 ls hl => ?_)
  have hdl : cl ≤ dl cl ln := (by unfold dl; split <;> omega)
  refine lv_iconst (v := 0) hx hb dX11_plain_0 rfl ?_
  refine lv_istore (lv' := [(5, .int 0), (0, .ref k0), (1, .int (nI f)), (2, .long (jI ((L : Nat) : Int))), (4, .int stp)]) hx hb dX11_plain_1 hl (Nat.le_of_ble_eq_true rfl) rfl (fun ls hl => ?_)
  have hl_3 : ∀ (n9 : Nat) (k : Nat) (S1 : Nat → Int32) (fl1 : Nat → Int32) (H : Heap) (locs : List Loc) (ls : Array Slot), n - k < n9 → (k ≤ n) → (∀ j, j < k → fl1 j = pI (¬ cnd ft st tn kd mn cx cy f n L j)) → va_P (dC, dI) classes [(om k0 a (upd I0 26 (nI ln)) J0), (oa (a 5) cI 201 st), (oa (a 6) cZ 201 tn), (oa (a 1) cI 201 kd), (oa (a 11) cI 201 mn), (oa (a 12) cI 8040 cx), (oa (a 13) cI 8040 cy), (oa (a 32) cI 8 S1), (oa (a 40) cI 6 T0), (oa (a 29) cI 42 P0), (oa (a 30) cI 42 Q0), (oa (a 33) cI 42 ox), (oa (a 34) cI 42 oy), (oa (a 37) cZ 201 mt), (oa (a 38) cZ 201 wi), (oa (a 39) cZ 8040 ins), (oa (a 43) cZ 40 fl1), (oa (a 22) cI (64 * cl) la), (oa (a 23) cI (64 * cl) lb), (oa (a 24) cI (64 * cl) lc), (oa (a 25) cI (64 * cl) ld)] H → va_D A [(om k0 a (upd I0 26 (nI ln)) J0), (oa (a 5) cI 201 st), (oa (a 6) cZ 201 tn), (oa (a 1) cI 201 kd), (oa (a 11) cI 201 mn), (oa (a 12) cI 8040 cx), (oa (a 13) cI 8040 cy), (oa (a 32) cI 8 S1), (oa (a 40) cI 6 T0), (oa (a 29) cI 42 P0), (oa (a 30) cI 42 Q0), (oa (a 33) cI 42 ox), (oa (a 34) cI 42 oy), (oa (a 37) cZ 201 mt), (oa (a 38) cZ 201 wi), (oa (a 39) cZ 8040 ins), (oa (a 43) cZ 40 fl1), (oa (a 22) cI (64 * cl) la), (oa (a 23) cI (64 * cl) lb), (oa (a 24) cI (64 * cl) lc), (oa (a 25) cI (64 * cl) ld)] → va_S A s.heap H locs → lv_has ls 8 [(5, .int (nI k)), (0, .ref k0), (1, .int (nI f)), (2, .long (jI ((L : Nat) : Int))), (4, .int stp)] → W p l e ({ frames := 7, cells := 4 * (dl cl ln - cl), slots := 512 * (dl cl ln - cl), locals := 182 } : Room) s m ([.ref k0, .int (nI f), .long (jI ((L : Nat) : Int)), .int stp] : List Value).toArray below meth c H locs 0 0 Q9 (F0 m 3 ls []) := by
    intro n9
    induction n9 with
    | zero => intro k S1 fl1 H locs ls hm; exact absurd hm (Nat.not_lt_zero _)
    | succ n9 ih_3 =>
      intro k S1 fl1 H locs ls hm hk hfl hP hD hS hl
      refine lv_iload hx hb dX11_plain_3 (lv_at hl 0 rfl) ?_
      refine lv_aload_n hx hb dX11_plain_5 rfl (lv_at hl 1 rfl) ?_
      refine va_get (D := (dC, dI)) (ci := 9) (v := .ref (a 11)) (C := RX11) (T := TX11) (N := 55) hx hb hts inX11 hown hK hP 0 rfl rfl 11 (Nat.le_of_ble_eq_true rfl) (hts _ mw_1170) (fun _ h9 => h9) rfl dX11_plain_6 ?_
      refine lv_iload_n hx hb dX11_plain_9 rfl (lv_at hl 2 rfl) ?_
      have b9_1 : f < 201 := by omega
      refine z_iald hx hb hK hP 4 0 rfl rfl (e := f) rfl b9_1 (Nat.le_of_ble_eq_true rfl) dX11_plain_10 ?_
      refine zz_i (v := nI n) (hm_f) ?_
      have b9_3 : zlt (k) := show k < 2147483648 by omega
      have b9_4 : zlt (n) := show n < 2147483648 by omega
      refine lv_icmp_ge (tgt := 54) hx hb dX11_plain_11 rfl (fun c_2 => ?_) (fun c_2 => ?_)
      · have c_2 : ((n : Nat) : Int) ≤ ((k : Nat) : Int) := zc_le (nI_toInt b9_4) (nI_toInt b9_3) c_2
        have hl_54 : ∀ (n9 : Nat) (FS : Nat → Prop) (z9 : Int32) (on1 : Int32) (ok1 : Int32) (S1 : Nat → Int32) (T1 : Nat → Int32) (P1 : Nat → Int32) (Q1 : Nat → Int32) (ox1 : Nat → Int32) (oy1 : Nat → Int32) (mt1 : Nat → Int32) (wi1 : Nat → Int32) (ins1 : Nat → Int32) (fl1 : Nat → Int32) (H : Heap) (locs : List Loc) (ls : Array Slot), cntP (fun j => ¬ FS j) n < n9 → (∀ j, j < n → fl1 j = pI (FS j)) → (∀ j, j < n → ¬ FS j → cnd ft st tn kd mn cx cy f n L j) → (∀ j, j < n → FS j → cnd ft st tn kd mn cx cy f n L j → ¬ lwP ft st tn kd mn cx cy f n j) → va_P (dC, dI) classes [(om k0 a (upd (upd (upd (upd I0 26 (nI ln)) 31 z9) 35 on1) 36 ok1) J0), (oa (a 5) cI 201 st), (oa (a 6) cZ 201 tn), (oa (a 1) cI 201 kd), (oa (a 11) cI 201 mn), (oa (a 12) cI 8040 cx), (oa (a 13) cI 8040 cy), (oa (a 32) cI 8 S1), (oa (a 40) cI 6 T1), (oa (a 29) cI 42 P1), (oa (a 30) cI 42 Q1), (oa (a 33) cI 42 ox1), (oa (a 34) cI 42 oy1), (oa (a 37) cZ 201 mt1), (oa (a 38) cZ 201 wi1), (oa (a 39) cZ 8040 ins1), (oa (a 43) cZ 40 fl1), (oa (a 22) cI (64 * cl) la), (oa (a 23) cI (64 * cl) lb), (oa (a 24) cI (64 * cl) lc), (oa (a 25) cI (64 * cl) ld)] H → va_D A [(om k0 a (upd (upd (upd (upd I0 26 (nI ln)) 31 z9) 35 on1) 36 ok1) J0), (oa (a 5) cI 201 st), (oa (a 6) cZ 201 tn), (oa (a 1) cI 201 kd), (oa (a 11) cI 201 mn), (oa (a 12) cI 8040 cx), (oa (a 13) cI 8040 cy), (oa (a 32) cI 8 S1), (oa (a 40) cI 6 T1), (oa (a 29) cI 42 P1), (oa (a 30) cI 42 Q1), (oa (a 33) cI 42 ox1), (oa (a 34) cI 42 oy1), (oa (a 37) cZ 201 mt1), (oa (a 38) cZ 201 wi1), (oa (a 39) cZ 8040 ins1), (oa (a 43) cZ 40 fl1), (oa (a 22) cI (64 * cl) la), (oa (a 23) cI (64 * cl) lb), (oa (a 24) cI (64 * cl) lc), (oa (a 25) cI (64 * cl) ld)] → va_S A s.heap H locs → lv_has ls 8 [(0, .ref k0), (1, .int (nI f)), (2, .long (jI ((L : Nat) : Int))), (4, .int stp)] → W p l e ({ frames := 7, cells := 4 * (dl cl ln - cl), slots := 512 * (dl cl ln - cl), locals := 182 } : Room) s m ([.ref k0, .int (nI f), .long (jI ((L : Nat) : Int)), .int stp] : List Value).toArray below meth c H locs 0 0 Q9 (F0 m 54 ls []) := by
          intro n9
          induction n9 with
          | zero => intro FS z9 on1 ok1 S1 T1 P1 Q1 ox1 oy1 mt1 wi1 ins1 fl1 H locs ls hm; exact absurd hm (Nat.not_lt_zero _)
          | succ n9 ih_54 =>
            intro FS z9 on1 ok1 S1 T1 P1 Q1 ox1 oy1 mt1 wi1 ins1 fl1 H locs ls hm hfs hfc hfd hP hD hS hl
            have hm54 := hm
            refine lv_iconst (v := (-1)) hx hb dX11_plain_54 rfl ?_
            refine lv_istore (lv' := [(5, .int (-1)), (0, .ref k0), (1, .int (nI f)), (2, .long (jI ((L : Nat) : Int))), (4, .int stp)]) hx hb dX11_plain_55 hl (Nat.le_of_ble_eq_true rfl) rfl (fun ls hl => ?_)
            refine lv_iconst (v := 0) hx hb dX11_plain_57 rfl ?_
            refine lv_istore (lv' := [(6, .int 0), (5, .int (-1)), (0, .ref k0), (1, .int (nI f)), (2, .long (jI ((L : Nat) : Int))), (4, .int stp)]) hx hb dX11_plain_58 hl (Nat.le_of_ble_eq_true rfl) rfl (fun ls hl => ?_)
            have hl_60 : ∀ (n9 : Nat) (k : Nat) (zb : Int32) (H : Heap) (locs : List Loc) (ls : Array Slot), n - k < n9 → (k ≤ n) → (bstS (trF cx cy f n) FS k zb) → va_P (dC, dI) classes [(om k0 a (upd (upd (upd (upd I0 26 (nI ln)) 31 z9) 35 on1) 36 ok1) J0), (oa (a 5) cI 201 st), (oa (a 6) cZ 201 tn), (oa (a 1) cI 201 kd), (oa (a 11) cI 201 mn), (oa (a 12) cI 8040 cx), (oa (a 13) cI 8040 cy), (oa (a 32) cI 8 S1), (oa (a 40) cI 6 T1), (oa (a 29) cI 42 P1), (oa (a 30) cI 42 Q1), (oa (a 33) cI 42 ox1), (oa (a 34) cI 42 oy1), (oa (a 37) cZ 201 mt1), (oa (a 38) cZ 201 wi1), (oa (a 39) cZ 8040 ins1), (oa (a 43) cZ 40 fl1), (oa (a 22) cI (64 * cl) la), (oa (a 23) cI (64 * cl) lb), (oa (a 24) cI (64 * cl) lc), (oa (a 25) cI (64 * cl) ld)] H → va_D A [(om k0 a (upd (upd (upd (upd I0 26 (nI ln)) 31 z9) 35 on1) 36 ok1) J0), (oa (a 5) cI 201 st), (oa (a 6) cZ 201 tn), (oa (a 1) cI 201 kd), (oa (a 11) cI 201 mn), (oa (a 12) cI 8040 cx), (oa (a 13) cI 8040 cy), (oa (a 32) cI 8 S1), (oa (a 40) cI 6 T1), (oa (a 29) cI 42 P1), (oa (a 30) cI 42 Q1), (oa (a 33) cI 42 ox1), (oa (a 34) cI 42 oy1), (oa (a 37) cZ 201 mt1), (oa (a 38) cZ 201 wi1), (oa (a 39) cZ 8040 ins1), (oa (a 43) cZ 40 fl1), (oa (a 22) cI (64 * cl) la), (oa (a 23) cI (64 * cl) lb), (oa (a 24) cI (64 * cl) lc), (oa (a 25) cI (64 * cl) ld)] → va_S A s.heap H locs → lv_has ls 8 [(6, .int (nI k)), (5, .int zb), (0, .ref k0), (1, .int (nI f)), (2, .long (jI ((L : Nat) : Int))), (4, .int stp)] → W p l e ({ frames := 7, cells := 4 * (dl cl ln - cl), slots := 512 * (dl cl ln - cl), locals := 182 } : Room) s m ([.ref k0, .int (nI f), .long (jI ((L : Nat) : Int)), .int stp] : List Value).toArray below meth c H locs 0 0 Q9 (F0 m 60 ls []) := by
              intro n9
              induction n9 with
              | zero => intro k zb H locs ls hm; exact absurd hm (Nat.not_lt_zero _)
              | succ n9 ih_60 =>
                intro k zb H locs ls hm hk hat hP hD hS hl
                refine lv_iload hx hb dX11_plain_60 (lv_at hl 0 rfl) ?_
                refine lv_aload_n hx hb dX11_plain_62 rfl (lv_at hl 2 rfl) ?_
                refine va_get (D := (dC, dI)) (ci := 9) (v := .ref (a 11)) (C := RX11) (T := TX11) (N := 55) hx hb hts inX11 hown hK hP 0 rfl rfl 11 (Nat.le_of_ble_eq_true rfl) (hts _ mw_1170) (fun _ h9 => h9) rfl dX11_plain_63 ?_
                refine lv_iload_n hx hb dX11_plain_66 rfl (lv_at hl 3 rfl) ?_
                refine z_iald hx hb hK hP 4 0 rfl rfl (e := f) rfl b9_1 (Nat.le_of_ble_eq_true rfl) dX11_plain_67 ?_
                refine zz_i (v := nI n) (hm_f) ?_
                have b9_6 : zlt (k) := show k < 2147483648 by omega
                refine lv_icmp_ge (tgt := 115) hx hb dX11_plain_68 rfl (fun c_5 => ?_) (fun c_5 => ?_)
                · have c_5 : ((n : Nat) : Int) ≤ ((k : Nat) : Int) := zc_le (nI_toInt b9_4) (nI_toInt b9_6) c_5
                  refine lv_iload hx hb dX11_plain_115 (lv_at hl 1 rfl) ?_
                  refine lv_iconst (v := (-1)) hx hb dX11_plain_117 rfl ?_
                  refine lv_icmp_ne (tgt := 123) hx hb dX11_plain_118 rfl (fun c_7 => ?_) (fun c_7 => ?_)
                  · have c_7 : ¬ zb.toInt = (-1) := zc_ne rfl rfl c_7
                    have hkn : k = n := (by omega)
                    rw [hkn] at hat
                    obtain ⟨b9, hz9, hbk, hbF, hbm⟩ := bst_get hat (by omega)
                    have hcb := hfc b9 hbk hbF
                    refine lv_aload_n hx hb dX11_plain_123 rfl (lv_at hl 2 rfl) ?_
                    refine va_get (D := (dC, dI)) (ci := 9) (v := .ref (a 12)) (C := RX11) (T := TX11) (N := 55) hx hb hts inX11 hown hK hP 0 rfl rfl 12 (Nat.le_of_ble_eq_true rfl) (hts _ mw_1171) (fun _ h9 => h9) rfl dX11_plain_124 ?_
                    refine lv_bipush (v := 40) hx hb dX11_plain_127 rfl ?_
                    refine lv_iload_n hx hb dX11_plain_129 rfl (lv_at hl 3 rfl) ?_
                    refine lv_imul hx hb dX11_plain_130 ?_
                    refine zz_i (v := nI (40 * f)) (pk_mul 40 f) ?_
                    refine lv_iload hx hb dX11_plain_131 (lv_at hl 1 rfl) ?_
                    refine zz_i (v := nI b9) (hz9) ?_
                    refine lv_iadd hx hb dX11_plain_133 ?_
                    refine zz_i (v := nI (40 * f + b9)) (nI_add (40 * f) b9) ?_
                    have b9_8 : 40 * f + b9 < 8040 := by omega
                    refine z_iald hx hb hK hP 5 0 rfl rfl (e := 40 * f + b9) rfl b9_8 (Nat.le_of_ble_eq_true rfl) dX11_plain_134 ?_
                    refine lv_istore (lv' := [(6, .int (cx (40 * f + b9))), (5, .int zb), (0, .ref k0), (1, .int (nI f)), (2, .long (jI ((L : Nat) : Int))), (4, .int stp)]) hx hb dX11_plain_135 hl (Nat.le_of_ble_eq_true rfl) rfl (fun ls hl => ?_)
                    refine lv_aload_n hx hb dX11_plain_137 rfl (lv_at hl 2 rfl) ?_
                    refine va_get (D := (dC, dI)) (ci := 9) (v := .ref (a 13)) (C := RX11) (T := TX11) (N := 55) hx hb hts inX11 hown hK hP 0 rfl rfl 13 (Nat.le_of_ble_eq_true rfl) (hts _ mw_1172) (fun _ h9 => h9) rfl dX11_plain_138 ?_
                    refine lv_bipush (v := 40) hx hb dX11_plain_141 rfl ?_
                    refine lv_iload_n hx hb dX11_plain_143 rfl (lv_at hl 3 rfl) ?_
                    refine lv_imul hx hb dX11_plain_144 ?_
                    refine zz_i (v := nI (40 * f)) (pk_mul 40 f) ?_
                    refine lv_iload hx hb dX11_plain_145 (lv_at hl 1 rfl) ?_
                    refine zz_i (v := nI b9) (hz9) ?_
                    refine lv_iadd hx hb dX11_plain_147 ?_
                    refine zz_i (v := nI (40 * f + b9)) (nI_add (40 * f) b9) ?_
                    refine z_iald hx hb hK hP 6 0 rfl rfl (e := 40 * f + b9) rfl b9_8 (Nat.le_of_ble_eq_true rfl) dX11_plain_148 ?_
                    refine lv_istore (lv' := [(7, .int (cy (40 * f + b9))), (6, .int (cx (40 * f + b9))), (5, .int zb), (0, .ref k0), (1, .int (nI f)), (2, .long (jI ((L : Nat) : Int))), (4, .int stp)]) hx hb dX11_plain_149 hl (Nat.le_of_ble_eq_true rfl) rfl (fun ls hl => ?_)
                    refine lv_aload_n hx hb dX11_plain_151 rfl (lv_at hl 3 rfl) ?_
                    refine lv_iload_n hx hb dX11_plain_152 rfl (lv_at hl 4 rfl) ?_
                    refine lv_iload hx hb dX11_plain_153 (lv_at hl 2 rfl) ?_
                    refine zz_i (v := nI b9) (hz9) ?_
                    obtain ⟨hPc, hDc, hFc⟩ := zo_sub (wc := [_, _, _, _, _, _, _, _, _, _, _, _, _, _, _, _]) hP hD hS hA [0, 1, 2, 3, 4, 5, 6, 7, 8, 9, 10, 11, 12, 13, 14, 15] (by decide +kernel) rfl
                    refine zcall (st1 := [.int (pI (lwP ft st tn kd mn cx cy f n b9))]) (va_runV (As := [.int (nI f), .int (nI b9)]) (rest := []) ⟨hx, hb, hml, hown, hts⟩ (k_M_goes l dC dI cI cZ cF H.size k0 a (upd (upd (upd (upd I0 26 (nI ln)) 31 z9) 35 on1) 36 ok1) J0 f n b9 ft st tn kd mn cx cy S1 T1 P1 Q1 ox1 oy1 mt1 wi1 ins1 (by first | with_reducible assumption | assumption) (by first | with_reducible assumption | omega) (by first | with_reducible assumption | omega) (by first | with_reducible assumption | assumption) (by first | with_reducible assumption | omega) (by first | with_reducible assumption | assumption) (hbk) (mGo_2 hcb.1 hbk hr3) (hwf)) (csV_200 hts rfl rfl ⟨Nat.le_of_ble_eq_true rfl, Nat.le_of_ble_eq_true rfl⟩) (zPV2 (q0 := 0) (ci := 9) hPc hDc hK hXN rfl rfl) rfl rfl hl.1 rfl (lv_room (Nat.le_of_ble_eq_true rfl)) dX11_plain_155 ⟨Nat.zero_le _, Nat.zero_le _⟩) hS hFc hFc rfl (fun t H locs ht hB hk1 hS => ?_)
                    refine ex13 hB (fun z2 mn2 cx2 cy2 S3 T3 P3 Q3 ox3 oy3 mt3 wi3 ins3 hB0 => ?_)
                    clear hB
                    obtain ⟨hyes, hnot, hP1, hD1⟩ := hB0
                    rw [ht] at hP1
                    obtain ⟨hP, hD⟩ := zn (W2 := [(om k0 a (upd (upd (upd (upd I0 26 (nI ln)) 31 z2) 35 (nI n)) 36 (kd f)) J0), _, _, _, (oa (a 11) cI 201 mn2), (oa (a 12) cI 8040 cx2), (oa (a 13) cI 8040 cy2), (oa (a 32) cI 8 S3), (oa (a 40) cI 6 T3), (oa (a 29) cI 42 P3), (oa (a 30) cI 42 Q3), (oa (a 33) cI 42 ox3), (oa (a 34) cI 42 oy3), (oa (a 37) cZ 201 mt3), (oa (a 38) cZ 201 wi3), (oa (a 39) cZ 8040 ins3), _, _, _, _, _]) hP hD hk1 hFc hP1 hD1 zl_80 zl_175 zl_175 zl_80 (by decide +kernel) rfl rfl rfl rfl rfl
                    clear hk1 hPc hDc hFc hP1 hD1 ht
                    refine lv_if_eq (tgt := 174) hx hb dX11_plain_158 rfl (fun c_9 => ?_) (fun c_9 => ?_)
                    · have c_9 : ¬ (lwP ft st tn kd mn cx cy f n b9) := zp_0 c_9
                      have hno9 := hnot (by first | with_reducible assumption | assumption)
                      rw [hno9.1, hno9.2.1, hno9.2.2] at hP hD
                      refine lv_aload_n hx hb dX11_plain_174 rfl (lv_at hl 3 rfl) ?_
                      refine va_get (D := (dC, dI)) (ci := 9) (v := .ref (a 43)) (C := RX11) (T := TX11) (N := 55) hx hb hts inX11 hown hK hP 0 rfl rfl 43 (Nat.le_of_ble_eq_true rfl) (hts _ mw_1202) (fun _ h9 => h9) rfl dX11_plain_175 ?_
                      refine lv_iload hx hb dX11_plain_178 (lv_at hl 2 rfl) ?_
                      refine zz_i (v := nI b9) (hz9) ?_
                      refine lv_iconst (v := 1) hx hb dX11_plain_180 rfl ?_
                      have b9_10 : b9 < 40 := by omega
                      refine z_zast hx hb hK hP hD hS 16 1 rfl rfl (e := b9) (x := 1) rfl b9_10 (Nat.le_of_ble_eq_true rfl) (by decide) dX11_plain_181 (fun H locs hP hD hS => ?_)
                      obtain ⟨hP, hD⟩ := zre (W2 := [_, _, _, _, _, _, _, _, _, _, _, _, _, _, _, _, (oa (a 43) cZ 40 (upd fl1 b9 1)), _, _, _, _]) hP hD rfl
                      refine lv_goto (tgt := 54) hx hb dX11_plain_182 rfl ?_
                      exact ih_54 (fun j => FS j ∨ j = b9) z2 (nI n) (kd f) S3 T3 P3 Q3 ox3 oy3 mt3 wi3 ins3 (upd fl1 b9 1) H locs ls (Nat.lt_of_lt_of_le (cntP_lt (P := fun j => ¬ FS j) (Q := fun j => ¬ (FS j ∨ j = b9)) (i := b9) (fun j h h2 => h (Or.inl h2)) hbk hbF (fun h => h (Or.inr rfl))) (Nat.le_of_lt_succ hm54)) (by intro j hj; unfold upd; by_cases h : j = b9; rw [if_pos h]; exact (zp_t (Or.inr h)).symm; rw [if_neg h, hfs j hj]; exact zp_iff ⟨Or.inl, fun h2 => h2.resolve_right h⟩) (fun j hj h => hfc j hj (fun h2 => h (Or.inl h2))) (fun j hj h h2 => h.elim (fun h3 => hfd j hj h3 h2) (fun h3 => by rw [h3]; assumption)) hP hD hS (lv_sub hl [3, 4, 5, 6] rfl)
                    · have c_9 : lwP ft st tn kd mn cx cy f n b9 := zp_1 c_9
                      refine lv_aload_n hx hb dX11_plain_161 rfl (lv_at hl 3 rfl) ?_
                      refine lv_iload_n hx hb dX11_plain_162 rfl (lv_at hl 4 rfl) ?_
                      refine lv_iload hx hb dX11_plain_163 (lv_at hl 1 rfl) ?_
                      refine lv_iload hx hb dX11_plain_165 (lv_at hl 0 rfl) ?_
                      refine lv_iload hx hb dX11_plain_167 (lv_at hl 6 rfl) ?_
                      obtain ⟨hPc, hDc, hFc⟩ := zo_sub (wc := [_, _, _, _, _]) hP hD hS hA [0, 17, 18, 19, 20] (by decide +kernel) rfl
                      refine zcall (st1 := []) (va_runV (As := [.int (nI f), .int (cx (40 * f + b9)), .int (cy (40 * f + b9)), .int stp]) (rest := []) ⟨hx, hb, hml, hown, hts⟩ (k_M_lose l dC dI cI cZ cF H.size k0 a (upd (upd (upd (upd I0 26 (nI ln)) 31 z2) 35 (nI n)) 36 (kd f)) J0 (nI f) (cx (40 * f + b9)) (cy (40 * f + b9)) stp ln cl la lb lc ld (rfl) (by first | with_reducible assumption | omega) (by first | with_reducible assumption | omega) (by first | with_reducible assumption | omega)) (csV_201 hts rfl rfl ⟨Nat.le_of_ble_eq_true rfl, Nat.le_of_ble_eq_true rfl⟩) (zPV2 (q0 := 0) (ci := 9) hPc hDc hK hXN rfl rfl) rfl rfl hl.1 rfl (lv_room (Nat.le_of_ble_eq_true rfl)) dX11_plain_169 ⟨show (0 + (4 * (dl cl ln - cl))) ≤ 4 * (dl cl ln - cl) by omega, show (0 + (512 * (dl cl ln - cl))) ≤ 512 * (dl cl ln - cl) by omega⟩) hS hFc hFc rfl (fun t H locs ht hB hk1 hS => ?_)
                      refine ex9 hB (fun bl0 bl1 bl2 bl3 cl1 la1 lb1 lc1 ld1 hB0 => ?_)
                      clear hB
                      obtain ⟨hcc, hnn0, hnn1, hnn2, hnn3, hkk0, hkk1, hkk2, hkk3, hP1, hD1⟩ := hB0
                      rw [ht] at hP1
                      obtain ⟨hP, hD⟩ := zn (W2 := [_, _, _, _, _, _, _, _, _, _, _, _, _, _, _, _, (om k0 (va_up (va_up (va_up (va_up a 22 bl0) 23 bl1) 24 bl2) 25 bl3) (upd (upd (upd (upd I0 26 (nI (ln + 1))) 31 z2) 35 (nI n)) 36 (kd f)) J0), (oa bl0 cI (64 * cl1) la1), (oa bl1 cI (64 * cl1) lb1), (oa bl2 cI (64 * cl1) lc1), (oa bl3 cI (64 * cl1) ld1)]) hP hD hk1 hFc hP1 hD1 [0, 17, 18, 19, 20] zl_123 zl_176 [16, 17, 18, 19, 20] (by decide +kernel) rfl rfl rfl rfl rfl
                      clear hk1 hPc hDc hFc hP1 hD1 ht
                      refine lv_iconst (v := 1) hx hb dX11_plain_172 rfl ?_
                      have hbest : pBest ft st tn kd mn cx cy f n L b9 := ⟨hbk, hcb, by assumption, fun j hj hc hl => hbm j hj (fun h => hfd j hj h hc hl)⟩
                      have hbe : b9 = kb := pBest_u hbest hkb
                      have h8 := hyes (by first | with_reducible assumption | assumption)
                      rw [hbe] at h8
                      obtain ⟨hP9, hD9⟩ := zq_sub (wc := [(om k0 (va_up (va_up (va_up (va_up a 22 bl0) 23 bl1) 24 bl2) 25 bl3) (upd (upd (upd (upd I0 26 (nI (ln + 1))) 31 z2) 35 (nI n)) 36 (kd f)) J0), (oa (a 5) cI 201 st), (oa (a 6) cZ 201 tn), (oa (a 1) cI 201 kd), (oa (a 11) cI 201 mn2), (oa (a 12) cI 8040 cx2), (oa (a 13) cI 8040 cy2), (oa (a 32) cI 8 S3), (oa (a 40) cI 6 T3), (oa (a 29) cI 42 P3), (oa (a 30) cI 42 Q3), (oa (a 33) cI 42 ox3), (oa (a 34) cI 42 oy3), (oa (a 37) cZ 201 mt3), (oa (a 38) cZ 201 wi3), (oa (a 39) cZ 8040 ins3), (oa (a 43) cZ 40 fl1), (oa bl0 cI (64 * cl1) la1), (oa bl1 cI (64 * cl1) lb1), (oa bl2 cI (64 * cl1) lc1), (oa bl3 cI (64 * cl1) ld1)]) hP hD [16, 0, 1, 2, 3, 4, 5, 6, 7, 8, 9, 10, 11, 12, 13, 14, 15, 17, 18, 19, 20] rfl rfl
                      have hE9 : ([(om k0 (va_up (va_up (va_up (va_up a 22 bl0) 23 bl1) 24 bl2) 25 bl3) (upd (upd (upd (upd I0 26 (nI (ln + 1))) 31 z2) 35 (nI n)) 36 (kd f)) J0), (oa (a 5) cI 201 st), (oa (a 6) cZ 201 tn), (oa (a 1) cI 201 kd), (oa (a 11) cI 201 mn2), (oa (a 12) cI 8040 cx2), (oa (a 13) cI 8040 cy2), (oa (a 32) cI 8 S3), (oa (a 40) cI 6 T3), (oa (a 29) cI 42 P3), (oa (a 30) cI 42 Q3), (oa (a 33) cI 42 ox3), (oa (a 34) cI 42 oy3), (oa (a 37) cZ 201 mt3), (oa (a 38) cZ 201 wi3), (oa (a 39) cZ 8040 ins3), (oa (a 43) cZ 40 fl1), (oa bl0 cI (64 * cl1) la1), (oa bl1 cI (64 * cl1) lb1), (oa bl2 cI (64 * cl1) lc1), (oa bl3 cI (64 * cl1) ld1)] : va_W) = [(om k0 (va_up (va_up (va_up (va_up a 22 bl0) 23 bl1) 24 bl2) 25 bl3) (upd (upd (upd (upd I0 26 (nI (ln + 1))) 31 z2) 35 (nI n)) 36 (kd f)) J0), (oa (a 5) cI 201 st), (oa (a 6) cZ 201 tn), (oa (a 1) cI 201 kd), (oa (a 11) cI 201 (upd mn f (nI (n - 1)))), (oa (a 12) cI 8040 (shp f kb (n - 1) cx)), (oa (a 13) cI 8040 (shp f kb (n - 1) cy)), (oa (a 32) cI 8 S3), (oa (a 40) cI 6 T3), (oa (a 29) cI 42 P3), (oa (a 30) cI 42 Q3), (oa (a 33) cI 42 ox3), (oa (a 34) cI 42 oy3), (oa (a 37) cZ 201 mt3), (oa (a 38) cZ 201 wi3), (oa (a 39) cZ 8040 ins3), (oa (a 43) cZ 40 fl1), (oa bl0 cI (64 * (dl cl ln)) la1), (oa bl1 cI (64 * (dl cl ln)) lb1), (oa bl2 cI (64 * (dl cl ln)) lc1), (oa bl3 cI (64 * (dl cl ln)) ld1)] := by rw [h8.1, h8.2.1, h8.2.2, hcc]
                      rw [hE9] at hP9 hD9
                      refine W.widen (k := 4 * (dl cl ln - cl)) (n := 512 * (dl cl ln - cl)) (by omega) (by omega) ?_
                      rw [hQ9]
                      exact W.zret (ty := .boolean) (v := 1) hx hb hr (rfl) (fun t ht hW => ⟨⟨rfl, z2, (nI n), (kd f), S3, T3, P3, Q3, ox3, oy3, mt3, wi3, ins3, fl1, bl0, bl1, bl2, bl3, la1, lb1, lc1, ld1, (fun h j hj => by rcases Nat.lt_or_ge j ln with q | q; rw [hkk1 j q, hkk2 j q]; exact h j q; rw [show j = ln by omega, hnn1, hnn2]; exact hp_f b9 hbk), (by rw [← hbe]; exact ⟨⟨hnn0, hnn1, hnn2, hnn3⟩, fun j hj => ⟨hkk0 j hj, hkk1 j hj, hkk2 j hj, hkk3 j hj⟩⟩), by rw [ht]; exact hP9, hD9⟩, hS.F ht⟩) hS.2.2 dX11_plain_173
                  · have c_7 : zb.toInt = (-1) := zc_eq rfl rfl c_7
                    exact absurd hkb (by intro h9; exact hfd kb h9.1 (bst_no hat (by omega) (by omega) kb (by have := h9.1; omega)) h9.2.1 h9.2.2.1)
                · have c_5 : ((k : Nat) : Int) < ((n : Nat) : Int) := zc_nle (nI_toInt b9_4) (nI_toInt b9_6) c_5
                  have hk9 : k < n := (by omega)
                  have hfk := hfs k hk9
                  have htB := trB hp_f hk9
                  refine lv_aload_n hx hb dX11_plain_71 rfl (lv_at hl 2 rfl) ?_
                  refine va_get (D := (dC, dI)) (ci := 9) (v := .ref (a 43)) (C := RX11) (T := TX11) (N := 55) hx hb hts inX11 hown hK hP 0 rfl rfl 43 (Nat.le_of_ble_eq_true rfl) (hts _ mw_1202) (fun _ h9 => h9) rfl dX11_plain_72 ?_
                  refine lv_iload hx hb dX11_plain_75 (lv_at hl 0 rfl) ?_
                  have b9_11 : k < 40 := by omega
                  refine z_zald hx hb hK hP 16 1 rfl rfl (e := k) rfl b9_11 (Nat.le_of_ble_eq_true rfl) dX11_plain_77 ?_
                  refine zz_i (v := pI (FS k)) (hfk) ?_
                  refine lv_if_ne (tgt := 109) hx hb dX11_plain_78 rfl (fun c_12 => ?_) (fun c_12 => ?_)
                  · have c_12 : FS k := zp_1 c_12
                    refine lv_iinc (v := nI (k + 1)) (lv' := [(6, .int (nI (k + 1))), (5, .int zb), (0, .ref k0), (1, .int (nI f)), (2, .long (jI ((L : Nat) : Int))), (4, .int stp)]) hx hb dX11_plain_109 hl (k := 0) rfl (nI_add k 1) (Nat.le_of_ble_eq_true rfl) rfl (fun ls hl => ?_)
                    refine lv_goto (tgt := 60) hx hb dX11_plain_112 rfl ?_
                    exact ih_60 (k + 1) zb H locs ls (by first | with_reducible assumption | omega) (by first | with_reducible assumption | omega) (by first | exact bst_f hat (by first | with_reducible assumption | assumption) | exact bst_n hat (by first | with_reducible assumption | omega) (by first | with_reducible assumption | omega) (by first | with_reducible assumption | assumption) | exact bst_l hz9 hbk hbF hbm (by first | with_reducible assumption | assumption) (by first | with_reducible assumption | omega) | exact bst_g hz9 hbk hbF hbm (by first | with_reducible assumption | omega)) hP hD hS (lv_sub hl [0, 1, 2, 3, 4, 5] rfl)
                  · have c_12 : ¬ (FS k) := zp_0 c_12
                    refine lv_iload hx hb dX11_plain_81 (lv_at hl 1 rfl) ?_
                    refine lv_iconst (v := (-1)) hx hb dX11_plain_83 rfl ?_
                    refine lv_icmp_eq (tgt := 105) hx hb dX11_plain_84 rfl (fun c_13 => ?_) (fun c_13 => ?_)
                    · have c_13 : zb.toInt = (-1) := zc_eq rfl rfl c_13
                      refine lv_iload hx hb dX11_plain_105 (lv_at hl 0 rfl) ?_
                      refine lv_istore (lv' := [(5, .int (nI k)), (6, .int (nI k)), (0, .ref k0), (1, .int (nI f)), (2, .long (jI ((L : Nat) : Int))), (4, .int stp)]) hx hb dX11_plain_107 hl (Nat.le_of_ble_eq_true rfl) rfl (fun ls hl => ?_)
                      refine lv_iinc (v := nI (k + 1)) (lv' := [(6, .int (nI (k + 1))), (5, .int (nI k)), (0, .ref k0), (1, .int (nI f)), (2, .long (jI ((L : Nat) : Int))), (4, .int stp)]) hx hb dX11_plain_109 hl (k := 1) rfl (nI_add k 1) (Nat.le_of_ble_eq_true rfl) rfl (fun ls hl => ?_)
                      refine lv_goto (tgt := 60) hx hb dX11_plain_112 rfl ?_
                      exact ih_60 (k + 1) (nI k) H locs ls (by first | with_reducible assumption | omega) (by first | with_reducible assumption | omega) (by first | exact bst_f hat (by first | with_reducible assumption | assumption) | exact bst_n hat (by first | with_reducible assumption | omega) (by first | with_reducible assumption | omega) (by first | with_reducible assumption | assumption) | exact bst_l hz9 hbk hbF hbm (by first | with_reducible assumption | assumption) (by first | with_reducible assumption | omega) | exact bst_g hz9 hbk hbF hbm (by first | with_reducible assumption | omega)) hP hD hS (lv_sub hl [0, 1, 2, 3, 4, 5] rfl)
                    · have c_13 : ¬ zb.toInt = (-1) := zc_ne rfl rfl c_13
                      obtain ⟨b9, hz9, hbk, hbF, hbm⟩ := bst_get hat (by omega)
                      have htb := trB (k := b9) hp_f (by omega)
                      refine lv_aload_n hx hb dX11_plain_87 rfl (lv_at hl 2 rfl) ?_
                      refine lv_iload_n hx hb dX11_plain_88 rfl (lv_at hl 3 rfl) ?_
                      refine lv_iload hx hb dX11_plain_89 (lv_at hl 0 rfl) ?_
                      obtain ⟨hPc, hDc, hFc, hI1⟩ := zi_sub (wc := [_, _, _, _]) hP hD hS hA [0, 4, 5, 6] (by decide +kernel) rfl
                      refine zcall (st1 := [.long (jI ((Int.natAbs (cr (cF40 cx f (prv n k)).toInt (cF40 cy f (prv n k)).toInt (cF40 cx f k).toInt (cF40 cy f k).toInt (cF40 cx f (nxt n k)).toInt (cF40 cy f (nxt n k)).toInt) : Nat) : Int))]) (va_runV (As := [.int (nI f), .int (nI k)]) (rest := []) ⟨hx, hb, hml, hown, hts⟩ (k_M_triangle l dC dI cI cZ cF H.size k0 a (upd (upd (upd (upd I0 26 (nI ln)) 31 z9) 35 on1) 36 ok1) J0 f n k mn cx cy (by first | with_reducible assumption | omega) (by first | with_reducible assumption | assumption) (by first | with_reducible assumption | omega) (by first | with_reducible assumption | assumption) (by first | with_reducible assumption | omega)) (csV_202 hts rfl rfl ⟨Nat.le_of_ble_eq_true rfl, Nat.le_of_ble_eq_true rfl⟩) (zPV2 (q0 := 0) (ci := 9) hPc hDc hK hXN rfl rfl) rfl rfl hl.1 rfl (lv_room (Nat.le_of_ble_eq_true rfl)) dX11_plain_91 ⟨Nat.zero_le _, Nat.zero_le _⟩) hS hFc hFc rfl (fun t H locs ht hB hk1 hS => ?_)
                      obtain ⟨hP1, hD1⟩ := hB
                      rw [ht] at hP1
                      replace hP := z0 hP hD hk1 hP1 hI1
                      clear hk1 hPc hDc hFc hP1 hD1 ht hI1
                      refine zz_l (v := jI ((trF cx cy f n k : Nat) : Int)) (rfl) ?_
                      refine lv_aload_n hx hb dX11_plain_94 rfl (lv_at hl 2 rfl) ?_
                      refine lv_iload_n hx hb dX11_plain_95 rfl (lv_at hl 3 rfl) ?_
                      refine lv_iload hx hb dX11_plain_96 (lv_at hl 1 rfl) ?_
                      refine zz_i (v := nI b9) (hz9) ?_
                      obtain ⟨hPc, hDc, hFc, hI1⟩ := zi_sub (wc := [_, _, _, _]) hP hD hS hA [0, 4, 5, 6] (by decide +kernel) rfl
                      refine zcall (st1 := [.long (jI ((Int.natAbs (cr (cF40 cx f (prv n b9)).toInt (cF40 cy f (prv n b9)).toInt (cF40 cx f b9).toInt (cF40 cy f b9).toInt (cF40 cx f (nxt n b9)).toInt (cF40 cy f (nxt n b9)).toInt) : Nat) : Int)), .long (jI ((trF cx cy f n k : Nat) : Int))]) (va_runV (As := [.int (nI f), .int (nI b9)]) (rest := [.long (jI ((trF cx cy f n k : Nat) : Int))]) ⟨hx, hb, hml, hown, hts⟩ (k_M_triangle l dC dI cI cZ cF H.size k0 a (upd (upd (upd (upd I0 26 (nI ln)) 31 z9) 35 on1) 36 ok1) J0 f n b9 mn cx cy (by first | with_reducible assumption | omega) (by first | with_reducible assumption | assumption) (by first | with_reducible assumption | omega) (by first | with_reducible assumption | assumption) (by first | with_reducible assumption | omega)) (csV_202 hts rfl rfl ⟨Nat.le_of_ble_eq_true rfl, Nat.le_of_ble_eq_true rfl⟩) (zPV2 (q0 := 0) (ci := 9) hPc hDc hK hXN rfl rfl) rfl rfl hl.1 rfl (lv_room (Nat.le_of_ble_eq_true rfl)) dX11_plain_98 ⟨Nat.zero_le _, Nat.zero_le _⟩) hS hFc hFc rfl (fun t H locs ht hB hk1 hS => ?_)
                      obtain ⟨hP1, hD1⟩ := hB
                      rw [ht] at hP1
                      replace hP := z0 hP hD hk1 hP1 hI1
                      clear hk1 hPc hDc hFc hP1 hD1 ht hI1
                      refine zz_l (v := jI ((trF cx cy f n b9 : Nat) : Int)) (rfl) ?_
                      refine W.lcmp hx hb dX11_plain_101 ?_
                      refine lv_if_ge (tgt := 109) hx hb dX11_plain_102 rfl (fun c_14 => ?_) (fun c_14 => ?_)
                      · have c_14 : ((trF cx cy f n b9 : Nat) : Int) ≤ ((trF cx cy f n k : Nat) : Int) := zl_ge (jI_toInt (by omega)) (jI_toInt (by omega)) c_14
                        refine lv_iinc (v := nI (k + 1)) (lv' := [(6, .int (nI (k + 1))), (5, .int zb), (0, .ref k0), (1, .int (nI f)), (2, .long (jI ((L : Nat) : Int))), (4, .int stp)]) hx hb dX11_plain_109 hl (k := 0) rfl (nI_add k 1) (Nat.le_of_ble_eq_true rfl) rfl (fun ls hl => ?_)
                        refine lv_goto (tgt := 60) hx hb dX11_plain_112 rfl ?_
                        exact ih_60 (k + 1) zb H locs ls (by first | with_reducible assumption | omega) (by first | with_reducible assumption | omega) (by first | exact bst_f hat (by first | with_reducible assumption | assumption) | exact bst_n hat (by first | with_reducible assumption | omega) (by first | with_reducible assumption | omega) (by first | with_reducible assumption | assumption) | exact bst_l hz9 hbk hbF hbm (by first | with_reducible assumption | assumption) (by first | with_reducible assumption | omega) | exact bst_g hz9 hbk hbF hbm (by first | with_reducible assumption | omega)) hP hD hS (lv_sub hl [0, 1, 2, 3, 4, 5] rfl)
                      · have c_14 : ((trF cx cy f n k : Nat) : Int) < ((trF cx cy f n b9 : Nat) : Int) := zl_nge (jI_toInt (by omega)) (jI_toInt (by omega)) c_14
                        refine lv_iload hx hb dX11_plain_105 (lv_at hl 0 rfl) ?_
                        refine lv_istore (lv' := [(5, .int (nI k)), (6, .int (nI k)), (0, .ref k0), (1, .int (nI f)), (2, .long (jI ((L : Nat) : Int))), (4, .int stp)]) hx hb dX11_plain_107 hl (Nat.le_of_ble_eq_true rfl) rfl (fun ls hl => ?_)
                        refine lv_iinc (v := nI (k + 1)) (lv' := [(6, .int (nI (k + 1))), (5, .int (nI k)), (0, .ref k0), (1, .int (nI f)), (2, .long (jI ((L : Nat) : Int))), (4, .int stp)]) hx hb dX11_plain_109 hl (k := 1) rfl (nI_add k 1) (Nat.le_of_ble_eq_true rfl) rfl (fun ls hl => ?_)
                        refine lv_goto (tgt := 60) hx hb dX11_plain_112 rfl ?_
                        exact ih_60 (k + 1) (nI k) H locs ls (by first | with_reducible assumption | omega) (by first | with_reducible assumption | omega) (by first | exact bst_f hat (by first | with_reducible assumption | assumption) | exact bst_n hat (by first | with_reducible assumption | omega) (by first | with_reducible assumption | omega) (by first | with_reducible assumption | assumption) | exact bst_l hz9 hbk hbF hbm (by first | with_reducible assumption | assumption) (by first | with_reducible assumption | omega) | exact bst_g hz9 hbk hbF hbm (by first | with_reducible assumption | omega)) hP hD hS (lv_sub hl [0, 1, 2, 3, 4, 5] rfl)
            exact hl_60 _ 0 (-1) H locs ls (Nat.lt_succ_self _) (by first | with_reducible assumption | omega) (bst_0 _ _) hP hD hS (lv_sub hl [0, 1, 2, 3, 4, 5] rfl)
        exact hl_54 _ (fun j => ¬ cnd ft st tn kd mn cx cy f n L j) (I0 31) (I0 35) (I0 36) S1 T0 P0 Q0 ox oy mt wi ins fl1 H locs ls (Nat.lt_succ_self _) (fun j hj => hfl j (by first | with_reducible assumption | omega)) (fun j hj h => Classical.not_not.mp h) (fun j hj h h2 => absurd h2 h) hP hD hS (lv_sub hl [1, 2, 3, 4] rfl)
      · have c_2 : ((k : Nat) : Int) < ((n : Nat) : Int) := zc_nle (nI_toInt b9_4) (nI_toInt b9_3) c_2
        have hk9 : k < n := (by omega)
        refine lv_aload_n hx hb dX11_plain_14 rfl (lv_at hl 1 rfl) ?_
        refine va_get (D := (dC, dI)) (ci := 9) (v := .ref (a 43)) (C := RX11) (T := TX11) (N := 55) hx hb hts inX11 hown hK hP 0 rfl rfl 43 (Nat.le_of_ble_eq_true rfl) (hts _ mw_1202) (fun _ h9 => h9) rfl dX11_plain_15 ?_
        refine lv_iload hx hb dX11_plain_18 (lv_at hl 0 rfl) ?_
        refine lv_aload_n hx hb dX11_plain_20 rfl (lv_at hl 1 rfl) ?_
        refine lv_iload_n hx hb dX11_plain_21 rfl (lv_at hl 2 rfl) ?_
        refine lv_iload hx hb dX11_plain_22 (lv_at hl 0 rfl) ?_
        obtain ⟨hPc, hDc, hFc⟩ := zo_sub (wc := [_, _, _, _, _, _, _, _]) hP hD hS hA [0, 1, 2, 3, 4, 5, 6, 7] (by decide +kernel) rfl
        refine zcall (st1 := [.int (pI (mGo ft st tn kd mn cx cy f n k)), .int (nI k), .ref (a 43)]) (va_runV (As := [.int (nI f), .int (nI k)]) (rest := [.int (nI k), .ref (a 43)]) ⟨hx, hb, hml, hown, hts⟩ (k_M_mayGo l dC dI cI cZ cF H.size k0 a (upd I0 26 (nI ln)) J0 f n k ft st tn kd mn cx cy S1 (by first | with_reducible assumption | assumption) (by first | with_reducible assumption | omega) (by first | with_reducible assumption | omega) (by first | with_reducible assumption | assumption) (by first | with_reducible assumption | omega) (by first | with_reducible assumption | assumption) (by first | with_reducible assumption | omega) (by first | with_reducible assumption | assumption)) (csV_203 hts rfl rfl ⟨Nat.le_of_ble_eq_true rfl, Nat.le_of_ble_eq_true rfl⟩) (zPV2 (q0 := 0) (ci := 9) hPc hDc hK hXN rfl rfl) rfl rfl hl.1 rfl (lv_room (Nat.le_of_ble_eq_true rfl)) dX11_plain_24 ⟨Nat.zero_le _, Nat.zero_le _⟩) hS hFc hFc rfl (fun t H locs ht hB hk1 hS => ?_)
        obtain ⟨S2, hP1, hD1⟩ := hB
        rw [ht] at hP1
        obtain ⟨hP, hD⟩ := zn (W2 := [_, _, _, _, _, _, _, (oa (a 32) cI 8 S2), _, _, _, _, _, _, _, _, _, _, _, _, _]) hP hD hk1 hFc hP1 hD1 zl_157 zl_177 zl_177 zl_157 (by decide +kernel) rfl rfl rfl rfl rfl
        clear hk1 hPc hDc hFc hP1 hD1 ht
        refine lv_if_eq (tgt := 42) hx hb dX11_plain_27 rfl (fun c_15 => ?_) (fun c_15 => ?_)
        · have c_15 : ¬ (mGo ft st tn kd mn cx cy f n k) := zp_0 c_15
          refine lv_iconst (v := 1) hx hb dX11_plain_42 rfl ?_
          refine lv_goto (tgt := 47) hx hb dX11_plain_43 rfl ?_
          refine zz_i (v := pI (¬ cnd ft st tn kd mn cx cy f n L k)) (by first | exact (zp_t (fun h => absurd h.1 (by first | with_reducible assumption | assumption))).symm | exact (zp_t (fun h => absurd h.2 (by omega))).symm | exact (zp_f (fun h => h ⟨by assumption, by omega⟩)).symm) ?_
          have b9_16 : k < 40 := by omega
          refine z_zast hx hb hK hP hD hS 16 1 rfl rfl (e := k) (x := pI (¬ cnd ft st tn kd mn cx cy f n L k)) rfl b9_16 (Nat.le_of_ble_eq_true rfl) (zp_and _) dX11_plain_47 (fun H locs hP hD hS => ?_)
          obtain ⟨hP, hD⟩ := zre (W2 := [_, _, _, _, _, _, _, _, _, _, _, _, _, _, _, _, (oa (a 43) cZ 40 (upd fl1 k (pI (¬ cnd ft st tn kd mn cx cy f n L k)))), _, _, _, _]) hP hD rfl
          refine lv_iinc (v := nI (k + 1)) (lv' := [(5, .int (nI (k + 1))), (0, .ref k0), (1, .int (nI f)), (2, .long (jI ((L : Nat) : Int))), (4, .int stp)]) hx hb dX11_plain_48 hl (k := 0) rfl (nI_add k 1) (Nat.le_of_ble_eq_true rfl) rfl (fun ls hl => ?_)
          refine lv_goto (tgt := 3) hx hb dX11_plain_51 rfl ?_
          exact ih_3 (k + 1) S2 (upd fl1 k (pI (¬ cnd ft st tn kd mn cx cy f n L k))) H locs ls (by first | with_reducible assumption | omega) (by first | with_reducible assumption | omega) (by intro j hj; rcases Nat.lt_or_ge j k with h | h; simp only [upd, if_neg (show j ≠ k by omega)]; exact hfl j h; rw [show j = k by omega]; simp only [upd, if_true]) hP hD hS (lv_sub hl [0, 1, 2, 3, 4] rfl)
        · have c_15 : mGo ft st tn kd mn cx cy f n k := zp_1 c_15
          refine lv_aload_n hx hb dX11_plain_30 rfl (lv_at hl 1 rfl) ?_
          refine lv_iload_n hx hb dX11_plain_31 rfl (lv_at hl 2 rfl) ?_
          refine lv_iload hx hb dX11_plain_32 (lv_at hl 0 rfl) ?_
          obtain ⟨hPc, hDc, hFc, hI1⟩ := zi_sub (wc := [_, _, _, _]) hP hD hS hA [0, 4, 5, 6] (by decide +kernel) rfl
          refine zcall (st1 := [.long (jI ((Int.natAbs (cr (cF40 cx f (prv n k)).toInt (cF40 cy f (prv n k)).toInt (cF40 cx f k).toInt (cF40 cy f k).toInt (cF40 cx f (nxt n k)).toInt (cF40 cy f (nxt n k)).toInt) : Nat) : Int)), .int (nI k), .ref (a 43)]) (va_runV (As := [.int (nI f), .int (nI k)]) (rest := [.int (nI k), .ref (a 43)]) ⟨hx, hb, hml, hown, hts⟩ (k_M_triangle l dC dI cI cZ cF H.size k0 a (upd I0 26 (nI ln)) J0 f n k mn cx cy (by first | with_reducible assumption | omega) (by first | with_reducible assumption | assumption) (by first | with_reducible assumption | omega) (by first | with_reducible assumption | assumption) (by first | with_reducible assumption | omega)) (csV_202 hts rfl rfl ⟨Nat.le_of_ble_eq_true rfl, Nat.le_of_ble_eq_true rfl⟩) (zPV2 (q0 := 0) (ci := 9) hPc hDc hK hXN rfl rfl) rfl rfl hl.1 rfl (lv_room (Nat.le_of_ble_eq_true rfl)) dX11_plain_34 ⟨Nat.zero_le _, Nat.zero_le _⟩) hS hFc hFc rfl (fun t H locs ht hB hk1 hS => ?_)
          obtain ⟨hP1, hD1⟩ := hB
          rw [ht] at hP1
          replace hP := z0 hP hD hk1 hP1 hI1
          clear hk1 hPc hDc hFc hP1 hD1 ht hI1
          refine zz_l (v := jI ((trF cx cy f n k : Nat) : Int)) (rfl) ?_
          have htB := trB hp_f hk9
          refine lv_lload_n hx hb dX11_plain_37 rfl (lv_at hl 3 rfl) ?_
          refine W.lcmp hx hb dX11_plain_38 ?_
          refine lv_if_le (tgt := 46) hx hb dX11_plain_39 rfl (fun c_17 => ?_) (fun c_17 => ?_)
          · have c_17 : ((trF cx cy f n k : Nat) : Int) ≤ ((L : Nat) : Int) := zl_le (jI_toInt (by omega)) (jI_toInt (by omega)) c_17
            refine lv_iconst (v := 0) hx hb dX11_plain_46 rfl ?_
            refine zz_i (v := pI (¬ cnd ft st tn kd mn cx cy f n L k)) (by first | exact (zp_t (fun h => absurd h.1 (by first | with_reducible assumption | assumption))).symm | exact (zp_t (fun h => absurd h.2 (by omega))).symm | exact (zp_f (fun h => h ⟨by assumption, by omega⟩)).symm) ?_
            have b9_18 : k < 40 := by omega
            refine z_zast hx hb hK hP hD hS 16 1 rfl rfl (e := k) (x := pI (¬ cnd ft st tn kd mn cx cy f n L k)) rfl b9_18 (Nat.le_of_ble_eq_true rfl) (zp_and _) dX11_plain_47 (fun H locs hP hD hS => ?_)
            obtain ⟨hP, hD⟩ := zre (W2 := [_, _, _, _, _, _, _, _, _, _, _, _, _, _, _, _, (oa (a 43) cZ 40 (upd fl1 k (pI (¬ cnd ft st tn kd mn cx cy f n L k)))), _, _, _, _]) hP hD rfl
            refine lv_iinc (v := nI (k + 1)) (lv' := [(5, .int (nI (k + 1))), (0, .ref k0), (1, .int (nI f)), (2, .long (jI ((L : Nat) : Int))), (4, .int stp)]) hx hb dX11_plain_48 hl (k := 0) rfl (nI_add k 1) (Nat.le_of_ble_eq_true rfl) rfl (fun ls hl => ?_)
            refine lv_goto (tgt := 3) hx hb dX11_plain_51 rfl ?_
            exact ih_3 (k + 1) S2 (upd fl1 k (pI (¬ cnd ft st tn kd mn cx cy f n L k))) H locs ls (by first | with_reducible assumption | omega) (by first | with_reducible assumption | omega) (by intro j hj; rcases Nat.lt_or_ge j k with h | h; simp only [upd, if_neg (show j ≠ k by omega)]; exact hfl j h; rw [show j = k by omega]; simp only [upd, if_true]) hP hD hS (lv_sub hl [0, 1, 2, 3, 4] rfl)
          · have c_17 : ((L : Nat) : Int) < ((trF cx cy f n k : Nat) : Int) := zl_nle (jI_toInt (by omega)) (jI_toInt (by omega)) c_17
            refine lv_iconst (v := 1) hx hb dX11_plain_42 rfl ?_
            refine lv_goto (tgt := 47) hx hb dX11_plain_43 rfl ?_
            refine zz_i (v := pI (¬ cnd ft st tn kd mn cx cy f n L k)) (by first | exact (zp_t (fun h => absurd h.1 (by first | with_reducible assumption | assumption))).symm | exact (zp_t (fun h => absurd h.2 (by omega))).symm | exact (zp_f (fun h => h ⟨by assumption, by omega⟩)).symm) ?_
            have b9_19 : k < 40 := by omega
            refine z_zast hx hb hK hP hD hS 16 1 rfl rfl (e := k) (x := pI (¬ cnd ft st tn kd mn cx cy f n L k)) rfl b9_19 (Nat.le_of_ble_eq_true rfl) (zp_and _) dX11_plain_47 (fun H locs hP hD hS => ?_)
            obtain ⟨hP, hD⟩ := zre (W2 := [_, _, _, _, _, _, _, _, _, _, _, _, _, _, _, _, (oa (a 43) cZ 40 (upd fl1 k (pI (¬ cnd ft st tn kd mn cx cy f n L k)))), _, _, _, _]) hP hD rfl
            refine lv_iinc (v := nI (k + 1)) (lv' := [(5, .int (nI (k + 1))), (0, .ref k0), (1, .int (nI f)), (2, .long (jI ((L : Nat) : Int))), (4, .int stp)]) hx hb dX11_plain_48 hl (k := 0) rfl (nI_add k 1) (Nat.le_of_ble_eq_true rfl) rfl (fun ls hl => ?_)
            refine lv_goto (tgt := 3) hx hb dX11_plain_51 rfl ?_
            exact ih_3 (k + 1) S2 (upd fl1 k (pI (¬ cnd ft st tn kd mn cx cy f n L k))) H locs ls (by first | with_reducible assumption | omega) (by first | with_reducible assumption | omega) (by intro j hj; rcases Nat.lt_or_ge j k with h | h; simp only [upd, if_neg (show j ≠ k by omega)]; exact hfl j h; rw [show j = k by omega]; simp only [upd, if_true]) hP hD hS (lv_sub hl [0, 1, 2, 3, 4] rfl)
  exact hl_3 _ 0 S0 fl s.heap [] ls (Nat.lt_succ_self _) (by first | with_reducible assumption | omega) (by intro j hj; omega) hP hD hS (lv_sub hl [0, 1, 2, 3, 4] rfl)
set_option maxHeartbeats 4000000 in
set_option maxRecDepth 100000 in
theorem k_M_plain_n (l : Launch) (dC : Nat → ClassId) (dI : Nat → Nat → Nat) (cI cZ cF : ClassId) (sz : Nat) (k0 : Nat) (a : Nat → Nat) (I0 : Nat → Int32) (J0 : Nat → Int64) (f : Nat) (n : Nat) (L : Nat) (ft : Nat) (ln : Nat) (cl : Nat) (stp : Int32) (st : Nat → Int32) (tn : Nat → Int32) (kd : Nat → Int32) (mn : Nat → Int32) (cx : Nat → Int32) (cy : Nat → Int32) (S0 : Nat → Int32) (T0 : Nat → Int32) (P0 : Nat → Int32) (Q0 : Nat → Int32) (ox : Nat → Int32) (oy : Nat → Int32) (mt : Nat → Int32) (wi : Nat → Int32) (ins : Nat → Int32) (fl : Nat → Int32) (la : Nat → Int32) (lb : Nat → Int32) (lc : Nat → Int32) (ld : Nat → Int32) (hft : I0 0 = nI ft) (h200 : ft ≤ 200) (hf_f : f ≤ 200) (hm_f : mn f = nI n) (hn_f : 1 ≤ n ∧ n ≤ 40) (hp_f : pls n (cF40 cx f) (cF40 cy f)) (hL : L ≤ 2147483647) (hwf : ∀ q, lvF ft st tn q → wfM mn cx cy q) (hr3 : 5 ≤ (kd f).toInt → 3 ≤ n) (hnb : ¬ ∃ k, pBest ft st tn kd mn cx cy f n L k) : zM l yX11_plain cX11_plain 8 (some .boolean) ({ frames := 7, cells := 0, slots := 0, locals := 182 } : Room) [.ref k0, .int (nI f), .long (jI ((L : Nat) : Int)), .int stp] (dC, dI) (zTy cI cZ cF) [(om k0 a (upd I0 26 (nI ln)) J0), (oa (a 5) cI 201 st), (oa (a 6) cZ 201 tn), (oa (a 1) cI 201 kd), (oa (a 11) cI 201 mn), (oa (a 12) cI 8040 cx), (oa (a 13) cI 8040 cy), (oa (a 32) cI 8 S0), (oa (a 40) cI 6 T0), (oa (a 29) cI 42 P0), (oa (a 30) cI 42 Q0), (oa (a 33) cI 42 ox), (oa (a 34) cI 42 oy), (oa (a 37) cZ 201 mt), (oa (a 38) cZ 201 wi), (oa (a 39) cZ 8040 ins), (oa (a 43) cZ 40 fl), (oa (a 22) cI (64 * cl) la), (oa (a 23) cI (64 * cl) lb), (oa (a 24) cI (64 * cl) lc), (oa (a 25) cI (64 * cl) ld)] sz (some (.int 0)) (fun A t => ∃ (z9 : Int32), ∃ (on1 : Int32), ∃ (ok1 : Int32), ∃ (S1 : Nat → Int32), ∃ (T1 : Nat → Int32), ∃ (P1 : Nat → Int32), ∃ (Q1 : Nat → Int32), ∃ (ox1 : Nat → Int32), ∃ (oy1 : Nat → Int32), ∃ (mt1 : Nat → Int32), ∃ (wi1 : Nat → Int32), ∃ (ins1 : Nat → Int32), ∃ (fl1 : Nat → Int32), zPD (dC, dI) classes A [(om k0 a (upd (upd (upd (upd I0 26 (nI ln)) 31 z9) 35 on1) 36 ok1) J0), (oa (a 5) cI 201 st), (oa (a 6) cZ 201 tn), (oa (a 1) cI 201 kd), (oa (a 11) cI 201 mn), (oa (a 12) cI 8040 cx), (oa (a 13) cI 8040 cy), (oa (a 32) cI 8 S1), (oa (a 40) cI 6 T1), (oa (a 29) cI 42 P1), (oa (a 30) cI 42 Q1), (oa (a 33) cI 42 ox1), (oa (a 34) cI 42 oy1), (oa (a 37) cZ 201 mt1), (oa (a 38) cZ 201 wi1), (oa (a 39) cZ 8040 ins1), (oa (a 43) cZ 40 fl1), (oa (a 22) cI (64 * cl) la), (oa (a 23) cI (64 * cl) lb), (oa (a 24) cI (64 * cl) lc), (oa (a 25) cI (64 * cl) ld)] t.heap) 0 0 := by
  refine zIn (own := "ScaleShopModel") (loc := [(0, .ref k0), (1, .int (nI f)), (2, .long (jI ((L : Nat) : Int))), (4, .int stp)]) rfl rfl rfl rfl (fun p e s m below meth c hx hb hr hts hown hlocks hml hnm9 A hA hS hP hD hK hXN Q9 hQ9 ls hl => ?_)
  refine lv_iconst (v := 0) hx hb dX11_plain_0 rfl ?_
  refine lv_istore (lv' := [(5, .int 0), (0, .ref k0), (1, .int (nI f)), (2, .long (jI ((L : Nat) : Int))), (4, .int stp)]) hx hb dX11_plain_1 hl (Nat.le_of_ble_eq_true rfl) rfl (fun ls hl => ?_)
  have hl_3 : ∀ (n9 : Nat) (k : Nat) (S1 : Nat → Int32) (fl1 : Nat → Int32) (H : Heap) (locs : List Loc) (ls : Array Slot), n - k < n9 → (k ≤ n) → (∀ j, j < k → fl1 j = pI (¬ cnd ft st tn kd mn cx cy f n L j)) → va_P (dC, dI) classes [(om k0 a (upd I0 26 (nI ln)) J0), (oa (a 5) cI 201 st), (oa (a 6) cZ 201 tn), (oa (a 1) cI 201 kd), (oa (a 11) cI 201 mn), (oa (a 12) cI 8040 cx), (oa (a 13) cI 8040 cy), (oa (a 32) cI 8 S1), (oa (a 40) cI 6 T0), (oa (a 29) cI 42 P0), (oa (a 30) cI 42 Q0), (oa (a 33) cI 42 ox), (oa (a 34) cI 42 oy), (oa (a 37) cZ 201 mt), (oa (a 38) cZ 201 wi), (oa (a 39) cZ 8040 ins), (oa (a 43) cZ 40 fl1), (oa (a 22) cI (64 * cl) la), (oa (a 23) cI (64 * cl) lb), (oa (a 24) cI (64 * cl) lc), (oa (a 25) cI (64 * cl) ld)] H → va_D A [(om k0 a (upd I0 26 (nI ln)) J0), (oa (a 5) cI 201 st), (oa (a 6) cZ 201 tn), (oa (a 1) cI 201 kd), (oa (a 11) cI 201 mn), (oa (a 12) cI 8040 cx), (oa (a 13) cI 8040 cy), (oa (a 32) cI 8 S1), (oa (a 40) cI 6 T0), (oa (a 29) cI 42 P0), (oa (a 30) cI 42 Q0), (oa (a 33) cI 42 ox), (oa (a 34) cI 42 oy), (oa (a 37) cZ 201 mt), (oa (a 38) cZ 201 wi), (oa (a 39) cZ 8040 ins), (oa (a 43) cZ 40 fl1), (oa (a 22) cI (64 * cl) la), (oa (a 23) cI (64 * cl) lb), (oa (a 24) cI (64 * cl) lc), (oa (a 25) cI (64 * cl) ld)] → va_S A s.heap H locs → lv_has ls 8 [(5, .int (nI k)), (0, .ref k0), (1, .int (nI f)), (2, .long (jI ((L : Nat) : Int))), (4, .int stp)] → W p l e ({ frames := 7, cells := 0, slots := 0, locals := 182 } : Room) s m ([.ref k0, .int (nI f), .long (jI ((L : Nat) : Int)), .int stp] : List Value).toArray below meth c H locs 0 0 Q9 (F0 m 3 ls []) := by
    intro n9
    induction n9 with
    | zero => intro k S1 fl1 H locs ls hm; exact absurd hm (Nat.not_lt_zero _)
    | succ n9 ih_3 =>
      intro k S1 fl1 H locs ls hm hk hfl hP hD hS hl
      refine lv_iload hx hb dX11_plain_3 (lv_at hl 0 rfl) ?_
      refine lv_aload_n hx hb dX11_plain_5 rfl (lv_at hl 1 rfl) ?_
      refine va_get (D := (dC, dI)) (ci := 9) (v := .ref (a 11)) (C := RX11) (T := TX11) (N := 55) hx hb hts inX11 hown hK hP 0 rfl rfl 11 (Nat.le_of_ble_eq_true rfl) (hts _ mw_1170) (fun _ h9 => h9) rfl dX11_plain_6 ?_
      refine lv_iload_n hx hb dX11_plain_9 rfl (lv_at hl 2 rfl) ?_
      have b9_1 : f < 201 := by omega
      refine z_iald hx hb hK hP 4 0 rfl rfl (e := f) rfl b9_1 (Nat.le_of_ble_eq_true rfl) dX11_plain_10 ?_
      refine zz_i (v := nI n) (hm_f) ?_
      have b9_3 : zlt (k) := show k < 2147483648 by omega
      have b9_4 : zlt (n) := show n < 2147483648 by omega
      refine lv_icmp_ge (tgt := 54) hx hb dX11_plain_11 rfl (fun c_2 => ?_) (fun c_2 => ?_)
      · have c_2 : ((n : Nat) : Int) ≤ ((k : Nat) : Int) := zc_le (nI_toInt b9_4) (nI_toInt b9_3) c_2
        have hl_54 : ∀ (n9 : Nat) (FS : Nat → Prop) (z9 : Int32) (on1 : Int32) (ok1 : Int32) (S1 : Nat → Int32) (T1 : Nat → Int32) (P1 : Nat → Int32) (Q1 : Nat → Int32) (ox1 : Nat → Int32) (oy1 : Nat → Int32) (mt1 : Nat → Int32) (wi1 : Nat → Int32) (ins1 : Nat → Int32) (fl1 : Nat → Int32) (H : Heap) (locs : List Loc) (ls : Array Slot), cntP (fun j => ¬ FS j) n < n9 → (∀ j, j < n → fl1 j = pI (FS j)) → (∀ j, j < n → ¬ FS j → cnd ft st tn kd mn cx cy f n L j) → (∀ j, j < n → FS j → cnd ft st tn kd mn cx cy f n L j → ¬ lwP ft st tn kd mn cx cy f n j) → va_P (dC, dI) classes [(om k0 a (upd (upd (upd (upd I0 26 (nI ln)) 31 z9) 35 on1) 36 ok1) J0), (oa (a 5) cI 201 st), (oa (a 6) cZ 201 tn), (oa (a 1) cI 201 kd), (oa (a 11) cI 201 mn), (oa (a 12) cI 8040 cx), (oa (a 13) cI 8040 cy), (oa (a 32) cI 8 S1), (oa (a 40) cI 6 T1), (oa (a 29) cI 42 P1), (oa (a 30) cI 42 Q1), (oa (a 33) cI 42 ox1), (oa (a 34) cI 42 oy1), (oa (a 37) cZ 201 mt1), (oa (a 38) cZ 201 wi1), (oa (a 39) cZ 8040 ins1), (oa (a 43) cZ 40 fl1), (oa (a 22) cI (64 * cl) la), (oa (a 23) cI (64 * cl) lb), (oa (a 24) cI (64 * cl) lc), (oa (a 25) cI (64 * cl) ld)] H → va_D A [(om k0 a (upd (upd (upd (upd I0 26 (nI ln)) 31 z9) 35 on1) 36 ok1) J0), (oa (a 5) cI 201 st), (oa (a 6) cZ 201 tn), (oa (a 1) cI 201 kd), (oa (a 11) cI 201 mn), (oa (a 12) cI 8040 cx), (oa (a 13) cI 8040 cy), (oa (a 32) cI 8 S1), (oa (a 40) cI 6 T1), (oa (a 29) cI 42 P1), (oa (a 30) cI 42 Q1), (oa (a 33) cI 42 ox1), (oa (a 34) cI 42 oy1), (oa (a 37) cZ 201 mt1), (oa (a 38) cZ 201 wi1), (oa (a 39) cZ 8040 ins1), (oa (a 43) cZ 40 fl1), (oa (a 22) cI (64 * cl) la), (oa (a 23) cI (64 * cl) lb), (oa (a 24) cI (64 * cl) lc), (oa (a 25) cI (64 * cl) ld)] → va_S A s.heap H locs → lv_has ls 8 [(0, .ref k0), (1, .int (nI f)), (2, .long (jI ((L : Nat) : Int))), (4, .int stp)] → W p l e ({ frames := 7, cells := 0, slots := 0, locals := 182 } : Room) s m ([.ref k0, .int (nI f), .long (jI ((L : Nat) : Int)), .int stp] : List Value).toArray below meth c H locs 0 0 Q9 (F0 m 54 ls []) := by
          intro n9
          induction n9 with
          | zero => intro FS z9 on1 ok1 S1 T1 P1 Q1 ox1 oy1 mt1 wi1 ins1 fl1 H locs ls hm; exact absurd hm (Nat.not_lt_zero _)
          | succ n9 ih_54 =>
            intro FS z9 on1 ok1 S1 T1 P1 Q1 ox1 oy1 mt1 wi1 ins1 fl1 H locs ls hm hfs hfc hfd hP hD hS hl
            have hm54 := hm
            refine lv_iconst (v := (-1)) hx hb dX11_plain_54 rfl ?_
            refine lv_istore (lv' := [(5, .int (-1)), (0, .ref k0), (1, .int (nI f)), (2, .long (jI ((L : Nat) : Int))), (4, .int stp)]) hx hb dX11_plain_55 hl (Nat.le_of_ble_eq_true rfl) rfl (fun ls hl => ?_)
            refine lv_iconst (v := 0) hx hb dX11_plain_57 rfl ?_
            refine lv_istore (lv' := [(6, .int 0), (5, .int (-1)), (0, .ref k0), (1, .int (nI f)), (2, .long (jI ((L : Nat) : Int))), (4, .int stp)]) hx hb dX11_plain_58 hl (Nat.le_of_ble_eq_true rfl) rfl (fun ls hl => ?_)
            have hl_60 : ∀ (n9 : Nat) (k : Nat) (zb : Int32) (H : Heap) (locs : List Loc) (ls : Array Slot), n - k < n9 → (k ≤ n) → (bstS (trF cx cy f n) FS k zb) → va_P (dC, dI) classes [(om k0 a (upd (upd (upd (upd I0 26 (nI ln)) 31 z9) 35 on1) 36 ok1) J0), (oa (a 5) cI 201 st), (oa (a 6) cZ 201 tn), (oa (a 1) cI 201 kd), (oa (a 11) cI 201 mn), (oa (a 12) cI 8040 cx), (oa (a 13) cI 8040 cy), (oa (a 32) cI 8 S1), (oa (a 40) cI 6 T1), (oa (a 29) cI 42 P1), (oa (a 30) cI 42 Q1), (oa (a 33) cI 42 ox1), (oa (a 34) cI 42 oy1), (oa (a 37) cZ 201 mt1), (oa (a 38) cZ 201 wi1), (oa (a 39) cZ 8040 ins1), (oa (a 43) cZ 40 fl1), (oa (a 22) cI (64 * cl) la), (oa (a 23) cI (64 * cl) lb), (oa (a 24) cI (64 * cl) lc), (oa (a 25) cI (64 * cl) ld)] H → va_D A [(om k0 a (upd (upd (upd (upd I0 26 (nI ln)) 31 z9) 35 on1) 36 ok1) J0), (oa (a 5) cI 201 st), (oa (a 6) cZ 201 tn), (oa (a 1) cI 201 kd), (oa (a 11) cI 201 mn), (oa (a 12) cI 8040 cx), (oa (a 13) cI 8040 cy), (oa (a 32) cI 8 S1), (oa (a 40) cI 6 T1), (oa (a 29) cI 42 P1), (oa (a 30) cI 42 Q1), (oa (a 33) cI 42 ox1), (oa (a 34) cI 42 oy1), (oa (a 37) cZ 201 mt1), (oa (a 38) cZ 201 wi1), (oa (a 39) cZ 8040 ins1), (oa (a 43) cZ 40 fl1), (oa (a 22) cI (64 * cl) la), (oa (a 23) cI (64 * cl) lb), (oa (a 24) cI (64 * cl) lc), (oa (a 25) cI (64 * cl) ld)] → va_S A s.heap H locs → lv_has ls 8 [(6, .int (nI k)), (5, .int zb), (0, .ref k0), (1, .int (nI f)), (2, .long (jI ((L : Nat) : Int))), (4, .int stp)] → W p l e ({ frames := 7, cells := 0, slots := 0, locals := 182 } : Room) s m ([.ref k0, .int (nI f), .long (jI ((L : Nat) : Int)), .int stp] : List Value).toArray below meth c H locs 0 0 Q9 (F0 m 60 ls []) := by
              intro n9
              induction n9 with
              | zero => intro k zb H locs ls hm; exact absurd hm (Nat.not_lt_zero _)
              | succ n9 ih_60 =>
                intro k zb H locs ls hm hk hat hP hD hS hl
                refine lv_iload hx hb dX11_plain_60 (lv_at hl 0 rfl) ?_
                refine lv_aload_n hx hb dX11_plain_62 rfl (lv_at hl 2 rfl) ?_
                refine va_get (D := (dC, dI)) (ci := 9) (v := .ref (a 11)) (C := RX11) (T := TX11) (N := 55) hx hb hts inX11 hown hK hP 0 rfl rfl 11 (Nat.le_of_ble_eq_true rfl) (hts _ mw_1170) (fun _ h9 => h9) rfl dX11_plain_63 ?_
                refine lv_iload_n hx hb dX11_plain_66 rfl (lv_at hl 3 rfl) ?_
                refine z_iald hx hb hK hP 4 0 rfl rfl (e := f) rfl b9_1 (Nat.le_of_ble_eq_true rfl) dX11_plain_67 ?_
                refine zz_i (v := nI n) (hm_f) ?_
                have b9_6 : zlt (k) := show k < 2147483648 by omega
                refine lv_icmp_ge (tgt := 115) hx hb dX11_plain_68 rfl (fun c_5 => ?_) (fun c_5 => ?_)
                · have c_5 : ((n : Nat) : Int) ≤ ((k : Nat) : Int) := zc_le (nI_toInt b9_4) (nI_toInt b9_6) c_5
                  refine lv_iload hx hb dX11_plain_115 (lv_at hl 1 rfl) ?_
                  refine lv_iconst (v := (-1)) hx hb dX11_plain_117 rfl ?_
                  refine lv_icmp_ne (tgt := 123) hx hb dX11_plain_118 rfl (fun c_7 => ?_) (fun c_7 => ?_)
                  · have c_7 : ¬ zb.toInt = (-1) := zc_ne rfl rfl c_7
                    have hkn : k = n := (by omega)
                    rw [hkn] at hat
                    obtain ⟨b9, hz9, hbk, hbF, hbm⟩ := bst_get hat (by omega)
                    have hcb := hfc b9 hbk hbF
                    refine lv_aload_n hx hb dX11_plain_123 rfl (lv_at hl 2 rfl) ?_
                    refine va_get (D := (dC, dI)) (ci := 9) (v := .ref (a 12)) (C := RX11) (T := TX11) (N := 55) hx hb hts inX11 hown hK hP 0 rfl rfl 12 (Nat.le_of_ble_eq_true rfl) (hts _ mw_1171) (fun _ h9 => h9) rfl dX11_plain_124 ?_
                    refine lv_bipush (v := 40) hx hb dX11_plain_127 rfl ?_
                    refine lv_iload_n hx hb dX11_plain_129 rfl (lv_at hl 3 rfl) ?_
                    refine lv_imul hx hb dX11_plain_130 ?_
                    refine zz_i (v := nI (40 * f)) (pk_mul 40 f) ?_
                    refine lv_iload hx hb dX11_plain_131 (lv_at hl 1 rfl) ?_
                    refine zz_i (v := nI b9) (hz9) ?_
                    refine lv_iadd hx hb dX11_plain_133 ?_
                    refine zz_i (v := nI (40 * f + b9)) (nI_add (40 * f) b9) ?_
                    have b9_8 : 40 * f + b9 < 8040 := by omega
                    refine z_iald hx hb hK hP 5 0 rfl rfl (e := 40 * f + b9) rfl b9_8 (Nat.le_of_ble_eq_true rfl) dX11_plain_134 ?_
                    refine lv_istore (lv' := [(6, .int (cx (40 * f + b9))), (5, .int zb), (0, .ref k0), (1, .int (nI f)), (2, .long (jI ((L : Nat) : Int))), (4, .int stp)]) hx hb dX11_plain_135 hl (Nat.le_of_ble_eq_true rfl) rfl (fun ls hl => ?_)
                    refine lv_aload_n hx hb dX11_plain_137 rfl (lv_at hl 2 rfl) ?_
                    refine va_get (D := (dC, dI)) (ci := 9) (v := .ref (a 13)) (C := RX11) (T := TX11) (N := 55) hx hb hts inX11 hown hK hP 0 rfl rfl 13 (Nat.le_of_ble_eq_true rfl) (hts _ mw_1172) (fun _ h9 => h9) rfl dX11_plain_138 ?_
                    refine lv_bipush (v := 40) hx hb dX11_plain_141 rfl ?_
                    refine lv_iload_n hx hb dX11_plain_143 rfl (lv_at hl 3 rfl) ?_
                    refine lv_imul hx hb dX11_plain_144 ?_
                    refine zz_i (v := nI (40 * f)) (pk_mul 40 f) ?_
                    refine lv_iload hx hb dX11_plain_145 (lv_at hl 1 rfl) ?_
                    refine zz_i (v := nI b9) (hz9) ?_
                    refine lv_iadd hx hb dX11_plain_147 ?_
                    refine zz_i (v := nI (40 * f + b9)) (nI_add (40 * f) b9) ?_
                    refine z_iald hx hb hK hP 6 0 rfl rfl (e := 40 * f + b9) rfl b9_8 (Nat.le_of_ble_eq_true rfl) dX11_plain_148 ?_
                    refine lv_istore (lv' := [(7, .int (cy (40 * f + b9))), (6, .int (cx (40 * f + b9))), (5, .int zb), (0, .ref k0), (1, .int (nI f)), (2, .long (jI ((L : Nat) : Int))), (4, .int stp)]) hx hb dX11_plain_149 hl (Nat.le_of_ble_eq_true rfl) rfl (fun ls hl => ?_)
                    refine lv_aload_n hx hb dX11_plain_151 rfl (lv_at hl 3 rfl) ?_
                    refine lv_iload_n hx hb dX11_plain_152 rfl (lv_at hl 4 rfl) ?_
                    refine lv_iload hx hb dX11_plain_153 (lv_at hl 2 rfl) ?_
                    refine zz_i (v := nI b9) (hz9) ?_
                    obtain ⟨hPc, hDc, hFc⟩ := zo_sub (wc := [_, _, _, _, _, _, _, _, _, _, _, _, _, _, _, _]) hP hD hS hA [0, 1, 2, 3, 4, 5, 6, 7, 8, 9, 10, 11, 12, 13, 14, 15] (by decide +kernel) rfl
                    refine zcall (st1 := [.int (pI (lwP ft st tn kd mn cx cy f n b9))]) (va_runV (As := [.int (nI f), .int (nI b9)]) (rest := []) ⟨hx, hb, hml, hown, hts⟩ (k_M_goes l dC dI cI cZ cF H.size k0 a (upd (upd (upd (upd I0 26 (nI ln)) 31 z9) 35 on1) 36 ok1) J0 f n b9 ft st tn kd mn cx cy S1 T1 P1 Q1 ox1 oy1 mt1 wi1 ins1 (by first | with_reducible assumption | assumption) (by first | with_reducible assumption | omega) (by first | with_reducible assumption | omega) (by first | with_reducible assumption | assumption) (by first | with_reducible assumption | omega) (by first | with_reducible assumption | assumption) (hbk) (mGo_2 hcb.1 hbk hr3) (hwf)) (csV_200 hts rfl rfl ⟨Nat.le_of_ble_eq_true rfl, Nat.le_of_ble_eq_true rfl⟩) (zPV2 (q0 := 0) (ci := 9) hPc hDc hK hXN rfl rfl) rfl rfl hl.1 rfl (lv_room (Nat.le_of_ble_eq_true rfl)) dX11_plain_155 ⟨Nat.le_of_ble_eq_true rfl, Nat.le_of_ble_eq_true rfl⟩) hS hFc hFc rfl (fun t H locs ht hB hk1 hS => ?_)
                    refine ex13 hB (fun z2 mn2 cx2 cy2 S3 T3 P3 Q3 ox3 oy3 mt3 wi3 ins3 hB0 => ?_)
                    clear hB
                    obtain ⟨hyes, hnot, hP1, hD1⟩ := hB0
                    rw [ht] at hP1
                    obtain ⟨hP, hD⟩ := zn (W2 := [(om k0 a (upd (upd (upd (upd I0 26 (nI ln)) 31 z2) 35 (nI n)) 36 (kd f)) J0), _, _, _, (oa (a 11) cI 201 mn2), (oa (a 12) cI 8040 cx2), (oa (a 13) cI 8040 cy2), (oa (a 32) cI 8 S3), (oa (a 40) cI 6 T3), (oa (a 29) cI 42 P3), (oa (a 30) cI 42 Q3), (oa (a 33) cI 42 ox3), (oa (a 34) cI 42 oy3), (oa (a 37) cZ 201 mt3), (oa (a 38) cZ 201 wi3), (oa (a 39) cZ 8040 ins3), _, _, _, _, _]) hP hD hk1 hFc hP1 hD1 zl_80 zl_175 zl_175 zl_80 (by decide +kernel) rfl rfl rfl rfl rfl
                    clear hk1 hPc hDc hFc hP1 hD1 ht
                    refine lv_if_eq (tgt := 174) hx hb dX11_plain_158 rfl (fun c_9 => ?_) (fun c_9 => ?_)
                    · have c_9 : ¬ (lwP ft st tn kd mn cx cy f n b9) := zp_0 c_9
                      have hno9 := hnot (by first | with_reducible assumption | assumption)
                      rw [hno9.1, hno9.2.1, hno9.2.2] at hP hD
                      refine lv_aload_n hx hb dX11_plain_174 rfl (lv_at hl 3 rfl) ?_
                      refine va_get (D := (dC, dI)) (ci := 9) (v := .ref (a 43)) (C := RX11) (T := TX11) (N := 55) hx hb hts inX11 hown hK hP 0 rfl rfl 43 (Nat.le_of_ble_eq_true rfl) (hts _ mw_1202) (fun _ h9 => h9) rfl dX11_plain_175 ?_
                      refine lv_iload hx hb dX11_plain_178 (lv_at hl 2 rfl) ?_
                      refine zz_i (v := nI b9) (hz9) ?_
                      refine lv_iconst (v := 1) hx hb dX11_plain_180 rfl ?_
                      have b9_10 : b9 < 40 := by omega
                      refine z_zast hx hb hK hP hD hS 16 1 rfl rfl (e := b9) (x := 1) rfl b9_10 (Nat.le_of_ble_eq_true rfl) (by decide) dX11_plain_181 (fun H locs hP hD hS => ?_)
                      obtain ⟨hP, hD⟩ := zre (W2 := [_, _, _, _, _, _, _, _, _, _, _, _, _, _, _, _, (oa (a 43) cZ 40 (upd fl1 b9 1)), _, _, _, _]) hP hD rfl
                      refine lv_goto (tgt := 54) hx hb dX11_plain_182 rfl ?_
                      exact ih_54 (fun j => FS j ∨ j = b9) z2 (nI n) (kd f) S3 T3 P3 Q3 ox3 oy3 mt3 wi3 ins3 (upd fl1 b9 1) H locs ls (Nat.lt_of_lt_of_le (cntP_lt (P := fun j => ¬ FS j) (Q := fun j => ¬ (FS j ∨ j = b9)) (i := b9) (fun j h h2 => h (Or.inl h2)) hbk hbF (fun h => h (Or.inr rfl))) (Nat.le_of_lt_succ hm54)) (by intro j hj; unfold upd; by_cases h : j = b9; rw [if_pos h]; exact (zp_t (Or.inr h)).symm; rw [if_neg h, hfs j hj]; exact zp_iff ⟨Or.inl, fun h2 => h2.resolve_right h⟩) (fun j hj h => hfc j hj (fun h2 => h (Or.inl h2))) (fun j hj h h2 => h.elim (fun h3 => hfd j hj h3 h2) (fun h3 => by rw [h3]; assumption)) hP hD hS (lv_sub hl [3, 4, 5, 6] rfl)
                    · have c_9 : lwP ft st tn kd mn cx cy f n b9 := zp_1 c_9
                      have hbest : pBest ft st tn kd mn cx cy f n L b9 := ⟨hbk, hcb, by assumption, fun j hj hc hl => hbm j hj (fun h => hfd j hj h hc hl)⟩
                      exact absurd ⟨b9, hbest⟩ hnb
                  · have c_7 : zb.toInt = (-1) := zc_eq rfl rfl c_7
                    refine lv_iconst (v := 0) hx hb dX11_plain_121 rfl ?_
                    obtain ⟨hP9, hD9⟩ := zu_sub (wc := [_, _, _, _, _, _, _, _, _, _, _, _, _, _, _, _, _, _, _, _, _]) hP hD [true, true, true, true, true, true, true, true, true, true, true, true, true, true, true, true, true, true, true, true, true] rfl rfl
                    rw [hQ9]
                    exact W.zret (ty := .boolean) (v := 0) hx hb hr (rfl) (fun t ht hW => ⟨⟨rfl, z9, on1, ok1, S1, T1, P1, Q1, ox1, oy1, mt1, wi1, ins1, fl1, by rw [ht]; exact hP9, hD9⟩, hS.F ht⟩) hS.2.2 dX11_plain_122
                · have c_5 : ((k : Nat) : Int) < ((n : Nat) : Int) := zc_nle (nI_toInt b9_4) (nI_toInt b9_6) c_5
                  have hk9 : k < n := (by omega)
                  have hfk := hfs k hk9
                  have htB := trB hp_f hk9
                  refine lv_aload_n hx hb dX11_plain_71 rfl (lv_at hl 2 rfl) ?_
                  refine va_get (D := (dC, dI)) (ci := 9) (v := .ref (a 43)) (C := RX11) (T := TX11) (N := 55) hx hb hts inX11 hown hK hP 0 rfl rfl 43 (Nat.le_of_ble_eq_true rfl) (hts _ mw_1202) (fun _ h9 => h9) rfl dX11_plain_72 ?_
                  refine lv_iload hx hb dX11_plain_75 (lv_at hl 0 rfl) ?_
                  have b9_11 : k < 40 := by omega
                  refine z_zald hx hb hK hP 16 1 rfl rfl (e := k) rfl b9_11 (Nat.le_of_ble_eq_true rfl) dX11_plain_77 ?_
                  refine zz_i (v := pI (FS k)) (hfk) ?_
                  refine lv_if_ne (tgt := 109) hx hb dX11_plain_78 rfl (fun c_12 => ?_) (fun c_12 => ?_)
                  · have c_12 : FS k := zp_1 c_12
                    refine lv_iinc (v := nI (k + 1)) (lv' := [(6, .int (nI (k + 1))), (5, .int zb), (0, .ref k0), (1, .int (nI f)), (2, .long (jI ((L : Nat) : Int))), (4, .int stp)]) hx hb dX11_plain_109 hl (k := 0) rfl (nI_add k 1) (Nat.le_of_ble_eq_true rfl) rfl (fun ls hl => ?_)
                    refine lv_goto (tgt := 60) hx hb dX11_plain_112 rfl ?_
                    exact ih_60 (k + 1) zb H locs ls (by first | with_reducible assumption | omega) (by first | with_reducible assumption | omega) (by first | exact bst_f hat (by first | with_reducible assumption | assumption) | exact bst_n hat (by first | with_reducible assumption | omega) (by first | with_reducible assumption | omega) (by first | with_reducible assumption | assumption) | exact bst_l hz9 hbk hbF hbm (by first | with_reducible assumption | assumption) (by first | with_reducible assumption | omega) | exact bst_g hz9 hbk hbF hbm (by first | with_reducible assumption | omega)) hP hD hS (lv_sub hl [0, 1, 2, 3, 4, 5] rfl)
                  · have c_12 : ¬ (FS k) := zp_0 c_12
                    refine lv_iload hx hb dX11_plain_81 (lv_at hl 1 rfl) ?_
                    refine lv_iconst (v := (-1)) hx hb dX11_plain_83 rfl ?_
                    refine lv_icmp_eq (tgt := 105) hx hb dX11_plain_84 rfl (fun c_13 => ?_) (fun c_13 => ?_)
                    · have c_13 : zb.toInt = (-1) := zc_eq rfl rfl c_13
                      refine lv_iload hx hb dX11_plain_105 (lv_at hl 0 rfl) ?_
                      refine lv_istore (lv' := [(5, .int (nI k)), (6, .int (nI k)), (0, .ref k0), (1, .int (nI f)), (2, .long (jI ((L : Nat) : Int))), (4, .int stp)]) hx hb dX11_plain_107 hl (Nat.le_of_ble_eq_true rfl) rfl (fun ls hl => ?_)
                      refine lv_iinc (v := nI (k + 1)) (lv' := [(6, .int (nI (k + 1))), (5, .int (nI k)), (0, .ref k0), (1, .int (nI f)), (2, .long (jI ((L : Nat) : Int))), (4, .int stp)]) hx hb dX11_plain_109 hl (k := 1) rfl (nI_add k 1) (Nat.le_of_ble_eq_true rfl) rfl (fun ls hl => ?_)
                      refine lv_goto (tgt := 60) hx hb dX11_plain_112 rfl ?_
                      exact ih_60 (k + 1) (nI k) H locs ls (by first | with_reducible assumption | omega) (by first | with_reducible assumption | omega) (by first | exact bst_f hat (by first | with_reducible assumption | assumption) | exact bst_n hat (by first | with_reducible assumption | omega) (by first | with_reducible assumption | omega) (by first | with_reducible assumption | assumption) | exact bst_l hz9 hbk hbF hbm (by first | with_reducible assumption | assumption) (by first | with_reducible assumption | omega) | exact bst_g hz9 hbk hbF hbm (by first | with_reducible assumption | omega)) hP hD hS (lv_sub hl [0, 1, 2, 3, 4, 5] rfl)
                    · have c_13 : ¬ zb.toInt = (-1) := zc_ne rfl rfl c_13
                      obtain ⟨b9, hz9, hbk, hbF, hbm⟩ := bst_get hat (by omega)
                      have htb := trB (k := b9) hp_f (by omega)
                      refine lv_aload_n hx hb dX11_plain_87 rfl (lv_at hl 2 rfl) ?_
                      refine lv_iload_n hx hb dX11_plain_88 rfl (lv_at hl 3 rfl) ?_
                      refine lv_iload hx hb dX11_plain_89 (lv_at hl 0 rfl) ?_
                      obtain ⟨hPc, hDc, hFc, hI1⟩ := zi_sub (wc := [_, _, _, _]) hP hD hS hA [0, 4, 5, 6] (by decide +kernel) rfl
                      refine zcall (st1 := [.long (jI ((Int.natAbs (cr (cF40 cx f (prv n k)).toInt (cF40 cy f (prv n k)).toInt (cF40 cx f k).toInt (cF40 cy f k).toInt (cF40 cx f (nxt n k)).toInt (cF40 cy f (nxt n k)).toInt) : Nat) : Int))]) (va_runV (As := [.int (nI f), .int (nI k)]) (rest := []) ⟨hx, hb, hml, hown, hts⟩ (k_M_triangle l dC dI cI cZ cF H.size k0 a (upd (upd (upd (upd I0 26 (nI ln)) 31 z9) 35 on1) 36 ok1) J0 f n k mn cx cy (by first | with_reducible assumption | omega) (by first | with_reducible assumption | assumption) (by first | with_reducible assumption | omega) (by first | with_reducible assumption | assumption) (by first | with_reducible assumption | omega)) (csV_202 hts rfl rfl ⟨Nat.le_of_ble_eq_true rfl, Nat.le_of_ble_eq_true rfl⟩) (zPV2 (q0 := 0) (ci := 9) hPc hDc hK hXN rfl rfl) rfl rfl hl.1 rfl (lv_room (Nat.le_of_ble_eq_true rfl)) dX11_plain_91 ⟨Nat.le_of_ble_eq_true rfl, Nat.le_of_ble_eq_true rfl⟩) hS hFc hFc rfl (fun t H locs ht hB hk1 hS => ?_)
                      obtain ⟨hP1, hD1⟩ := hB
                      rw [ht] at hP1
                      replace hP := z0 hP hD hk1 hP1 hI1
                      clear hk1 hPc hDc hFc hP1 hD1 ht hI1
                      refine zz_l (v := jI ((trF cx cy f n k : Nat) : Int)) (rfl) ?_
                      refine lv_aload_n hx hb dX11_plain_94 rfl (lv_at hl 2 rfl) ?_
                      refine lv_iload_n hx hb dX11_plain_95 rfl (lv_at hl 3 rfl) ?_
                      refine lv_iload hx hb dX11_plain_96 (lv_at hl 1 rfl) ?_
                      refine zz_i (v := nI b9) (hz9) ?_
                      obtain ⟨hPc, hDc, hFc, hI1⟩ := zi_sub (wc := [_, _, _, _]) hP hD hS hA [0, 4, 5, 6] (by decide +kernel) rfl
                      refine zcall (st1 := [.long (jI ((Int.natAbs (cr (cF40 cx f (prv n b9)).toInt (cF40 cy f (prv n b9)).toInt (cF40 cx f b9).toInt (cF40 cy f b9).toInt (cF40 cx f (nxt n b9)).toInt (cF40 cy f (nxt n b9)).toInt) : Nat) : Int)), .long (jI ((trF cx cy f n k : Nat) : Int))]) (va_runV (As := [.int (nI f), .int (nI b9)]) (rest := [.long (jI ((trF cx cy f n k : Nat) : Int))]) ⟨hx, hb, hml, hown, hts⟩ (k_M_triangle l dC dI cI cZ cF H.size k0 a (upd (upd (upd (upd I0 26 (nI ln)) 31 z9) 35 on1) 36 ok1) J0 f n b9 mn cx cy (by first | with_reducible assumption | omega) (by first | with_reducible assumption | assumption) (by first | with_reducible assumption | omega) (by first | with_reducible assumption | assumption) (by first | with_reducible assumption | omega)) (csV_202 hts rfl rfl ⟨Nat.le_of_ble_eq_true rfl, Nat.le_of_ble_eq_true rfl⟩) (zPV2 (q0 := 0) (ci := 9) hPc hDc hK hXN rfl rfl) rfl rfl hl.1 rfl (lv_room (Nat.le_of_ble_eq_true rfl)) dX11_plain_98 ⟨Nat.le_of_ble_eq_true rfl, Nat.le_of_ble_eq_true rfl⟩) hS hFc hFc rfl (fun t H locs ht hB hk1 hS => ?_)
                      obtain ⟨hP1, hD1⟩ := hB
                      rw [ht] at hP1
                      replace hP := z0 hP hD hk1 hP1 hI1
                      clear hk1 hPc hDc hFc hP1 hD1 ht hI1
                      refine zz_l (v := jI ((trF cx cy f n b9 : Nat) : Int)) (rfl) ?_
                      refine W.lcmp hx hb dX11_plain_101 ?_
                      refine lv_if_ge (tgt := 109) hx hb dX11_plain_102 rfl (fun c_14 => ?_) (fun c_14 => ?_)
                      · have c_14 : ((trF cx cy f n b9 : Nat) : Int) ≤ ((trF cx cy f n k : Nat) : Int) := zl_ge (jI_toInt (by omega)) (jI_toInt (by omega)) c_14
                        refine lv_iinc (v := nI (k + 1)) (lv' := [(6, .int (nI (k + 1))), (5, .int zb), (0, .ref k0), (1, .int (nI f)), (2, .long (jI ((L : Nat) : Int))), (4, .int stp)]) hx hb dX11_plain_109 hl (k := 0) rfl (nI_add k 1) (Nat.le_of_ble_eq_true rfl) rfl (fun ls hl => ?_)
                        refine lv_goto (tgt := 60) hx hb dX11_plain_112 rfl ?_
                        exact ih_60 (k + 1) zb H locs ls (by first | with_reducible assumption | omega) (by first | with_reducible assumption | omega) (by first | exact bst_f hat (by first | with_reducible assumption | assumption) | exact bst_n hat (by first | with_reducible assumption | omega) (by first | with_reducible assumption | omega) (by first | with_reducible assumption | assumption) | exact bst_l hz9 hbk hbF hbm (by first | with_reducible assumption | assumption) (by first | with_reducible assumption | omega) | exact bst_g hz9 hbk hbF hbm (by first | with_reducible assumption | omega)) hP hD hS (lv_sub hl [0, 1, 2, 3, 4, 5] rfl)
                      · have c_14 : ((trF cx cy f n k : Nat) : Int) < ((trF cx cy f n b9 : Nat) : Int) := zl_nge (jI_toInt (by omega)) (jI_toInt (by omega)) c_14
                        refine lv_iload hx hb dX11_plain_105 (lv_at hl 0 rfl) ?_
                        refine lv_istore (lv' := [(5, .int (nI k)), (6, .int (nI k)), (0, .ref k0), (1, .int (nI f)), (2, .long (jI ((L : Nat) : Int))), (4, .int stp)]) hx hb dX11_plain_107 hl (Nat.le_of_ble_eq_true rfl) rfl (fun ls hl => ?_)
                        refine lv_iinc (v := nI (k + 1)) (lv' := [(6, .int (nI (k + 1))), (5, .int (nI k)), (0, .ref k0), (1, .int (nI f)), (2, .long (jI ((L : Nat) : Int))), (4, .int stp)]) hx hb dX11_plain_109 hl (k := 1) rfl (nI_add k 1) (Nat.le_of_ble_eq_true rfl) rfl (fun ls hl => ?_)
                        refine lv_goto (tgt := 60) hx hb dX11_plain_112 rfl ?_
                        exact ih_60 (k + 1) (nI k) H locs ls (by first | with_reducible assumption | omega) (by first | with_reducible assumption | omega) (by first | exact bst_f hat (by first | with_reducible assumption | assumption) | exact bst_n hat (by first | with_reducible assumption | omega) (by first | with_reducible assumption | omega) (by first | with_reducible assumption | assumption) | exact bst_l hz9 hbk hbF hbm (by first | with_reducible assumption | assumption) (by first | with_reducible assumption | omega) | exact bst_g hz9 hbk hbF hbm (by first | with_reducible assumption | omega)) hP hD hS (lv_sub hl [0, 1, 2, 3, 4, 5] rfl)
            exact hl_60 _ 0 (-1) H locs ls (Nat.lt_succ_self _) (by first | with_reducible assumption | omega) (bst_0 _ _) hP hD hS (lv_sub hl [0, 1, 2, 3, 4, 5] rfl)
        exact hl_54 _ (fun j => ¬ cnd ft st tn kd mn cx cy f n L j) (I0 31) (I0 35) (I0 36) S1 T0 P0 Q0 ox oy mt wi ins fl1 H locs ls (Nat.lt_succ_self _) (fun j hj => hfl j (by first | with_reducible assumption | omega)) (fun j hj h => Classical.not_not.mp h) (fun j hj h h2 => absurd h2 h) hP hD hS (lv_sub hl [1, 2, 3, 4] rfl)
      · have c_2 : ((k : Nat) : Int) < ((n : Nat) : Int) := zc_nle (nI_toInt b9_4) (nI_toInt b9_3) c_2
        have hk9 : k < n := (by omega)
        refine lv_aload_n hx hb dX11_plain_14 rfl (lv_at hl 1 rfl) ?_
        refine va_get (D := (dC, dI)) (ci := 9) (v := .ref (a 43)) (C := RX11) (T := TX11) (N := 55) hx hb hts inX11 hown hK hP 0 rfl rfl 43 (Nat.le_of_ble_eq_true rfl) (hts _ mw_1202) (fun _ h9 => h9) rfl dX11_plain_15 ?_
        refine lv_iload hx hb dX11_plain_18 (lv_at hl 0 rfl) ?_
        refine lv_aload_n hx hb dX11_plain_20 rfl (lv_at hl 1 rfl) ?_
        refine lv_iload_n hx hb dX11_plain_21 rfl (lv_at hl 2 rfl) ?_
        refine lv_iload hx hb dX11_plain_22 (lv_at hl 0 rfl) ?_
        obtain ⟨hPc, hDc, hFc⟩ := zo_sub (wc := [_, _, _, _, _, _, _, _]) hP hD hS hA [0, 1, 2, 3, 4, 5, 6, 7] (by decide +kernel) rfl
        refine zcall (st1 := [.int (pI (mGo ft st tn kd mn cx cy f n k)), .int (nI k), .ref (a 43)]) (va_runV (As := [.int (nI f), .int (nI k)]) (rest := [.int (nI k), .ref (a 43)]) ⟨hx, hb, hml, hown, hts⟩ (k_M_mayGo l dC dI cI cZ cF H.size k0 a (upd I0 26 (nI ln)) J0 f n k ft st tn kd mn cx cy S1 (by first | with_reducible assumption | assumption) (by first | with_reducible assumption | omega) (by first | with_reducible assumption | omega) (by first | with_reducible assumption | assumption) (by first | with_reducible assumption | omega) (by first | with_reducible assumption | assumption) (by first | with_reducible assumption | omega) (by first | with_reducible assumption | assumption)) (csV_203 hts rfl rfl ⟨Nat.le_of_ble_eq_true rfl, Nat.le_of_ble_eq_true rfl⟩) (zPV2 (q0 := 0) (ci := 9) hPc hDc hK hXN rfl rfl) rfl rfl hl.1 rfl (lv_room (Nat.le_of_ble_eq_true rfl)) dX11_plain_24 ⟨Nat.le_of_ble_eq_true rfl, Nat.le_of_ble_eq_true rfl⟩) hS hFc hFc rfl (fun t H locs ht hB hk1 hS => ?_)
        obtain ⟨S2, hP1, hD1⟩ := hB
        rw [ht] at hP1
        obtain ⟨hP, hD⟩ := zn (W2 := [_, _, _, _, _, _, _, (oa (a 32) cI 8 S2), _, _, _, _, _, _, _, _, _, _, _, _, _]) hP hD hk1 hFc hP1 hD1 zl_157 zl_177 zl_177 zl_157 (by decide +kernel) rfl rfl rfl rfl rfl
        clear hk1 hPc hDc hFc hP1 hD1 ht
        refine lv_if_eq (tgt := 42) hx hb dX11_plain_27 rfl (fun c_15 => ?_) (fun c_15 => ?_)
        · have c_15 : ¬ (mGo ft st tn kd mn cx cy f n k) := zp_0 c_15
          refine lv_iconst (v := 1) hx hb dX11_plain_42 rfl ?_
          refine lv_goto (tgt := 47) hx hb dX11_plain_43 rfl ?_
          refine zz_i (v := pI (¬ cnd ft st tn kd mn cx cy f n L k)) (by first | exact (zp_t (fun h => absurd h.1 (by first | with_reducible assumption | assumption))).symm | exact (zp_t (fun h => absurd h.2 (by omega))).symm | exact (zp_f (fun h => h ⟨by assumption, by omega⟩)).symm) ?_
          have b9_16 : k < 40 := by omega
          refine z_zast hx hb hK hP hD hS 16 1 rfl rfl (e := k) (x := pI (¬ cnd ft st tn kd mn cx cy f n L k)) rfl b9_16 (Nat.le_of_ble_eq_true rfl) (zp_and _) dX11_plain_47 (fun H locs hP hD hS => ?_)
          obtain ⟨hP, hD⟩ := zre (W2 := [_, _, _, _, _, _, _, _, _, _, _, _, _, _, _, _, (oa (a 43) cZ 40 (upd fl1 k (pI (¬ cnd ft st tn kd mn cx cy f n L k)))), _, _, _, _]) hP hD rfl
          refine lv_iinc (v := nI (k + 1)) (lv' := [(5, .int (nI (k + 1))), (0, .ref k0), (1, .int (nI f)), (2, .long (jI ((L : Nat) : Int))), (4, .int stp)]) hx hb dX11_plain_48 hl (k := 0) rfl (nI_add k 1) (Nat.le_of_ble_eq_true rfl) rfl (fun ls hl => ?_)
          refine lv_goto (tgt := 3) hx hb dX11_plain_51 rfl ?_
          exact ih_3 (k + 1) S2 (upd fl1 k (pI (¬ cnd ft st tn kd mn cx cy f n L k))) H locs ls (by first | with_reducible assumption | omega) (by first | with_reducible assumption | omega) (by intro j hj; rcases Nat.lt_or_ge j k with h | h; simp only [upd, if_neg (show j ≠ k by omega)]; exact hfl j h; rw [show j = k by omega]; simp only [upd, if_true]) hP hD hS (lv_sub hl [0, 1, 2, 3, 4] rfl)
        · have c_15 : mGo ft st tn kd mn cx cy f n k := zp_1 c_15
          refine lv_aload_n hx hb dX11_plain_30 rfl (lv_at hl 1 rfl) ?_
          refine lv_iload_n hx hb dX11_plain_31 rfl (lv_at hl 2 rfl) ?_
          refine lv_iload hx hb dX11_plain_32 (lv_at hl 0 rfl) ?_
          obtain ⟨hPc, hDc, hFc, hI1⟩ := zi_sub (wc := [_, _, _, _]) hP hD hS hA [0, 4, 5, 6] (by decide +kernel) rfl
          refine zcall (st1 := [.long (jI ((Int.natAbs (cr (cF40 cx f (prv n k)).toInt (cF40 cy f (prv n k)).toInt (cF40 cx f k).toInt (cF40 cy f k).toInt (cF40 cx f (nxt n k)).toInt (cF40 cy f (nxt n k)).toInt) : Nat) : Int)), .int (nI k), .ref (a 43)]) (va_runV (As := [.int (nI f), .int (nI k)]) (rest := [.int (nI k), .ref (a 43)]) ⟨hx, hb, hml, hown, hts⟩ (k_M_triangle l dC dI cI cZ cF H.size k0 a (upd I0 26 (nI ln)) J0 f n k mn cx cy (by first | with_reducible assumption | omega) (by first | with_reducible assumption | assumption) (by first | with_reducible assumption | omega) (by first | with_reducible assumption | assumption) (by first | with_reducible assumption | omega)) (csV_202 hts rfl rfl ⟨Nat.le_of_ble_eq_true rfl, Nat.le_of_ble_eq_true rfl⟩) (zPV2 (q0 := 0) (ci := 9) hPc hDc hK hXN rfl rfl) rfl rfl hl.1 rfl (lv_room (Nat.le_of_ble_eq_true rfl)) dX11_plain_34 ⟨Nat.le_of_ble_eq_true rfl, Nat.le_of_ble_eq_true rfl⟩) hS hFc hFc rfl (fun t H locs ht hB hk1 hS => ?_)
          obtain ⟨hP1, hD1⟩ := hB
          rw [ht] at hP1
          replace hP := z0 hP hD hk1 hP1 hI1
          clear hk1 hPc hDc hFc hP1 hD1 ht hI1
          refine zz_l (v := jI ((trF cx cy f n k : Nat) : Int)) (rfl) ?_
          have htB := trB hp_f hk9
          refine lv_lload_n hx hb dX11_plain_37 rfl (lv_at hl 3 rfl) ?_
          refine W.lcmp hx hb dX11_plain_38 ?_
          refine lv_if_le (tgt := 46) hx hb dX11_plain_39 rfl (fun c_17 => ?_) (fun c_17 => ?_)
          · have c_17 : ((trF cx cy f n k : Nat) : Int) ≤ ((L : Nat) : Int) := zl_le (jI_toInt (by omega)) (jI_toInt (by omega)) c_17
            refine lv_iconst (v := 0) hx hb dX11_plain_46 rfl ?_
            refine zz_i (v := pI (¬ cnd ft st tn kd mn cx cy f n L k)) (by first | exact (zp_t (fun h => absurd h.1 (by first | with_reducible assumption | assumption))).symm | exact (zp_t (fun h => absurd h.2 (by omega))).symm | exact (zp_f (fun h => h ⟨by assumption, by omega⟩)).symm) ?_
            have b9_18 : k < 40 := by omega
            refine z_zast hx hb hK hP hD hS 16 1 rfl rfl (e := k) (x := pI (¬ cnd ft st tn kd mn cx cy f n L k)) rfl b9_18 (Nat.le_of_ble_eq_true rfl) (zp_and _) dX11_plain_47 (fun H locs hP hD hS => ?_)
            obtain ⟨hP, hD⟩ := zre (W2 := [_, _, _, _, _, _, _, _, _, _, _, _, _, _, _, _, (oa (a 43) cZ 40 (upd fl1 k (pI (¬ cnd ft st tn kd mn cx cy f n L k)))), _, _, _, _]) hP hD rfl
            refine lv_iinc (v := nI (k + 1)) (lv' := [(5, .int (nI (k + 1))), (0, .ref k0), (1, .int (nI f)), (2, .long (jI ((L : Nat) : Int))), (4, .int stp)]) hx hb dX11_plain_48 hl (k := 0) rfl (nI_add k 1) (Nat.le_of_ble_eq_true rfl) rfl (fun ls hl => ?_)
            refine lv_goto (tgt := 3) hx hb dX11_plain_51 rfl ?_
            exact ih_3 (k + 1) S2 (upd fl1 k (pI (¬ cnd ft st tn kd mn cx cy f n L k))) H locs ls (by first | with_reducible assumption | omega) (by first | with_reducible assumption | omega) (by intro j hj; rcases Nat.lt_or_ge j k with h | h; simp only [upd, if_neg (show j ≠ k by omega)]; exact hfl j h; rw [show j = k by omega]; simp only [upd, if_true]) hP hD hS (lv_sub hl [0, 1, 2, 3, 4] rfl)
          · have c_17 : ((L : Nat) : Int) < ((trF cx cy f n k : Nat) : Int) := zl_nle (jI_toInt (by omega)) (jI_toInt (by omega)) c_17
            refine lv_iconst (v := 1) hx hb dX11_plain_42 rfl ?_
            refine lv_goto (tgt := 47) hx hb dX11_plain_43 rfl ?_
            refine zz_i (v := pI (¬ cnd ft st tn kd mn cx cy f n L k)) (by first | exact (zp_t (fun h => absurd h.1 (by first | with_reducible assumption | assumption))).symm | exact (zp_t (fun h => absurd h.2 (by omega))).symm | exact (zp_f (fun h => h ⟨by assumption, by omega⟩)).symm) ?_
            have b9_19 : k < 40 := by omega
            refine z_zast hx hb hK hP hD hS 16 1 rfl rfl (e := k) (x := pI (¬ cnd ft st tn kd mn cx cy f n L k)) rfl b9_19 (Nat.le_of_ble_eq_true rfl) (zp_and _) dX11_plain_47 (fun H locs hP hD hS => ?_)
            obtain ⟨hP, hD⟩ := zre (W2 := [_, _, _, _, _, _, _, _, _, _, _, _, _, _, _, _, (oa (a 43) cZ 40 (upd fl1 k (pI (¬ cnd ft st tn kd mn cx cy f n L k)))), _, _, _, _]) hP hD rfl
            refine lv_iinc (v := nI (k + 1)) (lv' := [(5, .int (nI (k + 1))), (0, .ref k0), (1, .int (nI f)), (2, .long (jI ((L : Nat) : Int))), (4, .int stp)]) hx hb dX11_plain_48 hl (k := 0) rfl (nI_add k 1) (Nat.le_of_ble_eq_true rfl) rfl (fun ls hl => ?_)
            refine lv_goto (tgt := 3) hx hb dX11_plain_51 rfl ?_
            exact ih_3 (k + 1) S2 (upd fl1 k (pI (¬ cnd ft st tn kd mn cx cy f n L k))) H locs ls (by first | with_reducible assumption | omega) (by first | with_reducible assumption | omega) (by intro j hj; rcases Nat.lt_or_ge j k with h | h; simp only [upd, if_neg (show j ≠ k by omega)]; exact hfl j h; rw [show j = k by omega]; simp only [upd, if_true]) hP hD hS (lv_sub hl [0, 1, 2, 3, 4] rfl)
  exact hl_3 _ 0 S0 fl s.heap [] ls (Nat.lt_succ_self _) (by first | with_reducible assumption | omega) (by intro j hj; omega) hP hD hS (lv_sub hl [0, 1, 2, 3, 4] rfl)
end
section
set_option maxHeartbeats 4000000 in
set_option maxRecDepth 100000 in
theorem k_M_plainAll (l : Launch) (dC : Nat → ClassId) (dI : Nat → Nat → Nat) (cI cZ cF : ClassId) (sz : Nat) (k0 : Nat) (a : Nat → Nat) (I0 : Nat → Int32) (J0 : Nat → Int64) (f : Nat) (n : Nat) (L : Nat) (ft : Nat) (ln : Nat) (cl : Nat) (mm9 : Nat) (nn1 : Nat) (stp : Int32) (st : Nat → Int32) (tn : Nat → Int32) (kd : Nat → Int32) (mn : Nat → Int32) (cx : Nat → Int32) (cy : Nat → Int32) (S0 : Nat → Int32) (T0 : Nat → Int32) (P0 : Nat → Int32) (Q0 : Nat → Int32) (ox : Nat → Int32) (oy : Nat → Int32) (mt : Nat → Int32) (wi : Nat → Int32) (ins : Nat → Int32) (fl : Nat → Int32) (la : Nat → Int32) (lb : Nat → Int32) (lc : Nat → Int32) (ld : Nat → Int32) (mn1 : Nat → Int32) (cx1 : Nat → Int32) (cy1 : Nat → Int32) (hft : I0 0 = nI ft) (h200 : ft ≤ 200) (hf_f : f ≤ 200) (hL : L ≤ 2147483647) (hpi : plI ft st tn kd f mn cx cy n) (hfin : plN ft st tn kd f L mm9 mn cx cy n mn1 cx1 cy1 nn1) (hclm : dlN mm9 cl ln ≤ 100000) (hlc : ln ≤ 64 * cl) (hcl1 : 1 ≤ cl) (hmb : mm9 ≤ 40) (hds : dsR n (cF40 cx f) (cF40 cy f)) : zM l yX11_plainAll cX11_plainAll 5 (some .int) ({ frames := 8, cells := 4 * (dlN mm9 cl ln - cl), slots := 512 * (dlN mm9 cl ln - cl), locals := 209 } : Room) [.ref k0, .int (nI f), .int (nI L), .int stp] (dC, dI) (zTy cI cZ cF) [(om k0 a (upd I0 26 (nI ln)) J0), (oa (a 5) cI 201 st), (oa (a 6) cZ 201 tn), (oa (a 1) cI 201 kd), (oa (a 11) cI 201 mn), (oa (a 12) cI 8040 cx), (oa (a 13) cI 8040 cy), (oa (a 32) cI 8 S0), (oa (a 40) cI 6 T0), (oa (a 29) cI 42 P0), (oa (a 30) cI 42 Q0), (oa (a 33) cI 42 ox), (oa (a 34) cI 42 oy), (oa (a 37) cZ 201 mt), (oa (a 38) cZ 201 wi), (oa (a 39) cZ 8040 ins), (oa (a 43) cZ 40 fl), (oa (a 22) cI (64 * cl) la), (oa (a 23) cI (64 * cl) lb), (oa (a 24) cI (64 * cl) lc), (oa (a 25) cI (64 * cl) ld)] sz (some (.int (nI mm9))) (fun A t => ∃ (z9 : Int32), ∃ (on1 : Int32), ∃ (ok1 : Int32), ∃ (S1 : Nat → Int32), ∃ (T1 : Nat → Int32), ∃ (P1 : Nat → Int32), ∃ (Q1 : Nat → Int32), ∃ (ox1 : Nat → Int32), ∃ (oy1 : Nat → Int32), ∃ (mt1 : Nat → Int32), ∃ (wi1 : Nat → Int32), ∃ (ins1 : Nat → Int32), ∃ (fl1 : Nat → Int32), ∃ (bl0 : Nat), ∃ (bl1 : Nat), ∃ (bl2 : Nat), ∃ (bl3 : Nat), ∃ (la1 : Nat → Int32), ∃ (lb1 : Nat → Int32), ∃ (lc1 : Nat → Int32), ∃ (ld1 : Nat → Int32), ((∀ j, j < ln → pl (lb j) ∧ pl (lc j)) → ∀ j, j < ln + mm9 → pl (lb1 j) ∧ pl (lc1 j)) ∧ (lsM ln (ln + mm9) f stp la lb lc ld la1 lb1 lc1 ld1 n (cF40 cx f) (cF40 cy f) nn1 (cF40 cx1 f) (cF40 cy1 f)) ∧ zPD (dC, dI) classes A [(om k0 (va_up (va_up (va_up (va_up a 22 bl0) 23 bl1) 24 bl2) 25 bl3) (upd (upd (upd (upd I0 26 (nI (ln + mm9))) 31 z9) 35 on1) 36 ok1) J0), (oa (a 5) cI 201 st), (oa (a 6) cZ 201 tn), (oa (a 1) cI 201 kd), (oa (a 11) cI 201 mn1), (oa (a 12) cI 8040 cx1), (oa (a 13) cI 8040 cy1), (oa (a 32) cI 8 S1), (oa (a 40) cI 6 T1), (oa (a 29) cI 42 P1), (oa (a 30) cI 42 Q1), (oa (a 33) cI 42 ox1), (oa (a 34) cI 42 oy1), (oa (a 37) cZ 201 mt1), (oa (a 38) cZ 201 wi1), (oa (a 39) cZ 8040 ins1), (oa (a 43) cZ 40 fl1), (oa bl0 cI (64 * (dlN mm9 cl ln)) la1), (oa bl1 cI (64 * (dlN mm9 cl ln)) lb1), (oa bl2 cI (64 * (dlN mm9 cl ln)) lc1), (oa bl3 cI (64 * (dlN mm9 cl ln)) ld1)] t.heap) (4 * (dlN mm9 cl ln - cl)) (512 * (dlN mm9 cl ln - cl)) := by
  refine zIn (own := "ScaleShopModel") (loc := [(0, .ref k0), (1, .int (nI f)), (2, .int (nI L)), (3, .int stp)]) rfl rfl rfl rfl (fun p e s m below meth c hx hb hr hts hown hlocks hml hnm9 A hA hS hP hD hK hXN Q9 hQ9 ls hl => ?_)
  refine lv_iconst (v := 0) hx hb dX11_plainAll_0 rfl ?_
  refine lv_istore (lv' := [(4, .int 0), (0, .ref k0), (1, .int (nI f)), (2, .int (nI L)), (3, .int stp)]) hx hb dX11_plainAll_1 hl (Nat.le_of_ble_eq_true rfl) rfl (fun ls hl => ?_)
  have hl_3 : ∀ (n9 : Nat) (i : Nat) (j9 : Nat) (n2 : Nat) (cl2 : Nat) (ln2 : Nat) (z9 : Int32) (on1 : Int32) (ok1 : Int32) (mn2 : Nat → Int32) (cx2 : Nat → Int32) (cy2 : Nat → Int32) (S1 : Nat → Int32) (T1 : Nat → Int32) (P1 : Nat → Int32) (Q1 : Nat → Int32) (ox1 : Nat → Int32) (oy1 : Nat → Int32) (mt1 : Nat → Int32) (wi1 : Nat → Int32) (ins1 : Nat → Int32) (fl1 : Nat → Int32) (bl0 : Nat) (bl1 : Nat) (bl2 : Nat) (bl3 : Nat) (la1 : Nat → Int32) (lb1 : Nat → Int32) (lc1 : Nat → Int32) (ld1 : Nat → Int32) (H : Heap) (locs : List Loc) (ls : Array Slot), j9 < n9 → (i + j9 = mm9) → (plI ft st tn kd f mn2 cx2 cy2 n2) → (plN ft st tn kd f L j9 mn2 cx2 cy2 n2 mn1 cx1 cy1 nn1) → (ln2 = ln + i) → (dlN j9 cl2 ln2 = dlN mm9 cl ln) → (cl ≤ cl2) → (ln2 ≤ 64 * cl2) → ((∀ j, j < ln → pl (lb j) ∧ pl (lc j)) → ∀ j, j < ln2 → pl (lb1 j) ∧ pl (lc1 j)) → (lsM ln ln2 f stp la lb lc ld la1 lb1 lc1 ld1 n (cF40 cx f) (cF40 cy f) n2 (cF40 cx2 f) (cF40 cy2 f)) → va_P (dC, dI) classes [(om k0 (va_up (va_up (va_up (va_up a 22 bl0) 23 bl1) 24 bl2) 25 bl3) (upd (upd (upd (upd I0 26 (nI ln2)) 31 z9) 35 on1) 36 ok1) J0), (oa (a 5) cI 201 st), (oa (a 6) cZ 201 tn), (oa (a 1) cI 201 kd), (oa (a 11) cI 201 mn2), (oa (a 12) cI 8040 cx2), (oa (a 13) cI 8040 cy2), (oa (a 32) cI 8 S1), (oa (a 40) cI 6 T1), (oa (a 29) cI 42 P1), (oa (a 30) cI 42 Q1), (oa (a 33) cI 42 ox1), (oa (a 34) cI 42 oy1), (oa (a 37) cZ 201 mt1), (oa (a 38) cZ 201 wi1), (oa (a 39) cZ 8040 ins1), (oa (a 43) cZ 40 fl1), (oa bl0 cI (64 * cl2) la1), (oa bl1 cI (64 * cl2) lb1), (oa bl2 cI (64 * cl2) lc1), (oa bl3 cI (64 * cl2) ld1)] H → va_D A [(om k0 (va_up (va_up (va_up (va_up a 22 bl0) 23 bl1) 24 bl2) 25 bl3) (upd (upd (upd (upd I0 26 (nI ln2)) 31 z9) 35 on1) 36 ok1) J0), (oa (a 5) cI 201 st), (oa (a 6) cZ 201 tn), (oa (a 1) cI 201 kd), (oa (a 11) cI 201 mn2), (oa (a 12) cI 8040 cx2), (oa (a 13) cI 8040 cy2), (oa (a 32) cI 8 S1), (oa (a 40) cI 6 T1), (oa (a 29) cI 42 P1), (oa (a 30) cI 42 Q1), (oa (a 33) cI 42 ox1), (oa (a 34) cI 42 oy1), (oa (a 37) cZ 201 mt1), (oa (a 38) cZ 201 wi1), (oa (a 39) cZ 8040 ins1), (oa (a 43) cZ 40 fl1), (oa bl0 cI (64 * cl2) la1), (oa bl1 cI (64 * cl2) lb1), (oa bl2 cI (64 * cl2) lc1), (oa bl3 cI (64 * cl2) ld1)] → va_S A s.heap H locs → lv_has ls 5 [(4, .int (nI i)), (0, .ref k0), (1, .int (nI f)), (2, .int (nI L)), (3, .int stp)] → W p l e ({ frames := 8, cells := 4 * (dlN mm9 cl ln - cl), slots := 512 * (dlN mm9 cl ln - cl), locals := 209 } : Room) s m ([.ref k0, .int (nI f), .int (nI L), .int stp] : List Value).toArray below meth c H locs (4 * (cl2 - cl)) (512 * (cl2 - cl)) Q9 (F0 m 3 ls []) := by
    intro n9
    induction n9 with
    | zero => intro i j9 n2 cl2 ln2 z9 on1 ok1 mn2 cx2 cy2 S1 T1 P1 Q1 ox1 oy1 mt1 wi1 ins1 fl1 bl0 bl1 bl2 bl3 la1 lb1 lc1 ld1 H locs ls hm; exact absurd hm (Nat.not_lt_zero _)
    | succ n9 ih_3 =>
      intro i j9 n2 cl2 ln2 z9 on1 ok1 mn2 cx2 cy2 S1 T1 P1 Q1 ox1 oy1 mt1 wi1 ins1 fl1 bl0 bl1 bl2 bl3 la1 lb1 lc1 ld1 H locs ls hm hij hpi2 hf2 hln2 hce hcl2 hlc2 hlp2 hlsA hP hD hS hl
      have hle9 := dlN_le j9 cl2 ln2
      have hnb9 := hpi2.2.1
      rcases Nat.eq_zero_or_pos j9 with h0 | h0
      · skip
        have hz9 := plN_z h0 hf2
        have hce0 : dlN mm9 cl ln = cl2 := (by rw [← hce, h0]; rfl)
        refine lv_aload_n hx hb dX11_plainAll_3 rfl (lv_at hl 1 rfl) ?_
        refine lv_iload_n hx hb dX11_plainAll_4 rfl (lv_at hl 2 rfl) ?_
        refine lv_iload_n hx hb dX11_plainAll_5 rfl (lv_at hl 3 rfl) ?_
        refine lv_i2l (v := (nI L).toInt64) hx hb dX11_plainAll_6 (rfl) ?_
        refine zz_l (v := jI ((L : Nat) : Int)) (nI_64 (by omega)) ?_
        refine lv_iload_n hx hb dX11_plainAll_7 rfl (lv_at hl 4 rfl) ?_
        obtain ⟨hPc, hDc, hFc⟩ := zo_sub (wc := [_, _, _, _, _, _, _, _, _, _, _, _, _, _, _, _, _, _, _, _, _]) hP hD hS hA [0, 1, 2, 3, 4, 5, 6, 7, 8, 9, 10, 11, 12, 13, 14, 15, 16, 17, 18, 19, 20] (by decide +kernel) rfl
        refine zcall (st1 := [.int 0]) (va_runV (As := [.int (nI f), .long (jI ((L : Nat) : Int)), .int stp]) (rest := []) ⟨hx, hb, hml, hown, hts⟩ (k_M_plain_n l dC dI cI cZ cF H.size k0 (va_up (va_up (va_up (va_up a 22 bl0) 23 bl1) 24 bl2) 25 bl3) (upd (upd (upd (upd I0 26 (nI ln2)) 31 z9) 35 on1) 36 ok1) J0 f n2 L ft ln2 cl2 stp st tn kd mn2 cx2 cy2 S1 T1 P1 Q1 ox1 oy1 mt1 wi1 ins1 fl1 la1 lb1 lc1 ld1 (by first | with_reducible assumption | assumption) (by first | with_reducible assumption | omega) (by first | with_reducible assumption | omega) (hpi2.1) (hpi2.2.1) (hpi2.2.2.1) (by first | with_reducible assumption | omega) (hpi2.2.2.2.1) (hpi2.2.2.2.2) (hz9.2.2.2.2)) (csV_204 hts rfl rfl ⟨Nat.le_of_ble_eq_true rfl, Nat.le_of_ble_eq_true rfl⟩) (zPV2 (q0 := 0) (ci := 9) hPc hDc hK hXN rfl rfl) rfl rfl hl.1 rfl (lv_room (Nat.le_of_ble_eq_true rfl)) dX11_plainAll_8 ⟨show 4 * (cl2 - cl) ≤ 4 * (dlN mm9 cl ln - cl) by omega, show 512 * (cl2 - cl) ≤ 512 * (dlN mm9 cl ln - cl) by omega⟩) hS hFc hFc rfl (fun t H locs ht hB hk1 hS => ?_)
        refine ex13 hB (fun z3 on3 ok3 S3 T3 P3 Q3 ox3 oy3 mt3 wi3 ins3 fl3 hB0 => ?_)
        clear hB
        obtain ⟨hP1, hD1⟩ := hB0
        rw [ht] at hP1
        obtain ⟨hP, hD⟩ := zn (W2 := [(om k0 (va_up (va_up (va_up (va_up a 22 bl0) 23 bl1) 24 bl2) 25 bl3) (upd (upd (upd (upd I0 26 (nI ln2)) 31 z3) 35 on3) 36 ok3) J0), _, _, _, _, _, _, (oa (a 32) cI 8 S3), (oa (a 40) cI 6 T3), (oa (a 29) cI 42 P3), (oa (a 30) cI 42 Q3), (oa (a 33) cI 42 ox3), (oa (a 34) cI 42 oy3), (oa (a 37) cZ 201 mt3), (oa (a 38) cZ 201 wi3), (oa (a 39) cZ 8040 ins3), (oa (a 43) cZ 40 fl3), _, _, _, _]) hP hD hk1 hFc hP1 hD1 zl_178 [] zl_179 zl_178 (by decide +kernel) rfl rfl rfl rfl rfl
        clear hk1 hPc hDc hFc hP1 hD1 ht
        refine lv_if_eq (tgt := 20) hx hb dX11_plainAll_11 rfl (fun c_1 => ?_) (fun c_1 => ?_)
        · refine lv_iload hx hb dX11_plainAll_20 (lv_at hl 0 rfl) ?_
          obtain ⟨hP9, hD9⟩ := zu_sub (wc := [(om k0 (va_up (va_up (va_up (va_up a 22 bl0) 23 bl1) 24 bl2) 25 bl3) (upd (upd (upd (upd I0 26 (nI ln2)) 31 z3) 35 on3) 36 ok3) J0), (oa (a 5) cI 201 st), (oa (a 6) cZ 201 tn), (oa (a 1) cI 201 kd), (oa (a 11) cI 201 mn2), (oa (a 12) cI 8040 cx2), (oa (a 13) cI 8040 cy2), (oa (a 32) cI 8 S3), (oa (a 40) cI 6 T3), (oa (a 29) cI 42 P3), (oa (a 30) cI 42 Q3), (oa (a 33) cI 42 ox3), (oa (a 34) cI 42 oy3), (oa (a 37) cZ 201 mt3), (oa (a 38) cZ 201 wi3), (oa (a 39) cZ 8040 ins3), (oa (a 43) cZ 40 fl3), (oa bl0 cI (64 * cl2) la1), (oa bl1 cI (64 * cl2) lb1), (oa bl2 cI (64 * cl2) lc1), (oa bl3 cI (64 * cl2) ld1)]) hP hD [true, true, true, true, true, true, true, true, true, true, true, true, true, true, true, true, true, true, true, true, true] rfl rfl
          have hE9 : ([(om k0 (va_up (va_up (va_up (va_up a 22 bl0) 23 bl1) 24 bl2) 25 bl3) (upd (upd (upd (upd I0 26 (nI ln2)) 31 z3) 35 on3) 36 ok3) J0), (oa (a 5) cI 201 st), (oa (a 6) cZ 201 tn), (oa (a 1) cI 201 kd), (oa (a 11) cI 201 mn2), (oa (a 12) cI 8040 cx2), (oa (a 13) cI 8040 cy2), (oa (a 32) cI 8 S3), (oa (a 40) cI 6 T3), (oa (a 29) cI 42 P3), (oa (a 30) cI 42 Q3), (oa (a 33) cI 42 ox3), (oa (a 34) cI 42 oy3), (oa (a 37) cZ 201 mt3), (oa (a 38) cZ 201 wi3), (oa (a 39) cZ 8040 ins3), (oa (a 43) cZ 40 fl3), (oa bl0 cI (64 * cl2) la1), (oa bl1 cI (64 * cl2) lb1), (oa bl2 cI (64 * cl2) lc1), (oa bl3 cI (64 * cl2) ld1)] : va_W) = [(om k0 (va_up (va_up (va_up (va_up a 22 bl0) 23 bl1) 24 bl2) 25 bl3) (upd (upd (upd (upd I0 26 (nI (ln + mm9))) 31 z3) 35 on3) 36 ok3) J0), (oa (a 5) cI 201 st), (oa (a 6) cZ 201 tn), (oa (a 1) cI 201 kd), (oa (a 11) cI 201 mn1), (oa (a 12) cI 8040 cx1), (oa (a 13) cI 8040 cy1), (oa (a 32) cI 8 S3), (oa (a 40) cI 6 T3), (oa (a 29) cI 42 P3), (oa (a 30) cI 42 Q3), (oa (a 33) cI 42 ox3), (oa (a 34) cI 42 oy3), (oa (a 37) cZ 201 mt3), (oa (a 38) cZ 201 wi3), (oa (a 39) cZ 8040 ins3), (oa (a 43) cZ 40 fl3), (oa bl0 cI (64 * (dlN mm9 cl ln)) la1), (oa bl1 cI (64 * (dlN mm9 cl ln)) lb1), (oa bl2 cI (64 * (dlN mm9 cl ln)) lc1), (oa bl3 cI (64 * (dlN mm9 cl ln)) ld1)] := by rw [hz9.1, hz9.2.1, hz9.2.2.1, show ln2 = ln + mm9 by omega, hce0]
          rw [hE9] at hP9 hD9
          refine W.widen (k := 4 * (dlN mm9 cl ln - cl)) (n := 512 * (dlN mm9 cl ln - cl)) (by omega) (by omega) ?_
          rw [hQ9]
          exact W.iret (v := nI i) hx hb hr (fun t ht hW => ⟨⟨congrArg (fun z => Outcome.returned (some (Value.int z))) (show (nI i : Int32) = nI mm9 from zn_eq (by omega)), z3, on3, ok3, S3, T3, P3, Q3, ox3, oy3, mt3, wi3, ins3, fl3, bl0, bl1, bl2, bl3, la1, lb1, lc1, ld1, (fun h j hj => hlp2 h j (by omega)), (by rw [hz9.2.1, hz9.2.2.1, hz9.2.2.2.1, show ln + mm9 = ln2 by omega]; exact hlsA), by rw [ht]; exact hP9, hD9⟩, hS.F ht⟩) hS.2.2 dX11_plainAll_22
        · exact absurd (by decide) c_1
      · skip
        obtain ⟨r9, k9, hr9, hk9, hf3⟩ := plN_p h0 hf2
        have hce3 : dlN r9 (dl cl2 ln2) (ln2 + 1) = dlN mm9 cl ln := (by rw [← hce, hr9]; rfl)
        have hle3 := dlN_le r9 (dl cl2 ln2) (ln2 + 1)
        have hle4 := dl_le cl2 ln2
        refine lv_aload_n hx hb dX11_plainAll_3 rfl (lv_at hl 1 rfl) ?_
        refine lv_iload_n hx hb dX11_plainAll_4 rfl (lv_at hl 2 rfl) ?_
        refine lv_iload_n hx hb dX11_plainAll_5 rfl (lv_at hl 3 rfl) ?_
        refine lv_i2l (v := (nI L).toInt64) hx hb dX11_plainAll_6 (rfl) ?_
        refine zz_l (v := jI ((L : Nat) : Int)) (nI_64 (by omega)) ?_
        refine lv_iload_n hx hb dX11_plainAll_7 rfl (lv_at hl 4 rfl) ?_
        obtain ⟨hPc, hDc, hFc⟩ := zo_sub (wc := [_, _, _, _, _, _, _, _, _, _, _, _, _, _, _, _, _, _, _, _, _]) hP hD hS hA [0, 1, 2, 3, 4, 5, 6, 7, 8, 9, 10, 11, 12, 13, 14, 15, 16, 17, 18, 19, 20] (by decide +kernel) rfl
        refine zcall (st1 := [.int 1]) (va_runV (As := [.int (nI f), .long (jI ((L : Nat) : Int)), .int stp]) (rest := []) ⟨hx, hb, hml, hown, hts⟩ (k_M_plain_y l dC dI cI cZ cF H.size k0 (va_up (va_up (va_up (va_up a 22 bl0) 23 bl1) 24 bl2) 25 bl3) (upd (upd (upd (upd I0 26 (nI ln2)) 31 z9) 35 on1) 36 ok1) J0 f n2 L ft ln2 cl2 k9 stp st tn kd mn2 cx2 cy2 S1 T1 P1 Q1 ox1 oy1 mt1 wi1 ins1 fl1 la1 lb1 lc1 ld1 (by first | with_reducible assumption | assumption) (by first | with_reducible assumption | omega) (by first | with_reducible assumption | omega) (hpi2.1) (hpi2.2.1) (hpi2.2.2.1) (by first | with_reducible assumption | omega) (hpi2.2.2.2.1) (hpi2.2.2.2.2) (by first | with_reducible assumption | omega) (by first | with_reducible assumption | omega) (by first | with_reducible assumption | omega) (hk9)) (csV_204 hts rfl rfl ⟨Nat.le_of_ble_eq_true rfl, Nat.le_of_ble_eq_true rfl⟩) (zPV2 (q0 := 0) (ci := 9) hPc hDc hK hXN rfl rfl) rfl rfl hl.1 rfl (lv_room (Nat.le_of_ble_eq_true rfl)) dX11_plainAll_8 ⟨show (4 * (cl2 - cl) + (4 * (dl cl2 ln2 - cl2))) ≤ 4 * (dlN mm9 cl ln - cl) by omega, show (512 * (cl2 - cl) + (512 * (dl cl2 ln2 - cl2))) ≤ 512 * (dlN mm9 cl ln - cl) by omega⟩) hS hFc hFc rfl (fun t H locs ht hB hk1 hS => ?_)
        refine ex21 hB (fun z3 on3 ok3 S3 T3 P3 Q3 ox3 oy3 mt3 wi3 ins3 fl3 b30 b31 b32 b33 la3 lb3 lc3 ld3 hB0 => ?_)
        clear hB
        obtain ⟨hlp3, hex3, hP1, hD1⟩ := hB0
        rw [ht] at hP1
        obtain ⟨hP, hD⟩ := zn (W2 := [(om k0 (va_up (va_up (va_up (va_up a 22 b30) 23 b31) 24 b32) 25 b33) (upd (upd (upd (upd I0 26 (nI (ln2 + 1))) 31 z3) 35 on3) 36 ok3) J0), (oa (a 5) cI 201 st), (oa (a 6) cZ 201 tn), (oa (a 1) cI 201 kd), (oa (a 11) cI 201 (upd mn2 f (nI (n2 - 1)))), (oa (a 12) cI 8040 (shp f k9 (n2 - 1) cx2)), (oa (a 13) cI 8040 (shp f k9 (n2 - 1) cy2)), (oa (a 32) cI 8 S3), (oa (a 40) cI 6 T3), (oa (a 29) cI 42 P3), (oa (a 30) cI 42 Q3), (oa (a 33) cI 42 ox3), (oa (a 34) cI 42 oy3), (oa (a 37) cZ 201 mt3), (oa (a 38) cZ 201 wi3), (oa (a 39) cZ 8040 ins3), (oa (a 43) cZ 40 fl3), (oa b30 cI (64 * (dl cl2 ln2)) la3), (oa b31 cI (64 * (dl cl2 ln2)) lb3), (oa b32 cI (64 * (dl cl2 ln2)) lc3), (oa b33 cI (64 * (dl cl2 ln2)) ld3)]) hP hD hk1 hFc hP1 hD1 zl_178 [] zl_179 zl_178 (by decide +kernel) rfl rfl rfl rfl rfl
        clear hk1 hPc hDc hFc hP1 hD1 ht
        refine lv_if_eq (tgt := 20) hx hb dX11_plainAll_11 rfl (fun c_2 => ?_) (fun c_2 => ?_)
        · exact absurd c_2 (by decide)
        · refine lv_iinc (v := nI (i + 1)) (lv' := [(4, .int (nI (i + 1))), (0, .ref k0), (1, .int (nI f)), (2, .int (nI L)), (3, .int stp)]) hx hb dX11_plainAll_14 hl (k := 0) rfl (nI_add i 1) (Nat.le_of_ble_eq_true rfl) rfl (fun ls hl => ?_)
          refine lv_goto (tgt := 3) hx hb dX11_plainAll_17 rfl ?_
          refine W.widen (k := 4 * ((dl cl2 ln2) - cl)) (n := 512 * ((dl cl2 ln2) - cl)) (by omega) (by omega) ?_
          exact ih_3 (i + 1) r9 (n2 - 1) (dl cl2 ln2) (ln2 + 1) z3 on3 ok3 (upd mn2 f (nI (n2 - 1))) (shp f k9 (n2 - 1) cx2) (shp f k9 (n2 - 1) cy2) S3 T3 P3 Q3 ox3 oy3 mt3 wi3 ins3 fl3 b30 b31 b32 b33 la3 lb3 lc3 ld3 H locs ls (by first | with_reducible assumption | omega) (by first | with_reducible assumption | omega) (plI_s hpi2 hk9) (hf3) (by first | with_reducible assumption | omega) (hce3) (by first | with_reducible assumption | omega) (dl_fit hlc2 (by first | with_reducible assumption | omega)) (fun h => hlp3 (hlp2 h)) (lsM_s hlsA hk9.1 hex3) hP hD hS (lv_sub hl [0, 1, 2, 3, 4] rfl)
  refine W.widen (k := 4 * (cl - cl)) (n := 512 * (cl - cl)) (by omega) (by omega) ?_
  exact hl_3 _ 0 mm9 n cl ln (I0 31) (I0 35) (I0 36) mn cx cy S0 T0 P0 Q0 ox oy mt wi ins fl (a 22) (a 23) (a 24) (a 25) la lb lc ld s.heap [] ls (Nat.lt_succ_self _) (by first | with_reducible assumption | omega) (hpi) (hfin) (by first | with_reducible assumption | omega) (rfl) (Nat.le_refl _) (by first | with_reducible assumption | omega) (fun h => h) (lsM_0 hds) hP hD hS (lv_sub hl [0, 1, 2, 3, 4] rfl)
end
