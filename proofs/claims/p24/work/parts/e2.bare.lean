section
set_option maxHeartbeats 4000000 in
set_option maxRecDepth 100000 in
theorem k_Sheet_rowThere_yv (l : Launch) (dC : Nat → ClassId) (dI : Nat → Nat → Nat) (cI cZ cF : ClassId) (sz : Nat) (sh : Nat) (fa : Nat) (ft : Nat) (FA : Nat → Option Nat) (i : Nat) (fe : Nat) (lo : Nat) (rk9 : Int32) (wd9 : Int32) (tw9 : Int32) (pa9 : Int32) (pb9 : Int32) (lk : Nat) (kd9 : Int32) (st9 : Int32) (gb9 : Int32) (jt9 : Int32) (we9 : Int32) (r : Nat) (fm9 : Value) (h200 : ft ≤ 200) (hi : i < ft) (hFA : FA i = some fe) (hs1 : st9.toInt = 1) : zM l yX8_rowThere cX8_rowThere 3 (some (.object "ScaleShop$Row")) ({ frames := 1, cells := 0, slots := 0, locals := 21 } : Room) [.ref sh, .int (nI i)] (dC, dI) (zTy cI cZ cF) [(oc7 sh (.ref fa) (nI ft)), (oq fa cF 200 FA), (oc1 fe rk9 wd9 tw9 pa9 pb9 (.ref lo) (.ref lk) fm9), (oc4 lk kd9 st9 (.ref r) gb9 jt9 we9)] sz (some (.ref r)) (fun A t => zPD (dC, dI) classes A [(oc7 sh (.ref fa) (nI ft)), (oq fa cF 200 FA), (oc1 fe rk9 wd9 tw9 pa9 pb9 (.ref lo) (.ref lk) fm9), (oc4 lk kd9 st9 (.ref r) gb9 jt9 we9)] t.heap) 0 0 := by
  refine zIn (own := "ScaleShop$Sheet") (loc := [(0, .ref sh), (1, .int (nI i))]) rfl rfl rfl rfl (fun p e s m below meth c hx hb hr hts hown hlocks hml hnm9 A hA hS hP hD hK hXN Q9 hQ9 ls hl => ?_)
  refine lv_aload_n hx hb dX8_rowThere_0 rfl (lv_at hl 0 rfl) ?_
  refine lv_iload_n hx hb dX8_rowThere_1 rfl (lv_at hl 1 rfl) ?_
  obtain ⟨hPc, hDc, hFc, hI1⟩ := zi_sub (wc := [_, _]) hP hD hS hA [0, 1] rfl rfl
  refine zcall (st1 := [.ref fe]) (va_runV (As := [.int (nI i)]) (rest := []) ⟨hx, hb, hml, hown, hts⟩ (k_Sheet_find l dC dI cI cZ cF s.heap.size sh fa ft FA i fe (by first | with_reducible assumption | omega) (by first | with_reducible assumption | omega) (hFA)) (csV_36 hts rfl rfl ⟨Nat.le_of_ble_eq_true rfl, Nat.le_of_ble_eq_true rfl⟩) (zPV2 (q0 := 0) (ci := 7) hPc hDc hK hXN rfl rfl) rfl rfl hl.1 rfl (lv_room (Nat.le_of_ble_eq_true rfl)) dX8_rowThere_2 ⟨Nat.le_of_ble_eq_true rfl, Nat.le_of_ble_eq_true rfl⟩) hS hFc hFc rfl (fun t H locs ht hB hk1 hS => ?_)
  obtain ⟨hP1, hD1⟩ := hB
  rw [ht] at hP1
  replace hP := z0 hP hD hk1 hP1 hI1
  clear hk1 hPc hDc hFc hP1 hD1 ht hI1
  refine lv_astore_n (lv' := [(2, .ref fe), (0, .ref sh), (1, .int (nI i))]) hx hb dX8_rowThere_5 rfl hl (Nat.le_of_ble_eq_true rfl) rfl (fun ls hl => ?_)
  refine lv_aload_n hx hb dX8_rowThere_6 rfl (lv_at hl 0 rfl) ?_
  refine lv_ifnull hx hb dX8_rowThere_7 ?_
  refine lv_aload_n hx hb dX8_rowThere_10 rfl (lv_at hl 0 rfl) ?_
  refine va_get (D := (dC, dI)) (ci := 1) (v := .ref lk) (C := RX2) (T := TX2) (N := 8) hx hb hts inX2 hown hK hP 2 rfl rfl 6 (Nat.le_of_ble_eq_true rfl) (hts _ mw_434) (fun _ h9 => h9) rfl dX8_rowThere_11 ?_
  refine va_get (D := (dC, dI)) (ci := 4) (v := .int st9) (C := RX5) (T := TX5) (N := 6) hx hb hts inX5 hown hK hP 3 rfl rfl 1 (Nat.le_of_ble_eq_true rfl) (hts _ mw_387) (fun _ h9 => h9) rfl dX8_rowThere_14 ?_
  refine lv_iconst (v := 1) hx hb dX8_rowThere_17 rfl ?_
  refine lv_icmp_ne (tgt := 31) hx hb dX8_rowThere_18 rfl (fun c_1 => ?_) (fun c_1 => ?_)
  · have c_1 : ¬ st9.toInt = 1 := zc_ne rfl rfl c_1
    exfalso; omega
  · have c_1 : st9.toInt = 1 := zc_eq rfl rfl c_1
    refine lv_aload_n hx hb dX8_rowThere_21 rfl (lv_at hl 0 rfl) ?_
    refine va_get (D := (dC, dI)) (ci := 1) (v := .ref lk) (C := RX2) (T := TX2) (N := 8) hx hb hts inX2 hown hK hP 2 rfl rfl 6 (Nat.le_of_ble_eq_true rfl) (hts _ mw_434) (fun _ h9 => h9) rfl dX8_rowThere_22 ?_
    refine va_get (D := (dC, dI)) (ci := 4) (v := .ref r) (C := RX5) (T := TX5) (N := 6) hx hb hts inX5 hown hK hP 3 rfl rfl 2 (Nat.le_of_ble_eq_true rfl) (hts _ mw_393) (fun _ h9 => h9) rfl dX8_rowThere_25 ?_
    refine lv_goto (tgt := 32) hx hb dX8_rowThere_28 rfl ?_
    obtain ⟨hP9, hD9⟩ := zu_sub (wc := [_, _, _, _]) hP hD [true, true, true, true] rfl rfl
    rw [hQ9]
    exact W.aret hx hb hr (Or.inl ⟨_, rfl⟩) (Or.inr ⟨_, rfl⟩) (fun t ht hW => ⟨⟨rfl, by rw [ht]; exact hP9, hD9⟩, hS.F ht⟩) hS.2.2 dX8_rowThere_32
set_option maxHeartbeats 4000000 in
set_option maxRecDepth 100000 in
theorem k_Sheet_rowThere_sv (l : Launch) (dC : Nat → ClassId) (dI : Nat → Nat → Nat) (cI cZ cF : ClassId) (sz : Nat) (sh : Nat) (fa : Nat) (ft : Nat) (FA : Nat → Option Nat) (i : Nat) (fe : Nat) (lo : Nat) (rk9 : Int32) (wd9 : Int32) (tw9 : Int32) (pa9 : Int32) (pb9 : Int32) (lk : Nat) (kd9 : Int32) (st9 : Int32) (gb9 : Int32) (jt9 : Int32) (we9 : Int32) (fm9 : Value) (rw9 : Value) (h200 : ft ≤ 200) (hi : i < ft) (hFA : FA i = some fe) (hs1 : ¬ st9.toInt = 1) : zM l yX8_rowThere cX8_rowThere 3 (some (.object "ScaleShop$Row")) ({ frames := 1, cells := 0, slots := 0, locals := 21 } : Room) [.ref sh, .int (nI i)] (dC, dI) (zTy cI cZ cF) [(oc7 sh (.ref fa) (nI ft)), (oq fa cF 200 FA), (oc1 fe rk9 wd9 tw9 pa9 pb9 (.ref lo) (.ref lk) fm9), (oc4 lk kd9 st9 rw9 gb9 jt9 we9)] sz (some (.null)) (fun A t => zPD (dC, dI) classes A [(oc7 sh (.ref fa) (nI ft)), (oq fa cF 200 FA), (oc1 fe rk9 wd9 tw9 pa9 pb9 (.ref lo) (.ref lk) fm9), (oc4 lk kd9 st9 rw9 gb9 jt9 we9)] t.heap) 0 0 := by
  refine zIn (own := "ScaleShop$Sheet") (loc := [(0, .ref sh), (1, .int (nI i))]) rfl rfl rfl rfl (fun p e s m below meth c hx hb hr hts hown hlocks hml hnm9 A hA hS hP hD hK hXN Q9 hQ9 ls hl => ?_)
  refine lv_aload_n hx hb dX8_rowThere_0 rfl (lv_at hl 0 rfl) ?_
  refine lv_iload_n hx hb dX8_rowThere_1 rfl (lv_at hl 1 rfl) ?_
  obtain ⟨hPc, hDc, hFc, hI1⟩ := zi_sub (wc := [_, _]) hP hD hS hA [0, 1] rfl rfl
  refine zcall (st1 := [.ref fe]) (va_runV (As := [.int (nI i)]) (rest := []) ⟨hx, hb, hml, hown, hts⟩ (k_Sheet_find l dC dI cI cZ cF s.heap.size sh fa ft FA i fe (by first | with_reducible assumption | omega) (by first | with_reducible assumption | omega) (hFA)) (csV_36 hts rfl rfl ⟨Nat.le_of_ble_eq_true rfl, Nat.le_of_ble_eq_true rfl⟩) (zPV2 (q0 := 0) (ci := 7) hPc hDc hK hXN rfl rfl) rfl rfl hl.1 rfl (lv_room (Nat.le_of_ble_eq_true rfl)) dX8_rowThere_2 ⟨Nat.le_of_ble_eq_true rfl, Nat.le_of_ble_eq_true rfl⟩) hS hFc hFc rfl (fun t H locs ht hB hk1 hS => ?_)
  obtain ⟨hP1, hD1⟩ := hB
  rw [ht] at hP1
  replace hP := z0 hP hD hk1 hP1 hI1
  clear hk1 hPc hDc hFc hP1 hD1 ht hI1
  refine lv_astore_n (lv' := [(2, .ref fe), (0, .ref sh), (1, .int (nI i))]) hx hb dX8_rowThere_5 rfl hl (Nat.le_of_ble_eq_true rfl) rfl (fun ls hl => ?_)
  refine lv_aload_n hx hb dX8_rowThere_6 rfl (lv_at hl 0 rfl) ?_
  refine lv_ifnull hx hb dX8_rowThere_7 ?_
  refine lv_aload_n hx hb dX8_rowThere_10 rfl (lv_at hl 0 rfl) ?_
  refine va_get (D := (dC, dI)) (ci := 1) (v := .ref lk) (C := RX2) (T := TX2) (N := 8) hx hb hts inX2 hown hK hP 2 rfl rfl 6 (Nat.le_of_ble_eq_true rfl) (hts _ mw_434) (fun _ h9 => h9) rfl dX8_rowThere_11 ?_
  refine va_get (D := (dC, dI)) (ci := 4) (v := .int st9) (C := RX5) (T := TX5) (N := 6) hx hb hts inX5 hown hK hP 3 rfl rfl 1 (Nat.le_of_ble_eq_true rfl) (hts _ mw_387) (fun _ h9 => h9) rfl dX8_rowThere_14 ?_
  refine lv_iconst (v := 1) hx hb dX8_rowThere_17 rfl ?_
  refine lv_icmp_ne (tgt := 31) hx hb dX8_rowThere_18 rfl (fun c_1 => ?_) (fun c_1 => ?_)
  · have c_1 : ¬ st9.toInt = 1 := zc_ne rfl rfl c_1
    refine lv_null hx hb dX8_rowThere_31 ?_
    obtain ⟨hP9, hD9⟩ := zu_sub (wc := [_, _, _, _]) hP hD [true, true, true, true] rfl rfl
    rw [hQ9]
    exact W.aret hx hb hr (Or.inl ⟨_, rfl⟩) (Or.inl rfl) (fun t ht hW => ⟨⟨rfl, by rw [ht]; exact hP9, hD9⟩, hS.F ht⟩) hS.2.2 dX8_rowThere_32
  · have c_1 : st9.toInt = 1 := zc_eq rfl rfl c_1
    exfalso; omega
set_option maxHeartbeats 4000000 in
set_option maxRecDepth 100000 in
theorem k_Sheet_rowThere_tv (l : Launch) (dC : Nat → ClassId) (dI : Nat → Nat → Nat) (cI cZ cF : ClassId) (sz : Nat) (sh : Nat) (fa : Nat) (ft : Nat) (FA : Nat → Option Nat) (i : Nat) (fe : Nat) (lo : Nat) (rk9 : Int32) (wd9 : Int32) (tw9 : Int32) (pa9 : Int32) (pb9 : Int32) (lk : Nat) (kd9 : Int32) (st9 : Int32) (gb9 : Int32) (jt9 : Int32) (we9 : Int32) (fm9 : Value) (h200 : ft ≤ 200) (hi : i < ft) (hFA : FA i = some fe) : zM l yX8_rowThere cX8_rowThere 3 (some (.object "ScaleShop$Row")) ({ frames := 1, cells := 0, slots := 0, locals := 21 } : Room) [.ref sh, .int (nI i)] (dC, dI) (zTy cI cZ cF) [(oc7 sh (.ref fa) (nI ft)), (oq fa cF 200 FA), (oc1 fe rk9 wd9 tw9 pa9 pb9 (.ref lo) (.ref lk) fm9), (oc4 lk kd9 st9 .null gb9 jt9 we9)] sz (some (.null)) (fun A t => zPD (dC, dI) classes A [(oc7 sh (.ref fa) (nI ft)), (oq fa cF 200 FA), (oc1 fe rk9 wd9 tw9 pa9 pb9 (.ref lo) (.ref lk) fm9), (oc4 lk kd9 st9 .null gb9 jt9 we9)] t.heap) 0 0 := by
  refine zIn (own := "ScaleShop$Sheet") (loc := [(0, .ref sh), (1, .int (nI i))]) rfl rfl rfl rfl (fun p e s m below meth c hx hb hr hts hown hlocks hml hnm9 A hA hS hP hD hK hXN Q9 hQ9 ls hl => ?_)
  refine lv_aload_n hx hb dX8_rowThere_0 rfl (lv_at hl 0 rfl) ?_
  refine lv_iload_n hx hb dX8_rowThere_1 rfl (lv_at hl 1 rfl) ?_
  obtain ⟨hPc, hDc, hFc, hI1⟩ := zi_sub (wc := [_, _]) hP hD hS hA [0, 1] rfl rfl
  refine zcall (st1 := [.ref fe]) (va_runV (As := [.int (nI i)]) (rest := []) ⟨hx, hb, hml, hown, hts⟩ (k_Sheet_find l dC dI cI cZ cF s.heap.size sh fa ft FA i fe (by first | with_reducible assumption | omega) (by first | with_reducible assumption | omega) (hFA)) (csV_36 hts rfl rfl ⟨Nat.le_of_ble_eq_true rfl, Nat.le_of_ble_eq_true rfl⟩) (zPV2 (q0 := 0) (ci := 7) hPc hDc hK hXN rfl rfl) rfl rfl hl.1 rfl (lv_room (Nat.le_of_ble_eq_true rfl)) dX8_rowThere_2 ⟨Nat.le_of_ble_eq_true rfl, Nat.le_of_ble_eq_true rfl⟩) hS hFc hFc rfl (fun t H locs ht hB hk1 hS => ?_)
  obtain ⟨hP1, hD1⟩ := hB
  rw [ht] at hP1
  replace hP := z0 hP hD hk1 hP1 hI1
  clear hk1 hPc hDc hFc hP1 hD1 ht hI1
  refine lv_astore_n (lv' := [(2, .ref fe), (0, .ref sh), (1, .int (nI i))]) hx hb dX8_rowThere_5 rfl hl (Nat.le_of_ble_eq_true rfl) rfl (fun ls hl => ?_)
  refine lv_aload_n hx hb dX8_rowThere_6 rfl (lv_at hl 0 rfl) ?_
  refine lv_ifnull hx hb dX8_rowThere_7 ?_
  refine lv_aload_n hx hb dX8_rowThere_10 rfl (lv_at hl 0 rfl) ?_
  refine va_get (D := (dC, dI)) (ci := 1) (v := .ref lk) (C := RX2) (T := TX2) (N := 8) hx hb hts inX2 hown hK hP 2 rfl rfl 6 (Nat.le_of_ble_eq_true rfl) (hts _ mw_434) (fun _ h9 => h9) rfl dX8_rowThere_11 ?_
  refine va_get (D := (dC, dI)) (ci := 4) (v := .int st9) (C := RX5) (T := TX5) (N := 6) hx hb hts inX5 hown hK hP 3 rfl rfl 1 (Nat.le_of_ble_eq_true rfl) (hts _ mw_387) (fun _ h9 => h9) rfl dX8_rowThere_14 ?_
  refine lv_iconst (v := 1) hx hb dX8_rowThere_17 rfl ?_
  refine lv_icmp_ne (tgt := 31) hx hb dX8_rowThere_18 rfl (fun c_1 => ?_) (fun c_1 => ?_)
  · have c_1 : ¬ st9.toInt = 1 := zc_ne rfl rfl c_1
    refine lv_null hx hb dX8_rowThere_31 ?_
    obtain ⟨hP9, hD9⟩ := zu_sub (wc := [_, _, _, _]) hP hD [true, true, true, true] rfl rfl
    rw [hQ9]
    exact W.aret hx hb hr (Or.inl ⟨_, rfl⟩) (Or.inl rfl) (fun t ht hW => ⟨⟨rfl, by rw [ht]; exact hP9, hD9⟩, hS.F ht⟩) hS.2.2 dX8_rowThere_32
  · have c_1 : st9.toInt = 1 := zc_eq rfl rfl c_1
    refine lv_aload_n hx hb dX8_rowThere_21 rfl (lv_at hl 0 rfl) ?_
    refine va_get (D := (dC, dI)) (ci := 1) (v := .ref lk) (C := RX2) (T := TX2) (N := 8) hx hb hts inX2 hown hK hP 2 rfl rfl 6 (Nat.le_of_ble_eq_true rfl) (hts _ mw_434) (fun _ h9 => h9) rfl dX8_rowThere_22 ?_
    refine va_get (D := (dC, dI)) (ci := 4) (v := .null) (C := RX5) (T := TX5) (N := 6) hx hb hts inX5 hown hK hP 3 rfl rfl 2 (Nat.le_of_ble_eq_true rfl) (hts _ mw_393) (fun _ h9 => h9) rfl dX8_rowThere_25 ?_
    refine lv_goto (tgt := 32) hx hb dX8_rowThere_28 rfl ?_
    obtain ⟨hP9, hD9⟩ := zu_sub (wc := [_, _, _, _]) hP hD [true, true, true, true] rfl rfl
    rw [hQ9]
    exact W.aret hx hb hr (Or.inl ⟨_, rfl⟩) (Or.inl rfl) (fun t ht hW => ⟨⟨rfl, by rw [ht]; exact hP9, hD9⟩, hS.F ht⟩) hS.2.2 dX8_rowThere_32
set_option maxHeartbeats 4000000 in
set_option maxRecDepth 100000 in
theorem k_Law_isBare (l : Launch) (dC : Nat → ClassId) (dI : Nat → Nat → Nat) (cI cZ cF : ClassId) (sz : Nat) (lw : Nat) (dr : Nat) (tg : Nat) (wy : Nat) (br : Nat) (bo : Nat) (aa : Nat) (sh : Nat) (fa : Nat) (ft : Nat) (FA : Nat → Option Nat) (fe : Nat) (lo : Nat) (rk9 : Int32) (wd9 : Int32) (tw9 : Int32) (pa9 : Int32) (pb9 : Int32) (lk : Nat) (kd9 : Int32) (st9 : Int32) (gb9 : Int32) (jt9 : Int32) (we9 : Int32) (r : Nat) (f0 : Nat) (fm9 : Value) (L : List Nat) (f : Nat → va_E) (kd : Nat → Int32) (st : Nat → Int32) (tn : Nat → Int32) (mn : Nat → Int32) (cx : Nat → Int32) (cy : Nat → Int32) (px : Int32) (py : Int32) (h200 : ft ≤ 200) (hf0 : f0 < ft) (hFA : FA f0 = some fe) (hs1 : st9.toInt = 1) (hvw : ∀ q, q < ft → q ≠ f0 → vwO cI L f FA kd st tn mn cx cy q) (hwf : ∀ q, lvF ft st tn q → wfM mn cx cy q) (hkn : okN ft st tn kd mn) (hpx : pl px) (hpy : pl py) : zM l yX4_isBare cX4_isBare 7 (some .boolean) ({ frames := 3, cells := 0, slots := 0, locals := 71 } : Room) [.ref lw, .ref sh, .ref fe, .int px, .int py] (dC, dI) (zTy cI cZ cF) ([(oc3 lw (.ref dr) (.ref tg) (.ref wy) (.ref br) (.ref bo) (.ref aa)), (oc7 sh (.ref fa) (nI ft)), (oq fa cF 200 FA), (oc1 fe rk9 wd9 tw9 pa9 pb9 (.ref lo) (.ref lk) fm9), (oc4 lk kd9 st9 (.ref r) gb9 jt9 we9)] ++ va_pl L f) sz (some (.int (pI (∀ q, q < ft → (q ≠ f0 → lvF ft st tn q → ¬ onF kd mn cx cy q px.toInt py.toInt))))) (fun A t => zPD (dC, dI) classes A ([(oc3 lw (.ref dr) (.ref tg) (.ref wy) (.ref br) (.ref bo) (.ref aa)), (oc7 sh (.ref fa) (nI ft)), (oq fa cF 200 FA), (oc1 fe rk9 wd9 tw9 pa9 pb9 (.ref lo) (.ref lk) fm9), (oc4 lk kd9 st9 (.ref r) gb9 jt9 we9)] ++ va_pl L f) t.heap) 0 0 := by
  refine zIn (own := "ScaleShop$Law") (loc := [(0, .ref lw), (1, .ref sh), (2, .ref fe), (3, .int px), (4, .int py)]) rfl rfl rfl rfl (fun p e s m below meth c hx hb hr hts hown hlocks hml hnm9 A hA hS hP hD hK hXN Q9 hQ9 ls hl => ?_)
  refine lv_iconst (v := 0) hx hb dX4_isBare_0 rfl ?_
  refine lv_istore (lv' := [(5, .int 0), (0, .ref lw), (1, .ref sh), (2, .ref fe), (3, .int px), (4, .int py)]) hx hb dX4_isBare_1 hl (Nat.le_of_ble_eq_true rfl) rfl (fun ls hl => ?_)
  have hl_3 : ∀ (n9 : Nat) (g5 : Nat) (H : Heap) (locs : List Loc) (ls : Array Slot), ft - g5 < n9 → (g5 ≤ ft) → (∀ q, q < g5 → (q ≠ f0 → lvF ft st tn q → ¬ onF kd mn cx cy q px.toInt py.toInt)) → va_P (dC, dI) classes ([(oc3 lw (.ref dr) (.ref tg) (.ref wy) (.ref br) (.ref bo) (.ref aa)), (oc7 sh (.ref fa) (nI ft)), (oq fa cF 200 FA), (oc1 fe rk9 wd9 tw9 pa9 pb9 (.ref lo) (.ref lk) fm9), (oc4 lk kd9 st9 (.ref r) gb9 jt9 we9)] ++ va_pl L f) H → va_D A ([(oc3 lw (.ref dr) (.ref tg) (.ref wy) (.ref br) (.ref bo) (.ref aa)), (oc7 sh (.ref fa) (nI ft)), (oq fa cF 200 FA), (oc1 fe rk9 wd9 tw9 pa9 pb9 (.ref lo) (.ref lk) fm9), (oc4 lk kd9 st9 (.ref r) gb9 jt9 we9)] ++ va_pl L f) → va_S A s.heap H locs → lv_has ls 7 [(5, .int (nI g5)), (0, .ref lw), (1, .ref sh), (2, .ref fe), (3, .int px), (4, .int py)] → W p l e ({ frames := 3, cells := 0, slots := 0, locals := 71 } : Room) s m ([.ref lw, .ref sh, .ref fe, .int px, .int py] : List Value).toArray below meth c H locs 0 0 Q9 (F0 m 3 ls []) := by
    intro n9
    induction n9 with
    | zero => intro g5 H locs ls hm; exact absurd hm (Nat.not_lt_zero _)
    | succ n9 ih_3 =>
      intro g5 H locs ls hm hi hall hP hD hS hl
      refine lv_iload hx hb dX4_isBare_3 (lv_at hl 0 rfl) ?_
      refine lv_aload_n hx hb dX4_isBare_5 rfl (lv_at hl 2 rfl) ?_
      refine va_get (D := (dC, dI)) (ci := 7) (v := .int (nI ft)) (C := RX8) (T := TX8) (N := 2) hx hb hts inX8 hown hK hP 1 rfl rfl 1 (Nat.le_of_ble_eq_true rfl) (hts _ mw_139) (fun _ h9 => h9) rfl dX4_isBare_6 ?_
      have b9_2 : zlt (g5) := show g5 < 2147483648 by omega
      have b9_3 : zlt (ft) := show ft < 2147483648 by omega
      refine lv_icmp_ge (tgt := 54) hx hb dX4_isBare_9 rfl (fun c_1 => ?_) (fun c_1 => ?_)
      · have c_1 : ((ft : Nat) : Int) ≤ ((g5 : Nat) : Int) := zc_le (nI_toInt b9_3) (nI_toInt b9_2) c_1
        refine lv_iconst (v := 1) hx hb dX4_isBare_54 rfl ?_
        obtain ⟨hP9, hD9⟩ := zu_part (cx := [_, _, _, _, _]) hP hD [true, true, true, true, true] rfl rfl
        rw [hQ9]
        exact W.zret (ty := .boolean) (v := 1) hx hb hr (rfl) (fun t ht hW => ⟨⟨congrArg (fun z => Outcome.returned (some (Value.int z))) (show (1 : Int32) = pI (∀ q, q < ft → (q ≠ f0 → lvF ft st tn q → ¬ onF kd mn cx cy q px.toInt py.toInt)) from (zp_t (fun q hq => hall q (by omega))).symm), by rw [ht]; exact hP9, hD9⟩, hS.F ht⟩) hS.2.2 dX4_isBare_55
      · have c_1 : ((g5 : Nat) : Int) < ((ft : Nat) : Int) := zc_nle (nI_toInt b9_3) (nI_toInt b9_2) c_1
        rcases vw4 (hvw g5) (show g5 < ft by omega) with hif | ⟨hif, hs2, fe2, lk2, lo2, rk2, wd2, tw2, pa2, pb2, gb2, jt2, we2, fm2, rw2, hFA2, hfe2, hlk2⟩ | ⟨hif, ht2, fe2, lk2, lo2, rk2, wd2, tw2, pa2, pb2, gb2, jt2, we2, fm2, hFA2, hfe2, hlk2⟩ | ⟨hif, hlv2, fe2, lk2, lo2, rk2, wd2, tw2, pa2, pb2, gb2, jt2, we2, fm2, r2, rx2, ry2, cap2, U2, V2, rg2, hFA2, hfe2, hlk2, ⟨hr2, hrx2, hry2, hne2⟩, hrr2⟩
        · skip
          have hFi : FA g5 = some fe := (by rw [hif]; exact hFA)
          refine lv_aload_n hx hb dX4_isBare_12 rfl (lv_at hl 2 rfl) ?_
          refine lv_iload hx hb dX4_isBare_13 (lv_at hl 0 rfl) ?_
          obtain ⟨hPc, hDc, hFc, hI1⟩ := zi_sub (wc := [_, _, _, _]) hP hD hS hA [1, 2, 3, 4] (by decide +kernel) rfl
          refine zcall (st1 := [.ref r]) (va_runV (As := [.int (nI g5)]) (rest := []) ⟨hx, hb, hml, hown, hts⟩ (k_Sheet_rowThere_yv l dC dI cI cZ cF H.size sh fa ft FA g5 fe lo rk9 wd9 tw9 pa9 pb9 lk kd9 st9 gb9 jt9 we9 r fm9 (by first | with_reducible assumption | omega) (by first | with_reducible assumption | omega) (by first | exact hFi | exact hFA2) (by first | exact hs1 | exact hs2 | exact hlv2.2.1)) (csV_62 hts rfl rfl ⟨Nat.le_of_ble_eq_true rfl, Nat.le_of_ble_eq_true rfl⟩) (zPV2 (q0 := 0) (ci := 7) hPc hDc hK hXN rfl rfl) rfl rfl hl.1 rfl (lv_room (Nat.le_of_ble_eq_true rfl)) dX4_isBare_15 ⟨Nat.le_of_ble_eq_true rfl, Nat.le_of_ble_eq_true rfl⟩) hS hFc hFc rfl (fun t H locs ht hB hk1 hS => ?_)
          obtain ⟨hP1, hD1⟩ := hB
          rw [ht] at hP1
          replace hP := z0 hP hD hk1 hP1 hI1
          clear hk1 hPc hDc hFc hP1 hD1 ht hI1
          refine lv_astore (lv' := [(6, .ref r), (5, .int (nI g5)), (0, .ref lw), (1, .ref sh), (2, .ref fe), (3, .int px), (4, .int py)]) hx hb dX4_isBare_18 hl (Nat.le_of_ble_eq_true rfl) rfl (fun ls hl => ?_)
          refine lv_aload hx hb dX4_isBare_20 (lv_at hl 0 rfl) ?_
          refine lv_ifnull hx hb dX4_isBare_22 ?_
          refine lv_aload_n hx hb dX4_isBare_25 rfl (lv_at hl 3 rfl) ?_
          refine lv_iload hx hb dX4_isBare_26 (lv_at hl 1 rfl) ?_
          obtain ⟨hPc, hDc, hFc, hI1⟩ := zi_sub (wc := [_, _]) hP hD hS hA [1, 2] rfl rfl
          refine zcall (st1 := [.ref fe]) (va_runV (As := [.int (nI g5)]) (rest := []) ⟨hx, hb, hml, hown, hts⟩ (k_Sheet_find l dC dI cI cZ cF H.size sh fa ft FA g5 fe (by first | with_reducible assumption | omega) (by first | with_reducible assumption | omega) (by first | exact hFi | exact hFA2)) (csV_63 hts rfl rfl ⟨Nat.le_of_ble_eq_true rfl, Nat.le_of_ble_eq_true rfl⟩) (zPV2 (q0 := 0) (ci := 7) hPc hDc hK hXN rfl rfl) rfl rfl hl.1 rfl (lv_room (Nat.le_of_ble_eq_true rfl)) dX4_isBare_28 ⟨Nat.le_of_ble_eq_true rfl, Nat.le_of_ble_eq_true rfl⟩) hS hFc hFc rfl (fun t H locs ht hB hk1 hS => ?_)
          obtain ⟨hP1, hD1⟩ := hB
          rw [ht] at hP1
          replace hP := z0 hP hD hk1 hP1 hI1
          clear hk1 hPc hDc hFc hP1 hD1 ht hI1
          refine lv_aload_n hx hb dX4_isBare_31 rfl (lv_at hl 4 rfl) ?_
          refine z_acmpeq (rx := fe) (ry := fe) (tgt := 48) hx hb dX4_isBare_32 (by decide) (fun c_4 => ?_) (fun c_4 => ?_)
          · have c_4 : fe = fe := c_4
            refine lv_iinc (v := nI (g5 + 1)) (lv' := [(5, .int (nI (g5 + 1))), (6, .ref r), (0, .ref lw), (1, .ref sh), (2, .ref fe), (3, .int px), (4, .int py)]) hx hb dX4_isBare_48 hl (k := 1) rfl (nI_add g5 1) (Nat.le_of_ble_eq_true rfl) rfl (fun ls hl => ?_)
            refine lv_goto (tgt := 3) hx hb dX4_isBare_51 rfl ?_
            exact ih_3 (g5 + 1) H locs ls (by first | with_reducible assumption | omega) (by first | with_reducible assumption | omega) (by intro q hq; rcases Nat.lt_or_ge q g5 with h | h; exact hall q h; rw [show q = g5 by omega]; intro h1 h2; first | exact absurd hif h1 | exact absurd h2.2.1 hs2 | exact absurd h2.2.2 ht2 | assumption) hP hD hS (lv_sub hl [0, 2, 3, 4, 5, 6] rfl)
          · have c_4 : ¬ fe = fe := c_4
            exact absurd rfl c_4
        · skip
          have hc9_1 : inPl L f [(oc1 fe2 rk2 wd2 tw2 pa2 pb2 (.ref lo2) (.ref lk2) fm2), (oc4 lk2 (kd g5) (st g5) rw2 gb2 jt2 we2)] := ⟨hfe2, hlk2, trivial⟩
          have hD0_1 := hD
          obtain ⟨T_1, hT_1, hP, hD⟩ := pl_oT hP hD hc9_1 (pwF hfe2.2 hlk2.2)
          obtain ⟨hP, hD⟩ := zre (W2 := ([_, _, _, _, _, _, _] ++ va_pl T_1 f)) hP hD rfl
          refine lv_aload_n hx hb dX4_isBare_12 rfl (lv_at hl 2 rfl) ?_
          refine lv_iload hx hb dX4_isBare_13 (lv_at hl 0 rfl) ?_
          obtain ⟨hPc, hDc, hFc, hI1⟩ := zi_sub (wc := [_, _, _, _]) hP hD hS hA [1, 2, 5, 6] (by decide +kernel) rfl
          refine zcall (st1 := [.null]) (va_runV (As := [.int (nI g5)]) (rest := []) ⟨hx, hb, hml, hown, hts⟩ (k_Sheet_rowThere_sv l dC dI cI cZ cF H.size sh fa ft FA g5 fe2 lo2 rk2 wd2 tw2 pa2 pb2 lk2 (kd g5) (st g5) gb2 jt2 we2 fm2 rw2 (by first | with_reducible assumption | omega) (by first | with_reducible assumption | omega) (by first | exact hFi | exact hFA2) (by first | exact hs1 | exact hs2 | exact hlv2.2.1)) (csV_62 hts rfl rfl ⟨Nat.le_of_ble_eq_true rfl, Nat.le_of_ble_eq_true rfl⟩) (zPV2 (q0 := 0) (ci := 7) hPc hDc hK hXN rfl rfl) rfl rfl hl.1 rfl (lv_room (Nat.le_of_ble_eq_true rfl)) dX4_isBare_15 ⟨Nat.le_of_ble_eq_true rfl, Nat.le_of_ble_eq_true rfl⟩) hS hFc hFc rfl (fun t H locs ht hB hk1 hS => ?_)
          obtain ⟨hP1, hD1⟩ := hB
          rw [ht] at hP1
          replace hP := z0 hP hD hk1 hP1 hI1
          clear hk1 hPc hDc hFc hP1 hD1 ht hI1
          refine lv_astoreN (lv' := [(6, .null), (5, .int (nI g5)), (0, .ref lw), (1, .ref sh), (2, .ref fe), (3, .int px), (4, .int py)]) hx hb dX4_isBare_18 hl (Nat.le_of_ble_eq_true rfl) rfl (fun ls hl => ?_)
          refine lv_aloadN hx hb dX4_isBare_20 (lv_at hl 0 rfl) ?_
          refine lv_ifnullN (tgt := 48) hx hb dX4_isBare_22 rfl ?_
          obtain ⟨hP, hD⟩ := pl_bk (X := [_, _, _, _, _]) hT_1 hP rfl hc9_1 hD0_1 rfl
          refine lv_iinc (v := nI (g5 + 1)) (lv' := [(5, .int (nI (g5 + 1))), (6, .null), (0, .ref lw), (1, .ref sh), (2, .ref fe), (3, .int px), (4, .int py)]) hx hb dX4_isBare_48 hl (k := 1) rfl (nI_add g5 1) (Nat.le_of_ble_eq_true rfl) rfl (fun ls hl => ?_)
          refine lv_goto (tgt := 3) hx hb dX4_isBare_51 rfl ?_
          exact ih_3 (g5 + 1) H locs ls (by first | with_reducible assumption | omega) (by first | with_reducible assumption | omega) (by intro q hq; rcases Nat.lt_or_ge q g5 with h | h; exact hall q h; rw [show q = g5 by omega]; intro h1 h2; first | exact absurd hif h1 | exact absurd h2.2.1 hs2 | exact absurd h2.2.2 ht2 | assumption) hP hD hS (lv_sub hl [0, 2, 3, 4, 5, 6] rfl)
        · skip
          have hc9_1 : inPl L f [(oc1 fe2 rk2 wd2 tw2 pa2 pb2 (.ref lo2) (.ref lk2) fm2), (oc4 lk2 (kd g5) (st g5) .null gb2 jt2 we2)] := ⟨hfe2, hlk2, trivial⟩
          have hD0_1 := hD
          obtain ⟨T_1, hT_1, hP, hD⟩ := pl_oT hP hD hc9_1 (pwF hfe2.2 hlk2.2)
          obtain ⟨hP, hD⟩ := zre (W2 := ([_, _, _, _, _, _, _] ++ va_pl T_1 f)) hP hD rfl
          refine lv_aload_n hx hb dX4_isBare_12 rfl (lv_at hl 2 rfl) ?_
          refine lv_iload hx hb dX4_isBare_13 (lv_at hl 0 rfl) ?_
          obtain ⟨hPc, hDc, hFc, hI1⟩ := zi_sub (wc := [_, _, _, _]) hP hD hS hA [1, 2, 5, 6] (by decide +kernel) rfl
          refine zcall (st1 := [.null]) (va_runV (As := [.int (nI g5)]) (rest := []) ⟨hx, hb, hml, hown, hts⟩ (k_Sheet_rowThere_tv l dC dI cI cZ cF H.size sh fa ft FA g5 fe2 lo2 rk2 wd2 tw2 pa2 pb2 lk2 (kd g5) (st g5) gb2 jt2 we2 fm2 (by first | with_reducible assumption | omega) (by first | with_reducible assumption | omega) (by first | exact hFi | exact hFA2)) (csV_62 hts rfl rfl ⟨Nat.le_of_ble_eq_true rfl, Nat.le_of_ble_eq_true rfl⟩) (zPV2 (q0 := 0) (ci := 7) hPc hDc hK hXN rfl rfl) rfl rfl hl.1 rfl (lv_room (Nat.le_of_ble_eq_true rfl)) dX4_isBare_15 ⟨Nat.le_of_ble_eq_true rfl, Nat.le_of_ble_eq_true rfl⟩) hS hFc hFc rfl (fun t H locs ht hB hk1 hS => ?_)
          obtain ⟨hP1, hD1⟩ := hB
          rw [ht] at hP1
          replace hP := z0 hP hD hk1 hP1 hI1
          clear hk1 hPc hDc hFc hP1 hD1 ht hI1
          refine lv_astoreN (lv' := [(6, .null), (5, .int (nI g5)), (0, .ref lw), (1, .ref sh), (2, .ref fe), (3, .int px), (4, .int py)]) hx hb dX4_isBare_18 hl (Nat.le_of_ble_eq_true rfl) rfl (fun ls hl => ?_)
          refine lv_aloadN hx hb dX4_isBare_20 (lv_at hl 0 rfl) ?_
          refine lv_ifnullN (tgt := 48) hx hb dX4_isBare_22 rfl ?_
          obtain ⟨hP, hD⟩ := pl_bk (X := [_, _, _, _, _]) hT_1 hP rfl hc9_1 hD0_1 rfl
          refine lv_iinc (v := nI (g5 + 1)) (lv' := [(5, .int (nI (g5 + 1))), (6, .null), (0, .ref lw), (1, .ref sh), (2, .ref fe), (3, .int px), (4, .int py)]) hx hb dX4_isBare_48 hl (k := 1) rfl (nI_add g5 1) (Nat.le_of_ble_eq_true rfl) rfl (fun ls hl => ?_)
          refine lv_goto (tgt := 3) hx hb dX4_isBare_51 rfl ?_
          exact ih_3 (g5 + 1) H locs ls (by first | with_reducible assumption | omega) (by first | with_reducible assumption | omega) (by intro q hq; rcases Nat.lt_or_ge q g5 with h | h; exact hall q h; rw [show q = g5 by omega]; intro h1 h2; first | exact absurd hif h1 | exact absurd h2.2.1 hs2 | exact absurd h2.2.2 ht2 | assumption) hP hD hS (lv_sub hl [0, 2, 3, 4, 5, 6] rfl)
        · skip
          have hw2 := hwf g5 hlv2
          have hn2 := hw2.2.1
          have hq2 := rw_pls hrr2 hw2
          have hkn2 := hkn g5 hlv2
          have hcap2 := hrr2.1
          have hcap3 := hrr2.2.1
          have hc9_1 : inPl L f [(oc1 fe2 rk2 wd2 tw2 pa2 pb2 (.ref lo2) (.ref lk2) fm2), (oc4 lk2 (kd g5) (st g5) (.ref r2) gb2 jt2 we2), (oc6 r2 (.ref rx2) (.ref ry2) (nI (nN (mn g5))) rg2), (oa rx2 cI cap2 U2), (oa ry2 cI cap2 V2)] := ⟨hfe2, hlk2, hr2, hrx2, hry2, trivial⟩
          have hD0_1 := hD
          obtain ⟨T_1, hT_1, hP, hD⟩ := pl_oT hP hD hc9_1 (pwR hfe2.2 hlk2.2 hr2.2 hrx2.2 hry2.2 hne2)
          obtain ⟨hP, hD⟩ := zre (W2 := ([_, _, _, _, _, _, _, _, _, _] ++ va_pl T_1 f)) hP hD rfl
          refine lv_aload_n hx hb dX4_isBare_12 rfl (lv_at hl 2 rfl) ?_
          refine lv_iload hx hb dX4_isBare_13 (lv_at hl 0 rfl) ?_
          obtain ⟨hPc, hDc, hFc, hI1⟩ := zi_sub (wc := [_, _, _, _]) hP hD hS hA [1, 2, 5, 6] (by decide +kernel) rfl
          refine zcall (st1 := [.ref r2]) (va_runV (As := [.int (nI g5)]) (rest := []) ⟨hx, hb, hml, hown, hts⟩ (k_Sheet_rowThere_yv l dC dI cI cZ cF H.size sh fa ft FA g5 fe2 lo2 rk2 wd2 tw2 pa2 pb2 lk2 (kd g5) (st g5) gb2 jt2 we2 r2 fm2 (by first | with_reducible assumption | omega) (by first | with_reducible assumption | omega) (by first | exact hFi | exact hFA2) (by first | exact hs1 | exact hs2 | exact hlv2.2.1)) (csV_62 hts rfl rfl ⟨Nat.le_of_ble_eq_true rfl, Nat.le_of_ble_eq_true rfl⟩) (zPV2 (q0 := 0) (ci := 7) hPc hDc hK hXN rfl rfl) rfl rfl hl.1 rfl (lv_room (Nat.le_of_ble_eq_true rfl)) dX4_isBare_15 ⟨Nat.le_of_ble_eq_true rfl, Nat.le_of_ble_eq_true rfl⟩) hS hFc hFc rfl (fun t H locs ht hB hk1 hS => ?_)
          obtain ⟨hP1, hD1⟩ := hB
          rw [ht] at hP1
          replace hP := z0 hP hD hk1 hP1 hI1
          clear hk1 hPc hDc hFc hP1 hD1 ht hI1
          refine lv_astore (lv' := [(6, .ref r2), (5, .int (nI g5)), (0, .ref lw), (1, .ref sh), (2, .ref fe), (3, .int px), (4, .int py)]) hx hb dX4_isBare_18 hl (Nat.le_of_ble_eq_true rfl) rfl (fun ls hl => ?_)
          refine lv_aload hx hb dX4_isBare_20 (lv_at hl 0 rfl) ?_
          refine lv_ifnull hx hb dX4_isBare_22 ?_
          refine lv_aload_n hx hb dX4_isBare_25 rfl (lv_at hl 3 rfl) ?_
          refine lv_iload hx hb dX4_isBare_26 (lv_at hl 1 rfl) ?_
          obtain ⟨hPc, hDc, hFc, hI1⟩ := zi_sub (wc := [_, _]) hP hD hS hA [1, 2] rfl rfl
          refine zcall (st1 := [.ref fe2]) (va_runV (As := [.int (nI g5)]) (rest := []) ⟨hx, hb, hml, hown, hts⟩ (k_Sheet_find l dC dI cI cZ cF H.size sh fa ft FA g5 fe2 (by first | with_reducible assumption | omega) (by first | with_reducible assumption | omega) (by first | exact hFi | exact hFA2)) (csV_63 hts rfl rfl ⟨Nat.le_of_ble_eq_true rfl, Nat.le_of_ble_eq_true rfl⟩) (zPV2 (q0 := 0) (ci := 7) hPc hDc hK hXN rfl rfl) rfl rfl hl.1 rfl (lv_room (Nat.le_of_ble_eq_true rfl)) dX4_isBare_28 ⟨Nat.le_of_ble_eq_true rfl, Nat.le_of_ble_eq_true rfl⟩) hS hFc hFc rfl (fun t H locs ht hB hk1 hS => ?_)
          obtain ⟨hP1, hD1⟩ := hB
          rw [ht] at hP1
          replace hP := z0 hP hD hk1 hP1 hI1
          clear hk1 hPc hDc hFc hP1 hD1 ht hI1
          refine lv_aload_n hx hb dX4_isBare_31 rfl (lv_at hl 4 rfl) ?_
          refine z_acmpeq (rx := fe2) (ry := fe) (tgt := 48) hx hb dX4_isBare_32 (by decide) (fun c_5 => ?_) (fun c_5 => ?_)
          · have c_5 : fe2 = fe := c_5
            exfalso; exact absurd (by first | with_reducible assumption | assumption) (pl_sep (q := (oc1 fe rk9 wd9 tw9 pa9 pb9 (.ref lo) (.ref lk) fm9)) hD0_1 (by simp) hfe2.1)
          · have c_5 : ¬ fe2 = fe := c_5
            refine lv_aload hx hb dX4_isBare_35 (lv_at hl 0 rfl) ?_
            refine lv_iload_n hx hb dX4_isBare_37 rfl (lv_at hl 5 rfl) ?_
            refine lv_iload hx hb dX4_isBare_38 (lv_at hl 6 rfl) ?_
            obtain ⟨hPc, hDc, hFc, hI1⟩ := zi_sub (wc := [_, _, _]) hP hD hS hA [7, 8, 9] rfl rfl
            refine zcall (st1 := [.int (pI (∃ i, i < prt (nN (mn g5)) rg2 ∧ eOn (nN (mn g5)) U2 V2 i px.toInt py.toInt))]) (va_runV (As := [.int px, .int py]) (rest := []) ⟨hx, hb, hml, hown, hts⟩ (k_Row_isOnSet l dC dI cI cZ cF H.size r2 rx2 ry2 (nN (mn g5)) cap2 U2 V2 rg2 px py (by first | with_reducible assumption | omega) (by first | with_reducible assumption | omega) (hq2) (hpx) (hpy)) (csV_64 hts rfl rfl ⟨Nat.le_of_ble_eq_true rfl, Nat.le_of_ble_eq_true rfl⟩) (zPV2 (q0 := 0) (ci := 6) hPc hDc hK hXN rfl rfl) rfl rfl hl.1 rfl (lv_room (Nat.le_of_ble_eq_true rfl)) dX4_isBare_40 ⟨Nat.le_of_ble_eq_true rfl, Nat.le_of_ble_eq_true rfl⟩) hS hFc hFc rfl (fun t H locs ht hB hk1 hS => ?_)
            obtain ⟨hP1, hD1⟩ := hB
            rw [ht] at hP1
            replace hP := z0 hP hD hk1 hP1 hI1
            clear hk1 hPc hDc hFc hP1 hD1 ht hI1
            refine zz_i (v := pI (onF kd mn cx cy g5 px.toInt py.toInt)) (zp_iff (on_iff hrr2 hkn2)) ?_
            refine lv_if_eq (tgt := 48) hx hb dX4_isBare_43 rfl (fun c_6 => ?_) (fun c_6 => ?_)
            · have c_6 : ¬ (onF kd mn cx cy g5 px.toInt py.toInt) := zp_0 c_6
              obtain ⟨hP, hD⟩ := pl_bk (X := [_, _, _, _, _]) hT_1 hP rfl hc9_1 hD0_1 rfl
              refine lv_iinc (v := nI (g5 + 1)) (lv' := [(5, .int (nI (g5 + 1))), (6, .ref r2), (0, .ref lw), (1, .ref sh), (2, .ref fe), (3, .int px), (4, .int py)]) hx hb dX4_isBare_48 hl (k := 1) rfl (nI_add g5 1) (Nat.le_of_ble_eq_true rfl) rfl (fun ls hl => ?_)
              refine lv_goto (tgt := 3) hx hb dX4_isBare_51 rfl ?_
              exact ih_3 (g5 + 1) H locs ls (by first | with_reducible assumption | omega) (by first | with_reducible assumption | omega) (by intro q hq; rcases Nat.lt_or_ge q g5 with h | h; exact hall q h; rw [show q = g5 by omega]; intro h1 h2; first | exact absurd hif h1 | exact absurd h2.2.1 hs2 | exact absurd h2.2.2 ht2 | assumption) hP hD hS (lv_sub hl [0, 2, 3, 4, 5, 6] rfl)
            · have c_6 : onF kd mn cx cy g5 px.toInt py.toInt := zp_1 c_6
              obtain ⟨hP, hD⟩ := pl_bk (X := [_, _, _, _, _]) hT_1 hP rfl hc9_1 hD0_1 rfl
              refine lv_iconst (v := 0) hx hb dX4_isBare_46 rfl ?_
              obtain ⟨hP9, hD9⟩ := zu_part (cx := [_, _, _, _, _]) hP hD [true, true, true, true, true] rfl rfl
              rw [hQ9]
              exact W.zret (ty := .boolean) (v := 0) hx hb hr (rfl) (fun t ht hW => ⟨⟨congrArg (fun z => Outcome.returned (some (Value.int z))) (show (0 : Int32) = pI (∀ q, q < ft → (q ≠ f0 → lvF ft st tn q → ¬ onF kd mn cx cy q px.toInt py.toInt)) from (zp_f (fun h => absurd (by first | with_reducible assumption | assumption) (h g5 (by omega) hif hlv2))).symm), by rw [ht]; exact hP9, hD9⟩, hS.F ht⟩) hS.2.2 dX4_isBare_47
  exact hl_3 _ 0 s.heap [] ls (Nat.lt_succ_self _) (by first | with_reducible assumption | omega) (by intro q hq; omega) hP hD hS (lv_sub hl [0, 1, 2, 3, 4, 5] rfl)
end
section
/-! the class's law over the reference's corners -/
/-- a row lies apart from a box -/
def apB (l o r h : Int) (n : Nat) (U V : Nat → Int32) : Prop := r < mnI (U 0).toInt U n ∨ mxI (U 0).toInt U n < l ∨ h < mnI (V 0).toInt V n ∨ mxI (V 0).toInt V n < o
theorem apB_cg {l o r h : Int} {n : Nat} {U V S T : Nat → Int32} (h1 : 1 ≤ n) (hc : ∀ j, j < n → U j = S j ∧ V j = T j) : (r < mnI (U 0).toInt U n ∨ mxI (U 0).toInt U n < l ∨ h < mnI (V 0).toInt V n ∨ mxI (V 0).toInt V n < o) ↔ apB l o r h n S T := by
  have a := mnI_cg (z := (S 0).toInt) (fun j hj => (hc j hj).1) n (Nat.le_refl _)
  have b := mnI_cg (z := (T 0).toInt) (fun j hj => (hc j hj).2) n (Nat.le_refl _)
  have e := hc 0 (by omega)
  unfold apB
  rw [e.1, e.2, a.1, a.2, b.1, b.2]
def rgK (k : Int) : Int32 := if 5 ≤ k then 1 else 0
theorem rgK_e {rg : Int32} {k : Int} (h : rg.toInt = if 5 ≤ k then 1 else 0) : rg = rgK k := by
  unfold rgK
  by_cases e : 5 ≤ k
  · rw [if_pos e] at h ⊢; exact Int32.toInt_inj.mp (by rw [h]; decide)
  · rw [if_neg e] at h ⊢; exact Int32.toInt_inj.mp (by rw [h]; decide)
theorem tch_cg {n m : Nat} {X Y U V S T : Nat → Int32} {rg rh : Int32} (hc : ∀ j, j < m → U j = S j ∧ V j = T j) : tch n X Y rg m U V rh ↔ tch n X Y rg m S T rh := by
  have p1 := prt_le n rg; have p2 := prt_le m rh
  exact exists_congr fun i => and_congr_right fun hi => exists_congr fun j => and_congr_right fun hj => by rw [eMt_cg (fun _ _ => ⟨rfl, rfl⟩) hc (by omega) (by omega)]
theorem asb_cg {n nd m : Nat} {X Y P Q U V S T : Nat → Int32} {rg rd rh : Int32} (h1 : 1 ≤ m) (hc : ∀ j, j < m → U j = S j ∧ V j = T j) : asb n X Y rg nd P Q rd m U V rh ↔ asb n X Y rg nd P Q rd m S T rh := by
  unfold asb
  rw [tch_cg hc, tch_cg hc, inF_cg h1 hc, inF_cg h1 hc]
  exact and_congr_right fun _ => and_congr (imp_congr_right fun _ => forall_congr' fun k => imp_congr_right fun hk => by rw [(hc k hk).1, (hc k hk).2]) Iff.rfl
theorem ex_cg {m : Nat} {U V S T : Nat → Int32} {W : Int → Int → Prop} (hc : ∀ j, j < m → U j = S j ∧ V j = T j) : (∃ j, j < m ∧ W (U j).toInt (V j).toInt) ↔ ∃ j, j < m ∧ W (S j).toInt (T j).toInt :=
  exists_congr fun j => and_congr_right fun hj => by rw [(hc j hj).1, (hc j hj).2]
theorem wy_cg {m : Nat} {U V S T : Nat → Int32} {x0 y0 x1 y1 : Int} {rh : Int32} (hc : ∀ j, j < m → U j = S j ∧ V j = T j) : (∀ k, k < prt m rh → wyF2 x0 y0 x1 y1 m U V k) ↔ ∀ k, k < prt m rh → wyF2 x0 y0 x1 y1 m S T k := by
  have p2 := prt_le m rh
  refine forall_congr' fun k => imp_congr_right fun hk => ?_
  have hk2 := nxt_lt (n := m) (i := k) (by omega)
  unfold wyF2; rw [(hc k (by omega)).1, (hc k (by omega)).2, (hc _ hk2).1, (hc _ hk2).2]
def gpK (nd k : Nat) : Nat := if k < nd then k else 0
end
section
set_option maxHeartbeats 4000000 in
set_option maxRecDepth 100000 in
theorem k_Row_previous_1 (l : Launch) (dC : Nat → ClassId) (dI : Nat → Nat → Nat) (cI cZ cF : ClassId) (sz : Nat) (r : Nat) (rx : Nat) (ry : Nat) (n : Nat) (cap : Nat) (X : Nat → Int32) (Y : Nat → Int32) (rg : Int32) (hn : n ≤ cap) (hcap : cap ≤ 1000) (h1n : 1 ≤ n) : zM l yX7_previous cX7_previous 2 (some .int) ({ frames := 0, cells := 0, slots := 0, locals := 0 } : Room) [.ref r, .int (-1)] (dC, dI) (zTy cI cZ cF) [(oc6 r (.ref rx) (.ref ry) (nI n) rg), (oa rx cI cap X), (oa ry cI cap Y)] sz (some (.int (nI (n - 1)))) (fun A t => zPD (dC, dI) classes A [(oc6 r (.ref rx) (.ref ry) (nI n) rg), (oa rx cI cap X), (oa ry cI cap Y)] t.heap) 0 0 := by
  refine zIn (own := "ScaleShop$Row") (loc := [(0, .ref r), (1, .int (-1))]) rfl rfl rfl rfl (fun p e s m below meth c hx hb hr hts hown hlocks hml hnm9 A hA hS hP hD hK hXN Q9 hQ9 ls hl => ?_)
  refine lv_iload_n hx hb dX7_previous_0 rfl (lv_at hl 1 rfl) ?_
  refine lv_if_le (tgt := 10) hx hb dX7_previous_1 rfl (fun c_1 => ?_) (fun c_1 => ?_)
  · refine lv_aload_n hx hb dX7_previous_10 rfl (lv_at hl 0 rfl) ?_
    refine va_get (D := (dC, dI)) (ci := 6) (v := .int (nI n)) (C := RX7) (T := TX7) (N := 4) hx hb hts inX7 hown hK hP 0 rfl rfl 2 (Nat.le_of_ble_eq_true rfl) (hts _ mw_175) (fun _ h9 => h9) rfl dX7_previous_11 ?_
    refine lv_iconst (v := 1) hx hb dX7_previous_14 rfl ?_
    refine lv_isub hx hb dX7_previous_15 ?_
    refine zz_i (v := nI (n - 1)) (pk_sub (a := n) (b := 1) (by omega)) ?_
    obtain ⟨hP9, hD9⟩ := zu_sub (wc := [_, _, _]) hP hD [true, true, true] rfl rfl
    rw [hQ9]
    exact W.iret (v := nI (n - 1)) hx hb hr (fun t ht hW => ⟨⟨rfl, by rw [ht]; exact hP9, hD9⟩, hS.F ht⟩) hS.2.2 dX7_previous_16
  · exact absurd (by decide) c_1
set_option maxHeartbeats 4000000 in
set_option maxRecDepth 100000 in
theorem k_Row_previous_2 (l : Launch) (dC : Nat → ClassId) (dI : Nat → Nat → Nat) (cI cZ cF : ClassId) (sz : Nat) (r : Nat) (rx : Nat) (ry : Nat) (n : Nat) (cap : Nat) (X : Nat → Int32) (Y : Nat → Int32) (rg : Int32) (hn : n ≤ cap) (hcap : cap ≤ 1000) (h1n : 1 ≤ n) : zM l yX7_previous cX7_previous 2 (some .int) ({ frames := 0, cells := 0, slots := 0, locals := 0 } : Room) [.ref r, .int (-2)] (dC, dI) (zTy cI cZ cF) [(oc6 r (.ref rx) (.ref ry) (nI n) rg), (oa rx cI cap X), (oa ry cI cap Y)] sz (some (.int (nI (n - 1)))) (fun A t => zPD (dC, dI) classes A [(oc6 r (.ref rx) (.ref ry) (nI n) rg), (oa rx cI cap X), (oa ry cI cap Y)] t.heap) 0 0 := by
  refine zIn (own := "ScaleShop$Row") (loc := [(0, .ref r), (1, .int (-2))]) rfl rfl rfl rfl (fun p e s m below meth c hx hb hr hts hown hlocks hml hnm9 A hA hS hP hD hK hXN Q9 hQ9 ls hl => ?_)
  refine lv_iload_n hx hb dX7_previous_0 rfl (lv_at hl 1 rfl) ?_
  refine lv_if_le (tgt := 10) hx hb dX7_previous_1 rfl (fun c_1 => ?_) (fun c_1 => ?_)
  · refine lv_aload_n hx hb dX7_previous_10 rfl (lv_at hl 0 rfl) ?_
    refine va_get (D := (dC, dI)) (ci := 6) (v := .int (nI n)) (C := RX7) (T := TX7) (N := 4) hx hb hts inX7 hown hK hP 0 rfl rfl 2 (Nat.le_of_ble_eq_true rfl) (hts _ mw_175) (fun _ h9 => h9) rfl dX7_previous_11 ?_
    refine lv_iconst (v := 1) hx hb dX7_previous_14 rfl ?_
    refine lv_isub hx hb dX7_previous_15 ?_
    refine zz_i (v := nI (n - 1)) (pk_sub (a := n) (b := 1) (by omega)) ?_
    obtain ⟨hP9, hD9⟩ := zu_sub (wc := [_, _, _]) hP hD [true, true, true] rfl rfl
    rw [hQ9]
    exact W.iret (v := nI (n - 1)) hx hb hr (fun t ht hW => ⟨⟨rfl, by rw [ht]; exact hP9, hD9⟩, hS.F ht⟩) hS.2.2 dX7_previous_16
  · exact absurd (by decide) c_1
set_option maxHeartbeats 4000000 in
set_option maxRecDepth 100000 in
theorem k_Law_allows_k (l : Launch) (dC : Nat → ClassId) (dI : Nat → Nat → Nat) (cI cZ cF : ClassId) (sz : Nat) (lw : Nat) (dr : Nat) (tg : Nat) (wy : Nat) (br : Nat) (bo : Nat) (aa : Nat) (tx : Nat) (ty : Nat) (nt : Nat) (TX : Nat → Int32) (TY : Nat → Int32) (rt : Int32) (wx : Nat) (wz : Nat) (nw : Nat) (WX : Nat → Int32) (WY : Nat → Int32) (rw : Int32) (dx : Nat) (dy : Nat) (nd : Nat) (cd : Nat) (P : Nat → Int32) (Q : Nat → Int32) (rd : Int32) (b1 : Int32) (b2 : Int32) (b3 : Int32) (b4 : Int32) (b5 : Int32) (b6 : Int32) (b7 : Int32) (b8 : Int32) (sh : Nat) (fa : Nat) (ft : Nat) (FA : Nat → Option Nat) (fe : Nat) (lo : Nat) (rk9 : Int32) (wd9 : Int32) (tw9 : Int32) (pa9 : Int32) (pb9 : Int32) (lk : Nat) (kd9 : Int32) (st9 : Int32) (gb9 : Int32) (jt9 : Int32) (we9 : Int32) (r : Nat) (rx : Nat) (ry : Nat) (n : Nat) (cap : Nat) (X : Nat → Int32) (Y : Nat → Int32) (rg : Int32) (f0 : Nat) (k5 : Nat) (fm9 : Value) (L : List Nat) (f : Nat → va_E) (kd : Nat → Int32) (st : Nat → Int32) (tn : Nat → Int32) (mn : Nat → Int32) (cx : Nat → Int32) (cy : Nat → Int32) (h200 : ft ≤ 200) (hf0 : f0 < ft) (hFA : FA f0 = some fe) (hs1 : st9.toInt = 1) (hvw : ∀ q, q < ft → q ≠ f0 → vwO cI L f FA kd st tn mn cx cy q) (hwf : ∀ q, lvF ft st tn q → wfM mn cx cy q) (hkn : okN ft st tn kd mn) (hnd : nd ≤ cd) (hcd : cd ≤ 1000) (hn : n ≤ cap) (hcap : cap ≤ 1000) (hp : pls n X Y) (h1n : 1 ≤ n) (h1d : 1 ≤ nd) (hk5 : k5 < n) (hn1 : ¬ n = 1) : zM l yX4_allows cX4_allows 9 (some .boolean) ({ frames := 4, cells := 0, slots := 0, locals := 103 } : Room) [.ref lw, .ref sh, .ref fe, .int (nI k5)] (dC, dI) (zTy cI cZ cF) ([(oc3 lw (.ref dr) (.ref tg) (.ref wy) (.ref br) (.ref bo) (.ref aa)), (oc6 tg (.ref tx) (.ref ty) (nI nt) rt), (oa tx cI 3 TX), (oa ty cI 3 TY), (oc6 wy (.ref wx) (.ref wz) (nI nw) rw), (oa wx cI 2 WX), (oa wz cI 2 WY), (oc6 dr (.ref dx) (.ref dy) (nI nd) rd), (oa dx cI cd P), (oa dy cI cd Q), (oc0 br b1 b2 b3 b4), (oc0 bo b5 b6 b7 b8), (oc7 sh (.ref fa) (nI ft)), (oq fa cF 200 FA), (oc1 fe rk9 wd9 tw9 pa9 pb9 (.ref lo) (.ref lk) fm9), (oc4 lk kd9 st9 (.ref r) gb9 jt9 we9), (oc6 r (.ref rx) (.ref ry) (nI n) rg), (oa rx cI cap X), (oa ry cI cap Y)] ++ va_pl L f) sz (some (.int (pI (pls nd P Q ∧ eFr nd P Q rd (prv nd (gpK nd k5)) 0 ∧ ∀ q, q < ft → (q ≠ f0 → lvF ft st tn q → (apB (min (min (X k5).toInt (X (prv n k5)).toInt) (X (nxt n k5)).toInt) (min (min (Y k5).toInt (Y (prv n k5)).toInt) (Y (nxt n k5)).toInt) (max (max (X k5).toInt (X (prv n k5)).toInt) (X (nxt n k5)).toInt) (max (max (Y k5).toInt (Y (prv n k5)).toInt) (Y (nxt n k5)).toInt) (nN (mn q)) (cF40 cx q) (cF40 cy q) ∨ (asb n X Y rg nd P Q rd (nN (mn q)) (cF40 cx q) (cF40 cy q) (rgK (kd q).toInt) ∧ (¬ ∃ j, j < nN (mn q) ∧ swC n X Y k5 (cF40 cx q j).toInt (cF40 cy q j).toInt)))))))) (fun A t => ∃ (nt1 : Nat), ∃ (TX1 : Nat → Int32), ∃ (TY1 : Nat → Int32), ∃ (rt1 : Int32), ∃ (nw1 : Nat), ∃ (WX1 : Nat → Int32), ∃ (WY1 : Nat → Int32), ∃ (rw1 : Int32), ∃ (d5 : Int32), ∃ (d6 : Int32), ∃ (d7 : Int32), ∃ (d8 : Int32), ∃ (e5 : Int32), ∃ (e6 : Int32), ∃ (e7 : Int32), ∃ (e8 : Int32), zPD (dC, dI) classes A ([(oc3 lw (.ref dr) (.ref tg) (.ref wy) (.ref br) (.ref bo) (.ref aa)), (oc6 tg (.ref tx) (.ref ty) (nI nt1) rt1), (oa tx cI 3 TX1), (oa ty cI 3 TY1), (oc6 wy (.ref wx) (.ref wz) (nI nw1) rw1), (oa wx cI 2 WX1), (oa wz cI 2 WY1), (oc6 dr (.ref dx) (.ref dy) (nI nd) rd), (oa dx cI cd P), (oa dy cI cd Q), (oc0 br d5 d6 d7 d8), (oc0 bo e5 e6 e7 e8), (oc7 sh (.ref fa) (nI ft)), (oq fa cF 200 FA), (oc1 fe rk9 wd9 tw9 pa9 pb9 (.ref lo) (.ref lk) fm9), (oc4 lk kd9 st9 (.ref r) gb9 jt9 we9), (oc6 r (.ref rx) (.ref ry) (nI n) rg), (oa rx cI cap X), (oa ry cI cap Y)] ++ va_pl L f) t.heap) 0 0 := by
  refine zIn (own := "ScaleShop$Law") (loc := [(0, .ref lw), (1, .ref sh), (2, .ref fe), (3, .int (nI k5))]) rfl rfl rfl rfl (fun p e s m below meth c hx hb hr hts hown hlocks hml hnm9 A hA hS hP hD hK hXN Q9 hQ9 ls hl => ?_)
  refine lv_aload_n hx hb dX4_allows_0 rfl (lv_at hl 2 rfl) ?_
  refine va_get (D := (dC, dI)) (ci := 1) (v := .ref lk) (C := RX2) (T := TX2) (N := 8) hx hb hts inX2 hown hK hP 14 rfl rfl 6 (Nat.le_of_ble_eq_true rfl) (hts _ mw_430) (fun _ h9 => h9) rfl dX4_allows_1 ?_
  refine va_get (D := (dC, dI)) (ci := 4) (v := .ref r) (C := RX5) (T := TX5) (N := 6) hx hb hts inX5 hown hK hP 15 rfl rfl 2 (Nat.le_of_ble_eq_true rfl) (hts _ mw_389) (fun _ h9 => h9) rfl dX4_allows_4 ?_
  refine lv_astore (lv' := [(4, .ref r), (0, .ref lw), (1, .ref sh), (2, .ref fe), (3, .int (nI k5))]) hx hb dX4_allows_7 hl (Nat.le_of_ble_eq_true rfl) rfl (fun ls hl => ?_)
  refine lv_aload hx hb dX4_allows_9 (lv_at hl 0 rfl) ?_
  refine lv_ifnull hx hb dX4_allows_11 ?_
  refine lv_aload_n hx hb dX4_allows_14 rfl (lv_at hl 1 rfl) ?_
  refine va_get (D := (dC, dI)) (ci := 3) (v := .ref dr) (C := RX4) (T := TX4) (N := 6) hx hb hts inX4 hown hK hP 0 rfl rfl 0 (Nat.le_of_ble_eq_true rfl) (hts _ mw_219) (fun _ h9 => h9) rfl dX4_allows_15 ?_
  obtain ⟨hPc, hDc, hFc, hI1⟩ := zi_sub (wc := [_, _, _]) hP hD hS hA [7, 8, 9] rfl rfl
  refine zcall (st1 := [.int (pI (pls nd P Q))]) (va_runV (As := []) (rest := []) ⟨hx, hb, hml, hown, hts⟩ (k_Row_arePlaces l dC dI cI cZ cF s.heap.size dr dx dy nd cd P Q rd (by first | with_reducible assumption | omega) (by first | with_reducible assumption | omega)) (csV_65 hts rfl rfl ⟨Nat.le_of_ble_eq_true rfl, Nat.le_of_ble_eq_true rfl⟩) (zPV2 (q0 := 0) (ci := 6) hPc hDc hK hXN rfl rfl) rfl rfl hl.1 rfl (lv_room (Nat.le_of_ble_eq_true rfl)) dX4_allows_18 ⟨Nat.le_of_ble_eq_true rfl, Nat.le_of_ble_eq_true rfl⟩) hS hFc hFc rfl (fun t H locs ht hB hk1 hS => ?_)
  obtain ⟨hP1, hD1⟩ := hB
  rw [ht] at hP1
  replace hP := z0 hP hD hk1 hP1 hI1
  clear hk1 hPc hDc hFc hP1 hD1 ht hI1
  refine lv_if_ne (tgt := 26) hx hb dX4_allows_21 rfl (fun c_1 => ?_) (fun c_1 => ?_)
  · have c_1 : pls nd P Q := zp_1 c_1
    have hgk : gpK nd k5 < nd := (by unfold gpK; split <;> omega)
    have hpv9 := prv_lt (n := nd) (i := gpK nd k5) hgk
    refine lv_aload_n hx hb dX4_allows_26 rfl (lv_at hl 1 rfl) ?_
    refine va_get (D := (dC, dI)) (ci := 3) (v := .ref dr) (C := RX4) (T := TX4) (N := 6) hx hb hts inX4 hown hK hP 0 rfl rfl 0 (Nat.le_of_ble_eq_true rfl) (hts _ mw_219) (fun _ h9 => h9) rfl dX4_allows_27 ?_
    have hj_2 : W p l e ({ frames := 4, cells := 0, slots := 0, locals := 103 } : Room) s m ([.ref lw, .ref sh, .ref fe, .int (nI k5)] : List Value).toArray below meth c H locs 0 0 Q9 (F0 m 46 ls [.int (nI (gpK nd k5)), .ref dr]) := by
      obtain ⟨hPc, hDc, hFc, hI1⟩ := zi_sub (wc := [_, _, _]) hP hD hS hA [7, 8, 9] rfl rfl
      refine zcall (st1 := [.int (nI (prv nd (gpK nd k5)))]) (va_runV (As := [.int (nI (gpK nd k5))]) (rest := []) ⟨hx, hb, hml, hown, hts⟩ (k_Row_previous l dC dI cI cZ cF H.size dr dx dy nd cd P Q rd (gpK nd k5) (by first | with_reducible assumption | omega) (by first | with_reducible assumption | omega) (by first | with_reducible assumption | omega)) (csV_48 hts rfl rfl ⟨Nat.le_of_ble_eq_true rfl, Nat.le_of_ble_eq_true rfl⟩) (zPV2 (q0 := 0) (ci := 6) hPc hDc hK hXN rfl rfl) rfl rfl hl.1 rfl (lv_room (Nat.le_of_ble_eq_true rfl)) dX4_allows_46 ⟨Nat.le_of_ble_eq_true rfl, Nat.le_of_ble_eq_true rfl⟩) hS hFc hFc rfl (fun t H locs ht hB hk1 hS => ?_)
      obtain ⟨hP1, hD1⟩ := hB
      rw [ht] at hP1
      replace hP := z0 hP hD hk1 hP1 hI1
      clear hk1 hPc hDc hFc hP1 hD1 ht hI1
      refine lv_istore (lv' := [(5, .int (nI (prv nd (gpK nd k5)))), (4, .ref r), (0, .ref lw), (1, .ref sh), (2, .ref fe), (3, .int (nI k5))]) hx hb dX4_allows_49 hl (Nat.le_of_ble_eq_true rfl) rfl (fun ls hl => ?_)
      refine lv_iload_n hx hb dX4_allows_51 rfl (lv_at hl 5 rfl) ?_
      refine lv_bipush (v := (-2)) hx hb dX4_allows_52 rfl ?_
      have b9_4 : zlt (k5) := show k5 < 2147483648 by omega
      refine lv_icmp_ne (tgt := 62) hx hb dX4_allows_54 rfl (fun c_3 => ?_) (fun c_3 => ?_)
      · have c_3 : ¬ ((k5 : Nat) : Int) = (-2) := zc_ne (nI_toInt b9_4) rfl c_3
        refine lv_aload_n hx hb dX4_allows_62 rfl (lv_at hl 4 rfl) ?_
        refine va_get (D := (dC, dI)) (ci := 1) (v := .ref lk) (C := RX2) (T := TX2) (N := 8) hx hb hts inX2 hown hK hP 14 rfl rfl 6 (Nat.le_of_ble_eq_true rfl) (hts _ mw_430) (fun _ h9 => h9) rfl dX4_allows_63 ?_
        refine va_get (D := (dC, dI)) (ci := 4) (v := .int kd9) (C := RX5) (T := TX5) (N := 6) hx hb hts inX5 hown hK hP 15 rfl rfl 0 (Nat.le_of_ble_eq_true rfl) (hts _ mw_382) (fun _ h9 => h9) rfl dX4_allows_66 ?_
        refine lv_istore (lv' := [(6, .int kd9), (5, .int (nI (prv nd (gpK nd k5)))), (4, .ref r), (0, .ref lw), (1, .ref sh), (2, .ref fe), (3, .int (nI k5))]) hx hb dX4_allows_69 hl (Nat.le_of_ble_eq_true rfl) rfl (fun ls hl => ?_)
        refine lv_iload_n hx hb dX4_allows_71 rfl (lv_at hl 6 rfl) ?_
        refine lv_if_lt (tgt := 91) hx hb dX4_allows_72 rfl (fun c_5 => ?_) (fun c_5 => ?_)
        · have c_5 : ((k5 : Nat) : Int) < 0 := zc_lt (nI_toInt b9_4) rfl c_5
          exfalso; omega
        · have c_5 : 0 ≤ ((k5 : Nat) : Int) := zc_nlt (nI_toInt b9_4) rfl c_5
          refine lv_aload_n hx hb dX4_allows_75 rfl (lv_at hl 3 rfl) ?_
          refine va_get (D := (dC, dI)) (ci := 3) (v := .ref dr) (C := RX4) (T := TX4) (N := 6) hx hb hts inX4 hown hK hP 0 rfl rfl 0 (Nat.le_of_ble_eq_true rfl) (hts _ mw_219) (fun _ h9 => h9) rfl dX4_allows_76 ?_
          refine lv_iload hx hb dX4_allows_79 (lv_at hl 1 rfl) ?_
          refine lv_iconst (v := 0) hx hb dX4_allows_81 rfl ?_
          obtain ⟨hPc, hDc, hFc, hI1⟩ := zi_sub (wc := [_, _, _]) hP hD hS hA [7, 8, 9] rfl rfl
          refine zcall (st1 := [.int (pI (eFr nd P Q rd (prv nd (gpK nd k5)) 0))]) (va_runV (As := [.int (nI (prv nd (gpK nd k5))), .int 0]) (rest := []) ⟨hx, hb, hml, hown, hts⟩ (k_Row_isEdgeFree l dC dI cI cZ cF H.size dr dx dy nd cd P Q rd (prv nd (gpK nd k5)) 0 (by first | with_reducible assumption | omega) (by first | with_reducible assumption | omega) (by first | with_reducible assumption | assumption) (by first | with_reducible assumption | omega) (by first | with_reducible assumption | omega)) (csV_66 hts rfl rfl ⟨Nat.le_of_ble_eq_true rfl, Nat.le_of_ble_eq_true rfl⟩) (zPV2 (q0 := 0) (ci := 6) hPc hDc hK hXN rfl rfl) rfl rfl hl.1 rfl (lv_room (Nat.le_of_ble_eq_true rfl)) dX4_allows_82 ⟨Nat.le_of_ble_eq_true rfl, Nat.le_of_ble_eq_true rfl⟩) hS hFc hFc rfl (fun t H locs ht hB hk1 hS => ?_)
          obtain ⟨hP1, hD1⟩ := hB
          rw [ht] at hP1
          replace hP := z0 hP hD hk1 hP1 hI1
          clear hk1 hPc hDc hFc hP1 hD1 ht hI1
          refine lv_if_ne (tgt := 105) hx hb dX4_allows_85 rfl (fun c_6 => ?_) (fun c_6 => ?_)
          · have c_6 : eFr nd P Q rd (prv nd (gpK nd k5)) 0 := zp_1 c_6
            refine lv_aload_n hx hb dX4_allows_105 rfl (lv_at hl 3 rfl) ?_
            refine lv_aload hx hb dX4_allows_106 (lv_at hl 2 rfl) ?_
            refine lv_iload_n hx hb dX4_allows_108 rfl (lv_at hl 6 rfl) ?_
            obtain ⟨hPc, hDc, hFc⟩ := zo_sub (wc := [_, _, _, _, _]) hP hD hS hA [0, 10, 16, 17, 18] (by decide +kernel) rfl
            refine zcall (st1 := []) (va_runV (As := [.ref r, .int (nI k5)]) (rest := []) ⟨hx, hb, hml, hown, hts⟩ (k_Law_measureReach_k l dC dI cI cZ cF H.size lw dr tg wy br bo aa b1 b2 b3 b4 r rx ry n cap X Y rg k5 (by first | with_reducible assumption | omega) (by first | with_reducible assumption | omega) (by first | with_reducible assumption | assumption) (by first | with_reducible assumption | omega)) (csV_67 hts rfl rfl ⟨Nat.le_of_ble_eq_true rfl, Nat.le_of_ble_eq_true rfl⟩) (zPV2 (q0 := 0) (ci := 3) hPc hDc hK hXN rfl rfl) rfl rfl hl.1 rfl (lv_room (Nat.le_of_ble_eq_true rfl)) dX4_allows_109 ⟨Nat.le_of_ble_eq_true rfl, Nat.le_of_ble_eq_true rfl⟩) hS hFc hFc rfl (fun t H locs ht hB hk1 hS => ?_)
            obtain ⟨hP1, hD1⟩ := hB
            rw [ht] at hP1
            obtain ⟨hP, hD⟩ := znQ (W2 := [_, _, _, _, _, _, _, _, _, _, (oc0 br (iI (min (min (X k5).toInt (X (prv n k5)).toInt) (X (nxt n k5)).toInt)) (iI (min (min (Y k5).toInt (Y (prv n k5)).toInt) (Y (nxt n k5)).toInt)) (iI (max (max (X k5).toInt (X (prv n k5)).toInt) (X (nxt n k5)).toInt)) (iI (max (max (Y k5).toInt (Y (prv n k5)).toInt) (Y (nxt n k5)).toInt))), _, _, _, _, _, _, _, _]) hP hD hk1 hFc hP1 hD1 [0, 10, 16, 17, 18] zl_24 zl_25 [0, 10, 16, 17, 18] (by decide +kernel) rfl rfl rfl rfl rfl
            clear hk1 hPc hDc hFc hP1 hD1 ht
            have hpd : pls nd P Q := (by first | with_reducible assumption | assumption)
            have hbr : nr (min (min (X k5).toInt (X (prv n k5)).toInt) (X (nxt n k5)).toInt) ∧ nr (min (min (Y k5).toInt (Y (prv n k5)).toInt) (Y (nxt n k5)).toInt) ∧ nr (max (max (X k5).toInt (X (prv n k5)).toInt) (X (nxt n k5)).toInt) ∧ nr (max (max (Y k5).toInt (Y (prv n k5)).toInt) (Y (nxt n k5)).toInt) := (by have a1 := (pls_nr hp).1 k5 hk5; have a2 := (pls_nr hp).2 k5 hk5; have a3 := (pls_nr hp).1 _ (prv_lt (n := n) (i := k5) hk5); have a4 := (pls_nr hp).2 _ (prv_lt (n := n) (i := k5) hk5); have a5 := (pls_nr hp).1 _ (nxt_lt (n := n) (i := k5) (by omega)); have a6 := (pls_nr hp).2 _ (nxt_lt (n := n) (i := k5) (by omega)); unfold nr at *; omega)
            refine lv_iconst (v := 0) hx hb dX4_allows_112 rfl ?_
            refine lv_istore (lv' := [(7, .int 0), (6, .int kd9), (5, .int (nI (prv nd (gpK nd k5)))), (4, .ref r), (0, .ref lw), (1, .ref sh), (2, .ref fe), (3, .int (nI k5))]) hx hb dX4_allows_113 hl (Nat.le_of_ble_eq_true rfl) rfl (fun ls hl => ?_)
            have hl_115 : ∀ (n9 : Nat) (g5 : Nat) (nt1 : Nat) (TX1 : Nat → Int32) (TY1 : Nat → Int32) (rt1 : Int32) (nw1 : Nat) (WX1 : Nat → Int32) (WY1 : Nat → Int32) (rw1 : Int32) (b5 : Int32) (b6 : Int32) (b7 : Int32) (b8 : Int32) (H : Heap) (locs : List Loc) (ls : Array Slot), ft - g5 < n9 → (g5 ≤ ft) → (∀ q, q < g5 → (q ≠ f0 → lvF ft st tn q → (apB (min (min (X k5).toInt (X (prv n k5)).toInt) (X (nxt n k5)).toInt) (min (min (Y k5).toInt (Y (prv n k5)).toInt) (Y (nxt n k5)).toInt) (max (max (X k5).toInt (X (prv n k5)).toInt) (X (nxt n k5)).toInt) (max (max (Y k5).toInt (Y (prv n k5)).toInt) (Y (nxt n k5)).toInt) (nN (mn q)) (cF40 cx q) (cF40 cy q) ∨ (asb n X Y rg nd P Q rd (nN (mn q)) (cF40 cx q) (cF40 cy q) (rgK (kd q).toInt) ∧ (¬ ∃ j, j < nN (mn q) ∧ swC n X Y k5 (cF40 cx q j).toInt (cF40 cy q j).toInt))))) → va_P (dC, dI) classes ([(oc3 lw (.ref dr) (.ref tg) (.ref wy) (.ref br) (.ref bo) (.ref aa)), (oc6 tg (.ref tx) (.ref ty) (nI nt1) rt1), (oa tx cI 3 TX1), (oa ty cI 3 TY1), (oc6 wy (.ref wx) (.ref wz) (nI nw1) rw1), (oa wx cI 2 WX1), (oa wz cI 2 WY1), (oc6 dr (.ref dx) (.ref dy) (nI nd) rd), (oa dx cI cd P), (oa dy cI cd Q), (oc0 br (iI (min (min (X k5).toInt (X (prv n k5)).toInt) (X (nxt n k5)).toInt)) (iI (min (min (Y k5).toInt (Y (prv n k5)).toInt) (Y (nxt n k5)).toInt)) (iI (max (max (X k5).toInt (X (prv n k5)).toInt) (X (nxt n k5)).toInt)) (iI (max (max (Y k5).toInt (Y (prv n k5)).toInt) (Y (nxt n k5)).toInt))), (oc0 bo b5 b6 b7 b8), (oc7 sh (.ref fa) (nI ft)), (oq fa cF 200 FA), (oc1 fe rk9 wd9 tw9 pa9 pb9 (.ref lo) (.ref lk) fm9), (oc4 lk kd9 st9 (.ref r) gb9 jt9 we9), (oc6 r (.ref rx) (.ref ry) (nI n) rg), (oa rx cI cap X), (oa ry cI cap Y)] ++ va_pl L f) H → va_D A ([(oc3 lw (.ref dr) (.ref tg) (.ref wy) (.ref br) (.ref bo) (.ref aa)), (oc6 tg (.ref tx) (.ref ty) (nI nt1) rt1), (oa tx cI 3 TX1), (oa ty cI 3 TY1), (oc6 wy (.ref wx) (.ref wz) (nI nw1) rw1), (oa wx cI 2 WX1), (oa wz cI 2 WY1), (oc6 dr (.ref dx) (.ref dy) (nI nd) rd), (oa dx cI cd P), (oa dy cI cd Q), (oc0 br (iI (min (min (X k5).toInt (X (prv n k5)).toInt) (X (nxt n k5)).toInt)) (iI (min (min (Y k5).toInt (Y (prv n k5)).toInt) (Y (nxt n k5)).toInt)) (iI (max (max (X k5).toInt (X (prv n k5)).toInt) (X (nxt n k5)).toInt)) (iI (max (max (Y k5).toInt (Y (prv n k5)).toInt) (Y (nxt n k5)).toInt))), (oc0 bo b5 b6 b7 b8), (oc7 sh (.ref fa) (nI ft)), (oq fa cF 200 FA), (oc1 fe rk9 wd9 tw9 pa9 pb9 (.ref lo) (.ref lk) fm9), (oc4 lk kd9 st9 (.ref r) gb9 jt9 we9), (oc6 r (.ref rx) (.ref ry) (nI n) rg), (oa rx cI cap X), (oa ry cI cap Y)] ++ va_pl L f) → va_S A s.heap H locs → lv_has ls 9 [(7, .int (nI g5)), (6, .int kd9), (5, .int (nI (prv nd (gpK nd k5)))), (4, .ref r), (0, .ref lw), (1, .ref sh), (2, .ref fe), (3, .int (nI k5))] → W p l e ({ frames := 4, cells := 0, slots := 0, locals := 103 } : Room) s m ([.ref lw, .ref sh, .ref fe, .int (nI k5)] : List Value).toArray below meth c H locs 0 0 Q9 (F0 m 115 ls []) := by
              intro n9
              induction n9 with
              | zero => intro g5 nt1 TX1 TY1 rt1 nw1 WX1 WY1 rw1 b5 b6 b7 b8 H locs ls hm; exact absurd hm (Nat.not_lt_zero _)
              | succ n9 ih_115 =>
                intro g5 nt1 TX1 TY1 rt1 nw1 WX1 WY1 rw1 b5 b6 b7 b8 H locs ls hm hi5 hall hP hD hS hl
                refine lv_iload hx hb dX4_allows_115 (lv_at hl 0 rfl) ?_
                refine lv_aload_n hx hb dX4_allows_117 rfl (lv_at hl 5 rfl) ?_
                refine va_get (D := (dC, dI)) (ci := 7) (v := .int (nI ft)) (C := RX8) (T := TX8) (N := 2) hx hb hts inX8 hown hK hP 12 rfl rfl 1 (Nat.le_of_ble_eq_true rfl) (hts _ mw_139) (fun _ h9 => h9) rfl dX4_allows_118 ?_
                have b9_8 : zlt (g5) := show g5 < 2147483648 by omega
                have b9_9 : zlt (ft) := show ft < 2147483648 by omega
                refine lv_icmp_ge (tgt := 193) hx hb dX4_allows_121 rfl (fun c_7 => ?_) (fun c_7 => ?_)
                · have c_7 : ((ft : Nat) : Int) ≤ ((g5 : Nat) : Int) := zc_le (nI_toInt b9_9) (nI_toInt b9_8) c_7
                  refine lv_iconst (v := 1) hx hb dX4_allows_193 rfl ?_
                  obtain ⟨hP9, hD9⟩ := zu_part (cx := [_, _, _, _, _, _, _, _, _, _, _, _, _, _, _, _, _, _, _]) hP hD [true, true, true, true, true, true, true, true, true, true, true, true, true, true, true, true, true, true, true] rfl rfl
                  rw [hQ9]
                  exact W.zret (ty := .boolean) (v := 1) hx hb hr (rfl) (fun t ht hW => ⟨⟨congrArg (fun z => Outcome.returned (some (Value.int z))) (show (1 : Int32) = pI (pls nd P Q ∧ eFr nd P Q rd (prv nd (gpK nd k5)) 0 ∧ ∀ q, q < ft → (q ≠ f0 → lvF ft st tn q → (apB (min (min (X k5).toInt (X (prv n k5)).toInt) (X (nxt n k5)).toInt) (min (min (Y k5).toInt (Y (prv n k5)).toInt) (Y (nxt n k5)).toInt) (max (max (X k5).toInt (X (prv n k5)).toInt) (X (nxt n k5)).toInt) (max (max (Y k5).toInt (Y (prv n k5)).toInt) (Y (nxt n k5)).toInt) (nN (mn q)) (cF40 cx q) (cF40 cy q) ∨ (asb n X Y rg nd P Q rd (nN (mn q)) (cF40 cx q) (cF40 cy q) (rgK (kd q).toInt) ∧ (¬ ∃ j, j < nN (mn q) ∧ swC n X Y k5 (cF40 cx q j).toInt (cF40 cy q j).toInt))))) from (zp_t (⟨by assumption, by assumption, fun q hq => hall q (by omega)⟩)).symm), nt1, TX1, TY1, rt1, nw1, WX1, WY1, rw1, (iI (min (min (X k5).toInt (X (prv n k5)).toInt) (X (nxt n k5)).toInt)), (iI (min (min (Y k5).toInt (Y (prv n k5)).toInt) (Y (nxt n k5)).toInt)), (iI (max (max (X k5).toInt (X (prv n k5)).toInt) (X (nxt n k5)).toInt)), (iI (max (max (Y k5).toInt (Y (prv n k5)).toInt) (Y (nxt n k5)).toInt)), b5, b6, b7, b8, by rw [ht]; exact hP9, hD9⟩, hS.F ht⟩) hS.2.2 dX4_allows_194
                · have c_7 : ((g5 : Nat) : Int) < ((ft : Nat) : Int) := zc_nle (nI_toInt b9_9) (nI_toInt b9_8) c_7
                  rcases vw4 (hvw g5) (show g5 < ft by omega) with hif | ⟨hif, hs2, fe2, lk2, lo2, rk2, wd2, tw2, pa2, pb2, gb2, jt2, we2, fm2, rw2, hFA2, hfe2, hlk2⟩ | ⟨hif, ht2, fe2, lk2, lo2, rk2, wd2, tw2, pa2, pb2, gb2, jt2, we2, fm2, hFA2, hfe2, hlk2⟩ | ⟨hif, hlv2, fe2, lk2, lo2, rk2, wd2, tw2, pa2, pb2, gb2, jt2, we2, fm2, r2, rx2, ry2, cap2, U2, V2, rg2, hFA2, hfe2, hlk2, ⟨hr2, hrx2, hry2, hne2⟩, hrr2⟩
                  · skip
                    have hFi : FA g5 = some fe := (by rw [hif]; exact hFA)
                    refine lv_aload_n hx hb dX4_allows_124 rfl (lv_at hl 5 rfl) ?_
                    refine lv_iload hx hb dX4_allows_125 (lv_at hl 0 rfl) ?_
                    obtain ⟨hPc, hDc, hFc, hI1⟩ := zi_sub (wc := [_, _, _, _]) hP hD hS hA [12, 13, 14, 15] (by decide +kernel) rfl
                    refine zcall (st1 := [.ref r]) (va_runV (As := [.int (nI g5)]) (rest := []) ⟨hx, hb, hml, hown, hts⟩ (k_Sheet_rowThere_yv l dC dI cI cZ cF H.size sh fa ft FA g5 fe lo rk9 wd9 tw9 pa9 pb9 lk kd9 st9 gb9 jt9 we9 r fm9 (by first | with_reducible assumption | omega) (by first | with_reducible assumption | omega) (by first | exact hFi | exact hFA2) (by first | exact hs1 | exact hs2 | exact hlv2.2.1)) (csV_62 hts rfl rfl ⟨Nat.le_of_ble_eq_true rfl, Nat.le_of_ble_eq_true rfl⟩) (zPV2 (q0 := 0) (ci := 7) hPc hDc hK hXN rfl rfl) rfl rfl hl.1 rfl (lv_room (Nat.le_of_ble_eq_true rfl)) dX4_allows_127 ⟨Nat.le_of_ble_eq_true rfl, Nat.le_of_ble_eq_true rfl⟩) hS hFc hFc rfl (fun t H locs ht hB hk1 hS => ?_)
                    obtain ⟨hP1, hD1⟩ := hB
                    rw [ht] at hP1
                    replace hP := z0 hP hD hk1 hP1 hI1
                    clear hk1 hPc hDc hFc hP1 hD1 ht hI1
                    refine lv_astore (lv' := [(8, .ref r), (7, .int (nI g5)), (6, .int kd9), (5, .int (nI (prv nd (gpK nd k5)))), (4, .ref r), (0, .ref lw), (1, .ref sh), (2, .ref fe), (3, .int (nI k5))]) hx hb dX4_allows_130 hl (Nat.le_of_ble_eq_true rfl) rfl (fun ls hl => ?_)
                    refine lv_aload hx hb dX4_allows_132 (lv_at hl 0 rfl) ?_
                    refine lv_ifnull hx hb dX4_allows_134 ?_
                    refine lv_aload_n hx hb dX4_allows_137 rfl (lv_at hl 6 rfl) ?_
                    refine lv_iload hx hb dX4_allows_138 (lv_at hl 1 rfl) ?_
                    obtain ⟨hPc, hDc, hFc, hI1⟩ := zi_sub (wc := [_, _]) hP hD hS hA [12, 13] rfl rfl
                    refine zcall (st1 := [.ref fe]) (va_runV (As := [.int (nI g5)]) (rest := []) ⟨hx, hb, hml, hown, hts⟩ (k_Sheet_find l dC dI cI cZ cF H.size sh fa ft FA g5 fe (by first | with_reducible assumption | omega) (by first | with_reducible assumption | omega) (by first | exact hFi | exact hFA2)) (csV_63 hts rfl rfl ⟨Nat.le_of_ble_eq_true rfl, Nat.le_of_ble_eq_true rfl⟩) (zPV2 (q0 := 0) (ci := 7) hPc hDc hK hXN rfl rfl) rfl rfl hl.1 rfl (lv_room (Nat.le_of_ble_eq_true rfl)) dX4_allows_140 ⟨Nat.le_of_ble_eq_true rfl, Nat.le_of_ble_eq_true rfl⟩) hS hFc hFc rfl (fun t H locs ht hB hk1 hS => ?_)
                    obtain ⟨hP1, hD1⟩ := hB
                    rw [ht] at hP1
                    replace hP := z0 hP hD hk1 hP1 hI1
                    clear hk1 hPc hDc hFc hP1 hD1 ht hI1
                    refine lv_aload_n hx hb dX4_allows_143 rfl (lv_at hl 7 rfl) ?_
                    refine z_acmpne (rx := fe) (ry := fe) (tgt := 150) hx hb dX4_allows_144 (by decide) (fun c_10 => ?_) (fun c_10 => ?_)
                    · have c_10 : ¬ fe = fe := c_10
                      exact absurd rfl c_10
                    · have c_10 : fe = fe := c_10
                      refine lv_goto (tgt := 187) hx hb dX4_allows_147 rfl ?_
                      refine lv_iinc (v := nI (g5 + 1)) (lv' := [(7, .int (nI (g5 + 1))), (8, .ref r), (6, .int kd9), (5, .int (nI (prv nd (gpK nd k5)))), (4, .ref r), (0, .ref lw), (1, .ref sh), (2, .ref fe), (3, .int (nI k5))]) hx hb dX4_allows_187 hl (k := 1) rfl (nI_add g5 1) (Nat.le_of_ble_eq_true rfl) rfl (fun ls hl => ?_)
                      refine lv_goto (tgt := 115) hx hb dX4_allows_190 rfl ?_
                      exact ih_115 (g5 + 1) nt1 TX1 TY1 rt1 nw1 WX1 WY1 rw1 b5 b6 b7 b8 H locs ls (by first | with_reducible assumption | omega) (by first | with_reducible assumption | omega) (by intro q hq; rcases Nat.lt_or_ge q g5 with h | h; exact hall q h; rw [show q = g5 by omega]; intro h1 h2; first | exact absurd hif h1 | exact absurd h2.2.1 hs2 | exact absurd h2.2.2 ht2 | exact Or.inl (by first | with_reducible assumption | assumption) | exact Or.inr (by first | with_reducible assumption | assumption)) hP hD hS (lv_sub hl [0, 2, 3, 4, 5, 6, 7, 8] rfl)
                  · skip
                    have hc9_1 : inPl L f [(oc1 fe2 rk2 wd2 tw2 pa2 pb2 (.ref lo2) (.ref lk2) fm2), (oc4 lk2 (kd g5) (st g5) rw2 gb2 jt2 we2)] := ⟨hfe2, hlk2, trivial⟩
                    have hD0_1 := hD
                    obtain ⟨T_1, hT_1, hP, hD⟩ := pl_oT hP hD hc9_1 (pwF hfe2.2 hlk2.2)
                    obtain ⟨hP, hD⟩ := zre (W2 := ([_, _, _, _, _, _, _, _, _, _, _, _, _, _, _, _, _, _, _, _, _] ++ va_pl T_1 f)) hP hD rfl
                    refine lv_aload_n hx hb dX4_allows_124 rfl (lv_at hl 5 rfl) ?_
                    refine lv_iload hx hb dX4_allows_125 (lv_at hl 0 rfl) ?_
                    obtain ⟨hPc, hDc, hFc, hI1⟩ := zi_sub (wc := [_, _, _, _]) hP hD hS hA [12, 13, 19, 20] (by decide +kernel) rfl
                    refine zcall (st1 := [.null]) (va_runV (As := [.int (nI g5)]) (rest := []) ⟨hx, hb, hml, hown, hts⟩ (k_Sheet_rowThere_sv l dC dI cI cZ cF H.size sh fa ft FA g5 fe2 lo2 rk2 wd2 tw2 pa2 pb2 lk2 (kd g5) (st g5) gb2 jt2 we2 fm2 rw2 (by first | with_reducible assumption | omega) (by first | with_reducible assumption | omega) (by first | exact hFi | exact hFA2) (by first | exact hs1 | exact hs2 | exact hlv2.2.1)) (csV_62 hts rfl rfl ⟨Nat.le_of_ble_eq_true rfl, Nat.le_of_ble_eq_true rfl⟩) (zPV2 (q0 := 0) (ci := 7) hPc hDc hK hXN rfl rfl) rfl rfl hl.1 rfl (lv_room (Nat.le_of_ble_eq_true rfl)) dX4_allows_127 ⟨Nat.le_of_ble_eq_true rfl, Nat.le_of_ble_eq_true rfl⟩) hS hFc hFc rfl (fun t H locs ht hB hk1 hS => ?_)
                    obtain ⟨hP1, hD1⟩ := hB
                    rw [ht] at hP1
                    replace hP := z0 hP hD hk1 hP1 hI1
                    clear hk1 hPc hDc hFc hP1 hD1 ht hI1
                    refine lv_astoreN (lv' := [(8, .null), (7, .int (nI g5)), (6, .int kd9), (5, .int (nI (prv nd (gpK nd k5)))), (4, .ref r), (0, .ref lw), (1, .ref sh), (2, .ref fe), (3, .int (nI k5))]) hx hb dX4_allows_130 hl (Nat.le_of_ble_eq_true rfl) rfl (fun ls hl => ?_)
                    refine lv_aloadN hx hb dX4_allows_132 (lv_at hl 0 rfl) ?_
                    refine lv_ifnullN (tgt := 187) hx hb dX4_allows_134 rfl ?_
                    obtain ⟨hP, hD⟩ := pl_bk (X := [_, _, _, _, _, _, _, _, _, _, _, _, _, _, _, _, _, _, _]) hT_1 hP rfl hc9_1 hD0_1 rfl
                    refine lv_iinc (v := nI (g5 + 1)) (lv' := [(7, .int (nI (g5 + 1))), (8, .null), (6, .int kd9), (5, .int (nI (prv nd (gpK nd k5)))), (4, .ref r), (0, .ref lw), (1, .ref sh), (2, .ref fe), (3, .int (nI k5))]) hx hb dX4_allows_187 hl (k := 1) rfl (nI_add g5 1) (Nat.le_of_ble_eq_true rfl) rfl (fun ls hl => ?_)
                    refine lv_goto (tgt := 115) hx hb dX4_allows_190 rfl ?_
                    exact ih_115 (g5 + 1) nt1 TX1 TY1 rt1 nw1 WX1 WY1 rw1 b5 b6 b7 b8 H locs ls (by first | with_reducible assumption | omega) (by first | with_reducible assumption | omega) (by intro q hq; rcases Nat.lt_or_ge q g5 with h | h; exact hall q h; rw [show q = g5 by omega]; intro h1 h2; first | exact absurd hif h1 | exact absurd h2.2.1 hs2 | exact absurd h2.2.2 ht2 | exact Or.inl (by first | with_reducible assumption | assumption) | exact Or.inr (by first | with_reducible assumption | assumption)) hP hD hS (lv_sub hl [0, 2, 3, 4, 5, 6, 7, 8] rfl)
                  · skip
                    have hc9_1 : inPl L f [(oc1 fe2 rk2 wd2 tw2 pa2 pb2 (.ref lo2) (.ref lk2) fm2), (oc4 lk2 (kd g5) (st g5) .null gb2 jt2 we2)] := ⟨hfe2, hlk2, trivial⟩
                    have hD0_1 := hD
                    obtain ⟨T_1, hT_1, hP, hD⟩ := pl_oT hP hD hc9_1 (pwF hfe2.2 hlk2.2)
                    obtain ⟨hP, hD⟩ := zre (W2 := ([_, _, _, _, _, _, _, _, _, _, _, _, _, _, _, _, _, _, _, _, _] ++ va_pl T_1 f)) hP hD rfl
                    refine lv_aload_n hx hb dX4_allows_124 rfl (lv_at hl 5 rfl) ?_
                    refine lv_iload hx hb dX4_allows_125 (lv_at hl 0 rfl) ?_
                    obtain ⟨hPc, hDc, hFc, hI1⟩ := zi_sub (wc := [_, _, _, _]) hP hD hS hA [12, 13, 19, 20] (by decide +kernel) rfl
                    refine zcall (st1 := [.null]) (va_runV (As := [.int (nI g5)]) (rest := []) ⟨hx, hb, hml, hown, hts⟩ (k_Sheet_rowThere_tv l dC dI cI cZ cF H.size sh fa ft FA g5 fe2 lo2 rk2 wd2 tw2 pa2 pb2 lk2 (kd g5) (st g5) gb2 jt2 we2 fm2 (by first | with_reducible assumption | omega) (by first | with_reducible assumption | omega) (by first | exact hFi | exact hFA2)) (csV_62 hts rfl rfl ⟨Nat.le_of_ble_eq_true rfl, Nat.le_of_ble_eq_true rfl⟩) (zPV2 (q0 := 0) (ci := 7) hPc hDc hK hXN rfl rfl) rfl rfl hl.1 rfl (lv_room (Nat.le_of_ble_eq_true rfl)) dX4_allows_127 ⟨Nat.le_of_ble_eq_true rfl, Nat.le_of_ble_eq_true rfl⟩) hS hFc hFc rfl (fun t H locs ht hB hk1 hS => ?_)
                    obtain ⟨hP1, hD1⟩ := hB
                    rw [ht] at hP1
                    replace hP := z0 hP hD hk1 hP1 hI1
                    clear hk1 hPc hDc hFc hP1 hD1 ht hI1
                    refine lv_astoreN (lv' := [(8, .null), (7, .int (nI g5)), (6, .int kd9), (5, .int (nI (prv nd (gpK nd k5)))), (4, .ref r), (0, .ref lw), (1, .ref sh), (2, .ref fe), (3, .int (nI k5))]) hx hb dX4_allows_130 hl (Nat.le_of_ble_eq_true rfl) rfl (fun ls hl => ?_)
                    refine lv_aloadN hx hb dX4_allows_132 (lv_at hl 0 rfl) ?_
                    refine lv_ifnullN (tgt := 187) hx hb dX4_allows_134 rfl ?_
                    obtain ⟨hP, hD⟩ := pl_bk (X := [_, _, _, _, _, _, _, _, _, _, _, _, _, _, _, _, _, _, _]) hT_1 hP rfl hc9_1 hD0_1 rfl
                    refine lv_iinc (v := nI (g5 + 1)) (lv' := [(7, .int (nI (g5 + 1))), (8, .null), (6, .int kd9), (5, .int (nI (prv nd (gpK nd k5)))), (4, .ref r), (0, .ref lw), (1, .ref sh), (2, .ref fe), (3, .int (nI k5))]) hx hb dX4_allows_187 hl (k := 1) rfl (nI_add g5 1) (Nat.le_of_ble_eq_true rfl) rfl (fun ls hl => ?_)
                    refine lv_goto (tgt := 115) hx hb dX4_allows_190 rfl ?_
                    exact ih_115 (g5 + 1) nt1 TX1 TY1 rt1 nw1 WX1 WY1 rw1 b5 b6 b7 b8 H locs ls (by first | with_reducible assumption | omega) (by first | with_reducible assumption | omega) (by intro q hq; rcases Nat.lt_or_ge q g5 with h | h; exact hall q h; rw [show q = g5 by omega]; intro h1 h2; first | exact absurd hif h1 | exact absurd h2.2.1 hs2 | exact absurd h2.2.2 ht2 | exact Or.inl (by first | with_reducible assumption | assumption) | exact Or.inr (by first | with_reducible assumption | assumption)) hP hD hS (lv_sub hl [0, 2, 3, 4, 5, 6, 7, 8] rfl)
                  · skip
                    have hw2 := hwf g5 hlv2
                    have hn2 := hw2.2.1
                    have hq2 := rw_pls hrr2 hw2
                    have hkn2 := hkn g5 hlv2
                    have hcap2 := hrr2.1
                    have hcap3 := hrr2.2.1
                    have h1m2 : 1 ≤ nN (mn g5) := hw2.2.1.1
                    have hrk2 := rgK_e hrr2.2.2.2.1
                    have hc9_1 : inPl L f [(oc1 fe2 rk2 wd2 tw2 pa2 pb2 (.ref lo2) (.ref lk2) fm2), (oc4 lk2 (kd g5) (st g5) (.ref r2) gb2 jt2 we2), (oc6 r2 (.ref rx2) (.ref ry2) (nI (nN (mn g5))) rg2), (oa rx2 cI cap2 U2), (oa ry2 cI cap2 V2)] := ⟨hfe2, hlk2, hr2, hrx2, hry2, trivial⟩
                    have hD0_1 := hD
                    obtain ⟨T_1, hT_1, hP, hD⟩ := pl_oT hP hD hc9_1 (pwR hfe2.2 hlk2.2 hr2.2 hrx2.2 hry2.2 hne2)
                    obtain ⟨hP, hD⟩ := zre (W2 := ([_, _, _, _, _, _, _, _, _, _, _, _, _, _, _, _, _, _, _, _, _, _, _, _] ++ va_pl T_1 f)) hP hD rfl
                    refine lv_aload_n hx hb dX4_allows_124 rfl (lv_at hl 5 rfl) ?_
                    refine lv_iload hx hb dX4_allows_125 (lv_at hl 0 rfl) ?_
                    obtain ⟨hPc, hDc, hFc, hI1⟩ := zi_sub (wc := [_, _, _, _]) hP hD hS hA [12, 13, 19, 20] (by decide +kernel) rfl
                    refine zcall (st1 := [.ref r2]) (va_runV (As := [.int (nI g5)]) (rest := []) ⟨hx, hb, hml, hown, hts⟩ (k_Sheet_rowThere_yv l dC dI cI cZ cF H.size sh fa ft FA g5 fe2 lo2 rk2 wd2 tw2 pa2 pb2 lk2 (kd g5) (st g5) gb2 jt2 we2 r2 fm2 (by first | with_reducible assumption | omega) (by first | with_reducible assumption | omega) (by first | exact hFi | exact hFA2) (by first | exact hs1 | exact hs2 | exact hlv2.2.1)) (csV_62 hts rfl rfl ⟨Nat.le_of_ble_eq_true rfl, Nat.le_of_ble_eq_true rfl⟩) (zPV2 (q0 := 0) (ci := 7) hPc hDc hK hXN rfl rfl) rfl rfl hl.1 rfl (lv_room (Nat.le_of_ble_eq_true rfl)) dX4_allows_127 ⟨Nat.le_of_ble_eq_true rfl, Nat.le_of_ble_eq_true rfl⟩) hS hFc hFc rfl (fun t H locs ht hB hk1 hS => ?_)
                    obtain ⟨hP1, hD1⟩ := hB
                    rw [ht] at hP1
                    replace hP := z0 hP hD hk1 hP1 hI1
                    clear hk1 hPc hDc hFc hP1 hD1 ht hI1
                    refine lv_astore (lv' := [(8, .ref r2), (7, .int (nI g5)), (6, .int kd9), (5, .int (nI (prv nd (gpK nd k5)))), (4, .ref r), (0, .ref lw), (1, .ref sh), (2, .ref fe), (3, .int (nI k5))]) hx hb dX4_allows_130 hl (Nat.le_of_ble_eq_true rfl) rfl (fun ls hl => ?_)
                    refine lv_aload hx hb dX4_allows_132 (lv_at hl 0 rfl) ?_
                    refine lv_ifnull hx hb dX4_allows_134 ?_
                    refine lv_aload_n hx hb dX4_allows_137 rfl (lv_at hl 6 rfl) ?_
                    refine lv_iload hx hb dX4_allows_138 (lv_at hl 1 rfl) ?_
                    obtain ⟨hPc, hDc, hFc, hI1⟩ := zi_sub (wc := [_, _]) hP hD hS hA [12, 13] rfl rfl
                    refine zcall (st1 := [.ref fe2]) (va_runV (As := [.int (nI g5)]) (rest := []) ⟨hx, hb, hml, hown, hts⟩ (k_Sheet_find l dC dI cI cZ cF H.size sh fa ft FA g5 fe2 (by first | with_reducible assumption | omega) (by first | with_reducible assumption | omega) (by first | exact hFi | exact hFA2)) (csV_63 hts rfl rfl ⟨Nat.le_of_ble_eq_true rfl, Nat.le_of_ble_eq_true rfl⟩) (zPV2 (q0 := 0) (ci := 7) hPc hDc hK hXN rfl rfl) rfl rfl hl.1 rfl (lv_room (Nat.le_of_ble_eq_true rfl)) dX4_allows_140 ⟨Nat.le_of_ble_eq_true rfl, Nat.le_of_ble_eq_true rfl⟩) hS hFc hFc rfl (fun t H locs ht hB hk1 hS => ?_)
                    obtain ⟨hP1, hD1⟩ := hB
                    rw [ht] at hP1
                    replace hP := z0 hP hD hk1 hP1 hI1
                    clear hk1 hPc hDc hFc hP1 hD1 ht hI1
                    refine lv_aload_n hx hb dX4_allows_143 rfl (lv_at hl 7 rfl) ?_
                    refine z_acmpne (rx := fe2) (ry := fe) (tgt := 150) hx hb dX4_allows_144 (by decide) (fun c_11 => ?_) (fun c_11 => ?_)
                    · have c_11 : ¬ fe2 = fe := c_11
                      refine lv_aload_n hx hb dX4_allows_150 rfl (lv_at hl 5 rfl) ?_
                      refine va_get (D := (dC, dI)) (ci := 3) (v := .ref bo) (C := RX4) (T := TX4) (N := 6) hx hb hts inX4 hown hK hP 0 rfl rfl 4 (Nat.le_of_ble_eq_true rfl) (hts _ mw_224) (fun _ h9 => h9) rfl dX4_allows_151 ?_
                      refine lv_aload hx hb dX4_allows_154 (lv_at hl 0 rfl) ?_
                      obtain ⟨hPc, hDc, hFc⟩ := zo_sub (wc := [_, _, _, _]) hP hD hS hA [11, 21, 22, 23] (by decide +kernel) rfl
                      refine zcall (st1 := []) (va_runV (As := [.ref r2]) (rest := []) ⟨hx, hb, hml, hown, hts⟩ (k_Box_cover l dC dI cI cZ cF H.size bo b5 b6 b7 b8 r2 rx2 ry2 (nN (mn g5)) cap2 U2 V2 rg2 (by first | with_reducible assumption | omega) (by first | with_reducible assumption | omega) ((pls_nr hq2).1) ((pls_nr hq2).2) (by first | with_reducible assumption | omega)) (csV_52 hts rfl rfl ⟨Nat.le_of_ble_eq_true rfl, Nat.le_of_ble_eq_true rfl⟩) (zPV2 (q0 := 0) (ci := 0) hPc hDc hK hXN rfl rfl) rfl rfl hl.1 rfl (lv_room (Nat.le_of_ble_eq_true rfl)) dX4_allows_156 ⟨Nat.le_of_ble_eq_true rfl, Nat.le_of_ble_eq_true rfl⟩) hS hFc hFc rfl (fun t H locs ht hB hk1 hS => ?_)
                      obtain ⟨hP1, hD1⟩ := hB
                      rw [ht] at hP1
                      obtain ⟨hP, hD⟩ := znQ (W2 := [_, _, _, _, _, _, _, _, _, _, _, (oc0 bo (iI (mnI (U2 0).toInt U2 (nN (mn g5)))) (iI (mnI (V2 0).toInt V2 (nN (mn g5)))) (iI (mxI (U2 0).toInt U2 (nN (mn g5)))) (iI (mxI (V2 0).toInt V2 (nN (mn g5))))), _, _, _, _, _, _, _, _, _, _, _, _]) hP hD hk1 hFc hP1 hD1 [11, 21, 22, 23] zl_26 zl_27 [11, 21, 22, 23] (by decide +kernel) rfl rfl rfl rfl rfl
                      clear hk1 hPc hDc hFc hP1 hD1 ht
                      refine lv_aload_n hx hb dX4_allows_159 rfl (lv_at hl 5 rfl) ?_
                      refine va_get (D := (dC, dI)) (ci := 3) (v := .ref br) (C := RX4) (T := TX4) (N := 6) hx hb hts inX4 hown hK hP 0 rfl rfl 3 (Nat.le_of_ble_eq_true rfl) (hts _ mw_223) (fun _ h9 => h9) rfl dX4_allows_160 ?_
                      refine lv_aload_n hx hb dX4_allows_163 rfl (lv_at hl 5 rfl) ?_
                      refine va_get (D := (dC, dI)) (ci := 3) (v := .ref bo) (C := RX4) (T := TX4) (N := 6) hx hb hts inX4 hown hK hP 0 rfl rfl 4 (Nat.le_of_ble_eq_true rfl) (hts _ mw_224) (fun _ h9 => h9) rfl dX4_allows_164 ?_
                      obtain ⟨hPc, hDc, hFc, hI1⟩ := zi_sub (wc := [_, _]) hP hD hS hA [10, 11] rfl rfl
                      refine zcall (st1 := [.int (pI ((max (max (X k5).toInt (X (prv n k5)).toInt) (X (nxt n k5)).toInt) < (mnI (U2 0).toInt U2 (nN (mn g5))) ∨ (mxI (U2 0).toInt U2 (nN (mn g5))) < (min (min (X k5).toInt (X (prv n k5)).toInt) (X (nxt n k5)).toInt) ∨ (max (max (Y k5).toInt (Y (prv n k5)).toInt) (Y (nxt n k5)).toInt) < (mnI (V2 0).toInt V2 (nN (mn g5))) ∨ (mxI (V2 0).toInt V2 (nN (mn g5))) < (min (min (Y k5).toInt (Y (prv n k5)).toInt) (Y (nxt n k5)).toInt)))]) (va_runV (As := [.ref bo]) (rest := []) ⟨hx, hb, hml, hown, hts⟩ (k_Box_isApart l dC dI cI cZ cF H.size br (min (min (X k5).toInt (X (prv n k5)).toInt) (X (nxt n k5)).toInt) (min (min (Y k5).toInt (Y (prv n k5)).toInt) (Y (nxt n k5)).toInt) (max (max (X k5).toInt (X (prv n k5)).toInt) (X (nxt n k5)).toInt) (max (max (Y k5).toInt (Y (prv n k5)).toInt) (Y (nxt n k5)).toInt) bo (mnI (U2 0).toInt U2 (nN (mn g5))) (mnI (V2 0).toInt V2 (nN (mn g5))) (mxI (U2 0).toInt U2 (nN (mn g5))) (mxI (V2 0).toInt V2 (nN (mn g5))) (hbr) (⟨mnB ((pls_nr hq2).1 0 (by first | with_reducible assumption | omega)) (pls_nr hq2).1 _ (Nat.le_refl _), mnB ((pls_nr hq2).2 0 (by first | with_reducible assumption | omega)) (pls_nr hq2).2 _ (Nat.le_refl _), mxB ((pls_nr hq2).1 0 (by first | with_reducible assumption | omega)) (pls_nr hq2).1 _ (Nat.le_refl _), mxB ((pls_nr hq2).2 0 (by first | with_reducible assumption | omega)) (pls_nr hq2).2 _ (Nat.le_refl _)⟩)) (csV_68 hts rfl rfl ⟨Nat.le_of_ble_eq_true rfl, Nat.le_of_ble_eq_true rfl⟩) (zPV2 (q0 := 0) (ci := 0) hPc hDc hK hXN rfl rfl) rfl rfl hl.1 rfl (lv_room (Nat.le_of_ble_eq_true rfl)) dX4_allows_167 ⟨Nat.le_of_ble_eq_true rfl, Nat.le_of_ble_eq_true rfl⟩) hS hFc hFc rfl (fun t H locs ht hB hk1 hS => ?_)
                      obtain ⟨hP1, hD1⟩ := hB
                      rw [ht] at hP1
                      replace hP := z0 hP hD hk1 hP1 hI1
                      clear hk1 hPc hDc hFc hP1 hD1 ht hI1
                      refine zz_i (v := pI (apB (min (min (X k5).toInt (X (prv n k5)).toInt) (X (nxt n k5)).toInt) (min (min (Y k5).toInt (Y (prv n k5)).toInt) (Y (nxt n k5)).toInt) (max (max (X k5).toInt (X (prv n k5)).toInt) (X (nxt n k5)).toInt) (max (max (Y k5).toInt (Y (prv n k5)).toInt) (Y (nxt n k5)).toInt) (nN (mn g5)) (cF40 cx g5) (cF40 cy g5))) (zp_iff (apB_cg h1m2 hrr2.2.2.2.2)) ?_
                      refine lv_if_ne (tgt := 187) hx hb dX4_allows_170 rfl (fun c_12 => ?_) (fun c_12 => ?_)
                      · have c_12 : apB (min (min (X k5).toInt (X (prv n k5)).toInt) (X (nxt n k5)).toInt) (min (min (Y k5).toInt (Y (prv n k5)).toInt) (Y (nxt n k5)).toInt) (max (max (X k5).toInt (X (prv n k5)).toInt) (X (nxt n k5)).toInt) (max (max (Y k5).toInt (Y (prv n k5)).toInt) (Y (nxt n k5)).toInt) (nN (mn g5)) (cF40 cx g5) (cF40 cy g5) := zp_1 c_12
                        obtain ⟨hP, hD⟩ := pl_bk (X := [_, _, _, _, _, _, _, _, _, _, _, _, _, _, _, _, _, _, _]) hT_1 hP rfl hc9_1 hD0_1 rfl
                        refine lv_iinc (v := nI (g5 + 1)) (lv' := [(7, .int (nI (g5 + 1))), (8, .ref r2), (6, .int kd9), (5, .int (nI (prv nd (gpK nd k5)))), (4, .ref r), (0, .ref lw), (1, .ref sh), (2, .ref fe), (3, .int (nI k5))]) hx hb dX4_allows_187 hl (k := 1) rfl (nI_add g5 1) (Nat.le_of_ble_eq_true rfl) rfl (fun ls hl => ?_)
                        refine lv_goto (tgt := 115) hx hb dX4_allows_190 rfl ?_
                        exact ih_115 (g5 + 1) nt1 TX1 TY1 rt1 nw1 WX1 WY1 rw1 (iI (mnI (U2 0).toInt U2 (nN (mn g5)))) (iI (mnI (V2 0).toInt V2 (nN (mn g5)))) (iI (mxI (U2 0).toInt U2 (nN (mn g5)))) (iI (mxI (V2 0).toInt V2 (nN (mn g5)))) H locs ls (by first | with_reducible assumption | omega) (by first | with_reducible assumption | omega) (by intro q hq; rcases Nat.lt_or_ge q g5 with h | h; exact hall q h; rw [show q = g5 by omega]; intro h1 h2; first | exact absurd hif h1 | exact absurd h2.2.1 hs2 | exact absurd h2.2.2 ht2 | exact Or.inl (by first | with_reducible assumption | assumption) | exact Or.inr (by first | with_reducible assumption | assumption)) hP hD hS (lv_sub hl [0, 2, 3, 4, 5, 6, 7, 8] rfl)
                      · have c_12 : ¬ (apB (min (min (X k5).toInt (X (prv n k5)).toInt) (X (nxt n k5)).toInt) (min (min (Y k5).toInt (Y (prv n k5)).toInt) (Y (nxt n k5)).toInt) (max (max (X k5).toInt (X (prv n k5)).toInt) (X (nxt n k5)).toInt) (max (max (Y k5).toInt (Y (prv n k5)).toInt) (Y (nxt n k5)).toInt) (nN (mn g5)) (cF40 cx g5) (cF40 cy g5)) := zp_0 c_12
                        refine lv_aload_n hx hb dX4_allows_173 rfl (lv_at hl 5 rfl) ?_
                        refine lv_aload hx hb dX4_allows_174 (lv_at hl 4 rfl) ?_
                        refine lv_aload hx hb dX4_allows_176 (lv_at hl 0 rfl) ?_
                        refine lv_iload_n hx hb dX4_allows_178 rfl (lv_at hl 8 rfl) ?_
                        obtain ⟨hPc, hDc, hFc⟩ := zo_sub (wc := [_, _, _, _, _, _, _, _, _, _, _, _, _, _, _, _]) hP hD hS hA [0, 1, 2, 3, 4, 5, 6, 7, 8, 9, 16, 17, 18, 21, 22, 23] (by decide +kernel) rfl
                        refine zcall (st1 := [.int (pI (asb n X Y rg nd P Q rd (nN (mn g5)) U2 V2 rg2 ∧ (¬ (∃ j, j < (nN (mn g5)) ∧ swC n X Y k5 (U2 j).toInt (V2 j).toInt))))]) (va_runV (As := [.ref r, .ref r2, .int (nI k5)]) (rest := []) ⟨hx, hb, hml, hown, hts⟩ (k_Law_isAsBefore_k l dC dI cI cZ cF H.size lw dr tg wy br bo aa tx ty nt1 TX1 TY1 rt1 wx wz nw1 WX1 WY1 rw1 dx dy nd cd P Q rd r rx ry n cap X Y rg r2 rx2 ry2 (nN (mn g5)) cap2 U2 V2 rg2 k5 (by first | with_reducible assumption | omega) (by first | with_reducible assumption | omega) (by first | with_reducible assumption | assumption) (by first | with_reducible assumption | omega) (by first | with_reducible assumption | omega) (hp) (by first | with_reducible assumption | omega) (by first | with_reducible assumption | omega) (hq2) (by first | with_reducible assumption | omega) (by first | with_reducible assumption | omega) (by first | with_reducible assumption | omega) (by first | with_reducible assumption | omega) (by first | with_reducible assumption | omega) (by first | with_reducible assumption | omega)) (csV_69 hts rfl rfl ⟨Nat.le_of_ble_eq_true rfl, Nat.le_of_ble_eq_true rfl⟩) (zPV2 (q0 := 0) (ci := 3) hPc hDc hK hXN rfl rfl) rfl rfl hl.1 rfl (lv_room (Nat.le_of_ble_eq_true rfl)) dX4_allows_179 ⟨Nat.le_of_ble_eq_true rfl, Nat.le_of_ble_eq_true rfl⟩) hS hFc hFc rfl (fun t H locs ht hB hk1 hS => ?_)
                        refine ex8 hB (fun q_13 q_14 q_15 q_16 q_17 q_18 q_19 q_20 hB0 => ?_)
                        clear hB
                        obtain ⟨hP1, hD1⟩ := hB0
                        rw [ht] at hP1
                        obtain ⟨hP, hD⟩ := znQ (W2 := [_, (oc6 tg (.ref tx) (.ref ty) (nI q_13) q_16), (oa tx cI 3 q_14), (oa ty cI 3 q_15), (oc6 wy (.ref wx) (.ref wz) (nI q_17) q_20), (oa wx cI 2 q_18), (oa wz cI 2 q_19), _, _, _, _, _, _, _, _, _, _, _, _, _, _, _, _, _]) hP hD hk1 hFc hP1 hD1 zl_28 zl_29 zl_30 zl_28 (by decide +kernel) rfl rfl rfl rfl rfl
                        clear hk1 hPc hDc hFc hP1 hD1 ht
                        refine zz_i (v := pI (asb n X Y rg nd P Q rd (nN (mn g5)) (cF40 cx g5) (cF40 cy g5) (rgK (kd g5).toInt) ∧ (¬ ∃ j, j < nN (mn g5) ∧ swC n X Y k5 (cF40 cx g5 j).toInt (cF40 cy g5 j).toInt))) (by rw [← hrk2]; exact zp_iff (and_congr (asb_cg h1m2 hrr2.2.2.2.2) (not_congr (ex_cg (W := fun x y => swC n X Y k5 x y) hrr2.2.2.2.2)))) ?_
                        refine lv_if_ne (tgt := 187) hx hb dX4_allows_182 rfl (fun c_21 => ?_) (fun c_21 => ?_)
                        · have c_21 : asb n X Y rg nd P Q rd (nN (mn g5)) (cF40 cx g5) (cF40 cy g5) (rgK (kd g5).toInt) ∧ (¬ ∃ j, j < nN (mn g5) ∧ swC n X Y k5 (cF40 cx g5 j).toInt (cF40 cy g5 j).toInt) := zp_1 c_21
                          obtain ⟨hP, hD⟩ := pl_bk (X := [_, _, _, _, _, _, _, _, _, _, _, _, _, _, _, _, _, _, _]) hT_1 hP rfl hc9_1 hD0_1 rfl
                          refine lv_iinc (v := nI (g5 + 1)) (lv' := [(7, .int (nI (g5 + 1))), (8, .ref r2), (6, .int kd9), (5, .int (nI (prv nd (gpK nd k5)))), (4, .ref r), (0, .ref lw), (1, .ref sh), (2, .ref fe), (3, .int (nI k5))]) hx hb dX4_allows_187 hl (k := 1) rfl (nI_add g5 1) (Nat.le_of_ble_eq_true rfl) rfl (fun ls hl => ?_)
                          refine lv_goto (tgt := 115) hx hb dX4_allows_190 rfl ?_
                          exact ih_115 (g5 + 1) q_13 q_14 q_15 q_16 q_17 q_18 q_19 q_20 (iI (mnI (U2 0).toInt U2 (nN (mn g5)))) (iI (mnI (V2 0).toInt V2 (nN (mn g5)))) (iI (mxI (U2 0).toInt U2 (nN (mn g5)))) (iI (mxI (V2 0).toInt V2 (nN (mn g5)))) H locs ls (by first | with_reducible assumption | omega) (by first | with_reducible assumption | omega) (by intro q hq; rcases Nat.lt_or_ge q g5 with h | h; exact hall q h; rw [show q = g5 by omega]; intro h1 h2; first | exact absurd hif h1 | exact absurd h2.2.1 hs2 | exact absurd h2.2.2 ht2 | exact Or.inl (by first | with_reducible assumption | assumption) | exact Or.inr (by first | with_reducible assumption | assumption)) hP hD hS (lv_sub hl [0, 2, 3, 4, 5, 6, 7, 8] rfl)
                        · have c_21 : ¬ (asb n X Y rg nd P Q rd (nN (mn g5)) (cF40 cx g5) (cF40 cy g5) (rgK (kd g5).toInt) ∧ (¬ ∃ j, j < nN (mn g5) ∧ swC n X Y k5 (cF40 cx g5 j).toInt (cF40 cy g5 j).toInt)) := zp_0 c_21
                          obtain ⟨hP, hD⟩ := pl_bk (X := [_, _, _, _, _, _, _, _, _, _, _, _, _, _, _, _, _, _, _]) hT_1 hP rfl hc9_1 hD0_1 rfl
                          refine lv_iconst (v := 0) hx hb dX4_allows_185 rfl ?_
                          obtain ⟨hP9, hD9⟩ := zu_part (cx := [_, _, _, _, _, _, _, _, _, _, _, _, _, _, _, _, _, _, _]) hP hD [true, true, true, true, true, true, true, true, true, true, true, true, true, true, true, true, true, true, true] rfl rfl
                          rw [hQ9]
                          exact W.zret (ty := .boolean) (v := 0) hx hb hr (rfl) (fun t ht hW => ⟨⟨congrArg (fun z => Outcome.returned (some (Value.int z))) (show (0 : Int32) = pI (pls nd P Q ∧ eFr nd P Q rd (prv nd (gpK nd k5)) 0 ∧ ∀ q, q < ft → (q ≠ f0 → lvF ft st tn q → (apB (min (min (X k5).toInt (X (prv n k5)).toInt) (X (nxt n k5)).toInt) (min (min (Y k5).toInt (Y (prv n k5)).toInt) (Y (nxt n k5)).toInt) (max (max (X k5).toInt (X (prv n k5)).toInt) (X (nxt n k5)).toInt) (max (max (Y k5).toInt (Y (prv n k5)).toInt) (Y (nxt n k5)).toInt) (nN (mn q)) (cF40 cx q) (cF40 cy q) ∨ (asb n X Y rg nd P Q rd (nN (mn q)) (cF40 cx q) (cF40 cy q) (rgK (kd q).toInt) ∧ (¬ ∃ j, j < nN (mn q) ∧ swC n X Y k5 (cF40 cx q j).toInt (cF40 cy q j).toInt))))) from (zp_f (fun h => by have h9 := h.2.2 g5 (by omega) hif hlv2; first | exact absurd h9 (fun h8 => h8.elim (fun h7 => absurd h7 (by first | with_reducible assumption | assumption)) (fun h7 => absurd h7 (by first | with_reducible assumption | assumption))))).symm), q_13, q_14, q_15, q_16, q_17, q_18, q_19, q_20, (iI (min (min (X k5).toInt (X (prv n k5)).toInt) (X (nxt n k5)).toInt)), (iI (min (min (Y k5).toInt (Y (prv n k5)).toInt) (Y (nxt n k5)).toInt)), (iI (max (max (X k5).toInt (X (prv n k5)).toInt) (X (nxt n k5)).toInt)), (iI (max (max (Y k5).toInt (Y (prv n k5)).toInt) (Y (nxt n k5)).toInt)), (iI (mnI (U2 0).toInt U2 (nN (mn g5)))), (iI (mnI (V2 0).toInt V2 (nN (mn g5)))), (iI (mxI (U2 0).toInt U2 (nN (mn g5)))), (iI (mxI (V2 0).toInt V2 (nN (mn g5)))), by rw [ht]; exact hP9, hD9⟩, hS.F ht⟩) hS.2.2 dX4_allows_186
                    · have c_11 : fe2 = fe := c_11
                      exfalso; exact absurd (by first | with_reducible assumption | assumption) (pl_sep (q := (oc1 fe rk9 wd9 tw9 pa9 pb9 (.ref lo) (.ref lk) fm9)) hD0_1 (by simp) hfe2.1)
            exact hl_115 _ 0 nt TX TY rt nw WX WY rw b5 b6 b7 b8 H locs ls (Nat.lt_succ_self _) (by first | with_reducible assumption | omega) (by intro q hq; omega) hP hD hS (lv_sub hl [0, 1, 2, 3, 4, 5, 6, 7] rfl)
          · have c_6 : ¬ (eFr nd P Q rd (prv nd (gpK nd k5)) 0) := zp_0 c_6
            refine lv_goto (tgt := 103) hx hb dX4_allows_88 rfl ?_
            refine lv_iconst (v := 0) hx hb dX4_allows_103 rfl ?_
            obtain ⟨hP9, hD9⟩ := zu_part (cx := [_, _, _, _, _, _, _, _, _, _, _, _, _, _, _, _, _, _, _]) hP hD [true, true, true, true, true, true, true, true, true, true, true, true, true, true, true, true, true, true, true] rfl rfl
            rw [hQ9]
            exact W.zret (ty := .boolean) (v := 0) hx hb hr (rfl) (fun t ht hW => ⟨⟨congrArg (fun z => Outcome.returned (some (Value.int z))) (show (0 : Int32) = pI (pls nd P Q ∧ eFr nd P Q rd (prv nd (gpK nd k5)) 0 ∧ ∀ q, q < ft → (q ≠ f0 → lvF ft st tn q → (apB (min (min (X k5).toInt (X (prv n k5)).toInt) (X (nxt n k5)).toInt) (min (min (Y k5).toInt (Y (prv n k5)).toInt) (Y (nxt n k5)).toInt) (max (max (X k5).toInt (X (prv n k5)).toInt) (X (nxt n k5)).toInt) (max (max (Y k5).toInt (Y (prv n k5)).toInt) (Y (nxt n k5)).toInt) (nN (mn q)) (cF40 cx q) (cF40 cy q) ∨ (asb n X Y rg nd P Q rd (nN (mn q)) (cF40 cx q) (cF40 cy q) (rgK (kd q).toInt) ∧ (¬ ∃ j, j < nN (mn q) ∧ swC n X Y k5 (cF40 cx q j).toInt (cF40 cy q j).toInt))))) from (zp_f (fun h => absurd h.2.1 (by first | with_reducible assumption | assumption))).symm), nt, TX, TY, rt, nw, WX, WY, rw, b1, b2, b3, b4, b5, b6, b7, b8, by rw [ht]; exact hP9, hD9⟩, hS.F ht⟩) hS.2.2 dX4_allows_104
      · have c_3 : ((k5 : Nat) : Int) = (-2) := zc_eq (nI_toInt b9_4) rfl c_3
        refine lv_bipush (v := 6) hx hb dX4_allows_57 rfl ?_
        refine lv_goto (tgt := 69) hx hb dX4_allows_59 rfl ?_
        refine lv_istore (lv' := [(6, .int 6), (5, .int (nI (prv nd (gpK nd k5)))), (4, .ref r), (0, .ref lw), (1, .ref sh), (2, .ref fe), (3, .int (nI k5))]) hx hb dX4_allows_69 hl (Nat.le_of_ble_eq_true rfl) rfl (fun ls hl => ?_)
        refine lv_iload_n hx hb dX4_allows_71 rfl (lv_at hl 6 rfl) ?_
        refine lv_if_lt (tgt := 91) hx hb dX4_allows_72 rfl (fun c_22 => ?_) (fun c_22 => ?_)
        · have c_22 : ((k5 : Nat) : Int) < 0 := zc_lt (nI_toInt b9_4) rfl c_22
          exfalso; omega
        · have c_22 : 0 ≤ ((k5 : Nat) : Int) := zc_nlt (nI_toInt b9_4) rfl c_22
          refine lv_aload_n hx hb dX4_allows_75 rfl (lv_at hl 3 rfl) ?_
          refine va_get (D := (dC, dI)) (ci := 3) (v := .ref dr) (C := RX4) (T := TX4) (N := 6) hx hb hts inX4 hown hK hP 0 rfl rfl 0 (Nat.le_of_ble_eq_true rfl) (hts _ mw_219) (fun _ h9 => h9) rfl dX4_allows_76 ?_
          refine lv_iload hx hb dX4_allows_79 (lv_at hl 1 rfl) ?_
          refine lv_iconst (v := 0) hx hb dX4_allows_81 rfl ?_
          obtain ⟨hPc, hDc, hFc, hI1⟩ := zi_sub (wc := [_, _, _]) hP hD hS hA [7, 8, 9] rfl rfl
          refine zcall (st1 := [.int (pI (eFr nd P Q rd (prv nd (gpK nd k5)) 0))]) (va_runV (As := [.int (nI (prv nd (gpK nd k5))), .int 0]) (rest := []) ⟨hx, hb, hml, hown, hts⟩ (k_Row_isEdgeFree l dC dI cI cZ cF H.size dr dx dy nd cd P Q rd (prv nd (gpK nd k5)) 0 (by first | with_reducible assumption | omega) (by first | with_reducible assumption | omega) (by first | with_reducible assumption | assumption) (by first | with_reducible assumption | omega) (by first | with_reducible assumption | omega)) (csV_66 hts rfl rfl ⟨Nat.le_of_ble_eq_true rfl, Nat.le_of_ble_eq_true rfl⟩) (zPV2 (q0 := 0) (ci := 6) hPc hDc hK hXN rfl rfl) rfl rfl hl.1 rfl (lv_room (Nat.le_of_ble_eq_true rfl)) dX4_allows_82 ⟨Nat.le_of_ble_eq_true rfl, Nat.le_of_ble_eq_true rfl⟩) hS hFc hFc rfl (fun t H locs ht hB hk1 hS => ?_)
          obtain ⟨hP1, hD1⟩ := hB
          rw [ht] at hP1
          replace hP := z0 hP hD hk1 hP1 hI1
          clear hk1 hPc hDc hFc hP1 hD1 ht hI1
          refine lv_if_ne (tgt := 105) hx hb dX4_allows_85 rfl (fun c_23 => ?_) (fun c_23 => ?_)
          · have c_23 : eFr nd P Q rd (prv nd (gpK nd k5)) 0 := zp_1 c_23
            refine lv_aload_n hx hb dX4_allows_105 rfl (lv_at hl 3 rfl) ?_
            refine lv_aload hx hb dX4_allows_106 (lv_at hl 2 rfl) ?_
            refine lv_iload_n hx hb dX4_allows_108 rfl (lv_at hl 6 rfl) ?_
            obtain ⟨hPc, hDc, hFc⟩ := zo_sub (wc := [_, _, _, _, _]) hP hD hS hA [0, 10, 16, 17, 18] (by decide +kernel) rfl
            refine zcall (st1 := []) (va_runV (As := [.ref r, .int (nI k5)]) (rest := []) ⟨hx, hb, hml, hown, hts⟩ (k_Law_measureReach_k l dC dI cI cZ cF H.size lw dr tg wy br bo aa b1 b2 b3 b4 r rx ry n cap X Y rg k5 (by first | with_reducible assumption | omega) (by first | with_reducible assumption | omega) (by first | with_reducible assumption | assumption) (by first | with_reducible assumption | omega)) (csV_67 hts rfl rfl ⟨Nat.le_of_ble_eq_true rfl, Nat.le_of_ble_eq_true rfl⟩) (zPV2 (q0 := 0) (ci := 3) hPc hDc hK hXN rfl rfl) rfl rfl hl.1 rfl (lv_room (Nat.le_of_ble_eq_true rfl)) dX4_allows_109 ⟨Nat.le_of_ble_eq_true rfl, Nat.le_of_ble_eq_true rfl⟩) hS hFc hFc rfl (fun t H locs ht hB hk1 hS => ?_)
            obtain ⟨hP1, hD1⟩ := hB
            rw [ht] at hP1
            obtain ⟨hP, hD⟩ := znQ (W2 := [_, _, _, _, _, _, _, _, _, _, (oc0 br (iI (min (min (X k5).toInt (X (prv n k5)).toInt) (X (nxt n k5)).toInt)) (iI (min (min (Y k5).toInt (Y (prv n k5)).toInt) (Y (nxt n k5)).toInt)) (iI (max (max (X k5).toInt (X (prv n k5)).toInt) (X (nxt n k5)).toInt)) (iI (max (max (Y k5).toInt (Y (prv n k5)).toInt) (Y (nxt n k5)).toInt))), _, _, _, _, _, _, _, _]) hP hD hk1 hFc hP1 hD1 [0, 10, 16, 17, 18] zl_24 zl_25 [0, 10, 16, 17, 18] (by decide +kernel) rfl rfl rfl rfl rfl
            clear hk1 hPc hDc hFc hP1 hD1 ht
            have hpd : pls nd P Q := (by first | with_reducible assumption | assumption)
            have hbr : nr (min (min (X k5).toInt (X (prv n k5)).toInt) (X (nxt n k5)).toInt) ∧ nr (min (min (Y k5).toInt (Y (prv n k5)).toInt) (Y (nxt n k5)).toInt) ∧ nr (max (max (X k5).toInt (X (prv n k5)).toInt) (X (nxt n k5)).toInt) ∧ nr (max (max (Y k5).toInt (Y (prv n k5)).toInt) (Y (nxt n k5)).toInt) := (by have a1 := (pls_nr hp).1 k5 hk5; have a2 := (pls_nr hp).2 k5 hk5; have a3 := (pls_nr hp).1 _ (prv_lt (n := n) (i := k5) hk5); have a4 := (pls_nr hp).2 _ (prv_lt (n := n) (i := k5) hk5); have a5 := (pls_nr hp).1 _ (nxt_lt (n := n) (i := k5) (by omega)); have a6 := (pls_nr hp).2 _ (nxt_lt (n := n) (i := k5) (by omega)); unfold nr at *; omega)
            refine lv_iconst (v := 0) hx hb dX4_allows_112 rfl ?_
            refine lv_istore (lv' := [(7, .int 0), (6, .int 6), (5, .int (nI (prv nd (gpK nd k5)))), (4, .ref r), (0, .ref lw), (1, .ref sh), (2, .ref fe), (3, .int (nI k5))]) hx hb dX4_allows_113 hl (Nat.le_of_ble_eq_true rfl) rfl (fun ls hl => ?_)
            have hl_115 : ∀ (n9 : Nat) (g5 : Nat) (nt1 : Nat) (TX1 : Nat → Int32) (TY1 : Nat → Int32) (rt1 : Int32) (nw1 : Nat) (WX1 : Nat → Int32) (WY1 : Nat → Int32) (rw1 : Int32) (b5 : Int32) (b6 : Int32) (b7 : Int32) (b8 : Int32) (H : Heap) (locs : List Loc) (ls : Array Slot), ft - g5 < n9 → (g5 ≤ ft) → (∀ q, q < g5 → (q ≠ f0 → lvF ft st tn q → (apB (min (min (X k5).toInt (X (prv n k5)).toInt) (X (nxt n k5)).toInt) (min (min (Y k5).toInt (Y (prv n k5)).toInt) (Y (nxt n k5)).toInt) (max (max (X k5).toInt (X (prv n k5)).toInt) (X (nxt n k5)).toInt) (max (max (Y k5).toInt (Y (prv n k5)).toInt) (Y (nxt n k5)).toInt) (nN (mn q)) (cF40 cx q) (cF40 cy q) ∨ (asb n X Y rg nd P Q rd (nN (mn q)) (cF40 cx q) (cF40 cy q) (rgK (kd q).toInt) ∧ (¬ ∃ j, j < nN (mn q) ∧ swC n X Y k5 (cF40 cx q j).toInt (cF40 cy q j).toInt))))) → va_P (dC, dI) classes ([(oc3 lw (.ref dr) (.ref tg) (.ref wy) (.ref br) (.ref bo) (.ref aa)), (oc6 tg (.ref tx) (.ref ty) (nI nt1) rt1), (oa tx cI 3 TX1), (oa ty cI 3 TY1), (oc6 wy (.ref wx) (.ref wz) (nI nw1) rw1), (oa wx cI 2 WX1), (oa wz cI 2 WY1), (oc6 dr (.ref dx) (.ref dy) (nI nd) rd), (oa dx cI cd P), (oa dy cI cd Q), (oc0 br (iI (min (min (X k5).toInt (X (prv n k5)).toInt) (X (nxt n k5)).toInt)) (iI (min (min (Y k5).toInt (Y (prv n k5)).toInt) (Y (nxt n k5)).toInt)) (iI (max (max (X k5).toInt (X (prv n k5)).toInt) (X (nxt n k5)).toInt)) (iI (max (max (Y k5).toInt (Y (prv n k5)).toInt) (Y (nxt n k5)).toInt))), (oc0 bo b5 b6 b7 b8), (oc7 sh (.ref fa) (nI ft)), (oq fa cF 200 FA), (oc1 fe rk9 wd9 tw9 pa9 pb9 (.ref lo) (.ref lk) fm9), (oc4 lk kd9 st9 (.ref r) gb9 jt9 we9), (oc6 r (.ref rx) (.ref ry) (nI n) rg), (oa rx cI cap X), (oa ry cI cap Y)] ++ va_pl L f) H → va_D A ([(oc3 lw (.ref dr) (.ref tg) (.ref wy) (.ref br) (.ref bo) (.ref aa)), (oc6 tg (.ref tx) (.ref ty) (nI nt1) rt1), (oa tx cI 3 TX1), (oa ty cI 3 TY1), (oc6 wy (.ref wx) (.ref wz) (nI nw1) rw1), (oa wx cI 2 WX1), (oa wz cI 2 WY1), (oc6 dr (.ref dx) (.ref dy) (nI nd) rd), (oa dx cI cd P), (oa dy cI cd Q), (oc0 br (iI (min (min (X k5).toInt (X (prv n k5)).toInt) (X (nxt n k5)).toInt)) (iI (min (min (Y k5).toInt (Y (prv n k5)).toInt) (Y (nxt n k5)).toInt)) (iI (max (max (X k5).toInt (X (prv n k5)).toInt) (X (nxt n k5)).toInt)) (iI (max (max (Y k5).toInt (Y (prv n k5)).toInt) (Y (nxt n k5)).toInt))), (oc0 bo b5 b6 b7 b8), (oc7 sh (.ref fa) (nI ft)), (oq fa cF 200 FA), (oc1 fe rk9 wd9 tw9 pa9 pb9 (.ref lo) (.ref lk) fm9), (oc4 lk kd9 st9 (.ref r) gb9 jt9 we9), (oc6 r (.ref rx) (.ref ry) (nI n) rg), (oa rx cI cap X), (oa ry cI cap Y)] ++ va_pl L f) → va_S A s.heap H locs → lv_has ls 9 [(7, .int (nI g5)), (6, .int 6), (5, .int (nI (prv nd (gpK nd k5)))), (4, .ref r), (0, .ref lw), (1, .ref sh), (2, .ref fe), (3, .int (nI k5))] → W p l e ({ frames := 4, cells := 0, slots := 0, locals := 103 } : Room) s m ([.ref lw, .ref sh, .ref fe, .int (nI k5)] : List Value).toArray below meth c H locs 0 0 Q9 (F0 m 115 ls []) := by
              intro n9
              induction n9 with
              | zero => intro g5 nt1 TX1 TY1 rt1 nw1 WX1 WY1 rw1 b5 b6 b7 b8 H locs ls hm; exact absurd hm (Nat.not_lt_zero _)
              | succ n9 ih_115 =>
                intro g5 nt1 TX1 TY1 rt1 nw1 WX1 WY1 rw1 b5 b6 b7 b8 H locs ls hm hi5 hall hP hD hS hl
                refine lv_iload hx hb dX4_allows_115 (lv_at hl 0 rfl) ?_
                refine lv_aload_n hx hb dX4_allows_117 rfl (lv_at hl 5 rfl) ?_
                refine va_get (D := (dC, dI)) (ci := 7) (v := .int (nI ft)) (C := RX8) (T := TX8) (N := 2) hx hb hts inX8 hown hK hP 12 rfl rfl 1 (Nat.le_of_ble_eq_true rfl) (hts _ mw_139) (fun _ h9 => h9) rfl dX4_allows_118 ?_
                have b9_25 : zlt (g5) := show g5 < 2147483648 by omega
                have b9_26 : zlt (ft) := show ft < 2147483648 by omega
                refine lv_icmp_ge (tgt := 193) hx hb dX4_allows_121 rfl (fun c_24 => ?_) (fun c_24 => ?_)
                · have c_24 : ((ft : Nat) : Int) ≤ ((g5 : Nat) : Int) := zc_le (nI_toInt b9_26) (nI_toInt b9_25) c_24
                  refine lv_iconst (v := 1) hx hb dX4_allows_193 rfl ?_
                  obtain ⟨hP9, hD9⟩ := zu_part (cx := [_, _, _, _, _, _, _, _, _, _, _, _, _, _, _, _, _, _, _]) hP hD [true, true, true, true, true, true, true, true, true, true, true, true, true, true, true, true, true, true, true] rfl rfl
                  rw [hQ9]
                  exact W.zret (ty := .boolean) (v := 1) hx hb hr (rfl) (fun t ht hW => ⟨⟨congrArg (fun z => Outcome.returned (some (Value.int z))) (show (1 : Int32) = pI (pls nd P Q ∧ eFr nd P Q rd (prv nd (gpK nd k5)) 0 ∧ ∀ q, q < ft → (q ≠ f0 → lvF ft st tn q → (apB (min (min (X k5).toInt (X (prv n k5)).toInt) (X (nxt n k5)).toInt) (min (min (Y k5).toInt (Y (prv n k5)).toInt) (Y (nxt n k5)).toInt) (max (max (X k5).toInt (X (prv n k5)).toInt) (X (nxt n k5)).toInt) (max (max (Y k5).toInt (Y (prv n k5)).toInt) (Y (nxt n k5)).toInt) (nN (mn q)) (cF40 cx q) (cF40 cy q) ∨ (asb n X Y rg nd P Q rd (nN (mn q)) (cF40 cx q) (cF40 cy q) (rgK (kd q).toInt) ∧ (¬ ∃ j, j < nN (mn q) ∧ swC n X Y k5 (cF40 cx q j).toInt (cF40 cy q j).toInt))))) from (zp_t (⟨by assumption, by assumption, fun q hq => hall q (by omega)⟩)).symm), nt1, TX1, TY1, rt1, nw1, WX1, WY1, rw1, (iI (min (min (X k5).toInt (X (prv n k5)).toInt) (X (nxt n k5)).toInt)), (iI (min (min (Y k5).toInt (Y (prv n k5)).toInt) (Y (nxt n k5)).toInt)), (iI (max (max (X k5).toInt (X (prv n k5)).toInt) (X (nxt n k5)).toInt)), (iI (max (max (Y k5).toInt (Y (prv n k5)).toInt) (Y (nxt n k5)).toInt)), b5, b6, b7, b8, by rw [ht]; exact hP9, hD9⟩, hS.F ht⟩) hS.2.2 dX4_allows_194
                · have c_24 : ((g5 : Nat) : Int) < ((ft : Nat) : Int) := zc_nle (nI_toInt b9_26) (nI_toInt b9_25) c_24
                  rcases vw4 (hvw g5) (show g5 < ft by omega) with hif | ⟨hif, hs2, fe2, lk2, lo2, rk2, wd2, tw2, pa2, pb2, gb2, jt2, we2, fm2, rw2, hFA2, hfe2, hlk2⟩ | ⟨hif, ht2, fe2, lk2, lo2, rk2, wd2, tw2, pa2, pb2, gb2, jt2, we2, fm2, hFA2, hfe2, hlk2⟩ | ⟨hif, hlv2, fe2, lk2, lo2, rk2, wd2, tw2, pa2, pb2, gb2, jt2, we2, fm2, r2, rx2, ry2, cap2, U2, V2, rg2, hFA2, hfe2, hlk2, ⟨hr2, hrx2, hry2, hne2⟩, hrr2⟩
                  · skip
                    have hFi : FA g5 = some fe := (by rw [hif]; exact hFA)
                    refine lv_aload_n hx hb dX4_allows_124 rfl (lv_at hl 5 rfl) ?_
                    refine lv_iload hx hb dX4_allows_125 (lv_at hl 0 rfl) ?_
                    obtain ⟨hPc, hDc, hFc, hI1⟩ := zi_sub (wc := [_, _, _, _]) hP hD hS hA [12, 13, 14, 15] (by decide +kernel) rfl
                    refine zcall (st1 := [.ref r]) (va_runV (As := [.int (nI g5)]) (rest := []) ⟨hx, hb, hml, hown, hts⟩ (k_Sheet_rowThere_yv l dC dI cI cZ cF H.size sh fa ft FA g5 fe lo rk9 wd9 tw9 pa9 pb9 lk kd9 st9 gb9 jt9 we9 r fm9 (by first | with_reducible assumption | omega) (by first | with_reducible assumption | omega) (by first | exact hFi | exact hFA2) (by first | exact hs1 | exact hs2 | exact hlv2.2.1)) (csV_62 hts rfl rfl ⟨Nat.le_of_ble_eq_true rfl, Nat.le_of_ble_eq_true rfl⟩) (zPV2 (q0 := 0) (ci := 7) hPc hDc hK hXN rfl rfl) rfl rfl hl.1 rfl (lv_room (Nat.le_of_ble_eq_true rfl)) dX4_allows_127 ⟨Nat.le_of_ble_eq_true rfl, Nat.le_of_ble_eq_true rfl⟩) hS hFc hFc rfl (fun t H locs ht hB hk1 hS => ?_)
                    obtain ⟨hP1, hD1⟩ := hB
                    rw [ht] at hP1
                    replace hP := z0 hP hD hk1 hP1 hI1
                    clear hk1 hPc hDc hFc hP1 hD1 ht hI1
                    refine lv_astore (lv' := [(8, .ref r), (7, .int (nI g5)), (6, .int 6), (5, .int (nI (prv nd (gpK nd k5)))), (4, .ref r), (0, .ref lw), (1, .ref sh), (2, .ref fe), (3, .int (nI k5))]) hx hb dX4_allows_130 hl (Nat.le_of_ble_eq_true rfl) rfl (fun ls hl => ?_)
                    refine lv_aload hx hb dX4_allows_132 (lv_at hl 0 rfl) ?_
                    refine lv_ifnull hx hb dX4_allows_134 ?_
                    refine lv_aload_n hx hb dX4_allows_137 rfl (lv_at hl 6 rfl) ?_
                    refine lv_iload hx hb dX4_allows_138 (lv_at hl 1 rfl) ?_
                    obtain ⟨hPc, hDc, hFc, hI1⟩ := zi_sub (wc := [_, _]) hP hD hS hA [12, 13] rfl rfl
                    refine zcall (st1 := [.ref fe]) (va_runV (As := [.int (nI g5)]) (rest := []) ⟨hx, hb, hml, hown, hts⟩ (k_Sheet_find l dC dI cI cZ cF H.size sh fa ft FA g5 fe (by first | with_reducible assumption | omega) (by first | with_reducible assumption | omega) (by first | exact hFi | exact hFA2)) (csV_63 hts rfl rfl ⟨Nat.le_of_ble_eq_true rfl, Nat.le_of_ble_eq_true rfl⟩) (zPV2 (q0 := 0) (ci := 7) hPc hDc hK hXN rfl rfl) rfl rfl hl.1 rfl (lv_room (Nat.le_of_ble_eq_true rfl)) dX4_allows_140 ⟨Nat.le_of_ble_eq_true rfl, Nat.le_of_ble_eq_true rfl⟩) hS hFc hFc rfl (fun t H locs ht hB hk1 hS => ?_)
                    obtain ⟨hP1, hD1⟩ := hB
                    rw [ht] at hP1
                    replace hP := z0 hP hD hk1 hP1 hI1
                    clear hk1 hPc hDc hFc hP1 hD1 ht hI1
                    refine lv_aload_n hx hb dX4_allows_143 rfl (lv_at hl 7 rfl) ?_
                    refine z_acmpne (rx := fe) (ry := fe) (tgt := 150) hx hb dX4_allows_144 (by decide) (fun c_27 => ?_) (fun c_27 => ?_)
                    · have c_27 : ¬ fe = fe := c_27
                      exact absurd rfl c_27
                    · have c_27 : fe = fe := c_27
                      refine lv_goto (tgt := 187) hx hb dX4_allows_147 rfl ?_
                      refine lv_iinc (v := nI (g5 + 1)) (lv' := [(7, .int (nI (g5 + 1))), (8, .ref r), (6, .int 6), (5, .int (nI (prv nd (gpK nd k5)))), (4, .ref r), (0, .ref lw), (1, .ref sh), (2, .ref fe), (3, .int (nI k5))]) hx hb dX4_allows_187 hl (k := 1) rfl (nI_add g5 1) (Nat.le_of_ble_eq_true rfl) rfl (fun ls hl => ?_)
                      refine lv_goto (tgt := 115) hx hb dX4_allows_190 rfl ?_
                      exact ih_115 (g5 + 1) nt1 TX1 TY1 rt1 nw1 WX1 WY1 rw1 b5 b6 b7 b8 H locs ls (by first | with_reducible assumption | omega) (by first | with_reducible assumption | omega) (by intro q hq; rcases Nat.lt_or_ge q g5 with h | h; exact hall q h; rw [show q = g5 by omega]; intro h1 h2; first | exact absurd hif h1 | exact absurd h2.2.1 hs2 | exact absurd h2.2.2 ht2 | exact Or.inl (by first | with_reducible assumption | assumption) | exact Or.inr (by first | with_reducible assumption | assumption)) hP hD hS (lv_sub hl [0, 2, 3, 4, 5, 6, 7, 8] rfl)
                  · skip
                    have hc9_1 : inPl L f [(oc1 fe2 rk2 wd2 tw2 pa2 pb2 (.ref lo2) (.ref lk2) fm2), (oc4 lk2 (kd g5) (st g5) rw2 gb2 jt2 we2)] := ⟨hfe2, hlk2, trivial⟩
                    have hD0_1 := hD
                    obtain ⟨T_1, hT_1, hP, hD⟩ := pl_oT hP hD hc9_1 (pwF hfe2.2 hlk2.2)
                    obtain ⟨hP, hD⟩ := zre (W2 := ([_, _, _, _, _, _, _, _, _, _, _, _, _, _, _, _, _, _, _, _, _] ++ va_pl T_1 f)) hP hD rfl
                    refine lv_aload_n hx hb dX4_allows_124 rfl (lv_at hl 5 rfl) ?_
                    refine lv_iload hx hb dX4_allows_125 (lv_at hl 0 rfl) ?_
                    obtain ⟨hPc, hDc, hFc, hI1⟩ := zi_sub (wc := [_, _, _, _]) hP hD hS hA [12, 13, 19, 20] (by decide +kernel) rfl
                    refine zcall (st1 := [.null]) (va_runV (As := [.int (nI g5)]) (rest := []) ⟨hx, hb, hml, hown, hts⟩ (k_Sheet_rowThere_sv l dC dI cI cZ cF H.size sh fa ft FA g5 fe2 lo2 rk2 wd2 tw2 pa2 pb2 lk2 (kd g5) (st g5) gb2 jt2 we2 fm2 rw2 (by first | with_reducible assumption | omega) (by first | with_reducible assumption | omega) (by first | exact hFi | exact hFA2) (by first | exact hs1 | exact hs2 | exact hlv2.2.1)) (csV_62 hts rfl rfl ⟨Nat.le_of_ble_eq_true rfl, Nat.le_of_ble_eq_true rfl⟩) (zPV2 (q0 := 0) (ci := 7) hPc hDc hK hXN rfl rfl) rfl rfl hl.1 rfl (lv_room (Nat.le_of_ble_eq_true rfl)) dX4_allows_127 ⟨Nat.le_of_ble_eq_true rfl, Nat.le_of_ble_eq_true rfl⟩) hS hFc hFc rfl (fun t H locs ht hB hk1 hS => ?_)
                    obtain ⟨hP1, hD1⟩ := hB
                    rw [ht] at hP1
                    replace hP := z0 hP hD hk1 hP1 hI1
                    clear hk1 hPc hDc hFc hP1 hD1 ht hI1
                    refine lv_astoreN (lv' := [(8, .null), (7, .int (nI g5)), (6, .int 6), (5, .int (nI (prv nd (gpK nd k5)))), (4, .ref r), (0, .ref lw), (1, .ref sh), (2, .ref fe), (3, .int (nI k5))]) hx hb dX4_allows_130 hl (Nat.le_of_ble_eq_true rfl) rfl (fun ls hl => ?_)
                    refine lv_aloadN hx hb dX4_allows_132 (lv_at hl 0 rfl) ?_
                    refine lv_ifnullN (tgt := 187) hx hb dX4_allows_134 rfl ?_
                    obtain ⟨hP, hD⟩ := pl_bk (X := [_, _, _, _, _, _, _, _, _, _, _, _, _, _, _, _, _, _, _]) hT_1 hP rfl hc9_1 hD0_1 rfl
                    refine lv_iinc (v := nI (g5 + 1)) (lv' := [(7, .int (nI (g5 + 1))), (8, .null), (6, .int 6), (5, .int (nI (prv nd (gpK nd k5)))), (4, .ref r), (0, .ref lw), (1, .ref sh), (2, .ref fe), (3, .int (nI k5))]) hx hb dX4_allows_187 hl (k := 1) rfl (nI_add g5 1) (Nat.le_of_ble_eq_true rfl) rfl (fun ls hl => ?_)
                    refine lv_goto (tgt := 115) hx hb dX4_allows_190 rfl ?_
                    exact ih_115 (g5 + 1) nt1 TX1 TY1 rt1 nw1 WX1 WY1 rw1 b5 b6 b7 b8 H locs ls (by first | with_reducible assumption | omega) (by first | with_reducible assumption | omega) (by intro q hq; rcases Nat.lt_or_ge q g5 with h | h; exact hall q h; rw [show q = g5 by omega]; intro h1 h2; first | exact absurd hif h1 | exact absurd h2.2.1 hs2 | exact absurd h2.2.2 ht2 | exact Or.inl (by first | with_reducible assumption | assumption) | exact Or.inr (by first | with_reducible assumption | assumption)) hP hD hS (lv_sub hl [0, 2, 3, 4, 5, 6, 7, 8] rfl)
                  · skip
                    have hc9_1 : inPl L f [(oc1 fe2 rk2 wd2 tw2 pa2 pb2 (.ref lo2) (.ref lk2) fm2), (oc4 lk2 (kd g5) (st g5) .null gb2 jt2 we2)] := ⟨hfe2, hlk2, trivial⟩
                    have hD0_1 := hD
                    obtain ⟨T_1, hT_1, hP, hD⟩ := pl_oT hP hD hc9_1 (pwF hfe2.2 hlk2.2)
                    obtain ⟨hP, hD⟩ := zre (W2 := ([_, _, _, _, _, _, _, _, _, _, _, _, _, _, _, _, _, _, _, _, _] ++ va_pl T_1 f)) hP hD rfl
                    refine lv_aload_n hx hb dX4_allows_124 rfl (lv_at hl 5 rfl) ?_
                    refine lv_iload hx hb dX4_allows_125 (lv_at hl 0 rfl) ?_
                    obtain ⟨hPc, hDc, hFc, hI1⟩ := zi_sub (wc := [_, _, _, _]) hP hD hS hA [12, 13, 19, 20] (by decide +kernel) rfl
                    refine zcall (st1 := [.null]) (va_runV (As := [.int (nI g5)]) (rest := []) ⟨hx, hb, hml, hown, hts⟩ (k_Sheet_rowThere_tv l dC dI cI cZ cF H.size sh fa ft FA g5 fe2 lo2 rk2 wd2 tw2 pa2 pb2 lk2 (kd g5) (st g5) gb2 jt2 we2 fm2 (by first | with_reducible assumption | omega) (by first | with_reducible assumption | omega) (by first | exact hFi | exact hFA2)) (csV_62 hts rfl rfl ⟨Nat.le_of_ble_eq_true rfl, Nat.le_of_ble_eq_true rfl⟩) (zPV2 (q0 := 0) (ci := 7) hPc hDc hK hXN rfl rfl) rfl rfl hl.1 rfl (lv_room (Nat.le_of_ble_eq_true rfl)) dX4_allows_127 ⟨Nat.le_of_ble_eq_true rfl, Nat.le_of_ble_eq_true rfl⟩) hS hFc hFc rfl (fun t H locs ht hB hk1 hS => ?_)
                    obtain ⟨hP1, hD1⟩ := hB
                    rw [ht] at hP1
                    replace hP := z0 hP hD hk1 hP1 hI1
                    clear hk1 hPc hDc hFc hP1 hD1 ht hI1
                    refine lv_astoreN (lv' := [(8, .null), (7, .int (nI g5)), (6, .int 6), (5, .int (nI (prv nd (gpK nd k5)))), (4, .ref r), (0, .ref lw), (1, .ref sh), (2, .ref fe), (3, .int (nI k5))]) hx hb dX4_allows_130 hl (Nat.le_of_ble_eq_true rfl) rfl (fun ls hl => ?_)
                    refine lv_aloadN hx hb dX4_allows_132 (lv_at hl 0 rfl) ?_
                    refine lv_ifnullN (tgt := 187) hx hb dX4_allows_134 rfl ?_
                    obtain ⟨hP, hD⟩ := pl_bk (X := [_, _, _, _, _, _, _, _, _, _, _, _, _, _, _, _, _, _, _]) hT_1 hP rfl hc9_1 hD0_1 rfl
                    refine lv_iinc (v := nI (g5 + 1)) (lv' := [(7, .int (nI (g5 + 1))), (8, .null), (6, .int 6), (5, .int (nI (prv nd (gpK nd k5)))), (4, .ref r), (0, .ref lw), (1, .ref sh), (2, .ref fe), (3, .int (nI k5))]) hx hb dX4_allows_187 hl (k := 1) rfl (nI_add g5 1) (Nat.le_of_ble_eq_true rfl) rfl (fun ls hl => ?_)
                    refine lv_goto (tgt := 115) hx hb dX4_allows_190 rfl ?_
                    exact ih_115 (g5 + 1) nt1 TX1 TY1 rt1 nw1 WX1 WY1 rw1 b5 b6 b7 b8 H locs ls (by first | with_reducible assumption | omega) (by first | with_reducible assumption | omega) (by intro q hq; rcases Nat.lt_or_ge q g5 with h | h; exact hall q h; rw [show q = g5 by omega]; intro h1 h2; first | exact absurd hif h1 | exact absurd h2.2.1 hs2 | exact absurd h2.2.2 ht2 | exact Or.inl (by first | with_reducible assumption | assumption) | exact Or.inr (by first | with_reducible assumption | assumption)) hP hD hS (lv_sub hl [0, 2, 3, 4, 5, 6, 7, 8] rfl)
                  · skip
                    have hw2 := hwf g5 hlv2
                    have hn2 := hw2.2.1
                    have hq2 := rw_pls hrr2 hw2
                    have hkn2 := hkn g5 hlv2
                    have hcap2 := hrr2.1
                    have hcap3 := hrr2.2.1
                    have h1m2 : 1 ≤ nN (mn g5) := hw2.2.1.1
                    have hrk2 := rgK_e hrr2.2.2.2.1
                    have hc9_1 : inPl L f [(oc1 fe2 rk2 wd2 tw2 pa2 pb2 (.ref lo2) (.ref lk2) fm2), (oc4 lk2 (kd g5) (st g5) (.ref r2) gb2 jt2 we2), (oc6 r2 (.ref rx2) (.ref ry2) (nI (nN (mn g5))) rg2), (oa rx2 cI cap2 U2), (oa ry2 cI cap2 V2)] := ⟨hfe2, hlk2, hr2, hrx2, hry2, trivial⟩
                    have hD0_1 := hD
                    obtain ⟨T_1, hT_1, hP, hD⟩ := pl_oT hP hD hc9_1 (pwR hfe2.2 hlk2.2 hr2.2 hrx2.2 hry2.2 hne2)
                    obtain ⟨hP, hD⟩ := zre (W2 := ([_, _, _, _, _, _, _, _, _, _, _, _, _, _, _, _, _, _, _, _, _, _, _, _] ++ va_pl T_1 f)) hP hD rfl
                    refine lv_aload_n hx hb dX4_allows_124 rfl (lv_at hl 5 rfl) ?_
                    refine lv_iload hx hb dX4_allows_125 (lv_at hl 0 rfl) ?_
                    obtain ⟨hPc, hDc, hFc, hI1⟩ := zi_sub (wc := [_, _, _, _]) hP hD hS hA [12, 13, 19, 20] (by decide +kernel) rfl
                    refine zcall (st1 := [.ref r2]) (va_runV (As := [.int (nI g5)]) (rest := []) ⟨hx, hb, hml, hown, hts⟩ (k_Sheet_rowThere_yv l dC dI cI cZ cF H.size sh fa ft FA g5 fe2 lo2 rk2 wd2 tw2 pa2 pb2 lk2 (kd g5) (st g5) gb2 jt2 we2 r2 fm2 (by first | with_reducible assumption | omega) (by first | with_reducible assumption | omega) (by first | exact hFi | exact hFA2) (by first | exact hs1 | exact hs2 | exact hlv2.2.1)) (csV_62 hts rfl rfl ⟨Nat.le_of_ble_eq_true rfl, Nat.le_of_ble_eq_true rfl⟩) (zPV2 (q0 := 0) (ci := 7) hPc hDc hK hXN rfl rfl) rfl rfl hl.1 rfl (lv_room (Nat.le_of_ble_eq_true rfl)) dX4_allows_127 ⟨Nat.le_of_ble_eq_true rfl, Nat.le_of_ble_eq_true rfl⟩) hS hFc hFc rfl (fun t H locs ht hB hk1 hS => ?_)
                    obtain ⟨hP1, hD1⟩ := hB
                    rw [ht] at hP1
                    replace hP := z0 hP hD hk1 hP1 hI1
                    clear hk1 hPc hDc hFc hP1 hD1 ht hI1
                    refine lv_astore (lv' := [(8, .ref r2), (7, .int (nI g5)), (6, .int 6), (5, .int (nI (prv nd (gpK nd k5)))), (4, .ref r), (0, .ref lw), (1, .ref sh), (2, .ref fe), (3, .int (nI k5))]) hx hb dX4_allows_130 hl (Nat.le_of_ble_eq_true rfl) rfl (fun ls hl => ?_)
                    refine lv_aload hx hb dX4_allows_132 (lv_at hl 0 rfl) ?_
                    refine lv_ifnull hx hb dX4_allows_134 ?_
                    refine lv_aload_n hx hb dX4_allows_137 rfl (lv_at hl 6 rfl) ?_
                    refine lv_iload hx hb dX4_allows_138 (lv_at hl 1 rfl) ?_
                    obtain ⟨hPc, hDc, hFc, hI1⟩ := zi_sub (wc := [_, _]) hP hD hS hA [12, 13] rfl rfl
                    refine zcall (st1 := [.ref fe2]) (va_runV (As := [.int (nI g5)]) (rest := []) ⟨hx, hb, hml, hown, hts⟩ (k_Sheet_find l dC dI cI cZ cF H.size sh fa ft FA g5 fe2 (by first | with_reducible assumption | omega) (by first | with_reducible assumption | omega) (by first | exact hFi | exact hFA2)) (csV_63 hts rfl rfl ⟨Nat.le_of_ble_eq_true rfl, Nat.le_of_ble_eq_true rfl⟩) (zPV2 (q0 := 0) (ci := 7) hPc hDc hK hXN rfl rfl) rfl rfl hl.1 rfl (lv_room (Nat.le_of_ble_eq_true rfl)) dX4_allows_140 ⟨Nat.le_of_ble_eq_true rfl, Nat.le_of_ble_eq_true rfl⟩) hS hFc hFc rfl (fun t H locs ht hB hk1 hS => ?_)
                    obtain ⟨hP1, hD1⟩ := hB
                    rw [ht] at hP1
                    replace hP := z0 hP hD hk1 hP1 hI1
                    clear hk1 hPc hDc hFc hP1 hD1 ht hI1
                    refine lv_aload_n hx hb dX4_allows_143 rfl (lv_at hl 7 rfl) ?_
                    refine z_acmpne (rx := fe2) (ry := fe) (tgt := 150) hx hb dX4_allows_144 (by decide) (fun c_28 => ?_) (fun c_28 => ?_)
                    · have c_28 : ¬ fe2 = fe := c_28
                      refine lv_aload_n hx hb dX4_allows_150 rfl (lv_at hl 5 rfl) ?_
                      refine va_get (D := (dC, dI)) (ci := 3) (v := .ref bo) (C := RX4) (T := TX4) (N := 6) hx hb hts inX4 hown hK hP 0 rfl rfl 4 (Nat.le_of_ble_eq_true rfl) (hts _ mw_224) (fun _ h9 => h9) rfl dX4_allows_151 ?_
                      refine lv_aload hx hb dX4_allows_154 (lv_at hl 0 rfl) ?_
                      obtain ⟨hPc, hDc, hFc⟩ := zo_sub (wc := [_, _, _, _]) hP hD hS hA [11, 21, 22, 23] (by decide +kernel) rfl
                      refine zcall (st1 := []) (va_runV (As := [.ref r2]) (rest := []) ⟨hx, hb, hml, hown, hts⟩ (k_Box_cover l dC dI cI cZ cF H.size bo b5 b6 b7 b8 r2 rx2 ry2 (nN (mn g5)) cap2 U2 V2 rg2 (by first | with_reducible assumption | omega) (by first | with_reducible assumption | omega) ((pls_nr hq2).1) ((pls_nr hq2).2) (by first | with_reducible assumption | omega)) (csV_52 hts rfl rfl ⟨Nat.le_of_ble_eq_true rfl, Nat.le_of_ble_eq_true rfl⟩) (zPV2 (q0 := 0) (ci := 0) hPc hDc hK hXN rfl rfl) rfl rfl hl.1 rfl (lv_room (Nat.le_of_ble_eq_true rfl)) dX4_allows_156 ⟨Nat.le_of_ble_eq_true rfl, Nat.le_of_ble_eq_true rfl⟩) hS hFc hFc rfl (fun t H locs ht hB hk1 hS => ?_)
                      obtain ⟨hP1, hD1⟩ := hB
                      rw [ht] at hP1
                      obtain ⟨hP, hD⟩ := znQ (W2 := [_, _, _, _, _, _, _, _, _, _, _, (oc0 bo (iI (mnI (U2 0).toInt U2 (nN (mn g5)))) (iI (mnI (V2 0).toInt V2 (nN (mn g5)))) (iI (mxI (U2 0).toInt U2 (nN (mn g5)))) (iI (mxI (V2 0).toInt V2 (nN (mn g5))))), _, _, _, _, _, _, _, _, _, _, _, _]) hP hD hk1 hFc hP1 hD1 [11, 21, 22, 23] zl_26 zl_27 [11, 21, 22, 23] (by decide +kernel) rfl rfl rfl rfl rfl
                      clear hk1 hPc hDc hFc hP1 hD1 ht
                      refine lv_aload_n hx hb dX4_allows_159 rfl (lv_at hl 5 rfl) ?_
                      refine va_get (D := (dC, dI)) (ci := 3) (v := .ref br) (C := RX4) (T := TX4) (N := 6) hx hb hts inX4 hown hK hP 0 rfl rfl 3 (Nat.le_of_ble_eq_true rfl) (hts _ mw_223) (fun _ h9 => h9) rfl dX4_allows_160 ?_
                      refine lv_aload_n hx hb dX4_allows_163 rfl (lv_at hl 5 rfl) ?_
                      refine va_get (D := (dC, dI)) (ci := 3) (v := .ref bo) (C := RX4) (T := TX4) (N := 6) hx hb hts inX4 hown hK hP 0 rfl rfl 4 (Nat.le_of_ble_eq_true rfl) (hts _ mw_224) (fun _ h9 => h9) rfl dX4_allows_164 ?_
                      obtain ⟨hPc, hDc, hFc, hI1⟩ := zi_sub (wc := [_, _]) hP hD hS hA [10, 11] rfl rfl
                      refine zcall (st1 := [.int (pI ((max (max (X k5).toInt (X (prv n k5)).toInt) (X (nxt n k5)).toInt) < (mnI (U2 0).toInt U2 (nN (mn g5))) ∨ (mxI (U2 0).toInt U2 (nN (mn g5))) < (min (min (X k5).toInt (X (prv n k5)).toInt) (X (nxt n k5)).toInt) ∨ (max (max (Y k5).toInt (Y (prv n k5)).toInt) (Y (nxt n k5)).toInt) < (mnI (V2 0).toInt V2 (nN (mn g5))) ∨ (mxI (V2 0).toInt V2 (nN (mn g5))) < (min (min (Y k5).toInt (Y (prv n k5)).toInt) (Y (nxt n k5)).toInt)))]) (va_runV (As := [.ref bo]) (rest := []) ⟨hx, hb, hml, hown, hts⟩ (k_Box_isApart l dC dI cI cZ cF H.size br (min (min (X k5).toInt (X (prv n k5)).toInt) (X (nxt n k5)).toInt) (min (min (Y k5).toInt (Y (prv n k5)).toInt) (Y (nxt n k5)).toInt) (max (max (X k5).toInt (X (prv n k5)).toInt) (X (nxt n k5)).toInt) (max (max (Y k5).toInt (Y (prv n k5)).toInt) (Y (nxt n k5)).toInt) bo (mnI (U2 0).toInt U2 (nN (mn g5))) (mnI (V2 0).toInt V2 (nN (mn g5))) (mxI (U2 0).toInt U2 (nN (mn g5))) (mxI (V2 0).toInt V2 (nN (mn g5))) (hbr) (⟨mnB ((pls_nr hq2).1 0 (by first | with_reducible assumption | omega)) (pls_nr hq2).1 _ (Nat.le_refl _), mnB ((pls_nr hq2).2 0 (by first | with_reducible assumption | omega)) (pls_nr hq2).2 _ (Nat.le_refl _), mxB ((pls_nr hq2).1 0 (by first | with_reducible assumption | omega)) (pls_nr hq2).1 _ (Nat.le_refl _), mxB ((pls_nr hq2).2 0 (by first | with_reducible assumption | omega)) (pls_nr hq2).2 _ (Nat.le_refl _)⟩)) (csV_68 hts rfl rfl ⟨Nat.le_of_ble_eq_true rfl, Nat.le_of_ble_eq_true rfl⟩) (zPV2 (q0 := 0) (ci := 0) hPc hDc hK hXN rfl rfl) rfl rfl hl.1 rfl (lv_room (Nat.le_of_ble_eq_true rfl)) dX4_allows_167 ⟨Nat.le_of_ble_eq_true rfl, Nat.le_of_ble_eq_true rfl⟩) hS hFc hFc rfl (fun t H locs ht hB hk1 hS => ?_)
                      obtain ⟨hP1, hD1⟩ := hB
                      rw [ht] at hP1
                      replace hP := z0 hP hD hk1 hP1 hI1
                      clear hk1 hPc hDc hFc hP1 hD1 ht hI1
                      refine zz_i (v := pI (apB (min (min (X k5).toInt (X (prv n k5)).toInt) (X (nxt n k5)).toInt) (min (min (Y k5).toInt (Y (prv n k5)).toInt) (Y (nxt n k5)).toInt) (max (max (X k5).toInt (X (prv n k5)).toInt) (X (nxt n k5)).toInt) (max (max (Y k5).toInt (Y (prv n k5)).toInt) (Y (nxt n k5)).toInt) (nN (mn g5)) (cF40 cx g5) (cF40 cy g5))) (zp_iff (apB_cg h1m2 hrr2.2.2.2.2)) ?_
                      refine lv_if_ne (tgt := 187) hx hb dX4_allows_170 rfl (fun c_29 => ?_) (fun c_29 => ?_)
                      · have c_29 : apB (min (min (X k5).toInt (X (prv n k5)).toInt) (X (nxt n k5)).toInt) (min (min (Y k5).toInt (Y (prv n k5)).toInt) (Y (nxt n k5)).toInt) (max (max (X k5).toInt (X (prv n k5)).toInt) (X (nxt n k5)).toInt) (max (max (Y k5).toInt (Y (prv n k5)).toInt) (Y (nxt n k5)).toInt) (nN (mn g5)) (cF40 cx g5) (cF40 cy g5) := zp_1 c_29
                        obtain ⟨hP, hD⟩ := pl_bk (X := [_, _, _, _, _, _, _, _, _, _, _, _, _, _, _, _, _, _, _]) hT_1 hP rfl hc9_1 hD0_1 rfl
                        refine lv_iinc (v := nI (g5 + 1)) (lv' := [(7, .int (nI (g5 + 1))), (8, .ref r2), (6, .int 6), (5, .int (nI (prv nd (gpK nd k5)))), (4, .ref r), (0, .ref lw), (1, .ref sh), (2, .ref fe), (3, .int (nI k5))]) hx hb dX4_allows_187 hl (k := 1) rfl (nI_add g5 1) (Nat.le_of_ble_eq_true rfl) rfl (fun ls hl => ?_)
                        refine lv_goto (tgt := 115) hx hb dX4_allows_190 rfl ?_
                        exact ih_115 (g5 + 1) nt1 TX1 TY1 rt1 nw1 WX1 WY1 rw1 (iI (mnI (U2 0).toInt U2 (nN (mn g5)))) (iI (mnI (V2 0).toInt V2 (nN (mn g5)))) (iI (mxI (U2 0).toInt U2 (nN (mn g5)))) (iI (mxI (V2 0).toInt V2 (nN (mn g5)))) H locs ls (by first | with_reducible assumption | omega) (by first | with_reducible assumption | omega) (by intro q hq; rcases Nat.lt_or_ge q g5 with h | h; exact hall q h; rw [show q = g5 by omega]; intro h1 h2; first | exact absurd hif h1 | exact absurd h2.2.1 hs2 | exact absurd h2.2.2 ht2 | exact Or.inl (by first | with_reducible assumption | assumption) | exact Or.inr (by first | with_reducible assumption | assumption)) hP hD hS (lv_sub hl [0, 2, 3, 4, 5, 6, 7, 8] rfl)
                      · have c_29 : ¬ (apB (min (min (X k5).toInt (X (prv n k5)).toInt) (X (nxt n k5)).toInt) (min (min (Y k5).toInt (Y (prv n k5)).toInt) (Y (nxt n k5)).toInt) (max (max (X k5).toInt (X (prv n k5)).toInt) (X (nxt n k5)).toInt) (max (max (Y k5).toInt (Y (prv n k5)).toInt) (Y (nxt n k5)).toInt) (nN (mn g5)) (cF40 cx g5) (cF40 cy g5)) := zp_0 c_29
                        refine lv_aload_n hx hb dX4_allows_173 rfl (lv_at hl 5 rfl) ?_
                        refine lv_aload hx hb dX4_allows_174 (lv_at hl 4 rfl) ?_
                        refine lv_aload hx hb dX4_allows_176 (lv_at hl 0 rfl) ?_
                        refine lv_iload_n hx hb dX4_allows_178 rfl (lv_at hl 8 rfl) ?_
                        obtain ⟨hPc, hDc, hFc⟩ := zo_sub (wc := [_, _, _, _, _, _, _, _, _, _, _, _, _, _, _, _]) hP hD hS hA [0, 1, 2, 3, 4, 5, 6, 7, 8, 9, 16, 17, 18, 21, 22, 23] (by decide +kernel) rfl
                        refine zcall (st1 := [.int (pI (asb n X Y rg nd P Q rd (nN (mn g5)) U2 V2 rg2 ∧ (¬ (∃ j, j < (nN (mn g5)) ∧ swC n X Y k5 (U2 j).toInt (V2 j).toInt))))]) (va_runV (As := [.ref r, .ref r2, .int (nI k5)]) (rest := []) ⟨hx, hb, hml, hown, hts⟩ (k_Law_isAsBefore_k l dC dI cI cZ cF H.size lw dr tg wy br bo aa tx ty nt1 TX1 TY1 rt1 wx wz nw1 WX1 WY1 rw1 dx dy nd cd P Q rd r rx ry n cap X Y rg r2 rx2 ry2 (nN (mn g5)) cap2 U2 V2 rg2 k5 (by first | with_reducible assumption | omega) (by first | with_reducible assumption | omega) (by first | with_reducible assumption | assumption) (by first | with_reducible assumption | omega) (by first | with_reducible assumption | omega) (hp) (by first | with_reducible assumption | omega) (by first | with_reducible assumption | omega) (hq2) (by first | with_reducible assumption | omega) (by first | with_reducible assumption | omega) (by first | with_reducible assumption | omega) (by first | with_reducible assumption | omega) (by first | with_reducible assumption | omega) (by first | with_reducible assumption | omega)) (csV_69 hts rfl rfl ⟨Nat.le_of_ble_eq_true rfl, Nat.le_of_ble_eq_true rfl⟩) (zPV2 (q0 := 0) (ci := 3) hPc hDc hK hXN rfl rfl) rfl rfl hl.1 rfl (lv_room (Nat.le_of_ble_eq_true rfl)) dX4_allows_179 ⟨Nat.le_of_ble_eq_true rfl, Nat.le_of_ble_eq_true rfl⟩) hS hFc hFc rfl (fun t H locs ht hB hk1 hS => ?_)
                        refine ex8 hB (fun q_30 q_31 q_32 q_33 q_34 q_35 q_36 q_37 hB0 => ?_)
                        clear hB
                        obtain ⟨hP1, hD1⟩ := hB0
                        rw [ht] at hP1
                        obtain ⟨hP, hD⟩ := znQ (W2 := [_, (oc6 tg (.ref tx) (.ref ty) (nI q_30) q_33), (oa tx cI 3 q_31), (oa ty cI 3 q_32), (oc6 wy (.ref wx) (.ref wz) (nI q_34) q_37), (oa wx cI 2 q_35), (oa wz cI 2 q_36), _, _, _, _, _, _, _, _, _, _, _, _, _, _, _, _, _]) hP hD hk1 hFc hP1 hD1 zl_28 zl_29 zl_30 zl_28 (by decide +kernel) rfl rfl rfl rfl rfl
                        clear hk1 hPc hDc hFc hP1 hD1 ht
                        refine zz_i (v := pI (asb n X Y rg nd P Q rd (nN (mn g5)) (cF40 cx g5) (cF40 cy g5) (rgK (kd g5).toInt) ∧ (¬ ∃ j, j < nN (mn g5) ∧ swC n X Y k5 (cF40 cx g5 j).toInt (cF40 cy g5 j).toInt))) (by rw [← hrk2]; exact zp_iff (and_congr (asb_cg h1m2 hrr2.2.2.2.2) (not_congr (ex_cg (W := fun x y => swC n X Y k5 x y) hrr2.2.2.2.2)))) ?_
                        refine lv_if_ne (tgt := 187) hx hb dX4_allows_182 rfl (fun c_38 => ?_) (fun c_38 => ?_)
                        · have c_38 : asb n X Y rg nd P Q rd (nN (mn g5)) (cF40 cx g5) (cF40 cy g5) (rgK (kd g5).toInt) ∧ (¬ ∃ j, j < nN (mn g5) ∧ swC n X Y k5 (cF40 cx g5 j).toInt (cF40 cy g5 j).toInt) := zp_1 c_38
                          obtain ⟨hP, hD⟩ := pl_bk (X := [_, _, _, _, _, _, _, _, _, _, _, _, _, _, _, _, _, _, _]) hT_1 hP rfl hc9_1 hD0_1 rfl
                          refine lv_iinc (v := nI (g5 + 1)) (lv' := [(7, .int (nI (g5 + 1))), (8, .ref r2), (6, .int 6), (5, .int (nI (prv nd (gpK nd k5)))), (4, .ref r), (0, .ref lw), (1, .ref sh), (2, .ref fe), (3, .int (nI k5))]) hx hb dX4_allows_187 hl (k := 1) rfl (nI_add g5 1) (Nat.le_of_ble_eq_true rfl) rfl (fun ls hl => ?_)
                          refine lv_goto (tgt := 115) hx hb dX4_allows_190 rfl ?_
                          exact ih_115 (g5 + 1) q_30 q_31 q_32 q_33 q_34 q_35 q_36 q_37 (iI (mnI (U2 0).toInt U2 (nN (mn g5)))) (iI (mnI (V2 0).toInt V2 (nN (mn g5)))) (iI (mxI (U2 0).toInt U2 (nN (mn g5)))) (iI (mxI (V2 0).toInt V2 (nN (mn g5)))) H locs ls (by first | with_reducible assumption | omega) (by first | with_reducible assumption | omega) (by intro q hq; rcases Nat.lt_or_ge q g5 with h | h; exact hall q h; rw [show q = g5 by omega]; intro h1 h2; first | exact absurd hif h1 | exact absurd h2.2.1 hs2 | exact absurd h2.2.2 ht2 | exact Or.inl (by first | with_reducible assumption | assumption) | exact Or.inr (by first | with_reducible assumption | assumption)) hP hD hS (lv_sub hl [0, 2, 3, 4, 5, 6, 7, 8] rfl)
                        · have c_38 : ¬ (asb n X Y rg nd P Q rd (nN (mn g5)) (cF40 cx g5) (cF40 cy g5) (rgK (kd g5).toInt) ∧ (¬ ∃ j, j < nN (mn g5) ∧ swC n X Y k5 (cF40 cx g5 j).toInt (cF40 cy g5 j).toInt)) := zp_0 c_38
                          obtain ⟨hP, hD⟩ := pl_bk (X := [_, _, _, _, _, _, _, _, _, _, _, _, _, _, _, _, _, _, _]) hT_1 hP rfl hc9_1 hD0_1 rfl
                          refine lv_iconst (v := 0) hx hb dX4_allows_185 rfl ?_
                          obtain ⟨hP9, hD9⟩ := zu_part (cx := [_, _, _, _, _, _, _, _, _, _, _, _, _, _, _, _, _, _, _]) hP hD [true, true, true, true, true, true, true, true, true, true, true, true, true, true, true, true, true, true, true] rfl rfl
                          rw [hQ9]
                          exact W.zret (ty := .boolean) (v := 0) hx hb hr (rfl) (fun t ht hW => ⟨⟨congrArg (fun z => Outcome.returned (some (Value.int z))) (show (0 : Int32) = pI (pls nd P Q ∧ eFr nd P Q rd (prv nd (gpK nd k5)) 0 ∧ ∀ q, q < ft → (q ≠ f0 → lvF ft st tn q → (apB (min (min (X k5).toInt (X (prv n k5)).toInt) (X (nxt n k5)).toInt) (min (min (Y k5).toInt (Y (prv n k5)).toInt) (Y (nxt n k5)).toInt) (max (max (X k5).toInt (X (prv n k5)).toInt) (X (nxt n k5)).toInt) (max (max (Y k5).toInt (Y (prv n k5)).toInt) (Y (nxt n k5)).toInt) (nN (mn q)) (cF40 cx q) (cF40 cy q) ∨ (asb n X Y rg nd P Q rd (nN (mn q)) (cF40 cx q) (cF40 cy q) (rgK (kd q).toInt) ∧ (¬ ∃ j, j < nN (mn q) ∧ swC n X Y k5 (cF40 cx q j).toInt (cF40 cy q j).toInt))))) from (zp_f (fun h => by have h9 := h.2.2 g5 (by omega) hif hlv2; first | exact absurd h9 (fun h8 => h8.elim (fun h7 => absurd h7 (by first | with_reducible assumption | assumption)) (fun h7 => absurd h7 (by first | with_reducible assumption | assumption))))).symm), q_30, q_31, q_32, q_33, q_34, q_35, q_36, q_37, (iI (min (min (X k5).toInt (X (prv n k5)).toInt) (X (nxt n k5)).toInt)), (iI (min (min (Y k5).toInt (Y (prv n k5)).toInt) (Y (nxt n k5)).toInt)), (iI (max (max (X k5).toInt (X (prv n k5)).toInt) (X (nxt n k5)).toInt)), (iI (max (max (Y k5).toInt (Y (prv n k5)).toInt) (Y (nxt n k5)).toInt)), (iI (mnI (U2 0).toInt U2 (nN (mn g5)))), (iI (mnI (V2 0).toInt V2 (nN (mn g5)))), (iI (mxI (U2 0).toInt U2 (nN (mn g5)))), (iI (mxI (V2 0).toInt V2 (nN (mn g5)))), by rw [ht]; exact hP9, hD9⟩, hS.F ht⟩) hS.2.2 dX4_allows_186
                    · have c_28 : fe2 = fe := c_28
                      exfalso; exact absurd (by first | with_reducible assumption | assumption) (pl_sep (q := (oc1 fe rk9 wd9 tw9 pa9 pb9 (.ref lo) (.ref lk) fm9)) hD0_1 (by simp) hfe2.1)
            exact hl_115 _ 0 nt TX TY rt nw WX WY rw b5 b6 b7 b8 H locs ls (Nat.lt_succ_self _) (by first | with_reducible assumption | omega) (by intro q hq; omega) hP hD hS (lv_sub hl [0, 1, 2, 3, 4, 5, 6, 7] rfl)
          · have c_23 : ¬ (eFr nd P Q rd (prv nd (gpK nd k5)) 0) := zp_0 c_23
            refine lv_goto (tgt := 103) hx hb dX4_allows_88 rfl ?_
            refine lv_iconst (v := 0) hx hb dX4_allows_103 rfl ?_
            obtain ⟨hP9, hD9⟩ := zu_part (cx := [_, _, _, _, _, _, _, _, _, _, _, _, _, _, _, _, _, _, _]) hP hD [true, true, true, true, true, true, true, true, true, true, true, true, true, true, true, true, true, true, true] rfl rfl
            rw [hQ9]
            exact W.zret (ty := .boolean) (v := 0) hx hb hr (rfl) (fun t ht hW => ⟨⟨congrArg (fun z => Outcome.returned (some (Value.int z))) (show (0 : Int32) = pI (pls nd P Q ∧ eFr nd P Q rd (prv nd (gpK nd k5)) 0 ∧ ∀ q, q < ft → (q ≠ f0 → lvF ft st tn q → (apB (min (min (X k5).toInt (X (prv n k5)).toInt) (X (nxt n k5)).toInt) (min (min (Y k5).toInt (Y (prv n k5)).toInt) (Y (nxt n k5)).toInt) (max (max (X k5).toInt (X (prv n k5)).toInt) (X (nxt n k5)).toInt) (max (max (Y k5).toInt (Y (prv n k5)).toInt) (Y (nxt n k5)).toInt) (nN (mn q)) (cF40 cx q) (cF40 cy q) ∨ (asb n X Y rg nd P Q rd (nN (mn q)) (cF40 cx q) (cF40 cy q) (rgK (kd q).toInt) ∧ (¬ ∃ j, j < nN (mn q) ∧ swC n X Y k5 (cF40 cx q j).toInt (cF40 cy q j).toInt))))) from (zp_f (fun h => absurd h.2.1 (by first | with_reducible assumption | assumption))).symm), nt, TX, TY, rt, nw, WX, WY, rw, b1, b2, b3, b4, b5, b6, b7, b8, by rw [ht]; exact hP9, hD9⟩, hS.F ht⟩) hS.2.2 dX4_allows_104
    refine lv_iload_n hx hb dX4_allows_30 rfl (lv_at hl 4 rfl) ?_
    refine lv_aload_n hx hb dX4_allows_31 rfl (lv_at hl 1 rfl) ?_
    refine va_get (D := (dC, dI)) (ci := 3) (v := .ref dr) (C := RX4) (T := TX4) (N := 6) hx hb hts inX4 hown hK hP 0 rfl rfl 0 (Nat.le_of_ble_eq_true rfl) (hts _ mw_219) (fun _ h9 => h9) rfl dX4_allows_32 ?_
    refine va_get (D := (dC, dI)) (ci := 6) (v := .int (nI nd)) (C := RX7) (T := TX7) (N := 4) hx hb hts inX7 hown hK hP 7 rfl rfl 2 (Nat.le_of_ble_eq_true rfl) (hts _ mw_176) (fun _ h9 => h9) rfl dX4_allows_35 ?_
    have b9_40 : zlt (k5) := show k5 < 2147483648 by omega
    have b9_41 : zlt (nd) := show nd < 2147483648 by omega
    refine lv_icmp_ge (tgt := 45) hx hb dX4_allows_38 rfl (fun c_39 => ?_) (fun c_39 => ?_)
    · have c_39 : ((nd : Nat) : Int) ≤ ((k5 : Nat) : Int) := zc_le (nI_toInt b9_41) (nI_toInt b9_40) c_39
      refine lv_iconst (v := 0) hx hb dX4_allows_45 rfl ?_
      refine zz_i (v := nI (gpK nd k5)) (by unfold gpK; first | (rw [if_pos (by omega)]) | (rw [if_neg (by omega)]; rfl)) ?_
      exact hj_2 
    · have c_39 : ((k5 : Nat) : Int) < ((nd : Nat) : Int) := zc_nle (nI_toInt b9_41) (nI_toInt b9_40) c_39
      refine lv_iload_n hx hb dX4_allows_41 rfl (lv_at hl 4 rfl) ?_
      refine lv_goto (tgt := 46) hx hb dX4_allows_42 rfl ?_
      refine zz_i (v := nI (gpK nd k5)) (by unfold gpK; first | (rw [if_pos (by omega)]) | (rw [if_neg (by omega)]; rfl)) ?_
      exact hj_2 
  · have c_1 : ¬ (pls nd P Q) := zp_0 c_1
    refine lv_iconst (v := 0) hx hb dX4_allows_24 rfl ?_
    obtain ⟨hP9, hD9⟩ := zu_part (cx := [_, _, _, _, _, _, _, _, _, _, _, _, _, _, _, _, _, _, _]) hP hD [true, true, true, true, true, true, true, true, true, true, true, true, true, true, true, true, true, true, true] rfl rfl
    rw [hQ9]
    exact W.zret (ty := .boolean) (v := 0) hx hb hr (rfl) (fun t ht hW => ⟨⟨congrArg (fun z => Outcome.returned (some (Value.int z))) (show (0 : Int32) = pI (pls nd P Q ∧ eFr nd P Q rd (prv nd (gpK nd k5)) 0 ∧ ∀ q, q < ft → (q ≠ f0 → lvF ft st tn q → (apB (min (min (X k5).toInt (X (prv n k5)).toInt) (X (nxt n k5)).toInt) (min (min (Y k5).toInt (Y (prv n k5)).toInt) (Y (nxt n k5)).toInt) (max (max (X k5).toInt (X (prv n k5)).toInt) (X (nxt n k5)).toInt) (max (max (Y k5).toInt (Y (prv n k5)).toInt) (Y (nxt n k5)).toInt) (nN (mn q)) (cF40 cx q) (cF40 cy q) ∨ (asb n X Y rg nd P Q rd (nN (mn q)) (cF40 cx q) (cF40 cy q) (rgK (kd q).toInt) ∧ (¬ ∃ j, j < nN (mn q) ∧ swC n X Y k5 (cF40 cx q j).toInt (cF40 cy q j).toInt))))) from (zp_f (fun h => absurd h.1 (by first | with_reducible assumption | assumption))).symm), nt, TX, TY, rt, nw, WX, WY, rw, b1, b2, b3, b4, b5, b6, b7, b8, by rw [ht]; exact hP9, hD9⟩, hS.F ht⟩) hS.2.2 dX4_allows_25
end
section
set_option maxHeartbeats 4000000 in
set_option maxRecDepth 100000 in
theorem k_Law_allows_m (l : Launch) (dC : Nat → ClassId) (dI : Nat → Nat → Nat) (cI cZ cF : ClassId) (sz : Nat) (lw : Nat) (dr : Nat) (tg : Nat) (wy : Nat) (br : Nat) (bo : Nat) (aa : Nat) (tx : Nat) (ty : Nat) (nt : Nat) (TX : Nat → Int32) (TY : Nat → Int32) (rt : Int32) (wx : Nat) (wz : Nat) (nw : Nat) (WX : Nat → Int32) (WY : Nat → Int32) (rw : Int32) (dx : Nat) (dy : Nat) (nd : Nat) (cd : Nat) (P : Nat → Int32) (Q : Nat → Int32) (rd : Int32) (b1 : Int32) (b2 : Int32) (b3 : Int32) (b4 : Int32) (b5 : Int32) (b6 : Int32) (b7 : Int32) (b8 : Int32) (sh : Nat) (fa : Nat) (ft : Nat) (FA : Nat → Option Nat) (fe : Nat) (lo : Nat) (rk9 : Int32) (wd9 : Int32) (tw9 : Int32) (pa9 : Int32) (pb9 : Int32) (lk : Nat) (kd9 : Int32) (st9 : Int32) (gb9 : Int32) (jt9 : Int32) (we9 : Int32) (r : Nat) (rx : Nat) (ry : Nat) (n : Nat) (cap : Nat) (X : Nat → Int32) (Y : Nat → Int32) (rg : Int32) (f0 : Nat) (fm9 : Value) (L : List Nat) (f : Nat → va_E) (kd : Nat → Int32) (st : Nat → Int32) (tn : Nat → Int32) (mn : Nat → Int32) (cx : Nat → Int32) (cy : Nat → Int32) (h200 : ft ≤ 200) (hf0 : f0 < ft) (hFA : FA f0 = some fe) (hs1 : st9.toInt = 1) (hvw : ∀ q, q < ft → q ≠ f0 → vwO cI L f FA kd st tn mn cx cy q) (hwf : ∀ q, lvF ft st tn q → wfM mn cx cy q) (hkn : okN ft st tn kd mn) (hnd : nd ≤ cd) (hcd : cd ≤ 1000) (hn : n ≤ cap) (hcap : cap ≤ 1000) (hp : pls n X Y) (h1n : 1 ≤ n) (h1d : 1 ≤ nd) (hn1 : ¬ n = 1) (hdn : nd = n) : zM l yX4_allows cX4_allows 9 (some .boolean) ({ frames := 4, cells := 0, slots := 0, locals := 104 } : Room) [.ref lw, .ref sh, .ref fe, .int (-1)] (dC, dI) (zTy cI cZ cF) ([(oc3 lw (.ref dr) (.ref tg) (.ref wy) (.ref br) (.ref bo) (.ref aa)), (oc6 tg (.ref tx) (.ref ty) (nI nt) rt), (oa tx cI 3 TX), (oa ty cI 3 TY), (oc6 wy (.ref wx) (.ref wz) (nI nw) rw), (oa wx cI 2 WX), (oa wz cI 2 WY), (oc6 dr (.ref dx) (.ref dy) (nI nd) rd), (oa dx cI cd P), (oa dy cI cd Q), (oc0 br b1 b2 b3 b4), (oc0 bo b5 b6 b7 b8), (oc7 sh (.ref fa) (nI ft)), (oq fa cF 200 FA), (oc1 fe rk9 wd9 tw9 pa9 pb9 (.ref lo) (.ref lk) fm9), (oc4 lk kd9 st9 (.ref r) gb9 jt9 we9), (oc6 r (.ref rx) (.ref ry) (nI n) rg), (oa rx cI cap X), (oa ry cI cap Y)] ++ va_pl L f) sz (some (.int (pI (pls nd P Q ∧ ((∀ i, i < edg nd rd → eFr nd P Q rd i (i + 1)) ∧ (¬ kd9.toInt = 6 ∨ ∀ k, k < nd → eRt nd P Q k)) ∧ ∀ q, q < ft → (q ≠ f0 → lvF ft st tn q → (apB (mnI (mnI (X 0).toInt X n) P nd) (mnI (mnI (Y 0).toInt Y n) Q nd) (mxI (mxI (X 0).toInt X n) P nd) (mxI (mxI (Y 0).toInt Y n) Q nd) (nN (mn q)) (cF40 cx q) (cF40 cy q) ∨ (asb n X Y rg nd P Q rd (nN (mn q)) (cF40 cx q) (cF40 cy q) (rgK (kd q).toInt) ∧ (¬ ∃ i, i < edg n rg ∧ ∃ k, k < nN (mn q) ∧ swR n X Y P Q (cF40 cx q k).toInt (cF40 cy q k).toInt i)))))))) (fun A t => ∃ (nt1 : Nat), ∃ (TX1 : Nat → Int32), ∃ (TY1 : Nat → Int32), ∃ (rt1 : Int32), ∃ (nw1 : Nat), ∃ (WX1 : Nat → Int32), ∃ (WY1 : Nat → Int32), ∃ (rw1 : Int32), ∃ (d5 : Int32), ∃ (d6 : Int32), ∃ (d7 : Int32), ∃ (d8 : Int32), ∃ (e5 : Int32), ∃ (e6 : Int32), ∃ (e7 : Int32), ∃ (e8 : Int32), zPD (dC, dI) classes A ([(oc3 lw (.ref dr) (.ref tg) (.ref wy) (.ref br) (.ref bo) (.ref aa)), (oc6 tg (.ref tx) (.ref ty) (nI nt1) rt1), (oa tx cI 3 TX1), (oa ty cI 3 TY1), (oc6 wy (.ref wx) (.ref wz) (nI nw1) rw1), (oa wx cI 2 WX1), (oa wz cI 2 WY1), (oc6 dr (.ref dx) (.ref dy) (nI nd) rd), (oa dx cI cd P), (oa dy cI cd Q), (oc0 br d5 d6 d7 d8), (oc0 bo e5 e6 e7 e8), (oc7 sh (.ref fa) (nI ft)), (oq fa cF 200 FA), (oc1 fe rk9 wd9 tw9 pa9 pb9 (.ref lo) (.ref lk) fm9), (oc4 lk kd9 st9 (.ref r) gb9 jt9 we9), (oc6 r (.ref rx) (.ref ry) (nI n) rg), (oa rx cI cap X), (oa ry cI cap Y)] ++ va_pl L f) t.heap) 0 0 := by
  refine zIn (own := "ScaleShop$Law") (loc := [(0, .ref lw), (1, .ref sh), (2, .ref fe), (3, .int (-1))]) rfl rfl rfl rfl (fun p e s m below meth c hx hb hr hts hown hlocks hml hnm9 A hA hS hP hD hK hXN Q9 hQ9 ls hl => ?_)
  refine lv_aload_n hx hb dX4_allows_0 rfl (lv_at hl 2 rfl) ?_
  refine va_get (D := (dC, dI)) (ci := 1) (v := .ref lk) (C := RX2) (T := TX2) (N := 8) hx hb hts inX2 hown hK hP 14 rfl rfl 6 (Nat.le_of_ble_eq_true rfl) (hts _ mw_430) (fun _ h9 => h9) rfl dX4_allows_1 ?_
  refine va_get (D := (dC, dI)) (ci := 4) (v := .ref r) (C := RX5) (T := TX5) (N := 6) hx hb hts inX5 hown hK hP 15 rfl rfl 2 (Nat.le_of_ble_eq_true rfl) (hts _ mw_389) (fun _ h9 => h9) rfl dX4_allows_4 ?_
  refine lv_astore (lv' := [(4, .ref r), (0, .ref lw), (1, .ref sh), (2, .ref fe), (3, .int (-1))]) hx hb dX4_allows_7 hl (Nat.le_of_ble_eq_true rfl) rfl (fun ls hl => ?_)
  refine lv_aload hx hb dX4_allows_9 (lv_at hl 0 rfl) ?_
  refine lv_ifnull hx hb dX4_allows_11 ?_
  refine lv_aload_n hx hb dX4_allows_14 rfl (lv_at hl 1 rfl) ?_
  refine va_get (D := (dC, dI)) (ci := 3) (v := .ref dr) (C := RX4) (T := TX4) (N := 6) hx hb hts inX4 hown hK hP 0 rfl rfl 0 (Nat.le_of_ble_eq_true rfl) (hts _ mw_219) (fun _ h9 => h9) rfl dX4_allows_15 ?_
  obtain ⟨hPc, hDc, hFc, hI1⟩ := zi_sub (wc := [_, _, _]) hP hD hS hA [7, 8, 9] rfl rfl
  refine zcall (st1 := [.int (pI (pls nd P Q))]) (va_runV (As := []) (rest := []) ⟨hx, hb, hml, hown, hts⟩ (k_Row_arePlaces l dC dI cI cZ cF s.heap.size dr dx dy nd cd P Q rd (by first | with_reducible assumption | omega) (by first | with_reducible assumption | omega)) (csV_65 hts rfl rfl ⟨Nat.le_of_ble_eq_true rfl, Nat.le_of_ble_eq_true rfl⟩) (zPV2 (q0 := 0) (ci := 6) hPc hDc hK hXN rfl rfl) rfl rfl hl.1 rfl (lv_room (Nat.le_of_ble_eq_true rfl)) dX4_allows_18 ⟨Nat.le_of_ble_eq_true rfl, Nat.le_of_ble_eq_true rfl⟩) hS hFc hFc rfl (fun t H locs ht hB hk1 hS => ?_)
  obtain ⟨hP1, hD1⟩ := hB
  rw [ht] at hP1
  replace hP := z0 hP hD hk1 hP1 hI1
  clear hk1 hPc hDc hFc hP1 hD1 ht hI1
  refine lv_if_ne (tgt := 26) hx hb dX4_allows_21 rfl (fun c_1 => ?_) (fun c_1 => ?_)
  · have c_1 : pls nd P Q := zp_1 c_1
    refine lv_aload_n hx hb dX4_allows_26 rfl (lv_at hl 1 rfl) ?_
    refine va_get (D := (dC, dI)) (ci := 3) (v := .ref dr) (C := RX4) (T := TX4) (N := 6) hx hb hts inX4 hown hK hP 0 rfl rfl 0 (Nat.le_of_ble_eq_true rfl) (hts _ mw_219) (fun _ h9 => h9) rfl dX4_allows_27 ?_
    refine lv_iload_n hx hb dX4_allows_30 rfl (lv_at hl 4 rfl) ?_
    refine lv_aload_n hx hb dX4_allows_31 rfl (lv_at hl 1 rfl) ?_
    refine va_get (D := (dC, dI)) (ci := 3) (v := .ref dr) (C := RX4) (T := TX4) (N := 6) hx hb hts inX4 hown hK hP 0 rfl rfl 0 (Nat.le_of_ble_eq_true rfl) (hts _ mw_219) (fun _ h9 => h9) rfl dX4_allows_32 ?_
    refine va_get (D := (dC, dI)) (ci := 6) (v := .int (nI nd)) (C := RX7) (T := TX7) (N := 4) hx hb hts inX7 hown hK hP 7 rfl rfl 2 (Nat.le_of_ble_eq_true rfl) (hts _ mw_176) (fun _ h9 => h9) rfl dX4_allows_35 ?_
    have b9_3 : zlt (nd) := show nd < 2147483648 by omega
    refine lv_icmp_ge (tgt := 45) hx hb dX4_allows_38 rfl (fun c_2 => ?_) (fun c_2 => ?_)
    · have c_2 : ((nd : Nat) : Int) ≤ (-1) := zc_le (nI_toInt b9_3) rfl c_2
      exfalso; omega
    · have c_2 : (-1) < ((nd : Nat) : Int) := zc_nle (nI_toInt b9_3) rfl c_2
      refine lv_iload_n hx hb dX4_allows_41 rfl (lv_at hl 4 rfl) ?_
      refine lv_goto (tgt := 46) hx hb dX4_allows_42 rfl ?_
      obtain ⟨hPc, hDc, hFc, hI1⟩ := zi_sub (wc := [_, _, _]) hP hD hS hA [7, 8, 9] rfl rfl
      refine zcall (st1 := [.int (nI (nd - 1))]) (va_runV (As := [.int (-1)]) (rest := []) ⟨hx, hb, hml, hown, hts⟩ (k_Row_previous_1 l dC dI cI cZ cF H.size dr dx dy nd cd P Q rd (by first | with_reducible assumption | omega) (by first | with_reducible assumption | omega) (by first | with_reducible assumption | omega)) (csV_48 hts rfl rfl ⟨Nat.le_of_ble_eq_true rfl, Nat.le_of_ble_eq_true rfl⟩) (zPV2 (q0 := 0) (ci := 6) hPc hDc hK hXN rfl rfl) rfl rfl hl.1 rfl (lv_room (Nat.le_of_ble_eq_true rfl)) dX4_allows_46 ⟨Nat.le_of_ble_eq_true rfl, Nat.le_of_ble_eq_true rfl⟩) hS hFc hFc rfl (fun t H locs ht hB hk1 hS => ?_)
      obtain ⟨hP1, hD1⟩ := hB
      rw [ht] at hP1
      replace hP := z0 hP hD hk1 hP1 hI1
      clear hk1 hPc hDc hFc hP1 hD1 ht hI1
      refine lv_istore (lv' := [(5, .int (nI (nd - 1))), (4, .ref r), (0, .ref lw), (1, .ref sh), (2, .ref fe), (3, .int (-1))]) hx hb dX4_allows_49 hl (Nat.le_of_ble_eq_true rfl) rfl (fun ls hl => ?_)
      refine lv_iload_n hx hb dX4_allows_51 rfl (lv_at hl 5 rfl) ?_
      refine lv_bipush (v := (-2)) hx hb dX4_allows_52 rfl ?_
      refine lv_icmp_ne (tgt := 62) hx hb dX4_allows_54 rfl (fun c_4 => ?_) (fun c_4 => ?_)
      · refine lv_aload_n hx hb dX4_allows_62 rfl (lv_at hl 4 rfl) ?_
        refine va_get (D := (dC, dI)) (ci := 1) (v := .ref lk) (C := RX2) (T := TX2) (N := 8) hx hb hts inX2 hown hK hP 14 rfl rfl 6 (Nat.le_of_ble_eq_true rfl) (hts _ mw_430) (fun _ h9 => h9) rfl dX4_allows_63 ?_
        refine va_get (D := (dC, dI)) (ci := 4) (v := .int kd9) (C := RX5) (T := TX5) (N := 6) hx hb hts inX5 hown hK hP 15 rfl rfl 0 (Nat.le_of_ble_eq_true rfl) (hts _ mw_382) (fun _ h9 => h9) rfl dX4_allows_66 ?_
        refine lv_istore (lv' := [(6, .int kd9), (5, .int (nI (nd - 1))), (4, .ref r), (0, .ref lw), (1, .ref sh), (2, .ref fe), (3, .int (-1))]) hx hb dX4_allows_69 hl (Nat.le_of_ble_eq_true rfl) rfl (fun ls hl => ?_)
        refine lv_iload_n hx hb dX4_allows_71 rfl (lv_at hl 6 rfl) ?_
        refine lv_if_lt (tgt := 91) hx hb dX4_allows_72 rfl (fun c_5 => ?_) (fun c_5 => ?_)
        · refine lv_aload_n hx hb dX4_allows_91 rfl (lv_at hl 3 rfl) ?_
          refine va_get (D := (dC, dI)) (ci := 3) (v := .ref dr) (C := RX4) (T := TX4) (N := 6) hx hb hts inX4 hown hK hP 0 rfl rfl 0 (Nat.le_of_ble_eq_true rfl) (hts _ mw_219) (fun _ h9 => h9) rfl dX4_allows_92 ?_
          refine lv_iload hx hb dX4_allows_95 (lv_at hl 0 rfl) ?_
          obtain ⟨hPc, hDc, hFc, hI1⟩ := zi_sub (wc := [_, _, _]) hP hD hS hA [7, 8, 9] rfl rfl
          refine zcall (st1 := [.int (pI ((∀ i, i < edg nd rd → eFr nd P Q rd i (i + 1)) ∧ (¬ kd9.toInt = 6 ∨ ∀ k, k < nd → eRt nd P Q k)))]) (va_runV (As := [.int kd9]) (rest := []) ⟨hx, hb, hml, hown, hts⟩ (k_Row_isSound l dC dI cI cZ cF H.size dr dx dy nd cd P Q rd kd9 (by first | with_reducible assumption | omega) (by first | with_reducible assumption | omega) (by first | with_reducible assumption | assumption)) (csV_70 hts rfl rfl ⟨Nat.le_of_ble_eq_true rfl, Nat.le_of_ble_eq_true rfl⟩) (zPV2 (q0 := 0) (ci := 6) hPc hDc hK hXN rfl rfl) rfl rfl hl.1 rfl (lv_room (Nat.le_of_ble_eq_true rfl)) dX4_allows_97 ⟨Nat.le_of_ble_eq_true rfl, Nat.le_of_ble_eq_true rfl⟩) hS hFc hFc rfl (fun t H locs ht hB hk1 hS => ?_)
          obtain ⟨hP1, hD1⟩ := hB
          rw [ht] at hP1
          replace hP := z0 hP hD hk1 hP1 hI1
          clear hk1 hPc hDc hFc hP1 hD1 ht hI1
          refine lv_if_ne (tgt := 105) hx hb dX4_allows_100 rfl (fun c_6 => ?_) (fun c_6 => ?_)
          · have c_6 : (∀ i, i < edg nd rd → eFr nd P Q rd i (i + 1)) ∧ (¬ kd9.toInt = 6 ∨ ∀ k, k < nd → eRt nd P Q k) := zp_1 c_6
            refine lv_aload_n hx hb dX4_allows_105 rfl (lv_at hl 3 rfl) ?_
            refine lv_aload hx hb dX4_allows_106 (lv_at hl 2 rfl) ?_
            refine lv_iload_n hx hb dX4_allows_108 rfl (lv_at hl 6 rfl) ?_
            obtain ⟨hPc, hDc, hFc⟩ := zo_sub (wc := [_, _, _, _, _, _, _, _]) hP hD hS hA [0, 10, 7, 8, 9, 16, 17, 18] (by decide +kernel) rfl
            refine zcall (st1 := []) (va_runV (As := [.ref r, .int (-1)]) (rest := []) ⟨hx, hb, hml, hown, hts⟩ (k_Law_measureReach_1 l dC dI cI cZ cF H.size lw dr tg wy br bo aa b1 b2 b3 b4 dx dy nd cd P Q rd r rx ry n cap X Y rg (by first | with_reducible assumption | omega) (by first | with_reducible assumption | omega) (by first | with_reducible assumption | assumption) (by first | with_reducible assumption | omega) (by first | with_reducible assumption | omega) (by first | with_reducible assumption | assumption) (by first | with_reducible assumption | omega)) (csV_67 hts rfl rfl ⟨Nat.le_of_ble_eq_true rfl, Nat.le_of_ble_eq_true rfl⟩) (zPV2 (q0 := 0) (ci := 3) hPc hDc hK hXN rfl rfl) rfl rfl hl.1 rfl (lv_room (Nat.le_of_ble_eq_true rfl)) dX4_allows_109 ⟨Nat.le_of_ble_eq_true rfl, Nat.le_of_ble_eq_true rfl⟩) hS hFc hFc rfl (fun t H locs ht hB hk1 hS => ?_)
            obtain ⟨hP1, hD1⟩ := hB
            rw [ht] at hP1
            obtain ⟨hP, hD⟩ := znQ (W2 := [_, _, _, _, _, _, _, _, _, _, (oc0 br (iI (mnI (mnI (X 0).toInt X n) P nd)) (iI (mnI (mnI (Y 0).toInt Y n) Q nd)) (iI (mxI (mxI (X 0).toInt X n) P nd)) (iI (mxI (mxI (Y 0).toInt Y n) Q nd))), _, _, _, _, _, _, _, _]) hP hD hk1 hFc hP1 hD1 zl_31 zl_32 zl_33 zl_31 (by decide +kernel) rfl rfl rfl rfl rfl
            clear hk1 hPc hDc hFc hP1 hD1 ht
            have hpd : pls nd P Q := (by first | with_reducible assumption | assumption)
            have hbr : nr (mnI (mnI (X 0).toInt X n) P nd) ∧ nr (mnI (mnI (Y 0).toInt Y n) Q nd) ∧ nr (mxI (mxI (X 0).toInt X n) P nd) ∧ nr (mxI (mxI (Y 0).toInt Y n) Q nd) := ⟨mnB (mnB ((pls_nr hp).1 0 (by omega)) (pls_nr hp).1 n (Nat.le_refl _)) (pls_nr hpd).1 nd (Nat.le_refl _), mnB (mnB ((pls_nr hp).2 0 (by omega)) (pls_nr hp).2 n (Nat.le_refl _)) (pls_nr hpd).2 nd (Nat.le_refl _), mxB (mxB ((pls_nr hp).1 0 (by omega)) (pls_nr hp).1 n (Nat.le_refl _)) (pls_nr hpd).1 nd (Nat.le_refl _), mxB (mxB ((pls_nr hp).2 0 (by omega)) (pls_nr hp).2 n (Nat.le_refl _)) (pls_nr hpd).2 nd (Nat.le_refl _)⟩
            refine lv_iconst (v := 0) hx hb dX4_allows_112 rfl ?_
            refine lv_istore (lv' := [(7, .int 0), (6, .int kd9), (5, .int (nI (nd - 1))), (4, .ref r), (0, .ref lw), (1, .ref sh), (2, .ref fe), (3, .int (-1))]) hx hb dX4_allows_113 hl (Nat.le_of_ble_eq_true rfl) rfl (fun ls hl => ?_)
            have hl_115 : ∀ (n9 : Nat) (g5 : Nat) (nt1 : Nat) (TX1 : Nat → Int32) (TY1 : Nat → Int32) (rt1 : Int32) (nw1 : Nat) (WX1 : Nat → Int32) (WY1 : Nat → Int32) (rw1 : Int32) (b5 : Int32) (b6 : Int32) (b7 : Int32) (b8 : Int32) (H : Heap) (locs : List Loc) (ls : Array Slot), ft - g5 < n9 → (g5 ≤ ft) → (∀ q, q < g5 → (q ≠ f0 → lvF ft st tn q → (apB (mnI (mnI (X 0).toInt X n) P nd) (mnI (mnI (Y 0).toInt Y n) Q nd) (mxI (mxI (X 0).toInt X n) P nd) (mxI (mxI (Y 0).toInt Y n) Q nd) (nN (mn q)) (cF40 cx q) (cF40 cy q) ∨ (asb n X Y rg nd P Q rd (nN (mn q)) (cF40 cx q) (cF40 cy q) (rgK (kd q).toInt) ∧ (¬ ∃ i, i < edg n rg ∧ ∃ k, k < nN (mn q) ∧ swR n X Y P Q (cF40 cx q k).toInt (cF40 cy q k).toInt i))))) → va_P (dC, dI) classes ([(oc3 lw (.ref dr) (.ref tg) (.ref wy) (.ref br) (.ref bo) (.ref aa)), (oc6 tg (.ref tx) (.ref ty) (nI nt1) rt1), (oa tx cI 3 TX1), (oa ty cI 3 TY1), (oc6 wy (.ref wx) (.ref wz) (nI nw1) rw1), (oa wx cI 2 WX1), (oa wz cI 2 WY1), (oc6 dr (.ref dx) (.ref dy) (nI nd) rd), (oa dx cI cd P), (oa dy cI cd Q), (oc0 br (iI (mnI (mnI (X 0).toInt X n) P nd)) (iI (mnI (mnI (Y 0).toInt Y n) Q nd)) (iI (mxI (mxI (X 0).toInt X n) P nd)) (iI (mxI (mxI (Y 0).toInt Y n) Q nd))), (oc0 bo b5 b6 b7 b8), (oc7 sh (.ref fa) (nI ft)), (oq fa cF 200 FA), (oc1 fe rk9 wd9 tw9 pa9 pb9 (.ref lo) (.ref lk) fm9), (oc4 lk kd9 st9 (.ref r) gb9 jt9 we9), (oc6 r (.ref rx) (.ref ry) (nI n) rg), (oa rx cI cap X), (oa ry cI cap Y)] ++ va_pl L f) H → va_D A ([(oc3 lw (.ref dr) (.ref tg) (.ref wy) (.ref br) (.ref bo) (.ref aa)), (oc6 tg (.ref tx) (.ref ty) (nI nt1) rt1), (oa tx cI 3 TX1), (oa ty cI 3 TY1), (oc6 wy (.ref wx) (.ref wz) (nI nw1) rw1), (oa wx cI 2 WX1), (oa wz cI 2 WY1), (oc6 dr (.ref dx) (.ref dy) (nI nd) rd), (oa dx cI cd P), (oa dy cI cd Q), (oc0 br (iI (mnI (mnI (X 0).toInt X n) P nd)) (iI (mnI (mnI (Y 0).toInt Y n) Q nd)) (iI (mxI (mxI (X 0).toInt X n) P nd)) (iI (mxI (mxI (Y 0).toInt Y n) Q nd))), (oc0 bo b5 b6 b7 b8), (oc7 sh (.ref fa) (nI ft)), (oq fa cF 200 FA), (oc1 fe rk9 wd9 tw9 pa9 pb9 (.ref lo) (.ref lk) fm9), (oc4 lk kd9 st9 (.ref r) gb9 jt9 we9), (oc6 r (.ref rx) (.ref ry) (nI n) rg), (oa rx cI cap X), (oa ry cI cap Y)] ++ va_pl L f) → va_S A s.heap H locs → lv_has ls 9 [(7, .int (nI g5)), (6, .int kd9), (5, .int (nI (nd - 1))), (4, .ref r), (0, .ref lw), (1, .ref sh), (2, .ref fe), (3, .int (-1))] → W p l e ({ frames := 4, cells := 0, slots := 0, locals := 104 } : Room) s m ([.ref lw, .ref sh, .ref fe, .int (-1)] : List Value).toArray below meth c H locs 0 0 Q9 (F0 m 115 ls []) := by
              intro n9
              induction n9 with
              | zero => intro g5 nt1 TX1 TY1 rt1 nw1 WX1 WY1 rw1 b5 b6 b7 b8 H locs ls hm; exact absurd hm (Nat.not_lt_zero _)
              | succ n9 ih_115 =>
                intro g5 nt1 TX1 TY1 rt1 nw1 WX1 WY1 rw1 b5 b6 b7 b8 H locs ls hm hi5 hall hP hD hS hl
                refine lv_iload hx hb dX4_allows_115 (lv_at hl 0 rfl) ?_
                refine lv_aload_n hx hb dX4_allows_117 rfl (lv_at hl 5 rfl) ?_
                refine va_get (D := (dC, dI)) (ci := 7) (v := .int (nI ft)) (C := RX8) (T := TX8) (N := 2) hx hb hts inX8 hown hK hP 12 rfl rfl 1 (Nat.le_of_ble_eq_true rfl) (hts _ mw_139) (fun _ h9 => h9) rfl dX4_allows_118 ?_
                have b9_8 : zlt (g5) := show g5 < 2147483648 by omega
                have b9_9 : zlt (ft) := show ft < 2147483648 by omega
                refine lv_icmp_ge (tgt := 193) hx hb dX4_allows_121 rfl (fun c_7 => ?_) (fun c_7 => ?_)
                · have c_7 : ((ft : Nat) : Int) ≤ ((g5 : Nat) : Int) := zc_le (nI_toInt b9_9) (nI_toInt b9_8) c_7
                  refine lv_iconst (v := 1) hx hb dX4_allows_193 rfl ?_
                  obtain ⟨hP9, hD9⟩ := zu_part (cx := [_, _, _, _, _, _, _, _, _, _, _, _, _, _, _, _, _, _, _]) hP hD [true, true, true, true, true, true, true, true, true, true, true, true, true, true, true, true, true, true, true] rfl rfl
                  rw [hQ9]
                  exact W.zret (ty := .boolean) (v := 1) hx hb hr (rfl) (fun t ht hW => ⟨⟨congrArg (fun z => Outcome.returned (some (Value.int z))) (show (1 : Int32) = pI (pls nd P Q ∧ ((∀ i, i < edg nd rd → eFr nd P Q rd i (i + 1)) ∧ (¬ kd9.toInt = 6 ∨ ∀ k, k < nd → eRt nd P Q k)) ∧ ∀ q, q < ft → (q ≠ f0 → lvF ft st tn q → (apB (mnI (mnI (X 0).toInt X n) P nd) (mnI (mnI (Y 0).toInt Y n) Q nd) (mxI (mxI (X 0).toInt X n) P nd) (mxI (mxI (Y 0).toInt Y n) Q nd) (nN (mn q)) (cF40 cx q) (cF40 cy q) ∨ (asb n X Y rg nd P Q rd (nN (mn q)) (cF40 cx q) (cF40 cy q) (rgK (kd q).toInt) ∧ (¬ ∃ i, i < edg n rg ∧ ∃ k, k < nN (mn q) ∧ swR n X Y P Q (cF40 cx q k).toInt (cF40 cy q k).toInt i))))) from (zp_t (⟨by assumption, by assumption, fun q hq => hall q (by omega)⟩)).symm), nt1, TX1, TY1, rt1, nw1, WX1, WY1, rw1, (iI (mnI (mnI (X 0).toInt X n) P nd)), (iI (mnI (mnI (Y 0).toInt Y n) Q nd)), (iI (mxI (mxI (X 0).toInt X n) P nd)), (iI (mxI (mxI (Y 0).toInt Y n) Q nd)), b5, b6, b7, b8, by rw [ht]; exact hP9, hD9⟩, hS.F ht⟩) hS.2.2 dX4_allows_194
                · have c_7 : ((g5 : Nat) : Int) < ((ft : Nat) : Int) := zc_nle (nI_toInt b9_9) (nI_toInt b9_8) c_7
                  rcases vw4 (hvw g5) (show g5 < ft by omega) with hif | ⟨hif, hs2, fe2, lk2, lo2, rk2, wd2, tw2, pa2, pb2, gb2, jt2, we2, fm2, rw2, hFA2, hfe2, hlk2⟩ | ⟨hif, ht2, fe2, lk2, lo2, rk2, wd2, tw2, pa2, pb2, gb2, jt2, we2, fm2, hFA2, hfe2, hlk2⟩ | ⟨hif, hlv2, fe2, lk2, lo2, rk2, wd2, tw2, pa2, pb2, gb2, jt2, we2, fm2, r2, rx2, ry2, cap2, U2, V2, rg2, hFA2, hfe2, hlk2, ⟨hr2, hrx2, hry2, hne2⟩, hrr2⟩
                  · skip
                    have hFi : FA g5 = some fe := (by rw [hif]; exact hFA)
                    refine lv_aload_n hx hb dX4_allows_124 rfl (lv_at hl 5 rfl) ?_
                    refine lv_iload hx hb dX4_allows_125 (lv_at hl 0 rfl) ?_
                    obtain ⟨hPc, hDc, hFc, hI1⟩ := zi_sub (wc := [_, _, _, _]) hP hD hS hA [12, 13, 14, 15] (by decide +kernel) rfl
                    refine zcall (st1 := [.ref r]) (va_runV (As := [.int (nI g5)]) (rest := []) ⟨hx, hb, hml, hown, hts⟩ (k_Sheet_rowThere_yv l dC dI cI cZ cF H.size sh fa ft FA g5 fe lo rk9 wd9 tw9 pa9 pb9 lk kd9 st9 gb9 jt9 we9 r fm9 (by first | with_reducible assumption | omega) (by first | with_reducible assumption | omega) (by first | exact hFi | exact hFA2) (by first | exact hs1 | exact hs2 | exact hlv2.2.1)) (csV_62 hts rfl rfl ⟨Nat.le_of_ble_eq_true rfl, Nat.le_of_ble_eq_true rfl⟩) (zPV2 (q0 := 0) (ci := 7) hPc hDc hK hXN rfl rfl) rfl rfl hl.1 rfl (lv_room (Nat.le_of_ble_eq_true rfl)) dX4_allows_127 ⟨Nat.le_of_ble_eq_true rfl, Nat.le_of_ble_eq_true rfl⟩) hS hFc hFc rfl (fun t H locs ht hB hk1 hS => ?_)
                    obtain ⟨hP1, hD1⟩ := hB
                    rw [ht] at hP1
                    replace hP := z0 hP hD hk1 hP1 hI1
                    clear hk1 hPc hDc hFc hP1 hD1 ht hI1
                    refine lv_astore (lv' := [(8, .ref r), (7, .int (nI g5)), (6, .int kd9), (5, .int (nI (nd - 1))), (4, .ref r), (0, .ref lw), (1, .ref sh), (2, .ref fe), (3, .int (-1))]) hx hb dX4_allows_130 hl (Nat.le_of_ble_eq_true rfl) rfl (fun ls hl => ?_)
                    refine lv_aload hx hb dX4_allows_132 (lv_at hl 0 rfl) ?_
                    refine lv_ifnull hx hb dX4_allows_134 ?_
                    refine lv_aload_n hx hb dX4_allows_137 rfl (lv_at hl 6 rfl) ?_
                    refine lv_iload hx hb dX4_allows_138 (lv_at hl 1 rfl) ?_
                    obtain ⟨hPc, hDc, hFc, hI1⟩ := zi_sub (wc := [_, _]) hP hD hS hA [12, 13] rfl rfl
                    refine zcall (st1 := [.ref fe]) (va_runV (As := [.int (nI g5)]) (rest := []) ⟨hx, hb, hml, hown, hts⟩ (k_Sheet_find l dC dI cI cZ cF H.size sh fa ft FA g5 fe (by first | with_reducible assumption | omega) (by first | with_reducible assumption | omega) (by first | exact hFi | exact hFA2)) (csV_63 hts rfl rfl ⟨Nat.le_of_ble_eq_true rfl, Nat.le_of_ble_eq_true rfl⟩) (zPV2 (q0 := 0) (ci := 7) hPc hDc hK hXN rfl rfl) rfl rfl hl.1 rfl (lv_room (Nat.le_of_ble_eq_true rfl)) dX4_allows_140 ⟨Nat.le_of_ble_eq_true rfl, Nat.le_of_ble_eq_true rfl⟩) hS hFc hFc rfl (fun t H locs ht hB hk1 hS => ?_)
                    obtain ⟨hP1, hD1⟩ := hB
                    rw [ht] at hP1
                    replace hP := z0 hP hD hk1 hP1 hI1
                    clear hk1 hPc hDc hFc hP1 hD1 ht hI1
                    refine lv_aload_n hx hb dX4_allows_143 rfl (lv_at hl 7 rfl) ?_
                    refine z_acmpne (rx := fe) (ry := fe) (tgt := 150) hx hb dX4_allows_144 (by decide) (fun c_10 => ?_) (fun c_10 => ?_)
                    · have c_10 : ¬ fe = fe := c_10
                      exact absurd rfl c_10
                    · have c_10 : fe = fe := c_10
                      refine lv_goto (tgt := 187) hx hb dX4_allows_147 rfl ?_
                      refine lv_iinc (v := nI (g5 + 1)) (lv' := [(7, .int (nI (g5 + 1))), (8, .ref r), (6, .int kd9), (5, .int (nI (nd - 1))), (4, .ref r), (0, .ref lw), (1, .ref sh), (2, .ref fe), (3, .int (-1))]) hx hb dX4_allows_187 hl (k := 1) rfl (nI_add g5 1) (Nat.le_of_ble_eq_true rfl) rfl (fun ls hl => ?_)
                      refine lv_goto (tgt := 115) hx hb dX4_allows_190 rfl ?_
                      exact ih_115 (g5 + 1) nt1 TX1 TY1 rt1 nw1 WX1 WY1 rw1 b5 b6 b7 b8 H locs ls (by first | with_reducible assumption | omega) (by first | with_reducible assumption | omega) (by intro q hq; rcases Nat.lt_or_ge q g5 with h | h; exact hall q h; rw [show q = g5 by omega]; intro h1 h2; first | exact absurd hif h1 | exact absurd h2.2.1 hs2 | exact absurd h2.2.2 ht2 | exact Or.inl (by first | with_reducible assumption | assumption) | exact Or.inr (by first | with_reducible assumption | assumption)) hP hD hS (lv_sub hl [0, 2, 3, 4, 5, 6, 7, 8] rfl)
                  · skip
                    have hc9_1 : inPl L f [(oc1 fe2 rk2 wd2 tw2 pa2 pb2 (.ref lo2) (.ref lk2) fm2), (oc4 lk2 (kd g5) (st g5) rw2 gb2 jt2 we2)] := ⟨hfe2, hlk2, trivial⟩
                    have hD0_1 := hD
                    obtain ⟨T_1, hT_1, hP, hD⟩ := pl_oT hP hD hc9_1 (pwF hfe2.2 hlk2.2)
                    obtain ⟨hP, hD⟩ := zre (W2 := ([_, _, _, _, _, _, _, _, _, _, _, _, _, _, _, _, _, _, _, _, _] ++ va_pl T_1 f)) hP hD rfl
                    refine lv_aload_n hx hb dX4_allows_124 rfl (lv_at hl 5 rfl) ?_
                    refine lv_iload hx hb dX4_allows_125 (lv_at hl 0 rfl) ?_
                    obtain ⟨hPc, hDc, hFc, hI1⟩ := zi_sub (wc := [_, _, _, _]) hP hD hS hA [12, 13, 19, 20] (by decide +kernel) rfl
                    refine zcall (st1 := [.null]) (va_runV (As := [.int (nI g5)]) (rest := []) ⟨hx, hb, hml, hown, hts⟩ (k_Sheet_rowThere_sv l dC dI cI cZ cF H.size sh fa ft FA g5 fe2 lo2 rk2 wd2 tw2 pa2 pb2 lk2 (kd g5) (st g5) gb2 jt2 we2 fm2 rw2 (by first | with_reducible assumption | omega) (by first | with_reducible assumption | omega) (by first | exact hFi | exact hFA2) (by first | exact hs1 | exact hs2 | exact hlv2.2.1)) (csV_62 hts rfl rfl ⟨Nat.le_of_ble_eq_true rfl, Nat.le_of_ble_eq_true rfl⟩) (zPV2 (q0 := 0) (ci := 7) hPc hDc hK hXN rfl rfl) rfl rfl hl.1 rfl (lv_room (Nat.le_of_ble_eq_true rfl)) dX4_allows_127 ⟨Nat.le_of_ble_eq_true rfl, Nat.le_of_ble_eq_true rfl⟩) hS hFc hFc rfl (fun t H locs ht hB hk1 hS => ?_)
                    obtain ⟨hP1, hD1⟩ := hB
                    rw [ht] at hP1
                    replace hP := z0 hP hD hk1 hP1 hI1
                    clear hk1 hPc hDc hFc hP1 hD1 ht hI1
                    refine lv_astoreN (lv' := [(8, .null), (7, .int (nI g5)), (6, .int kd9), (5, .int (nI (nd - 1))), (4, .ref r), (0, .ref lw), (1, .ref sh), (2, .ref fe), (3, .int (-1))]) hx hb dX4_allows_130 hl (Nat.le_of_ble_eq_true rfl) rfl (fun ls hl => ?_)
                    refine lv_aloadN hx hb dX4_allows_132 (lv_at hl 0 rfl) ?_
                    refine lv_ifnullN (tgt := 187) hx hb dX4_allows_134 rfl ?_
                    obtain ⟨hP, hD⟩ := pl_bk (X := [_, _, _, _, _, _, _, _, _, _, _, _, _, _, _, _, _, _, _]) hT_1 hP rfl hc9_1 hD0_1 rfl
                    refine lv_iinc (v := nI (g5 + 1)) (lv' := [(7, .int (nI (g5 + 1))), (8, .null), (6, .int kd9), (5, .int (nI (nd - 1))), (4, .ref r), (0, .ref lw), (1, .ref sh), (2, .ref fe), (3, .int (-1))]) hx hb dX4_allows_187 hl (k := 1) rfl (nI_add g5 1) (Nat.le_of_ble_eq_true rfl) rfl (fun ls hl => ?_)
                    refine lv_goto (tgt := 115) hx hb dX4_allows_190 rfl ?_
                    exact ih_115 (g5 + 1) nt1 TX1 TY1 rt1 nw1 WX1 WY1 rw1 b5 b6 b7 b8 H locs ls (by first | with_reducible assumption | omega) (by first | with_reducible assumption | omega) (by intro q hq; rcases Nat.lt_or_ge q g5 with h | h; exact hall q h; rw [show q = g5 by omega]; intro h1 h2; first | exact absurd hif h1 | exact absurd h2.2.1 hs2 | exact absurd h2.2.2 ht2 | exact Or.inl (by first | with_reducible assumption | assumption) | exact Or.inr (by first | with_reducible assumption | assumption)) hP hD hS (lv_sub hl [0, 2, 3, 4, 5, 6, 7, 8] rfl)
                  · skip
                    have hc9_1 : inPl L f [(oc1 fe2 rk2 wd2 tw2 pa2 pb2 (.ref lo2) (.ref lk2) fm2), (oc4 lk2 (kd g5) (st g5) .null gb2 jt2 we2)] := ⟨hfe2, hlk2, trivial⟩
                    have hD0_1 := hD
                    obtain ⟨T_1, hT_1, hP, hD⟩ := pl_oT hP hD hc9_1 (pwF hfe2.2 hlk2.2)
                    obtain ⟨hP, hD⟩ := zre (W2 := ([_, _, _, _, _, _, _, _, _, _, _, _, _, _, _, _, _, _, _, _, _] ++ va_pl T_1 f)) hP hD rfl
                    refine lv_aload_n hx hb dX4_allows_124 rfl (lv_at hl 5 rfl) ?_
                    refine lv_iload hx hb dX4_allows_125 (lv_at hl 0 rfl) ?_
                    obtain ⟨hPc, hDc, hFc, hI1⟩ := zi_sub (wc := [_, _, _, _]) hP hD hS hA [12, 13, 19, 20] (by decide +kernel) rfl
                    refine zcall (st1 := [.null]) (va_runV (As := [.int (nI g5)]) (rest := []) ⟨hx, hb, hml, hown, hts⟩ (k_Sheet_rowThere_tv l dC dI cI cZ cF H.size sh fa ft FA g5 fe2 lo2 rk2 wd2 tw2 pa2 pb2 lk2 (kd g5) (st g5) gb2 jt2 we2 fm2 (by first | with_reducible assumption | omega) (by first | with_reducible assumption | omega) (by first | exact hFi | exact hFA2)) (csV_62 hts rfl rfl ⟨Nat.le_of_ble_eq_true rfl, Nat.le_of_ble_eq_true rfl⟩) (zPV2 (q0 := 0) (ci := 7) hPc hDc hK hXN rfl rfl) rfl rfl hl.1 rfl (lv_room (Nat.le_of_ble_eq_true rfl)) dX4_allows_127 ⟨Nat.le_of_ble_eq_true rfl, Nat.le_of_ble_eq_true rfl⟩) hS hFc hFc rfl (fun t H locs ht hB hk1 hS => ?_)
                    obtain ⟨hP1, hD1⟩ := hB
                    rw [ht] at hP1
                    replace hP := z0 hP hD hk1 hP1 hI1
                    clear hk1 hPc hDc hFc hP1 hD1 ht hI1
                    refine lv_astoreN (lv' := [(8, .null), (7, .int (nI g5)), (6, .int kd9), (5, .int (nI (nd - 1))), (4, .ref r), (0, .ref lw), (1, .ref sh), (2, .ref fe), (3, .int (-1))]) hx hb dX4_allows_130 hl (Nat.le_of_ble_eq_true rfl) rfl (fun ls hl => ?_)
                    refine lv_aloadN hx hb dX4_allows_132 (lv_at hl 0 rfl) ?_
                    refine lv_ifnullN (tgt := 187) hx hb dX4_allows_134 rfl ?_
                    obtain ⟨hP, hD⟩ := pl_bk (X := [_, _, _, _, _, _, _, _, _, _, _, _, _, _, _, _, _, _, _]) hT_1 hP rfl hc9_1 hD0_1 rfl
                    refine lv_iinc (v := nI (g5 + 1)) (lv' := [(7, .int (nI (g5 + 1))), (8, .null), (6, .int kd9), (5, .int (nI (nd - 1))), (4, .ref r), (0, .ref lw), (1, .ref sh), (2, .ref fe), (3, .int (-1))]) hx hb dX4_allows_187 hl (k := 1) rfl (nI_add g5 1) (Nat.le_of_ble_eq_true rfl) rfl (fun ls hl => ?_)
                    refine lv_goto (tgt := 115) hx hb dX4_allows_190 rfl ?_
                    exact ih_115 (g5 + 1) nt1 TX1 TY1 rt1 nw1 WX1 WY1 rw1 b5 b6 b7 b8 H locs ls (by first | with_reducible assumption | omega) (by first | with_reducible assumption | omega) (by intro q hq; rcases Nat.lt_or_ge q g5 with h | h; exact hall q h; rw [show q = g5 by omega]; intro h1 h2; first | exact absurd hif h1 | exact absurd h2.2.1 hs2 | exact absurd h2.2.2 ht2 | exact Or.inl (by first | with_reducible assumption | assumption) | exact Or.inr (by first | with_reducible assumption | assumption)) hP hD hS (lv_sub hl [0, 2, 3, 4, 5, 6, 7, 8] rfl)
                  · skip
                    have hw2 := hwf g5 hlv2
                    have hn2 := hw2.2.1
                    have hq2 := rw_pls hrr2 hw2
                    have hkn2 := hkn g5 hlv2
                    have hcap2 := hrr2.1
                    have hcap3 := hrr2.2.1
                    have h1m2 : 1 ≤ nN (mn g5) := hw2.2.1.1
                    have hrk2 := rgK_e hrr2.2.2.2.1
                    have hc9_1 : inPl L f [(oc1 fe2 rk2 wd2 tw2 pa2 pb2 (.ref lo2) (.ref lk2) fm2), (oc4 lk2 (kd g5) (st g5) (.ref r2) gb2 jt2 we2), (oc6 r2 (.ref rx2) (.ref ry2) (nI (nN (mn g5))) rg2), (oa rx2 cI cap2 U2), (oa ry2 cI cap2 V2)] := ⟨hfe2, hlk2, hr2, hrx2, hry2, trivial⟩
                    have hD0_1 := hD
                    obtain ⟨T_1, hT_1, hP, hD⟩ := pl_oT hP hD hc9_1 (pwR hfe2.2 hlk2.2 hr2.2 hrx2.2 hry2.2 hne2)
                    obtain ⟨hP, hD⟩ := zre (W2 := ([_, _, _, _, _, _, _, _, _, _, _, _, _, _, _, _, _, _, _, _, _, _, _, _] ++ va_pl T_1 f)) hP hD rfl
                    refine lv_aload_n hx hb dX4_allows_124 rfl (lv_at hl 5 rfl) ?_
                    refine lv_iload hx hb dX4_allows_125 (lv_at hl 0 rfl) ?_
                    obtain ⟨hPc, hDc, hFc, hI1⟩ := zi_sub (wc := [_, _, _, _]) hP hD hS hA [12, 13, 19, 20] (by decide +kernel) rfl
                    refine zcall (st1 := [.ref r2]) (va_runV (As := [.int (nI g5)]) (rest := []) ⟨hx, hb, hml, hown, hts⟩ (k_Sheet_rowThere_yv l dC dI cI cZ cF H.size sh fa ft FA g5 fe2 lo2 rk2 wd2 tw2 pa2 pb2 lk2 (kd g5) (st g5) gb2 jt2 we2 r2 fm2 (by first | with_reducible assumption | omega) (by first | with_reducible assumption | omega) (by first | exact hFi | exact hFA2) (by first | exact hs1 | exact hs2 | exact hlv2.2.1)) (csV_62 hts rfl rfl ⟨Nat.le_of_ble_eq_true rfl, Nat.le_of_ble_eq_true rfl⟩) (zPV2 (q0 := 0) (ci := 7) hPc hDc hK hXN rfl rfl) rfl rfl hl.1 rfl (lv_room (Nat.le_of_ble_eq_true rfl)) dX4_allows_127 ⟨Nat.le_of_ble_eq_true rfl, Nat.le_of_ble_eq_true rfl⟩) hS hFc hFc rfl (fun t H locs ht hB hk1 hS => ?_)
                    obtain ⟨hP1, hD1⟩ := hB
                    rw [ht] at hP1
                    replace hP := z0 hP hD hk1 hP1 hI1
                    clear hk1 hPc hDc hFc hP1 hD1 ht hI1
                    refine lv_astore (lv' := [(8, .ref r2), (7, .int (nI g5)), (6, .int kd9), (5, .int (nI (nd - 1))), (4, .ref r), (0, .ref lw), (1, .ref sh), (2, .ref fe), (3, .int (-1))]) hx hb dX4_allows_130 hl (Nat.le_of_ble_eq_true rfl) rfl (fun ls hl => ?_)
                    refine lv_aload hx hb dX4_allows_132 (lv_at hl 0 rfl) ?_
                    refine lv_ifnull hx hb dX4_allows_134 ?_
                    refine lv_aload_n hx hb dX4_allows_137 rfl (lv_at hl 6 rfl) ?_
                    refine lv_iload hx hb dX4_allows_138 (lv_at hl 1 rfl) ?_
                    obtain ⟨hPc, hDc, hFc, hI1⟩ := zi_sub (wc := [_, _]) hP hD hS hA [12, 13] rfl rfl
                    refine zcall (st1 := [.ref fe2]) (va_runV (As := [.int (nI g5)]) (rest := []) ⟨hx, hb, hml, hown, hts⟩ (k_Sheet_find l dC dI cI cZ cF H.size sh fa ft FA g5 fe2 (by first | with_reducible assumption | omega) (by first | with_reducible assumption | omega) (by first | exact hFi | exact hFA2)) (csV_63 hts rfl rfl ⟨Nat.le_of_ble_eq_true rfl, Nat.le_of_ble_eq_true rfl⟩) (zPV2 (q0 := 0) (ci := 7) hPc hDc hK hXN rfl rfl) rfl rfl hl.1 rfl (lv_room (Nat.le_of_ble_eq_true rfl)) dX4_allows_140 ⟨Nat.le_of_ble_eq_true rfl, Nat.le_of_ble_eq_true rfl⟩) hS hFc hFc rfl (fun t H locs ht hB hk1 hS => ?_)
                    obtain ⟨hP1, hD1⟩ := hB
                    rw [ht] at hP1
                    replace hP := z0 hP hD hk1 hP1 hI1
                    clear hk1 hPc hDc hFc hP1 hD1 ht hI1
                    refine lv_aload_n hx hb dX4_allows_143 rfl (lv_at hl 7 rfl) ?_
                    refine z_acmpne (rx := fe2) (ry := fe) (tgt := 150) hx hb dX4_allows_144 (by decide) (fun c_11 => ?_) (fun c_11 => ?_)
                    · have c_11 : ¬ fe2 = fe := c_11
                      refine lv_aload_n hx hb dX4_allows_150 rfl (lv_at hl 5 rfl) ?_
                      refine va_get (D := (dC, dI)) (ci := 3) (v := .ref bo) (C := RX4) (T := TX4) (N := 6) hx hb hts inX4 hown hK hP 0 rfl rfl 4 (Nat.le_of_ble_eq_true rfl) (hts _ mw_224) (fun _ h9 => h9) rfl dX4_allows_151 ?_
                      refine lv_aload hx hb dX4_allows_154 (lv_at hl 0 rfl) ?_
                      obtain ⟨hPc, hDc, hFc⟩ := zo_sub (wc := [_, _, _, _]) hP hD hS hA [11, 21, 22, 23] (by decide +kernel) rfl
                      refine zcall (st1 := []) (va_runV (As := [.ref r2]) (rest := []) ⟨hx, hb, hml, hown, hts⟩ (k_Box_cover l dC dI cI cZ cF H.size bo b5 b6 b7 b8 r2 rx2 ry2 (nN (mn g5)) cap2 U2 V2 rg2 (by first | with_reducible assumption | omega) (by first | with_reducible assumption | omega) ((pls_nr hq2).1) ((pls_nr hq2).2) (by first | with_reducible assumption | omega)) (csV_52 hts rfl rfl ⟨Nat.le_of_ble_eq_true rfl, Nat.le_of_ble_eq_true rfl⟩) (zPV2 (q0 := 0) (ci := 0) hPc hDc hK hXN rfl rfl) rfl rfl hl.1 rfl (lv_room (Nat.le_of_ble_eq_true rfl)) dX4_allows_156 ⟨Nat.le_of_ble_eq_true rfl, Nat.le_of_ble_eq_true rfl⟩) hS hFc hFc rfl (fun t H locs ht hB hk1 hS => ?_)
                      obtain ⟨hP1, hD1⟩ := hB
                      rw [ht] at hP1
                      obtain ⟨hP, hD⟩ := znQ (W2 := [_, _, _, _, _, _, _, _, _, _, _, (oc0 bo (iI (mnI (U2 0).toInt U2 (nN (mn g5)))) (iI (mnI (V2 0).toInt V2 (nN (mn g5)))) (iI (mxI (U2 0).toInt U2 (nN (mn g5)))) (iI (mxI (V2 0).toInt V2 (nN (mn g5))))), _, _, _, _, _, _, _, _, _, _, _, _]) hP hD hk1 hFc hP1 hD1 [11, 21, 22, 23] zl_26 zl_27 [11, 21, 22, 23] (by decide +kernel) rfl rfl rfl rfl rfl
                      clear hk1 hPc hDc hFc hP1 hD1 ht
                      refine lv_aload_n hx hb dX4_allows_159 rfl (lv_at hl 5 rfl) ?_
                      refine va_get (D := (dC, dI)) (ci := 3) (v := .ref br) (C := RX4) (T := TX4) (N := 6) hx hb hts inX4 hown hK hP 0 rfl rfl 3 (Nat.le_of_ble_eq_true rfl) (hts _ mw_223) (fun _ h9 => h9) rfl dX4_allows_160 ?_
                      refine lv_aload_n hx hb dX4_allows_163 rfl (lv_at hl 5 rfl) ?_
                      refine va_get (D := (dC, dI)) (ci := 3) (v := .ref bo) (C := RX4) (T := TX4) (N := 6) hx hb hts inX4 hown hK hP 0 rfl rfl 4 (Nat.le_of_ble_eq_true rfl) (hts _ mw_224) (fun _ h9 => h9) rfl dX4_allows_164 ?_
                      obtain ⟨hPc, hDc, hFc, hI1⟩ := zi_sub (wc := [_, _]) hP hD hS hA [10, 11] rfl rfl
                      refine zcall (st1 := [.int (pI ((mxI (mxI (X 0).toInt X n) P nd) < (mnI (U2 0).toInt U2 (nN (mn g5))) ∨ (mxI (U2 0).toInt U2 (nN (mn g5))) < (mnI (mnI (X 0).toInt X n) P nd) ∨ (mxI (mxI (Y 0).toInt Y n) Q nd) < (mnI (V2 0).toInt V2 (nN (mn g5))) ∨ (mxI (V2 0).toInt V2 (nN (mn g5))) < (mnI (mnI (Y 0).toInt Y n) Q nd)))]) (va_runV (As := [.ref bo]) (rest := []) ⟨hx, hb, hml, hown, hts⟩ (k_Box_isApart l dC dI cI cZ cF H.size br (mnI (mnI (X 0).toInt X n) P nd) (mnI (mnI (Y 0).toInt Y n) Q nd) (mxI (mxI (X 0).toInt X n) P nd) (mxI (mxI (Y 0).toInt Y n) Q nd) bo (mnI (U2 0).toInt U2 (nN (mn g5))) (mnI (V2 0).toInt V2 (nN (mn g5))) (mxI (U2 0).toInt U2 (nN (mn g5))) (mxI (V2 0).toInt V2 (nN (mn g5))) (hbr) (⟨mnB ((pls_nr hq2).1 0 (by first | with_reducible assumption | omega)) (pls_nr hq2).1 _ (Nat.le_refl _), mnB ((pls_nr hq2).2 0 (by first | with_reducible assumption | omega)) (pls_nr hq2).2 _ (Nat.le_refl _), mxB ((pls_nr hq2).1 0 (by first | with_reducible assumption | omega)) (pls_nr hq2).1 _ (Nat.le_refl _), mxB ((pls_nr hq2).2 0 (by first | with_reducible assumption | omega)) (pls_nr hq2).2 _ (Nat.le_refl _)⟩)) (csV_68 hts rfl rfl ⟨Nat.le_of_ble_eq_true rfl, Nat.le_of_ble_eq_true rfl⟩) (zPV2 (q0 := 0) (ci := 0) hPc hDc hK hXN rfl rfl) rfl rfl hl.1 rfl (lv_room (Nat.le_of_ble_eq_true rfl)) dX4_allows_167 ⟨Nat.le_of_ble_eq_true rfl, Nat.le_of_ble_eq_true rfl⟩) hS hFc hFc rfl (fun t H locs ht hB hk1 hS => ?_)
                      obtain ⟨hP1, hD1⟩ := hB
                      rw [ht] at hP1
                      replace hP := z0 hP hD hk1 hP1 hI1
                      clear hk1 hPc hDc hFc hP1 hD1 ht hI1
                      refine zz_i (v := pI (apB (mnI (mnI (X 0).toInt X n) P nd) (mnI (mnI (Y 0).toInt Y n) Q nd) (mxI (mxI (X 0).toInt X n) P nd) (mxI (mxI (Y 0).toInt Y n) Q nd) (nN (mn g5)) (cF40 cx g5) (cF40 cy g5))) (zp_iff (apB_cg h1m2 hrr2.2.2.2.2)) ?_
                      refine lv_if_ne (tgt := 187) hx hb dX4_allows_170 rfl (fun c_12 => ?_) (fun c_12 => ?_)
                      · have c_12 : apB (mnI (mnI (X 0).toInt X n) P nd) (mnI (mnI (Y 0).toInt Y n) Q nd) (mxI (mxI (X 0).toInt X n) P nd) (mxI (mxI (Y 0).toInt Y n) Q nd) (nN (mn g5)) (cF40 cx g5) (cF40 cy g5) := zp_1 c_12
                        obtain ⟨hP, hD⟩ := pl_bk (X := [_, _, _, _, _, _, _, _, _, _, _, _, _, _, _, _, _, _, _]) hT_1 hP rfl hc9_1 hD0_1 rfl
                        refine lv_iinc (v := nI (g5 + 1)) (lv' := [(7, .int (nI (g5 + 1))), (8, .ref r2), (6, .int kd9), (5, .int (nI (nd - 1))), (4, .ref r), (0, .ref lw), (1, .ref sh), (2, .ref fe), (3, .int (-1))]) hx hb dX4_allows_187 hl (k := 1) rfl (nI_add g5 1) (Nat.le_of_ble_eq_true rfl) rfl (fun ls hl => ?_)
                        refine lv_goto (tgt := 115) hx hb dX4_allows_190 rfl ?_
                        exact ih_115 (g5 + 1) nt1 TX1 TY1 rt1 nw1 WX1 WY1 rw1 (iI (mnI (U2 0).toInt U2 (nN (mn g5)))) (iI (mnI (V2 0).toInt V2 (nN (mn g5)))) (iI (mxI (U2 0).toInt U2 (nN (mn g5)))) (iI (mxI (V2 0).toInt V2 (nN (mn g5)))) H locs ls (by first | with_reducible assumption | omega) (by first | with_reducible assumption | omega) (by intro q hq; rcases Nat.lt_or_ge q g5 with h | h; exact hall q h; rw [show q = g5 by omega]; intro h1 h2; first | exact absurd hif h1 | exact absurd h2.2.1 hs2 | exact absurd h2.2.2 ht2 | exact Or.inl (by first | with_reducible assumption | assumption) | exact Or.inr (by first | with_reducible assumption | assumption)) hP hD hS (lv_sub hl [0, 2, 3, 4, 5, 6, 7, 8] rfl)
                      · have c_12 : ¬ (apB (mnI (mnI (X 0).toInt X n) P nd) (mnI (mnI (Y 0).toInt Y n) Q nd) (mxI (mxI (X 0).toInt X n) P nd) (mxI (mxI (Y 0).toInt Y n) Q nd) (nN (mn g5)) (cF40 cx g5) (cF40 cy g5)) := zp_0 c_12
                        refine lv_aload_n hx hb dX4_allows_173 rfl (lv_at hl 5 rfl) ?_
                        refine lv_aload hx hb dX4_allows_174 (lv_at hl 4 rfl) ?_
                        refine lv_aload hx hb dX4_allows_176 (lv_at hl 0 rfl) ?_
                        refine lv_iload_n hx hb dX4_allows_178 rfl (lv_at hl 8 rfl) ?_
                        obtain ⟨hPc, hDc, hFc⟩ := zo_sub (wc := [_, _, _, _, _, _, _, _, _, _, _, _, _, _, _, _]) hP hD hS hA [0, 1, 2, 3, 4, 5, 6, 7, 8, 9, 16, 17, 18, 21, 22, 23] (by decide +kernel) rfl
                        refine zcall (st1 := [.int (pI (asb n X Y rg nd P Q rd (nN (mn g5)) U2 V2 rg2 ∧ (¬ (∃ i, i < edg n rg ∧ ∃ k, k < (nN (mn g5)) ∧ swR n X Y P Q (U2 k).toInt (V2 k).toInt i))))]) (va_runV (As := [.ref r, .ref r2, .int (-1)]) (rest := []) ⟨hx, hb, hml, hown, hts⟩ (k_Law_isAsBefore_m l dC dI cI cZ cF H.size lw dr tg wy br bo aa tx ty nt1 TX1 TY1 rt1 wx wz nw1 WX1 WY1 rw1 dx dy nd cd P Q rd r rx ry n cap X Y rg r2 rx2 ry2 (nN (mn g5)) cap2 U2 V2 rg2 (by first | with_reducible assumption | omega) (by first | with_reducible assumption | omega) (by first | with_reducible assumption | assumption) (by first | with_reducible assumption | omega) (by first | with_reducible assumption | omega) (hp) (by first | with_reducible assumption | omega) (by first | with_reducible assumption | omega) (hq2) (by first | with_reducible assumption | omega) (by first | with_reducible assumption | omega) (by first | with_reducible assumption | omega) (by first | with_reducible assumption | omega) (by first | with_reducible assumption | omega)) (csV_69 hts rfl rfl ⟨Nat.le_of_ble_eq_true rfl, Nat.le_of_ble_eq_true rfl⟩) (zPV2 (q0 := 0) (ci := 3) hPc hDc hK hXN rfl rfl) rfl rfl hl.1 rfl (lv_room (Nat.le_of_ble_eq_true rfl)) dX4_allows_179 ⟨Nat.le_of_ble_eq_true rfl, Nat.le_of_ble_eq_true rfl⟩) hS hFc hFc rfl (fun t H locs ht hB hk1 hS => ?_)
                        refine ex8 hB (fun q_13 q_14 q_15 q_16 q_17 q_18 q_19 q_20 hB0 => ?_)
                        clear hB
                        obtain ⟨hP1, hD1⟩ := hB0
                        rw [ht] at hP1
                        obtain ⟨hP, hD⟩ := znQ (W2 := [_, (oc6 tg (.ref tx) (.ref ty) (nI q_13) q_16), (oa tx cI 3 q_14), (oa ty cI 3 q_15), (oc6 wy (.ref wx) (.ref wz) (nI q_17) q_20), (oa wx cI 2 q_18), (oa wz cI 2 q_19), _, _, _, _, _, _, _, _, _, _, _, _, _, _, _, _, _]) hP hD hk1 hFc hP1 hD1 zl_28 zl_29 zl_30 zl_28 (by decide +kernel) rfl rfl rfl rfl rfl
                        clear hk1 hPc hDc hFc hP1 hD1 ht
                        refine zz_i (v := pI (asb n X Y rg nd P Q rd (nN (mn g5)) (cF40 cx g5) (cF40 cy g5) (rgK (kd g5).toInt) ∧ (¬ ∃ i, i < edg n rg ∧ ∃ k, k < nN (mn g5) ∧ swR n X Y P Q (cF40 cx g5 k).toInt (cF40 cy g5 k).toInt i))) (by rw [← hrk2]; exact zp_iff (and_congr (asb_cg h1m2 hrr2.2.2.2.2) (not_congr (exists_congr fun i => and_congr_right fun _ => ex_cg (W := fun x y => swR n X Y P Q x y i) hrr2.2.2.2.2)))) ?_
                        refine lv_if_ne (tgt := 187) hx hb dX4_allows_182 rfl (fun c_21 => ?_) (fun c_21 => ?_)
                        · have c_21 : asb n X Y rg nd P Q rd (nN (mn g5)) (cF40 cx g5) (cF40 cy g5) (rgK (kd g5).toInt) ∧ (¬ ∃ i, i < edg n rg ∧ ∃ k, k < nN (mn g5) ∧ swR n X Y P Q (cF40 cx g5 k).toInt (cF40 cy g5 k).toInt i) := zp_1 c_21
                          obtain ⟨hP, hD⟩ := pl_bk (X := [_, _, _, _, _, _, _, _, _, _, _, _, _, _, _, _, _, _, _]) hT_1 hP rfl hc9_1 hD0_1 rfl
                          refine lv_iinc (v := nI (g5 + 1)) (lv' := [(7, .int (nI (g5 + 1))), (8, .ref r2), (6, .int kd9), (5, .int (nI (nd - 1))), (4, .ref r), (0, .ref lw), (1, .ref sh), (2, .ref fe), (3, .int (-1))]) hx hb dX4_allows_187 hl (k := 1) rfl (nI_add g5 1) (Nat.le_of_ble_eq_true rfl) rfl (fun ls hl => ?_)
                          refine lv_goto (tgt := 115) hx hb dX4_allows_190 rfl ?_
                          exact ih_115 (g5 + 1) q_13 q_14 q_15 q_16 q_17 q_18 q_19 q_20 (iI (mnI (U2 0).toInt U2 (nN (mn g5)))) (iI (mnI (V2 0).toInt V2 (nN (mn g5)))) (iI (mxI (U2 0).toInt U2 (nN (mn g5)))) (iI (mxI (V2 0).toInt V2 (nN (mn g5)))) H locs ls (by first | with_reducible assumption | omega) (by first | with_reducible assumption | omega) (by intro q hq; rcases Nat.lt_or_ge q g5 with h | h; exact hall q h; rw [show q = g5 by omega]; intro h1 h2; first | exact absurd hif h1 | exact absurd h2.2.1 hs2 | exact absurd h2.2.2 ht2 | exact Or.inl (by first | with_reducible assumption | assumption) | exact Or.inr (by first | with_reducible assumption | assumption)) hP hD hS (lv_sub hl [0, 2, 3, 4, 5, 6, 7, 8] rfl)
                        · have c_21 : ¬ (asb n X Y rg nd P Q rd (nN (mn g5)) (cF40 cx g5) (cF40 cy g5) (rgK (kd g5).toInt) ∧ (¬ ∃ i, i < edg n rg ∧ ∃ k, k < nN (mn g5) ∧ swR n X Y P Q (cF40 cx g5 k).toInt (cF40 cy g5 k).toInt i)) := zp_0 c_21
                          obtain ⟨hP, hD⟩ := pl_bk (X := [_, _, _, _, _, _, _, _, _, _, _, _, _, _, _, _, _, _, _]) hT_1 hP rfl hc9_1 hD0_1 rfl
                          refine lv_iconst (v := 0) hx hb dX4_allows_185 rfl ?_
                          obtain ⟨hP9, hD9⟩ := zu_part (cx := [_, _, _, _, _, _, _, _, _, _, _, _, _, _, _, _, _, _, _]) hP hD [true, true, true, true, true, true, true, true, true, true, true, true, true, true, true, true, true, true, true] rfl rfl
                          rw [hQ9]
                          exact W.zret (ty := .boolean) (v := 0) hx hb hr (rfl) (fun t ht hW => ⟨⟨congrArg (fun z => Outcome.returned (some (Value.int z))) (show (0 : Int32) = pI (pls nd P Q ∧ ((∀ i, i < edg nd rd → eFr nd P Q rd i (i + 1)) ∧ (¬ kd9.toInt = 6 ∨ ∀ k, k < nd → eRt nd P Q k)) ∧ ∀ q, q < ft → (q ≠ f0 → lvF ft st tn q → (apB (mnI (mnI (X 0).toInt X n) P nd) (mnI (mnI (Y 0).toInt Y n) Q nd) (mxI (mxI (X 0).toInt X n) P nd) (mxI (mxI (Y 0).toInt Y n) Q nd) (nN (mn q)) (cF40 cx q) (cF40 cy q) ∨ (asb n X Y rg nd P Q rd (nN (mn q)) (cF40 cx q) (cF40 cy q) (rgK (kd q).toInt) ∧ (¬ ∃ i, i < edg n rg ∧ ∃ k, k < nN (mn q) ∧ swR n X Y P Q (cF40 cx q k).toInt (cF40 cy q k).toInt i))))) from (zp_f (fun h => by have h9 := h.2.2 g5 (by omega) hif hlv2; first | exact absurd h9 (fun h8 => h8.elim (fun h7 => absurd h7 (by first | with_reducible assumption | assumption)) (fun h7 => absurd h7 (by first | with_reducible assumption | assumption))))).symm), q_13, q_14, q_15, q_16, q_17, q_18, q_19, q_20, (iI (mnI (mnI (X 0).toInt X n) P nd)), (iI (mnI (mnI (Y 0).toInt Y n) Q nd)), (iI (mxI (mxI (X 0).toInt X n) P nd)), (iI (mxI (mxI (Y 0).toInt Y n) Q nd)), (iI (mnI (U2 0).toInt U2 (nN (mn g5)))), (iI (mnI (V2 0).toInt V2 (nN (mn g5)))), (iI (mxI (U2 0).toInt U2 (nN (mn g5)))), (iI (mxI (V2 0).toInt V2 (nN (mn g5)))), by rw [ht]; exact hP9, hD9⟩, hS.F ht⟩) hS.2.2 dX4_allows_186
                    · have c_11 : fe2 = fe := c_11
                      exfalso; exact absurd (by first | with_reducible assumption | assumption) (pl_sep (q := (oc1 fe rk9 wd9 tw9 pa9 pb9 (.ref lo) (.ref lk) fm9)) hD0_1 (by simp) hfe2.1)
            exact hl_115 _ 0 nt TX TY rt nw WX WY rw b5 b6 b7 b8 H locs ls (Nat.lt_succ_self _) (by first | with_reducible assumption | omega) (by intro q hq; omega) hP hD hS (lv_sub hl [0, 1, 2, 3, 4, 5, 6, 7] rfl)
          · have c_6 : ¬ ((∀ i, i < edg nd rd → eFr nd P Q rd i (i + 1)) ∧ (¬ kd9.toInt = 6 ∨ ∀ k, k < nd → eRt nd P Q k)) := zp_0 c_6
            refine lv_iconst (v := 0) hx hb dX4_allows_103 rfl ?_
            obtain ⟨hP9, hD9⟩ := zu_part (cx := [_, _, _, _, _, _, _, _, _, _, _, _, _, _, _, _, _, _, _]) hP hD [true, true, true, true, true, true, true, true, true, true, true, true, true, true, true, true, true, true, true] rfl rfl
            rw [hQ9]
            exact W.zret (ty := .boolean) (v := 0) hx hb hr (rfl) (fun t ht hW => ⟨⟨congrArg (fun z => Outcome.returned (some (Value.int z))) (show (0 : Int32) = pI (pls nd P Q ∧ ((∀ i, i < edg nd rd → eFr nd P Q rd i (i + 1)) ∧ (¬ kd9.toInt = 6 ∨ ∀ k, k < nd → eRt nd P Q k)) ∧ ∀ q, q < ft → (q ≠ f0 → lvF ft st tn q → (apB (mnI (mnI (X 0).toInt X n) P nd) (mnI (mnI (Y 0).toInt Y n) Q nd) (mxI (mxI (X 0).toInt X n) P nd) (mxI (mxI (Y 0).toInt Y n) Q nd) (nN (mn q)) (cF40 cx q) (cF40 cy q) ∨ (asb n X Y rg nd P Q rd (nN (mn q)) (cF40 cx q) (cF40 cy q) (rgK (kd q).toInt) ∧ (¬ ∃ i, i < edg n rg ∧ ∃ k, k < nN (mn q) ∧ swR n X Y P Q (cF40 cx q k).toInt (cF40 cy q k).toInt i))))) from (zp_f (fun h => absurd h.2.1 (by first | with_reducible assumption | assumption))).symm), nt, TX, TY, rt, nw, WX, WY, rw, b1, b2, b3, b4, b5, b6, b7, b8, by rw [ht]; exact hP9, hD9⟩, hS.F ht⟩) hS.2.2 dX4_allows_104
        · exact absurd (by decide) c_5
      · exact absurd c_4 (by decide)
  · have c_1 : ¬ (pls nd P Q) := zp_0 c_1
    refine lv_iconst (v := 0) hx hb dX4_allows_24 rfl ?_
    obtain ⟨hP9, hD9⟩ := zu_part (cx := [_, _, _, _, _, _, _, _, _, _, _, _, _, _, _, _, _, _, _]) hP hD [true, true, true, true, true, true, true, true, true, true, true, true, true, true, true, true, true, true, true] rfl rfl
    rw [hQ9]
    exact W.zret (ty := .boolean) (v := 0) hx hb hr (rfl) (fun t ht hW => ⟨⟨congrArg (fun z => Outcome.returned (some (Value.int z))) (show (0 : Int32) = pI (pls nd P Q ∧ ((∀ i, i < edg nd rd → eFr nd P Q rd i (i + 1)) ∧ (¬ kd9.toInt = 6 ∨ ∀ k, k < nd → eRt nd P Q k)) ∧ ∀ q, q < ft → (q ≠ f0 → lvF ft st tn q → (apB (mnI (mnI (X 0).toInt X n) P nd) (mnI (mnI (Y 0).toInt Y n) Q nd) (mxI (mxI (X 0).toInt X n) P nd) (mxI (mxI (Y 0).toInt Y n) Q nd) (nN (mn q)) (cF40 cx q) (cF40 cy q) ∨ (asb n X Y rg nd P Q rd (nN (mn q)) (cF40 cx q) (cF40 cy q) (rgK (kd q).toInt) ∧ (¬ ∃ i, i < edg n rg ∧ ∃ k, k < nN (mn q) ∧ swR n X Y P Q (cF40 cx q k).toInt (cF40 cy q k).toInt i))))) from (zp_f (fun h => absurd h.1 (by first | with_reducible assumption | assumption))).symm), nt, TX, TY, rt, nw, WX, WY, rw, b1, b2, b3, b4, b5, b6, b7, b8, by rw [ht]; exact hP9, hD9⟩, hS.F ht⟩) hS.2.2 dX4_allows_25
end
section
set_option maxHeartbeats 4000000 in
set_option maxRecDepth 100000 in
theorem k_Law_allows_w (l : Launch) (dC : Nat → ClassId) (dI : Nat → Nat → Nat) (cI cZ cF : ClassId) (sz : Nat) (lw : Nat) (dr : Nat) (tg : Nat) (wy : Nat) (br : Nat) (bo : Nat) (aa : Nat) (tx : Nat) (ty : Nat) (nt : Nat) (TX : Nat → Int32) (TY : Nat → Int32) (rt : Int32) (wx : Nat) (wz : Nat) (nw : Nat) (WX : Nat → Int32) (WY : Nat → Int32) (rw : Int32) (dx : Nat) (dy : Nat) (nd : Nat) (cd : Nat) (P : Nat → Int32) (Q : Nat → Int32) (rd : Int32) (b1 : Int32) (b2 : Int32) (b3 : Int32) (b4 : Int32) (b5 : Int32) (b6 : Int32) (b7 : Int32) (b8 : Int32) (sh : Nat) (fa : Nat) (ft : Nat) (FA : Nat → Option Nat) (fe : Nat) (lo : Nat) (rk9 : Int32) (wd9 : Int32) (tw9 : Int32) (pa9 : Int32) (pb9 : Int32) (lk : Nat) (kd9 : Int32) (st9 : Int32) (gb9 : Int32) (jt9 : Int32) (we9 : Int32) (r : Nat) (rx : Nat) (ry : Nat) (n : Nat) (cap : Nat) (X : Nat → Int32) (Y : Nat → Int32) (rg : Int32) (f0 : Nat) (fm9 : Value) (L : List Nat) (f : Nat → va_E) (kd : Nat → Int32) (st : Nat → Int32) (tn : Nat → Int32) (mn : Nat → Int32) (cx : Nat → Int32) (cy : Nat → Int32) (h200 : ft ≤ 200) (hf0 : f0 < ft) (hFA : FA f0 = some fe) (hs1 : st9.toInt = 1) (hvw : ∀ q, q < ft → q ≠ f0 → vwO cI L f FA kd st tn mn cx cy q) (hwf : ∀ q, lvF ft st tn q → wfM mn cx cy q) (hkn : okN ft st tn kd mn) (hnd : nd ≤ cd) (hcd : cd ≤ 1000) (hn : n ≤ cap) (hcap : cap ≤ 1000) (hp : pls n X Y) (h1n : 1 ≤ n) (h1d : 1 ≤ nd) (hn1 : n = 1) : zM l yX4_allows cX4_allows 9 (some .boolean) ({ frames := 4, cells := 0, slots := 0, locals := 95 } : Room) [.ref lw, .ref sh, .ref fe, .int (-1)] (dC, dI) (zTy cI cZ cF) ([(oc3 lw (.ref dr) (.ref tg) (.ref wy) (.ref br) (.ref bo) (.ref aa)), (oc6 tg (.ref tx) (.ref ty) (nI nt) rt), (oa tx cI 3 TX), (oa ty cI 3 TY), (oc6 wy (.ref wx) (.ref wz) (nI nw) rw), (oa wx cI 2 WX), (oa wz cI 2 WY), (oc6 dr (.ref dx) (.ref dy) (nI nd) rd), (oa dx cI cd P), (oa dy cI cd Q), (oc0 br b1 b2 b3 b4), (oc0 bo b5 b6 b7 b8), (oc7 sh (.ref fa) (nI ft)), (oq fa cF 200 FA), (oc1 fe rk9 wd9 tw9 pa9 pb9 (.ref lo) (.ref lk) fm9), (oc4 lk kd9 st9 (.ref r) gb9 jt9 we9), (oc6 r (.ref rx) (.ref ry) (nI n) rg), (oa rx cI cap X), (oa ry cI cap Y)] ++ va_pl L f) sz (some (.int (pI (pls nd P Q ∧ ((∀ i, i < edg nd rd → eFr nd P Q rd i (i + 1)) ∧ (¬ kd9.toInt = 6 ∨ ∀ k, k < nd → eRt nd P Q k)) ∧ ∀ q, q < ft → (q ≠ f0 → lvF ft st tn q → (apB (mnI (mnI (X 0).toInt X n) P nd) (mnI (mnI (Y 0).toInt Y n) Q nd) (mxI (mxI (X 0).toInt X n) P nd) (mxI (mxI (Y 0).toInt Y n) Q nd) (nN (mn q)) (cF40 cx q) (cF40 cy q) ∨ (asb n X Y rg nd P Q rd (nN (mn q)) (cF40 cx q) (cF40 cy q) (rgK (kd q).toInt) ∧ (∀ k, k < prt (nN (mn q)) (rgK (kd q).toInt) → wyF2 (X 0).toInt (Y 0).toInt (P 0).toInt (Q 0).toInt (nN (mn q)) (cF40 cx q) (cF40 cy q) k)))))))) (fun A t => ∃ (nt1 : Nat), ∃ (TX1 : Nat → Int32), ∃ (TY1 : Nat → Int32), ∃ (rt1 : Int32), ∃ (nw1 : Nat), ∃ (WX1 : Nat → Int32), ∃ (WY1 : Nat → Int32), ∃ (rw1 : Int32), ∃ (d5 : Int32), ∃ (d6 : Int32), ∃ (d7 : Int32), ∃ (d8 : Int32), ∃ (e5 : Int32), ∃ (e6 : Int32), ∃ (e7 : Int32), ∃ (e8 : Int32), zPD (dC, dI) classes A ([(oc3 lw (.ref dr) (.ref tg) (.ref wy) (.ref br) (.ref bo) (.ref aa)), (oc6 tg (.ref tx) (.ref ty) (nI nt1) rt1), (oa tx cI 3 TX1), (oa ty cI 3 TY1), (oc6 wy (.ref wx) (.ref wz) (nI nw1) rw1), (oa wx cI 2 WX1), (oa wz cI 2 WY1), (oc6 dr (.ref dx) (.ref dy) (nI nd) rd), (oa dx cI cd P), (oa dy cI cd Q), (oc0 br d5 d6 d7 d8), (oc0 bo e5 e6 e7 e8), (oc7 sh (.ref fa) (nI ft)), (oq fa cF 200 FA), (oc1 fe rk9 wd9 tw9 pa9 pb9 (.ref lo) (.ref lk) fm9), (oc4 lk kd9 st9 (.ref r) gb9 jt9 we9), (oc6 r (.ref rx) (.ref ry) (nI n) rg), (oa rx cI cap X), (oa ry cI cap Y)] ++ va_pl L f) t.heap) 0 0 := by
  refine zIn (own := "ScaleShop$Law") (loc := [(0, .ref lw), (1, .ref sh), (2, .ref fe), (3, .int (-1))]) rfl rfl rfl rfl (fun p e s m below meth c hx hb hr hts hown hlocks hml hnm9 A hA hS hP hD hK hXN Q9 hQ9 ls hl => ?_)
  refine lv_aload_n hx hb dX4_allows_0 rfl (lv_at hl 2 rfl) ?_
  refine va_get (D := (dC, dI)) (ci := 1) (v := .ref lk) (C := RX2) (T := TX2) (N := 8) hx hb hts inX2 hown hK hP 14 rfl rfl 6 (Nat.le_of_ble_eq_true rfl) (hts _ mw_430) (fun _ h9 => h9) rfl dX4_allows_1 ?_
  refine va_get (D := (dC, dI)) (ci := 4) (v := .ref r) (C := RX5) (T := TX5) (N := 6) hx hb hts inX5 hown hK hP 15 rfl rfl 2 (Nat.le_of_ble_eq_true rfl) (hts _ mw_389) (fun _ h9 => h9) rfl dX4_allows_4 ?_
  refine lv_astore (lv' := [(4, .ref r), (0, .ref lw), (1, .ref sh), (2, .ref fe), (3, .int (-1))]) hx hb dX4_allows_7 hl (Nat.le_of_ble_eq_true rfl) rfl (fun ls hl => ?_)
  refine lv_aload hx hb dX4_allows_9 (lv_at hl 0 rfl) ?_
  refine lv_ifnull hx hb dX4_allows_11 ?_
  refine lv_aload_n hx hb dX4_allows_14 rfl (lv_at hl 1 rfl) ?_
  refine va_get (D := (dC, dI)) (ci := 3) (v := .ref dr) (C := RX4) (T := TX4) (N := 6) hx hb hts inX4 hown hK hP 0 rfl rfl 0 (Nat.le_of_ble_eq_true rfl) (hts _ mw_219) (fun _ h9 => h9) rfl dX4_allows_15 ?_
  obtain ⟨hPc, hDc, hFc, hI1⟩ := zi_sub (wc := [_, _, _]) hP hD hS hA [7, 8, 9] rfl rfl
  refine zcall (st1 := [.int (pI (pls nd P Q))]) (va_runV (As := []) (rest := []) ⟨hx, hb, hml, hown, hts⟩ (k_Row_arePlaces l dC dI cI cZ cF s.heap.size dr dx dy nd cd P Q rd (by first | with_reducible assumption | omega) (by first | with_reducible assumption | omega)) (csV_65 hts rfl rfl ⟨Nat.le_of_ble_eq_true rfl, Nat.le_of_ble_eq_true rfl⟩) (zPV2 (q0 := 0) (ci := 6) hPc hDc hK hXN rfl rfl) rfl rfl hl.1 rfl (lv_room (Nat.le_of_ble_eq_true rfl)) dX4_allows_18 ⟨Nat.le_of_ble_eq_true rfl, Nat.le_of_ble_eq_true rfl⟩) hS hFc hFc rfl (fun t H locs ht hB hk1 hS => ?_)
  obtain ⟨hP1, hD1⟩ := hB
  rw [ht] at hP1
  replace hP := z0 hP hD hk1 hP1 hI1
  clear hk1 hPc hDc hFc hP1 hD1 ht hI1
  refine lv_if_ne (tgt := 26) hx hb dX4_allows_21 rfl (fun c_1 => ?_) (fun c_1 => ?_)
  · have c_1 : pls nd P Q := zp_1 c_1
    refine lv_aload_n hx hb dX4_allows_26 rfl (lv_at hl 1 rfl) ?_
    refine va_get (D := (dC, dI)) (ci := 3) (v := .ref dr) (C := RX4) (T := TX4) (N := 6) hx hb hts inX4 hown hK hP 0 rfl rfl 0 (Nat.le_of_ble_eq_true rfl) (hts _ mw_219) (fun _ h9 => h9) rfl dX4_allows_27 ?_
    refine lv_iload_n hx hb dX4_allows_30 rfl (lv_at hl 4 rfl) ?_
    refine lv_aload_n hx hb dX4_allows_31 rfl (lv_at hl 1 rfl) ?_
    refine va_get (D := (dC, dI)) (ci := 3) (v := .ref dr) (C := RX4) (T := TX4) (N := 6) hx hb hts inX4 hown hK hP 0 rfl rfl 0 (Nat.le_of_ble_eq_true rfl) (hts _ mw_219) (fun _ h9 => h9) rfl dX4_allows_32 ?_
    refine va_get (D := (dC, dI)) (ci := 6) (v := .int (nI nd)) (C := RX7) (T := TX7) (N := 4) hx hb hts inX7 hown hK hP 7 rfl rfl 2 (Nat.le_of_ble_eq_true rfl) (hts _ mw_176) (fun _ h9 => h9) rfl dX4_allows_35 ?_
    have b9_3 : zlt (nd) := show nd < 2147483648 by omega
    refine lv_icmp_ge (tgt := 45) hx hb dX4_allows_38 rfl (fun c_2 => ?_) (fun c_2 => ?_)
    · have c_2 : ((nd : Nat) : Int) ≤ (-1) := zc_le (nI_toInt b9_3) rfl c_2
      exfalso; omega
    · have c_2 : (-1) < ((nd : Nat) : Int) := zc_nle (nI_toInt b9_3) rfl c_2
      refine lv_iload_n hx hb dX4_allows_41 rfl (lv_at hl 4 rfl) ?_
      refine lv_goto (tgt := 46) hx hb dX4_allows_42 rfl ?_
      obtain ⟨hPc, hDc, hFc, hI1⟩ := zi_sub (wc := [_, _, _]) hP hD hS hA [7, 8, 9] rfl rfl
      refine zcall (st1 := [.int (nI (nd - 1))]) (va_runV (As := [.int (-1)]) (rest := []) ⟨hx, hb, hml, hown, hts⟩ (k_Row_previous_1 l dC dI cI cZ cF H.size dr dx dy nd cd P Q rd (by first | with_reducible assumption | omega) (by first | with_reducible assumption | omega) (by first | with_reducible assumption | omega)) (csV_48 hts rfl rfl ⟨Nat.le_of_ble_eq_true rfl, Nat.le_of_ble_eq_true rfl⟩) (zPV2 (q0 := 0) (ci := 6) hPc hDc hK hXN rfl rfl) rfl rfl hl.1 rfl (lv_room (Nat.le_of_ble_eq_true rfl)) dX4_allows_46 ⟨Nat.le_of_ble_eq_true rfl, Nat.le_of_ble_eq_true rfl⟩) hS hFc hFc rfl (fun t H locs ht hB hk1 hS => ?_)
      obtain ⟨hP1, hD1⟩ := hB
      rw [ht] at hP1
      replace hP := z0 hP hD hk1 hP1 hI1
      clear hk1 hPc hDc hFc hP1 hD1 ht hI1
      refine lv_istore (lv' := [(5, .int (nI (nd - 1))), (4, .ref r), (0, .ref lw), (1, .ref sh), (2, .ref fe), (3, .int (-1))]) hx hb dX4_allows_49 hl (Nat.le_of_ble_eq_true rfl) rfl (fun ls hl => ?_)
      refine lv_iload_n hx hb dX4_allows_51 rfl (lv_at hl 5 rfl) ?_
      refine lv_bipush (v := (-2)) hx hb dX4_allows_52 rfl ?_
      refine lv_icmp_ne (tgt := 62) hx hb dX4_allows_54 rfl (fun c_4 => ?_) (fun c_4 => ?_)
      · refine lv_aload_n hx hb dX4_allows_62 rfl (lv_at hl 4 rfl) ?_
        refine va_get (D := (dC, dI)) (ci := 1) (v := .ref lk) (C := RX2) (T := TX2) (N := 8) hx hb hts inX2 hown hK hP 14 rfl rfl 6 (Nat.le_of_ble_eq_true rfl) (hts _ mw_430) (fun _ h9 => h9) rfl dX4_allows_63 ?_
        refine va_get (D := (dC, dI)) (ci := 4) (v := .int kd9) (C := RX5) (T := TX5) (N := 6) hx hb hts inX5 hown hK hP 15 rfl rfl 0 (Nat.le_of_ble_eq_true rfl) (hts _ mw_382) (fun _ h9 => h9) rfl dX4_allows_66 ?_
        refine lv_istore (lv' := [(6, .int kd9), (5, .int (nI (nd - 1))), (4, .ref r), (0, .ref lw), (1, .ref sh), (2, .ref fe), (3, .int (-1))]) hx hb dX4_allows_69 hl (Nat.le_of_ble_eq_true rfl) rfl (fun ls hl => ?_)
        refine lv_iload_n hx hb dX4_allows_71 rfl (lv_at hl 6 rfl) ?_
        refine lv_if_lt (tgt := 91) hx hb dX4_allows_72 rfl (fun c_5 => ?_) (fun c_5 => ?_)
        · refine lv_aload_n hx hb dX4_allows_91 rfl (lv_at hl 3 rfl) ?_
          refine va_get (D := (dC, dI)) (ci := 3) (v := .ref dr) (C := RX4) (T := TX4) (N := 6) hx hb hts inX4 hown hK hP 0 rfl rfl 0 (Nat.le_of_ble_eq_true rfl) (hts _ mw_219) (fun _ h9 => h9) rfl dX4_allows_92 ?_
          refine lv_iload hx hb dX4_allows_95 (lv_at hl 0 rfl) ?_
          obtain ⟨hPc, hDc, hFc, hI1⟩ := zi_sub (wc := [_, _, _]) hP hD hS hA [7, 8, 9] rfl rfl
          refine zcall (st1 := [.int (pI ((∀ i, i < edg nd rd → eFr nd P Q rd i (i + 1)) ∧ (¬ kd9.toInt = 6 ∨ ∀ k, k < nd → eRt nd P Q k)))]) (va_runV (As := [.int kd9]) (rest := []) ⟨hx, hb, hml, hown, hts⟩ (k_Row_isSound l dC dI cI cZ cF H.size dr dx dy nd cd P Q rd kd9 (by first | with_reducible assumption | omega) (by first | with_reducible assumption | omega) (by first | with_reducible assumption | assumption)) (csV_70 hts rfl rfl ⟨Nat.le_of_ble_eq_true rfl, Nat.le_of_ble_eq_true rfl⟩) (zPV2 (q0 := 0) (ci := 6) hPc hDc hK hXN rfl rfl) rfl rfl hl.1 rfl (lv_room (Nat.le_of_ble_eq_true rfl)) dX4_allows_97 ⟨Nat.le_of_ble_eq_true rfl, Nat.le_of_ble_eq_true rfl⟩) hS hFc hFc rfl (fun t H locs ht hB hk1 hS => ?_)
          obtain ⟨hP1, hD1⟩ := hB
          rw [ht] at hP1
          replace hP := z0 hP hD hk1 hP1 hI1
          clear hk1 hPc hDc hFc hP1 hD1 ht hI1
          refine lv_if_ne (tgt := 105) hx hb dX4_allows_100 rfl (fun c_6 => ?_) (fun c_6 => ?_)
          · have c_6 : (∀ i, i < edg nd rd → eFr nd P Q rd i (i + 1)) ∧ (¬ kd9.toInt = 6 ∨ ∀ k, k < nd → eRt nd P Q k) := zp_1 c_6
            refine lv_aload_n hx hb dX4_allows_105 rfl (lv_at hl 3 rfl) ?_
            refine lv_aload hx hb dX4_allows_106 (lv_at hl 2 rfl) ?_
            refine lv_iload_n hx hb dX4_allows_108 rfl (lv_at hl 6 rfl) ?_
            obtain ⟨hPc, hDc, hFc⟩ := zo_sub (wc := [_, _, _, _, _, _, _, _]) hP hD hS hA [0, 10, 7, 8, 9, 16, 17, 18] (by decide +kernel) rfl
            refine zcall (st1 := []) (va_runV (As := [.ref r, .int (-1)]) (rest := []) ⟨hx, hb, hml, hown, hts⟩ (k_Law_measureReach_1 l dC dI cI cZ cF H.size lw dr tg wy br bo aa b1 b2 b3 b4 dx dy nd cd P Q rd r rx ry n cap X Y rg (by first | with_reducible assumption | omega) (by first | with_reducible assumption | omega) (by first | with_reducible assumption | assumption) (by first | with_reducible assumption | omega) (by first | with_reducible assumption | omega) (by first | with_reducible assumption | assumption) (by first | with_reducible assumption | omega)) (csV_67 hts rfl rfl ⟨Nat.le_of_ble_eq_true rfl, Nat.le_of_ble_eq_true rfl⟩) (zPV2 (q0 := 0) (ci := 3) hPc hDc hK hXN rfl rfl) rfl rfl hl.1 rfl (lv_room (Nat.le_of_ble_eq_true rfl)) dX4_allows_109 ⟨Nat.le_of_ble_eq_true rfl, Nat.le_of_ble_eq_true rfl⟩) hS hFc hFc rfl (fun t H locs ht hB hk1 hS => ?_)
            obtain ⟨hP1, hD1⟩ := hB
            rw [ht] at hP1
            obtain ⟨hP, hD⟩ := znQ (W2 := [_, _, _, _, _, _, _, _, _, _, (oc0 br (iI (mnI (mnI (X 0).toInt X n) P nd)) (iI (mnI (mnI (Y 0).toInt Y n) Q nd)) (iI (mxI (mxI (X 0).toInt X n) P nd)) (iI (mxI (mxI (Y 0).toInt Y n) Q nd))), _, _, _, _, _, _, _, _]) hP hD hk1 hFc hP1 hD1 zl_31 zl_32 zl_33 zl_31 (by decide +kernel) rfl rfl rfl rfl rfl
            clear hk1 hPc hDc hFc hP1 hD1 ht
            have hpd : pls nd P Q := (by first | with_reducible assumption | assumption)
            have hbr : nr (mnI (mnI (X 0).toInt X n) P nd) ∧ nr (mnI (mnI (Y 0).toInt Y n) Q nd) ∧ nr (mxI (mxI (X 0).toInt X n) P nd) ∧ nr (mxI (mxI (Y 0).toInt Y n) Q nd) := ⟨mnB (mnB ((pls_nr hp).1 0 (by omega)) (pls_nr hp).1 n (Nat.le_refl _)) (pls_nr hpd).1 nd (Nat.le_refl _), mnB (mnB ((pls_nr hp).2 0 (by omega)) (pls_nr hp).2 n (Nat.le_refl _)) (pls_nr hpd).2 nd (Nat.le_refl _), mxB (mxB ((pls_nr hp).1 0 (by omega)) (pls_nr hp).1 n (Nat.le_refl _)) (pls_nr hpd).1 nd (Nat.le_refl _), mxB (mxB ((pls_nr hp).2 0 (by omega)) (pls_nr hp).2 n (Nat.le_refl _)) (pls_nr hpd).2 nd (Nat.le_refl _)⟩
            refine lv_iconst (v := 0) hx hb dX4_allows_112 rfl ?_
            refine lv_istore (lv' := [(7, .int 0), (6, .int kd9), (5, .int (nI (nd - 1))), (4, .ref r), (0, .ref lw), (1, .ref sh), (2, .ref fe), (3, .int (-1))]) hx hb dX4_allows_113 hl (Nat.le_of_ble_eq_true rfl) rfl (fun ls hl => ?_)
            have hl_115 : ∀ (n9 : Nat) (g5 : Nat) (nt1 : Nat) (TX1 : Nat → Int32) (TY1 : Nat → Int32) (rt1 : Int32) (nw1 : Nat) (WX1 : Nat → Int32) (WY1 : Nat → Int32) (rw1 : Int32) (b5 : Int32) (b6 : Int32) (b7 : Int32) (b8 : Int32) (H : Heap) (locs : List Loc) (ls : Array Slot), ft - g5 < n9 → (g5 ≤ ft) → (∀ q, q < g5 → (q ≠ f0 → lvF ft st tn q → (apB (mnI (mnI (X 0).toInt X n) P nd) (mnI (mnI (Y 0).toInt Y n) Q nd) (mxI (mxI (X 0).toInt X n) P nd) (mxI (mxI (Y 0).toInt Y n) Q nd) (nN (mn q)) (cF40 cx q) (cF40 cy q) ∨ (asb n X Y rg nd P Q rd (nN (mn q)) (cF40 cx q) (cF40 cy q) (rgK (kd q).toInt) ∧ (∀ k, k < prt (nN (mn q)) (rgK (kd q).toInt) → wyF2 (X 0).toInt (Y 0).toInt (P 0).toInt (Q 0).toInt (nN (mn q)) (cF40 cx q) (cF40 cy q) k))))) → va_P (dC, dI) classes ([(oc3 lw (.ref dr) (.ref tg) (.ref wy) (.ref br) (.ref bo) (.ref aa)), (oc6 tg (.ref tx) (.ref ty) (nI nt1) rt1), (oa tx cI 3 TX1), (oa ty cI 3 TY1), (oc6 wy (.ref wx) (.ref wz) (nI nw1) rw1), (oa wx cI 2 WX1), (oa wz cI 2 WY1), (oc6 dr (.ref dx) (.ref dy) (nI nd) rd), (oa dx cI cd P), (oa dy cI cd Q), (oc0 br (iI (mnI (mnI (X 0).toInt X n) P nd)) (iI (mnI (mnI (Y 0).toInt Y n) Q nd)) (iI (mxI (mxI (X 0).toInt X n) P nd)) (iI (mxI (mxI (Y 0).toInt Y n) Q nd))), (oc0 bo b5 b6 b7 b8), (oc7 sh (.ref fa) (nI ft)), (oq fa cF 200 FA), (oc1 fe rk9 wd9 tw9 pa9 pb9 (.ref lo) (.ref lk) fm9), (oc4 lk kd9 st9 (.ref r) gb9 jt9 we9), (oc6 r (.ref rx) (.ref ry) (nI n) rg), (oa rx cI cap X), (oa ry cI cap Y)] ++ va_pl L f) H → va_D A ([(oc3 lw (.ref dr) (.ref tg) (.ref wy) (.ref br) (.ref bo) (.ref aa)), (oc6 tg (.ref tx) (.ref ty) (nI nt1) rt1), (oa tx cI 3 TX1), (oa ty cI 3 TY1), (oc6 wy (.ref wx) (.ref wz) (nI nw1) rw1), (oa wx cI 2 WX1), (oa wz cI 2 WY1), (oc6 dr (.ref dx) (.ref dy) (nI nd) rd), (oa dx cI cd P), (oa dy cI cd Q), (oc0 br (iI (mnI (mnI (X 0).toInt X n) P nd)) (iI (mnI (mnI (Y 0).toInt Y n) Q nd)) (iI (mxI (mxI (X 0).toInt X n) P nd)) (iI (mxI (mxI (Y 0).toInt Y n) Q nd))), (oc0 bo b5 b6 b7 b8), (oc7 sh (.ref fa) (nI ft)), (oq fa cF 200 FA), (oc1 fe rk9 wd9 tw9 pa9 pb9 (.ref lo) (.ref lk) fm9), (oc4 lk kd9 st9 (.ref r) gb9 jt9 we9), (oc6 r (.ref rx) (.ref ry) (nI n) rg), (oa rx cI cap X), (oa ry cI cap Y)] ++ va_pl L f) → va_S A s.heap H locs → lv_has ls 9 [(7, .int (nI g5)), (6, .int kd9), (5, .int (nI (nd - 1))), (4, .ref r), (0, .ref lw), (1, .ref sh), (2, .ref fe), (3, .int (-1))] → W p l e ({ frames := 4, cells := 0, slots := 0, locals := 95 } : Room) s m ([.ref lw, .ref sh, .ref fe, .int (-1)] : List Value).toArray below meth c H locs 0 0 Q9 (F0 m 115 ls []) := by
              intro n9
              induction n9 with
              | zero => intro g5 nt1 TX1 TY1 rt1 nw1 WX1 WY1 rw1 b5 b6 b7 b8 H locs ls hm; exact absurd hm (Nat.not_lt_zero _)
              | succ n9 ih_115 =>
                intro g5 nt1 TX1 TY1 rt1 nw1 WX1 WY1 rw1 b5 b6 b7 b8 H locs ls hm hi5 hall hP hD hS hl
                refine lv_iload hx hb dX4_allows_115 (lv_at hl 0 rfl) ?_
                refine lv_aload_n hx hb dX4_allows_117 rfl (lv_at hl 5 rfl) ?_
                refine va_get (D := (dC, dI)) (ci := 7) (v := .int (nI ft)) (C := RX8) (T := TX8) (N := 2) hx hb hts inX8 hown hK hP 12 rfl rfl 1 (Nat.le_of_ble_eq_true rfl) (hts _ mw_139) (fun _ h9 => h9) rfl dX4_allows_118 ?_
                have b9_8 : zlt (g5) := show g5 < 2147483648 by omega
                have b9_9 : zlt (ft) := show ft < 2147483648 by omega
                refine lv_icmp_ge (tgt := 193) hx hb dX4_allows_121 rfl (fun c_7 => ?_) (fun c_7 => ?_)
                · have c_7 : ((ft : Nat) : Int) ≤ ((g5 : Nat) : Int) := zc_le (nI_toInt b9_9) (nI_toInt b9_8) c_7
                  refine lv_iconst (v := 1) hx hb dX4_allows_193 rfl ?_
                  obtain ⟨hP9, hD9⟩ := zu_part (cx := [_, _, _, _, _, _, _, _, _, _, _, _, _, _, _, _, _, _, _]) hP hD [true, true, true, true, true, true, true, true, true, true, true, true, true, true, true, true, true, true, true] rfl rfl
                  rw [hQ9]
                  exact W.zret (ty := .boolean) (v := 1) hx hb hr (rfl) (fun t ht hW => ⟨⟨congrArg (fun z => Outcome.returned (some (Value.int z))) (show (1 : Int32) = pI (pls nd P Q ∧ ((∀ i, i < edg nd rd → eFr nd P Q rd i (i + 1)) ∧ (¬ kd9.toInt = 6 ∨ ∀ k, k < nd → eRt nd P Q k)) ∧ ∀ q, q < ft → (q ≠ f0 → lvF ft st tn q → (apB (mnI (mnI (X 0).toInt X n) P nd) (mnI (mnI (Y 0).toInt Y n) Q nd) (mxI (mxI (X 0).toInt X n) P nd) (mxI (mxI (Y 0).toInt Y n) Q nd) (nN (mn q)) (cF40 cx q) (cF40 cy q) ∨ (asb n X Y rg nd P Q rd (nN (mn q)) (cF40 cx q) (cF40 cy q) (rgK (kd q).toInt) ∧ (∀ k, k < prt (nN (mn q)) (rgK (kd q).toInt) → wyF2 (X 0).toInt (Y 0).toInt (P 0).toInt (Q 0).toInt (nN (mn q)) (cF40 cx q) (cF40 cy q) k))))) from (zp_t (⟨by assumption, by assumption, fun q hq => hall q (by omega)⟩)).symm), nt1, TX1, TY1, rt1, nw1, WX1, WY1, rw1, (iI (mnI (mnI (X 0).toInt X n) P nd)), (iI (mnI (mnI (Y 0).toInt Y n) Q nd)), (iI (mxI (mxI (X 0).toInt X n) P nd)), (iI (mxI (mxI (Y 0).toInt Y n) Q nd)), b5, b6, b7, b8, by rw [ht]; exact hP9, hD9⟩, hS.F ht⟩) hS.2.2 dX4_allows_194
                · have c_7 : ((g5 : Nat) : Int) < ((ft : Nat) : Int) := zc_nle (nI_toInt b9_9) (nI_toInt b9_8) c_7
                  rcases vw4 (hvw g5) (show g5 < ft by omega) with hif | ⟨hif, hs2, fe2, lk2, lo2, rk2, wd2, tw2, pa2, pb2, gb2, jt2, we2, fm2, rw2, hFA2, hfe2, hlk2⟩ | ⟨hif, ht2, fe2, lk2, lo2, rk2, wd2, tw2, pa2, pb2, gb2, jt2, we2, fm2, hFA2, hfe2, hlk2⟩ | ⟨hif, hlv2, fe2, lk2, lo2, rk2, wd2, tw2, pa2, pb2, gb2, jt2, we2, fm2, r2, rx2, ry2, cap2, U2, V2, rg2, hFA2, hfe2, hlk2, ⟨hr2, hrx2, hry2, hne2⟩, hrr2⟩
                  · skip
                    have hFi : FA g5 = some fe := (by rw [hif]; exact hFA)
                    refine lv_aload_n hx hb dX4_allows_124 rfl (lv_at hl 5 rfl) ?_
                    refine lv_iload hx hb dX4_allows_125 (lv_at hl 0 rfl) ?_
                    obtain ⟨hPc, hDc, hFc, hI1⟩ := zi_sub (wc := [_, _, _, _]) hP hD hS hA [12, 13, 14, 15] (by decide +kernel) rfl
                    refine zcall (st1 := [.ref r]) (va_runV (As := [.int (nI g5)]) (rest := []) ⟨hx, hb, hml, hown, hts⟩ (k_Sheet_rowThere_yv l dC dI cI cZ cF H.size sh fa ft FA g5 fe lo rk9 wd9 tw9 pa9 pb9 lk kd9 st9 gb9 jt9 we9 r fm9 (by first | with_reducible assumption | omega) (by first | with_reducible assumption | omega) (by first | exact hFi | exact hFA2) (by first | exact hs1 | exact hs2 | exact hlv2.2.1)) (csV_62 hts rfl rfl ⟨Nat.le_of_ble_eq_true rfl, Nat.le_of_ble_eq_true rfl⟩) (zPV2 (q0 := 0) (ci := 7) hPc hDc hK hXN rfl rfl) rfl rfl hl.1 rfl (lv_room (Nat.le_of_ble_eq_true rfl)) dX4_allows_127 ⟨Nat.le_of_ble_eq_true rfl, Nat.le_of_ble_eq_true rfl⟩) hS hFc hFc rfl (fun t H locs ht hB hk1 hS => ?_)
                    obtain ⟨hP1, hD1⟩ := hB
                    rw [ht] at hP1
                    replace hP := z0 hP hD hk1 hP1 hI1
                    clear hk1 hPc hDc hFc hP1 hD1 ht hI1
                    refine lv_astore (lv' := [(8, .ref r), (7, .int (nI g5)), (6, .int kd9), (5, .int (nI (nd - 1))), (4, .ref r), (0, .ref lw), (1, .ref sh), (2, .ref fe), (3, .int (-1))]) hx hb dX4_allows_130 hl (Nat.le_of_ble_eq_true rfl) rfl (fun ls hl => ?_)
                    refine lv_aload hx hb dX4_allows_132 (lv_at hl 0 rfl) ?_
                    refine lv_ifnull hx hb dX4_allows_134 ?_
                    refine lv_aload_n hx hb dX4_allows_137 rfl (lv_at hl 6 rfl) ?_
                    refine lv_iload hx hb dX4_allows_138 (lv_at hl 1 rfl) ?_
                    obtain ⟨hPc, hDc, hFc, hI1⟩ := zi_sub (wc := [_, _]) hP hD hS hA [12, 13] rfl rfl
                    refine zcall (st1 := [.ref fe]) (va_runV (As := [.int (nI g5)]) (rest := []) ⟨hx, hb, hml, hown, hts⟩ (k_Sheet_find l dC dI cI cZ cF H.size sh fa ft FA g5 fe (by first | with_reducible assumption | omega) (by first | with_reducible assumption | omega) (by first | exact hFi | exact hFA2)) (csV_63 hts rfl rfl ⟨Nat.le_of_ble_eq_true rfl, Nat.le_of_ble_eq_true rfl⟩) (zPV2 (q0 := 0) (ci := 7) hPc hDc hK hXN rfl rfl) rfl rfl hl.1 rfl (lv_room (Nat.le_of_ble_eq_true rfl)) dX4_allows_140 ⟨Nat.le_of_ble_eq_true rfl, Nat.le_of_ble_eq_true rfl⟩) hS hFc hFc rfl (fun t H locs ht hB hk1 hS => ?_)
                    obtain ⟨hP1, hD1⟩ := hB
                    rw [ht] at hP1
                    replace hP := z0 hP hD hk1 hP1 hI1
                    clear hk1 hPc hDc hFc hP1 hD1 ht hI1
                    refine lv_aload_n hx hb dX4_allows_143 rfl (lv_at hl 7 rfl) ?_
                    refine z_acmpne (rx := fe) (ry := fe) (tgt := 150) hx hb dX4_allows_144 (by decide) (fun c_10 => ?_) (fun c_10 => ?_)
                    · have c_10 : ¬ fe = fe := c_10
                      exact absurd rfl c_10
                    · have c_10 : fe = fe := c_10
                      refine lv_goto (tgt := 187) hx hb dX4_allows_147 rfl ?_
                      refine lv_iinc (v := nI (g5 + 1)) (lv' := [(7, .int (nI (g5 + 1))), (8, .ref r), (6, .int kd9), (5, .int (nI (nd - 1))), (4, .ref r), (0, .ref lw), (1, .ref sh), (2, .ref fe), (3, .int (-1))]) hx hb dX4_allows_187 hl (k := 1) rfl (nI_add g5 1) (Nat.le_of_ble_eq_true rfl) rfl (fun ls hl => ?_)
                      refine lv_goto (tgt := 115) hx hb dX4_allows_190 rfl ?_
                      exact ih_115 (g5 + 1) nt1 TX1 TY1 rt1 nw1 WX1 WY1 rw1 b5 b6 b7 b8 H locs ls (by first | with_reducible assumption | omega) (by first | with_reducible assumption | omega) (by intro q hq; rcases Nat.lt_or_ge q g5 with h | h; exact hall q h; rw [show q = g5 by omega]; intro h1 h2; first | exact absurd hif h1 | exact absurd h2.2.1 hs2 | exact absurd h2.2.2 ht2 | exact Or.inl (by first | with_reducible assumption | assumption) | exact Or.inr (by first | with_reducible assumption | assumption)) hP hD hS (lv_sub hl [0, 2, 3, 4, 5, 6, 7, 8] rfl)
                  · skip
                    have hc9_1 : inPl L f [(oc1 fe2 rk2 wd2 tw2 pa2 pb2 (.ref lo2) (.ref lk2) fm2), (oc4 lk2 (kd g5) (st g5) rw2 gb2 jt2 we2)] := ⟨hfe2, hlk2, trivial⟩
                    have hD0_1 := hD
                    obtain ⟨T_1, hT_1, hP, hD⟩ := pl_oT hP hD hc9_1 (pwF hfe2.2 hlk2.2)
                    obtain ⟨hP, hD⟩ := zre (W2 := ([_, _, _, _, _, _, _, _, _, _, _, _, _, _, _, _, _, _, _, _, _] ++ va_pl T_1 f)) hP hD rfl
                    refine lv_aload_n hx hb dX4_allows_124 rfl (lv_at hl 5 rfl) ?_
                    refine lv_iload hx hb dX4_allows_125 (lv_at hl 0 rfl) ?_
                    obtain ⟨hPc, hDc, hFc, hI1⟩ := zi_sub (wc := [_, _, _, _]) hP hD hS hA [12, 13, 19, 20] (by decide +kernel) rfl
                    refine zcall (st1 := [.null]) (va_runV (As := [.int (nI g5)]) (rest := []) ⟨hx, hb, hml, hown, hts⟩ (k_Sheet_rowThere_sv l dC dI cI cZ cF H.size sh fa ft FA g5 fe2 lo2 rk2 wd2 tw2 pa2 pb2 lk2 (kd g5) (st g5) gb2 jt2 we2 fm2 rw2 (by first | with_reducible assumption | omega) (by first | with_reducible assumption | omega) (by first | exact hFi | exact hFA2) (by first | exact hs1 | exact hs2 | exact hlv2.2.1)) (csV_62 hts rfl rfl ⟨Nat.le_of_ble_eq_true rfl, Nat.le_of_ble_eq_true rfl⟩) (zPV2 (q0 := 0) (ci := 7) hPc hDc hK hXN rfl rfl) rfl rfl hl.1 rfl (lv_room (Nat.le_of_ble_eq_true rfl)) dX4_allows_127 ⟨Nat.le_of_ble_eq_true rfl, Nat.le_of_ble_eq_true rfl⟩) hS hFc hFc rfl (fun t H locs ht hB hk1 hS => ?_)
                    obtain ⟨hP1, hD1⟩ := hB
                    rw [ht] at hP1
                    replace hP := z0 hP hD hk1 hP1 hI1
                    clear hk1 hPc hDc hFc hP1 hD1 ht hI1
                    refine lv_astoreN (lv' := [(8, .null), (7, .int (nI g5)), (6, .int kd9), (5, .int (nI (nd - 1))), (4, .ref r), (0, .ref lw), (1, .ref sh), (2, .ref fe), (3, .int (-1))]) hx hb dX4_allows_130 hl (Nat.le_of_ble_eq_true rfl) rfl (fun ls hl => ?_)
                    refine lv_aloadN hx hb dX4_allows_132 (lv_at hl 0 rfl) ?_
                    refine lv_ifnullN (tgt := 187) hx hb dX4_allows_134 rfl ?_
                    obtain ⟨hP, hD⟩ := pl_bk (X := [_, _, _, _, _, _, _, _, _, _, _, _, _, _, _, _, _, _, _]) hT_1 hP rfl hc9_1 hD0_1 rfl
                    refine lv_iinc (v := nI (g5 + 1)) (lv' := [(7, .int (nI (g5 + 1))), (8, .null), (6, .int kd9), (5, .int (nI (nd - 1))), (4, .ref r), (0, .ref lw), (1, .ref sh), (2, .ref fe), (3, .int (-1))]) hx hb dX4_allows_187 hl (k := 1) rfl (nI_add g5 1) (Nat.le_of_ble_eq_true rfl) rfl (fun ls hl => ?_)
                    refine lv_goto (tgt := 115) hx hb dX4_allows_190 rfl ?_
                    exact ih_115 (g5 + 1) nt1 TX1 TY1 rt1 nw1 WX1 WY1 rw1 b5 b6 b7 b8 H locs ls (by first | with_reducible assumption | omega) (by first | with_reducible assumption | omega) (by intro q hq; rcases Nat.lt_or_ge q g5 with h | h; exact hall q h; rw [show q = g5 by omega]; intro h1 h2; first | exact absurd hif h1 | exact absurd h2.2.1 hs2 | exact absurd h2.2.2 ht2 | exact Or.inl (by first | with_reducible assumption | assumption) | exact Or.inr (by first | with_reducible assumption | assumption)) hP hD hS (lv_sub hl [0, 2, 3, 4, 5, 6, 7, 8] rfl)
                  · skip
                    have hc9_1 : inPl L f [(oc1 fe2 rk2 wd2 tw2 pa2 pb2 (.ref lo2) (.ref lk2) fm2), (oc4 lk2 (kd g5) (st g5) .null gb2 jt2 we2)] := ⟨hfe2, hlk2, trivial⟩
                    have hD0_1 := hD
                    obtain ⟨T_1, hT_1, hP, hD⟩ := pl_oT hP hD hc9_1 (pwF hfe2.2 hlk2.2)
                    obtain ⟨hP, hD⟩ := zre (W2 := ([_, _, _, _, _, _, _, _, _, _, _, _, _, _, _, _, _, _, _, _, _] ++ va_pl T_1 f)) hP hD rfl
                    refine lv_aload_n hx hb dX4_allows_124 rfl (lv_at hl 5 rfl) ?_
                    refine lv_iload hx hb dX4_allows_125 (lv_at hl 0 rfl) ?_
                    obtain ⟨hPc, hDc, hFc, hI1⟩ := zi_sub (wc := [_, _, _, _]) hP hD hS hA [12, 13, 19, 20] (by decide +kernel) rfl
                    refine zcall (st1 := [.null]) (va_runV (As := [.int (nI g5)]) (rest := []) ⟨hx, hb, hml, hown, hts⟩ (k_Sheet_rowThere_tv l dC dI cI cZ cF H.size sh fa ft FA g5 fe2 lo2 rk2 wd2 tw2 pa2 pb2 lk2 (kd g5) (st g5) gb2 jt2 we2 fm2 (by first | with_reducible assumption | omega) (by first | with_reducible assumption | omega) (by first | exact hFi | exact hFA2)) (csV_62 hts rfl rfl ⟨Nat.le_of_ble_eq_true rfl, Nat.le_of_ble_eq_true rfl⟩) (zPV2 (q0 := 0) (ci := 7) hPc hDc hK hXN rfl rfl) rfl rfl hl.1 rfl (lv_room (Nat.le_of_ble_eq_true rfl)) dX4_allows_127 ⟨Nat.le_of_ble_eq_true rfl, Nat.le_of_ble_eq_true rfl⟩) hS hFc hFc rfl (fun t H locs ht hB hk1 hS => ?_)
                    obtain ⟨hP1, hD1⟩ := hB
                    rw [ht] at hP1
                    replace hP := z0 hP hD hk1 hP1 hI1
                    clear hk1 hPc hDc hFc hP1 hD1 ht hI1
                    refine lv_astoreN (lv' := [(8, .null), (7, .int (nI g5)), (6, .int kd9), (5, .int (nI (nd - 1))), (4, .ref r), (0, .ref lw), (1, .ref sh), (2, .ref fe), (3, .int (-1))]) hx hb dX4_allows_130 hl (Nat.le_of_ble_eq_true rfl) rfl (fun ls hl => ?_)
                    refine lv_aloadN hx hb dX4_allows_132 (lv_at hl 0 rfl) ?_
                    refine lv_ifnullN (tgt := 187) hx hb dX4_allows_134 rfl ?_
                    obtain ⟨hP, hD⟩ := pl_bk (X := [_, _, _, _, _, _, _, _, _, _, _, _, _, _, _, _, _, _, _]) hT_1 hP rfl hc9_1 hD0_1 rfl
                    refine lv_iinc (v := nI (g5 + 1)) (lv' := [(7, .int (nI (g5 + 1))), (8, .null), (6, .int kd9), (5, .int (nI (nd - 1))), (4, .ref r), (0, .ref lw), (1, .ref sh), (2, .ref fe), (3, .int (-1))]) hx hb dX4_allows_187 hl (k := 1) rfl (nI_add g5 1) (Nat.le_of_ble_eq_true rfl) rfl (fun ls hl => ?_)
                    refine lv_goto (tgt := 115) hx hb dX4_allows_190 rfl ?_
                    exact ih_115 (g5 + 1) nt1 TX1 TY1 rt1 nw1 WX1 WY1 rw1 b5 b6 b7 b8 H locs ls (by first | with_reducible assumption | omega) (by first | with_reducible assumption | omega) (by intro q hq; rcases Nat.lt_or_ge q g5 with h | h; exact hall q h; rw [show q = g5 by omega]; intro h1 h2; first | exact absurd hif h1 | exact absurd h2.2.1 hs2 | exact absurd h2.2.2 ht2 | exact Or.inl (by first | with_reducible assumption | assumption) | exact Or.inr (by first | with_reducible assumption | assumption)) hP hD hS (lv_sub hl [0, 2, 3, 4, 5, 6, 7, 8] rfl)
                  · skip
                    have hw2 := hwf g5 hlv2
                    have hn2 := hw2.2.1
                    have hq2 := rw_pls hrr2 hw2
                    have hkn2 := hkn g5 hlv2
                    have hcap2 := hrr2.1
                    have hcap3 := hrr2.2.1
                    have h1m2 : 1 ≤ nN (mn g5) := hw2.2.1.1
                    have hrk2 := rgK_e hrr2.2.2.2.1
                    have hc9_1 : inPl L f [(oc1 fe2 rk2 wd2 tw2 pa2 pb2 (.ref lo2) (.ref lk2) fm2), (oc4 lk2 (kd g5) (st g5) (.ref r2) gb2 jt2 we2), (oc6 r2 (.ref rx2) (.ref ry2) (nI (nN (mn g5))) rg2), (oa rx2 cI cap2 U2), (oa ry2 cI cap2 V2)] := ⟨hfe2, hlk2, hr2, hrx2, hry2, trivial⟩
                    have hD0_1 := hD
                    obtain ⟨T_1, hT_1, hP, hD⟩ := pl_oT hP hD hc9_1 (pwR hfe2.2 hlk2.2 hr2.2 hrx2.2 hry2.2 hne2)
                    obtain ⟨hP, hD⟩ := zre (W2 := ([_, _, _, _, _, _, _, _, _, _, _, _, _, _, _, _, _, _, _, _, _, _, _, _] ++ va_pl T_1 f)) hP hD rfl
                    refine lv_aload_n hx hb dX4_allows_124 rfl (lv_at hl 5 rfl) ?_
                    refine lv_iload hx hb dX4_allows_125 (lv_at hl 0 rfl) ?_
                    obtain ⟨hPc, hDc, hFc, hI1⟩ := zi_sub (wc := [_, _, _, _]) hP hD hS hA [12, 13, 19, 20] (by decide +kernel) rfl
                    refine zcall (st1 := [.ref r2]) (va_runV (As := [.int (nI g5)]) (rest := []) ⟨hx, hb, hml, hown, hts⟩ (k_Sheet_rowThere_yv l dC dI cI cZ cF H.size sh fa ft FA g5 fe2 lo2 rk2 wd2 tw2 pa2 pb2 lk2 (kd g5) (st g5) gb2 jt2 we2 r2 fm2 (by first | with_reducible assumption | omega) (by first | with_reducible assumption | omega) (by first | exact hFi | exact hFA2) (by first | exact hs1 | exact hs2 | exact hlv2.2.1)) (csV_62 hts rfl rfl ⟨Nat.le_of_ble_eq_true rfl, Nat.le_of_ble_eq_true rfl⟩) (zPV2 (q0 := 0) (ci := 7) hPc hDc hK hXN rfl rfl) rfl rfl hl.1 rfl (lv_room (Nat.le_of_ble_eq_true rfl)) dX4_allows_127 ⟨Nat.le_of_ble_eq_true rfl, Nat.le_of_ble_eq_true rfl⟩) hS hFc hFc rfl (fun t H locs ht hB hk1 hS => ?_)
                    obtain ⟨hP1, hD1⟩ := hB
                    rw [ht] at hP1
                    replace hP := z0 hP hD hk1 hP1 hI1
                    clear hk1 hPc hDc hFc hP1 hD1 ht hI1
                    refine lv_astore (lv' := [(8, .ref r2), (7, .int (nI g5)), (6, .int kd9), (5, .int (nI (nd - 1))), (4, .ref r), (0, .ref lw), (1, .ref sh), (2, .ref fe), (3, .int (-1))]) hx hb dX4_allows_130 hl (Nat.le_of_ble_eq_true rfl) rfl (fun ls hl => ?_)
                    refine lv_aload hx hb dX4_allows_132 (lv_at hl 0 rfl) ?_
                    refine lv_ifnull hx hb dX4_allows_134 ?_
                    refine lv_aload_n hx hb dX4_allows_137 rfl (lv_at hl 6 rfl) ?_
                    refine lv_iload hx hb dX4_allows_138 (lv_at hl 1 rfl) ?_
                    obtain ⟨hPc, hDc, hFc, hI1⟩ := zi_sub (wc := [_, _]) hP hD hS hA [12, 13] rfl rfl
                    refine zcall (st1 := [.ref fe2]) (va_runV (As := [.int (nI g5)]) (rest := []) ⟨hx, hb, hml, hown, hts⟩ (k_Sheet_find l dC dI cI cZ cF H.size sh fa ft FA g5 fe2 (by first | with_reducible assumption | omega) (by first | with_reducible assumption | omega) (by first | exact hFi | exact hFA2)) (csV_63 hts rfl rfl ⟨Nat.le_of_ble_eq_true rfl, Nat.le_of_ble_eq_true rfl⟩) (zPV2 (q0 := 0) (ci := 7) hPc hDc hK hXN rfl rfl) rfl rfl hl.1 rfl (lv_room (Nat.le_of_ble_eq_true rfl)) dX4_allows_140 ⟨Nat.le_of_ble_eq_true rfl, Nat.le_of_ble_eq_true rfl⟩) hS hFc hFc rfl (fun t H locs ht hB hk1 hS => ?_)
                    obtain ⟨hP1, hD1⟩ := hB
                    rw [ht] at hP1
                    replace hP := z0 hP hD hk1 hP1 hI1
                    clear hk1 hPc hDc hFc hP1 hD1 ht hI1
                    refine lv_aload_n hx hb dX4_allows_143 rfl (lv_at hl 7 rfl) ?_
                    refine z_acmpne (rx := fe2) (ry := fe) (tgt := 150) hx hb dX4_allows_144 (by decide) (fun c_11 => ?_) (fun c_11 => ?_)
                    · have c_11 : ¬ fe2 = fe := c_11
                      refine lv_aload_n hx hb dX4_allows_150 rfl (lv_at hl 5 rfl) ?_
                      refine va_get (D := (dC, dI)) (ci := 3) (v := .ref bo) (C := RX4) (T := TX4) (N := 6) hx hb hts inX4 hown hK hP 0 rfl rfl 4 (Nat.le_of_ble_eq_true rfl) (hts _ mw_224) (fun _ h9 => h9) rfl dX4_allows_151 ?_
                      refine lv_aload hx hb dX4_allows_154 (lv_at hl 0 rfl) ?_
                      obtain ⟨hPc, hDc, hFc⟩ := zo_sub (wc := [_, _, _, _]) hP hD hS hA [11, 21, 22, 23] (by decide +kernel) rfl
                      refine zcall (st1 := []) (va_runV (As := [.ref r2]) (rest := []) ⟨hx, hb, hml, hown, hts⟩ (k_Box_cover l dC dI cI cZ cF H.size bo b5 b6 b7 b8 r2 rx2 ry2 (nN (mn g5)) cap2 U2 V2 rg2 (by first | with_reducible assumption | omega) (by first | with_reducible assumption | omega) ((pls_nr hq2).1) ((pls_nr hq2).2) (by first | with_reducible assumption | omega)) (csV_52 hts rfl rfl ⟨Nat.le_of_ble_eq_true rfl, Nat.le_of_ble_eq_true rfl⟩) (zPV2 (q0 := 0) (ci := 0) hPc hDc hK hXN rfl rfl) rfl rfl hl.1 rfl (lv_room (Nat.le_of_ble_eq_true rfl)) dX4_allows_156 ⟨Nat.le_of_ble_eq_true rfl, Nat.le_of_ble_eq_true rfl⟩) hS hFc hFc rfl (fun t H locs ht hB hk1 hS => ?_)
                      obtain ⟨hP1, hD1⟩ := hB
                      rw [ht] at hP1
                      obtain ⟨hP, hD⟩ := znQ (W2 := [_, _, _, _, _, _, _, _, _, _, _, (oc0 bo (iI (mnI (U2 0).toInt U2 (nN (mn g5)))) (iI (mnI (V2 0).toInt V2 (nN (mn g5)))) (iI (mxI (U2 0).toInt U2 (nN (mn g5)))) (iI (mxI (V2 0).toInt V2 (nN (mn g5))))), _, _, _, _, _, _, _, _, _, _, _, _]) hP hD hk1 hFc hP1 hD1 [11, 21, 22, 23] zl_26 zl_27 [11, 21, 22, 23] (by decide +kernel) rfl rfl rfl rfl rfl
                      clear hk1 hPc hDc hFc hP1 hD1 ht
                      refine lv_aload_n hx hb dX4_allows_159 rfl (lv_at hl 5 rfl) ?_
                      refine va_get (D := (dC, dI)) (ci := 3) (v := .ref br) (C := RX4) (T := TX4) (N := 6) hx hb hts inX4 hown hK hP 0 rfl rfl 3 (Nat.le_of_ble_eq_true rfl) (hts _ mw_223) (fun _ h9 => h9) rfl dX4_allows_160 ?_
                      refine lv_aload_n hx hb dX4_allows_163 rfl (lv_at hl 5 rfl) ?_
                      refine va_get (D := (dC, dI)) (ci := 3) (v := .ref bo) (C := RX4) (T := TX4) (N := 6) hx hb hts inX4 hown hK hP 0 rfl rfl 4 (Nat.le_of_ble_eq_true rfl) (hts _ mw_224) (fun _ h9 => h9) rfl dX4_allows_164 ?_
                      obtain ⟨hPc, hDc, hFc, hI1⟩ := zi_sub (wc := [_, _]) hP hD hS hA [10, 11] rfl rfl
                      refine zcall (st1 := [.int (pI ((mxI (mxI (X 0).toInt X n) P nd) < (mnI (U2 0).toInt U2 (nN (mn g5))) ∨ (mxI (U2 0).toInt U2 (nN (mn g5))) < (mnI (mnI (X 0).toInt X n) P nd) ∨ (mxI (mxI (Y 0).toInt Y n) Q nd) < (mnI (V2 0).toInt V2 (nN (mn g5))) ∨ (mxI (V2 0).toInt V2 (nN (mn g5))) < (mnI (mnI (Y 0).toInt Y n) Q nd)))]) (va_runV (As := [.ref bo]) (rest := []) ⟨hx, hb, hml, hown, hts⟩ (k_Box_isApart l dC dI cI cZ cF H.size br (mnI (mnI (X 0).toInt X n) P nd) (mnI (mnI (Y 0).toInt Y n) Q nd) (mxI (mxI (X 0).toInt X n) P nd) (mxI (mxI (Y 0).toInt Y n) Q nd) bo (mnI (U2 0).toInt U2 (nN (mn g5))) (mnI (V2 0).toInt V2 (nN (mn g5))) (mxI (U2 0).toInt U2 (nN (mn g5))) (mxI (V2 0).toInt V2 (nN (mn g5))) (hbr) (⟨mnB ((pls_nr hq2).1 0 (by first | with_reducible assumption | omega)) (pls_nr hq2).1 _ (Nat.le_refl _), mnB ((pls_nr hq2).2 0 (by first | with_reducible assumption | omega)) (pls_nr hq2).2 _ (Nat.le_refl _), mxB ((pls_nr hq2).1 0 (by first | with_reducible assumption | omega)) (pls_nr hq2).1 _ (Nat.le_refl _), mxB ((pls_nr hq2).2 0 (by first | with_reducible assumption | omega)) (pls_nr hq2).2 _ (Nat.le_refl _)⟩)) (csV_68 hts rfl rfl ⟨Nat.le_of_ble_eq_true rfl, Nat.le_of_ble_eq_true rfl⟩) (zPV2 (q0 := 0) (ci := 0) hPc hDc hK hXN rfl rfl) rfl rfl hl.1 rfl (lv_room (Nat.le_of_ble_eq_true rfl)) dX4_allows_167 ⟨Nat.le_of_ble_eq_true rfl, Nat.le_of_ble_eq_true rfl⟩) hS hFc hFc rfl (fun t H locs ht hB hk1 hS => ?_)
                      obtain ⟨hP1, hD1⟩ := hB
                      rw [ht] at hP1
                      replace hP := z0 hP hD hk1 hP1 hI1
                      clear hk1 hPc hDc hFc hP1 hD1 ht hI1
                      refine zz_i (v := pI (apB (mnI (mnI (X 0).toInt X n) P nd) (mnI (mnI (Y 0).toInt Y n) Q nd) (mxI (mxI (X 0).toInt X n) P nd) (mxI (mxI (Y 0).toInt Y n) Q nd) (nN (mn g5)) (cF40 cx g5) (cF40 cy g5))) (zp_iff (apB_cg h1m2 hrr2.2.2.2.2)) ?_
                      refine lv_if_ne (tgt := 187) hx hb dX4_allows_170 rfl (fun c_12 => ?_) (fun c_12 => ?_)
                      · have c_12 : apB (mnI (mnI (X 0).toInt X n) P nd) (mnI (mnI (Y 0).toInt Y n) Q nd) (mxI (mxI (X 0).toInt X n) P nd) (mxI (mxI (Y 0).toInt Y n) Q nd) (nN (mn g5)) (cF40 cx g5) (cF40 cy g5) := zp_1 c_12
                        obtain ⟨hP, hD⟩ := pl_bk (X := [_, _, _, _, _, _, _, _, _, _, _, _, _, _, _, _, _, _, _]) hT_1 hP rfl hc9_1 hD0_1 rfl
                        refine lv_iinc (v := nI (g5 + 1)) (lv' := [(7, .int (nI (g5 + 1))), (8, .ref r2), (6, .int kd9), (5, .int (nI (nd - 1))), (4, .ref r), (0, .ref lw), (1, .ref sh), (2, .ref fe), (3, .int (-1))]) hx hb dX4_allows_187 hl (k := 1) rfl (nI_add g5 1) (Nat.le_of_ble_eq_true rfl) rfl (fun ls hl => ?_)
                        refine lv_goto (tgt := 115) hx hb dX4_allows_190 rfl ?_
                        exact ih_115 (g5 + 1) nt1 TX1 TY1 rt1 nw1 WX1 WY1 rw1 (iI (mnI (U2 0).toInt U2 (nN (mn g5)))) (iI (mnI (V2 0).toInt V2 (nN (mn g5)))) (iI (mxI (U2 0).toInt U2 (nN (mn g5)))) (iI (mxI (V2 0).toInt V2 (nN (mn g5)))) H locs ls (by first | with_reducible assumption | omega) (by first | with_reducible assumption | omega) (by intro q hq; rcases Nat.lt_or_ge q g5 with h | h; exact hall q h; rw [show q = g5 by omega]; intro h1 h2; first | exact absurd hif h1 | exact absurd h2.2.1 hs2 | exact absurd h2.2.2 ht2 | exact Or.inl (by first | with_reducible assumption | assumption) | exact Or.inr (by first | with_reducible assumption | assumption)) hP hD hS (lv_sub hl [0, 2, 3, 4, 5, 6, 7, 8] rfl)
                      · have c_12 : ¬ (apB (mnI (mnI (X 0).toInt X n) P nd) (mnI (mnI (Y 0).toInt Y n) Q nd) (mxI (mxI (X 0).toInt X n) P nd) (mxI (mxI (Y 0).toInt Y n) Q nd) (nN (mn g5)) (cF40 cx g5) (cF40 cy g5)) := zp_0 c_12
                        refine lv_aload_n hx hb dX4_allows_173 rfl (lv_at hl 5 rfl) ?_
                        refine lv_aload hx hb dX4_allows_174 (lv_at hl 4 rfl) ?_
                        refine lv_aload hx hb dX4_allows_176 (lv_at hl 0 rfl) ?_
                        refine lv_iload_n hx hb dX4_allows_178 rfl (lv_at hl 8 rfl) ?_
                        obtain ⟨hPc, hDc, hFc⟩ := zo_sub (wc := [_, _, _, _, _, _, _, _, _, _, _, _, _, _, _, _]) hP hD hS hA [0, 1, 2, 3, 4, 5, 6, 7, 8, 9, 16, 17, 18, 21, 22, 23] (by decide +kernel) rfl
                        refine zcall (st1 := [.int (pI (asb n X Y rg nd P Q rd (nN (mn g5)) U2 V2 rg2 ∧ (∀ k, k < prt (nN (mn g5)) rg2 → wyF2 (X 0).toInt (Y 0).toInt (P 0).toInt (Q 0).toInt (nN (mn g5)) U2 V2 k)))]) (va_runV (As := [.ref r, .ref r2, .int (-1)]) (rest := []) ⟨hx, hb, hml, hown, hts⟩ (k_Law_isAsBefore_w l dC dI cI cZ cF H.size lw dr tg wy br bo aa tx ty nt1 TX1 TY1 rt1 wx wz nw1 WX1 WY1 rw1 dx dy nd cd P Q rd r rx ry n cap X Y rg r2 rx2 ry2 (nN (mn g5)) cap2 U2 V2 rg2 (by first | with_reducible assumption | omega) (by first | with_reducible assumption | omega) (by first | with_reducible assumption | assumption) (by first | with_reducible assumption | omega) (by first | with_reducible assumption | omega) (hp) (by first | with_reducible assumption | omega) (by first | with_reducible assumption | omega) (hq2) (by first | with_reducible assumption | omega) (by first | with_reducible assumption | omega) (by first | with_reducible assumption | omega) (by first | with_reducible assumption | omega)) (csV_69 hts rfl rfl ⟨Nat.le_of_ble_eq_true rfl, Nat.le_of_ble_eq_true rfl⟩) (zPV2 (q0 := 0) (ci := 3) hPc hDc hK hXN rfl rfl) rfl rfl hl.1 rfl (lv_room (Nat.le_of_ble_eq_true rfl)) dX4_allows_179 ⟨Nat.le_of_ble_eq_true rfl, Nat.le_of_ble_eq_true rfl⟩) hS hFc hFc rfl (fun t H locs ht hB hk1 hS => ?_)
                        refine ex8 hB (fun q_13 q_14 q_15 q_16 q_17 q_18 q_19 q_20 hB0 => ?_)
                        clear hB
                        obtain ⟨hP1, hD1⟩ := hB0
                        rw [ht] at hP1
                        obtain ⟨hP, hD⟩ := znQ (W2 := [_, (oc6 tg (.ref tx) (.ref ty) (nI q_13) q_16), (oa tx cI 3 q_14), (oa ty cI 3 q_15), (oc6 wy (.ref wx) (.ref wz) (nI q_17) q_20), (oa wx cI 2 q_18), (oa wz cI 2 q_19), _, _, _, _, _, _, _, _, _, _, _, _, _, _, _, _, _]) hP hD hk1 hFc hP1 hD1 zl_28 zl_29 zl_30 zl_28 (by decide +kernel) rfl rfl rfl rfl rfl
                        clear hk1 hPc hDc hFc hP1 hD1 ht
                        refine zz_i (v := pI (asb n X Y rg nd P Q rd (nN (mn g5)) (cF40 cx g5) (cF40 cy g5) (rgK (kd g5).toInt) ∧ (∀ k, k < prt (nN (mn g5)) (rgK (kd g5).toInt) → wyF2 (X 0).toInt (Y 0).toInt (P 0).toInt (Q 0).toInt (nN (mn g5)) (cF40 cx g5) (cF40 cy g5) k))) (by rw [← hrk2]; exact zp_iff (and_congr (asb_cg h1m2 hrr2.2.2.2.2) (wy_cg hrr2.2.2.2.2))) ?_
                        refine lv_if_ne (tgt := 187) hx hb dX4_allows_182 rfl (fun c_21 => ?_) (fun c_21 => ?_)
                        · have c_21 : asb n X Y rg nd P Q rd (nN (mn g5)) (cF40 cx g5) (cF40 cy g5) (rgK (kd g5).toInt) ∧ (∀ k, k < prt (nN (mn g5)) (rgK (kd g5).toInt) → wyF2 (X 0).toInt (Y 0).toInt (P 0).toInt (Q 0).toInt (nN (mn g5)) (cF40 cx g5) (cF40 cy g5) k) := zp_1 c_21
                          obtain ⟨hP, hD⟩ := pl_bk (X := [_, _, _, _, _, _, _, _, _, _, _, _, _, _, _, _, _, _, _]) hT_1 hP rfl hc9_1 hD0_1 rfl
                          refine lv_iinc (v := nI (g5 + 1)) (lv' := [(7, .int (nI (g5 + 1))), (8, .ref r2), (6, .int kd9), (5, .int (nI (nd - 1))), (4, .ref r), (0, .ref lw), (1, .ref sh), (2, .ref fe), (3, .int (-1))]) hx hb dX4_allows_187 hl (k := 1) rfl (nI_add g5 1) (Nat.le_of_ble_eq_true rfl) rfl (fun ls hl => ?_)
                          refine lv_goto (tgt := 115) hx hb dX4_allows_190 rfl ?_
                          exact ih_115 (g5 + 1) q_13 q_14 q_15 q_16 q_17 q_18 q_19 q_20 (iI (mnI (U2 0).toInt U2 (nN (mn g5)))) (iI (mnI (V2 0).toInt V2 (nN (mn g5)))) (iI (mxI (U2 0).toInt U2 (nN (mn g5)))) (iI (mxI (V2 0).toInt V2 (nN (mn g5)))) H locs ls (by first | with_reducible assumption | omega) (by first | with_reducible assumption | omega) (by intro q hq; rcases Nat.lt_or_ge q g5 with h | h; exact hall q h; rw [show q = g5 by omega]; intro h1 h2; first | exact absurd hif h1 | exact absurd h2.2.1 hs2 | exact absurd h2.2.2 ht2 | exact Or.inl (by first | with_reducible assumption | assumption) | exact Or.inr (by first | with_reducible assumption | assumption)) hP hD hS (lv_sub hl [0, 2, 3, 4, 5, 6, 7, 8] rfl)
                        · have c_21 : ¬ (asb n X Y rg nd P Q rd (nN (mn g5)) (cF40 cx g5) (cF40 cy g5) (rgK (kd g5).toInt) ∧ (∀ k, k < prt (nN (mn g5)) (rgK (kd g5).toInt) → wyF2 (X 0).toInt (Y 0).toInt (P 0).toInt (Q 0).toInt (nN (mn g5)) (cF40 cx g5) (cF40 cy g5) k)) := zp_0 c_21
                          obtain ⟨hP, hD⟩ := pl_bk (X := [_, _, _, _, _, _, _, _, _, _, _, _, _, _, _, _, _, _, _]) hT_1 hP rfl hc9_1 hD0_1 rfl
                          refine lv_iconst (v := 0) hx hb dX4_allows_185 rfl ?_
                          obtain ⟨hP9, hD9⟩ := zu_part (cx := [_, _, _, _, _, _, _, _, _, _, _, _, _, _, _, _, _, _, _]) hP hD [true, true, true, true, true, true, true, true, true, true, true, true, true, true, true, true, true, true, true] rfl rfl
                          rw [hQ9]
                          exact W.zret (ty := .boolean) (v := 0) hx hb hr (rfl) (fun t ht hW => ⟨⟨congrArg (fun z => Outcome.returned (some (Value.int z))) (show (0 : Int32) = pI (pls nd P Q ∧ ((∀ i, i < edg nd rd → eFr nd P Q rd i (i + 1)) ∧ (¬ kd9.toInt = 6 ∨ ∀ k, k < nd → eRt nd P Q k)) ∧ ∀ q, q < ft → (q ≠ f0 → lvF ft st tn q → (apB (mnI (mnI (X 0).toInt X n) P nd) (mnI (mnI (Y 0).toInt Y n) Q nd) (mxI (mxI (X 0).toInt X n) P nd) (mxI (mxI (Y 0).toInt Y n) Q nd) (nN (mn q)) (cF40 cx q) (cF40 cy q) ∨ (asb n X Y rg nd P Q rd (nN (mn q)) (cF40 cx q) (cF40 cy q) (rgK (kd q).toInt) ∧ (∀ k, k < prt (nN (mn q)) (rgK (kd q).toInt) → wyF2 (X 0).toInt (Y 0).toInt (P 0).toInt (Q 0).toInt (nN (mn q)) (cF40 cx q) (cF40 cy q) k))))) from (zp_f (fun h => by have h9 := h.2.2 g5 (by omega) hif hlv2; first | exact absurd h9 (fun h8 => h8.elim (fun h7 => absurd h7 (by first | with_reducible assumption | assumption)) (fun h7 => absurd h7 (by first | with_reducible assumption | assumption))))).symm), q_13, q_14, q_15, q_16, q_17, q_18, q_19, q_20, (iI (mnI (mnI (X 0).toInt X n) P nd)), (iI (mnI (mnI (Y 0).toInt Y n) Q nd)), (iI (mxI (mxI (X 0).toInt X n) P nd)), (iI (mxI (mxI (Y 0).toInt Y n) Q nd)), (iI (mnI (U2 0).toInt U2 (nN (mn g5)))), (iI (mnI (V2 0).toInt V2 (nN (mn g5)))), (iI (mxI (U2 0).toInt U2 (nN (mn g5)))), (iI (mxI (V2 0).toInt V2 (nN (mn g5)))), by rw [ht]; exact hP9, hD9⟩, hS.F ht⟩) hS.2.2 dX4_allows_186
                    · have c_11 : fe2 = fe := c_11
                      exfalso; exact absurd (by first | with_reducible assumption | assumption) (pl_sep (q := (oc1 fe rk9 wd9 tw9 pa9 pb9 (.ref lo) (.ref lk) fm9)) hD0_1 (by simp) hfe2.1)
            exact hl_115 _ 0 nt TX TY rt nw WX WY rw b5 b6 b7 b8 H locs ls (Nat.lt_succ_self _) (by first | with_reducible assumption | omega) (by intro q hq; omega) hP hD hS (lv_sub hl [0, 1, 2, 3, 4, 5, 6, 7] rfl)
          · have c_6 : ¬ ((∀ i, i < edg nd rd → eFr nd P Q rd i (i + 1)) ∧ (¬ kd9.toInt = 6 ∨ ∀ k, k < nd → eRt nd P Q k)) := zp_0 c_6
            refine lv_iconst (v := 0) hx hb dX4_allows_103 rfl ?_
            obtain ⟨hP9, hD9⟩ := zu_part (cx := [_, _, _, _, _, _, _, _, _, _, _, _, _, _, _, _, _, _, _]) hP hD [true, true, true, true, true, true, true, true, true, true, true, true, true, true, true, true, true, true, true] rfl rfl
            rw [hQ9]
            exact W.zret (ty := .boolean) (v := 0) hx hb hr (rfl) (fun t ht hW => ⟨⟨congrArg (fun z => Outcome.returned (some (Value.int z))) (show (0 : Int32) = pI (pls nd P Q ∧ ((∀ i, i < edg nd rd → eFr nd P Q rd i (i + 1)) ∧ (¬ kd9.toInt = 6 ∨ ∀ k, k < nd → eRt nd P Q k)) ∧ ∀ q, q < ft → (q ≠ f0 → lvF ft st tn q → (apB (mnI (mnI (X 0).toInt X n) P nd) (mnI (mnI (Y 0).toInt Y n) Q nd) (mxI (mxI (X 0).toInt X n) P nd) (mxI (mxI (Y 0).toInt Y n) Q nd) (nN (mn q)) (cF40 cx q) (cF40 cy q) ∨ (asb n X Y rg nd P Q rd (nN (mn q)) (cF40 cx q) (cF40 cy q) (rgK (kd q).toInt) ∧ (∀ k, k < prt (nN (mn q)) (rgK (kd q).toInt) → wyF2 (X 0).toInt (Y 0).toInt (P 0).toInt (Q 0).toInt (nN (mn q)) (cF40 cx q) (cF40 cy q) k))))) from (zp_f (fun h => absurd h.2.1 (by first | with_reducible assumption | assumption))).symm), nt, TX, TY, rt, nw, WX, WY, rw, b1, b2, b3, b4, b5, b6, b7, b8, by rw [ht]; exact hP9, hD9⟩, hS.F ht⟩) hS.2.2 dX4_allows_104
        · exact absurd (by decide) c_5
      · exact absurd c_4 (by decide)
  · have c_1 : ¬ (pls nd P Q) := zp_0 c_1
    refine lv_iconst (v := 0) hx hb dX4_allows_24 rfl ?_
    obtain ⟨hP9, hD9⟩ := zu_part (cx := [_, _, _, _, _, _, _, _, _, _, _, _, _, _, _, _, _, _, _]) hP hD [true, true, true, true, true, true, true, true, true, true, true, true, true, true, true, true, true, true, true] rfl rfl
    rw [hQ9]
    exact W.zret (ty := .boolean) (v := 0) hx hb hr (rfl) (fun t ht hW => ⟨⟨congrArg (fun z => Outcome.returned (some (Value.int z))) (show (0 : Int32) = pI (pls nd P Q ∧ ((∀ i, i < edg nd rd → eFr nd P Q rd i (i + 1)) ∧ (¬ kd9.toInt = 6 ∨ ∀ k, k < nd → eRt nd P Q k)) ∧ ∀ q, q < ft → (q ≠ f0 → lvF ft st tn q → (apB (mnI (mnI (X 0).toInt X n) P nd) (mnI (mnI (Y 0).toInt Y n) Q nd) (mxI (mxI (X 0).toInt X n) P nd) (mxI (mxI (Y 0).toInt Y n) Q nd) (nN (mn q)) (cF40 cx q) (cF40 cy q) ∨ (asb n X Y rg nd P Q rd (nN (mn q)) (cF40 cx q) (cF40 cy q) (rgK (kd q).toInt) ∧ (∀ k, k < prt (nN (mn q)) (rgK (kd q).toInt) → wyF2 (X 0).toInt (Y 0).toInt (P 0).toInt (Q 0).toInt (nN (mn q)) (cF40 cx q) (cF40 cy q) k))))) from (zp_f (fun h => absurd h.1 (by first | with_reducible assumption | assumption))).symm), nt, TX, TY, rt, nw, WX, WY, rw, b1, b2, b3, b4, b5, b6, b7, b8, by rw [ht]; exact hP9, hD9⟩, hS.F ht⟩) hS.2.2 dX4_allows_25
end
section
set_option maxHeartbeats 4000000 in
set_option maxRecDepth 100000 in
theorem k_Law_allows_b (l : Launch) (dC : Nat → ClassId) (dI : Nat → Nat → Nat) (cI cZ cF : ClassId) (sz : Nat) (lw : Nat) (dr : Nat) (tg : Nat) (wy : Nat) (br : Nat) (bo : Nat) (aa : Nat) (tx : Nat) (ty : Nat) (nt : Nat) (TX : Nat → Int32) (TY : Nat → Int32) (rt : Int32) (wx : Nat) (wz : Nat) (nw : Nat) (WX : Nat → Int32) (WY : Nat → Int32) (rw : Int32) (dx : Nat) (dy : Nat) (nd : Nat) (cd : Nat) (P : Nat → Int32) (Q : Nat → Int32) (rd : Int32) (b1 : Int32) (b2 : Int32) (b3 : Int32) (b4 : Int32) (b5 : Int32) (b6 : Int32) (b7 : Int32) (b8 : Int32) (sh : Nat) (fa : Nat) (ft : Nat) (FA : Nat → Option Nat) (fe : Nat) (lo : Nat) (rk9 : Int32) (wd9 : Int32) (tw9 : Int32) (pa9 : Int32) (pb9 : Int32) (lk : Nat) (kd9 : Int32) (st9 : Int32) (gb9 : Int32) (jt9 : Int32) (we9 : Int32) (r : Nat) (rx : Nat) (ry : Nat) (n : Nat) (cap : Nat) (X : Nat → Int32) (Y : Nat → Int32) (rg : Int32) (f0 : Nat) (fm9 : Value) (L : List Nat) (f : Nat → va_E) (kd : Nat → Int32) (st : Nat → Int32) (tn : Nat → Int32) (mn : Nat → Int32) (cx : Nat → Int32) (cy : Nat → Int32) (h200 : ft ≤ 200) (hf0 : f0 < ft) (hFA : FA f0 = some fe) (hs1 : st9.toInt = 1) (hvw : ∀ q, q < ft → q ≠ f0 → vwO cI L f FA kd st tn mn cx cy q) (hwf : ∀ q, lvF ft st tn q → wfM mn cx cy q) (hkn : okN ft st tn kd mn) (hnd : nd ≤ cd) (hcd : cd ≤ 1000) (hn : n ≤ cap) (hcap : cap ≤ 1000) (hp : pls n X Y) (h1n : 1 ≤ n) (h1d : 1 ≤ nd) (hn1 : ¬ n = 1) : zM l yX4_allows cX4_allows 9 (some .boolean) ({ frames := 4, cells := 0, slots := 0, locals := 88 } : Room) [.ref lw, .ref sh, .ref fe, .int (-2)] (dC, dI) (zTy cI cZ cF) ([(oc3 lw (.ref dr) (.ref tg) (.ref wy) (.ref br) (.ref bo) (.ref aa)), (oc6 tg (.ref tx) (.ref ty) (nI nt) rt), (oa tx cI 3 TX), (oa ty cI 3 TY), (oc6 wy (.ref wx) (.ref wz) (nI nw) rw), (oa wx cI 2 WX), (oa wz cI 2 WY), (oc6 dr (.ref dx) (.ref dy) (nI nd) rd), (oa dx cI cd P), (oa dy cI cd Q), (oc0 br b1 b2 b3 b4), (oc0 bo b5 b6 b7 b8), (oc7 sh (.ref fa) (nI ft)), (oq fa cF 200 FA), (oc1 fe rk9 wd9 tw9 pa9 pb9 (.ref lo) (.ref lk) fm9), (oc4 lk kd9 st9 (.ref r) gb9 jt9 we9), (oc6 r (.ref rx) (.ref ry) (nI n) rg), (oa rx cI cap X), (oa ry cI cap Y)] ++ va_pl L f) sz (some (.int (pI (pls nd P Q ∧ ((∀ i, i < edg nd rd → eFr nd P Q rd i (i + 1)) ∧ (¬ (6 : Int32).toInt = 6 ∨ ∀ k, k < nd → eRt nd P Q k)) ∧ ∀ q, q < ft → (q ≠ f0 → lvF ft st tn q → (apB (mnI (mnI (X 0).toInt X n) P nd) (mnI (mnI (Y 0).toInt Y n) Q nd) (mxI (mxI (X 0).toInt X n) P nd) (mxI (mxI (Y 0).toInt Y n) Q nd) (nN (mn q)) (cF40 cx q) (cF40 cy q) ∨ (asb n X Y rg nd P Q rd (nN (mn q)) (cF40 cx q) (cF40 cy q) (rgK (kd q).toInt)))))))) (fun A t => ∃ (nt1 : Nat), ∃ (TX1 : Nat → Int32), ∃ (TY1 : Nat → Int32), ∃ (rt1 : Int32), ∃ (nw1 : Nat), ∃ (WX1 : Nat → Int32), ∃ (WY1 : Nat → Int32), ∃ (rw1 : Int32), ∃ (d5 : Int32), ∃ (d6 : Int32), ∃ (d7 : Int32), ∃ (d8 : Int32), ∃ (e5 : Int32), ∃ (e6 : Int32), ∃ (e7 : Int32), ∃ (e8 : Int32), zPD (dC, dI) classes A ([(oc3 lw (.ref dr) (.ref tg) (.ref wy) (.ref br) (.ref bo) (.ref aa)), (oc6 tg (.ref tx) (.ref ty) (nI nt1) rt1), (oa tx cI 3 TX1), (oa ty cI 3 TY1), (oc6 wy (.ref wx) (.ref wz) (nI nw1) rw1), (oa wx cI 2 WX1), (oa wz cI 2 WY1), (oc6 dr (.ref dx) (.ref dy) (nI nd) rd), (oa dx cI cd P), (oa dy cI cd Q), (oc0 br d5 d6 d7 d8), (oc0 bo e5 e6 e7 e8), (oc7 sh (.ref fa) (nI ft)), (oq fa cF 200 FA), (oc1 fe rk9 wd9 tw9 pa9 pb9 (.ref lo) (.ref lk) fm9), (oc4 lk kd9 st9 (.ref r) gb9 jt9 we9), (oc6 r (.ref rx) (.ref ry) (nI n) rg), (oa rx cI cap X), (oa ry cI cap Y)] ++ va_pl L f) t.heap) 0 0 := by
  refine zIn (own := "ScaleShop$Law") (loc := [(0, .ref lw), (1, .ref sh), (2, .ref fe), (3, .int (-2))]) rfl rfl rfl rfl (fun p e s m below meth c hx hb hr hts hown hlocks hml hnm9 A hA hS hP hD hK hXN Q9 hQ9 ls hl => ?_)
  refine lv_aload_n hx hb dX4_allows_0 rfl (lv_at hl 2 rfl) ?_
  refine va_get (D := (dC, dI)) (ci := 1) (v := .ref lk) (C := RX2) (T := TX2) (N := 8) hx hb hts inX2 hown hK hP 14 rfl rfl 6 (Nat.le_of_ble_eq_true rfl) (hts _ mw_430) (fun _ h9 => h9) rfl dX4_allows_1 ?_
  refine va_get (D := (dC, dI)) (ci := 4) (v := .ref r) (C := RX5) (T := TX5) (N := 6) hx hb hts inX5 hown hK hP 15 rfl rfl 2 (Nat.le_of_ble_eq_true rfl) (hts _ mw_389) (fun _ h9 => h9) rfl dX4_allows_4 ?_
  refine lv_astore (lv' := [(4, .ref r), (0, .ref lw), (1, .ref sh), (2, .ref fe), (3, .int (-2))]) hx hb dX4_allows_7 hl (Nat.le_of_ble_eq_true rfl) rfl (fun ls hl => ?_)
  refine lv_aload hx hb dX4_allows_9 (lv_at hl 0 rfl) ?_
  refine lv_ifnull hx hb dX4_allows_11 ?_
  refine lv_aload_n hx hb dX4_allows_14 rfl (lv_at hl 1 rfl) ?_
  refine va_get (D := (dC, dI)) (ci := 3) (v := .ref dr) (C := RX4) (T := TX4) (N := 6) hx hb hts inX4 hown hK hP 0 rfl rfl 0 (Nat.le_of_ble_eq_true rfl) (hts _ mw_219) (fun _ h9 => h9) rfl dX4_allows_15 ?_
  obtain ⟨hPc, hDc, hFc, hI1⟩ := zi_sub (wc := [_, _, _]) hP hD hS hA [7, 8, 9] rfl rfl
  refine zcall (st1 := [.int (pI (pls nd P Q))]) (va_runV (As := []) (rest := []) ⟨hx, hb, hml, hown, hts⟩ (k_Row_arePlaces l dC dI cI cZ cF s.heap.size dr dx dy nd cd P Q rd (by first | with_reducible assumption | omega) (by first | with_reducible assumption | omega)) (csV_65 hts rfl rfl ⟨Nat.le_of_ble_eq_true rfl, Nat.le_of_ble_eq_true rfl⟩) (zPV2 (q0 := 0) (ci := 6) hPc hDc hK hXN rfl rfl) rfl rfl hl.1 rfl (lv_room (Nat.le_of_ble_eq_true rfl)) dX4_allows_18 ⟨Nat.le_of_ble_eq_true rfl, Nat.le_of_ble_eq_true rfl⟩) hS hFc hFc rfl (fun t H locs ht hB hk1 hS => ?_)
  obtain ⟨hP1, hD1⟩ := hB
  rw [ht] at hP1
  replace hP := z0 hP hD hk1 hP1 hI1
  clear hk1 hPc hDc hFc hP1 hD1 ht hI1
  refine lv_if_ne (tgt := 26) hx hb dX4_allows_21 rfl (fun c_1 => ?_) (fun c_1 => ?_)
  · have c_1 : pls nd P Q := zp_1 c_1
    refine lv_aload_n hx hb dX4_allows_26 rfl (lv_at hl 1 rfl) ?_
    refine va_get (D := (dC, dI)) (ci := 3) (v := .ref dr) (C := RX4) (T := TX4) (N := 6) hx hb hts inX4 hown hK hP 0 rfl rfl 0 (Nat.le_of_ble_eq_true rfl) (hts _ mw_219) (fun _ h9 => h9) rfl dX4_allows_27 ?_
    refine lv_iload_n hx hb dX4_allows_30 rfl (lv_at hl 4 rfl) ?_
    refine lv_aload_n hx hb dX4_allows_31 rfl (lv_at hl 1 rfl) ?_
    refine va_get (D := (dC, dI)) (ci := 3) (v := .ref dr) (C := RX4) (T := TX4) (N := 6) hx hb hts inX4 hown hK hP 0 rfl rfl 0 (Nat.le_of_ble_eq_true rfl) (hts _ mw_219) (fun _ h9 => h9) rfl dX4_allows_32 ?_
    refine va_get (D := (dC, dI)) (ci := 6) (v := .int (nI nd)) (C := RX7) (T := TX7) (N := 4) hx hb hts inX7 hown hK hP 7 rfl rfl 2 (Nat.le_of_ble_eq_true rfl) (hts _ mw_176) (fun _ h9 => h9) rfl dX4_allows_35 ?_
    have b9_3 : zlt (nd) := show nd < 2147483648 by omega
    refine lv_icmp_ge (tgt := 45) hx hb dX4_allows_38 rfl (fun c_2 => ?_) (fun c_2 => ?_)
    · have c_2 : ((nd : Nat) : Int) ≤ (-2) := zc_le (nI_toInt b9_3) rfl c_2
      exfalso; omega
    · have c_2 : (-2) < ((nd : Nat) : Int) := zc_nle (nI_toInt b9_3) rfl c_2
      refine lv_iload_n hx hb dX4_allows_41 rfl (lv_at hl 4 rfl) ?_
      refine lv_goto (tgt := 46) hx hb dX4_allows_42 rfl ?_
      obtain ⟨hPc, hDc, hFc, hI1⟩ := zi_sub (wc := [_, _, _]) hP hD hS hA [7, 8, 9] rfl rfl
      refine zcall (st1 := [.int (nI (nd - 1))]) (va_runV (As := [.int (-2)]) (rest := []) ⟨hx, hb, hml, hown, hts⟩ (k_Row_previous_2 l dC dI cI cZ cF H.size dr dx dy nd cd P Q rd (by first | with_reducible assumption | omega) (by first | with_reducible assumption | omega) (by first | with_reducible assumption | omega)) (csV_48 hts rfl rfl ⟨Nat.le_of_ble_eq_true rfl, Nat.le_of_ble_eq_true rfl⟩) (zPV2 (q0 := 0) (ci := 6) hPc hDc hK hXN rfl rfl) rfl rfl hl.1 rfl (lv_room (Nat.le_of_ble_eq_true rfl)) dX4_allows_46 ⟨Nat.le_of_ble_eq_true rfl, Nat.le_of_ble_eq_true rfl⟩) hS hFc hFc rfl (fun t H locs ht hB hk1 hS => ?_)
      obtain ⟨hP1, hD1⟩ := hB
      rw [ht] at hP1
      replace hP := z0 hP hD hk1 hP1 hI1
      clear hk1 hPc hDc hFc hP1 hD1 ht hI1
      refine lv_istore (lv' := [(5, .int (nI (nd - 1))), (4, .ref r), (0, .ref lw), (1, .ref sh), (2, .ref fe), (3, .int (-2))]) hx hb dX4_allows_49 hl (Nat.le_of_ble_eq_true rfl) rfl (fun ls hl => ?_)
      refine lv_iload_n hx hb dX4_allows_51 rfl (lv_at hl 5 rfl) ?_
      refine lv_bipush (v := (-2)) hx hb dX4_allows_52 rfl ?_
      refine lv_icmp_ne (tgt := 62) hx hb dX4_allows_54 rfl (fun c_4 => ?_) (fun c_4 => ?_)
      · exact absurd (by decide) c_4
      · refine lv_bipush (v := 6) hx hb dX4_allows_57 rfl ?_
        refine lv_goto (tgt := 69) hx hb dX4_allows_59 rfl ?_
        refine lv_istore (lv' := [(6, .int 6), (5, .int (nI (nd - 1))), (4, .ref r), (0, .ref lw), (1, .ref sh), (2, .ref fe), (3, .int (-2))]) hx hb dX4_allows_69 hl (Nat.le_of_ble_eq_true rfl) rfl (fun ls hl => ?_)
        refine lv_iload_n hx hb dX4_allows_71 rfl (lv_at hl 6 rfl) ?_
        refine lv_if_lt (tgt := 91) hx hb dX4_allows_72 rfl (fun c_5 => ?_) (fun c_5 => ?_)
        · refine lv_aload_n hx hb dX4_allows_91 rfl (lv_at hl 3 rfl) ?_
          refine va_get (D := (dC, dI)) (ci := 3) (v := .ref dr) (C := RX4) (T := TX4) (N := 6) hx hb hts inX4 hown hK hP 0 rfl rfl 0 (Nat.le_of_ble_eq_true rfl) (hts _ mw_219) (fun _ h9 => h9) rfl dX4_allows_92 ?_
          refine lv_iload hx hb dX4_allows_95 (lv_at hl 0 rfl) ?_
          obtain ⟨hPc, hDc, hFc, hI1⟩ := zi_sub (wc := [_, _, _]) hP hD hS hA [7, 8, 9] rfl rfl
          refine zcall (st1 := [.int (pI ((∀ i, i < edg nd rd → eFr nd P Q rd i (i + 1)) ∧ (¬ (6 : Int32).toInt = 6 ∨ ∀ k, k < nd → eRt nd P Q k)))]) (va_runV (As := [.int 6]) (rest := []) ⟨hx, hb, hml, hown, hts⟩ (k_Row_isSound l dC dI cI cZ cF H.size dr dx dy nd cd P Q rd 6 (by first | with_reducible assumption | omega) (by first | with_reducible assumption | omega) (by first | with_reducible assumption | assumption)) (csV_70 hts rfl rfl ⟨Nat.le_of_ble_eq_true rfl, Nat.le_of_ble_eq_true rfl⟩) (zPV2 (q0 := 0) (ci := 6) hPc hDc hK hXN rfl rfl) rfl rfl hl.1 rfl (lv_room (Nat.le_of_ble_eq_true rfl)) dX4_allows_97 ⟨Nat.le_of_ble_eq_true rfl, Nat.le_of_ble_eq_true rfl⟩) hS hFc hFc rfl (fun t H locs ht hB hk1 hS => ?_)
          obtain ⟨hP1, hD1⟩ := hB
          rw [ht] at hP1
          replace hP := z0 hP hD hk1 hP1 hI1
          clear hk1 hPc hDc hFc hP1 hD1 ht hI1
          refine lv_if_ne (tgt := 105) hx hb dX4_allows_100 rfl (fun c_6 => ?_) (fun c_6 => ?_)
          · have c_6 : (∀ i, i < edg nd rd → eFr nd P Q rd i (i + 1)) ∧ (¬ (6 : Int32).toInt = 6 ∨ ∀ k, k < nd → eRt nd P Q k) := zp_1 c_6
            refine lv_aload_n hx hb dX4_allows_105 rfl (lv_at hl 3 rfl) ?_
            refine lv_aload hx hb dX4_allows_106 (lv_at hl 2 rfl) ?_
            refine lv_iload_n hx hb dX4_allows_108 rfl (lv_at hl 6 rfl) ?_
            obtain ⟨hPc, hDc, hFc⟩ := zo_sub (wc := [_, _, _, _, _, _, _, _]) hP hD hS hA [0, 10, 7, 8, 9, 16, 17, 18] (by decide +kernel) rfl
            refine zcall (st1 := []) (va_runV (As := [.ref r, .int (-2)]) (rest := []) ⟨hx, hb, hml, hown, hts⟩ (k_Law_measureReach_2 l dC dI cI cZ cF H.size lw dr tg wy br bo aa b1 b2 b3 b4 dx dy nd cd P Q rd r rx ry n cap X Y rg (by first | with_reducible assumption | omega) (by first | with_reducible assumption | omega) (by first | with_reducible assumption | assumption) (by first | with_reducible assumption | omega) (by first | with_reducible assumption | omega) (by first | with_reducible assumption | assumption) (by first | with_reducible assumption | omega)) (csV_67 hts rfl rfl ⟨Nat.le_of_ble_eq_true rfl, Nat.le_of_ble_eq_true rfl⟩) (zPV2 (q0 := 0) (ci := 3) hPc hDc hK hXN rfl rfl) rfl rfl hl.1 rfl (lv_room (Nat.le_of_ble_eq_true rfl)) dX4_allows_109 ⟨Nat.le_of_ble_eq_true rfl, Nat.le_of_ble_eq_true rfl⟩) hS hFc hFc rfl (fun t H locs ht hB hk1 hS => ?_)
            obtain ⟨hP1, hD1⟩ := hB
            rw [ht] at hP1
            obtain ⟨hP, hD⟩ := znQ (W2 := [_, _, _, _, _, _, _, _, _, _, (oc0 br (iI (mnI (mnI (X 0).toInt X n) P nd)) (iI (mnI (mnI (Y 0).toInt Y n) Q nd)) (iI (mxI (mxI (X 0).toInt X n) P nd)) (iI (mxI (mxI (Y 0).toInt Y n) Q nd))), _, _, _, _, _, _, _, _]) hP hD hk1 hFc hP1 hD1 zl_31 zl_32 zl_33 zl_31 (by decide +kernel) rfl rfl rfl rfl rfl
            clear hk1 hPc hDc hFc hP1 hD1 ht
            have hpd : pls nd P Q := (by first | with_reducible assumption | assumption)
            have hbr : nr (mnI (mnI (X 0).toInt X n) P nd) ∧ nr (mnI (mnI (Y 0).toInt Y n) Q nd) ∧ nr (mxI (mxI (X 0).toInt X n) P nd) ∧ nr (mxI (mxI (Y 0).toInt Y n) Q nd) := ⟨mnB (mnB ((pls_nr hp).1 0 (by omega)) (pls_nr hp).1 n (Nat.le_refl _)) (pls_nr hpd).1 nd (Nat.le_refl _), mnB (mnB ((pls_nr hp).2 0 (by omega)) (pls_nr hp).2 n (Nat.le_refl _)) (pls_nr hpd).2 nd (Nat.le_refl _), mxB (mxB ((pls_nr hp).1 0 (by omega)) (pls_nr hp).1 n (Nat.le_refl _)) (pls_nr hpd).1 nd (Nat.le_refl _), mxB (mxB ((pls_nr hp).2 0 (by omega)) (pls_nr hp).2 n (Nat.le_refl _)) (pls_nr hpd).2 nd (Nat.le_refl _)⟩
            refine lv_iconst (v := 0) hx hb dX4_allows_112 rfl ?_
            refine lv_istore (lv' := [(7, .int 0), (6, .int 6), (5, .int (nI (nd - 1))), (4, .ref r), (0, .ref lw), (1, .ref sh), (2, .ref fe), (3, .int (-2))]) hx hb dX4_allows_113 hl (Nat.le_of_ble_eq_true rfl) rfl (fun ls hl => ?_)
            have hl_115 : ∀ (n9 : Nat) (g5 : Nat) (nt1 : Nat) (TX1 : Nat → Int32) (TY1 : Nat → Int32) (rt1 : Int32) (nw1 : Nat) (WX1 : Nat → Int32) (WY1 : Nat → Int32) (rw1 : Int32) (b5 : Int32) (b6 : Int32) (b7 : Int32) (b8 : Int32) (H : Heap) (locs : List Loc) (ls : Array Slot), ft - g5 < n9 → (g5 ≤ ft) → (∀ q, q < g5 → (q ≠ f0 → lvF ft st tn q → (apB (mnI (mnI (X 0).toInt X n) P nd) (mnI (mnI (Y 0).toInt Y n) Q nd) (mxI (mxI (X 0).toInt X n) P nd) (mxI (mxI (Y 0).toInt Y n) Q nd) (nN (mn q)) (cF40 cx q) (cF40 cy q) ∨ (asb n X Y rg nd P Q rd (nN (mn q)) (cF40 cx q) (cF40 cy q) (rgK (kd q).toInt))))) → va_P (dC, dI) classes ([(oc3 lw (.ref dr) (.ref tg) (.ref wy) (.ref br) (.ref bo) (.ref aa)), (oc6 tg (.ref tx) (.ref ty) (nI nt1) rt1), (oa tx cI 3 TX1), (oa ty cI 3 TY1), (oc6 wy (.ref wx) (.ref wz) (nI nw1) rw1), (oa wx cI 2 WX1), (oa wz cI 2 WY1), (oc6 dr (.ref dx) (.ref dy) (nI nd) rd), (oa dx cI cd P), (oa dy cI cd Q), (oc0 br (iI (mnI (mnI (X 0).toInt X n) P nd)) (iI (mnI (mnI (Y 0).toInt Y n) Q nd)) (iI (mxI (mxI (X 0).toInt X n) P nd)) (iI (mxI (mxI (Y 0).toInt Y n) Q nd))), (oc0 bo b5 b6 b7 b8), (oc7 sh (.ref fa) (nI ft)), (oq fa cF 200 FA), (oc1 fe rk9 wd9 tw9 pa9 pb9 (.ref lo) (.ref lk) fm9), (oc4 lk kd9 st9 (.ref r) gb9 jt9 we9), (oc6 r (.ref rx) (.ref ry) (nI n) rg), (oa rx cI cap X), (oa ry cI cap Y)] ++ va_pl L f) H → va_D A ([(oc3 lw (.ref dr) (.ref tg) (.ref wy) (.ref br) (.ref bo) (.ref aa)), (oc6 tg (.ref tx) (.ref ty) (nI nt1) rt1), (oa tx cI 3 TX1), (oa ty cI 3 TY1), (oc6 wy (.ref wx) (.ref wz) (nI nw1) rw1), (oa wx cI 2 WX1), (oa wz cI 2 WY1), (oc6 dr (.ref dx) (.ref dy) (nI nd) rd), (oa dx cI cd P), (oa dy cI cd Q), (oc0 br (iI (mnI (mnI (X 0).toInt X n) P nd)) (iI (mnI (mnI (Y 0).toInt Y n) Q nd)) (iI (mxI (mxI (X 0).toInt X n) P nd)) (iI (mxI (mxI (Y 0).toInt Y n) Q nd))), (oc0 bo b5 b6 b7 b8), (oc7 sh (.ref fa) (nI ft)), (oq fa cF 200 FA), (oc1 fe rk9 wd9 tw9 pa9 pb9 (.ref lo) (.ref lk) fm9), (oc4 lk kd9 st9 (.ref r) gb9 jt9 we9), (oc6 r (.ref rx) (.ref ry) (nI n) rg), (oa rx cI cap X), (oa ry cI cap Y)] ++ va_pl L f) → va_S A s.heap H locs → lv_has ls 9 [(7, .int (nI g5)), (6, .int 6), (5, .int (nI (nd - 1))), (4, .ref r), (0, .ref lw), (1, .ref sh), (2, .ref fe), (3, .int (-2))] → W p l e ({ frames := 4, cells := 0, slots := 0, locals := 88 } : Room) s m ([.ref lw, .ref sh, .ref fe, .int (-2)] : List Value).toArray below meth c H locs 0 0 Q9 (F0 m 115 ls []) := by
              intro n9
              induction n9 with
              | zero => intro g5 nt1 TX1 TY1 rt1 nw1 WX1 WY1 rw1 b5 b6 b7 b8 H locs ls hm; exact absurd hm (Nat.not_lt_zero _)
              | succ n9 ih_115 =>
                intro g5 nt1 TX1 TY1 rt1 nw1 WX1 WY1 rw1 b5 b6 b7 b8 H locs ls hm hi5 hall hP hD hS hl
                refine lv_iload hx hb dX4_allows_115 (lv_at hl 0 rfl) ?_
                refine lv_aload_n hx hb dX4_allows_117 rfl (lv_at hl 5 rfl) ?_
                refine va_get (D := (dC, dI)) (ci := 7) (v := .int (nI ft)) (C := RX8) (T := TX8) (N := 2) hx hb hts inX8 hown hK hP 12 rfl rfl 1 (Nat.le_of_ble_eq_true rfl) (hts _ mw_139) (fun _ h9 => h9) rfl dX4_allows_118 ?_
                have b9_8 : zlt (g5) := show g5 < 2147483648 by omega
                have b9_9 : zlt (ft) := show ft < 2147483648 by omega
                refine lv_icmp_ge (tgt := 193) hx hb dX4_allows_121 rfl (fun c_7 => ?_) (fun c_7 => ?_)
                · have c_7 : ((ft : Nat) : Int) ≤ ((g5 : Nat) : Int) := zc_le (nI_toInt b9_9) (nI_toInt b9_8) c_7
                  refine lv_iconst (v := 1) hx hb dX4_allows_193 rfl ?_
                  obtain ⟨hP9, hD9⟩ := zu_part (cx := [_, _, _, _, _, _, _, _, _, _, _, _, _, _, _, _, _, _, _]) hP hD [true, true, true, true, true, true, true, true, true, true, true, true, true, true, true, true, true, true, true] rfl rfl
                  rw [hQ9]
                  exact W.zret (ty := .boolean) (v := 1) hx hb hr (rfl) (fun t ht hW => ⟨⟨congrArg (fun z => Outcome.returned (some (Value.int z))) (show (1 : Int32) = pI (pls nd P Q ∧ ((∀ i, i < edg nd rd → eFr nd P Q rd i (i + 1)) ∧ (¬ (6 : Int32).toInt = 6 ∨ ∀ k, k < nd → eRt nd P Q k)) ∧ ∀ q, q < ft → (q ≠ f0 → lvF ft st tn q → (apB (mnI (mnI (X 0).toInt X n) P nd) (mnI (mnI (Y 0).toInt Y n) Q nd) (mxI (mxI (X 0).toInt X n) P nd) (mxI (mxI (Y 0).toInt Y n) Q nd) (nN (mn q)) (cF40 cx q) (cF40 cy q) ∨ (asb n X Y rg nd P Q rd (nN (mn q)) (cF40 cx q) (cF40 cy q) (rgK (kd q).toInt))))) from (zp_t (⟨by assumption, by assumption, fun q hq => hall q (by omega)⟩)).symm), nt1, TX1, TY1, rt1, nw1, WX1, WY1, rw1, (iI (mnI (mnI (X 0).toInt X n) P nd)), (iI (mnI (mnI (Y 0).toInt Y n) Q nd)), (iI (mxI (mxI (X 0).toInt X n) P nd)), (iI (mxI (mxI (Y 0).toInt Y n) Q nd)), b5, b6, b7, b8, by rw [ht]; exact hP9, hD9⟩, hS.F ht⟩) hS.2.2 dX4_allows_194
                · have c_7 : ((g5 : Nat) : Int) < ((ft : Nat) : Int) := zc_nle (nI_toInt b9_9) (nI_toInt b9_8) c_7
                  rcases vw4 (hvw g5) (show g5 < ft by omega) with hif | ⟨hif, hs2, fe2, lk2, lo2, rk2, wd2, tw2, pa2, pb2, gb2, jt2, we2, fm2, rw2, hFA2, hfe2, hlk2⟩ | ⟨hif, ht2, fe2, lk2, lo2, rk2, wd2, tw2, pa2, pb2, gb2, jt2, we2, fm2, hFA2, hfe2, hlk2⟩ | ⟨hif, hlv2, fe2, lk2, lo2, rk2, wd2, tw2, pa2, pb2, gb2, jt2, we2, fm2, r2, rx2, ry2, cap2, U2, V2, rg2, hFA2, hfe2, hlk2, ⟨hr2, hrx2, hry2, hne2⟩, hrr2⟩
                  · skip
                    have hFi : FA g5 = some fe := (by rw [hif]; exact hFA)
                    refine lv_aload_n hx hb dX4_allows_124 rfl (lv_at hl 5 rfl) ?_
                    refine lv_iload hx hb dX4_allows_125 (lv_at hl 0 rfl) ?_
                    obtain ⟨hPc, hDc, hFc, hI1⟩ := zi_sub (wc := [_, _, _, _]) hP hD hS hA [12, 13, 14, 15] (by decide +kernel) rfl
                    refine zcall (st1 := [.ref r]) (va_runV (As := [.int (nI g5)]) (rest := []) ⟨hx, hb, hml, hown, hts⟩ (k_Sheet_rowThere_yv l dC dI cI cZ cF H.size sh fa ft FA g5 fe lo rk9 wd9 tw9 pa9 pb9 lk kd9 st9 gb9 jt9 we9 r fm9 (by first | with_reducible assumption | omega) (by first | with_reducible assumption | omega) (by first | exact hFi | exact hFA2) (by first | exact hs1 | exact hs2 | exact hlv2.2.1)) (csV_62 hts rfl rfl ⟨Nat.le_of_ble_eq_true rfl, Nat.le_of_ble_eq_true rfl⟩) (zPV2 (q0 := 0) (ci := 7) hPc hDc hK hXN rfl rfl) rfl rfl hl.1 rfl (lv_room (Nat.le_of_ble_eq_true rfl)) dX4_allows_127 ⟨Nat.le_of_ble_eq_true rfl, Nat.le_of_ble_eq_true rfl⟩) hS hFc hFc rfl (fun t H locs ht hB hk1 hS => ?_)
                    obtain ⟨hP1, hD1⟩ := hB
                    rw [ht] at hP1
                    replace hP := z0 hP hD hk1 hP1 hI1
                    clear hk1 hPc hDc hFc hP1 hD1 ht hI1
                    refine lv_astore (lv' := [(8, .ref r), (7, .int (nI g5)), (6, .int 6), (5, .int (nI (nd - 1))), (4, .ref r), (0, .ref lw), (1, .ref sh), (2, .ref fe), (3, .int (-2))]) hx hb dX4_allows_130 hl (Nat.le_of_ble_eq_true rfl) rfl (fun ls hl => ?_)
                    refine lv_aload hx hb dX4_allows_132 (lv_at hl 0 rfl) ?_
                    refine lv_ifnull hx hb dX4_allows_134 ?_
                    refine lv_aload_n hx hb dX4_allows_137 rfl (lv_at hl 6 rfl) ?_
                    refine lv_iload hx hb dX4_allows_138 (lv_at hl 1 rfl) ?_
                    obtain ⟨hPc, hDc, hFc, hI1⟩ := zi_sub (wc := [_, _]) hP hD hS hA [12, 13] rfl rfl
                    refine zcall (st1 := [.ref fe]) (va_runV (As := [.int (nI g5)]) (rest := []) ⟨hx, hb, hml, hown, hts⟩ (k_Sheet_find l dC dI cI cZ cF H.size sh fa ft FA g5 fe (by first | with_reducible assumption | omega) (by first | with_reducible assumption | omega) (by first | exact hFi | exact hFA2)) (csV_63 hts rfl rfl ⟨Nat.le_of_ble_eq_true rfl, Nat.le_of_ble_eq_true rfl⟩) (zPV2 (q0 := 0) (ci := 7) hPc hDc hK hXN rfl rfl) rfl rfl hl.1 rfl (lv_room (Nat.le_of_ble_eq_true rfl)) dX4_allows_140 ⟨Nat.le_of_ble_eq_true rfl, Nat.le_of_ble_eq_true rfl⟩) hS hFc hFc rfl (fun t H locs ht hB hk1 hS => ?_)
                    obtain ⟨hP1, hD1⟩ := hB
                    rw [ht] at hP1
                    replace hP := z0 hP hD hk1 hP1 hI1
                    clear hk1 hPc hDc hFc hP1 hD1 ht hI1
                    refine lv_aload_n hx hb dX4_allows_143 rfl (lv_at hl 7 rfl) ?_
                    refine z_acmpne (rx := fe) (ry := fe) (tgt := 150) hx hb dX4_allows_144 (by decide) (fun c_10 => ?_) (fun c_10 => ?_)
                    · have c_10 : ¬ fe = fe := c_10
                      exact absurd rfl c_10
                    · have c_10 : fe = fe := c_10
                      refine lv_goto (tgt := 187) hx hb dX4_allows_147 rfl ?_
                      refine lv_iinc (v := nI (g5 + 1)) (lv' := [(7, .int (nI (g5 + 1))), (8, .ref r), (6, .int 6), (5, .int (nI (nd - 1))), (4, .ref r), (0, .ref lw), (1, .ref sh), (2, .ref fe), (3, .int (-2))]) hx hb dX4_allows_187 hl (k := 1) rfl (nI_add g5 1) (Nat.le_of_ble_eq_true rfl) rfl (fun ls hl => ?_)
                      refine lv_goto (tgt := 115) hx hb dX4_allows_190 rfl ?_
                      exact ih_115 (g5 + 1) nt1 TX1 TY1 rt1 nw1 WX1 WY1 rw1 b5 b6 b7 b8 H locs ls (by first | with_reducible assumption | omega) (by first | with_reducible assumption | omega) (by intro q hq; rcases Nat.lt_or_ge q g5 with h | h; exact hall q h; rw [show q = g5 by omega]; intro h1 h2; first | exact absurd hif h1 | exact absurd h2.2.1 hs2 | exact absurd h2.2.2 ht2 | exact Or.inl (by first | with_reducible assumption | assumption) | exact Or.inr (by first | with_reducible assumption | assumption)) hP hD hS (lv_sub hl [0, 2, 3, 4, 5, 6, 7, 8] rfl)
                  · skip
                    have hc9_1 : inPl L f [(oc1 fe2 rk2 wd2 tw2 pa2 pb2 (.ref lo2) (.ref lk2) fm2), (oc4 lk2 (kd g5) (st g5) rw2 gb2 jt2 we2)] := ⟨hfe2, hlk2, trivial⟩
                    have hD0_1 := hD
                    obtain ⟨T_1, hT_1, hP, hD⟩ := pl_oT hP hD hc9_1 (pwF hfe2.2 hlk2.2)
                    obtain ⟨hP, hD⟩ := zre (W2 := ([_, _, _, _, _, _, _, _, _, _, _, _, _, _, _, _, _, _, _, _, _] ++ va_pl T_1 f)) hP hD rfl
                    refine lv_aload_n hx hb dX4_allows_124 rfl (lv_at hl 5 rfl) ?_
                    refine lv_iload hx hb dX4_allows_125 (lv_at hl 0 rfl) ?_
                    obtain ⟨hPc, hDc, hFc, hI1⟩ := zi_sub (wc := [_, _, _, _]) hP hD hS hA [12, 13, 19, 20] (by decide +kernel) rfl
                    refine zcall (st1 := [.null]) (va_runV (As := [.int (nI g5)]) (rest := []) ⟨hx, hb, hml, hown, hts⟩ (k_Sheet_rowThere_sv l dC dI cI cZ cF H.size sh fa ft FA g5 fe2 lo2 rk2 wd2 tw2 pa2 pb2 lk2 (kd g5) (st g5) gb2 jt2 we2 fm2 rw2 (by first | with_reducible assumption | omega) (by first | with_reducible assumption | omega) (by first | exact hFi | exact hFA2) (by first | exact hs1 | exact hs2 | exact hlv2.2.1)) (csV_62 hts rfl rfl ⟨Nat.le_of_ble_eq_true rfl, Nat.le_of_ble_eq_true rfl⟩) (zPV2 (q0 := 0) (ci := 7) hPc hDc hK hXN rfl rfl) rfl rfl hl.1 rfl (lv_room (Nat.le_of_ble_eq_true rfl)) dX4_allows_127 ⟨Nat.le_of_ble_eq_true rfl, Nat.le_of_ble_eq_true rfl⟩) hS hFc hFc rfl (fun t H locs ht hB hk1 hS => ?_)
                    obtain ⟨hP1, hD1⟩ := hB
                    rw [ht] at hP1
                    replace hP := z0 hP hD hk1 hP1 hI1
                    clear hk1 hPc hDc hFc hP1 hD1 ht hI1
                    refine lv_astoreN (lv' := [(8, .null), (7, .int (nI g5)), (6, .int 6), (5, .int (nI (nd - 1))), (4, .ref r), (0, .ref lw), (1, .ref sh), (2, .ref fe), (3, .int (-2))]) hx hb dX4_allows_130 hl (Nat.le_of_ble_eq_true rfl) rfl (fun ls hl => ?_)
                    refine lv_aloadN hx hb dX4_allows_132 (lv_at hl 0 rfl) ?_
                    refine lv_ifnullN (tgt := 187) hx hb dX4_allows_134 rfl ?_
                    obtain ⟨hP, hD⟩ := pl_bk (X := [_, _, _, _, _, _, _, _, _, _, _, _, _, _, _, _, _, _, _]) hT_1 hP rfl hc9_1 hD0_1 rfl
                    refine lv_iinc (v := nI (g5 + 1)) (lv' := [(7, .int (nI (g5 + 1))), (8, .null), (6, .int 6), (5, .int (nI (nd - 1))), (4, .ref r), (0, .ref lw), (1, .ref sh), (2, .ref fe), (3, .int (-2))]) hx hb dX4_allows_187 hl (k := 1) rfl (nI_add g5 1) (Nat.le_of_ble_eq_true rfl) rfl (fun ls hl => ?_)
                    refine lv_goto (tgt := 115) hx hb dX4_allows_190 rfl ?_
                    exact ih_115 (g5 + 1) nt1 TX1 TY1 rt1 nw1 WX1 WY1 rw1 b5 b6 b7 b8 H locs ls (by first | with_reducible assumption | omega) (by first | with_reducible assumption | omega) (by intro q hq; rcases Nat.lt_or_ge q g5 with h | h; exact hall q h; rw [show q = g5 by omega]; intro h1 h2; first | exact absurd hif h1 | exact absurd h2.2.1 hs2 | exact absurd h2.2.2 ht2 | exact Or.inl (by first | with_reducible assumption | assumption) | exact Or.inr (by first | with_reducible assumption | assumption)) hP hD hS (lv_sub hl [0, 2, 3, 4, 5, 6, 7, 8] rfl)
                  · skip
                    have hc9_1 : inPl L f [(oc1 fe2 rk2 wd2 tw2 pa2 pb2 (.ref lo2) (.ref lk2) fm2), (oc4 lk2 (kd g5) (st g5) .null gb2 jt2 we2)] := ⟨hfe2, hlk2, trivial⟩
                    have hD0_1 := hD
                    obtain ⟨T_1, hT_1, hP, hD⟩ := pl_oT hP hD hc9_1 (pwF hfe2.2 hlk2.2)
                    obtain ⟨hP, hD⟩ := zre (W2 := ([_, _, _, _, _, _, _, _, _, _, _, _, _, _, _, _, _, _, _, _, _] ++ va_pl T_1 f)) hP hD rfl
                    refine lv_aload_n hx hb dX4_allows_124 rfl (lv_at hl 5 rfl) ?_
                    refine lv_iload hx hb dX4_allows_125 (lv_at hl 0 rfl) ?_
                    obtain ⟨hPc, hDc, hFc, hI1⟩ := zi_sub (wc := [_, _, _, _]) hP hD hS hA [12, 13, 19, 20] (by decide +kernel) rfl
                    refine zcall (st1 := [.null]) (va_runV (As := [.int (nI g5)]) (rest := []) ⟨hx, hb, hml, hown, hts⟩ (k_Sheet_rowThere_tv l dC dI cI cZ cF H.size sh fa ft FA g5 fe2 lo2 rk2 wd2 tw2 pa2 pb2 lk2 (kd g5) (st g5) gb2 jt2 we2 fm2 (by first | with_reducible assumption | omega) (by first | with_reducible assumption | omega) (by first | exact hFi | exact hFA2)) (csV_62 hts rfl rfl ⟨Nat.le_of_ble_eq_true rfl, Nat.le_of_ble_eq_true rfl⟩) (zPV2 (q0 := 0) (ci := 7) hPc hDc hK hXN rfl rfl) rfl rfl hl.1 rfl (lv_room (Nat.le_of_ble_eq_true rfl)) dX4_allows_127 ⟨Nat.le_of_ble_eq_true rfl, Nat.le_of_ble_eq_true rfl⟩) hS hFc hFc rfl (fun t H locs ht hB hk1 hS => ?_)
                    obtain ⟨hP1, hD1⟩ := hB
                    rw [ht] at hP1
                    replace hP := z0 hP hD hk1 hP1 hI1
                    clear hk1 hPc hDc hFc hP1 hD1 ht hI1
                    refine lv_astoreN (lv' := [(8, .null), (7, .int (nI g5)), (6, .int 6), (5, .int (nI (nd - 1))), (4, .ref r), (0, .ref lw), (1, .ref sh), (2, .ref fe), (3, .int (-2))]) hx hb dX4_allows_130 hl (Nat.le_of_ble_eq_true rfl) rfl (fun ls hl => ?_)
                    refine lv_aloadN hx hb dX4_allows_132 (lv_at hl 0 rfl) ?_
                    refine lv_ifnullN (tgt := 187) hx hb dX4_allows_134 rfl ?_
                    obtain ⟨hP, hD⟩ := pl_bk (X := [_, _, _, _, _, _, _, _, _, _, _, _, _, _, _, _, _, _, _]) hT_1 hP rfl hc9_1 hD0_1 rfl
                    refine lv_iinc (v := nI (g5 + 1)) (lv' := [(7, .int (nI (g5 + 1))), (8, .null), (6, .int 6), (5, .int (nI (nd - 1))), (4, .ref r), (0, .ref lw), (1, .ref sh), (2, .ref fe), (3, .int (-2))]) hx hb dX4_allows_187 hl (k := 1) rfl (nI_add g5 1) (Nat.le_of_ble_eq_true rfl) rfl (fun ls hl => ?_)
                    refine lv_goto (tgt := 115) hx hb dX4_allows_190 rfl ?_
                    exact ih_115 (g5 + 1) nt1 TX1 TY1 rt1 nw1 WX1 WY1 rw1 b5 b6 b7 b8 H locs ls (by first | with_reducible assumption | omega) (by first | with_reducible assumption | omega) (by intro q hq; rcases Nat.lt_or_ge q g5 with h | h; exact hall q h; rw [show q = g5 by omega]; intro h1 h2; first | exact absurd hif h1 | exact absurd h2.2.1 hs2 | exact absurd h2.2.2 ht2 | exact Or.inl (by first | with_reducible assumption | assumption) | exact Or.inr (by first | with_reducible assumption | assumption)) hP hD hS (lv_sub hl [0, 2, 3, 4, 5, 6, 7, 8] rfl)
                  · skip
                    have hw2 := hwf g5 hlv2
                    have hn2 := hw2.2.1
                    have hq2 := rw_pls hrr2 hw2
                    have hkn2 := hkn g5 hlv2
                    have hcap2 := hrr2.1
                    have hcap3 := hrr2.2.1
                    have h1m2 : 1 ≤ nN (mn g5) := hw2.2.1.1
                    have hrk2 := rgK_e hrr2.2.2.2.1
                    have hc9_1 : inPl L f [(oc1 fe2 rk2 wd2 tw2 pa2 pb2 (.ref lo2) (.ref lk2) fm2), (oc4 lk2 (kd g5) (st g5) (.ref r2) gb2 jt2 we2), (oc6 r2 (.ref rx2) (.ref ry2) (nI (nN (mn g5))) rg2), (oa rx2 cI cap2 U2), (oa ry2 cI cap2 V2)] := ⟨hfe2, hlk2, hr2, hrx2, hry2, trivial⟩
                    have hD0_1 := hD
                    obtain ⟨T_1, hT_1, hP, hD⟩ := pl_oT hP hD hc9_1 (pwR hfe2.2 hlk2.2 hr2.2 hrx2.2 hry2.2 hne2)
                    obtain ⟨hP, hD⟩ := zre (W2 := ([_, _, _, _, _, _, _, _, _, _, _, _, _, _, _, _, _, _, _, _, _, _, _, _] ++ va_pl T_1 f)) hP hD rfl
                    refine lv_aload_n hx hb dX4_allows_124 rfl (lv_at hl 5 rfl) ?_
                    refine lv_iload hx hb dX4_allows_125 (lv_at hl 0 rfl) ?_
                    obtain ⟨hPc, hDc, hFc, hI1⟩ := zi_sub (wc := [_, _, _, _]) hP hD hS hA [12, 13, 19, 20] (by decide +kernel) rfl
                    refine zcall (st1 := [.ref r2]) (va_runV (As := [.int (nI g5)]) (rest := []) ⟨hx, hb, hml, hown, hts⟩ (k_Sheet_rowThere_yv l dC dI cI cZ cF H.size sh fa ft FA g5 fe2 lo2 rk2 wd2 tw2 pa2 pb2 lk2 (kd g5) (st g5) gb2 jt2 we2 r2 fm2 (by first | with_reducible assumption | omega) (by first | with_reducible assumption | omega) (by first | exact hFi | exact hFA2) (by first | exact hs1 | exact hs2 | exact hlv2.2.1)) (csV_62 hts rfl rfl ⟨Nat.le_of_ble_eq_true rfl, Nat.le_of_ble_eq_true rfl⟩) (zPV2 (q0 := 0) (ci := 7) hPc hDc hK hXN rfl rfl) rfl rfl hl.1 rfl (lv_room (Nat.le_of_ble_eq_true rfl)) dX4_allows_127 ⟨Nat.le_of_ble_eq_true rfl, Nat.le_of_ble_eq_true rfl⟩) hS hFc hFc rfl (fun t H locs ht hB hk1 hS => ?_)
                    obtain ⟨hP1, hD1⟩ := hB
                    rw [ht] at hP1
                    replace hP := z0 hP hD hk1 hP1 hI1
                    clear hk1 hPc hDc hFc hP1 hD1 ht hI1
                    refine lv_astore (lv' := [(8, .ref r2), (7, .int (nI g5)), (6, .int 6), (5, .int (nI (nd - 1))), (4, .ref r), (0, .ref lw), (1, .ref sh), (2, .ref fe), (3, .int (-2))]) hx hb dX4_allows_130 hl (Nat.le_of_ble_eq_true rfl) rfl (fun ls hl => ?_)
                    refine lv_aload hx hb dX4_allows_132 (lv_at hl 0 rfl) ?_
                    refine lv_ifnull hx hb dX4_allows_134 ?_
                    refine lv_aload_n hx hb dX4_allows_137 rfl (lv_at hl 6 rfl) ?_
                    refine lv_iload hx hb dX4_allows_138 (lv_at hl 1 rfl) ?_
                    obtain ⟨hPc, hDc, hFc, hI1⟩ := zi_sub (wc := [_, _]) hP hD hS hA [12, 13] rfl rfl
                    refine zcall (st1 := [.ref fe2]) (va_runV (As := [.int (nI g5)]) (rest := []) ⟨hx, hb, hml, hown, hts⟩ (k_Sheet_find l dC dI cI cZ cF H.size sh fa ft FA g5 fe2 (by first | with_reducible assumption | omega) (by first | with_reducible assumption | omega) (by first | exact hFi | exact hFA2)) (csV_63 hts rfl rfl ⟨Nat.le_of_ble_eq_true rfl, Nat.le_of_ble_eq_true rfl⟩) (zPV2 (q0 := 0) (ci := 7) hPc hDc hK hXN rfl rfl) rfl rfl hl.1 rfl (lv_room (Nat.le_of_ble_eq_true rfl)) dX4_allows_140 ⟨Nat.le_of_ble_eq_true rfl, Nat.le_of_ble_eq_true rfl⟩) hS hFc hFc rfl (fun t H locs ht hB hk1 hS => ?_)
                    obtain ⟨hP1, hD1⟩ := hB
                    rw [ht] at hP1
                    replace hP := z0 hP hD hk1 hP1 hI1
                    clear hk1 hPc hDc hFc hP1 hD1 ht hI1
                    refine lv_aload_n hx hb dX4_allows_143 rfl (lv_at hl 7 rfl) ?_
                    refine z_acmpne (rx := fe2) (ry := fe) (tgt := 150) hx hb dX4_allows_144 (by decide) (fun c_11 => ?_) (fun c_11 => ?_)
                    · have c_11 : ¬ fe2 = fe := c_11
                      refine lv_aload_n hx hb dX4_allows_150 rfl (lv_at hl 5 rfl) ?_
                      refine va_get (D := (dC, dI)) (ci := 3) (v := .ref bo) (C := RX4) (T := TX4) (N := 6) hx hb hts inX4 hown hK hP 0 rfl rfl 4 (Nat.le_of_ble_eq_true rfl) (hts _ mw_224) (fun _ h9 => h9) rfl dX4_allows_151 ?_
                      refine lv_aload hx hb dX4_allows_154 (lv_at hl 0 rfl) ?_
                      obtain ⟨hPc, hDc, hFc⟩ := zo_sub (wc := [_, _, _, _]) hP hD hS hA [11, 21, 22, 23] (by decide +kernel) rfl
                      refine zcall (st1 := []) (va_runV (As := [.ref r2]) (rest := []) ⟨hx, hb, hml, hown, hts⟩ (k_Box_cover l dC dI cI cZ cF H.size bo b5 b6 b7 b8 r2 rx2 ry2 (nN (mn g5)) cap2 U2 V2 rg2 (by first | with_reducible assumption | omega) (by first | with_reducible assumption | omega) ((pls_nr hq2).1) ((pls_nr hq2).2) (by first | with_reducible assumption | omega)) (csV_52 hts rfl rfl ⟨Nat.le_of_ble_eq_true rfl, Nat.le_of_ble_eq_true rfl⟩) (zPV2 (q0 := 0) (ci := 0) hPc hDc hK hXN rfl rfl) rfl rfl hl.1 rfl (lv_room (Nat.le_of_ble_eq_true rfl)) dX4_allows_156 ⟨Nat.le_of_ble_eq_true rfl, Nat.le_of_ble_eq_true rfl⟩) hS hFc hFc rfl (fun t H locs ht hB hk1 hS => ?_)
                      obtain ⟨hP1, hD1⟩ := hB
                      rw [ht] at hP1
                      obtain ⟨hP, hD⟩ := znQ (W2 := [_, _, _, _, _, _, _, _, _, _, _, (oc0 bo (iI (mnI (U2 0).toInt U2 (nN (mn g5)))) (iI (mnI (V2 0).toInt V2 (nN (mn g5)))) (iI (mxI (U2 0).toInt U2 (nN (mn g5)))) (iI (mxI (V2 0).toInt V2 (nN (mn g5))))), _, _, _, _, _, _, _, _, _, _, _, _]) hP hD hk1 hFc hP1 hD1 [11, 21, 22, 23] zl_26 zl_27 [11, 21, 22, 23] (by decide +kernel) rfl rfl rfl rfl rfl
                      clear hk1 hPc hDc hFc hP1 hD1 ht
                      refine lv_aload_n hx hb dX4_allows_159 rfl (lv_at hl 5 rfl) ?_
                      refine va_get (D := (dC, dI)) (ci := 3) (v := .ref br) (C := RX4) (T := TX4) (N := 6) hx hb hts inX4 hown hK hP 0 rfl rfl 3 (Nat.le_of_ble_eq_true rfl) (hts _ mw_223) (fun _ h9 => h9) rfl dX4_allows_160 ?_
                      refine lv_aload_n hx hb dX4_allows_163 rfl (lv_at hl 5 rfl) ?_
                      refine va_get (D := (dC, dI)) (ci := 3) (v := .ref bo) (C := RX4) (T := TX4) (N := 6) hx hb hts inX4 hown hK hP 0 rfl rfl 4 (Nat.le_of_ble_eq_true rfl) (hts _ mw_224) (fun _ h9 => h9) rfl dX4_allows_164 ?_
                      obtain ⟨hPc, hDc, hFc, hI1⟩ := zi_sub (wc := [_, _]) hP hD hS hA [10, 11] rfl rfl
                      refine zcall (st1 := [.int (pI ((mxI (mxI (X 0).toInt X n) P nd) < (mnI (U2 0).toInt U2 (nN (mn g5))) ∨ (mxI (U2 0).toInt U2 (nN (mn g5))) < (mnI (mnI (X 0).toInt X n) P nd) ∨ (mxI (mxI (Y 0).toInt Y n) Q nd) < (mnI (V2 0).toInt V2 (nN (mn g5))) ∨ (mxI (V2 0).toInt V2 (nN (mn g5))) < (mnI (mnI (Y 0).toInt Y n) Q nd)))]) (va_runV (As := [.ref bo]) (rest := []) ⟨hx, hb, hml, hown, hts⟩ (k_Box_isApart l dC dI cI cZ cF H.size br (mnI (mnI (X 0).toInt X n) P nd) (mnI (mnI (Y 0).toInt Y n) Q nd) (mxI (mxI (X 0).toInt X n) P nd) (mxI (mxI (Y 0).toInt Y n) Q nd) bo (mnI (U2 0).toInt U2 (nN (mn g5))) (mnI (V2 0).toInt V2 (nN (mn g5))) (mxI (U2 0).toInt U2 (nN (mn g5))) (mxI (V2 0).toInt V2 (nN (mn g5))) (hbr) (⟨mnB ((pls_nr hq2).1 0 (by first | with_reducible assumption | omega)) (pls_nr hq2).1 _ (Nat.le_refl _), mnB ((pls_nr hq2).2 0 (by first | with_reducible assumption | omega)) (pls_nr hq2).2 _ (Nat.le_refl _), mxB ((pls_nr hq2).1 0 (by first | with_reducible assumption | omega)) (pls_nr hq2).1 _ (Nat.le_refl _), mxB ((pls_nr hq2).2 0 (by first | with_reducible assumption | omega)) (pls_nr hq2).2 _ (Nat.le_refl _)⟩)) (csV_68 hts rfl rfl ⟨Nat.le_of_ble_eq_true rfl, Nat.le_of_ble_eq_true rfl⟩) (zPV2 (q0 := 0) (ci := 0) hPc hDc hK hXN rfl rfl) rfl rfl hl.1 rfl (lv_room (Nat.le_of_ble_eq_true rfl)) dX4_allows_167 ⟨Nat.le_of_ble_eq_true rfl, Nat.le_of_ble_eq_true rfl⟩) hS hFc hFc rfl (fun t H locs ht hB hk1 hS => ?_)
                      obtain ⟨hP1, hD1⟩ := hB
                      rw [ht] at hP1
                      replace hP := z0 hP hD hk1 hP1 hI1
                      clear hk1 hPc hDc hFc hP1 hD1 ht hI1
                      refine zz_i (v := pI (apB (mnI (mnI (X 0).toInt X n) P nd) (mnI (mnI (Y 0).toInt Y n) Q nd) (mxI (mxI (X 0).toInt X n) P nd) (mxI (mxI (Y 0).toInt Y n) Q nd) (nN (mn g5)) (cF40 cx g5) (cF40 cy g5))) (zp_iff (apB_cg h1m2 hrr2.2.2.2.2)) ?_
                      refine lv_if_ne (tgt := 187) hx hb dX4_allows_170 rfl (fun c_12 => ?_) (fun c_12 => ?_)
                      · have c_12 : apB (mnI (mnI (X 0).toInt X n) P nd) (mnI (mnI (Y 0).toInt Y n) Q nd) (mxI (mxI (X 0).toInt X n) P nd) (mxI (mxI (Y 0).toInt Y n) Q nd) (nN (mn g5)) (cF40 cx g5) (cF40 cy g5) := zp_1 c_12
                        obtain ⟨hP, hD⟩ := pl_bk (X := [_, _, _, _, _, _, _, _, _, _, _, _, _, _, _, _, _, _, _]) hT_1 hP rfl hc9_1 hD0_1 rfl
                        refine lv_iinc (v := nI (g5 + 1)) (lv' := [(7, .int (nI (g5 + 1))), (8, .ref r2), (6, .int 6), (5, .int (nI (nd - 1))), (4, .ref r), (0, .ref lw), (1, .ref sh), (2, .ref fe), (3, .int (-2))]) hx hb dX4_allows_187 hl (k := 1) rfl (nI_add g5 1) (Nat.le_of_ble_eq_true rfl) rfl (fun ls hl => ?_)
                        refine lv_goto (tgt := 115) hx hb dX4_allows_190 rfl ?_
                        exact ih_115 (g5 + 1) nt1 TX1 TY1 rt1 nw1 WX1 WY1 rw1 (iI (mnI (U2 0).toInt U2 (nN (mn g5)))) (iI (mnI (V2 0).toInt V2 (nN (mn g5)))) (iI (mxI (U2 0).toInt U2 (nN (mn g5)))) (iI (mxI (V2 0).toInt V2 (nN (mn g5)))) H locs ls (by first | with_reducible assumption | omega) (by first | with_reducible assumption | omega) (by intro q hq; rcases Nat.lt_or_ge q g5 with h | h; exact hall q h; rw [show q = g5 by omega]; intro h1 h2; first | exact absurd hif h1 | exact absurd h2.2.1 hs2 | exact absurd h2.2.2 ht2 | exact Or.inl (by first | with_reducible assumption | assumption) | exact Or.inr (by first | with_reducible assumption | assumption)) hP hD hS (lv_sub hl [0, 2, 3, 4, 5, 6, 7, 8] rfl)
                      · have c_12 : ¬ (apB (mnI (mnI (X 0).toInt X n) P nd) (mnI (mnI (Y 0).toInt Y n) Q nd) (mxI (mxI (X 0).toInt X n) P nd) (mxI (mxI (Y 0).toInt Y n) Q nd) (nN (mn g5)) (cF40 cx g5) (cF40 cy g5)) := zp_0 c_12
                        refine lv_aload_n hx hb dX4_allows_173 rfl (lv_at hl 5 rfl) ?_
                        refine lv_aload hx hb dX4_allows_174 (lv_at hl 4 rfl) ?_
                        refine lv_aload hx hb dX4_allows_176 (lv_at hl 0 rfl) ?_
                        refine lv_iload_n hx hb dX4_allows_178 rfl (lv_at hl 8 rfl) ?_
                        obtain ⟨hPc, hDc, hFc⟩ := zo_sub (wc := [_, _, _, _, _, _, _, _, _, _, _, _, _, _, _, _]) hP hD hS hA [0, 1, 2, 3, 4, 5, 6, 7, 8, 9, 16, 17, 18, 21, 22, 23] (by decide +kernel) rfl
                        refine zcall (st1 := [.int (pI (asb n X Y rg nd P Q rd (nN (mn g5)) U2 V2 rg2))]) (va_runV (As := [.ref r, .ref r2, .int (-2)]) (rest := []) ⟨hx, hb, hml, hown, hts⟩ (k_Law_isAsBefore_b l dC dI cI cZ cF H.size lw dr tg wy br bo aa tx ty nt1 TX1 TY1 rt1 wx wz nw1 WX1 WY1 rw1 dx dy nd cd P Q rd r rx ry n cap X Y rg r2 rx2 ry2 (nN (mn g5)) cap2 U2 V2 rg2 (by first | with_reducible assumption | omega) (by first | with_reducible assumption | omega) (by first | with_reducible assumption | assumption) (by first | with_reducible assumption | omega) (by first | with_reducible assumption | omega) (hp) (by first | with_reducible assumption | omega) (by first | with_reducible assumption | omega) (hq2) (by first | with_reducible assumption | omega) (by first | with_reducible assumption | omega) (by first | with_reducible assumption | omega) (by first | with_reducible assumption | omega)) (csV_69 hts rfl rfl ⟨Nat.le_of_ble_eq_true rfl, Nat.le_of_ble_eq_true rfl⟩) (zPV2 (q0 := 0) (ci := 3) hPc hDc hK hXN rfl rfl) rfl rfl hl.1 rfl (lv_room (Nat.le_of_ble_eq_true rfl)) dX4_allows_179 ⟨Nat.le_of_ble_eq_true rfl, Nat.le_of_ble_eq_true rfl⟩) hS hFc hFc rfl (fun t H locs ht hB hk1 hS => ?_)
                        refine ex8 hB (fun q_13 q_14 q_15 q_16 q_17 q_18 q_19 q_20 hB0 => ?_)
                        clear hB
                        obtain ⟨hP1, hD1⟩ := hB0
                        rw [ht] at hP1
                        obtain ⟨hP, hD⟩ := znQ (W2 := [_, (oc6 tg (.ref tx) (.ref ty) (nI q_13) q_16), (oa tx cI 3 q_14), (oa ty cI 3 q_15), (oc6 wy (.ref wx) (.ref wz) (nI q_17) q_20), (oa wx cI 2 q_18), (oa wz cI 2 q_19), _, _, _, _, _, _, _, _, _, _, _, _, _, _, _, _, _]) hP hD hk1 hFc hP1 hD1 zl_28 zl_29 zl_30 zl_28 (by decide +kernel) rfl rfl rfl rfl rfl
                        clear hk1 hPc hDc hFc hP1 hD1 ht
                        refine zz_i (v := pI (asb n X Y rg nd P Q rd (nN (mn g5)) (cF40 cx g5) (cF40 cy g5) (rgK (kd g5).toInt))) (by rw [← hrk2]; exact zp_iff (asb_cg h1m2 hrr2.2.2.2.2)) ?_
                        refine lv_if_ne (tgt := 187) hx hb dX4_allows_182 rfl (fun c_21 => ?_) (fun c_21 => ?_)
                        · have c_21 : asb n X Y rg nd P Q rd (nN (mn g5)) (cF40 cx g5) (cF40 cy g5) (rgK (kd g5).toInt) := zp_1 c_21
                          obtain ⟨hP, hD⟩ := pl_bk (X := [_, _, _, _, _, _, _, _, _, _, _, _, _, _, _, _, _, _, _]) hT_1 hP rfl hc9_1 hD0_1 rfl
                          refine lv_iinc (v := nI (g5 + 1)) (lv' := [(7, .int (nI (g5 + 1))), (8, .ref r2), (6, .int 6), (5, .int (nI (nd - 1))), (4, .ref r), (0, .ref lw), (1, .ref sh), (2, .ref fe), (3, .int (-2))]) hx hb dX4_allows_187 hl (k := 1) rfl (nI_add g5 1) (Nat.le_of_ble_eq_true rfl) rfl (fun ls hl => ?_)
                          refine lv_goto (tgt := 115) hx hb dX4_allows_190 rfl ?_
                          exact ih_115 (g5 + 1) q_13 q_14 q_15 q_16 q_17 q_18 q_19 q_20 (iI (mnI (U2 0).toInt U2 (nN (mn g5)))) (iI (mnI (V2 0).toInt V2 (nN (mn g5)))) (iI (mxI (U2 0).toInt U2 (nN (mn g5)))) (iI (mxI (V2 0).toInt V2 (nN (mn g5)))) H locs ls (by first | with_reducible assumption | omega) (by first | with_reducible assumption | omega) (by intro q hq; rcases Nat.lt_or_ge q g5 with h | h; exact hall q h; rw [show q = g5 by omega]; intro h1 h2; first | exact absurd hif h1 | exact absurd h2.2.1 hs2 | exact absurd h2.2.2 ht2 | exact Or.inl (by first | with_reducible assumption | assumption) | exact Or.inr (by first | with_reducible assumption | assumption)) hP hD hS (lv_sub hl [0, 2, 3, 4, 5, 6, 7, 8] rfl)
                        · have c_21 : ¬ (asb n X Y rg nd P Q rd (nN (mn g5)) (cF40 cx g5) (cF40 cy g5) (rgK (kd g5).toInt)) := zp_0 c_21
                          obtain ⟨hP, hD⟩ := pl_bk (X := [_, _, _, _, _, _, _, _, _, _, _, _, _, _, _, _, _, _, _]) hT_1 hP rfl hc9_1 hD0_1 rfl
                          refine lv_iconst (v := 0) hx hb dX4_allows_185 rfl ?_
                          obtain ⟨hP9, hD9⟩ := zu_part (cx := [_, _, _, _, _, _, _, _, _, _, _, _, _, _, _, _, _, _, _]) hP hD [true, true, true, true, true, true, true, true, true, true, true, true, true, true, true, true, true, true, true] rfl rfl
                          rw [hQ9]
                          exact W.zret (ty := .boolean) (v := 0) hx hb hr (rfl) (fun t ht hW => ⟨⟨congrArg (fun z => Outcome.returned (some (Value.int z))) (show (0 : Int32) = pI (pls nd P Q ∧ ((∀ i, i < edg nd rd → eFr nd P Q rd i (i + 1)) ∧ (¬ (6 : Int32).toInt = 6 ∨ ∀ k, k < nd → eRt nd P Q k)) ∧ ∀ q, q < ft → (q ≠ f0 → lvF ft st tn q → (apB (mnI (mnI (X 0).toInt X n) P nd) (mnI (mnI (Y 0).toInt Y n) Q nd) (mxI (mxI (X 0).toInt X n) P nd) (mxI (mxI (Y 0).toInt Y n) Q nd) (nN (mn q)) (cF40 cx q) (cF40 cy q) ∨ (asb n X Y rg nd P Q rd (nN (mn q)) (cF40 cx q) (cF40 cy q) (rgK (kd q).toInt))))) from (zp_f (fun h => by have h9 := h.2.2 g5 (by omega) hif hlv2; first | exact absurd h9 (fun h8 => h8.elim (fun h7 => absurd h7 (by first | with_reducible assumption | assumption)) (fun h7 => absurd h7 (by first | with_reducible assumption | assumption))))).symm), q_13, q_14, q_15, q_16, q_17, q_18, q_19, q_20, (iI (mnI (mnI (X 0).toInt X n) P nd)), (iI (mnI (mnI (Y 0).toInt Y n) Q nd)), (iI (mxI (mxI (X 0).toInt X n) P nd)), (iI (mxI (mxI (Y 0).toInt Y n) Q nd)), (iI (mnI (U2 0).toInt U2 (nN (mn g5)))), (iI (mnI (V2 0).toInt V2 (nN (mn g5)))), (iI (mxI (U2 0).toInt U2 (nN (mn g5)))), (iI (mxI (V2 0).toInt V2 (nN (mn g5)))), by rw [ht]; exact hP9, hD9⟩, hS.F ht⟩) hS.2.2 dX4_allows_186
                    · have c_11 : fe2 = fe := c_11
                      exfalso; exact absurd (by first | with_reducible assumption | assumption) (pl_sep (q := (oc1 fe rk9 wd9 tw9 pa9 pb9 (.ref lo) (.ref lk) fm9)) hD0_1 (by simp) hfe2.1)
            exact hl_115 _ 0 nt TX TY rt nw WX WY rw b5 b6 b7 b8 H locs ls (Nat.lt_succ_self _) (by first | with_reducible assumption | omega) (by intro q hq; omega) hP hD hS (lv_sub hl [0, 1, 2, 3, 4, 5, 6, 7] rfl)
          · have c_6 : ¬ ((∀ i, i < edg nd rd → eFr nd P Q rd i (i + 1)) ∧ (¬ (6 : Int32).toInt = 6 ∨ ∀ k, k < nd → eRt nd P Q k)) := zp_0 c_6
            refine lv_iconst (v := 0) hx hb dX4_allows_103 rfl ?_
            obtain ⟨hP9, hD9⟩ := zu_part (cx := [_, _, _, _, _, _, _, _, _, _, _, _, _, _, _, _, _, _, _]) hP hD [true, true, true, true, true, true, true, true, true, true, true, true, true, true, true, true, true, true, true] rfl rfl
            rw [hQ9]
            exact W.zret (ty := .boolean) (v := 0) hx hb hr (rfl) (fun t ht hW => ⟨⟨congrArg (fun z => Outcome.returned (some (Value.int z))) (show (0 : Int32) = pI (pls nd P Q ∧ ((∀ i, i < edg nd rd → eFr nd P Q rd i (i + 1)) ∧ (¬ (6 : Int32).toInt = 6 ∨ ∀ k, k < nd → eRt nd P Q k)) ∧ ∀ q, q < ft → (q ≠ f0 → lvF ft st tn q → (apB (mnI (mnI (X 0).toInt X n) P nd) (mnI (mnI (Y 0).toInt Y n) Q nd) (mxI (mxI (X 0).toInt X n) P nd) (mxI (mxI (Y 0).toInt Y n) Q nd) (nN (mn q)) (cF40 cx q) (cF40 cy q) ∨ (asb n X Y rg nd P Q rd (nN (mn q)) (cF40 cx q) (cF40 cy q) (rgK (kd q).toInt))))) from (zp_f (fun h => absurd h.2.1 (by first | with_reducible assumption | assumption))).symm), nt, TX, TY, rt, nw, WX, WY, rw, b1, b2, b3, b4, b5, b6, b7, b8, by rw [ht]; exact hP9, hD9⟩, hS.F ht⟩) hS.2.2 dX4_allows_104
        · exact absurd (by decide) c_5
  · have c_1 : ¬ (pls nd P Q) := zp_0 c_1
    refine lv_iconst (v := 0) hx hb dX4_allows_24 rfl ?_
    obtain ⟨hP9, hD9⟩ := zu_part (cx := [_, _, _, _, _, _, _, _, _, _, _, _, _, _, _, _, _, _, _]) hP hD [true, true, true, true, true, true, true, true, true, true, true, true, true, true, true, true, true, true, true] rfl rfl
    rw [hQ9]
    exact W.zret (ty := .boolean) (v := 0) hx hb hr (rfl) (fun t ht hW => ⟨⟨congrArg (fun z => Outcome.returned (some (Value.int z))) (show (0 : Int32) = pI (pls nd P Q ∧ ((∀ i, i < edg nd rd → eFr nd P Q rd i (i + 1)) ∧ (¬ (6 : Int32).toInt = 6 ∨ ∀ k, k < nd → eRt nd P Q k)) ∧ ∀ q, q < ft → (q ≠ f0 → lvF ft st tn q → (apB (mnI (mnI (X 0).toInt X n) P nd) (mnI (mnI (Y 0).toInt Y n) Q nd) (mxI (mxI (X 0).toInt X n) P nd) (mxI (mxI (Y 0).toInt Y n) Q nd) (nN (mn q)) (cF40 cx q) (cF40 cy q) ∨ (asb n X Y rg nd P Q rd (nN (mn q)) (cF40 cx q) (cF40 cy q) (rgK (kd q).toInt))))) from (zp_f (fun h => absurd h.1 (by first | with_reducible assumption | assumption))).symm), nt, TX, TY, rt, nw, WX, WY, rw, b1, b2, b3, b4, b5, b6, b7, b8, by rw [ht]; exact hP9, hD9⟩, hS.F ht⟩) hS.2.2 dX4_allows_25
end
section
/-! two features' cells out of the pool -/
theorem vw5 {cI : ClassId} {L : List Nat} {f : Nat → va_E} {FA : Nat → Option Nat} {kd st tn mn cx cy : Nat → Int32} {i f0 g0 ft : Nat} (h : i < ft → i ≠ f0 → i ≠ g0 → vwO cI L f FA kd st tn mn cx cy i) (hi : i < ft) :
    i = f0 ∨ (i ≠ f0 ∧ i = g0) ∨ ((i ≠ f0 ∧ i ≠ g0) ∧ ¬ (st i).toInt = 1 ∧ vwS L f FA kd st i) ∨ ((i ≠ f0 ∧ i ≠ g0) ∧ ¬ (tn i).toInt = 0 ∧ vwT L f FA kd st i) ∨ ((i ≠ f0 ∧ i ≠ g0) ∧ lvF ft st tn i ∧ vwL cI L f FA kd st mn cx cy i) := by
  by_cases e : i = f0
  · exact Or.inl e
  · by_cases e2 : i = g0
    · exact Or.inr (Or.inl ⟨e, e2⟩)
    · have v := h hi e e2
      by_cases s1 : (st i).toInt = 1
      · by_cases t0 : (tn i).toInt = 0
        · exact Or.inr (Or.inr (Or.inr (Or.inr ⟨⟨e, e2⟩, ⟨hi, s1, t0⟩, v.2.2 t0⟩)))
        · exact Or.inr (Or.inr (Or.inr (Or.inl ⟨⟨e, e2⟩, t0, v.2.1 t0⟩)))
      · exact Or.inr (Or.inr (Or.inl ⟨⟨e, e2⟩, s1, v.1⟩))
end
section
set_option maxHeartbeats 4000000 in
set_option maxRecDepth 100000 in
theorem k_Law_isFreeFor_1 (l : Launch) (dC : Nat → ClassId) (dI : Nat → Nat → Nat) (cI cZ cF : ClassId) (sz : Nat) (lw : Nat) (dr : Nat) (tg : Nat) (wy : Nat) (br : Nat) (bo : Nat) (aa : Nat) (dx : Nat) (dy : Nat) (nd : Nat) (cd : Nat) (P : Nat → Int32) (Q : Nat → Int32) (rd : Int32) (sh : Nat) (fa : Nat) (ft : Nat) (FA : Nat → Option Nat) (fe : Nat) (lo : Nat) (rk9 : Int32) (wd9 : Int32) (tw9 : Int32) (pa9 : Int32) (pb9 : Int32) (lk : Nat) (kd9 : Int32) (st9 : Int32) (gb9 : Int32) (jt9 : Int32) (we9 : Int32) (r : Nat) (f0 : Nat) (fm9 : Value) (L : List Nat) (f : Nat → va_E) (kd : Nat → Int32) (st : Nat → Int32) (tn : Nat → Int32) (mn : Nat → Int32) (cx : Nat → Int32) (cy : Nat → Int32) (h200 : ft ≤ 200) (hf0 : f0 < ft) (hFA : FA f0 = some fe) (hs1 : st9.toInt = 1) (hvw : ∀ q, q < ft → q ≠ f0 → vwO cI L f FA kd st tn mn cx cy q) (hwf : ∀ q, lvF ft st tn q → wfM mn cx cy q) (hkn : okN ft st tn kd mn) (hnd : nd ≤ cd) (hcd : cd ≤ 1000) (hpd : pls nd P Q) : zM l yX4_isFreeFor cX4_isFreeFor 6 (some .boolean) ({ frames := 3, cells := 0, slots := 0, locals := 65 } : Room) [.ref lw, .ref sh, .ref fe, .ref fe] (dC, dI) (zTy cI cZ cF) ([(oc3 lw (.ref dr) (.ref tg) (.ref wy) (.ref br) (.ref bo) (.ref aa)), (oc6 dr (.ref dx) (.ref dy) (nI nd) rd), (oa dx cI cd P), (oa dy cI cd Q), (oc7 sh (.ref fa) (nI ft)), (oq fa cF 200 FA), (oc1 fe rk9 wd9 tw9 pa9 pb9 (.ref lo) (.ref lk) fm9), (oc4 lk kd9 st9 (.ref r) gb9 jt9 we9)] ++ va_pl L f) sz (some (.int (pI (∀ q, q < ft → (q ≠ f0 → lvF ft st tn q → ¬ tch nd P Q rd (nN (mn q)) (cF40 cx q) (cF40 cy q) (rgK (kd q).toInt) ∧ ¬ inF 5 nd P Q (cF40 cx q 0).toInt (cF40 cy q 0).toInt))))) (fun A t => zPD (dC, dI) classes A ([(oc3 lw (.ref dr) (.ref tg) (.ref wy) (.ref br) (.ref bo) (.ref aa)), (oc6 dr (.ref dx) (.ref dy) (nI nd) rd), (oa dx cI cd P), (oa dy cI cd Q), (oc7 sh (.ref fa) (nI ft)), (oq fa cF 200 FA), (oc1 fe rk9 wd9 tw9 pa9 pb9 (.ref lo) (.ref lk) fm9), (oc4 lk kd9 st9 (.ref r) gb9 jt9 we9)] ++ va_pl L f) t.heap) 0 0 := by
  refine zIn (own := "ScaleShop$Law") (loc := [(0, .ref lw), (1, .ref sh), (2, .ref fe), (3, .ref fe)]) rfl rfl rfl rfl (fun p e s m below meth c hx hb hr hts hown hlocks hml hnm9 A hA hS hP hD hK hXN Q9 hQ9 ls hl => ?_)
  refine lv_iconst (v := 0) hx hb dX4_isFreeFor_0 rfl ?_
  refine lv_istore (lv' := [(4, .int 0), (0, .ref lw), (1, .ref sh), (2, .ref fe), (3, .ref fe)]) hx hb dX4_isFreeFor_1 hl (Nat.le_of_ble_eq_true rfl) rfl (fun ls hl => ?_)
  have hl_3 : ∀ (n9 : Nat) (g5 : Nat) (H : Heap) (locs : List Loc) (ls : Array Slot), ft - g5 < n9 → (g5 ≤ ft) → (∀ q, q < g5 → (q ≠ f0 → lvF ft st tn q → ¬ tch nd P Q rd (nN (mn q)) (cF40 cx q) (cF40 cy q) (rgK (kd q).toInt) ∧ ¬ inF 5 nd P Q (cF40 cx q 0).toInt (cF40 cy q 0).toInt)) → va_P (dC, dI) classes ([(oc3 lw (.ref dr) (.ref tg) (.ref wy) (.ref br) (.ref bo) (.ref aa)), (oc6 dr (.ref dx) (.ref dy) (nI nd) rd), (oa dx cI cd P), (oa dy cI cd Q), (oc7 sh (.ref fa) (nI ft)), (oq fa cF 200 FA), (oc1 fe rk9 wd9 tw9 pa9 pb9 (.ref lo) (.ref lk) fm9), (oc4 lk kd9 st9 (.ref r) gb9 jt9 we9)] ++ va_pl L f) H → va_D A ([(oc3 lw (.ref dr) (.ref tg) (.ref wy) (.ref br) (.ref bo) (.ref aa)), (oc6 dr (.ref dx) (.ref dy) (nI nd) rd), (oa dx cI cd P), (oa dy cI cd Q), (oc7 sh (.ref fa) (nI ft)), (oq fa cF 200 FA), (oc1 fe rk9 wd9 tw9 pa9 pb9 (.ref lo) (.ref lk) fm9), (oc4 lk kd9 st9 (.ref r) gb9 jt9 we9)] ++ va_pl L f) → va_S A s.heap H locs → lv_has ls 6 [(4, .int (nI g5)), (0, .ref lw), (1, .ref sh), (2, .ref fe), (3, .ref fe)] → W p l e ({ frames := 3, cells := 0, slots := 0, locals := 65 } : Room) s m ([.ref lw, .ref sh, .ref fe, .ref fe] : List Value).toArray below meth c H locs 0 0 Q9 (F0 m 3 ls []) := by
    intro n9
    induction n9 with
    | zero => intro g5 H locs ls hm; exact absurd hm (Nat.not_lt_zero _)
    | succ n9 ih_3 =>
      intro g5 H locs ls hm hi5 hall hP hD hS hl
      refine lv_iload hx hb dX4_isFreeFor_3 (lv_at hl 0 rfl) ?_
      refine lv_aload_n hx hb dX4_isFreeFor_5 rfl (lv_at hl 2 rfl) ?_
      refine va_get (D := (dC, dI)) (ci := 7) (v := .int (nI ft)) (C := RX8) (T := TX8) (N := 2) hx hb hts inX8 hown hK hP 4 rfl rfl 1 (Nat.le_of_ble_eq_true rfl) (hts _ mw_139) (fun _ h9 => h9) rfl dX4_isFreeFor_6 ?_
      have b9_2 : zlt (g5) := show g5 < 2147483648 by omega
      have b9_3 : zlt (ft) := show ft < 2147483648 by omega
      refine lv_icmp_ge (tgt := 80) hx hb dX4_isFreeFor_9 rfl (fun c_1 => ?_) (fun c_1 => ?_)
      · have c_1 : ((ft : Nat) : Int) ≤ ((g5 : Nat) : Int) := zc_le (nI_toInt b9_3) (nI_toInt b9_2) c_1
        refine lv_iconst (v := 1) hx hb dX4_isFreeFor_80 rfl ?_
        obtain ⟨hP9, hD9⟩ := zu_part (cx := [_, _, _, _, _, _, _, _]) hP hD [true, true, true, true, true, true, true, true] rfl rfl
        rw [hQ9]
        exact W.zret (ty := .boolean) (v := 1) hx hb hr (rfl) (fun t ht hW => ⟨⟨congrArg (fun z => Outcome.returned (some (Value.int z))) (show (1 : Int32) = pI (∀ q, q < ft → (q ≠ f0 → lvF ft st tn q → ¬ tch nd P Q rd (nN (mn q)) (cF40 cx q) (cF40 cy q) (rgK (kd q).toInt) ∧ ¬ inF 5 nd P Q (cF40 cx q 0).toInt (cF40 cy q 0).toInt)) from (zp_t (fun q hq => hall q (by omega))).symm), by rw [ht]; exact hP9, hD9⟩, hS.F ht⟩) hS.2.2 dX4_isFreeFor_81
      · have c_1 : ((g5 : Nat) : Int) < ((ft : Nat) : Int) := zc_nle (nI_toInt b9_3) (nI_toInt b9_2) c_1
        rcases vw4 (hvw g5) (show g5 < ft by omega) with hif | ⟨hif, hs2, fe2, lk2, lo2, rk2, wd2, tw2, pa2, pb2, gb2, jt2, we2, fm2, rw2, hFA2, hfe2, hlk2⟩ | ⟨hif, ht2, fe2, lk2, lo2, rk2, wd2, tw2, pa2, pb2, gb2, jt2, we2, fm2, hFA2, hfe2, hlk2⟩ | ⟨hif, hlv2, fe2, lk2, lo2, rk2, wd2, tw2, pa2, pb2, gb2, jt2, we2, fm2, r2, rx2, ry2, cap2, U2, V2, rg2, hFA2, hfe2, hlk2, ⟨hr2, hrx2, hry2, hne2⟩, hrr2⟩
        · skip
          have hFi : FA g5 = some fe := (by rw [hif]; exact hFA)
          refine lv_aload_n hx hb dX4_isFreeFor_12 rfl (lv_at hl 2 rfl) ?_
          refine lv_iload hx hb dX4_isFreeFor_13 (lv_at hl 0 rfl) ?_
          obtain ⟨hPc, hDc, hFc, hI1⟩ := zi_sub (wc := [_, _, _, _]) hP hD hS hA [4, 5, 6, 7] (by decide +kernel) rfl
          refine zcall (st1 := [.ref r]) (va_runV (As := [.int (nI g5)]) (rest := []) ⟨hx, hb, hml, hown, hts⟩ (k_Sheet_rowThere_yv l dC dI cI cZ cF H.size sh fa ft FA g5 fe lo rk9 wd9 tw9 pa9 pb9 lk kd9 st9 gb9 jt9 we9 r fm9 (by first | with_reducible assumption | omega) (by first | with_reducible assumption | omega) (by first | exact hFi | exact hFA2) (by first | exact hs1 | exact hs2 | exact hlv2.2.1)) (csV_62 hts rfl rfl ⟨Nat.le_of_ble_eq_true rfl, Nat.le_of_ble_eq_true rfl⟩) (zPV2 (q0 := 0) (ci := 7) hPc hDc hK hXN rfl rfl) rfl rfl hl.1 rfl (lv_room (Nat.le_of_ble_eq_true rfl)) dX4_isFreeFor_15 ⟨Nat.le_of_ble_eq_true rfl, Nat.le_of_ble_eq_true rfl⟩) hS hFc hFc rfl (fun t H locs ht hB hk1 hS => ?_)
          obtain ⟨hP1, hD1⟩ := hB
          rw [ht] at hP1
          replace hP := z0 hP hD hk1 hP1 hI1
          clear hk1 hPc hDc hFc hP1 hD1 ht hI1
          refine lv_astore (lv' := [(5, .ref r), (4, .int (nI g5)), (0, .ref lw), (1, .ref sh), (2, .ref fe), (3, .ref fe)]) hx hb dX4_isFreeFor_18 hl (Nat.le_of_ble_eq_true rfl) rfl (fun ls hl => ?_)
          refine lv_aload hx hb dX4_isFreeFor_20 (lv_at hl 0 rfl) ?_
          refine lv_ifnull hx hb dX4_isFreeFor_22 ?_
          refine lv_aload_n hx hb dX4_isFreeFor_25 rfl (lv_at hl 3 rfl) ?_
          refine lv_iload hx hb dX4_isFreeFor_26 (lv_at hl 1 rfl) ?_
          obtain ⟨hPc, hDc, hFc, hI1⟩ := zi_sub (wc := [_, _]) hP hD hS hA [4, 5] rfl rfl
          refine zcall (st1 := [.ref fe]) (va_runV (As := [.int (nI g5)]) (rest := []) ⟨hx, hb, hml, hown, hts⟩ (k_Sheet_find l dC dI cI cZ cF H.size sh fa ft FA g5 fe (by first | with_reducible assumption | omega) (by first | with_reducible assumption | omega) (by first | exact hFi | exact hFA2)) (csV_63 hts rfl rfl ⟨Nat.le_of_ble_eq_true rfl, Nat.le_of_ble_eq_true rfl⟩) (zPV2 (q0 := 0) (ci := 7) hPc hDc hK hXN rfl rfl) rfl rfl hl.1 rfl (lv_room (Nat.le_of_ble_eq_true rfl)) dX4_isFreeFor_28 ⟨Nat.le_of_ble_eq_true rfl, Nat.le_of_ble_eq_true rfl⟩) hS hFc hFc rfl (fun t H locs ht hB hk1 hS => ?_)
          obtain ⟨hP1, hD1⟩ := hB
          rw [ht] at hP1
          replace hP := z0 hP hD hk1 hP1 hI1
          clear hk1 hPc hDc hFc hP1 hD1 ht hI1
          refine lv_aload_n hx hb dX4_isFreeFor_31 rfl (lv_at hl 4 rfl) ?_
          refine z_acmpeq (rx := fe) (ry := fe) (tgt := 74) hx hb dX4_isFreeFor_32 (by decide) (fun c_4 => ?_) (fun c_4 => ?_)
          · have c_4 : fe = fe := c_4
            refine lv_iinc (v := nI (g5 + 1)) (lv' := [(4, .int (nI (g5 + 1))), (5, .ref r), (0, .ref lw), (1, .ref sh), (2, .ref fe), (3, .ref fe)]) hx hb dX4_isFreeFor_74 hl (k := 1) rfl (nI_add g5 1) (Nat.le_of_ble_eq_true rfl) rfl (fun ls hl => ?_)
            refine lv_goto (tgt := 3) hx hb dX4_isFreeFor_77 rfl ?_
            exact ih_3 (g5 + 1) H locs ls (by first | with_reducible assumption | omega) (by first | with_reducible assumption | omega) (by intro q hq; rcases Nat.lt_or_ge q g5 with h | h; exact hall q h; rw [show q = g5 by omega]; intro h1 h2; first | exact absurd hif h1 | exact absurd h2.2.1 hs2 | exact absurd h2.2.2 ht2 | exact ⟨by assumption, by assumption⟩) hP hD hS (lv_sub hl [0, 2, 3, 4, 5] rfl)
          · have c_4 : ¬ fe = fe := c_4
            exact absurd rfl c_4
        · skip
          have hc9_1 : inPl L f [(oc1 fe2 rk2 wd2 tw2 pa2 pb2 (.ref lo2) (.ref lk2) fm2), (oc4 lk2 (kd g5) (st g5) rw2 gb2 jt2 we2)] := ⟨hfe2, hlk2, trivial⟩
          have hD0_1 := hD
          obtain ⟨T_1, hT_1, hP, hD⟩ := pl_oT hP hD hc9_1 (pwF hfe2.2 hlk2.2)
          obtain ⟨hP, hD⟩ := zre (W2 := ([_, _, _, _, _, _, _, _, _, _] ++ va_pl T_1 f)) hP hD rfl
          refine lv_aload_n hx hb dX4_isFreeFor_12 rfl (lv_at hl 2 rfl) ?_
          refine lv_iload hx hb dX4_isFreeFor_13 (lv_at hl 0 rfl) ?_
          obtain ⟨hPc, hDc, hFc, hI1⟩ := zi_sub (wc := [_, _, _, _]) hP hD hS hA [4, 5, 8, 9] (by decide +kernel) rfl
          refine zcall (st1 := [.null]) (va_runV (As := [.int (nI g5)]) (rest := []) ⟨hx, hb, hml, hown, hts⟩ (k_Sheet_rowThere_sv l dC dI cI cZ cF H.size sh fa ft FA g5 fe2 lo2 rk2 wd2 tw2 pa2 pb2 lk2 (kd g5) (st g5) gb2 jt2 we2 fm2 rw2 (by first | with_reducible assumption | omega) (by first | with_reducible assumption | omega) (by first | exact hFi | exact hFA2) (by first | exact hs1 | exact hs2 | exact hlv2.2.1)) (csV_62 hts rfl rfl ⟨Nat.le_of_ble_eq_true rfl, Nat.le_of_ble_eq_true rfl⟩) (zPV2 (q0 := 0) (ci := 7) hPc hDc hK hXN rfl rfl) rfl rfl hl.1 rfl (lv_room (Nat.le_of_ble_eq_true rfl)) dX4_isFreeFor_15 ⟨Nat.le_of_ble_eq_true rfl, Nat.le_of_ble_eq_true rfl⟩) hS hFc hFc rfl (fun t H locs ht hB hk1 hS => ?_)
          obtain ⟨hP1, hD1⟩ := hB
          rw [ht] at hP1
          replace hP := z0 hP hD hk1 hP1 hI1
          clear hk1 hPc hDc hFc hP1 hD1 ht hI1
          refine lv_astoreN (lv' := [(5, .null), (4, .int (nI g5)), (0, .ref lw), (1, .ref sh), (2, .ref fe), (3, .ref fe)]) hx hb dX4_isFreeFor_18 hl (Nat.le_of_ble_eq_true rfl) rfl (fun ls hl => ?_)
          refine lv_aloadN hx hb dX4_isFreeFor_20 (lv_at hl 0 rfl) ?_
          refine lv_ifnullN (tgt := 74) hx hb dX4_isFreeFor_22 rfl ?_
          obtain ⟨hP, hD⟩ := pl_bk (X := [_, _, _, _, _, _, _, _]) hT_1 hP rfl hc9_1 hD0_1 rfl
          refine lv_iinc (v := nI (g5 + 1)) (lv' := [(4, .int (nI (g5 + 1))), (5, .null), (0, .ref lw), (1, .ref sh), (2, .ref fe), (3, .ref fe)]) hx hb dX4_isFreeFor_74 hl (k := 1) rfl (nI_add g5 1) (Nat.le_of_ble_eq_true rfl) rfl (fun ls hl => ?_)
          refine lv_goto (tgt := 3) hx hb dX4_isFreeFor_77 rfl ?_
          exact ih_3 (g5 + 1) H locs ls (by first | with_reducible assumption | omega) (by first | with_reducible assumption | omega) (by intro q hq; rcases Nat.lt_or_ge q g5 with h | h; exact hall q h; rw [show q = g5 by omega]; intro h1 h2; first | exact absurd hif h1 | exact absurd h2.2.1 hs2 | exact absurd h2.2.2 ht2 | exact ⟨by assumption, by assumption⟩) hP hD hS (lv_sub hl [0, 2, 3, 4, 5] rfl)
        · skip
          have hc9_1 : inPl L f [(oc1 fe2 rk2 wd2 tw2 pa2 pb2 (.ref lo2) (.ref lk2) fm2), (oc4 lk2 (kd g5) (st g5) .null gb2 jt2 we2)] := ⟨hfe2, hlk2, trivial⟩
          have hD0_1 := hD
          obtain ⟨T_1, hT_1, hP, hD⟩ := pl_oT hP hD hc9_1 (pwF hfe2.2 hlk2.2)
          obtain ⟨hP, hD⟩ := zre (W2 := ([_, _, _, _, _, _, _, _, _, _] ++ va_pl T_1 f)) hP hD rfl
          refine lv_aload_n hx hb dX4_isFreeFor_12 rfl (lv_at hl 2 rfl) ?_
          refine lv_iload hx hb dX4_isFreeFor_13 (lv_at hl 0 rfl) ?_
          obtain ⟨hPc, hDc, hFc, hI1⟩ := zi_sub (wc := [_, _, _, _]) hP hD hS hA [4, 5, 8, 9] (by decide +kernel) rfl
          refine zcall (st1 := [.null]) (va_runV (As := [.int (nI g5)]) (rest := []) ⟨hx, hb, hml, hown, hts⟩ (k_Sheet_rowThere_tv l dC dI cI cZ cF H.size sh fa ft FA g5 fe2 lo2 rk2 wd2 tw2 pa2 pb2 lk2 (kd g5) (st g5) gb2 jt2 we2 fm2 (by first | with_reducible assumption | omega) (by first | with_reducible assumption | omega) (by first | exact hFi | exact hFA2)) (csV_62 hts rfl rfl ⟨Nat.le_of_ble_eq_true rfl, Nat.le_of_ble_eq_true rfl⟩) (zPV2 (q0 := 0) (ci := 7) hPc hDc hK hXN rfl rfl) rfl rfl hl.1 rfl (lv_room (Nat.le_of_ble_eq_true rfl)) dX4_isFreeFor_15 ⟨Nat.le_of_ble_eq_true rfl, Nat.le_of_ble_eq_true rfl⟩) hS hFc hFc rfl (fun t H locs ht hB hk1 hS => ?_)
          obtain ⟨hP1, hD1⟩ := hB
          rw [ht] at hP1
          replace hP := z0 hP hD hk1 hP1 hI1
          clear hk1 hPc hDc hFc hP1 hD1 ht hI1
          refine lv_astoreN (lv' := [(5, .null), (4, .int (nI g5)), (0, .ref lw), (1, .ref sh), (2, .ref fe), (3, .ref fe)]) hx hb dX4_isFreeFor_18 hl (Nat.le_of_ble_eq_true rfl) rfl (fun ls hl => ?_)
          refine lv_aloadN hx hb dX4_isFreeFor_20 (lv_at hl 0 rfl) ?_
          refine lv_ifnullN (tgt := 74) hx hb dX4_isFreeFor_22 rfl ?_
          obtain ⟨hP, hD⟩ := pl_bk (X := [_, _, _, _, _, _, _, _]) hT_1 hP rfl hc9_1 hD0_1 rfl
          refine lv_iinc (v := nI (g5 + 1)) (lv' := [(4, .int (nI (g5 + 1))), (5, .null), (0, .ref lw), (1, .ref sh), (2, .ref fe), (3, .ref fe)]) hx hb dX4_isFreeFor_74 hl (k := 1) rfl (nI_add g5 1) (Nat.le_of_ble_eq_true rfl) rfl (fun ls hl => ?_)
          refine lv_goto (tgt := 3) hx hb dX4_isFreeFor_77 rfl ?_
          exact ih_3 (g5 + 1) H locs ls (by first | with_reducible assumption | omega) (by first | with_reducible assumption | omega) (by intro q hq; rcases Nat.lt_or_ge q g5 with h | h; exact hall q h; rw [show q = g5 by omega]; intro h1 h2; first | exact absurd hif h1 | exact absurd h2.2.1 hs2 | exact absurd h2.2.2 ht2 | exact ⟨by assumption, by assumption⟩) hP hD hS (lv_sub hl [0, 2, 3, 4, 5] rfl)
        · skip
          have hw2 := hwf g5 hlv2
          have hn2 := hw2.2.1
          have hq2 := rw_pls hrr2 hw2
          have hkn2 := hkn g5 hlv2
          have hcap2 := hrr2.1
          have hcap3 := hrr2.2.1
          have h1m2 : 1 ≤ nN (mn g5) := hw2.2.1.1
          have hrk2 := rgK_e hrr2.2.2.2.1
          have hc02 := hrr2.2.2.2.2 0 h1m2
          have hc9_1 : inPl L f [(oc1 fe2 rk2 wd2 tw2 pa2 pb2 (.ref lo2) (.ref lk2) fm2), (oc4 lk2 (kd g5) (st g5) (.ref r2) gb2 jt2 we2), (oc6 r2 (.ref rx2) (.ref ry2) (nI (nN (mn g5))) rg2), (oa rx2 cI cap2 U2), (oa ry2 cI cap2 V2)] := ⟨hfe2, hlk2, hr2, hrx2, hry2, trivial⟩
          have hD0_1 := hD
          obtain ⟨T_1, hT_1, hP, hD⟩ := pl_oT hP hD hc9_1 (pwR hfe2.2 hlk2.2 hr2.2 hrx2.2 hry2.2 hne2)
          obtain ⟨hP, hD⟩ := zre (W2 := ([_, _, _, _, _, _, _, _, _, _, _, _, _] ++ va_pl T_1 f)) hP hD rfl
          refine lv_aload_n hx hb dX4_isFreeFor_12 rfl (lv_at hl 2 rfl) ?_
          refine lv_iload hx hb dX4_isFreeFor_13 (lv_at hl 0 rfl) ?_
          obtain ⟨hPc, hDc, hFc, hI1⟩ := zi_sub (wc := [_, _, _, _]) hP hD hS hA [4, 5, 8, 9] (by decide +kernel) rfl
          refine zcall (st1 := [.ref r2]) (va_runV (As := [.int (nI g5)]) (rest := []) ⟨hx, hb, hml, hown, hts⟩ (k_Sheet_rowThere_yv l dC dI cI cZ cF H.size sh fa ft FA g5 fe2 lo2 rk2 wd2 tw2 pa2 pb2 lk2 (kd g5) (st g5) gb2 jt2 we2 r2 fm2 (by first | with_reducible assumption | omega) (by first | with_reducible assumption | omega) (by first | exact hFi | exact hFA2) (by first | exact hs1 | exact hs2 | exact hlv2.2.1)) (csV_62 hts rfl rfl ⟨Nat.le_of_ble_eq_true rfl, Nat.le_of_ble_eq_true rfl⟩) (zPV2 (q0 := 0) (ci := 7) hPc hDc hK hXN rfl rfl) rfl rfl hl.1 rfl (lv_room (Nat.le_of_ble_eq_true rfl)) dX4_isFreeFor_15 ⟨Nat.le_of_ble_eq_true rfl, Nat.le_of_ble_eq_true rfl⟩) hS hFc hFc rfl (fun t H locs ht hB hk1 hS => ?_)
          obtain ⟨hP1, hD1⟩ := hB
          rw [ht] at hP1
          replace hP := z0 hP hD hk1 hP1 hI1
          clear hk1 hPc hDc hFc hP1 hD1 ht hI1
          refine lv_astore (lv' := [(5, .ref r2), (4, .int (nI g5)), (0, .ref lw), (1, .ref sh), (2, .ref fe), (3, .ref fe)]) hx hb dX4_isFreeFor_18 hl (Nat.le_of_ble_eq_true rfl) rfl (fun ls hl => ?_)
          refine lv_aload hx hb dX4_isFreeFor_20 (lv_at hl 0 rfl) ?_
          refine lv_ifnull hx hb dX4_isFreeFor_22 ?_
          refine lv_aload_n hx hb dX4_isFreeFor_25 rfl (lv_at hl 3 rfl) ?_
          refine lv_iload hx hb dX4_isFreeFor_26 (lv_at hl 1 rfl) ?_
          obtain ⟨hPc, hDc, hFc, hI1⟩ := zi_sub (wc := [_, _]) hP hD hS hA [4, 5] rfl rfl
          refine zcall (st1 := [.ref fe2]) (va_runV (As := [.int (nI g5)]) (rest := []) ⟨hx, hb, hml, hown, hts⟩ (k_Sheet_find l dC dI cI cZ cF H.size sh fa ft FA g5 fe2 (by first | with_reducible assumption | omega) (by first | with_reducible assumption | omega) (by first | exact hFi | exact hFA2)) (csV_63 hts rfl rfl ⟨Nat.le_of_ble_eq_true rfl, Nat.le_of_ble_eq_true rfl⟩) (zPV2 (q0 := 0) (ci := 7) hPc hDc hK hXN rfl rfl) rfl rfl hl.1 rfl (lv_room (Nat.le_of_ble_eq_true rfl)) dX4_isFreeFor_28 ⟨Nat.le_of_ble_eq_true rfl, Nat.le_of_ble_eq_true rfl⟩) hS hFc hFc rfl (fun t H locs ht hB hk1 hS => ?_)
          obtain ⟨hP1, hD1⟩ := hB
          rw [ht] at hP1
          replace hP := z0 hP hD hk1 hP1 hI1
          clear hk1 hPc hDc hFc hP1 hD1 ht hI1
          refine lv_aload_n hx hb dX4_isFreeFor_31 rfl (lv_at hl 4 rfl) ?_
          refine z_acmpeq (rx := fe2) (ry := fe) (tgt := 74) hx hb dX4_isFreeFor_32 (by decide) (fun c_5 => ?_) (fun c_5 => ?_)
          · have c_5 : fe2 = fe := c_5
            exfalso; exact absurd (by first | with_reducible assumption | assumption) (pl_sep (q := (oc1 fe rk9 wd9 tw9 pa9 pb9 (.ref lo) (.ref lk) fm9)) hD0_1 (by simp) hfe2.1)
          · have c_5 : ¬ fe2 = fe := c_5
            refine lv_aload_n hx hb dX4_isFreeFor_35 rfl (lv_at hl 3 rfl) ?_
            refine lv_iload hx hb dX4_isFreeFor_36 (lv_at hl 1 rfl) ?_
            obtain ⟨hPc, hDc, hFc, hI1⟩ := zi_sub (wc := [_, _]) hP hD hS hA [4, 5] rfl rfl
            refine zcall (st1 := [.ref fe2]) (va_runV (As := [.int (nI g5)]) (rest := []) ⟨hx, hb, hml, hown, hts⟩ (k_Sheet_find l dC dI cI cZ cF H.size sh fa ft FA g5 fe2 (by first | with_reducible assumption | omega) (by first | with_reducible assumption | omega) (by first | exact hFi | exact hFA2)) (csV_63 hts rfl rfl ⟨Nat.le_of_ble_eq_true rfl, Nat.le_of_ble_eq_true rfl⟩) (zPV2 (q0 := 0) (ci := 7) hPc hDc hK hXN rfl rfl) rfl rfl hl.1 rfl (lv_room (Nat.le_of_ble_eq_true rfl)) dX4_isFreeFor_38 ⟨Nat.le_of_ble_eq_true rfl, Nat.le_of_ble_eq_true rfl⟩) hS hFc hFc rfl (fun t H locs ht hB hk1 hS => ?_)
            obtain ⟨hP1, hD1⟩ := hB
            rw [ht] at hP1
            replace hP := z0 hP hD hk1 hP1 hI1
            clear hk1 hPc hDc hFc hP1 hD1 ht hI1
            refine lv_aload_n hx hb dX4_isFreeFor_41 rfl (lv_at hl 5 rfl) ?_
            refine z_acmpne (rx := fe2) (ry := fe) (tgt := 48) hx hb dX4_isFreeFor_42 (by decide) (fun c_6 => ?_) (fun c_6 => ?_)
            · have c_6 : ¬ fe2 = fe := c_6
              refine lv_aload_n hx hb dX4_isFreeFor_48 rfl (lv_at hl 2 rfl) ?_
              refine va_get (D := (dC, dI)) (ci := 3) (v := .ref dr) (C := RX4) (T := TX4) (N := 6) hx hb hts inX4 hown hK hP 0 rfl rfl 0 (Nat.le_of_ble_eq_true rfl) (hts _ mw_219) (fun _ h9 => h9) rfl dX4_isFreeFor_49 ?_
              refine lv_aload hx hb dX4_isFreeFor_52 (lv_at hl 0 rfl) ?_
              obtain ⟨hPc, hDc, hFc, hI1⟩ := zi_sub (wc := [_, _, _, _, _, _]) hP hD hS hA [1, 2, 3, 10, 11, 12] (by decide +kernel) rfl
              refine zcall (st1 := [.int (pI (∃ i, i < prt nd rd ∧ ∃ j, j < prt (nN (mn g5)) rg2 ∧ eMt nd P Q i (nN (mn g5)) U2 V2 j))]) (va_runV (As := [.ref r2]) (rest := []) ⟨hx, hb, hml, hown, hts⟩ (k_Row_touches l dC dI cI cZ cF H.size dr dx dy nd cd P Q rd r2 rx2 ry2 (nN (mn g5)) cap2 U2 V2 rg2 (by first | with_reducible assumption | omega) (by first | with_reducible assumption | omega) (hpd) (by first | with_reducible assumption | omega) (by first | with_reducible assumption | omega) (hq2)) (csV_56 hts rfl rfl ⟨Nat.le_of_ble_eq_true rfl, Nat.le_of_ble_eq_true rfl⟩) (zPV2 (q0 := 0) (ci := 6) hPc hDc hK hXN rfl rfl) rfl rfl hl.1 rfl (lv_room (Nat.le_of_ble_eq_true rfl)) dX4_isFreeFor_54 ⟨Nat.le_of_ble_eq_true rfl, Nat.le_of_ble_eq_true rfl⟩) hS hFc hFc rfl (fun t H locs ht hB hk1 hS => ?_)
              obtain ⟨hP1, hD1⟩ := hB
              rw [ht] at hP1
              replace hP := z0 hP hD hk1 hP1 hI1
              clear hk1 hPc hDc hFc hP1 hD1 ht hI1
              refine zz_i (v := pI (tch nd P Q rd (nN (mn g5)) (cF40 cx g5) (cF40 cy g5) (rgK (kd g5).toInt))) (by rw [← hrk2]; exact zp_iff (tch_cg hrr2.2.2.2.2)) ?_
              refine lv_if_ne (tgt := 72) hx hb dX4_isFreeFor_57 rfl (fun c_7 => ?_) (fun c_7 => ?_)
              · have c_7 : tch nd P Q rd (nN (mn g5)) (cF40 cx g5) (cF40 cy g5) (rgK (kd g5).toInt) := zp_1 c_7
                obtain ⟨hP, hD⟩ := pl_bk (X := [_, _, _, _, _, _, _, _]) hT_1 hP rfl hc9_1 hD0_1 rfl
                refine lv_iconst (v := 0) hx hb dX4_isFreeFor_72 rfl ?_
                obtain ⟨hP9, hD9⟩ := zu_part (cx := [_, _, _, _, _, _, _, _]) hP hD [true, true, true, true, true, true, true, true] rfl rfl
                rw [hQ9]
                exact W.zret (ty := .boolean) (v := 0) hx hb hr (rfl) (fun t ht hW => ⟨⟨congrArg (fun z => Outcome.returned (some (Value.int z))) (show (0 : Int32) = pI (∀ q, q < ft → (q ≠ f0 → lvF ft st tn q → ¬ tch nd P Q rd (nN (mn q)) (cF40 cx q) (cF40 cy q) (rgK (kd q).toInt) ∧ ¬ inF 5 nd P Q (cF40 cx q 0).toInt (cF40 cy q 0).toInt)) from (zp_f (fun h => by have h9 := h g5 (by omega) hif hlv2; first | exact absurd (by first | with_reducible assumption | assumption) h9.1 | exact absurd (by first | with_reducible assumption | assumption) h9.2)).symm), by rw [ht]; exact hP9, hD9⟩, hS.F ht⟩) hS.2.2 dX4_isFreeFor_73
              · have c_7 : ¬ (tch nd P Q rd (nN (mn g5)) (cF40 cx g5) (cF40 cy g5) (rgK (kd g5).toInt)) := zp_0 c_7
                refine lv_aload_n hx hb dX4_isFreeFor_60 rfl (lv_at hl 2 rfl) ?_
                refine va_get (D := (dC, dI)) (ci := 3) (v := .ref dr) (C := RX4) (T := TX4) (N := 6) hx hb hts inX4 hown hK hP 0 rfl rfl 0 (Nat.le_of_ble_eq_true rfl) (hts _ mw_219) (fun _ h9 => h9) rfl dX4_isFreeFor_61 ?_
                refine lv_aload hx hb dX4_isFreeFor_64 (lv_at hl 0 rfl) ?_
                obtain ⟨hPc, hDc, hFc, hI1⟩ := zi_sub (wc := [_, _, _, _, _, _]) hP hD hS hA [1, 2, 3, 10, 11, 12] (by decide +kernel) rfl
                refine zcall (st1 := [.int (pI (inF 5 nd P Q (U2 0).toInt (V2 0).toInt))]) (va_runS (As := [.ref dr, .ref r2]) (rest := []) ⟨hx, hb, hml, hown, hts⟩ (k_Law_isIn l dC dI cI cZ cF H.size dr dx dy nd cd P Q rd r2 rx2 ry2 (nN (mn g5)) cap2 U2 V2 rg2 (by first | with_reducible assumption | omega) (by first | with_reducible assumption | omega) (hpd) (by first | with_reducible assumption | omega) (by first | with_reducible assumption | omega) (hq2) (by first | with_reducible assumption | omega)) (csS_61 hts rfl rfl ⟨Nat.le_of_ble_eq_true rfl, Nat.le_of_ble_eq_true rfl⟩) (zPS2 hPc hDc hK hXN) rfl rfl hl.1 rfl (lv_room (Nat.le_of_ble_eq_true rfl)) dX4_isFreeFor_66 ⟨Nat.le_of_ble_eq_true rfl, Nat.le_of_ble_eq_true rfl⟩) hS hFc hFc rfl (fun t H locs ht hB hk1 hS => ?_)
                obtain ⟨hP1, hD1⟩ := hB
                rw [ht] at hP1
                replace hP := z0 hP hD hk1 hP1 hI1
                clear hk1 hPc hDc hFc hP1 hD1 ht hI1
                refine zz_i (v := pI (inF 5 nd P Q (cF40 cx g5 0).toInt (cF40 cy g5 0).toInt)) (by rw [← hc02.1, ← hc02.2]) ?_
                refine lv_if_eq (tgt := 74) hx hb dX4_isFreeFor_69 rfl (fun c_8 => ?_) (fun c_8 => ?_)
                · have c_8 : ¬ (inF 5 nd P Q (cF40 cx g5 0).toInt (cF40 cy g5 0).toInt) := zp_0 c_8
                  obtain ⟨hP, hD⟩ := pl_bk (X := [_, _, _, _, _, _, _, _]) hT_1 hP rfl hc9_1 hD0_1 rfl
                  refine lv_iinc (v := nI (g5 + 1)) (lv' := [(4, .int (nI (g5 + 1))), (5, .ref r2), (0, .ref lw), (1, .ref sh), (2, .ref fe), (3, .ref fe)]) hx hb dX4_isFreeFor_74 hl (k := 1) rfl (nI_add g5 1) (Nat.le_of_ble_eq_true rfl) rfl (fun ls hl => ?_)
                  refine lv_goto (tgt := 3) hx hb dX4_isFreeFor_77 rfl ?_
                  exact ih_3 (g5 + 1) H locs ls (by first | with_reducible assumption | omega) (by first | with_reducible assumption | omega) (by intro q hq; rcases Nat.lt_or_ge q g5 with h | h; exact hall q h; rw [show q = g5 by omega]; intro h1 h2; first | exact absurd hif h1 | exact absurd h2.2.1 hs2 | exact absurd h2.2.2 ht2 | exact ⟨by assumption, by assumption⟩) hP hD hS (lv_sub hl [0, 2, 3, 4, 5] rfl)
                · have c_8 : inF 5 nd P Q (cF40 cx g5 0).toInt (cF40 cy g5 0).toInt := zp_1 c_8
                  obtain ⟨hP, hD⟩ := pl_bk (X := [_, _, _, _, _, _, _, _]) hT_1 hP rfl hc9_1 hD0_1 rfl
                  refine lv_iconst (v := 0) hx hb dX4_isFreeFor_72 rfl ?_
                  obtain ⟨hP9, hD9⟩ := zu_part (cx := [_, _, _, _, _, _, _, _]) hP hD [true, true, true, true, true, true, true, true] rfl rfl
                  rw [hQ9]
                  exact W.zret (ty := .boolean) (v := 0) hx hb hr (rfl) (fun t ht hW => ⟨⟨congrArg (fun z => Outcome.returned (some (Value.int z))) (show (0 : Int32) = pI (∀ q, q < ft → (q ≠ f0 → lvF ft st tn q → ¬ tch nd P Q rd (nN (mn q)) (cF40 cx q) (cF40 cy q) (rgK (kd q).toInt) ∧ ¬ inF 5 nd P Q (cF40 cx q 0).toInt (cF40 cy q 0).toInt)) from (zp_f (fun h => by have h9 := h g5 (by omega) hif hlv2; first | exact absurd (by first | with_reducible assumption | assumption) h9.1 | exact absurd (by first | with_reducible assumption | assumption) h9.2)).symm), by rw [ht]; exact hP9, hD9⟩, hS.F ht⟩) hS.2.2 dX4_isFreeFor_73
            · have c_6 : fe2 = fe := c_6
              exfalso; exact absurd (by first | with_reducible assumption | assumption) (pl_sep (q := (oc1 fe rk9 wd9 tw9 pa9 pb9 (.ref lo) (.ref lk) fm9)) hD0_1 (by simp) hfe2.1)
  exact hl_3 _ 0 s.heap [] ls (Nat.lt_succ_self _) (by first | with_reducible assumption | omega) (by intro q hq; omega) hP hD hS (lv_sub hl [0, 1, 2, 3, 4] rfl)
set_option maxHeartbeats 4000000 in
set_option maxRecDepth 100000 in
theorem k_Law_isFreeFor_2 (l : Launch) (dC : Nat → ClassId) (dI : Nat → Nat → Nat) (cI cZ cF : ClassId) (sz : Nat) (lw : Nat) (dr : Nat) (tg : Nat) (wy : Nat) (br : Nat) (bo : Nat) (aa : Nat) (dx : Nat) (dy : Nat) (nd : Nat) (cd : Nat) (P : Nat → Int32) (Q : Nat → Int32) (rd : Int32) (sh : Nat) (fa : Nat) (ft : Nat) (FA : Nat → Option Nat) (fe : Nat) (lo : Nat) (rk9 : Int32) (wd9 : Int32) (tw9 : Int32) (pa9 : Int32) (pb9 : Int32) (lk : Nat) (kd9 : Int32) (st9 : Int32) (gb9 : Int32) (jt9 : Int32) (we9 : Int32) (r : Nat) (f0 : Nat) (fm9 : Value) (fe3 : Nat) (lo3 : Nat) (lk3 : Nat) (r3 : Nat) (g0 : Nat) (rk3 : Int32) (wd3 : Int32) (tw3 : Int32) (pa3 : Int32) (pb3 : Int32) (kd3 : Int32) (st3 : Int32) (gb3 : Int32) (jt3 : Int32) (we3 : Int32) (fm3 : Value) (L : List Nat) (f : Nat → va_E) (kd : Nat → Int32) (st : Nat → Int32) (tn : Nat → Int32) (mn : Nat → Int32) (cx : Nat → Int32) (cy : Nat → Int32) (h200 : ft ≤ 200) (hf0 : f0 < ft) (hFA : FA f0 = some fe) (hs1 : st9.toInt = 1) (hg0 : g0 < ft) (hFA3 : FA g0 = some fe3) (hs3 : st3.toInt = 1) (hvw : ∀ q, q < ft → q ≠ f0 → q ≠ g0 → vwO cI L f FA kd st tn mn cx cy q) (hwf : ∀ q, lvF ft st tn q → wfM mn cx cy q) (hkn : okN ft st tn kd mn) (hnd : nd ≤ cd) (hcd : cd ≤ 1000) (hpd : pls nd P Q) : zM l yX4_isFreeFor cX4_isFreeFor 6 (some .boolean) ({ frames := 3, cells := 0, slots := 0, locals := 65 } : Room) [.ref lw, .ref sh, .ref fe, .ref fe3] (dC, dI) (zTy cI cZ cF) ([(oc3 lw (.ref dr) (.ref tg) (.ref wy) (.ref br) (.ref bo) (.ref aa)), (oc6 dr (.ref dx) (.ref dy) (nI nd) rd), (oa dx cI cd P), (oa dy cI cd Q), (oc7 sh (.ref fa) (nI ft)), (oq fa cF 200 FA), (oc1 fe rk9 wd9 tw9 pa9 pb9 (.ref lo) (.ref lk) fm9), (oc4 lk kd9 st9 (.ref r) gb9 jt9 we9), (oc1 fe3 rk3 wd3 tw3 pa3 pb3 (.ref lo3) (.ref lk3) fm3), (oc4 lk3 kd3 st3 (.ref r3) gb3 jt3 we3)] ++ va_pl L f) sz (some (.int (pI (∀ q, q < ft → (q ≠ f0 → q ≠ g0 → lvF ft st tn q → ¬ tch nd P Q rd (nN (mn q)) (cF40 cx q) (cF40 cy q) (rgK (kd q).toInt) ∧ ¬ inF 5 nd P Q (cF40 cx q 0).toInt (cF40 cy q 0).toInt))))) (fun A t => zPD (dC, dI) classes A ([(oc3 lw (.ref dr) (.ref tg) (.ref wy) (.ref br) (.ref bo) (.ref aa)), (oc6 dr (.ref dx) (.ref dy) (nI nd) rd), (oa dx cI cd P), (oa dy cI cd Q), (oc7 sh (.ref fa) (nI ft)), (oq fa cF 200 FA), (oc1 fe rk9 wd9 tw9 pa9 pb9 (.ref lo) (.ref lk) fm9), (oc4 lk kd9 st9 (.ref r) gb9 jt9 we9), (oc1 fe3 rk3 wd3 tw3 pa3 pb3 (.ref lo3) (.ref lk3) fm3), (oc4 lk3 kd3 st3 (.ref r3) gb3 jt3 we3)] ++ va_pl L f) t.heap) 0 0 := by
  refine zIn (own := "ScaleShop$Law") (loc := [(0, .ref lw), (1, .ref sh), (2, .ref fe), (3, .ref fe3)]) rfl rfl rfl rfl (fun p e s m below meth c hx hb hr hts hown hlocks hml hnm9 A hA hS hP hD hK hXN Q9 hQ9 ls hl => ?_)
  refine lv_iconst (v := 0) hx hb dX4_isFreeFor_0 rfl ?_
  refine lv_istore (lv' := [(4, .int 0), (0, .ref lw), (1, .ref sh), (2, .ref fe), (3, .ref fe3)]) hx hb dX4_isFreeFor_1 hl (Nat.le_of_ble_eq_true rfl) rfl (fun ls hl => ?_)
  have hl_3 : ∀ (n9 : Nat) (g5 : Nat) (H : Heap) (locs : List Loc) (ls : Array Slot), ft - g5 < n9 → (g5 ≤ ft) → (∀ q, q < g5 → (q ≠ f0 → q ≠ g0 → lvF ft st tn q → ¬ tch nd P Q rd (nN (mn q)) (cF40 cx q) (cF40 cy q) (rgK (kd q).toInt) ∧ ¬ inF 5 nd P Q (cF40 cx q 0).toInt (cF40 cy q 0).toInt)) → va_P (dC, dI) classes ([(oc3 lw (.ref dr) (.ref tg) (.ref wy) (.ref br) (.ref bo) (.ref aa)), (oc6 dr (.ref dx) (.ref dy) (nI nd) rd), (oa dx cI cd P), (oa dy cI cd Q), (oc7 sh (.ref fa) (nI ft)), (oq fa cF 200 FA), (oc1 fe rk9 wd9 tw9 pa9 pb9 (.ref lo) (.ref lk) fm9), (oc4 lk kd9 st9 (.ref r) gb9 jt9 we9), (oc1 fe3 rk3 wd3 tw3 pa3 pb3 (.ref lo3) (.ref lk3) fm3), (oc4 lk3 kd3 st3 (.ref r3) gb3 jt3 we3)] ++ va_pl L f) H → va_D A ([(oc3 lw (.ref dr) (.ref tg) (.ref wy) (.ref br) (.ref bo) (.ref aa)), (oc6 dr (.ref dx) (.ref dy) (nI nd) rd), (oa dx cI cd P), (oa dy cI cd Q), (oc7 sh (.ref fa) (nI ft)), (oq fa cF 200 FA), (oc1 fe rk9 wd9 tw9 pa9 pb9 (.ref lo) (.ref lk) fm9), (oc4 lk kd9 st9 (.ref r) gb9 jt9 we9), (oc1 fe3 rk3 wd3 tw3 pa3 pb3 (.ref lo3) (.ref lk3) fm3), (oc4 lk3 kd3 st3 (.ref r3) gb3 jt3 we3)] ++ va_pl L f) → va_S A s.heap H locs → lv_has ls 6 [(4, .int (nI g5)), (0, .ref lw), (1, .ref sh), (2, .ref fe), (3, .ref fe3)] → W p l e ({ frames := 3, cells := 0, slots := 0, locals := 65 } : Room) s m ([.ref lw, .ref sh, .ref fe, .ref fe3] : List Value).toArray below meth c H locs 0 0 Q9 (F0 m 3 ls []) := by
    intro n9
    induction n9 with
    | zero => intro g5 H locs ls hm; exact absurd hm (Nat.not_lt_zero _)
    | succ n9 ih_3 =>
      intro g5 H locs ls hm hi5 hall hP hD hS hl
      refine lv_iload hx hb dX4_isFreeFor_3 (lv_at hl 0 rfl) ?_
      refine lv_aload_n hx hb dX4_isFreeFor_5 rfl (lv_at hl 2 rfl) ?_
      refine va_get (D := (dC, dI)) (ci := 7) (v := .int (nI ft)) (C := RX8) (T := TX8) (N := 2) hx hb hts inX8 hown hK hP 4 rfl rfl 1 (Nat.le_of_ble_eq_true rfl) (hts _ mw_139) (fun _ h9 => h9) rfl dX4_isFreeFor_6 ?_
      have b9_2 : zlt (g5) := show g5 < 2147483648 by omega
      have b9_3 : zlt (ft) := show ft < 2147483648 by omega
      refine lv_icmp_ge (tgt := 80) hx hb dX4_isFreeFor_9 rfl (fun c_1 => ?_) (fun c_1 => ?_)
      · have c_1 : ((ft : Nat) : Int) ≤ ((g5 : Nat) : Int) := zc_le (nI_toInt b9_3) (nI_toInt b9_2) c_1
        refine lv_iconst (v := 1) hx hb dX4_isFreeFor_80 rfl ?_
        obtain ⟨hP9, hD9⟩ := zu_part (cx := [_, _, _, _, _, _, _, _, _, _]) hP hD [true, true, true, true, true, true, true, true, true, true] rfl rfl
        rw [hQ9]
        exact W.zret (ty := .boolean) (v := 1) hx hb hr (rfl) (fun t ht hW => ⟨⟨congrArg (fun z => Outcome.returned (some (Value.int z))) (show (1 : Int32) = pI (∀ q, q < ft → (q ≠ f0 → q ≠ g0 → lvF ft st tn q → ¬ tch nd P Q rd (nN (mn q)) (cF40 cx q) (cF40 cy q) (rgK (kd q).toInt) ∧ ¬ inF 5 nd P Q (cF40 cx q 0).toInt (cF40 cy q 0).toInt)) from (zp_t (fun q hq => hall q (by omega))).symm), by rw [ht]; exact hP9, hD9⟩, hS.F ht⟩) hS.2.2 dX4_isFreeFor_81
      · have c_1 : ((g5 : Nat) : Int) < ((ft : Nat) : Int) := zc_nle (nI_toInt b9_3) (nI_toInt b9_2) c_1
        rcases vw5 (hvw g5) (show g5 < ft by omega) with hif | ⟨hif, hig⟩ | ⟨hif, hs2, fe2, lk2, lo2, rk2, wd2, tw2, pa2, pb2, gb2, jt2, we2, fm2, rw2, hFA2, hfe2, hlk2⟩ | ⟨hif, ht2, fe2, lk2, lo2, rk2, wd2, tw2, pa2, pb2, gb2, jt2, we2, fm2, hFA2, hfe2, hlk2⟩ | ⟨hif, hlv2, fe2, lk2, lo2, rk2, wd2, tw2, pa2, pb2, gb2, jt2, we2, fm2, r2, rx2, ry2, cap2, U2, V2, rg2, hFA2, hfe2, hlk2, ⟨hr2, hrx2, hry2, hne2⟩, hrr2⟩
        · skip
          have hFi : FA g5 = some fe := (by rw [hif]; exact hFA)
          refine lv_aload_n hx hb dX4_isFreeFor_12 rfl (lv_at hl 2 rfl) ?_
          refine lv_iload hx hb dX4_isFreeFor_13 (lv_at hl 0 rfl) ?_
          obtain ⟨hPc, hDc, hFc, hI1⟩ := zi_sub (wc := [_, _, _, _]) hP hD hS hA [4, 5, 6, 7] (by decide +kernel) rfl
          refine zcall (st1 := [.ref r]) (va_runV (As := [.int (nI g5)]) (rest := []) ⟨hx, hb, hml, hown, hts⟩ (k_Sheet_rowThere_yv l dC dI cI cZ cF H.size sh fa ft FA g5 fe lo rk9 wd9 tw9 pa9 pb9 lk kd9 st9 gb9 jt9 we9 r fm9 (by first | with_reducible assumption | omega) (by first | with_reducible assumption | omega) (by first | exact hFi | exact hFA2) (by first | exact hs1 | exact hs2 | exact hlv2.2.1 | exact hs3)) (csV_62 hts rfl rfl ⟨Nat.le_of_ble_eq_true rfl, Nat.le_of_ble_eq_true rfl⟩) (zPV2 (q0 := 0) (ci := 7) hPc hDc hK hXN rfl rfl) rfl rfl hl.1 rfl (lv_room (Nat.le_of_ble_eq_true rfl)) dX4_isFreeFor_15 ⟨Nat.le_of_ble_eq_true rfl, Nat.le_of_ble_eq_true rfl⟩) hS hFc hFc rfl (fun t H locs ht hB hk1 hS => ?_)
          obtain ⟨hP1, hD1⟩ := hB
          rw [ht] at hP1
          replace hP := z0 hP hD hk1 hP1 hI1
          clear hk1 hPc hDc hFc hP1 hD1 ht hI1
          refine lv_astore (lv' := [(5, .ref r), (4, .int (nI g5)), (0, .ref lw), (1, .ref sh), (2, .ref fe), (3, .ref fe3)]) hx hb dX4_isFreeFor_18 hl (Nat.le_of_ble_eq_true rfl) rfl (fun ls hl => ?_)
          refine lv_aload hx hb dX4_isFreeFor_20 (lv_at hl 0 rfl) ?_
          refine lv_ifnull hx hb dX4_isFreeFor_22 ?_
          refine lv_aload_n hx hb dX4_isFreeFor_25 rfl (lv_at hl 3 rfl) ?_
          refine lv_iload hx hb dX4_isFreeFor_26 (lv_at hl 1 rfl) ?_
          obtain ⟨hPc, hDc, hFc, hI1⟩ := zi_sub (wc := [_, _]) hP hD hS hA [4, 5] rfl rfl
          refine zcall (st1 := [.ref fe]) (va_runV (As := [.int (nI g5)]) (rest := []) ⟨hx, hb, hml, hown, hts⟩ (k_Sheet_find l dC dI cI cZ cF H.size sh fa ft FA g5 fe (by first | with_reducible assumption | omega) (by first | with_reducible assumption | omega) (by first | exact hFi | exact hFA2)) (csV_63 hts rfl rfl ⟨Nat.le_of_ble_eq_true rfl, Nat.le_of_ble_eq_true rfl⟩) (zPV2 (q0 := 0) (ci := 7) hPc hDc hK hXN rfl rfl) rfl rfl hl.1 rfl (lv_room (Nat.le_of_ble_eq_true rfl)) dX4_isFreeFor_28 ⟨Nat.le_of_ble_eq_true rfl, Nat.le_of_ble_eq_true rfl⟩) hS hFc hFc rfl (fun t H locs ht hB hk1 hS => ?_)
          obtain ⟨hP1, hD1⟩ := hB
          rw [ht] at hP1
          replace hP := z0 hP hD hk1 hP1 hI1
          clear hk1 hPc hDc hFc hP1 hD1 ht hI1
          refine lv_aload_n hx hb dX4_isFreeFor_31 rfl (lv_at hl 4 rfl) ?_
          refine z_acmpeq (rx := fe) (ry := fe) (tgt := 74) hx hb dX4_isFreeFor_32 (by decide) (fun c_4 => ?_) (fun c_4 => ?_)
          · have c_4 : fe = fe := c_4
            refine lv_iinc (v := nI (g5 + 1)) (lv' := [(4, .int (nI (g5 + 1))), (5, .ref r), (0, .ref lw), (1, .ref sh), (2, .ref fe), (3, .ref fe3)]) hx hb dX4_isFreeFor_74 hl (k := 1) rfl (nI_add g5 1) (Nat.le_of_ble_eq_true rfl) rfl (fun ls hl => ?_)
            refine lv_goto (tgt := 3) hx hb dX4_isFreeFor_77 rfl ?_
            exact ih_3 (g5 + 1) H locs ls (by first | with_reducible assumption | omega) (by first | with_reducible assumption | omega) (by intro q hq; rcases Nat.lt_or_ge q g5 with h | h; exact hall q h; rw [show q = g5 by omega]; intro h1 h3 h2; first | exact absurd hif h1 | exact absurd hig h3 | exact absurd h2.2.1 hs2 | exact absurd h2.2.2 ht2 | exact ⟨by assumption, by assumption⟩) hP hD hS (lv_sub hl [0, 2, 3, 4, 5] rfl)
          · have c_4 : ¬ fe = fe := c_4
            exact absurd rfl c_4
        · skip
          have hFi : FA g5 = some fe3 := (by rw [hig]; exact hFA3)
          refine lv_aload_n hx hb dX4_isFreeFor_12 rfl (lv_at hl 2 rfl) ?_
          refine lv_iload hx hb dX4_isFreeFor_13 (lv_at hl 0 rfl) ?_
          obtain ⟨hPc, hDc, hFc, hI1⟩ := zi_sub (wc := [_, _, _, _]) hP hD hS hA [4, 5, 8, 9] (by decide +kernel) rfl
          refine zcall (st1 := [.ref r3]) (va_runV (As := [.int (nI g5)]) (rest := []) ⟨hx, hb, hml, hown, hts⟩ (k_Sheet_rowThere_yv l dC dI cI cZ cF H.size sh fa ft FA g5 fe3 lo3 rk3 wd3 tw3 pa3 pb3 lk3 kd3 st3 gb3 jt3 we3 r3 fm3 (by first | with_reducible assumption | omega) (by first | with_reducible assumption | omega) (by first | exact hFi | exact hFA2) (by first | exact hs1 | exact hs2 | exact hlv2.2.1 | exact hs3)) (csV_62 hts rfl rfl ⟨Nat.le_of_ble_eq_true rfl, Nat.le_of_ble_eq_true rfl⟩) (zPV2 (q0 := 0) (ci := 7) hPc hDc hK hXN rfl rfl) rfl rfl hl.1 rfl (lv_room (Nat.le_of_ble_eq_true rfl)) dX4_isFreeFor_15 ⟨Nat.le_of_ble_eq_true rfl, Nat.le_of_ble_eq_true rfl⟩) hS hFc hFc rfl (fun t H locs ht hB hk1 hS => ?_)
          obtain ⟨hP1, hD1⟩ := hB
          rw [ht] at hP1
          replace hP := z0 hP hD hk1 hP1 hI1
          clear hk1 hPc hDc hFc hP1 hD1 ht hI1
          refine lv_astore (lv' := [(5, .ref r3), (4, .int (nI g5)), (0, .ref lw), (1, .ref sh), (2, .ref fe), (3, .ref fe3)]) hx hb dX4_isFreeFor_18 hl (Nat.le_of_ble_eq_true rfl) rfl (fun ls hl => ?_)
          refine lv_aload hx hb dX4_isFreeFor_20 (lv_at hl 0 rfl) ?_
          refine lv_ifnull hx hb dX4_isFreeFor_22 ?_
          refine lv_aload_n hx hb dX4_isFreeFor_25 rfl (lv_at hl 3 rfl) ?_
          refine lv_iload hx hb dX4_isFreeFor_26 (lv_at hl 1 rfl) ?_
          obtain ⟨hPc, hDc, hFc, hI1⟩ := zi_sub (wc := [_, _]) hP hD hS hA [4, 5] rfl rfl
          refine zcall (st1 := [.ref fe3]) (va_runV (As := [.int (nI g5)]) (rest := []) ⟨hx, hb, hml, hown, hts⟩ (k_Sheet_find l dC dI cI cZ cF H.size sh fa ft FA g5 fe3 (by first | with_reducible assumption | omega) (by first | with_reducible assumption | omega) (by first | exact hFi | exact hFA2)) (csV_63 hts rfl rfl ⟨Nat.le_of_ble_eq_true rfl, Nat.le_of_ble_eq_true rfl⟩) (zPV2 (q0 := 0) (ci := 7) hPc hDc hK hXN rfl rfl) rfl rfl hl.1 rfl (lv_room (Nat.le_of_ble_eq_true rfl)) dX4_isFreeFor_28 ⟨Nat.le_of_ble_eq_true rfl, Nat.le_of_ble_eq_true rfl⟩) hS hFc hFc rfl (fun t H locs ht hB hk1 hS => ?_)
          obtain ⟨hP1, hD1⟩ := hB
          rw [ht] at hP1
          replace hP := z0 hP hD hk1 hP1 hI1
          clear hk1 hPc hDc hFc hP1 hD1 ht hI1
          refine lv_aload_n hx hb dX4_isFreeFor_31 rfl (lv_at hl 4 rfl) ?_
          refine z_acmpeq (rx := fe3) (ry := fe) (tgt := 74) hx hb dX4_isFreeFor_32 (by decide) (fun c_5 => ?_) (fun c_5 => ?_)
          · have c_5 : fe3 = fe := c_5
            refine lv_iinc (v := nI (g5 + 1)) (lv' := [(4, .int (nI (g5 + 1))), (5, .ref r3), (0, .ref lw), (1, .ref sh), (2, .ref fe), (3, .ref fe3)]) hx hb dX4_isFreeFor_74 hl (k := 1) rfl (nI_add g5 1) (Nat.le_of_ble_eq_true rfl) rfl (fun ls hl => ?_)
            refine lv_goto (tgt := 3) hx hb dX4_isFreeFor_77 rfl ?_
            exact ih_3 (g5 + 1) H locs ls (by first | with_reducible assumption | omega) (by first | with_reducible assumption | omega) (by intro q hq; rcases Nat.lt_or_ge q g5 with h | h; exact hall q h; rw [show q = g5 by omega]; intro h1 h3 h2; first | exact absurd hif h1 | exact absurd hig h3 | exact absurd h2.2.1 hs2 | exact absurd h2.2.2 ht2 | exact ⟨by assumption, by assumption⟩) hP hD hS (lv_sub hl [0, 2, 3, 4, 5] rfl)
          · have c_5 : ¬ fe3 = fe := c_5
            refine lv_aload_n hx hb dX4_isFreeFor_35 rfl (lv_at hl 3 rfl) ?_
            refine lv_iload hx hb dX4_isFreeFor_36 (lv_at hl 1 rfl) ?_
            obtain ⟨hPc, hDc, hFc, hI1⟩ := zi_sub (wc := [_, _]) hP hD hS hA [4, 5] rfl rfl
            refine zcall (st1 := [.ref fe3]) (va_runV (As := [.int (nI g5)]) (rest := []) ⟨hx, hb, hml, hown, hts⟩ (k_Sheet_find l dC dI cI cZ cF H.size sh fa ft FA g5 fe3 (by first | with_reducible assumption | omega) (by first | with_reducible assumption | omega) (by first | exact hFi | exact hFA2)) (csV_63 hts rfl rfl ⟨Nat.le_of_ble_eq_true rfl, Nat.le_of_ble_eq_true rfl⟩) (zPV2 (q0 := 0) (ci := 7) hPc hDc hK hXN rfl rfl) rfl rfl hl.1 rfl (lv_room (Nat.le_of_ble_eq_true rfl)) dX4_isFreeFor_38 ⟨Nat.le_of_ble_eq_true rfl, Nat.le_of_ble_eq_true rfl⟩) hS hFc hFc rfl (fun t H locs ht hB hk1 hS => ?_)
            obtain ⟨hP1, hD1⟩ := hB
            rw [ht] at hP1
            replace hP := z0 hP hD hk1 hP1 hI1
            clear hk1 hPc hDc hFc hP1 hD1 ht hI1
            refine lv_aload_n hx hb dX4_isFreeFor_41 rfl (lv_at hl 5 rfl) ?_
            refine z_acmpne (rx := fe3) (ry := fe3) (tgt := 48) hx hb dX4_isFreeFor_42 (by decide) (fun c_6 => ?_) (fun c_6 => ?_)
            · have c_6 : ¬ fe3 = fe3 := c_6
              exact absurd rfl c_6
            · have c_6 : fe3 = fe3 := c_6
              refine lv_goto (tgt := 74) hx hb dX4_isFreeFor_45 rfl ?_
              refine lv_iinc (v := nI (g5 + 1)) (lv' := [(4, .int (nI (g5 + 1))), (5, .ref r3), (0, .ref lw), (1, .ref sh), (2, .ref fe), (3, .ref fe3)]) hx hb dX4_isFreeFor_74 hl (k := 1) rfl (nI_add g5 1) (Nat.le_of_ble_eq_true rfl) rfl (fun ls hl => ?_)
              refine lv_goto (tgt := 3) hx hb dX4_isFreeFor_77 rfl ?_
              exact ih_3 (g5 + 1) H locs ls (by first | with_reducible assumption | omega) (by first | with_reducible assumption | omega) (by intro q hq; rcases Nat.lt_or_ge q g5 with h | h; exact hall q h; rw [show q = g5 by omega]; intro h1 h3 h2; first | exact absurd hif h1 | exact absurd hig h3 | exact absurd h2.2.1 hs2 | exact absurd h2.2.2 ht2 | exact ⟨by assumption, by assumption⟩) hP hD hS (lv_sub hl [0, 2, 3, 4, 5] rfl)
        · skip
          have hc9_1 : inPl L f [(oc1 fe2 rk2 wd2 tw2 pa2 pb2 (.ref lo2) (.ref lk2) fm2), (oc4 lk2 (kd g5) (st g5) rw2 gb2 jt2 we2)] := ⟨hfe2, hlk2, trivial⟩
          have hD0_1 := hD
          obtain ⟨T_1, hT_1, hP, hD⟩ := pl_oT hP hD hc9_1 (pwF hfe2.2 hlk2.2)
          obtain ⟨hP, hD⟩ := zre (W2 := ([_, _, _, _, _, _, _, _, _, _, _, _] ++ va_pl T_1 f)) hP hD rfl
          refine lv_aload_n hx hb dX4_isFreeFor_12 rfl (lv_at hl 2 rfl) ?_
          refine lv_iload hx hb dX4_isFreeFor_13 (lv_at hl 0 rfl) ?_
          obtain ⟨hPc, hDc, hFc, hI1⟩ := zi_sub (wc := [_, _, _, _]) hP hD hS hA [4, 5, 10, 11] (by decide +kernel) rfl
          refine zcall (st1 := [.null]) (va_runV (As := [.int (nI g5)]) (rest := []) ⟨hx, hb, hml, hown, hts⟩ (k_Sheet_rowThere_sv l dC dI cI cZ cF H.size sh fa ft FA g5 fe2 lo2 rk2 wd2 tw2 pa2 pb2 lk2 (kd g5) (st g5) gb2 jt2 we2 fm2 rw2 (by first | with_reducible assumption | omega) (by first | with_reducible assumption | omega) (by first | exact hFi | exact hFA2) (by first | exact hs1 | exact hs2 | exact hlv2.2.1 | exact hs3)) (csV_62 hts rfl rfl ⟨Nat.le_of_ble_eq_true rfl, Nat.le_of_ble_eq_true rfl⟩) (zPV2 (q0 := 0) (ci := 7) hPc hDc hK hXN rfl rfl) rfl rfl hl.1 rfl (lv_room (Nat.le_of_ble_eq_true rfl)) dX4_isFreeFor_15 ⟨Nat.le_of_ble_eq_true rfl, Nat.le_of_ble_eq_true rfl⟩) hS hFc hFc rfl (fun t H locs ht hB hk1 hS => ?_)
          obtain ⟨hP1, hD1⟩ := hB
          rw [ht] at hP1
          replace hP := z0 hP hD hk1 hP1 hI1
          clear hk1 hPc hDc hFc hP1 hD1 ht hI1
          refine lv_astoreN (lv' := [(5, .null), (4, .int (nI g5)), (0, .ref lw), (1, .ref sh), (2, .ref fe), (3, .ref fe3)]) hx hb dX4_isFreeFor_18 hl (Nat.le_of_ble_eq_true rfl) rfl (fun ls hl => ?_)
          refine lv_aloadN hx hb dX4_isFreeFor_20 (lv_at hl 0 rfl) ?_
          refine lv_ifnullN (tgt := 74) hx hb dX4_isFreeFor_22 rfl ?_
          obtain ⟨hP, hD⟩ := pl_bk (X := [_, _, _, _, _, _, _, _, _, _]) hT_1 hP rfl hc9_1 hD0_1 rfl
          refine lv_iinc (v := nI (g5 + 1)) (lv' := [(4, .int (nI (g5 + 1))), (5, .null), (0, .ref lw), (1, .ref sh), (2, .ref fe), (3, .ref fe3)]) hx hb dX4_isFreeFor_74 hl (k := 1) rfl (nI_add g5 1) (Nat.le_of_ble_eq_true rfl) rfl (fun ls hl => ?_)
          refine lv_goto (tgt := 3) hx hb dX4_isFreeFor_77 rfl ?_
          exact ih_3 (g5 + 1) H locs ls (by first | with_reducible assumption | omega) (by first | with_reducible assumption | omega) (by intro q hq; rcases Nat.lt_or_ge q g5 with h | h; exact hall q h; rw [show q = g5 by omega]; intro h1 h3 h2; first | exact absurd hif h1 | exact absurd hig h3 | exact absurd h2.2.1 hs2 | exact absurd h2.2.2 ht2 | exact ⟨by assumption, by assumption⟩) hP hD hS (lv_sub hl [0, 2, 3, 4, 5] rfl)
        · skip
          have hc9_1 : inPl L f [(oc1 fe2 rk2 wd2 tw2 pa2 pb2 (.ref lo2) (.ref lk2) fm2), (oc4 lk2 (kd g5) (st g5) .null gb2 jt2 we2)] := ⟨hfe2, hlk2, trivial⟩
          have hD0_1 := hD
          obtain ⟨T_1, hT_1, hP, hD⟩ := pl_oT hP hD hc9_1 (pwF hfe2.2 hlk2.2)
          obtain ⟨hP, hD⟩ := zre (W2 := ([_, _, _, _, _, _, _, _, _, _, _, _] ++ va_pl T_1 f)) hP hD rfl
          refine lv_aload_n hx hb dX4_isFreeFor_12 rfl (lv_at hl 2 rfl) ?_
          refine lv_iload hx hb dX4_isFreeFor_13 (lv_at hl 0 rfl) ?_
          obtain ⟨hPc, hDc, hFc, hI1⟩ := zi_sub (wc := [_, _, _, _]) hP hD hS hA [4, 5, 10, 11] (by decide +kernel) rfl
          refine zcall (st1 := [.null]) (va_runV (As := [.int (nI g5)]) (rest := []) ⟨hx, hb, hml, hown, hts⟩ (k_Sheet_rowThere_tv l dC dI cI cZ cF H.size sh fa ft FA g5 fe2 lo2 rk2 wd2 tw2 pa2 pb2 lk2 (kd g5) (st g5) gb2 jt2 we2 fm2 (by first | with_reducible assumption | omega) (by first | with_reducible assumption | omega) (by first | exact hFi | exact hFA2)) (csV_62 hts rfl rfl ⟨Nat.le_of_ble_eq_true rfl, Nat.le_of_ble_eq_true rfl⟩) (zPV2 (q0 := 0) (ci := 7) hPc hDc hK hXN rfl rfl) rfl rfl hl.1 rfl (lv_room (Nat.le_of_ble_eq_true rfl)) dX4_isFreeFor_15 ⟨Nat.le_of_ble_eq_true rfl, Nat.le_of_ble_eq_true rfl⟩) hS hFc hFc rfl (fun t H locs ht hB hk1 hS => ?_)
          obtain ⟨hP1, hD1⟩ := hB
          rw [ht] at hP1
          replace hP := z0 hP hD hk1 hP1 hI1
          clear hk1 hPc hDc hFc hP1 hD1 ht hI1
          refine lv_astoreN (lv' := [(5, .null), (4, .int (nI g5)), (0, .ref lw), (1, .ref sh), (2, .ref fe), (3, .ref fe3)]) hx hb dX4_isFreeFor_18 hl (Nat.le_of_ble_eq_true rfl) rfl (fun ls hl => ?_)
          refine lv_aloadN hx hb dX4_isFreeFor_20 (lv_at hl 0 rfl) ?_
          refine lv_ifnullN (tgt := 74) hx hb dX4_isFreeFor_22 rfl ?_
          obtain ⟨hP, hD⟩ := pl_bk (X := [_, _, _, _, _, _, _, _, _, _]) hT_1 hP rfl hc9_1 hD0_1 rfl
          refine lv_iinc (v := nI (g5 + 1)) (lv' := [(4, .int (nI (g5 + 1))), (5, .null), (0, .ref lw), (1, .ref sh), (2, .ref fe), (3, .ref fe3)]) hx hb dX4_isFreeFor_74 hl (k := 1) rfl (nI_add g5 1) (Nat.le_of_ble_eq_true rfl) rfl (fun ls hl => ?_)
          refine lv_goto (tgt := 3) hx hb dX4_isFreeFor_77 rfl ?_
          exact ih_3 (g5 + 1) H locs ls (by first | with_reducible assumption | omega) (by first | with_reducible assumption | omega) (by intro q hq; rcases Nat.lt_or_ge q g5 with h | h; exact hall q h; rw [show q = g5 by omega]; intro h1 h3 h2; first | exact absurd hif h1 | exact absurd hig h3 | exact absurd h2.2.1 hs2 | exact absurd h2.2.2 ht2 | exact ⟨by assumption, by assumption⟩) hP hD hS (lv_sub hl [0, 2, 3, 4, 5] rfl)
        · skip
          have hw2 := hwf g5 hlv2
          have hn2 := hw2.2.1
          have hq2 := rw_pls hrr2 hw2
          have hkn2 := hkn g5 hlv2
          have hcap2 := hrr2.1
          have hcap3 := hrr2.2.1
          have h1m2 : 1 ≤ nN (mn g5) := hw2.2.1.1
          have hrk2 := rgK_e hrr2.2.2.2.1
          have hc02 := hrr2.2.2.2.2 0 h1m2
          have hc9_1 : inPl L f [(oc1 fe2 rk2 wd2 tw2 pa2 pb2 (.ref lo2) (.ref lk2) fm2), (oc4 lk2 (kd g5) (st g5) (.ref r2) gb2 jt2 we2), (oc6 r2 (.ref rx2) (.ref ry2) (nI (nN (mn g5))) rg2), (oa rx2 cI cap2 U2), (oa ry2 cI cap2 V2)] := ⟨hfe2, hlk2, hr2, hrx2, hry2, trivial⟩
          have hD0_1 := hD
          obtain ⟨T_1, hT_1, hP, hD⟩ := pl_oT hP hD hc9_1 (pwR hfe2.2 hlk2.2 hr2.2 hrx2.2 hry2.2 hne2)
          obtain ⟨hP, hD⟩ := zre (W2 := ([_, _, _, _, _, _, _, _, _, _, _, _, _, _, _] ++ va_pl T_1 f)) hP hD rfl
          refine lv_aload_n hx hb dX4_isFreeFor_12 rfl (lv_at hl 2 rfl) ?_
          refine lv_iload hx hb dX4_isFreeFor_13 (lv_at hl 0 rfl) ?_
          obtain ⟨hPc, hDc, hFc, hI1⟩ := zi_sub (wc := [_, _, _, _]) hP hD hS hA [4, 5, 10, 11] (by decide +kernel) rfl
          refine zcall (st1 := [.ref r2]) (va_runV (As := [.int (nI g5)]) (rest := []) ⟨hx, hb, hml, hown, hts⟩ (k_Sheet_rowThere_yv l dC dI cI cZ cF H.size sh fa ft FA g5 fe2 lo2 rk2 wd2 tw2 pa2 pb2 lk2 (kd g5) (st g5) gb2 jt2 we2 r2 fm2 (by first | with_reducible assumption | omega) (by first | with_reducible assumption | omega) (by first | exact hFi | exact hFA2) (by first | exact hs1 | exact hs2 | exact hlv2.2.1 | exact hs3)) (csV_62 hts rfl rfl ⟨Nat.le_of_ble_eq_true rfl, Nat.le_of_ble_eq_true rfl⟩) (zPV2 (q0 := 0) (ci := 7) hPc hDc hK hXN rfl rfl) rfl rfl hl.1 rfl (lv_room (Nat.le_of_ble_eq_true rfl)) dX4_isFreeFor_15 ⟨Nat.le_of_ble_eq_true rfl, Nat.le_of_ble_eq_true rfl⟩) hS hFc hFc rfl (fun t H locs ht hB hk1 hS => ?_)
          obtain ⟨hP1, hD1⟩ := hB
          rw [ht] at hP1
          replace hP := z0 hP hD hk1 hP1 hI1
          clear hk1 hPc hDc hFc hP1 hD1 ht hI1
          refine lv_astore (lv' := [(5, .ref r2), (4, .int (nI g5)), (0, .ref lw), (1, .ref sh), (2, .ref fe), (3, .ref fe3)]) hx hb dX4_isFreeFor_18 hl (Nat.le_of_ble_eq_true rfl) rfl (fun ls hl => ?_)
          refine lv_aload hx hb dX4_isFreeFor_20 (lv_at hl 0 rfl) ?_
          refine lv_ifnull hx hb dX4_isFreeFor_22 ?_
          refine lv_aload_n hx hb dX4_isFreeFor_25 rfl (lv_at hl 3 rfl) ?_
          refine lv_iload hx hb dX4_isFreeFor_26 (lv_at hl 1 rfl) ?_
          obtain ⟨hPc, hDc, hFc, hI1⟩ := zi_sub (wc := [_, _]) hP hD hS hA [4, 5] rfl rfl
          refine zcall (st1 := [.ref fe2]) (va_runV (As := [.int (nI g5)]) (rest := []) ⟨hx, hb, hml, hown, hts⟩ (k_Sheet_find l dC dI cI cZ cF H.size sh fa ft FA g5 fe2 (by first | with_reducible assumption | omega) (by first | with_reducible assumption | omega) (by first | exact hFi | exact hFA2)) (csV_63 hts rfl rfl ⟨Nat.le_of_ble_eq_true rfl, Nat.le_of_ble_eq_true rfl⟩) (zPV2 (q0 := 0) (ci := 7) hPc hDc hK hXN rfl rfl) rfl rfl hl.1 rfl (lv_room (Nat.le_of_ble_eq_true rfl)) dX4_isFreeFor_28 ⟨Nat.le_of_ble_eq_true rfl, Nat.le_of_ble_eq_true rfl⟩) hS hFc hFc rfl (fun t H locs ht hB hk1 hS => ?_)
          obtain ⟨hP1, hD1⟩ := hB
          rw [ht] at hP1
          replace hP := z0 hP hD hk1 hP1 hI1
          clear hk1 hPc hDc hFc hP1 hD1 ht hI1
          refine lv_aload_n hx hb dX4_isFreeFor_31 rfl (lv_at hl 4 rfl) ?_
          refine z_acmpeq (rx := fe2) (ry := fe) (tgt := 74) hx hb dX4_isFreeFor_32 (by decide) (fun c_7 => ?_) (fun c_7 => ?_)
          · have c_7 : fe2 = fe := c_7
            exfalso; exact absurd (by first | with_reducible assumption | assumption) (pl_sep (q := (oc1 fe rk9 wd9 tw9 pa9 pb9 (.ref lo) (.ref lk) fm9)) hD0_1 (by simp) hfe2.1)
          · have c_7 : ¬ fe2 = fe := c_7
            refine lv_aload_n hx hb dX4_isFreeFor_35 rfl (lv_at hl 3 rfl) ?_
            refine lv_iload hx hb dX4_isFreeFor_36 (lv_at hl 1 rfl) ?_
            obtain ⟨hPc, hDc, hFc, hI1⟩ := zi_sub (wc := [_, _]) hP hD hS hA [4, 5] rfl rfl
            refine zcall (st1 := [.ref fe2]) (va_runV (As := [.int (nI g5)]) (rest := []) ⟨hx, hb, hml, hown, hts⟩ (k_Sheet_find l dC dI cI cZ cF H.size sh fa ft FA g5 fe2 (by first | with_reducible assumption | omega) (by first | with_reducible assumption | omega) (by first | exact hFi | exact hFA2)) (csV_63 hts rfl rfl ⟨Nat.le_of_ble_eq_true rfl, Nat.le_of_ble_eq_true rfl⟩) (zPV2 (q0 := 0) (ci := 7) hPc hDc hK hXN rfl rfl) rfl rfl hl.1 rfl (lv_room (Nat.le_of_ble_eq_true rfl)) dX4_isFreeFor_38 ⟨Nat.le_of_ble_eq_true rfl, Nat.le_of_ble_eq_true rfl⟩) hS hFc hFc rfl (fun t H locs ht hB hk1 hS => ?_)
            obtain ⟨hP1, hD1⟩ := hB
            rw [ht] at hP1
            replace hP := z0 hP hD hk1 hP1 hI1
            clear hk1 hPc hDc hFc hP1 hD1 ht hI1
            refine lv_aload_n hx hb dX4_isFreeFor_41 rfl (lv_at hl 5 rfl) ?_
            refine z_acmpne (rx := fe2) (ry := fe3) (tgt := 48) hx hb dX4_isFreeFor_42 (by decide) (fun c_8 => ?_) (fun c_8 => ?_)
            · have c_8 : ¬ fe2 = fe3 := c_8
              refine lv_aload_n hx hb dX4_isFreeFor_48 rfl (lv_at hl 2 rfl) ?_
              refine va_get (D := (dC, dI)) (ci := 3) (v := .ref dr) (C := RX4) (T := TX4) (N := 6) hx hb hts inX4 hown hK hP 0 rfl rfl 0 (Nat.le_of_ble_eq_true rfl) (hts _ mw_219) (fun _ h9 => h9) rfl dX4_isFreeFor_49 ?_
              refine lv_aload hx hb dX4_isFreeFor_52 (lv_at hl 0 rfl) ?_
              obtain ⟨hPc, hDc, hFc, hI1⟩ := zi_sub (wc := [_, _, _, _, _, _]) hP hD hS hA [1, 2, 3, 12, 13, 14] (by decide +kernel) rfl
              refine zcall (st1 := [.int (pI (∃ i, i < prt nd rd ∧ ∃ j, j < prt (nN (mn g5)) rg2 ∧ eMt nd P Q i (nN (mn g5)) U2 V2 j))]) (va_runV (As := [.ref r2]) (rest := []) ⟨hx, hb, hml, hown, hts⟩ (k_Row_touches l dC dI cI cZ cF H.size dr dx dy nd cd P Q rd r2 rx2 ry2 (nN (mn g5)) cap2 U2 V2 rg2 (by first | with_reducible assumption | omega) (by first | with_reducible assumption | omega) (hpd) (by first | with_reducible assumption | omega) (by first | with_reducible assumption | omega) (hq2)) (csV_56 hts rfl rfl ⟨Nat.le_of_ble_eq_true rfl, Nat.le_of_ble_eq_true rfl⟩) (zPV2 (q0 := 0) (ci := 6) hPc hDc hK hXN rfl rfl) rfl rfl hl.1 rfl (lv_room (Nat.le_of_ble_eq_true rfl)) dX4_isFreeFor_54 ⟨Nat.le_of_ble_eq_true rfl, Nat.le_of_ble_eq_true rfl⟩) hS hFc hFc rfl (fun t H locs ht hB hk1 hS => ?_)
              obtain ⟨hP1, hD1⟩ := hB
              rw [ht] at hP1
              replace hP := z0 hP hD hk1 hP1 hI1
              clear hk1 hPc hDc hFc hP1 hD1 ht hI1
              refine zz_i (v := pI (tch nd P Q rd (nN (mn g5)) (cF40 cx g5) (cF40 cy g5) (rgK (kd g5).toInt))) (by rw [← hrk2]; exact zp_iff (tch_cg hrr2.2.2.2.2)) ?_
              refine lv_if_ne (tgt := 72) hx hb dX4_isFreeFor_57 rfl (fun c_9 => ?_) (fun c_9 => ?_)
              · have c_9 : tch nd P Q rd (nN (mn g5)) (cF40 cx g5) (cF40 cy g5) (rgK (kd g5).toInt) := zp_1 c_9
                obtain ⟨hP, hD⟩ := pl_bk (X := [_, _, _, _, _, _, _, _, _, _]) hT_1 hP rfl hc9_1 hD0_1 rfl
                refine lv_iconst (v := 0) hx hb dX4_isFreeFor_72 rfl ?_
                obtain ⟨hP9, hD9⟩ := zu_part (cx := [_, _, _, _, _, _, _, _, _, _]) hP hD [true, true, true, true, true, true, true, true, true, true] rfl rfl
                rw [hQ9]
                exact W.zret (ty := .boolean) (v := 0) hx hb hr (rfl) (fun t ht hW => ⟨⟨congrArg (fun z => Outcome.returned (some (Value.int z))) (show (0 : Int32) = pI (∀ q, q < ft → (q ≠ f0 → q ≠ g0 → lvF ft st tn q → ¬ tch nd P Q rd (nN (mn q)) (cF40 cx q) (cF40 cy q) (rgK (kd q).toInt) ∧ ¬ inF 5 nd P Q (cF40 cx q 0).toInt (cF40 cy q 0).toInt)) from (zp_f (fun h => by have h9 := h g5 (by omega) hif.1 hif.2 hlv2; first | exact absurd (by first | with_reducible assumption | assumption) h9.1 | exact absurd (by first | with_reducible assumption | assumption) h9.2)).symm), by rw [ht]; exact hP9, hD9⟩, hS.F ht⟩) hS.2.2 dX4_isFreeFor_73
              · have c_9 : ¬ (tch nd P Q rd (nN (mn g5)) (cF40 cx g5) (cF40 cy g5) (rgK (kd g5).toInt)) := zp_0 c_9
                refine lv_aload_n hx hb dX4_isFreeFor_60 rfl (lv_at hl 2 rfl) ?_
                refine va_get (D := (dC, dI)) (ci := 3) (v := .ref dr) (C := RX4) (T := TX4) (N := 6) hx hb hts inX4 hown hK hP 0 rfl rfl 0 (Nat.le_of_ble_eq_true rfl) (hts _ mw_219) (fun _ h9 => h9) rfl dX4_isFreeFor_61 ?_
                refine lv_aload hx hb dX4_isFreeFor_64 (lv_at hl 0 rfl) ?_
                obtain ⟨hPc, hDc, hFc, hI1⟩ := zi_sub (wc := [_, _, _, _, _, _]) hP hD hS hA [1, 2, 3, 12, 13, 14] (by decide +kernel) rfl
                refine zcall (st1 := [.int (pI (inF 5 nd P Q (U2 0).toInt (V2 0).toInt))]) (va_runS (As := [.ref dr, .ref r2]) (rest := []) ⟨hx, hb, hml, hown, hts⟩ (k_Law_isIn l dC dI cI cZ cF H.size dr dx dy nd cd P Q rd r2 rx2 ry2 (nN (mn g5)) cap2 U2 V2 rg2 (by first | with_reducible assumption | omega) (by first | with_reducible assumption | omega) (hpd) (by first | with_reducible assumption | omega) (by first | with_reducible assumption | omega) (hq2) (by first | with_reducible assumption | omega)) (csS_61 hts rfl rfl ⟨Nat.le_of_ble_eq_true rfl, Nat.le_of_ble_eq_true rfl⟩) (zPS2 hPc hDc hK hXN) rfl rfl hl.1 rfl (lv_room (Nat.le_of_ble_eq_true rfl)) dX4_isFreeFor_66 ⟨Nat.le_of_ble_eq_true rfl, Nat.le_of_ble_eq_true rfl⟩) hS hFc hFc rfl (fun t H locs ht hB hk1 hS => ?_)
                obtain ⟨hP1, hD1⟩ := hB
                rw [ht] at hP1
                replace hP := z0 hP hD hk1 hP1 hI1
                clear hk1 hPc hDc hFc hP1 hD1 ht hI1
                refine zz_i (v := pI (inF 5 nd P Q (cF40 cx g5 0).toInt (cF40 cy g5 0).toInt)) (by rw [← hc02.1, ← hc02.2]) ?_
                refine lv_if_eq (tgt := 74) hx hb dX4_isFreeFor_69 rfl (fun c_10 => ?_) (fun c_10 => ?_)
                · have c_10 : ¬ (inF 5 nd P Q (cF40 cx g5 0).toInt (cF40 cy g5 0).toInt) := zp_0 c_10
                  obtain ⟨hP, hD⟩ := pl_bk (X := [_, _, _, _, _, _, _, _, _, _]) hT_1 hP rfl hc9_1 hD0_1 rfl
                  refine lv_iinc (v := nI (g5 + 1)) (lv' := [(4, .int (nI (g5 + 1))), (5, .ref r2), (0, .ref lw), (1, .ref sh), (2, .ref fe), (3, .ref fe3)]) hx hb dX4_isFreeFor_74 hl (k := 1) rfl (nI_add g5 1) (Nat.le_of_ble_eq_true rfl) rfl (fun ls hl => ?_)
                  refine lv_goto (tgt := 3) hx hb dX4_isFreeFor_77 rfl ?_
                  exact ih_3 (g5 + 1) H locs ls (by first | with_reducible assumption | omega) (by first | with_reducible assumption | omega) (by intro q hq; rcases Nat.lt_or_ge q g5 with h | h; exact hall q h; rw [show q = g5 by omega]; intro h1 h3 h2; first | exact absurd hif h1 | exact absurd hig h3 | exact absurd h2.2.1 hs2 | exact absurd h2.2.2 ht2 | exact ⟨by assumption, by assumption⟩) hP hD hS (lv_sub hl [0, 2, 3, 4, 5] rfl)
                · have c_10 : inF 5 nd P Q (cF40 cx g5 0).toInt (cF40 cy g5 0).toInt := zp_1 c_10
                  obtain ⟨hP, hD⟩ := pl_bk (X := [_, _, _, _, _, _, _, _, _, _]) hT_1 hP rfl hc9_1 hD0_1 rfl
                  refine lv_iconst (v := 0) hx hb dX4_isFreeFor_72 rfl ?_
                  obtain ⟨hP9, hD9⟩ := zu_part (cx := [_, _, _, _, _, _, _, _, _, _]) hP hD [true, true, true, true, true, true, true, true, true, true] rfl rfl
                  rw [hQ9]
                  exact W.zret (ty := .boolean) (v := 0) hx hb hr (rfl) (fun t ht hW => ⟨⟨congrArg (fun z => Outcome.returned (some (Value.int z))) (show (0 : Int32) = pI (∀ q, q < ft → (q ≠ f0 → q ≠ g0 → lvF ft st tn q → ¬ tch nd P Q rd (nN (mn q)) (cF40 cx q) (cF40 cy q) (rgK (kd q).toInt) ∧ ¬ inF 5 nd P Q (cF40 cx q 0).toInt (cF40 cy q 0).toInt)) from (zp_f (fun h => by have h9 := h g5 (by omega) hif.1 hif.2 hlv2; first | exact absurd (by first | with_reducible assumption | assumption) h9.1 | exact absurd (by first | with_reducible assumption | assumption) h9.2)).symm), by rw [ht]; exact hP9, hD9⟩, hS.F ht⟩) hS.2.2 dX4_isFreeFor_73
            · have c_8 : fe2 = fe3 := c_8
              exfalso; exact absurd (by first | with_reducible assumption | assumption) (pl_sep (q := (oc1 fe3 rk3 wd3 tw3 pa3 pb3 (.ref lo3) (.ref lk3) fm3)) hD0_1 (by simp) hfe2.1)
  exact hl_3 _ 0 s.heap [] ls (Nat.lt_succ_self _) (by first | with_reducible assumption | omega) (by intro q hq; omega) hP hD hS (lv_sub hl [0, 1, 2, 3, 4] rfl)
end
section
/-! a corner goes, by the class -/
def ctF (X : Nat → Int32) (k : Nat) : Nat → Int32 := fun j => if j < k then X j else X (j + 1)
def bareK (ft : Nat) (st tn kd mn cx cy : Nat → Int32) (f0 : Nat) (x y : Int) : Prop := ∀ q, q < ft → (q ≠ f0 → lvF ft st tn q → ¬ onF kd mn cx cy q x y)
/-- the draft is lawful where corner k goes -/
def alC (ft : Nat) (st tn kd mn cx cy : Nat → Int32) (f0 n : Nat) (X Y : Nat → Int32) (rg : Int32) (nd : Nat) (P Q : Nat → Int32) (rd : Int32) (k5 : Nat) : Prop :=
  pls nd P Q ∧ eFr nd P Q rd (prv nd (gpK nd k5)) 0 ∧ ∀ q, q < ft → (q ≠ f0 → lvF ft st tn q → (apB (min (min (X k5).toInt (X (prv n k5)).toInt) (X (nxt n k5)).toInt) (min (min (Y k5).toInt (Y (prv n k5)).toInt) (Y (nxt n k5)).toInt) (max (max (X k5).toInt (X (prv n k5)).toInt) (X (nxt n k5)).toInt) (max (max (Y k5).toInt (Y (prv n k5)).toInt) (Y (nxt n k5)).toInt) (nN (mn q)) (cF40 cx q) (cF40 cy q) ∨ (asb n X Y rg nd P Q rd (nN (mn q)) (cF40 cx q) (cF40 cy q) (rgK (kd q).toInt) ∧ (¬ ∃ j, j < nN (mn q) ∧ swC n X Y k5 (cF40 cx q j).toInt (cF40 cy q j).toInt))))
section
variable {n m : Nat} {X Y P Q U V S T : Nat → Int32}
theorem eFd_cg (h : ∀ j, j < n → X j = P j ∧ Y j = Q j) {k : Nat} (hk : k < n) : eFd n X Y k = eFd n P Q k := by
  have a := prv_lt (n := n) (i := k) hk; have b := nxt_lt (n := n) (i := k) (by omega)
  unfold eFd; rw [(h k hk).1, (h k hk).2, (h _ a).1, (h _ a).2, (h _ b).1, (h _ b).2]
theorem eFr_cg (h : ∀ j, j < n → X j = P j ∧ Y j = Q j) {rg : Int32} {i f : Nat} (hi : i < n) : eFr n X Y rg i f ↔ eFr n P Q rg i f := by
  have b := nxt_lt (n := n) (i := i) (by omega)
  have le := edg_le n rg
  unfold eFr
  rw [(h i hi).1, (h i hi).2, (h _ b).1, (h _ b).2]
  refine and_congr_right fun _ => forall_congr' fun j => imp_congr_right fun h1 => imp_congr_right fun h2 => imp_congr_right fun h3 => ?_
  rw [eFd_cg h (k := j) (by omega), eFd_cg h hi, eMt_cg h h hi (k := j) (by omega)]
theorem tch_cl (h : ∀ j, j < n → X j = P j ∧ Y j = Q j) {rg rh : Int32} : tch n X Y rg m U V rh ↔ tch n P Q rg m U V rh := by
  have p1 := prt_le n rg; have p2 := prt_le m rh
  exact exists_congr fun i => and_congr_right fun hi => exists_congr fun j => and_congr_right fun hj => by rw [eMt_cg h (fun _ _ => ⟨rfl, rfl⟩) (by omega) (by omega)]
theorem asb_cd {nd : Nat} {rg rd rh : Int32} (h1 : 1 ≤ nd) (h : ∀ j, j < nd → P j = S j ∧ Q j = T j) : asb n X Y rg nd P Q rd m U V rh ↔ asb n X Y rg nd S T rd m U V rh := by
  unfold asb
  rw [tch_cl h, (h 0 (by omega)).1, (h 0 (by omega)).2]
  exact and_congr_right fun _ => and_congr (imp_congr_right fun _ => forall_congr' fun k => imp_congr_right fun _ => by rw [inF_cg h1 h]) Iff.rfl
end
theorem alC_cg {ft : Nat} {st tn kd mn cx cy : Nat → Int32} {f0 n : Nat} {X Y : Nat → Int32} {rg : Int32} {nd : Nat} {P Q S T : Nat → Int32} {rd : Int32} {k5 : Nat} (h1 : 1 ≤ nd) (h : ∀ j, j < nd → P j = S j ∧ Q j = T j) : alC ft st tn kd mn cx cy f0 n X Y rg nd P Q rd k5 ↔ alC ft st tn kd mn cx cy f0 n X Y rg nd S T rd k5 := by
  have hg : gpK nd k5 < nd := by unfold gpK; split <;> omega
  have hp := prv_lt (n := nd) (i := gpK nd k5) hg
  unfold alC
  rw [pls_cg h, eFr_cg h hp]
  refine and_congr_right fun _ => and_congr_right fun _ => forall_congr' fun q => imp_congr_right fun _ => imp_congr_right fun _ => imp_congr_right fun _ => or_congr Iff.rfl (and_congr (asb_cd h1 h) Iff.rfl)
theorem ct_cg {n k : Nat} {X Y P Q P1 Q1 : Nat → Int32} (hc : ∀ j, j < n → P j = X j ∧ Q j = Y j) (h1 : ∀ j, j < k → P1 j = P j ∧ Q1 j = Q j) (h2 : ∀ j, k ≤ j → j < n - 1 → P1 j = P (j + 1) ∧ Q1 j = Q (j + 1)) (hk : k < n) : ∀ j, j < n - 1 → P1 j = ctF X k j ∧ Q1 j = ctF Y k j := by
  intro j hj
  unfold ctF
  rcases Nat.lt_or_ge j k with g | g
  · rw [if_pos g, if_pos g, (h1 j g).1, (h1 j g).2]; exact hc j (by omega)
  · rw [if_neg (by omega), if_neg (by omega), (h2 j g hj).1, (h2 j g hj).2]; exact hc (j + 1) (by omega)
/-- a corner's area, -1 where it is an end -/
def arE (n : Nat) (rg : Int32) (k : Nat) : Prop := rg.toInt = 0 ∧ (k = 0 ∨ k = n - 1)
def arT (n : Nat) (X Y : Nat → Int32) (k : Nat) : Nat := Int.natAbs (eCr n X Y (prv n k) (X (nxt n k)).toInt (Y (nxt n k)).toInt)
theorem arT_b {n : Nat} {X Y : Nat → Int32} (hp : pls n X Y) {k : Nat} (hk : k < n) : arT n X Y k ≤ 2000000 := by
  have hv := prv_lt (n := n) (i := k) hk; have hx := nxt_lt (n := n) (i := k) (by omega)
  have hy := nxt_lt (n := n) (i := prv n k) (by omega)
  have hB := crBp (hp _ hv).1 (hp _ hv).2 (hp _ hy).1 (hp _ hy).2 (hp _ hx).1 (hp _ hx).2
  unfold arT; have : -2000000 ≤ eCr n X Y (prv n k) (X (nxt n k)).toInt (Y (nxt n k)).toInt ∧ eCr n X Y (prv n k) (X (nxt n k)).toInt (Y (nxt n k)).toInt ≤ 2000000 := hB
  omega
/-- the areas as they stand while some corners were tried in vain -/
def arI (n : Nat) (X Y : Nat → Int32) (rg : Int32) (R : Nat → Prop) (AR : Nat → Int32) : Prop := ∀ j, j < n → ((R j ∨ arE n rg j) → AR j = -1) ∧ (¬ (R j ∨ arE n rg j) → AR j = nI (arT n X Y j))
theorem arI_f {n : Nat} {X Y : Nat → Int32} {rg : Int32} {R : Nat → Prop} {AR : Nat → Int32} (hp : pls n X Y) (h : arI n X Y rg R AR) {lim : Int32} {j : Nat} (hj : j < n) : (0 ≤ (AR j).toInt ∧ (AR j).toInt ≤ lim.toInt) ↔ (¬ R j ∧ ¬ arE n rg j ∧ ((arT n X Y j : Nat) : Int) ≤ lim.toInt) := by
  have hb := arT_b hp hj
  by_cases e : R j ∨ arE n rg j
  · rw [(h j hj).1 e]
    exact ⟨fun q => absurd q.1 (by decide), fun q => e.elim (fun g => absurd g q.1) (fun g => absurd g q.2.1)⟩
  · rw [(h j hj).2 e, nI_toInt (by omega)]
    exact ⟨fun q => ⟨fun g => e (Or.inl g), fun g => e (Or.inr g), q.2⟩, fun q => ⟨by omega, q.2.2⟩⟩
theorem arI_t {n : Nat} {X Y : Nat → Int32} {rg : Int32} {R : Nat → Prop} {AR : Nat → Int32} (hp : pls n X Y) (h : arI n X Y rg R AR) {j : Nat} (hj : j < n) (e : ¬ (R j ∨ arE n rg j)) : (AR j).toInt.toNat = arT n X Y j := by
  have hb := arT_b hp hj
  rw [(h j hj).2 e, nI_toInt (by omega)]; omega
theorem arI_s {n : Nat} {X Y : Nat → Int32} {rg : Int32} {R : Nat → Prop} {AR : Nat → Int32} {b : Nat} (h : arI n X Y rg R AR) : arI n X Y rg (fun j => R j ∨ j = b) (upd AR b (-1)) := by
  intro j hj
  by_cases e : j = b
  · rw [e, up_at]; exact ⟨fun _ => rfl, fun g => absurd (Or.inl (Or.inr rfl)) g⟩
  · rw [show upd AR b (-1) j = AR j from if_neg e]
    exact ⟨fun g => (h j hj).1 (g.elim (fun g => g.elim Or.inl (fun g => absurd g e)) Or.inr), fun g => (h j hj).2 (fun q => g (q.elim (fun q => Or.inl (Or.inl q)) Or.inr))⟩
/-- which corners may go: no end, small enough, bare and lawful -/
def goK (ft : Nat) (st tn kd mn cx cy : Nat → Int32) (f0 n : Nat) (X Y : Nat → Int32) (rg lim : Int32) (k : Nat) : Prop :=
  ¬ arE n rg k ∧ ((arT n X Y k : Nat) : Int) ≤ lim.toInt ∧ bareK ft st tn kd mn cx cy f0 (X k).toInt (Y k).toInt ∧ alC ft st tn kd mn cx cy f0 n X Y rg (n - 1) (ctF X k) (ctF Y k) rg k
theorem go_no {ft : Nat} {st tn kd mn cx cy : Nat → Int32} {f0 n : Nat} {X Y : Nat → Int32} {rg lim : Int32} {R : Nat → Prop} {AR : Nat → Int32} {z : Int32} (hp : pls n X Y) (hn : n ≤ 40) (h : arI n X Y rg R AR) (hR : ∀ j, j < n → R j → ¬ goK ft st tn kd mn cx cy f0 n X Y rg lim j)
    (hb : bstS (fun k => (AR k).toInt.toNat) (fun k => ¬ (0 ≤ (AR k).toInt ∧ (AR k).toInt ≤ lim.toInt)) n z) (hz : z.toInt = -1) : bstS (arT n X Y) (fun k => ¬ goK ft st tn kd mn cx cy f0 n X Y rg lim k) n (-1) := by
  refine Or.inl ⟨rfl, fun j hj g => ?_⟩
  have a := bst_no hb hz (by omega) j hj
  exact a ((arI_f hp h hj).mpr ⟨fun q => hR j hj q g, g.1, g.2.1⟩)
theorem go_all {ft : Nat} {st tn kd mn cx cy : Nat → Int32} {f0 n : Nat} {X Y : Nat → Int32} {rg lim : Int32} {R : Nat → Prop} (hR : ∀ j, j < n → R j → ¬ goK ft st tn kd mn cx cy f0 n X Y rg lim j) (hc : n ≤ cntP R n) : bstS (arT n X Y) (fun k => ¬ goK ft st tn kd mn cx cy f0 n X Y rg lim k) n (-1) :=
  Or.inl ⟨rfl, fun j hj => hR j hj (cntP_all hc j hj)⟩
theorem go_yes {ft : Nat} {st tn kd mn cx cy : Nat → Int32} {f0 n b : Nat} {X Y : Nat → Int32} {rg lim : Int32} {R : Nat → Prop} {AR : Nat → Int32} (hp : pls n X Y) (h : arI n X Y rg R AR) (hR : ∀ j, j < n → R j → ¬ goK ft st tn kd mn cx cy f0 n X Y rg lim j)
    (hb : b < n) (hF : ¬ R b ∧ ¬ arE n rg b ∧ ((arT n X Y b : Nat) : Int) ≤ lim.toInt) (hm : ∀ j, j < n → ¬ ¬ (0 ≤ (AR j).toInt ∧ (AR j).toInt ≤ lim.toInt) → (AR b).toInt.toNat < (AR j).toInt.toNat ∨ ((AR b).toInt.toNat = (AR j).toInt.toNat ∧ b ≤ j))
    (h1 : bareK ft st tn kd mn cx cy f0 (X b).toInt (Y b).toInt) (h2 : alC ft st tn kd mn cx cy f0 n X Y rg (n - 1) (ctF X b) (ctF Y b) rg b) : bstS (arT n X Y) (fun k => ¬ goK ft st tn kd mn cx cy f0 n X Y rg lim k) n (nI b) := by
  refine Or.inr ⟨b, rfl, hb, fun q => q ⟨hF.2.1, hF.2.2, h1, h2⟩, fun j hj g => ?_⟩
  have g := Classical.not_not.mp g
  have hj2 : ¬ R j := fun q => hR j hj q g
  have m := hm j hj (fun q => q ((arI_f hp h hj).mpr ⟨hj2, g.1, g.2.1⟩))
  rw [arI_t hp h hb (fun q => q.elim hF.1 hF.2.1), arI_t hp h hj (fun q => q.elim hj2 g.1)] at m
  exact m
end
section
set_option maxHeartbeats 4000000 in
set_option maxRecDepth 100000 in
theorem k_Law_cornerThatGoes_3 (l : Launch) (dC : Nat → ClassId) (dI : Nat → Nat → Nat) (cI cZ cF : ClassId) (sz : Nat) (lw : Nat) (dr : Nat) (tg : Nat) (wy : Nat) (br : Nat) (bo : Nat) (aa : Nat) (tx : Nat) (ty : Nat) (nt : Nat) (TX : Nat → Int32) (TY : Nat → Int32) (rt : Int32) (wx : Nat) (wz : Nat) (nw : Nat) (WX : Nat → Int32) (WY : Nat → Int32) (rw : Int32) (dx : Nat) (dy : Nat) (nd : Nat) (cd : Nat) (P : Nat → Int32) (Q : Nat → Int32) (rd : Int32) (b1 : Int32) (b2 : Int32) (b3 : Int32) (b4 : Int32) (b5 : Int32) (b6 : Int32) (b7 : Int32) (b8 : Int32) (AR : Nat → Int32) (sh : Nat) (fa : Nat) (ft : Nat) (FA : Nat → Option Nat) (fe : Nat) (lo : Nat) (rk9 : Int32) (wd9 : Int32) (tw9 : Int32) (pa9 : Int32) (pb9 : Int32) (lk : Nat) (kd9 : Int32) (st9 : Int32) (gb9 : Int32) (jt9 : Int32) (we9 : Int32) (r : Nat) (rx : Nat) (ry : Nat) (n : Nat) (cap : Nat) (X : Nat → Int32) (Y : Nat → Int32) (rg : Int32) (f0 : Nat) (fm9 : Value) (L : List Nat) (f : Nat → va_E) (kd : Nat → Int32) (st : Nat → Int32) (tn : Nat → Int32) (mn : Nat → Int32) (cx : Nat → Int32) (cy : Nat → Int32) (lim : Int32) (h200 : ft ≤ 200) (hf0 : f0 < ft) (hFA : FA f0 = some fe) (hs1 : st9.toInt = 1) (hvw : ∀ q, q < ft → q ≠ f0 → vwO cI L f FA kd st tn mn cx cy q) (hwf : ∀ q, lvF ft st tn q → wfM mn cx cy q) (hkn : okN ft st tn kd mn) (hn : n ≤ cap) (hcap : cap ≤ 1000) (hp : pls n X Y) (hrg : rg = 0 ∨ rg = 1) (hn2 : 2 ≤ n ∧ n ≤ 40) (hcd : n ≤ cd ∧ cd ≤ 1000) (h3 : ¬ rg.toInt = 0 ∧ n ≤ 3) : zM l yX4_cornerThatGoes cX4_cornerThatGoes 7 (some .int) ({ frames := 0, cells := 0, slots := 0, locals := 0 } : Room) [.ref lw, .ref sh, .ref fe, .int lim] (dC, dI) (zTy cI cZ cF) ([(oc3 lw (.ref dr) (.ref tg) (.ref wy) (.ref br) (.ref bo) (.ref aa)), (oc6 tg (.ref tx) (.ref ty) (nI nt) rt), (oa tx cI 3 TX), (oa ty cI 3 TY), (oc6 wy (.ref wx) (.ref wz) (nI nw) rw), (oa wx cI 2 WX), (oa wz cI 2 WY), (oc6 dr (.ref dx) (.ref dy) (nI nd) rd), (oa dx cI cd P), (oa dy cI cd Q), (oc0 br b1 b2 b3 b4), (oc0 bo b5 b6 b7 b8), (oa aa cI 40 AR), (oc7 sh (.ref fa) (nI ft)), (oq fa cF 200 FA), (oc1 fe rk9 wd9 tw9 pa9 pb9 (.ref lo) (.ref lk) fm9), (oc4 lk kd9 st9 (.ref r) gb9 jt9 we9), (oc6 r (.ref rx) (.ref ry) (nI n) rg), (oa rx cI cap X), (oa ry cI cap Y)] ++ va_pl L f) sz (some (.int (-1))) (fun A t => zPD (dC, dI) classes A ([(oc3 lw (.ref dr) (.ref tg) (.ref wy) (.ref br) (.ref bo) (.ref aa)), (oc6 tg (.ref tx) (.ref ty) (nI nt) rt), (oa tx cI 3 TX), (oa ty cI 3 TY), (oc6 wy (.ref wx) (.ref wz) (nI nw) rw), (oa wx cI 2 WX), (oa wz cI 2 WY), (oc6 dr (.ref dx) (.ref dy) (nI nd) rd), (oa dx cI cd P), (oa dy cI cd Q), (oc0 br b1 b2 b3 b4), (oc0 bo b5 b6 b7 b8), (oa aa cI 40 AR), (oc7 sh (.ref fa) (nI ft)), (oq fa cF 200 FA), (oc1 fe rk9 wd9 tw9 pa9 pb9 (.ref lo) (.ref lk) fm9), (oc4 lk kd9 st9 (.ref r) gb9 jt9 we9), (oc6 r (.ref rx) (.ref ry) (nI n) rg), (oa rx cI cap X), (oa ry cI cap Y)] ++ va_pl L f) t.heap) 0 0 := by
  refine zIn (own := "ScaleShop$Law") (loc := [(0, .ref lw), (1, .ref sh), (2, .ref fe), (3, .int lim)]) rfl rfl rfl rfl (fun p e s m below meth c hx hb hr hts hown hlocks hml hnm9 A hA hS hP hD hK hXN Q9 hQ9 ls hl => ?_)
  refine lv_aload_n hx hb dX4_cornerThatGoes_0 rfl (lv_at hl 2 rfl) ?_
  refine va_get (D := (dC, dI)) (ci := 1) (v := .ref lk) (C := RX2) (T := TX2) (N := 8) hx hb hts inX2 hown hK hP 15 rfl rfl 6 (Nat.le_of_ble_eq_true rfl) (hts _ mw_430) (fun _ h9 => h9) rfl dX4_cornerThatGoes_1 ?_
  refine va_get (D := (dC, dI)) (ci := 4) (v := .ref r) (C := RX5) (T := TX5) (N := 6) hx hb hts inX5 hown hK hP 16 rfl rfl 2 (Nat.le_of_ble_eq_true rfl) (hts _ mw_389) (fun _ h9 => h9) rfl dX4_cornerThatGoes_4 ?_
  refine lv_astore (lv' := [(4, .ref r), (0, .ref lw), (1, .ref sh), (2, .ref fe), (3, .int lim)]) hx hb dX4_cornerThatGoes_7 hl (Nat.le_of_ble_eq_true rfl) rfl (fun ls hl => ?_)
  refine lv_aload hx hb dX4_cornerThatGoes_9 (lv_at hl 0 rfl) ?_
  refine lv_ifnull hx hb dX4_cornerThatGoes_11 ?_
  refine lv_aload hx hb dX4_cornerThatGoes_14 (lv_at hl 0 rfl) ?_
  refine va_get (D := (dC, dI)) (ci := 6) (v := .int rg) (C := RX7) (T := TX7) (N := 4) hx hb hts inX7 hown hK hP 17 rfl rfl 3 (Nat.le_of_ble_eq_true rfl) (hts _ mw_184) (fun _ h9 => h9) rfl dX4_cornerThatGoes_16 ?_
  refine lv_if_eq (tgt := 33) hx hb dX4_cornerThatGoes_19 rfl (fun c_1 => ?_) (fun c_1 => ?_)
  · have c_1 : rg.toInt = 0 := zc_eq rfl rfl c_1
    exfalso; omega
  · have c_1 : ¬ rg.toInt = 0 := zc_ne rfl rfl c_1
    refine lv_aload hx hb dX4_cornerThatGoes_22 (lv_at hl 0 rfl) ?_
    refine va_get (D := (dC, dI)) (ci := 6) (v := .int (nI n)) (C := RX7) (T := TX7) (N := 4) hx hb hts inX7 hown hK hP 17 rfl rfl 2 (Nat.le_of_ble_eq_true rfl) (hts _ mw_176) (fun _ h9 => h9) rfl dX4_cornerThatGoes_24 ?_
    refine lv_iconst (v := 3) hx hb dX4_cornerThatGoes_27 rfl ?_
    have b9_3 : zlt (n) := show n < 2147483648 by omega
    refine lv_icmp_gt (tgt := 33) hx hb dX4_cornerThatGoes_28 rfl (fun c_2 => ?_) (fun c_2 => ?_)
    · have c_2 : 3 < ((n : Nat) : Int) := zc_lt rfl (nI_toInt b9_3) c_2
      exfalso; omega
    · have c_2 : ((n : Nat) : Int) ≤ 3 := zc_nlt rfl (nI_toInt b9_3) c_2
      refine lv_iconst (v := (-1)) hx hb dX4_cornerThatGoes_31 rfl ?_
      obtain ⟨hP9, hD9⟩ := zu_part (cx := [_, _, _, _, _, _, _, _, _, _, _, _, _, _, _, _, _, _, _, _]) hP hD [true, true, true, true, true, true, true, true, true, true, true, true, true, true, true, true, true, true, true, true] rfl rfl
      rw [hQ9]
      exact W.iret (v := (-1)) hx hb hr (fun t ht hW => ⟨⟨rfl, by rw [ht]; exact hP9, hD9⟩, hS.F ht⟩) hS.2.2 dX4_cornerThatGoes_32
set_option maxHeartbeats 4000000 in
set_option maxRecDepth 100000 in
theorem k_Law_cornerThatGoes (l : Launch) (dC : Nat → ClassId) (dI : Nat → Nat → Nat) (cI cZ cF : ClassId) (sz : Nat) (lw : Nat) (dr : Nat) (tg : Nat) (wy : Nat) (br : Nat) (bo : Nat) (aa : Nat) (tx : Nat) (ty : Nat) (nt : Nat) (TX : Nat → Int32) (TY : Nat → Int32) (rt : Int32) (wx : Nat) (wz : Nat) (nw : Nat) (WX : Nat → Int32) (WY : Nat → Int32) (rw : Int32) (dx : Nat) (dy : Nat) (nd : Nat) (cd : Nat) (P : Nat → Int32) (Q : Nat → Int32) (rd : Int32) (b1 : Int32) (b2 : Int32) (b3 : Int32) (b4 : Int32) (b5 : Int32) (b6 : Int32) (b7 : Int32) (b8 : Int32) (AR : Nat → Int32) (sh : Nat) (fa : Nat) (ft : Nat) (FA : Nat → Option Nat) (fe : Nat) (lo : Nat) (rk9 : Int32) (wd9 : Int32) (tw9 : Int32) (pa9 : Int32) (pb9 : Int32) (lk : Nat) (kd9 : Int32) (st9 : Int32) (gb9 : Int32) (jt9 : Int32) (we9 : Int32) (r : Nat) (rx : Nat) (ry : Nat) (n : Nat) (cap : Nat) (X : Nat → Int32) (Y : Nat → Int32) (rg : Int32) (f0 : Nat) (fm9 : Value) (L : List Nat) (f : Nat → va_E) (kd : Nat → Int32) (st : Nat → Int32) (tn : Nat → Int32) (mn : Nat → Int32) (cx : Nat → Int32) (cy : Nat → Int32) (lim : Int32) (h200 : ft ≤ 200) (hf0 : f0 < ft) (hFA : FA f0 = some fe) (hs1 : st9.toInt = 1) (hvw : ∀ q, q < ft → q ≠ f0 → vwO cI L f FA kd st tn mn cx cy q) (hwf : ∀ q, lvF ft st tn q → wfM mn cx cy q) (hkn : okN ft st tn kd mn) (hn : n ≤ cap) (hcap : cap ≤ 1000) (hp : pls n X Y) (hrg : rg = 0 ∨ rg = 1) (hn2 : 2 ≤ n ∧ n ≤ 40) (hcd : n ≤ cd ∧ cd ≤ 1000) (h3 : rg.toInt = 0 ∨ 4 ≤ n) : Met l yX4_cornerThatGoes (.code yX4_cornerThatGoes cX4_cornerThatGoes 7 (some .int) :: ws0) ({ frames := 5, cells := 0, slots := 0, locals := 131 } : Room) (va_Pc [.ref lw, .ref sh, .ref fe, .int lim] (zPre (dC, dI) classes (zTy cI cZ cF) ([(oc3 lw (.ref dr) (.ref tg) (.ref wy) (.ref br) (.ref bo) (.ref aa)), (oc6 tg (.ref tx) (.ref ty) (nI nt) rt), (oa tx cI 3 TX), (oa ty cI 3 TY), (oc6 wy (.ref wx) (.ref wz) (nI nw) rw), (oa wx cI 2 WX), (oa wz cI 2 WY), (oc6 dr (.ref dx) (.ref dy) (nI nd) rd), (oa dx cI cd P), (oa dy cI cd Q), (oc0 br b1 b2 b3 b4), (oc0 bo b5 b6 b7 b8), (oa aa cI 40 AR), (oc7 sh (.ref fa) (nI ft)), (oq fa cF 200 FA), (oc1 fe rk9 wd9 tw9 pa9 pb9 (.ref lo) (.ref lk) fm9), (oc4 lk kd9 st9 (.ref r) gb9 jt9 we9), (oc6 r (.ref rx) (.ref ry) (nI n) rg), (oa rx cI cap X), (oa ry cI cap Y)] ++ va_pl L f) sz zXN)) (zQe (fun v9 t => ∃ (zb : Int32), ∃ (nt1 : Nat), ∃ (TX1 : Nat → Int32), ∃ (TY1 : Nat → Int32), ∃ (rt1 : Int32), ∃ (nw1 : Nat), ∃ (WX1 : Nat → Int32), ∃ (WY1 : Nat → Int32), ∃ (rw1 : Int32), ∃ (nd1 : Nat), ∃ (P1 : Nat → Int32), ∃ (Q1 : Nat → Int32), ∃ (rd1 : Int32), ∃ (d5 : Int32), ∃ (d6 : Int32), ∃ (d7 : Int32), ∃ (d8 : Int32), ∃ (e5 : Int32), ∃ (e6 : Int32), ∃ (e7 : Int32), ∃ (e8 : Int32), ∃ (AR1 : Nat → Int32), v9 = (some (.int zb)) ∧ (bstS (arT n X Y) (fun k => ¬ goK ft st tn kd mn cx cy f0 n X Y rg lim k) n zb) ∧ va_P (dC, dI) classes ([(oc3 lw (.ref dr) (.ref tg) (.ref wy) (.ref br) (.ref bo) (.ref aa)), (oc6 tg (.ref tx) (.ref ty) (nI nt1) rt1), (oa tx cI 3 TX1), (oa ty cI 3 TY1), (oc6 wy (.ref wx) (.ref wz) (nI nw1) rw1), (oa wx cI 2 WX1), (oa wz cI 2 WY1), (oc6 dr (.ref dx) (.ref dy) (nI nd1) rd1), (oa dx cI cd P1), (oa dy cI cd Q1), (oc0 br d5 d6 d7 d8), (oc0 bo e5 e6 e7 e8), (oa aa cI 40 AR1), (oc7 sh (.ref fa) (nI ft)), (oq fa cF 200 FA), (oc1 fe rk9 wd9 tw9 pa9 pb9 (.ref lo) (.ref lk) fm9), (oc4 lk kd9 st9 (.ref r) gb9 jt9 we9), (oc6 r (.ref rx) (.ref ry) (nI n) rg), (oa rx cI cap X), (oa ry cI cap Y)] ++ va_pl L f) t.heap ∧ va_D (va_A ([(oc3 lw (.ref dr) (.ref tg) (.ref wy) (.ref br) (.ref bo) (.ref aa)), (oc6 tg (.ref tx) (.ref ty) (nI nt) rt), (oa tx cI 3 TX), (oa ty cI 3 TY), (oc6 wy (.ref wx) (.ref wz) (nI nw) rw), (oa wx cI 2 WX), (oa wz cI 2 WY), (oc6 dr (.ref dx) (.ref dy) (nI nd) rd), (oa dx cI cd P), (oa dy cI cd Q), (oc0 br b1 b2 b3 b4), (oc0 bo b5 b6 b7 b8), (oa aa cI 40 AR), (oc7 sh (.ref fa) (nI ft)), (oq fa cF 200 FA), (oc1 fe rk9 wd9 tw9 pa9 pb9 (.ref lo) (.ref lk) fm9), (oc4 lk kd9 st9 (.ref r) gb9 jt9 we9), (oc6 r (.ref rx) (.ref ry) (nI n) rg), (oa rx cI cap X), (oa ry cI cap Y)] ++ va_pl L f) sz) ([(oc3 lw (.ref dr) (.ref tg) (.ref wy) (.ref br) (.ref bo) (.ref aa)), (oc6 tg (.ref tx) (.ref ty) (nI nt1) rt1), (oa tx cI 3 TX1), (oa ty cI 3 TY1), (oc6 wy (.ref wx) (.ref wz) (nI nw1) rw1), (oa wx cI 2 WX1), (oa wz cI 2 WY1), (oc6 dr (.ref dx) (.ref dy) (nI nd1) rd1), (oa dx cI cd P1), (oa dy cI cd Q1), (oc0 br d5 d6 d7 d8), (oc0 bo e5 e6 e7 e8), (oa aa cI 40 AR1), (oc7 sh (.ref fa) (nI ft)), (oq fa cF 200 FA), (oc1 fe rk9 wd9 tw9 pa9 pb9 (.ref lo) (.ref lk) fm9), (oc4 lk kd9 st9 (.ref r) gb9 jt9 we9), (oc6 r (.ref rx) (.ref ry) (nI n) rg), (oa rx cI cap X), (oa ry cI cap Y)] ++ va_pl L f)) (va_A ([(oc3 lw (.ref dr) (.ref tg) (.ref wy) (.ref br) (.ref bo) (.ref aa)), (oc6 tg (.ref tx) (.ref ty) (nI nt) rt), (oa tx cI 3 TX), (oa ty cI 3 TY), (oc6 wy (.ref wx) (.ref wz) (nI nw) rw), (oa wx cI 2 WX), (oa wz cI 2 WY), (oc6 dr (.ref dx) (.ref dy) (nI nd) rd), (oa dx cI cd P), (oa dy cI cd Q), (oc0 br b1 b2 b3 b4), (oc0 bo b5 b6 b7 b8), (oa aa cI 40 AR), (oc7 sh (.ref fa) (nI ft)), (oq fa cF 200 FA), (oc1 fe rk9 wd9 tw9 pa9 pb9 (.ref lo) (.ref lk) fm9), (oc4 lk kd9 st9 (.ref r) gb9 jt9 we9), (oc6 r (.ref rx) (.ref ry) (nI n) rg), (oa rx cI cap X), (oa ry cI cap Y)] ++ va_pl L f) sz)) 0 0 (va_A ([(oc3 lw (.ref dr) (.ref tg) (.ref wy) (.ref br) (.ref bo) (.ref aa)), (oc6 tg (.ref tx) (.ref ty) (nI nt) rt), (oa tx cI 3 TX), (oa ty cI 3 TY), (oc6 wy (.ref wx) (.ref wz) (nI nw) rw), (oa wx cI 2 WX), (oa wz cI 2 WY), (oc6 dr (.ref dx) (.ref dy) (nI nd) rd), (oa dx cI cd P), (oa dy cI cd Q), (oc0 br b1 b2 b3 b4), (oc0 bo b5 b6 b7 b8), (oa aa cI 40 AR), (oc7 sh (.ref fa) (nI ft)), (oq fa cF 200 FA), (oc1 fe rk9 wd9 tw9 pa9 pb9 (.ref lo) (.ref lk) fm9), (oc4 lk kd9 st9 (.ref r) gb9 jt9 we9), (oc6 r (.ref rx) (.ref ry) (nI n) rg), (oa rx cI cap X), (oa ry cI cap Y)] ++ va_pl L f) sz) := by
  refine Met.ofW (cc := cX4_cornerThatGoes) (maxL := 7) (ret := (some .int)) rfl rfl ?_
  intro p e s m args below meth c s₁ B hml hv
  obtain ⟨rfl, hsz, hP, hK, hD0, hXN⟩ := hv
  have hx := B.exec
  have hb := B.bytes
  have hr := B.returns
  have hts0 := atoms_spec (ws := .code yX4_cornerThatGoes cX4_cornerThatGoes 7 (some .int) :: ws0) B.pre
  have hts : ∀ w9 ∈ ws0, w9.before ([.ref lw, .ref sh, .ref fe, .int lim] : List Value).toArray s = true := fun w9 h => hts0 w9 (List.mem_cons_of_mem _ h)
  have hown : s.vm.findClass "ScaleShop$Law" = some m.cls := findClass_of_methodNamed B.named
  have hlocks := B.notSynchronized
  subst hsz
  have hD := hD0.self (sz := s.heap.size)
  clear hD0
  generalize hAe : va_A ([(oc3 lw (.ref dr) (.ref tg) (.ref wy) (.ref br) (.ref bo) (.ref aa)), (oc6 tg (.ref tx) (.ref ty) (nI nt) rt), (oa tx cI 3 TX), (oa ty cI 3 TY), (oc6 wy (.ref wx) (.ref wz) (nI nw) rw), (oa wx cI 2 WX), (oa wz cI 2 WY), (oc6 dr (.ref dx) (.ref dy) (nI nd) rd), (oa dx cI cd P), (oa dy cI cd Q), (oc0 br b1 b2 b3 b4), (oc0 bo b5 b6 b7 b8), (oa aa cI 40 AR), (oc7 sh (.ref fa) (nI ft)), (oq fa cF 200 FA), (oc1 fe rk9 wd9 tw9 pa9 pb9 (.ref lo) (.ref lk) fm9), (oc4 lk kd9 st9 (.ref r) gb9 jt9 we9), (oc6 r (.ref rx) (.ref ry) (nI n) rg), (oa rx cI cap X), (oa ry cI cap Y)] ++ va_pl L f) s.heap.size = A at hD ⊢
  have hA : ∀ q : Nat, s.heap.size ≤ q → A q := fun q h => by rw [← hAe]; exact Or.inr h
  clear hAe
  have hS : va_S A s.heap s.heap [] := va_S.rf
  have hP : va_P (dC, dI) classes ([(oc3 lw (.ref dr) (.ref tg) (.ref wy) (.ref br) (.ref bo) (.ref aa)), (oc6 tg (.ref tx) (.ref ty) (nI nt) rt), (oa tx cI 3 TX), (oa ty cI 3 TY), (oc6 wy (.ref wx) (.ref wz) (nI nw) rw), (oa wx cI 2 WX), (oa wz cI 2 WY), (oc6 dr (.ref dx) (.ref dy) (nI nd) rd), (oa dx cI cd P), (oa dy cI cd Q), (oc0 br b1 b2 b3 b4), (oc0 bo b5 b6 b7 b8), (oa aa cI 40 AR), (oc7 sh (.ref fa) (nI ft)), (oq fa cF 200 FA), (oc1 fe rk9 wd9 tw9 pa9 pb9 (.ref lo) (.ref lk) fm9), (oc4 lk kd9 st9 (.ref r) gb9 jt9 we9), (oc6 r (.ref rx) (.ref ry) (nI n) rg), (oa rx cI cap X), (oa ry cI cap Y)] ++ va_pl L f) s.heap := hP
  obtain ⟨Q9, hQ9⟩ : ∃ Q9 : State → Prop, Q9 = MQ below (zQe (fun v9 t => ∃ (zb : Int32), ∃ (nt1 : Nat), ∃ (TX1 : Nat → Int32), ∃ (TY1 : Nat → Int32), ∃ (rt1 : Int32), ∃ (nw1 : Nat), ∃ (WX1 : Nat → Int32), ∃ (WY1 : Nat → Int32), ∃ (rw1 : Int32), ∃ (nd1 : Nat), ∃ (P1 : Nat → Int32), ∃ (Q1 : Nat → Int32), ∃ (rd1 : Int32), ∃ (d5 : Int32), ∃ (d6 : Int32), ∃ (d7 : Int32), ∃ (d8 : Int32), ∃ (e5 : Int32), ∃ (e6 : Int32), ∃ (e7 : Int32), ∃ (e8 : Int32), ∃ (AR1 : Nat → Int32), v9 = (some (.int zb)) ∧ (bstS (arT n X Y) (fun k => ¬ goK ft st tn kd mn cx cy f0 n X Y rg lim k) n zb) ∧ va_P (dC, dI) classes ([(oc3 lw (.ref dr) (.ref tg) (.ref wy) (.ref br) (.ref bo) (.ref aa)), (oc6 tg (.ref tx) (.ref ty) (nI nt1) rt1), (oa tx cI 3 TX1), (oa ty cI 3 TY1), (oc6 wy (.ref wx) (.ref wz) (nI nw1) rw1), (oa wx cI 2 WX1), (oa wz cI 2 WY1), (oc6 dr (.ref dx) (.ref dy) (nI nd1) rd1), (oa dx cI cd P1), (oa dy cI cd Q1), (oc0 br d5 d6 d7 d8), (oc0 bo e5 e6 e7 e8), (oa aa cI 40 AR1), (oc7 sh (.ref fa) (nI ft)), (oq fa cF 200 FA), (oc1 fe rk9 wd9 tw9 pa9 pb9 (.ref lo) (.ref lk) fm9), (oc4 lk kd9 st9 (.ref r) gb9 jt9 we9), (oc6 r (.ref rx) (.ref ry) (nI n) rg), (oa rx cI cap X), (oa ry cI cap Y)] ++ va_pl L f) t.heap ∧ va_D A ([(oc3 lw (.ref dr) (.ref tg) (.ref wy) (.ref br) (.ref bo) (.ref aa)), (oc6 tg (.ref tx) (.ref ty) (nI nt1) rt1), (oa tx cI 3 TX1), (oa ty cI 3 TY1), (oc6 wy (.ref wx) (.ref wz) (nI nw1) rw1), (oa wx cI 2 WX1), (oa wz cI 2 WY1), (oc6 dr (.ref dx) (.ref dy) (nI nd1) rd1), (oa dx cI cd P1), (oa dy cI cd Q1), (oc0 br d5 d6 d7 d8), (oc0 bo e5 e6 e7 e8), (oa aa cI 40 AR1), (oc7 sh (.ref fa) (nI ft)), (oq fa cF 200 FA), (oc1 fe rk9 wd9 tw9 pa9 pb9 (.ref lo) (.ref lk) fm9), (oc4 lk kd9 st9 (.ref r) gb9 jt9 we9), (oc6 r (.ref rx) (.ref ry) (nI n) rg), (oa rx cI cap X), (oa ry cI cap Y)] ++ va_pl L f)) A) ([.ref lw, .ref sh, .ref fe, .int lim] : List Value).toArray s 0 0 A := ⟨_, rfl⟩
  rw [← hQ9]
  have hl := lv_entry ([.ref lw, .ref sh, .ref fe, .int lim]) (n := 7) (Nat.le_of_ble_eq_true rfl)
  rw [lg_entry_eq]
  generalize (lg_sl ([.ref lw, .ref sh, .ref fe, .int lim]) ++ List.replicate (7 - (lg_sl ([.ref lw, .ref sh, .ref fe, .int lim])).length) Slot.unset).toArray = ls at hl ⊢
  have hl : lv_has ls 7 [(0, .ref lw), (1, .ref sh), (2, .ref fe), (3, .int lim)] := hl
  refine lv_aload_n hx hb dX4_cornerThatGoes_0 rfl (lv_at hl 2 rfl) ?_
  refine va_get (D := (dC, dI)) (ci := 1) (v := .ref lk) (C := RX2) (T := TX2) (N := 8) hx hb hts inX2 hown hK hP 15 rfl rfl 6 (Nat.le_of_ble_eq_true rfl) (hts _ mw_430) (fun _ h9 => h9) rfl dX4_cornerThatGoes_1 ?_
  refine va_get (D := (dC, dI)) (ci := 4) (v := .ref r) (C := RX5) (T := TX5) (N := 6) hx hb hts inX5 hown hK hP 16 rfl rfl 2 (Nat.le_of_ble_eq_true rfl) (hts _ mw_389) (fun _ h9 => h9) rfl dX4_cornerThatGoes_4 ?_
  refine lv_astore (lv' := [(4, .ref r), (0, .ref lw), (1, .ref sh), (2, .ref fe), (3, .int lim)]) hx hb dX4_cornerThatGoes_7 hl (Nat.le_of_ble_eq_true rfl) rfl (fun ls hl => ?_)
  refine lv_aload hx hb dX4_cornerThatGoes_9 (lv_at hl 0 rfl) ?_
  refine lv_ifnull hx hb dX4_cornerThatGoes_11 ?_
  refine lv_aload hx hb dX4_cornerThatGoes_14 (lv_at hl 0 rfl) ?_
  refine va_get (D := (dC, dI)) (ci := 6) (v := .int rg) (C := RX7) (T := TX7) (N := 4) hx hb hts inX7 hown hK hP 17 rfl rfl 3 (Nat.le_of_ble_eq_true rfl) (hts _ mw_184) (fun _ h9 => h9) rfl dX4_cornerThatGoes_16 ?_
  refine lv_if_eq (tgt := 33) hx hb dX4_cornerThatGoes_19 rfl (fun c_1 => ?_) (fun c_1 => ?_)
  · have c_1 : rg.toInt = 0 := zc_eq rfl rfl c_1
    refine lv_iconst (v := 0) hx hb dX4_cornerThatGoes_33 rfl ?_
    refine lv_istore (lv' := [(5, .int 0), (4, .ref r), (0, .ref lw), (1, .ref sh), (2, .ref fe), (3, .int lim)]) hx hb dX4_cornerThatGoes_34 hl (Nat.le_of_ble_eq_true rfl) rfl (fun ls hl => ?_)
    have hl_36 : ∀ (n9 : Nat) (k : Nat) (AR1 : Nat → Int32) (H : Heap) (locs : List Loc) (ls : Array Slot), n - k < n9 → (k ≤ n) → (∀ j, j < k → ((False ∨ arE n rg j) → AR1 j = -1) ∧ (¬ (False ∨ arE n rg j) → AR1 j = nI (arT n X Y j))) → va_P (dC, dI) classes ([(oc3 lw (.ref dr) (.ref tg) (.ref wy) (.ref br) (.ref bo) (.ref aa)), (oc6 tg (.ref tx) (.ref ty) (nI nt) rt), (oa tx cI 3 TX), (oa ty cI 3 TY), (oc6 wy (.ref wx) (.ref wz) (nI nw) rw), (oa wx cI 2 WX), (oa wz cI 2 WY), (oc6 dr (.ref dx) (.ref dy) (nI nd) rd), (oa dx cI cd P), (oa dy cI cd Q), (oc0 br b1 b2 b3 b4), (oc0 bo b5 b6 b7 b8), (oa aa cI 40 AR1), (oc7 sh (.ref fa) (nI ft)), (oq fa cF 200 FA), (oc1 fe rk9 wd9 tw9 pa9 pb9 (.ref lo) (.ref lk) fm9), (oc4 lk kd9 st9 (.ref r) gb9 jt9 we9), (oc6 r (.ref rx) (.ref ry) (nI n) rg), (oa rx cI cap X), (oa ry cI cap Y)] ++ va_pl L f) H → va_D A ([(oc3 lw (.ref dr) (.ref tg) (.ref wy) (.ref br) (.ref bo) (.ref aa)), (oc6 tg (.ref tx) (.ref ty) (nI nt) rt), (oa tx cI 3 TX), (oa ty cI 3 TY), (oc6 wy (.ref wx) (.ref wz) (nI nw) rw), (oa wx cI 2 WX), (oa wz cI 2 WY), (oc6 dr (.ref dx) (.ref dy) (nI nd) rd), (oa dx cI cd P), (oa dy cI cd Q), (oc0 br b1 b2 b3 b4), (oc0 bo b5 b6 b7 b8), (oa aa cI 40 AR1), (oc7 sh (.ref fa) (nI ft)), (oq fa cF 200 FA), (oc1 fe rk9 wd9 tw9 pa9 pb9 (.ref lo) (.ref lk) fm9), (oc4 lk kd9 st9 (.ref r) gb9 jt9 we9), (oc6 r (.ref rx) (.ref ry) (nI n) rg), (oa rx cI cap X), (oa ry cI cap Y)] ++ va_pl L f) → va_S A s.heap H locs → lv_has ls 7 [(5, .int (nI k)), (4, .ref r), (0, .ref lw), (1, .ref sh), (2, .ref fe), (3, .int lim)] → W p l e ((headSpec (.code yX4_cornerThatGoes cX4_cornerThatGoes 7 (some .int) :: ws0) ({ frames := 5, cells := 0, slots := 0, locals := 131 } : Room)).room) s m ([.ref lw, .ref sh, .ref fe, .int lim] : List Value).toArray below meth c H locs 0 0 Q9 (F0 m 36 ls []) := by
      intro n9
      induction n9 with
      | zero => intro k AR1 H locs ls hm; exact absurd hm (Nat.not_lt_zero _)
      | succ n9 ih_36 =>
        intro k AR1 H locs ls hm hk har hP hD hS hl
        refine lv_iload hx hb dX4_cornerThatGoes_36 (lv_at hl 0 rfl) ?_
        refine lv_aload hx hb dX4_cornerThatGoes_38 (lv_at hl 1 rfl) ?_
        refine va_get (D := (dC, dI)) (ci := 6) (v := .int (nI n)) (C := RX7) (T := TX7) (N := 4) hx hb hts inX7 hown hK hP 17 rfl rfl 2 (Nat.le_of_ble_eq_true rfl) (hts _ mw_176) (fun _ h9 => h9) rfl dX4_cornerThatGoes_40 ?_
        have b9_3 : zlt (k) := show k < 2147483648 by omega
        have b9_4 : zlt (n) := show n < 2147483648 by omega
        refine lv_icmp_ge (tgt := 80) hx hb dX4_cornerThatGoes_43 rfl (fun c_2 => ?_) (fun c_2 => ?_)
        · have c_2 : ((n : Nat) : Int) ≤ ((k : Nat) : Int) := zc_le (nI_toInt b9_4) (nI_toInt b9_3) c_2
          refine lv_iconst (v := 0) hx hb dX4_cornerThatGoes_80 rfl ?_
          refine lv_istore (lv' := [(5, .int 0), (4, .ref r), (0, .ref lw), (1, .ref sh), (2, .ref fe), (3, .int lim)]) hx hb dX4_cornerThatGoes_81 hl (Nat.le_of_ble_eq_true rfl) rfl (fun ls hl => ?_)
          have hl_83 : ∀ (n9 : Nat) (t5 : Nat) (R : Nat → Prop) (AR1 : Nat → Int32) (nt1 : Nat) (TX1 : Nat → Int32) (TY1 : Nat → Int32) (rt1 : Int32) (nw1 : Nat) (WX1 : Nat → Int32) (WY1 : Nat → Int32) (rw1 : Int32) (nd1 : Nat) (P1 : Nat → Int32) (Q1 : Nat → Int32) (rd1 : Int32) (d5 : Int32) (d6 : Int32) (d7 : Int32) (d8 : Int32) (e5 : Int32) (e6 : Int32) (e7 : Int32) (e8 : Int32) (H : Heap) (locs : List Loc) (ls : Array Slot), n - t5 < n9 → (t5 ≤ n) → (arI n X Y rg R AR1) → (∀ j, j < n → R j → ¬ goK ft st tn kd mn cx cy f0 n X Y rg lim j) → (t5 ≤ cntP R n) → va_P (dC, dI) classes ([(oc3 lw (.ref dr) (.ref tg) (.ref wy) (.ref br) (.ref bo) (.ref aa)), (oc6 tg (.ref tx) (.ref ty) (nI nt1) rt1), (oa tx cI 3 TX1), (oa ty cI 3 TY1), (oc6 wy (.ref wx) (.ref wz) (nI nw1) rw1), (oa wx cI 2 WX1), (oa wz cI 2 WY1), (oc6 dr (.ref dx) (.ref dy) (nI nd1) rd1), (oa dx cI cd P1), (oa dy cI cd Q1), (oc0 br d5 d6 d7 d8), (oc0 bo e5 e6 e7 e8), (oa aa cI 40 AR1), (oc7 sh (.ref fa) (nI ft)), (oq fa cF 200 FA), (oc1 fe rk9 wd9 tw9 pa9 pb9 (.ref lo) (.ref lk) fm9), (oc4 lk kd9 st9 (.ref r) gb9 jt9 we9), (oc6 r (.ref rx) (.ref ry) (nI n) rg), (oa rx cI cap X), (oa ry cI cap Y)] ++ va_pl L f) H → va_D A ([(oc3 lw (.ref dr) (.ref tg) (.ref wy) (.ref br) (.ref bo) (.ref aa)), (oc6 tg (.ref tx) (.ref ty) (nI nt1) rt1), (oa tx cI 3 TX1), (oa ty cI 3 TY1), (oc6 wy (.ref wx) (.ref wz) (nI nw1) rw1), (oa wx cI 2 WX1), (oa wz cI 2 WY1), (oc6 dr (.ref dx) (.ref dy) (nI nd1) rd1), (oa dx cI cd P1), (oa dy cI cd Q1), (oc0 br d5 d6 d7 d8), (oc0 bo e5 e6 e7 e8), (oa aa cI 40 AR1), (oc7 sh (.ref fa) (nI ft)), (oq fa cF 200 FA), (oc1 fe rk9 wd9 tw9 pa9 pb9 (.ref lo) (.ref lk) fm9), (oc4 lk kd9 st9 (.ref r) gb9 jt9 we9), (oc6 r (.ref rx) (.ref ry) (nI n) rg), (oa rx cI cap X), (oa ry cI cap Y)] ++ va_pl L f) → va_S A s.heap H locs → lv_has ls 7 [(5, .int (nI t5)), (4, .ref r), (0, .ref lw), (1, .ref sh), (2, .ref fe), (3, .int lim)] → W p l e ((headSpec (.code yX4_cornerThatGoes cX4_cornerThatGoes 7 (some .int) :: ws0) ({ frames := 5, cells := 0, slots := 0, locals := 131 } : Room)).room) s m ([.ref lw, .ref sh, .ref fe, .int lim] : List Value).toArray below meth c H locs 0 0 Q9 (F0 m 83 ls []) := by
            intro n9
            induction n9 with
            | zero => intro t5 R AR1 nt1 TX1 TY1 rt1 nw1 WX1 WY1 rw1 nd1 P1 Q1 rd1 d5 d6 d7 d8 e5 e6 e7 e8 H locs ls hm; exact absurd hm (Nat.not_lt_zero _)
            | succ n9 ih_83 =>
              intro t5 R AR1 nt1 TX1 TY1 rt1 nw1 WX1 WY1 rw1 nd1 P1 Q1 rd1 d5 d6 d7 d8 e5 e6 e7 e8 H locs ls hm ht5 har hR hct hP hD hS hl
              refine lv_iload hx hb dX4_cornerThatGoes_83 (lv_at hl 0 rfl) ?_
              refine lv_aload hx hb dX4_cornerThatGoes_85 (lv_at hl 1 rfl) ?_
              refine va_get (D := (dC, dI)) (ci := 6) (v := .int (nI n)) (C := RX7) (T := TX7) (N := 4) hx hb hts inX7 hown hK hP 17 rfl rfl 2 (Nat.le_of_ble_eq_true rfl) (hts _ mw_176) (fun _ h9 => h9) rfl dX4_cornerThatGoes_87 ?_
              have b9_6 : zlt (t5) := show t5 < 2147483648 by omega
              refine lv_icmp_ge (tgt := 184) hx hb dX4_cornerThatGoes_90 rfl (fun c_5 => ?_) (fun c_5 => ?_)
              · have c_5 : ((n : Nat) : Int) ≤ ((t5 : Nat) : Int) := zc_le (nI_toInt b9_4) (nI_toInt b9_6) c_5
                refine lv_iconst (v := (-1)) hx hb dX4_cornerThatGoes_184 rfl ?_
                have hy9 := go_all (lim := lim) hR (by omega : n ≤ cntP R n)
                obtain ⟨hP9, hD9⟩ := zu_part (cx := [_, _, _, _, _, _, _, _, _, _, _, _, _, _, _, _, _, _, _, _]) hP hD [true, true, true, true, true, true, true, true, true, true, true, true, true, true, true, true, true, true, true, true] rfl rfl
                rw [hQ9]
                exact W.iret (v := (-1)) hx hb hr (fun t ht hW => ⟨⟨_, rfl, (-1), nt1, TX1, TY1, rt1, nw1, WX1, WY1, rw1, nd1, P1, Q1, rd1, d5, d6, d7, d8, e5, e6, e7, e8, AR1, rfl, (hy9), by rw [ht]; exact hP9, hD9⟩, hS.F ht⟩) hS.2.2 dX4_cornerThatGoes_185
              · have c_5 : ((t5 : Nat) : Int) < ((n : Nat) : Int) := zc_nle (nI_toInt b9_4) (nI_toInt b9_6) c_5
                refine lv_aload_n hx hb dX4_cornerThatGoes_93 rfl (lv_at hl 2 rfl) ?_
                refine lv_aload hx hb dX4_cornerThatGoes_94 (lv_at hl 1 rfl) ?_
                refine va_get (D := (dC, dI)) (ci := 6) (v := .int (nI n)) (C := RX7) (T := TX7) (N := 4) hx hb hts inX7 hown hK hP 17 rfl rfl 2 (Nat.le_of_ble_eq_true rfl) (hts _ mw_176) (fun _ h9 => h9) rfl dX4_cornerThatGoes_96 ?_
                refine lv_iload_n hx hb dX4_cornerThatGoes_99 rfl (lv_at hl 5 rfl) ?_
                obtain ⟨hPc, hDc, hFc⟩ := zo_sub (wc := [_, _]) hP hD hS hA [0, 12] rfl rfl
                refine zcalle (va_runV (As := [.int (nI n), .int lim]) (rest := []) ⟨hx, hb, hml, hown, hts⟩ (k_Law_leastArea l dC dI cI cZ cF H.size lw dr tg wy br bo aa n AR1 lim (by first | with_reducible assumption | omega)) (csV_71 hts rfl rfl ⟨Nat.le_of_ble_eq_true rfl, Nat.le_of_ble_eq_true rfl⟩) (zPV2 (q0 := 0) (ci := 3) hPc hDc hK hXN rfl rfl) rfl rfl hl.1 rfl (lv_room (Nat.le_of_ble_eq_true rfl)) dX4_cornerThatGoes_100 ⟨Nat.le_of_ble_eq_true rfl, Nat.le_of_ble_eq_true rfl⟩) hS hFc hFc (fun v9 t H locs ht hB hk1 hS => ?_)
                obtain ⟨zb, rfl, hat, hP1, hD1⟩ := hB
                refine W.eq (g2 := F0 m 103 ls [.int zb]) rfl ?_
                rw [ht] at hP1
                obtain ⟨hP, hD⟩ := znQ (W2 := [_, _, _, _, _, _, _, _, _, _, _, _, _, _, _, _, _, _, _, _]) hP hD hk1 hFc hP1 hD1 [0, 12] zl_34 zl_34 [0, 12] (by decide +kernel) rfl rfl rfl rfl rfl
                clear hk1 hPc hDc hFc hP1 hD1 ht
                refine lv_istore (lv' := [(6, .int zb), (5, .int (nI t5)), (4, .ref r), (0, .ref lw), (1, .ref sh), (2, .ref fe), (3, .int lim)]) hx hb dX4_cornerThatGoes_103 hl (Nat.le_of_ble_eq_true rfl) rfl (fun ls hl => ?_)
                refine lv_iload hx hb dX4_cornerThatGoes_105 (lv_at hl 0 rfl) ?_
                refine lv_iconst (v := (-1)) hx hb dX4_cornerThatGoes_107 rfl ?_
                refine lv_icmp_ne (tgt := 113) hx hb dX4_cornerThatGoes_108 rfl (fun c_7 => ?_) (fun c_7 => ?_)
                · have c_7 : ¬ zb.toInt = (-1) := zc_ne rfl rfl c_7
                  obtain ⟨b9, hz9, hbk, hbF, hbm⟩ := bst_get hat (by omega)
                  have hF9 := (arI_f hp har hbk).mp (Classical.not_not.mp hbF)
                  refine lv_aload_n hx hb dX4_cornerThatGoes_113 rfl (lv_at hl 3 rfl) ?_
                  refine va_get (D := (dC, dI)) (ci := 3) (v := .ref dr) (C := RX4) (T := TX4) (N := 6) hx hb hts inX4 hown hK hP 0 rfl rfl 0 (Nat.le_of_ble_eq_true rfl) (hts _ mw_219) (fun _ h9 => h9) rfl dX4_cornerThatGoes_114 ?_
                  refine lv_aload hx hb dX4_cornerThatGoes_117 (lv_at hl 2 rfl) ?_
                  obtain ⟨hPc, hDc, hFc⟩ := zo_sub (wc := [_, _, _, _, _, _]) hP hD hS hA [7, 8, 9, 17, 18, 19] (by decide +kernel) rfl
                  refine zcall (st1 := []) (va_runV (As := [.ref r]) (rest := []) ⟨hx, hb, hml, hown, hts⟩ (k_Row_copyFrom l dC dI cI cZ cF H.size dr dx dy nd1 cd P1 Q1 rd1 r rx ry n cap X Y rg (by first | with_reducible assumption | omega) (by first | with_reducible assumption | omega) (by first | with_reducible assumption | omega) (by first | with_reducible assumption | omega) (hrg)) (csV_72 hts rfl rfl ⟨Nat.le_of_ble_eq_true rfl, Nat.le_of_ble_eq_true rfl⟩) (zPV2 (q0 := 0) (ci := 6) hPc hDc hK hXN rfl rfl) rfl rfl hl.1 rfl (lv_room (Nat.le_of_ble_eq_true rfl)) dX4_cornerThatGoes_119 ⟨Nat.le_of_ble_eq_true rfl, Nat.le_of_ble_eq_true rfl⟩) hS hFc hFc rfl (fun t H locs ht hB hk1 hS => ?_)
                  obtain ⟨P2, Q2, hcp, hP1, hD1⟩ := hB
                  rw [ht] at hP1
                  obtain ⟨hP, hD⟩ := znQ (W2 := [_, _, _, _, _, _, _, (oc6 dr (.ref dx) (.ref dy) (nI n) rg), (oa dx cI cd P2), (oa dy cI cd Q2), _, _, _, _, _, _, _, _, _, _]) hP hD hk1 hFc hP1 hD1 [7, 8, 9, 17, 18, 19] zl_35 zl_36 [7, 8, 9, 17, 18, 19] (by decide +kernel) rfl rfl rfl rfl rfl
                  clear hk1 hPc hDc hFc hP1 hD1 ht
                  refine lv_aload_n hx hb dX4_cornerThatGoes_122 rfl (lv_at hl 3 rfl) ?_
                  refine va_get (D := (dC, dI)) (ci := 3) (v := .ref dr) (C := RX4) (T := TX4) (N := 6) hx hb hts inX4 hown hK hP 0 rfl rfl 0 (Nat.le_of_ble_eq_true rfl) (hts _ mw_219) (fun _ h9 => h9) rfl dX4_cornerThatGoes_123 ?_
                  refine lv_iload hx hb dX4_cornerThatGoes_126 (lv_at hl 0 rfl) ?_
                  refine zz_i (v := nI b9) (hz9) ?_
                  obtain ⟨hPc, hDc, hFc⟩ := zo_sub (wc := [_, _, _]) hP hD hS hA [7, 8, 9] rfl rfl
                  refine zcall (st1 := []) (va_runV (As := [.int (nI b9)]) (rest := []) ⟨hx, hb, hml, hown, hts⟩ (k_Row_cut l dC dI cI cZ cF H.size dr dx dy n cd P2 Q2 rg b9 (by first | with_reducible assumption | omega) (by first | with_reducible assumption | omega) (by first | with_reducible assumption | omega)) (csV_73 hts rfl rfl ⟨Nat.le_of_ble_eq_true rfl, Nat.le_of_ble_eq_true rfl⟩) (zPV2 (q0 := 0) (ci := 6) hPc hDc hK hXN rfl rfl) rfl rfl hl.1 rfl (lv_room (Nat.le_of_ble_eq_true rfl)) dX4_cornerThatGoes_128 ⟨Nat.le_of_ble_eq_true rfl, Nat.le_of_ble_eq_true rfl⟩) hS hFc hFc rfl (fun t H locs ht hB hk1 hS => ?_)
                  obtain ⟨P3, Q3, hc1, hc2, hP1, hD1⟩ := hB
                  rw [ht] at hP1
                  obtain ⟨hP, hD⟩ := znQ (W2 := [_, _, _, _, _, _, _, (oc6 dr (.ref dx) (.ref dy) (nI (n - 1)) rg), (oa dx cI cd P3), (oa dy cI cd Q3), _, _, _, _, _, _, _, _, _, _]) hP hD hk1 hFc hP1 hD1 [7, 8, 9] zl_37 zl_37 [7, 8, 9] (by decide +kernel) rfl rfl rfl rfl rfl
                  clear hk1 hPc hDc hFc hP1 hD1 ht
                  have hcut := ct_cg hcp hc1 hc2 hbk
                  refine lv_aload_n hx hb dX4_cornerThatGoes_131 rfl (lv_at hl 3 rfl) ?_
                  refine lv_aload_n hx hb dX4_cornerThatGoes_132 rfl (lv_at hl 4 rfl) ?_
                  refine lv_aload_n hx hb dX4_cornerThatGoes_133 rfl (lv_at hl 5 rfl) ?_
                  refine lv_aload hx hb dX4_cornerThatGoes_134 (lv_at hl 2 rfl) ?_
                  refine va_get (D := (dC, dI)) (ci := 6) (v := .ref rx) (C := RX7) (T := TX7) (N := 4) hx hb hts inX7 hown hK hP 17 rfl rfl 0 (Nat.le_of_ble_eq_true rfl) (hts _ mw_163) (fun _ h9 => h9) rfl dX4_cornerThatGoes_136 ?_
                  refine lv_iload hx hb dX4_cornerThatGoes_139 (lv_at hl 0 rfl) ?_
                  refine zz_i (v := nI b9) (hz9) ?_
                  have b9_8 : b9 < cap := by omega
                  have b9_9 : zlt (cap) := show cap < 2147483648 by omega
                  refine z_iald hx hb hK hP 18 0 rfl rfl (e := b9) rfl b9_8 b9_9 dX4_cornerThatGoes_141 ?_
                  refine lv_aload hx hb dX4_cornerThatGoes_142 (lv_at hl 2 rfl) ?_
                  refine va_get (D := (dC, dI)) (ci := 6) (v := .ref ry) (C := RX7) (T := TX7) (N := 4) hx hb hts inX7 hown hK hP 17 rfl rfl 1 (Nat.le_of_ble_eq_true rfl) (hts _ mw_170) (fun _ h9 => h9) rfl dX4_cornerThatGoes_144 ?_
                  refine lv_iload hx hb dX4_cornerThatGoes_147 (lv_at hl 0 rfl) ?_
                  refine zz_i (v := nI b9) (hz9) ?_
                  refine z_iald hx hb hK hP 19 0 rfl rfl (e := b9) rfl b9_8 b9_9 dX4_cornerThatGoes_149 ?_
                  obtain ⟨hPc, hDc, hFc, hI1⟩ := zi_part (cx := [_, _, _, _, _]) hP hD hS hA [0, 13, 14, 15, 16] (by decide +kernel) rfl
                  refine zcall (st1 := [.int (pI (∀ q, q < ft → (q ≠ f0 → lvF ft st tn q → ¬ onF kd mn cx cy q (X b9).toInt (Y b9).toInt)))]) (va_runV (As := [.ref sh, .ref fe, .int (X b9), .int (Y b9)]) (rest := []) ⟨hx, hb, hml, hown, hts⟩ (k_Law_isBare l dC dI cI cZ cF H.size lw dr tg wy br bo aa sh fa ft FA fe lo rk9 wd9 tw9 pa9 pb9 lk kd9 st9 gb9 jt9 we9 r f0 fm9 L f kd st tn mn cx cy (X b9) (Y b9) (by first | with_reducible assumption | omega) (by first | with_reducible assumption | omega) (hFA) (hs1) (by first | with_reducible assumption | assumption) (by first | with_reducible assumption | assumption) (by first | with_reducible assumption | assumption) ((hp b9 hbk).1) ((hp b9 hbk).2)) (csV_74 hts rfl rfl ⟨Nat.le_of_ble_eq_true rfl, Nat.le_of_ble_eq_true rfl⟩) (zPV2 (q0 := 0) (ci := 3) hPc hDc hK hXN rfl rfl) rfl rfl hl.1 rfl (lv_room (Nat.le_of_ble_eq_true rfl)) dX4_cornerThatGoes_150 ⟨Nat.le_of_ble_eq_true rfl, Nat.le_of_ble_eq_true rfl⟩) hS hFc hFc rfl (fun t H locs ht hB hk1 hS => ?_)
                  obtain ⟨hP1, hD1⟩ := hB
                  rw [ht] at hP1
                  replace hP := z0 hP hD hk1 hP1 hI1
                  clear hk1 hPc hDc hFc hP1 hD1 ht hI1
                  refine zz_i (v := pI (bareK ft st tn kd mn cx cy f0 (X b9).toInt (Y b9).toInt)) (rfl) ?_
                  refine lv_if_eq (tgt := 170) hx hb dX4_cornerThatGoes_153 rfl (fun c_10 => ?_) (fun c_10 => ?_)
                  · have c_10 : ¬ (bareK ft st tn kd mn cx cy f0 (X b9).toInt (Y b9).toInt) := zp_0 c_10
                    have hbad : ¬ goK ft st tn kd mn cx cy f0 n X Y rg lim b9 := fun h9 => (by first | exact absurd h9.2.2.1 (by first | with_reducible assumption | assumption) | exact absurd h9.2.2.2 (by first | with_reducible assumption | assumption))
                    refine lv_aload_n hx hb dX4_cornerThatGoes_170 rfl (lv_at hl 3 rfl) ?_
                    refine va_get (D := (dC, dI)) (ci := 3) (v := .ref aa) (C := RX4) (T := TX4) (N := 6) hx hb hts inX4 hown hK hP 0 rfl rfl 5 (Nat.le_of_ble_eq_true rfl) (hts _ mw_225) (fun _ h9 => h9) rfl dX4_cornerThatGoes_171 ?_
                    refine lv_iload hx hb dX4_cornerThatGoes_174 (lv_at hl 0 rfl) ?_
                    refine zz_i (v := nI b9) (hz9) ?_
                    refine lv_iconst (v := (-1)) hx hb dX4_cornerThatGoes_176 rfl ?_
                    have b9_11 : b9 < 40 := by omega
                    refine z_iast hx hb hK hP hD hS 12 0 rfl rfl (e := b9) (x := (-1)) rfl b9_11 (Nat.le_of_ble_eq_true rfl) dX4_cornerThatGoes_177 (fun H locs hP hD hS => ?_)
                    obtain ⟨hP, hD⟩ := zre (W2 := ([_, _, _, _, _, _, _, _, _, _, _, _, (oa aa cI 40 (upd AR1 b9 (-1))), _, _, _, _, _, _, _] ++ va_pl L f)) hP hD rfl
                    refine lv_iinc (v := nI (t5 + 1)) (lv' := [(5, .int (nI (t5 + 1))), (6, .int zb), (4, .ref r), (0, .ref lw), (1, .ref sh), (2, .ref fe), (3, .int lim)]) hx hb dX4_cornerThatGoes_178 hl (k := 1) rfl (nI_add t5 1) (Nat.le_of_ble_eq_true rfl) rfl (fun ls hl => ?_)
                    refine lv_goto (tgt := 83) hx hb dX4_cornerThatGoes_181 rfl ?_
                    exact ih_83 (t5 + 1) (fun j => R j ∨ j = b9) (upd AR1 b9 (-1)) nt1 TX1 TY1 rt1 nw1 WX1 WY1 rw1 (n - 1) P3 Q3 rg d5 d6 d7 d8 e5 e6 e7 e8 H locs ls (by first | with_reducible assumption | omega) (by first | with_reducible assumption | omega) (arI_s har) (fun j hj h => h.elim (fun h9 => hR j hj h9) (fun h9 => by rw [h9]; exact hbad)) (Nat.lt_of_le_of_lt hct (cntP_lt (fun j h => Or.inl h) hbk (Or.inr rfl) hF9.1)) hP hD hS (lv_sub hl [0, 2, 3, 4, 5, 6] rfl)
                  · have c_10 : bareK ft st tn kd mn cx cy f0 (X b9).toInt (Y b9).toInt := zp_1 c_10
                    refine lv_aload_n hx hb dX4_cornerThatGoes_156 rfl (lv_at hl 3 rfl) ?_
                    refine lv_aload_n hx hb dX4_cornerThatGoes_157 rfl (lv_at hl 4 rfl) ?_
                    refine lv_aload_n hx hb dX4_cornerThatGoes_158 rfl (lv_at hl 5 rfl) ?_
                    refine lv_iload hx hb dX4_cornerThatGoes_159 (lv_at hl 0 rfl) ?_
                    refine zz_i (v := nI b9) (hz9) ?_
                    obtain ⟨hPc, hDc, hFc⟩ := zo_part (cx := [_, _, _, _, _, _, _, _, _, _, _, _, _, _, _, _, _, _, _]) hP hD hS hA [0, 1, 2, 3, 4, 5, 6, 7, 8, 9, 10, 11, 13, 14, 15, 16, 17, 18, 19] (by decide +kernel) rfl
                    refine zcall (st1 := [.int (pI (pls (n - 1) P3 Q3 ∧ eFr (n - 1) P3 Q3 rg (prv (n - 1) (gpK (n - 1) b9)) 0 ∧ ∀ q, q < ft → (q ≠ f0 → lvF ft st tn q → (apB (min (min (X b9).toInt (X (prv n b9)).toInt) (X (nxt n b9)).toInt) (min (min (Y b9).toInt (Y (prv n b9)).toInt) (Y (nxt n b9)).toInt) (max (max (X b9).toInt (X (prv n b9)).toInt) (X (nxt n b9)).toInt) (max (max (Y b9).toInt (Y (prv n b9)).toInt) (Y (nxt n b9)).toInt) (nN (mn q)) (cF40 cx q) (cF40 cy q) ∨ (asb n X Y rg (n - 1) P3 Q3 rg (nN (mn q)) (cF40 cx q) (cF40 cy q) (rgK (kd q).toInt) ∧ (¬ ∃ j, j < nN (mn q) ∧ swC n X Y b9 (cF40 cx q j).toInt (cF40 cy q j).toInt))))))]) (va_runV (As := [.ref sh, .ref fe, .int (nI b9)]) (rest := []) ⟨hx, hb, hml, hown, hts⟩ (k_Law_allows_k l dC dI cI cZ cF H.size lw dr tg wy br bo aa tx ty nt1 TX1 TY1 rt1 wx wz nw1 WX1 WY1 rw1 dx dy (n - 1) cd P3 Q3 rg d5 d6 d7 d8 e5 e6 e7 e8 sh fa ft FA fe lo rk9 wd9 tw9 pa9 pb9 lk kd9 st9 gb9 jt9 we9 r rx ry n cap X Y rg f0 b9 fm9 L f kd st tn mn cx cy (by first | with_reducible assumption | omega) (by first | with_reducible assumption | omega) (hFA) (hs1) (by first | with_reducible assumption | assumption) (by first | with_reducible assumption | assumption) (by first | with_reducible assumption | assumption) (by first | with_reducible assumption | omega) (by first | with_reducible assumption | omega) (by first | with_reducible assumption | omega) (by first | with_reducible assumption | omega) (hp) (by first | with_reducible assumption | omega) (by first | with_reducible assumption | omega) (by first | with_reducible assumption | omega) (by first | with_reducible assumption | omega)) (csV_75 hts rfl rfl ⟨Nat.le_of_ble_eq_true rfl, Nat.le_of_ble_eq_true rfl⟩) (zPV2 (q0 := 0) (ci := 3) hPc hDc hK hXN rfl rfl) rfl rfl hl.1 rfl (lv_room (Nat.le_of_ble_eq_true rfl)) dX4_cornerThatGoes_161 ⟨Nat.le_of_ble_eq_true rfl, Nat.le_of_ble_eq_true rfl⟩) hS hFc hFc rfl (fun t H locs ht hB hk1 hS => ?_)
                    refine ex16 hB (fun q_12 q_13 q_14 q_15 q_16 q_17 q_18 q_19 q_20 q_21 q_22 q_23 q_24 q_25 q_26 q_27 hB0 => ?_)
                    clear hB
                    obtain ⟨hP1, hD1⟩ := hB0
                    rw [ht] at hP1
                    obtain ⟨hP, hD⟩ := znP (W2 := [_, (oc6 tg (.ref tx) (.ref ty) (nI q_12) q_15), (oa tx cI 3 q_13), (oa ty cI 3 q_14), (oc6 wy (.ref wx) (.ref wz) (nI q_16) q_19), (oa wx cI 2 q_17), (oa wz cI 2 q_18), _, _, _, (oc0 br q_20 q_21 q_22 q_23), (oc0 bo q_24 q_25 q_26 q_27), _, _, _, _, _, _, _, _]) hP hD hk1 hFc hP1 hD1 zl_38 zl_39 zl_40 zl_38 (by decide +kernel) rfl rfl rfl rfl rfl
                    clear hk1 hPc hDc hFc hP1 hD1 ht
                    refine zz_i (v := pI (alC ft st tn kd mn cx cy f0 n X Y rg (n - 1) (ctF X b9) (ctF Y b9) rg b9)) (zp_iff (alC_cg (by omega) hcut)) ?_
                    refine lv_if_eq (tgt := 170) hx hb dX4_cornerThatGoes_164 rfl (fun c_28 => ?_) (fun c_28 => ?_)
                    · have c_28 : ¬ (alC ft st tn kd mn cx cy f0 n X Y rg (n - 1) (ctF X b9) (ctF Y b9) rg b9) := zp_0 c_28
                      have hbad : ¬ goK ft st tn kd mn cx cy f0 n X Y rg lim b9 := fun h9 => (by first | exact absurd h9.2.2.1 (by first | with_reducible assumption | assumption) | exact absurd h9.2.2.2 (by first | with_reducible assumption | assumption))
                      refine lv_aload_n hx hb dX4_cornerThatGoes_170 rfl (lv_at hl 3 rfl) ?_
                      refine va_get (D := (dC, dI)) (ci := 3) (v := .ref aa) (C := RX4) (T := TX4) (N := 6) hx hb hts inX4 hown hK hP 0 rfl rfl 5 (Nat.le_of_ble_eq_true rfl) (hts _ mw_225) (fun _ h9 => h9) rfl dX4_cornerThatGoes_171 ?_
                      refine lv_iload hx hb dX4_cornerThatGoes_174 (lv_at hl 0 rfl) ?_
                      refine zz_i (v := nI b9) (hz9) ?_
                      refine lv_iconst (v := (-1)) hx hb dX4_cornerThatGoes_176 rfl ?_
                      have b9_29 : b9 < 40 := by omega
                      refine z_iast hx hb hK hP hD hS 12 0 rfl rfl (e := b9) (x := (-1)) rfl b9_29 (Nat.le_of_ble_eq_true rfl) dX4_cornerThatGoes_177 (fun H locs hP hD hS => ?_)
                      obtain ⟨hP, hD⟩ := zre (W2 := ([_, _, _, _, _, _, _, _, _, _, _, _, (oa aa cI 40 (upd AR1 b9 (-1))), _, _, _, _, _, _, _] ++ va_pl L f)) hP hD rfl
                      refine lv_iinc (v := nI (t5 + 1)) (lv' := [(5, .int (nI (t5 + 1))), (6, .int zb), (4, .ref r), (0, .ref lw), (1, .ref sh), (2, .ref fe), (3, .int lim)]) hx hb dX4_cornerThatGoes_178 hl (k := 1) rfl (nI_add t5 1) (Nat.le_of_ble_eq_true rfl) rfl (fun ls hl => ?_)
                      refine lv_goto (tgt := 83) hx hb dX4_cornerThatGoes_181 rfl ?_
                      exact ih_83 (t5 + 1) (fun j => R j ∨ j = b9) (upd AR1 b9 (-1)) q_12 q_13 q_14 q_15 q_16 q_17 q_18 q_19 (n - 1) P3 Q3 rg q_20 q_21 q_22 q_23 q_24 q_25 q_26 q_27 H locs ls (by first | with_reducible assumption | omega) (by first | with_reducible assumption | omega) (arI_s har) (fun j hj h => h.elim (fun h9 => hR j hj h9) (fun h9 => by rw [h9]; exact hbad)) (Nat.lt_of_le_of_lt hct (cntP_lt (fun j h => Or.inl h) hbk (Or.inr rfl) hF9.1)) hP hD hS (lv_sub hl [0, 2, 3, 4, 5, 6] rfl)
                    · have c_28 : alC ft st tn kd mn cx cy f0 n X Y rg (n - 1) (ctF X b9) (ctF Y b9) rg b9 := zp_1 c_28
                      refine lv_iload hx hb dX4_cornerThatGoes_167 (lv_at hl 0 rfl) ?_
                      have hy9 := go_yes hp har hR hbk hF9 hbm (by first | with_reducible assumption | assumption) (by first | with_reducible assumption | assumption)
                      rw [← hz9] at hy9
                      obtain ⟨hP9, hD9⟩ := zu_part (cx := [_, _, _, _, _, _, _, _, _, _, _, _, _, _, _, _, _, _, _, _]) hP hD [true, true, true, true, true, true, true, true, true, true, true, true, true, true, true, true, true, true, true, true] rfl rfl
                      rw [hQ9]
                      exact W.iret (v := zb) hx hb hr (fun t ht hW => ⟨⟨_, rfl, zb, q_12, q_13, q_14, q_15, q_16, q_17, q_18, q_19, (n - 1), P3, Q3, rg, q_20, q_21, q_22, q_23, q_24, q_25, q_26, q_27, AR1, rfl, (hy9), by rw [ht]; exact hP9, hD9⟩, hS.F ht⟩) hS.2.2 dX4_cornerThatGoes_169
                · have c_7 : zb.toInt = (-1) := zc_eq rfl rfl c_7
                  refine lv_iconst (v := (-1)) hx hb dX4_cornerThatGoes_111 rfl ?_
                  have hy9 := go_no (lim := lim) hp hn2.2 har hR hat (by omega)
                  obtain ⟨hP9, hD9⟩ := zu_part (cx := [_, _, _, _, _, _, _, _, _, _, _, _, _, _, _, _, _, _, _, _]) hP hD [true, true, true, true, true, true, true, true, true, true, true, true, true, true, true, true, true, true, true, true] rfl rfl
                  rw [hQ9]
                  exact W.iret (v := (-1)) hx hb hr (fun t ht hW => ⟨⟨_, rfl, (-1), nt1, TX1, TY1, rt1, nw1, WX1, WY1, rw1, nd1, P1, Q1, rd1, d5, d6, d7, d8, e5, e6, e7, e8, AR1, rfl, (hy9), by rw [ht]; exact hP9, hD9⟩, hS.F ht⟩) hS.2.2 dX4_cornerThatGoes_112
          exact hl_83 _ 0 (fun _ => False) AR1 nt TX TY rt nw WX WY rw nd P Q rd b1 b2 b3 b4 b5 b6 b7 b8 H locs ls (Nat.lt_succ_self _) (by first | with_reducible assumption | omega) (fun j hj => har j (by first | with_reducible assumption | omega)) (fun j hj h => h.elim) (Nat.zero_le _) hP hD hS (lv_sub hl [0, 1, 2, 3, 4, 5] rfl)
        · have c_2 : ((k : Nat) : Int) < ((n : Nat) : Int) := zc_nle (nI_toInt b9_4) (nI_toInt b9_3) c_2
          refine lv_aload_n hx hb dX4_cornerThatGoes_46 rfl (lv_at hl 2 rfl) ?_
          refine va_get (D := (dC, dI)) (ci := 3) (v := .ref aa) (C := RX4) (T := TX4) (N := 6) hx hb hts inX4 hown hK hP 0 rfl rfl 5 (Nat.le_of_ble_eq_true rfl) (hts _ mw_225) (fun _ h9 => h9) rfl dX4_cornerThatGoes_47 ?_
          refine lv_iload hx hb dX4_cornerThatGoes_50 (lv_at hl 0 rfl) ?_
          refine lv_aload hx hb dX4_cornerThatGoes_52 (lv_at hl 1 rfl) ?_
          refine lv_iload hx hb dX4_cornerThatGoes_54 (lv_at hl 0 rfl) ?_
          obtain ⟨hPc, hDc, hFc, hI1⟩ := zi_sub (wc := [_, _, _]) hP hD hS hA [17, 18, 19] rfl rfl
          refine zcall (st1 := [.int (pI (rg.toInt = 0 ∧ (k = 0 ∨ k = n - 1))), .int (nI k), .ref aa]) (va_runV (As := [.int (nI k)]) (rest := [.int (nI k), .ref aa]) ⟨hx, hb, hml, hown, hts⟩ (k_Row_isEnd l dC dI cI cZ cF H.size r rx ry n cap X Y rg k (by first | with_reducible assumption | omega) (by first | with_reducible assumption | omega) (by first | with_reducible assumption | omega)) (csV_76 hts rfl rfl ⟨Nat.le_of_ble_eq_true rfl, Nat.le_of_ble_eq_true rfl⟩) (zPV2 (q0 := 0) (ci := 6) hPc hDc hK hXN rfl rfl) rfl rfl hl.1 rfl (lv_room (Nat.le_of_ble_eq_true rfl)) dX4_cornerThatGoes_56 ⟨Nat.le_of_ble_eq_true rfl, Nat.le_of_ble_eq_true rfl⟩) hS hFc hFc rfl (fun t H locs ht hB hk1 hS => ?_)
          obtain ⟨hP1, hD1⟩ := hB
          rw [ht] at hP1
          replace hP := z0 hP hD hk1 hP1 hI1
          clear hk1 hPc hDc hFc hP1 hD1 ht hI1
          refine zz_i (v := pI (arE n rg k)) (rfl) ?_
          refine lv_if_eq (tgt := 66) hx hb dX4_cornerThatGoes_59 rfl (fun c_30 => ?_) (fun c_30 => ?_)
          · have c_30 : ¬ (arE n rg k) := zp_0 c_30
            refine lv_aload hx hb dX4_cornerThatGoes_66 (lv_at hl 1 rfl) ?_
            refine lv_iload hx hb dX4_cornerThatGoes_68 (lv_at hl 0 rfl) ?_
            obtain ⟨hPc, hDc, hFc, hI1⟩ := zi_sub (wc := [_, _, _]) hP hD hS hA [17, 18, 19] rfl rfl
            refine zcall (st1 := [.int (nI (Int.natAbs (eCr n X Y (prv n k) (X (nxt n k)).toInt (Y (nxt n k)).toInt))), .int (nI k), .ref aa]) (va_runV (As := [.int (nI k)]) (rest := [.int (nI k), .ref aa]) ⟨hx, hb, hml, hown, hts⟩ (k_Row_doubleTriangle l dC dI cI cZ cF H.size r rx ry n cap X Y rg k (by first | with_reducible assumption | omega) (by first | with_reducible assumption | omega) (by first | with_reducible assumption | assumption) (by first | with_reducible assumption | omega)) (csV_77 hts rfl rfl ⟨Nat.le_of_ble_eq_true rfl, Nat.le_of_ble_eq_true rfl⟩) (zPV2 (q0 := 0) (ci := 6) hPc hDc hK hXN rfl rfl) rfl rfl hl.1 rfl (lv_room (Nat.le_of_ble_eq_true rfl)) dX4_cornerThatGoes_70 ⟨Nat.le_of_ble_eq_true rfl, Nat.le_of_ble_eq_true rfl⟩) hS hFc hFc rfl (fun t H locs ht hB hk1 hS => ?_)
            obtain ⟨hP1, hD1⟩ := hB
            rw [ht] at hP1
            replace hP := z0 hP hD hk1 hP1 hI1
            clear hk1 hPc hDc hFc hP1 hD1 ht hI1
            have b9_31 : k < 40 := by omega
            refine z_iast hx hb hK hP hD hS 12 0 rfl rfl (e := k) (x := nI (Int.natAbs (eCr n X Y (prv n k) (X (nxt n k)).toInt (Y (nxt n k)).toInt))) rfl b9_31 (Nat.le_of_ble_eq_true rfl) dX4_cornerThatGoes_73 (fun H locs hP hD hS => ?_)
            obtain ⟨hP, hD⟩ := zre (W2 := ([_, _, _, _, _, _, _, _, _, _, _, _, (oa aa cI 40 (upd AR1 k (nI (Int.natAbs (eCr n X Y (prv n k) (X (nxt n k)).toInt (Y (nxt n k)).toInt))))), _, _, _, _, _, _, _] ++ va_pl L f)) hP hD rfl
            refine lv_iinc (v := nI (k + 1)) (lv' := [(5, .int (nI (k + 1))), (4, .ref r), (0, .ref lw), (1, .ref sh), (2, .ref fe), (3, .int lim)]) hx hb dX4_cornerThatGoes_74 hl (k := 0) rfl (nI_add k 1) (Nat.le_of_ble_eq_true rfl) rfl (fun ls hl => ?_)
            refine lv_goto (tgt := 36) hx hb dX4_cornerThatGoes_77 rfl ?_
            exact ih_36 (k + 1) (upd AR1 k (nI (Int.natAbs (eCr n X Y (prv n k) (X (nxt n k)).toInt (Y (nxt n k)).toInt)))) H locs ls (by first | with_reducible assumption | omega) (by first | with_reducible assumption | omega) (by intro j hj; rcases Nat.lt_or_ge j k with h | h; (rw [show upd AR1 k _ j = AR1 j from if_neg (by first | with_reducible assumption | omega)]; exact har j h); (rw [show j = k by omega, up_at]; first | exact ⟨fun _ => rfl, fun h9 => absurd (Or.inr (by first | with_reducible assumption | assumption)) h9⟩ | exact ⟨fun h9 => absurd (h9.resolve_left id) (by first | with_reducible assumption | assumption), fun _ => rfl⟩)) hP hD hS (lv_sub hl [0, 1, 2, 3, 4, 5] rfl)
          · have c_30 : arE n rg k := zp_1 c_30
            refine lv_iconst (v := (-1)) hx hb dX4_cornerThatGoes_62 rfl ?_
            refine lv_goto (tgt := 73) hx hb dX4_cornerThatGoes_63 rfl ?_
            have b9_32 : k < 40 := by omega
            refine z_iast hx hb hK hP hD hS 12 0 rfl rfl (e := k) (x := (-1)) rfl b9_32 (Nat.le_of_ble_eq_true rfl) dX4_cornerThatGoes_73 (fun H locs hP hD hS => ?_)
            obtain ⟨hP, hD⟩ := zre (W2 := ([_, _, _, _, _, _, _, _, _, _, _, _, (oa aa cI 40 (upd AR1 k (-1))), _, _, _, _, _, _, _] ++ va_pl L f)) hP hD rfl
            refine lv_iinc (v := nI (k + 1)) (lv' := [(5, .int (nI (k + 1))), (4, .ref r), (0, .ref lw), (1, .ref sh), (2, .ref fe), (3, .int lim)]) hx hb dX4_cornerThatGoes_74 hl (k := 0) rfl (nI_add k 1) (Nat.le_of_ble_eq_true rfl) rfl (fun ls hl => ?_)
            refine lv_goto (tgt := 36) hx hb dX4_cornerThatGoes_77 rfl ?_
            exact ih_36 (k + 1) (upd AR1 k (-1)) H locs ls (by first | with_reducible assumption | omega) (by first | with_reducible assumption | omega) (by intro j hj; rcases Nat.lt_or_ge j k with h | h; (rw [show upd AR1 k _ j = AR1 j from if_neg (by first | with_reducible assumption | omega)]; exact har j h); (rw [show j = k by omega, up_at]; first | exact ⟨fun _ => rfl, fun h9 => absurd (Or.inr (by first | with_reducible assumption | assumption)) h9⟩ | exact ⟨fun h9 => absurd (h9.resolve_left id) (by first | with_reducible assumption | assumption), fun _ => rfl⟩)) hP hD hS (lv_sub hl [0, 1, 2, 3, 4, 5] rfl)
    exact hl_36 _ 0 AR s.heap [] ls (Nat.lt_succ_self _) (by first | with_reducible assumption | omega) (by intro j hj; omega) hP hD hS (lv_sub hl [0, 1, 2, 3, 4, 5] rfl)
  · have c_1 : ¬ rg.toInt = 0 := zc_ne rfl rfl c_1
    refine lv_aload hx hb dX4_cornerThatGoes_22 (lv_at hl 0 rfl) ?_
    refine va_get (D := (dC, dI)) (ci := 6) (v := .int (nI n)) (C := RX7) (T := TX7) (N := 4) hx hb hts inX7 hown hK hP 17 rfl rfl 2 (Nat.le_of_ble_eq_true rfl) (hts _ mw_176) (fun _ h9 => h9) rfl dX4_cornerThatGoes_24 ?_
    refine lv_iconst (v := 3) hx hb dX4_cornerThatGoes_27 rfl ?_
    have b9_34 : zlt (n) := show n < 2147483648 by omega
    refine lv_icmp_gt (tgt := 33) hx hb dX4_cornerThatGoes_28 rfl (fun c_33 => ?_) (fun c_33 => ?_)
    · have c_33 : 3 < ((n : Nat) : Int) := zc_lt rfl (nI_toInt b9_34) c_33
      refine lv_iconst (v := 0) hx hb dX4_cornerThatGoes_33 rfl ?_
      refine lv_istore (lv' := [(5, .int 0), (4, .ref r), (0, .ref lw), (1, .ref sh), (2, .ref fe), (3, .int lim)]) hx hb dX4_cornerThatGoes_34 hl (Nat.le_of_ble_eq_true rfl) rfl (fun ls hl => ?_)
      have hl_36 : ∀ (n9 : Nat) (k : Nat) (AR1 : Nat → Int32) (H : Heap) (locs : List Loc) (ls : Array Slot), n - k < n9 → (k ≤ n) → (∀ j, j < k → ((False ∨ arE n rg j) → AR1 j = -1) ∧ (¬ (False ∨ arE n rg j) → AR1 j = nI (arT n X Y j))) → va_P (dC, dI) classes ([(oc3 lw (.ref dr) (.ref tg) (.ref wy) (.ref br) (.ref bo) (.ref aa)), (oc6 tg (.ref tx) (.ref ty) (nI nt) rt), (oa tx cI 3 TX), (oa ty cI 3 TY), (oc6 wy (.ref wx) (.ref wz) (nI nw) rw), (oa wx cI 2 WX), (oa wz cI 2 WY), (oc6 dr (.ref dx) (.ref dy) (nI nd) rd), (oa dx cI cd P), (oa dy cI cd Q), (oc0 br b1 b2 b3 b4), (oc0 bo b5 b6 b7 b8), (oa aa cI 40 AR1), (oc7 sh (.ref fa) (nI ft)), (oq fa cF 200 FA), (oc1 fe rk9 wd9 tw9 pa9 pb9 (.ref lo) (.ref lk) fm9), (oc4 lk kd9 st9 (.ref r) gb9 jt9 we9), (oc6 r (.ref rx) (.ref ry) (nI n) rg), (oa rx cI cap X), (oa ry cI cap Y)] ++ va_pl L f) H → va_D A ([(oc3 lw (.ref dr) (.ref tg) (.ref wy) (.ref br) (.ref bo) (.ref aa)), (oc6 tg (.ref tx) (.ref ty) (nI nt) rt), (oa tx cI 3 TX), (oa ty cI 3 TY), (oc6 wy (.ref wx) (.ref wz) (nI nw) rw), (oa wx cI 2 WX), (oa wz cI 2 WY), (oc6 dr (.ref dx) (.ref dy) (nI nd) rd), (oa dx cI cd P), (oa dy cI cd Q), (oc0 br b1 b2 b3 b4), (oc0 bo b5 b6 b7 b8), (oa aa cI 40 AR1), (oc7 sh (.ref fa) (nI ft)), (oq fa cF 200 FA), (oc1 fe rk9 wd9 tw9 pa9 pb9 (.ref lo) (.ref lk) fm9), (oc4 lk kd9 st9 (.ref r) gb9 jt9 we9), (oc6 r (.ref rx) (.ref ry) (nI n) rg), (oa rx cI cap X), (oa ry cI cap Y)] ++ va_pl L f) → va_S A s.heap H locs → lv_has ls 7 [(5, .int (nI k)), (4, .ref r), (0, .ref lw), (1, .ref sh), (2, .ref fe), (3, .int lim)] → W p l e ((headSpec (.code yX4_cornerThatGoes cX4_cornerThatGoes 7 (some .int) :: ws0) ({ frames := 5, cells := 0, slots := 0, locals := 131 } : Room)).room) s m ([.ref lw, .ref sh, .ref fe, .int lim] : List Value).toArray below meth c H locs 0 0 Q9 (F0 m 36 ls []) := by
        intro n9
        induction n9 with
        | zero => intro k AR1 H locs ls hm; exact absurd hm (Nat.not_lt_zero _)
        | succ n9 ih_36 =>
          intro k AR1 H locs ls hm hk har hP hD hS hl
          refine lv_iload hx hb dX4_cornerThatGoes_36 (lv_at hl 0 rfl) ?_
          refine lv_aload hx hb dX4_cornerThatGoes_38 (lv_at hl 1 rfl) ?_
          refine va_get (D := (dC, dI)) (ci := 6) (v := .int (nI n)) (C := RX7) (T := TX7) (N := 4) hx hb hts inX7 hown hK hP 17 rfl rfl 2 (Nat.le_of_ble_eq_true rfl) (hts _ mw_176) (fun _ h9 => h9) rfl dX4_cornerThatGoes_40 ?_
          have b9_36 : zlt (k) := show k < 2147483648 by omega
          refine lv_icmp_ge (tgt := 80) hx hb dX4_cornerThatGoes_43 rfl (fun c_35 => ?_) (fun c_35 => ?_)
          · have c_35 : ((n : Nat) : Int) ≤ ((k : Nat) : Int) := zc_le (nI_toInt b9_34) (nI_toInt b9_36) c_35
            refine lv_iconst (v := 0) hx hb dX4_cornerThatGoes_80 rfl ?_
            refine lv_istore (lv' := [(5, .int 0), (4, .ref r), (0, .ref lw), (1, .ref sh), (2, .ref fe), (3, .int lim)]) hx hb dX4_cornerThatGoes_81 hl (Nat.le_of_ble_eq_true rfl) rfl (fun ls hl => ?_)
            have hl_83 : ∀ (n9 : Nat) (t5 : Nat) (R : Nat → Prop) (AR1 : Nat → Int32) (nt1 : Nat) (TX1 : Nat → Int32) (TY1 : Nat → Int32) (rt1 : Int32) (nw1 : Nat) (WX1 : Nat → Int32) (WY1 : Nat → Int32) (rw1 : Int32) (nd1 : Nat) (P1 : Nat → Int32) (Q1 : Nat → Int32) (rd1 : Int32) (d5 : Int32) (d6 : Int32) (d7 : Int32) (d8 : Int32) (e5 : Int32) (e6 : Int32) (e7 : Int32) (e8 : Int32) (H : Heap) (locs : List Loc) (ls : Array Slot), n - t5 < n9 → (t5 ≤ n) → (arI n X Y rg R AR1) → (∀ j, j < n → R j → ¬ goK ft st tn kd mn cx cy f0 n X Y rg lim j) → (t5 ≤ cntP R n) → va_P (dC, dI) classes ([(oc3 lw (.ref dr) (.ref tg) (.ref wy) (.ref br) (.ref bo) (.ref aa)), (oc6 tg (.ref tx) (.ref ty) (nI nt1) rt1), (oa tx cI 3 TX1), (oa ty cI 3 TY1), (oc6 wy (.ref wx) (.ref wz) (nI nw1) rw1), (oa wx cI 2 WX1), (oa wz cI 2 WY1), (oc6 dr (.ref dx) (.ref dy) (nI nd1) rd1), (oa dx cI cd P1), (oa dy cI cd Q1), (oc0 br d5 d6 d7 d8), (oc0 bo e5 e6 e7 e8), (oa aa cI 40 AR1), (oc7 sh (.ref fa) (nI ft)), (oq fa cF 200 FA), (oc1 fe rk9 wd9 tw9 pa9 pb9 (.ref lo) (.ref lk) fm9), (oc4 lk kd9 st9 (.ref r) gb9 jt9 we9), (oc6 r (.ref rx) (.ref ry) (nI n) rg), (oa rx cI cap X), (oa ry cI cap Y)] ++ va_pl L f) H → va_D A ([(oc3 lw (.ref dr) (.ref tg) (.ref wy) (.ref br) (.ref bo) (.ref aa)), (oc6 tg (.ref tx) (.ref ty) (nI nt1) rt1), (oa tx cI 3 TX1), (oa ty cI 3 TY1), (oc6 wy (.ref wx) (.ref wz) (nI nw1) rw1), (oa wx cI 2 WX1), (oa wz cI 2 WY1), (oc6 dr (.ref dx) (.ref dy) (nI nd1) rd1), (oa dx cI cd P1), (oa dy cI cd Q1), (oc0 br d5 d6 d7 d8), (oc0 bo e5 e6 e7 e8), (oa aa cI 40 AR1), (oc7 sh (.ref fa) (nI ft)), (oq fa cF 200 FA), (oc1 fe rk9 wd9 tw9 pa9 pb9 (.ref lo) (.ref lk) fm9), (oc4 lk kd9 st9 (.ref r) gb9 jt9 we9), (oc6 r (.ref rx) (.ref ry) (nI n) rg), (oa rx cI cap X), (oa ry cI cap Y)] ++ va_pl L f) → va_S A s.heap H locs → lv_has ls 7 [(5, .int (nI t5)), (4, .ref r), (0, .ref lw), (1, .ref sh), (2, .ref fe), (3, .int lim)] → W p l e ((headSpec (.code yX4_cornerThatGoes cX4_cornerThatGoes 7 (some .int) :: ws0) ({ frames := 5, cells := 0, slots := 0, locals := 131 } : Room)).room) s m ([.ref lw, .ref sh, .ref fe, .int lim] : List Value).toArray below meth c H locs 0 0 Q9 (F0 m 83 ls []) := by
              intro n9
              induction n9 with
              | zero => intro t5 R AR1 nt1 TX1 TY1 rt1 nw1 WX1 WY1 rw1 nd1 P1 Q1 rd1 d5 d6 d7 d8 e5 e6 e7 e8 H locs ls hm; exact absurd hm (Nat.not_lt_zero _)
              | succ n9 ih_83 =>
                intro t5 R AR1 nt1 TX1 TY1 rt1 nw1 WX1 WY1 rw1 nd1 P1 Q1 rd1 d5 d6 d7 d8 e5 e6 e7 e8 H locs ls hm ht5 har hR hct hP hD hS hl
                refine lv_iload hx hb dX4_cornerThatGoes_83 (lv_at hl 0 rfl) ?_
                refine lv_aload hx hb dX4_cornerThatGoes_85 (lv_at hl 1 rfl) ?_
                refine va_get (D := (dC, dI)) (ci := 6) (v := .int (nI n)) (C := RX7) (T := TX7) (N := 4) hx hb hts inX7 hown hK hP 17 rfl rfl 2 (Nat.le_of_ble_eq_true rfl) (hts _ mw_176) (fun _ h9 => h9) rfl dX4_cornerThatGoes_87 ?_
                have b9_38 : zlt (t5) := show t5 < 2147483648 by omega
                refine lv_icmp_ge (tgt := 184) hx hb dX4_cornerThatGoes_90 rfl (fun c_37 => ?_) (fun c_37 => ?_)
                · have c_37 : ((n : Nat) : Int) ≤ ((t5 : Nat) : Int) := zc_le (nI_toInt b9_34) (nI_toInt b9_38) c_37
                  refine lv_iconst (v := (-1)) hx hb dX4_cornerThatGoes_184 rfl ?_
                  have hy9 := go_all (lim := lim) hR (by omega : n ≤ cntP R n)
                  obtain ⟨hP9, hD9⟩ := zu_part (cx := [_, _, _, _, _, _, _, _, _, _, _, _, _, _, _, _, _, _, _, _]) hP hD [true, true, true, true, true, true, true, true, true, true, true, true, true, true, true, true, true, true, true, true] rfl rfl
                  rw [hQ9]
                  exact W.iret (v := (-1)) hx hb hr (fun t ht hW => ⟨⟨_, rfl, (-1), nt1, TX1, TY1, rt1, nw1, WX1, WY1, rw1, nd1, P1, Q1, rd1, d5, d6, d7, d8, e5, e6, e7, e8, AR1, rfl, (hy9), by rw [ht]; exact hP9, hD9⟩, hS.F ht⟩) hS.2.2 dX4_cornerThatGoes_185
                · have c_37 : ((t5 : Nat) : Int) < ((n : Nat) : Int) := zc_nle (nI_toInt b9_34) (nI_toInt b9_38) c_37
                  refine lv_aload_n hx hb dX4_cornerThatGoes_93 rfl (lv_at hl 2 rfl) ?_
                  refine lv_aload hx hb dX4_cornerThatGoes_94 (lv_at hl 1 rfl) ?_
                  refine va_get (D := (dC, dI)) (ci := 6) (v := .int (nI n)) (C := RX7) (T := TX7) (N := 4) hx hb hts inX7 hown hK hP 17 rfl rfl 2 (Nat.le_of_ble_eq_true rfl) (hts _ mw_176) (fun _ h9 => h9) rfl dX4_cornerThatGoes_96 ?_
                  refine lv_iload_n hx hb dX4_cornerThatGoes_99 rfl (lv_at hl 5 rfl) ?_
                  obtain ⟨hPc, hDc, hFc⟩ := zo_sub (wc := [_, _]) hP hD hS hA [0, 12] rfl rfl
                  refine zcalle (va_runV (As := [.int (nI n), .int lim]) (rest := []) ⟨hx, hb, hml, hown, hts⟩ (k_Law_leastArea l dC dI cI cZ cF H.size lw dr tg wy br bo aa n AR1 lim (by first | with_reducible assumption | omega)) (csV_71 hts rfl rfl ⟨Nat.le_of_ble_eq_true rfl, Nat.le_of_ble_eq_true rfl⟩) (zPV2 (q0 := 0) (ci := 3) hPc hDc hK hXN rfl rfl) rfl rfl hl.1 rfl (lv_room (Nat.le_of_ble_eq_true rfl)) dX4_cornerThatGoes_100 ⟨Nat.le_of_ble_eq_true rfl, Nat.le_of_ble_eq_true rfl⟩) hS hFc hFc (fun v9 t H locs ht hB hk1 hS => ?_)
                  obtain ⟨zb, rfl, hat, hP1, hD1⟩ := hB
                  refine W.eq (g2 := F0 m 103 ls [.int zb]) rfl ?_
                  rw [ht] at hP1
                  obtain ⟨hP, hD⟩ := znQ (W2 := [_, _, _, _, _, _, _, _, _, _, _, _, _, _, _, _, _, _, _, _]) hP hD hk1 hFc hP1 hD1 [0, 12] zl_34 zl_34 [0, 12] (by decide +kernel) rfl rfl rfl rfl rfl
                  clear hk1 hPc hDc hFc hP1 hD1 ht
                  refine lv_istore (lv' := [(6, .int zb), (5, .int (nI t5)), (4, .ref r), (0, .ref lw), (1, .ref sh), (2, .ref fe), (3, .int lim)]) hx hb dX4_cornerThatGoes_103 hl (Nat.le_of_ble_eq_true rfl) rfl (fun ls hl => ?_)
                  refine lv_iload hx hb dX4_cornerThatGoes_105 (lv_at hl 0 rfl) ?_
                  refine lv_iconst (v := (-1)) hx hb dX4_cornerThatGoes_107 rfl ?_
                  refine lv_icmp_ne (tgt := 113) hx hb dX4_cornerThatGoes_108 rfl (fun c_39 => ?_) (fun c_39 => ?_)
                  · have c_39 : ¬ zb.toInt = (-1) := zc_ne rfl rfl c_39
                    obtain ⟨b9, hz9, hbk, hbF, hbm⟩ := bst_get hat (by omega)
                    have hF9 := (arI_f hp har hbk).mp (Classical.not_not.mp hbF)
                    refine lv_aload_n hx hb dX4_cornerThatGoes_113 rfl (lv_at hl 3 rfl) ?_
                    refine va_get (D := (dC, dI)) (ci := 3) (v := .ref dr) (C := RX4) (T := TX4) (N := 6) hx hb hts inX4 hown hK hP 0 rfl rfl 0 (Nat.le_of_ble_eq_true rfl) (hts _ mw_219) (fun _ h9 => h9) rfl dX4_cornerThatGoes_114 ?_
                    refine lv_aload hx hb dX4_cornerThatGoes_117 (lv_at hl 2 rfl) ?_
                    obtain ⟨hPc, hDc, hFc⟩ := zo_sub (wc := [_, _, _, _, _, _]) hP hD hS hA [7, 8, 9, 17, 18, 19] (by decide +kernel) rfl
                    refine zcall (st1 := []) (va_runV (As := [.ref r]) (rest := []) ⟨hx, hb, hml, hown, hts⟩ (k_Row_copyFrom l dC dI cI cZ cF H.size dr dx dy nd1 cd P1 Q1 rd1 r rx ry n cap X Y rg (by first | with_reducible assumption | omega) (by first | with_reducible assumption | omega) (by first | with_reducible assumption | omega) (by first | with_reducible assumption | omega) (hrg)) (csV_72 hts rfl rfl ⟨Nat.le_of_ble_eq_true rfl, Nat.le_of_ble_eq_true rfl⟩) (zPV2 (q0 := 0) (ci := 6) hPc hDc hK hXN rfl rfl) rfl rfl hl.1 rfl (lv_room (Nat.le_of_ble_eq_true rfl)) dX4_cornerThatGoes_119 ⟨Nat.le_of_ble_eq_true rfl, Nat.le_of_ble_eq_true rfl⟩) hS hFc hFc rfl (fun t H locs ht hB hk1 hS => ?_)
                    obtain ⟨P2, Q2, hcp, hP1, hD1⟩ := hB
                    rw [ht] at hP1
                    obtain ⟨hP, hD⟩ := znQ (W2 := [_, _, _, _, _, _, _, (oc6 dr (.ref dx) (.ref dy) (nI n) rg), (oa dx cI cd P2), (oa dy cI cd Q2), _, _, _, _, _, _, _, _, _, _]) hP hD hk1 hFc hP1 hD1 [7, 8, 9, 17, 18, 19] zl_35 zl_36 [7, 8, 9, 17, 18, 19] (by decide +kernel) rfl rfl rfl rfl rfl
                    clear hk1 hPc hDc hFc hP1 hD1 ht
                    refine lv_aload_n hx hb dX4_cornerThatGoes_122 rfl (lv_at hl 3 rfl) ?_
                    refine va_get (D := (dC, dI)) (ci := 3) (v := .ref dr) (C := RX4) (T := TX4) (N := 6) hx hb hts inX4 hown hK hP 0 rfl rfl 0 (Nat.le_of_ble_eq_true rfl) (hts _ mw_219) (fun _ h9 => h9) rfl dX4_cornerThatGoes_123 ?_
                    refine lv_iload hx hb dX4_cornerThatGoes_126 (lv_at hl 0 rfl) ?_
                    refine zz_i (v := nI b9) (hz9) ?_
                    obtain ⟨hPc, hDc, hFc⟩ := zo_sub (wc := [_, _, _]) hP hD hS hA [7, 8, 9] rfl rfl
                    refine zcall (st1 := []) (va_runV (As := [.int (nI b9)]) (rest := []) ⟨hx, hb, hml, hown, hts⟩ (k_Row_cut l dC dI cI cZ cF H.size dr dx dy n cd P2 Q2 rg b9 (by first | with_reducible assumption | omega) (by first | with_reducible assumption | omega) (by first | with_reducible assumption | omega)) (csV_73 hts rfl rfl ⟨Nat.le_of_ble_eq_true rfl, Nat.le_of_ble_eq_true rfl⟩) (zPV2 (q0 := 0) (ci := 6) hPc hDc hK hXN rfl rfl) rfl rfl hl.1 rfl (lv_room (Nat.le_of_ble_eq_true rfl)) dX4_cornerThatGoes_128 ⟨Nat.le_of_ble_eq_true rfl, Nat.le_of_ble_eq_true rfl⟩) hS hFc hFc rfl (fun t H locs ht hB hk1 hS => ?_)
                    obtain ⟨P3, Q3, hc1, hc2, hP1, hD1⟩ := hB
                    rw [ht] at hP1
                    obtain ⟨hP, hD⟩ := znQ (W2 := [_, _, _, _, _, _, _, (oc6 dr (.ref dx) (.ref dy) (nI (n - 1)) rg), (oa dx cI cd P3), (oa dy cI cd Q3), _, _, _, _, _, _, _, _, _, _]) hP hD hk1 hFc hP1 hD1 [7, 8, 9] zl_37 zl_37 [7, 8, 9] (by decide +kernel) rfl rfl rfl rfl rfl
                    clear hk1 hPc hDc hFc hP1 hD1 ht
                    have hcut := ct_cg hcp hc1 hc2 hbk
                    refine lv_aload_n hx hb dX4_cornerThatGoes_131 rfl (lv_at hl 3 rfl) ?_
                    refine lv_aload_n hx hb dX4_cornerThatGoes_132 rfl (lv_at hl 4 rfl) ?_
                    refine lv_aload_n hx hb dX4_cornerThatGoes_133 rfl (lv_at hl 5 rfl) ?_
                    refine lv_aload hx hb dX4_cornerThatGoes_134 (lv_at hl 2 rfl) ?_
                    refine va_get (D := (dC, dI)) (ci := 6) (v := .ref rx) (C := RX7) (T := TX7) (N := 4) hx hb hts inX7 hown hK hP 17 rfl rfl 0 (Nat.le_of_ble_eq_true rfl) (hts _ mw_163) (fun _ h9 => h9) rfl dX4_cornerThatGoes_136 ?_
                    refine lv_iload hx hb dX4_cornerThatGoes_139 (lv_at hl 0 rfl) ?_
                    refine zz_i (v := nI b9) (hz9) ?_
                    have b9_40 : b9 < cap := by omega
                    have b9_41 : zlt (cap) := show cap < 2147483648 by omega
                    refine z_iald hx hb hK hP 18 0 rfl rfl (e := b9) rfl b9_40 b9_41 dX4_cornerThatGoes_141 ?_
                    refine lv_aload hx hb dX4_cornerThatGoes_142 (lv_at hl 2 rfl) ?_
                    refine va_get (D := (dC, dI)) (ci := 6) (v := .ref ry) (C := RX7) (T := TX7) (N := 4) hx hb hts inX7 hown hK hP 17 rfl rfl 1 (Nat.le_of_ble_eq_true rfl) (hts _ mw_170) (fun _ h9 => h9) rfl dX4_cornerThatGoes_144 ?_
                    refine lv_iload hx hb dX4_cornerThatGoes_147 (lv_at hl 0 rfl) ?_
                    refine zz_i (v := nI b9) (hz9) ?_
                    refine z_iald hx hb hK hP 19 0 rfl rfl (e := b9) rfl b9_40 b9_41 dX4_cornerThatGoes_149 ?_
                    obtain ⟨hPc, hDc, hFc, hI1⟩ := zi_part (cx := [_, _, _, _, _]) hP hD hS hA [0, 13, 14, 15, 16] (by decide +kernel) rfl
                    refine zcall (st1 := [.int (pI (∀ q, q < ft → (q ≠ f0 → lvF ft st tn q → ¬ onF kd mn cx cy q (X b9).toInt (Y b9).toInt)))]) (va_runV (As := [.ref sh, .ref fe, .int (X b9), .int (Y b9)]) (rest := []) ⟨hx, hb, hml, hown, hts⟩ (k_Law_isBare l dC dI cI cZ cF H.size lw dr tg wy br bo aa sh fa ft FA fe lo rk9 wd9 tw9 pa9 pb9 lk kd9 st9 gb9 jt9 we9 r f0 fm9 L f kd st tn mn cx cy (X b9) (Y b9) (by first | with_reducible assumption | omega) (by first | with_reducible assumption | omega) (hFA) (hs1) (by first | with_reducible assumption | assumption) (by first | with_reducible assumption | assumption) (by first | with_reducible assumption | assumption) ((hp b9 hbk).1) ((hp b9 hbk).2)) (csV_74 hts rfl rfl ⟨Nat.le_of_ble_eq_true rfl, Nat.le_of_ble_eq_true rfl⟩) (zPV2 (q0 := 0) (ci := 3) hPc hDc hK hXN rfl rfl) rfl rfl hl.1 rfl (lv_room (Nat.le_of_ble_eq_true rfl)) dX4_cornerThatGoes_150 ⟨Nat.le_of_ble_eq_true rfl, Nat.le_of_ble_eq_true rfl⟩) hS hFc hFc rfl (fun t H locs ht hB hk1 hS => ?_)
                    obtain ⟨hP1, hD1⟩ := hB
                    rw [ht] at hP1
                    replace hP := z0 hP hD hk1 hP1 hI1
                    clear hk1 hPc hDc hFc hP1 hD1 ht hI1
                    refine zz_i (v := pI (bareK ft st tn kd mn cx cy f0 (X b9).toInt (Y b9).toInt)) (rfl) ?_
                    refine lv_if_eq (tgt := 170) hx hb dX4_cornerThatGoes_153 rfl (fun c_42 => ?_) (fun c_42 => ?_)
                    · have c_42 : ¬ (bareK ft st tn kd mn cx cy f0 (X b9).toInt (Y b9).toInt) := zp_0 c_42
                      have hbad : ¬ goK ft st tn kd mn cx cy f0 n X Y rg lim b9 := fun h9 => (by first | exact absurd h9.2.2.1 (by first | with_reducible assumption | assumption) | exact absurd h9.2.2.2 (by first | with_reducible assumption | assumption))
                      refine lv_aload_n hx hb dX4_cornerThatGoes_170 rfl (lv_at hl 3 rfl) ?_
                      refine va_get (D := (dC, dI)) (ci := 3) (v := .ref aa) (C := RX4) (T := TX4) (N := 6) hx hb hts inX4 hown hK hP 0 rfl rfl 5 (Nat.le_of_ble_eq_true rfl) (hts _ mw_225) (fun _ h9 => h9) rfl dX4_cornerThatGoes_171 ?_
                      refine lv_iload hx hb dX4_cornerThatGoes_174 (lv_at hl 0 rfl) ?_
                      refine zz_i (v := nI b9) (hz9) ?_
                      refine lv_iconst (v := (-1)) hx hb dX4_cornerThatGoes_176 rfl ?_
                      have b9_43 : b9 < 40 := by omega
                      refine z_iast hx hb hK hP hD hS 12 0 rfl rfl (e := b9) (x := (-1)) rfl b9_43 (Nat.le_of_ble_eq_true rfl) dX4_cornerThatGoes_177 (fun H locs hP hD hS => ?_)
                      obtain ⟨hP, hD⟩ := zre (W2 := ([_, _, _, _, _, _, _, _, _, _, _, _, (oa aa cI 40 (upd AR1 b9 (-1))), _, _, _, _, _, _, _] ++ va_pl L f)) hP hD rfl
                      refine lv_iinc (v := nI (t5 + 1)) (lv' := [(5, .int (nI (t5 + 1))), (6, .int zb), (4, .ref r), (0, .ref lw), (1, .ref sh), (2, .ref fe), (3, .int lim)]) hx hb dX4_cornerThatGoes_178 hl (k := 1) rfl (nI_add t5 1) (Nat.le_of_ble_eq_true rfl) rfl (fun ls hl => ?_)
                      refine lv_goto (tgt := 83) hx hb dX4_cornerThatGoes_181 rfl ?_
                      exact ih_83 (t5 + 1) (fun j => R j ∨ j = b9) (upd AR1 b9 (-1)) nt1 TX1 TY1 rt1 nw1 WX1 WY1 rw1 (n - 1) P3 Q3 rg d5 d6 d7 d8 e5 e6 e7 e8 H locs ls (by first | with_reducible assumption | omega) (by first | with_reducible assumption | omega) (arI_s har) (fun j hj h => h.elim (fun h9 => hR j hj h9) (fun h9 => by rw [h9]; exact hbad)) (Nat.lt_of_le_of_lt hct (cntP_lt (fun j h => Or.inl h) hbk (Or.inr rfl) hF9.1)) hP hD hS (lv_sub hl [0, 2, 3, 4, 5, 6] rfl)
                    · have c_42 : bareK ft st tn kd mn cx cy f0 (X b9).toInt (Y b9).toInt := zp_1 c_42
                      refine lv_aload_n hx hb dX4_cornerThatGoes_156 rfl (lv_at hl 3 rfl) ?_
                      refine lv_aload_n hx hb dX4_cornerThatGoes_157 rfl (lv_at hl 4 rfl) ?_
                      refine lv_aload_n hx hb dX4_cornerThatGoes_158 rfl (lv_at hl 5 rfl) ?_
                      refine lv_iload hx hb dX4_cornerThatGoes_159 (lv_at hl 0 rfl) ?_
                      refine zz_i (v := nI b9) (hz9) ?_
                      obtain ⟨hPc, hDc, hFc⟩ := zo_part (cx := [_, _, _, _, _, _, _, _, _, _, _, _, _, _, _, _, _, _, _]) hP hD hS hA [0, 1, 2, 3, 4, 5, 6, 7, 8, 9, 10, 11, 13, 14, 15, 16, 17, 18, 19] (by decide +kernel) rfl
                      refine zcall (st1 := [.int (pI (pls (n - 1) P3 Q3 ∧ eFr (n - 1) P3 Q3 rg (prv (n - 1) (gpK (n - 1) b9)) 0 ∧ ∀ q, q < ft → (q ≠ f0 → lvF ft st tn q → (apB (min (min (X b9).toInt (X (prv n b9)).toInt) (X (nxt n b9)).toInt) (min (min (Y b9).toInt (Y (prv n b9)).toInt) (Y (nxt n b9)).toInt) (max (max (X b9).toInt (X (prv n b9)).toInt) (X (nxt n b9)).toInt) (max (max (Y b9).toInt (Y (prv n b9)).toInt) (Y (nxt n b9)).toInt) (nN (mn q)) (cF40 cx q) (cF40 cy q) ∨ (asb n X Y rg (n - 1) P3 Q3 rg (nN (mn q)) (cF40 cx q) (cF40 cy q) (rgK (kd q).toInt) ∧ (¬ ∃ j, j < nN (mn q) ∧ swC n X Y b9 (cF40 cx q j).toInt (cF40 cy q j).toInt))))))]) (va_runV (As := [.ref sh, .ref fe, .int (nI b9)]) (rest := []) ⟨hx, hb, hml, hown, hts⟩ (k_Law_allows_k l dC dI cI cZ cF H.size lw dr tg wy br bo aa tx ty nt1 TX1 TY1 rt1 wx wz nw1 WX1 WY1 rw1 dx dy (n - 1) cd P3 Q3 rg d5 d6 d7 d8 e5 e6 e7 e8 sh fa ft FA fe lo rk9 wd9 tw9 pa9 pb9 lk kd9 st9 gb9 jt9 we9 r rx ry n cap X Y rg f0 b9 fm9 L f kd st tn mn cx cy (by first | with_reducible assumption | omega) (by first | with_reducible assumption | omega) (hFA) (hs1) (by first | with_reducible assumption | assumption) (by first | with_reducible assumption | assumption) (by first | with_reducible assumption | assumption) (by first | with_reducible assumption | omega) (by first | with_reducible assumption | omega) (by first | with_reducible assumption | omega) (by first | with_reducible assumption | omega) (hp) (by first | with_reducible assumption | omega) (by first | with_reducible assumption | omega) (by first | with_reducible assumption | omega) (by first | with_reducible assumption | omega)) (csV_75 hts rfl rfl ⟨Nat.le_of_ble_eq_true rfl, Nat.le_of_ble_eq_true rfl⟩) (zPV2 (q0 := 0) (ci := 3) hPc hDc hK hXN rfl rfl) rfl rfl hl.1 rfl (lv_room (Nat.le_of_ble_eq_true rfl)) dX4_cornerThatGoes_161 ⟨Nat.le_of_ble_eq_true rfl, Nat.le_of_ble_eq_true rfl⟩) hS hFc hFc rfl (fun t H locs ht hB hk1 hS => ?_)
                      refine ex16 hB (fun q_44 q_45 q_46 q_47 q_48 q_49 q_50 q_51 q_52 q_53 q_54 q_55 q_56 q_57 q_58 q_59 hB0 => ?_)
                      clear hB
                      obtain ⟨hP1, hD1⟩ := hB0
                      rw [ht] at hP1
                      obtain ⟨hP, hD⟩ := znP (W2 := [_, (oc6 tg (.ref tx) (.ref ty) (nI q_44) q_47), (oa tx cI 3 q_45), (oa ty cI 3 q_46), (oc6 wy (.ref wx) (.ref wz) (nI q_48) q_51), (oa wx cI 2 q_49), (oa wz cI 2 q_50), _, _, _, (oc0 br q_52 q_53 q_54 q_55), (oc0 bo q_56 q_57 q_58 q_59), _, _, _, _, _, _, _, _]) hP hD hk1 hFc hP1 hD1 zl_38 zl_39 zl_40 zl_38 (by decide +kernel) rfl rfl rfl rfl rfl
                      clear hk1 hPc hDc hFc hP1 hD1 ht
                      refine zz_i (v := pI (alC ft st tn kd mn cx cy f0 n X Y rg (n - 1) (ctF X b9) (ctF Y b9) rg b9)) (zp_iff (alC_cg (by omega) hcut)) ?_
                      refine lv_if_eq (tgt := 170) hx hb dX4_cornerThatGoes_164 rfl (fun c_60 => ?_) (fun c_60 => ?_)
                      · have c_60 : ¬ (alC ft st tn kd mn cx cy f0 n X Y rg (n - 1) (ctF X b9) (ctF Y b9) rg b9) := zp_0 c_60
                        have hbad : ¬ goK ft st tn kd mn cx cy f0 n X Y rg lim b9 := fun h9 => (by first | exact absurd h9.2.2.1 (by first | with_reducible assumption | assumption) | exact absurd h9.2.2.2 (by first | with_reducible assumption | assumption))
                        refine lv_aload_n hx hb dX4_cornerThatGoes_170 rfl (lv_at hl 3 rfl) ?_
                        refine va_get (D := (dC, dI)) (ci := 3) (v := .ref aa) (C := RX4) (T := TX4) (N := 6) hx hb hts inX4 hown hK hP 0 rfl rfl 5 (Nat.le_of_ble_eq_true rfl) (hts _ mw_225) (fun _ h9 => h9) rfl dX4_cornerThatGoes_171 ?_
                        refine lv_iload hx hb dX4_cornerThatGoes_174 (lv_at hl 0 rfl) ?_
                        refine zz_i (v := nI b9) (hz9) ?_
                        refine lv_iconst (v := (-1)) hx hb dX4_cornerThatGoes_176 rfl ?_
                        have b9_61 : b9 < 40 := by omega
                        refine z_iast hx hb hK hP hD hS 12 0 rfl rfl (e := b9) (x := (-1)) rfl b9_61 (Nat.le_of_ble_eq_true rfl) dX4_cornerThatGoes_177 (fun H locs hP hD hS => ?_)
                        obtain ⟨hP, hD⟩ := zre (W2 := ([_, _, _, _, _, _, _, _, _, _, _, _, (oa aa cI 40 (upd AR1 b9 (-1))), _, _, _, _, _, _, _] ++ va_pl L f)) hP hD rfl
                        refine lv_iinc (v := nI (t5 + 1)) (lv' := [(5, .int (nI (t5 + 1))), (6, .int zb), (4, .ref r), (0, .ref lw), (1, .ref sh), (2, .ref fe), (3, .int lim)]) hx hb dX4_cornerThatGoes_178 hl (k := 1) rfl (nI_add t5 1) (Nat.le_of_ble_eq_true rfl) rfl (fun ls hl => ?_)
                        refine lv_goto (tgt := 83) hx hb dX4_cornerThatGoes_181 rfl ?_
                        exact ih_83 (t5 + 1) (fun j => R j ∨ j = b9) (upd AR1 b9 (-1)) q_44 q_45 q_46 q_47 q_48 q_49 q_50 q_51 (n - 1) P3 Q3 rg q_52 q_53 q_54 q_55 q_56 q_57 q_58 q_59 H locs ls (by first | with_reducible assumption | omega) (by first | with_reducible assumption | omega) (arI_s har) (fun j hj h => h.elim (fun h9 => hR j hj h9) (fun h9 => by rw [h9]; exact hbad)) (Nat.lt_of_le_of_lt hct (cntP_lt (fun j h => Or.inl h) hbk (Or.inr rfl) hF9.1)) hP hD hS (lv_sub hl [0, 2, 3, 4, 5, 6] rfl)
                      · have c_60 : alC ft st tn kd mn cx cy f0 n X Y rg (n - 1) (ctF X b9) (ctF Y b9) rg b9 := zp_1 c_60
                        refine lv_iload hx hb dX4_cornerThatGoes_167 (lv_at hl 0 rfl) ?_
                        have hy9 := go_yes hp har hR hbk hF9 hbm (by first | with_reducible assumption | assumption) (by first | with_reducible assumption | assumption)
                        rw [← hz9] at hy9
                        obtain ⟨hP9, hD9⟩ := zu_part (cx := [_, _, _, _, _, _, _, _, _, _, _, _, _, _, _, _, _, _, _, _]) hP hD [true, true, true, true, true, true, true, true, true, true, true, true, true, true, true, true, true, true, true, true] rfl rfl
                        rw [hQ9]
                        exact W.iret (v := zb) hx hb hr (fun t ht hW => ⟨⟨_, rfl, zb, q_44, q_45, q_46, q_47, q_48, q_49, q_50, q_51, (n - 1), P3, Q3, rg, q_52, q_53, q_54, q_55, q_56, q_57, q_58, q_59, AR1, rfl, (hy9), by rw [ht]; exact hP9, hD9⟩, hS.F ht⟩) hS.2.2 dX4_cornerThatGoes_169
                  · have c_39 : zb.toInt = (-1) := zc_eq rfl rfl c_39
                    refine lv_iconst (v := (-1)) hx hb dX4_cornerThatGoes_111 rfl ?_
                    have hy9 := go_no (lim := lim) hp hn2.2 har hR hat (by omega)
                    obtain ⟨hP9, hD9⟩ := zu_part (cx := [_, _, _, _, _, _, _, _, _, _, _, _, _, _, _, _, _, _, _, _]) hP hD [true, true, true, true, true, true, true, true, true, true, true, true, true, true, true, true, true, true, true, true] rfl rfl
                    rw [hQ9]
                    exact W.iret (v := (-1)) hx hb hr (fun t ht hW => ⟨⟨_, rfl, (-1), nt1, TX1, TY1, rt1, nw1, WX1, WY1, rw1, nd1, P1, Q1, rd1, d5, d6, d7, d8, e5, e6, e7, e8, AR1, rfl, (hy9), by rw [ht]; exact hP9, hD9⟩, hS.F ht⟩) hS.2.2 dX4_cornerThatGoes_112
            exact hl_83 _ 0 (fun _ => False) AR1 nt TX TY rt nw WX WY rw nd P Q rd b1 b2 b3 b4 b5 b6 b7 b8 H locs ls (Nat.lt_succ_self _) (by first | with_reducible assumption | omega) (fun j hj => har j (by first | with_reducible assumption | omega)) (fun j hj h => h.elim) (Nat.zero_le _) hP hD hS (lv_sub hl [0, 1, 2, 3, 4, 5] rfl)
          · have c_35 : ((k : Nat) : Int) < ((n : Nat) : Int) := zc_nle (nI_toInt b9_34) (nI_toInt b9_36) c_35
            refine lv_aload_n hx hb dX4_cornerThatGoes_46 rfl (lv_at hl 2 rfl) ?_
            refine va_get (D := (dC, dI)) (ci := 3) (v := .ref aa) (C := RX4) (T := TX4) (N := 6) hx hb hts inX4 hown hK hP 0 rfl rfl 5 (Nat.le_of_ble_eq_true rfl) (hts _ mw_225) (fun _ h9 => h9) rfl dX4_cornerThatGoes_47 ?_
            refine lv_iload hx hb dX4_cornerThatGoes_50 (lv_at hl 0 rfl) ?_
            refine lv_aload hx hb dX4_cornerThatGoes_52 (lv_at hl 1 rfl) ?_
            refine lv_iload hx hb dX4_cornerThatGoes_54 (lv_at hl 0 rfl) ?_
            obtain ⟨hPc, hDc, hFc, hI1⟩ := zi_sub (wc := [_, _, _]) hP hD hS hA [17, 18, 19] rfl rfl
            refine zcall (st1 := [.int (pI (rg.toInt = 0 ∧ (k = 0 ∨ k = n - 1))), .int (nI k), .ref aa]) (va_runV (As := [.int (nI k)]) (rest := [.int (nI k), .ref aa]) ⟨hx, hb, hml, hown, hts⟩ (k_Row_isEnd l dC dI cI cZ cF H.size r rx ry n cap X Y rg k (by first | with_reducible assumption | omega) (by first | with_reducible assumption | omega) (by first | with_reducible assumption | omega)) (csV_76 hts rfl rfl ⟨Nat.le_of_ble_eq_true rfl, Nat.le_of_ble_eq_true rfl⟩) (zPV2 (q0 := 0) (ci := 6) hPc hDc hK hXN rfl rfl) rfl rfl hl.1 rfl (lv_room (Nat.le_of_ble_eq_true rfl)) dX4_cornerThatGoes_56 ⟨Nat.le_of_ble_eq_true rfl, Nat.le_of_ble_eq_true rfl⟩) hS hFc hFc rfl (fun t H locs ht hB hk1 hS => ?_)
            obtain ⟨hP1, hD1⟩ := hB
            rw [ht] at hP1
            replace hP := z0 hP hD hk1 hP1 hI1
            clear hk1 hPc hDc hFc hP1 hD1 ht hI1
            refine zz_i (v := pI (arE n rg k)) (rfl) ?_
            refine lv_if_eq (tgt := 66) hx hb dX4_cornerThatGoes_59 rfl (fun c_62 => ?_) (fun c_62 => ?_)
            · have c_62 : ¬ (arE n rg k) := zp_0 c_62
              refine lv_aload hx hb dX4_cornerThatGoes_66 (lv_at hl 1 rfl) ?_
              refine lv_iload hx hb dX4_cornerThatGoes_68 (lv_at hl 0 rfl) ?_
              obtain ⟨hPc, hDc, hFc, hI1⟩ := zi_sub (wc := [_, _, _]) hP hD hS hA [17, 18, 19] rfl rfl
              refine zcall (st1 := [.int (nI (Int.natAbs (eCr n X Y (prv n k) (X (nxt n k)).toInt (Y (nxt n k)).toInt))), .int (nI k), .ref aa]) (va_runV (As := [.int (nI k)]) (rest := [.int (nI k), .ref aa]) ⟨hx, hb, hml, hown, hts⟩ (k_Row_doubleTriangle l dC dI cI cZ cF H.size r rx ry n cap X Y rg k (by first | with_reducible assumption | omega) (by first | with_reducible assumption | omega) (by first | with_reducible assumption | assumption) (by first | with_reducible assumption | omega)) (csV_77 hts rfl rfl ⟨Nat.le_of_ble_eq_true rfl, Nat.le_of_ble_eq_true rfl⟩) (zPV2 (q0 := 0) (ci := 6) hPc hDc hK hXN rfl rfl) rfl rfl hl.1 rfl (lv_room (Nat.le_of_ble_eq_true rfl)) dX4_cornerThatGoes_70 ⟨Nat.le_of_ble_eq_true rfl, Nat.le_of_ble_eq_true rfl⟩) hS hFc hFc rfl (fun t H locs ht hB hk1 hS => ?_)
              obtain ⟨hP1, hD1⟩ := hB
              rw [ht] at hP1
              replace hP := z0 hP hD hk1 hP1 hI1
              clear hk1 hPc hDc hFc hP1 hD1 ht hI1
              have b9_63 : k < 40 := by omega
              refine z_iast hx hb hK hP hD hS 12 0 rfl rfl (e := k) (x := nI (Int.natAbs (eCr n X Y (prv n k) (X (nxt n k)).toInt (Y (nxt n k)).toInt))) rfl b9_63 (Nat.le_of_ble_eq_true rfl) dX4_cornerThatGoes_73 (fun H locs hP hD hS => ?_)
              obtain ⟨hP, hD⟩ := zre (W2 := ([_, _, _, _, _, _, _, _, _, _, _, _, (oa aa cI 40 (upd AR1 k (nI (Int.natAbs (eCr n X Y (prv n k) (X (nxt n k)).toInt (Y (nxt n k)).toInt))))), _, _, _, _, _, _, _] ++ va_pl L f)) hP hD rfl
              refine lv_iinc (v := nI (k + 1)) (lv' := [(5, .int (nI (k + 1))), (4, .ref r), (0, .ref lw), (1, .ref sh), (2, .ref fe), (3, .int lim)]) hx hb dX4_cornerThatGoes_74 hl (k := 0) rfl (nI_add k 1) (Nat.le_of_ble_eq_true rfl) rfl (fun ls hl => ?_)
              refine lv_goto (tgt := 36) hx hb dX4_cornerThatGoes_77 rfl ?_
              exact ih_36 (k + 1) (upd AR1 k (nI (Int.natAbs (eCr n X Y (prv n k) (X (nxt n k)).toInt (Y (nxt n k)).toInt)))) H locs ls (by first | with_reducible assumption | omega) (by first | with_reducible assumption | omega) (by intro j hj; rcases Nat.lt_or_ge j k with h | h; (rw [show upd AR1 k _ j = AR1 j from if_neg (by first | with_reducible assumption | omega)]; exact har j h); (rw [show j = k by omega, up_at]; first | exact ⟨fun _ => rfl, fun h9 => absurd (Or.inr (by first | with_reducible assumption | assumption)) h9⟩ | exact ⟨fun h9 => absurd (h9.resolve_left id) (by first | with_reducible assumption | assumption), fun _ => rfl⟩)) hP hD hS (lv_sub hl [0, 1, 2, 3, 4, 5] rfl)
            · have c_62 : arE n rg k := zp_1 c_62
              refine lv_iconst (v := (-1)) hx hb dX4_cornerThatGoes_62 rfl ?_
              refine lv_goto (tgt := 73) hx hb dX4_cornerThatGoes_63 rfl ?_
              have b9_64 : k < 40 := by omega
              refine z_iast hx hb hK hP hD hS 12 0 rfl rfl (e := k) (x := (-1)) rfl b9_64 (Nat.le_of_ble_eq_true rfl) dX4_cornerThatGoes_73 (fun H locs hP hD hS => ?_)
              obtain ⟨hP, hD⟩ := zre (W2 := ([_, _, _, _, _, _, _, _, _, _, _, _, (oa aa cI 40 (upd AR1 k (-1))), _, _, _, _, _, _, _] ++ va_pl L f)) hP hD rfl
              refine lv_iinc (v := nI (k + 1)) (lv' := [(5, .int (nI (k + 1))), (4, .ref r), (0, .ref lw), (1, .ref sh), (2, .ref fe), (3, .int lim)]) hx hb dX4_cornerThatGoes_74 hl (k := 0) rfl (nI_add k 1) (Nat.le_of_ble_eq_true rfl) rfl (fun ls hl => ?_)
              refine lv_goto (tgt := 36) hx hb dX4_cornerThatGoes_77 rfl ?_
              exact ih_36 (k + 1) (upd AR1 k (-1)) H locs ls (by first | with_reducible assumption | omega) (by first | with_reducible assumption | omega) (by intro j hj; rcases Nat.lt_or_ge j k with h | h; (rw [show upd AR1 k _ j = AR1 j from if_neg (by first | with_reducible assumption | omega)]; exact har j h); (rw [show j = k by omega, up_at]; first | exact ⟨fun _ => rfl, fun h9 => absurd (Or.inr (by first | with_reducible assumption | assumption)) h9⟩ | exact ⟨fun h9 => absurd (h9.resolve_left id) (by first | with_reducible assumption | assumption), fun _ => rfl⟩)) hP hD hS (lv_sub hl [0, 1, 2, 3, 4, 5] rfl)
      exact hl_36 _ 0 AR s.heap [] ls (Nat.lt_succ_self _) (by first | with_reducible assumption | omega) (by intro j hj; omega) hP hD hS (lv_sub hl [0, 1, 2, 3, 4, 5] rfl)
    · have c_33 : ((n : Nat) : Int) ≤ 3 := zc_nlt rfl (nI_toInt b9_34) c_33
      exfalso; omega
end
