section
set_option maxHeartbeats 4000000 in
set_option maxRecDepth 100000 in
theorem k_Row_next (l : Launch) (dC : Nat → ClassId) (dI : Nat → Nat → Nat) (cI cZ cF : ClassId) (sz : Nat) (r : Nat) (rx : Nat) (ry : Nat) (n : Nat) (cap : Nat) (X : Nat → Int32) (Y : Nat → Int32) (rg : Int32) (i : Nat) (hn : n ≤ cap) (hcap : cap ≤ 1000) (hi : i < n) : zM l yX7_next cX7_next 2 (some .int) ({ frames := 0, cells := 0, slots := 0, locals := 0 } : Room) [.ref r, .int (nI i)] (dC, dI) (zTy cI cZ cF) [(oc6 r (.ref rx) (.ref ry) (nI n) rg), (oa rx cI cap X), (oa ry cI cap Y)] sz (some (.int (nI (nxt n i)))) (fun A t => zPD (dC, dI) classes A [(oc6 r (.ref rx) (.ref ry) (nI n) rg), (oa rx cI cap X), (oa ry cI cap Y)] t.heap) 0 0 := by
  refine zIn (own := "ScaleShop$Row") (loc := [(0, .ref r), (1, .int (nI i))]) rfl rfl rfl rfl (fun p e s m below meth c hx hb hr hts hown hlocks hml hnm9 A hA hS hP hD hK hXN Q9 hQ9 ls hl => ?_)
  refine lv_iload_n hx hb dX7_next_0 rfl (lv_at hl 1 rfl) ?_
  refine lv_iconst (v := 1) hx hb dX7_next_1 rfl ?_
  refine lv_iadd hx hb dX7_next_2 ?_
  refine zz_i (v := nI (i + 1)) (nI_add i 1) ?_
  refine lv_aload_n hx hb dX7_next_3 rfl (lv_at hl 0 rfl) ?_
  refine va_get (D := (dC, dI)) (ci := 6) (v := .int (nI n)) (C := RX7) (T := TX7) (N := 4) hx hb hts inX7 hown hK hP 0 rfl rfl 2 (Nat.le_of_ble_eq_true rfl) (hts _ mw_175) (fun _ h9 => h9) rfl dX7_next_4 ?_
  have hj_1 : W p l e ({ frames := 0, cells := 0, slots := 0, locals := 0 } : Room) s m ([.ref r, .int (nI i)] : List Value).toArray below meth c s.heap [] 0 0 Q9 (F0 m 17 ls [.int (nI (nxt n i))]) := by
    obtain ⟨hP9, hD9⟩ := zu_sub (wc := [_, _, _]) hP hD [true, true, true] rfl rfl
    rw [hQ9]
    exact W.iret (v := nI (nxt n i)) hx hb hr (fun t ht hW => ⟨⟨rfl, by rw [ht]; exact hP9, hD9⟩, hS.F ht⟩) hS.2.2 dX7_next_17
  have b9_3 : zlt ((i + 1)) := show (i + 1) < 2147483648 by omega
  have b9_4 : zlt (n) := show n < 2147483648 by omega
  refine lv_icmp_ge (tgt := 16) hx hb dX7_next_7 rfl (fun c_2 => ?_) (fun c_2 => ?_)
  · have c_2 : ((n : Nat) : Int) ≤ ((i + 1 : Nat) : Int) := zc_le (nI_toInt b9_4) (nI_toInt b9_3) c_2
    refine lv_iconst (v := 0) hx hb dX7_next_16 rfl ?_
    refine zz_i (v := nI (nxt n i)) (by first | (rw [nxt, if_pos (by omega)]) | (rw [nxt, if_neg (by omega)]; first | done | rfl)) ?_
    exact hj_1 
  · have c_2 : ((i + 1 : Nat) : Int) < ((n : Nat) : Int) := zc_nle (nI_toInt b9_4) (nI_toInt b9_3) c_2
    refine lv_iload_n hx hb dX7_next_10 rfl (lv_at hl 1 rfl) ?_
    refine lv_iconst (v := 1) hx hb dX7_next_11 rfl ?_
    refine lv_iadd hx hb dX7_next_12 ?_
    refine zz_i (v := nI (i + 1)) (nI_add i 1) ?_
    refine lv_goto (tgt := 17) hx hb dX7_next_13 rfl ?_
    refine zz_i (v := nI (nxt n i)) (by first | (rw [nxt, if_pos (by omega)]) | (rw [nxt, if_neg (by omega)]; first | done | rfl)) ?_
    exact hj_1 
set_option maxHeartbeats 4000000 in
set_option maxRecDepth 100000 in
theorem k_Row_previous (l : Launch) (dC : Nat → ClassId) (dI : Nat → Nat → Nat) (cI cZ cF : ClassId) (sz : Nat) (r : Nat) (rx : Nat) (ry : Nat) (n : Nat) (cap : Nat) (X : Nat → Int32) (Y : Nat → Int32) (rg : Int32) (i : Nat) (hn : n ≤ cap) (hcap : cap ≤ 1000) (hi : i < n) : zM l yX7_previous cX7_previous 2 (some .int) ({ frames := 0, cells := 0, slots := 0, locals := 0 } : Room) [.ref r, .int (nI i)] (dC, dI) (zTy cI cZ cF) [(oc6 r (.ref rx) (.ref ry) (nI n) rg), (oa rx cI cap X), (oa ry cI cap Y)] sz (some (.int (nI (prv n i)))) (fun A t => zPD (dC, dI) classes A [(oc6 r (.ref rx) (.ref ry) (nI n) rg), (oa rx cI cap X), (oa ry cI cap Y)] t.heap) 0 0 := by
  refine zIn (own := "ScaleShop$Row") (loc := [(0, .ref r), (1, .int (nI i))]) rfl rfl rfl rfl (fun p e s m below meth c hx hb hr hts hown hlocks hml hnm9 A hA hS hP hD hK hXN Q9 hQ9 ls hl => ?_)
  refine lv_iload_n hx hb dX7_previous_0 rfl (lv_at hl 1 rfl) ?_
  have b9_2 : zlt (i) := show i < 2147483648 by omega
  refine lv_if_le (tgt := 10) hx hb dX7_previous_1 rfl (fun c_1 => ?_) (fun c_1 => ?_)
  · have c_1 : ((i : Nat) : Int) ≤ 0 := zc_le (nI_toInt b9_2) rfl c_1
    refine lv_aload_n hx hb dX7_previous_10 rfl (lv_at hl 0 rfl) ?_
    refine va_get (D := (dC, dI)) (ci := 6) (v := .int (nI n)) (C := RX7) (T := TX7) (N := 4) hx hb hts inX7 hown hK hP 0 rfl rfl 2 (Nat.le_of_ble_eq_true rfl) (hts _ mw_175) (fun _ h9 => h9) rfl dX7_previous_11 ?_
    refine lv_iconst (v := 1) hx hb dX7_previous_14 rfl ?_
    refine lv_isub hx hb dX7_previous_15 ?_
    refine zz_i (v := nI (n - 1)) (pk_sub (a := n) (b := 1) (by omega)) ?_
    obtain ⟨hP9, hD9⟩ := zu_sub (wc := [_, _, _]) hP hD [true, true, true] rfl rfl
    rw [hQ9]
    exact W.iret (v := nI (n - 1)) hx hb hr (fun t ht hW => ⟨⟨congrArg (fun z => Outcome.returned (some (Value.int z))) (show (nI (n - 1) : Int32) = nI (prv n i) from zn_eq (by unfold prv; split <;> omega)), by rw [ht]; exact hP9, hD9⟩, hS.F ht⟩) hS.2.2 dX7_previous_16
  · have c_1 : 0 < ((i : Nat) : Int) := zc_nle (nI_toInt b9_2) rfl c_1
    refine lv_iload_n hx hb dX7_previous_4 rfl (lv_at hl 1 rfl) ?_
    refine lv_iconst (v := 1) hx hb dX7_previous_5 rfl ?_
    refine lv_isub hx hb dX7_previous_6 ?_
    refine zz_i (v := nI (i - 1)) (pk_sub (a := i) (b := 1) (by omega)) ?_
    refine lv_goto (tgt := 16) hx hb dX7_previous_7 rfl ?_
    obtain ⟨hP9, hD9⟩ := zu_sub (wc := [_, _, _]) hP hD [true, true, true] rfl rfl
    rw [hQ9]
    exact W.iret (v := nI (i - 1)) hx hb hr (fun t ht hW => ⟨⟨congrArg (fun z => Outcome.returned (some (Value.int z))) (show (nI (i - 1) : Int32) = nI (prv n i) from zn_eq (by unfold prv; split <;> omega)), by rw [ht]; exact hP9, hD9⟩, hS.F ht⟩) hS.2.2 dX7_previous_16
set_option maxHeartbeats 4000000 in
set_option maxRecDepth 100000 in
theorem k_Row_edges (l : Launch) (dC : Nat → ClassId) (dI : Nat → Nat → Nat) (cI cZ cF : ClassId) (sz : Nat) (r : Nat) (rx : Nat) (ry : Nat) (n : Nat) (cap : Nat) (X : Nat → Int32) (Y : Nat → Int32) (rg : Int32) (hn : n ≤ cap) (hcap : cap ≤ 1000) : zM l yX7_edges cX7_edges 1 (some .int) ({ frames := 0, cells := 0, slots := 0, locals := 0 } : Room) [.ref r] (dC, dI) (zTy cI cZ cF) [(oc6 r (.ref rx) (.ref ry) (nI n) rg), (oa rx cI cap X), (oa ry cI cap Y)] sz (some (.int (nI (edg n rg)))) (fun A t => zPD (dC, dI) classes A [(oc6 r (.ref rx) (.ref ry) (nI n) rg), (oa rx cI cap X), (oa ry cI cap Y)] t.heap) 0 0 := by
  refine zIn (own := "ScaleShop$Row") (loc := [(0, .ref r)]) rfl rfl rfl rfl (fun p e s m below meth c hx hb hr hts hown hlocks hml hnm9 A hA hS hP hD hK hXN Q9 hQ9 ls hl => ?_)
  refine lv_aload_n hx hb dX7_edges_0 rfl (lv_at hl 0 rfl) ?_
  refine va_get (D := (dC, dI)) (ci := 6) (v := .int (nI n)) (C := RX7) (T := TX7) (N := 4) hx hb hts inX7 hown hK hP 0 rfl rfl 2 (Nat.le_of_ble_eq_true rfl) (hts _ mw_175) (fun _ h9 => h9) rfl dX7_edges_1 ?_
  refine lv_iconst (v := 2) hx hb dX7_edges_4 rfl ?_
  have b9_2 : zlt (n) := show n < 2147483648 by omega
  refine lv_icmp_ge (tgt := 10) hx hb dX7_edges_5 rfl (fun c_1 => ?_) (fun c_1 => ?_)
  · have c_1 : 2 ≤ ((n : Nat) : Int) := zc_le rfl (nI_toInt b9_2) c_1
    refine lv_aload_n hx hb dX7_edges_10 rfl (lv_at hl 0 rfl) ?_
    refine va_get (D := (dC, dI)) (ci := 6) (v := .int rg) (C := RX7) (T := TX7) (N := 4) hx hb hts inX7 hown hK hP 0 rfl rfl 3 (Nat.le_of_ble_eq_true rfl) (hts _ mw_183) (fun _ h9 => h9) rfl dX7_edges_11 ?_
    refine lv_if_eq (tgt := 24) hx hb dX7_edges_14 rfl (fun c_3 => ?_) (fun c_3 => ?_)
    · have c_3 : rg.toInt = 0 := zc_eq rfl rfl c_3
      refine lv_aload_n hx hb dX7_edges_24 rfl (lv_at hl 0 rfl) ?_
      refine va_get (D := (dC, dI)) (ci := 6) (v := .int (nI n)) (C := RX7) (T := TX7) (N := 4) hx hb hts inX7 hown hK hP 0 rfl rfl 2 (Nat.le_of_ble_eq_true rfl) (hts _ mw_175) (fun _ h9 => h9) rfl dX7_edges_25 ?_
      refine lv_iconst (v := 1) hx hb dX7_edges_28 rfl ?_
      refine lv_isub hx hb dX7_edges_29 ?_
      refine zz_i (v := nI (n - 1)) (pk_sub (a := n) (b := 1) (by omega)) ?_
      obtain ⟨hP9, hD9⟩ := zu_sub (wc := [_, _, _]) hP hD [true, true, true] rfl rfl
      rw [hQ9]
      exact W.iret (v := nI (n - 1)) hx hb hr (fun t ht hW => ⟨⟨congrArg (fun z => Outcome.returned (some (Value.int z))) (show (nI (n - 1) : Int32) = nI (edg n rg) from zn_eq (by unfold edg; split <;> (try split) <;> omega)), by rw [ht]; exact hP9, hD9⟩, hS.F ht⟩) hS.2.2 dX7_edges_30
    · have c_3 : ¬ rg.toInt = 0 := zc_ne rfl rfl c_3
      refine lv_aload_n hx hb dX7_edges_17 rfl (lv_at hl 0 rfl) ?_
      refine va_get (D := (dC, dI)) (ci := 6) (v := .int (nI n)) (C := RX7) (T := TX7) (N := 4) hx hb hts inX7 hown hK hP 0 rfl rfl 2 (Nat.le_of_ble_eq_true rfl) (hts _ mw_175) (fun _ h9 => h9) rfl dX7_edges_18 ?_
      refine lv_goto (tgt := 30) hx hb dX7_edges_21 rfl ?_
      obtain ⟨hP9, hD9⟩ := zu_sub (wc := [_, _, _]) hP hD [true, true, true] rfl rfl
      rw [hQ9]
      exact W.iret (v := nI n) hx hb hr (fun t ht hW => ⟨⟨congrArg (fun z => Outcome.returned (some (Value.int z))) (show (nI n : Int32) = nI (edg n rg) from zn_eq (by unfold edg; split <;> (try split) <;> omega)), by rw [ht]; exact hP9, hD9⟩, hS.F ht⟩) hS.2.2 dX7_edges_30
  · have c_1 : ((n : Nat) : Int) < 2 := zc_nle rfl (nI_toInt b9_2) c_1
    refine lv_iconst (v := 0) hx hb dX7_edges_8 rfl ?_
    obtain ⟨hP9, hD9⟩ := zu_sub (wc := [_, _, _]) hP hD [true, true, true] rfl rfl
    rw [hQ9]
    exact W.iret (v := 0) hx hb hr (fun t ht hW => ⟨⟨congrArg (fun z => Outcome.returned (some (Value.int z))) (show (0 : Int32) = nI (edg n rg) from zn_eq (by unfold edg; split <;> (try split) <;> omega)), by rw [ht]; exact hP9, hD9⟩, hS.F ht⟩) hS.2.2 dX7_edges_9
set_option maxHeartbeats 4000000 in
set_option maxRecDepth 100000 in
theorem k_Row_parts (l : Launch) (dC : Nat → ClassId) (dI : Nat → Nat → Nat) (cI cZ cF : ClassId) (sz : Nat) (r : Nat) (rx : Nat) (ry : Nat) (n : Nat) (cap : Nat) (X : Nat → Int32) (Y : Nat → Int32) (rg : Int32) (hn : n ≤ cap) (hcap : cap ≤ 1000) : zM l yX7_parts cX7_parts 1 (some .int) ({ frames := 1, cells := 0, slots := 0, locals := 20 } : Room) [.ref r] (dC, dI) (zTy cI cZ cF) [(oc6 r (.ref rx) (.ref ry) (nI n) rg), (oa rx cI cap X), (oa ry cI cap Y)] sz (some (.int (nI (prt n rg)))) (fun A t => zPD (dC, dI) classes A [(oc6 r (.ref rx) (.ref ry) (nI n) rg), (oa rx cI cap X), (oa ry cI cap Y)] t.heap) 0 0 := by
  refine zIn (own := "ScaleShop$Row") (loc := [(0, .ref r)]) rfl rfl rfl rfl (fun p e s m below meth c hx hb hr hts hown hlocks hml hnm9 A hA hS hP hD hK hXN Q9 hQ9 ls hl => ?_)
  refine lv_aload_n hx hb dX7_parts_0 rfl (lv_at hl 0 rfl) ?_
  refine va_get (D := (dC, dI)) (ci := 6) (v := .int (nI n)) (C := RX7) (T := TX7) (N := 4) hx hb hts inX7 hown hK hP 0 rfl rfl 2 (Nat.le_of_ble_eq_true rfl) (hts _ mw_175) (fun _ h9 => h9) rfl dX7_parts_1 ?_
  refine lv_iconst (v := 1) hx hb dX7_parts_4 rfl ?_
  have b9_2 : zlt (n) := show n < 2147483648 by omega
  refine lv_icmp_ne (tgt := 12) hx hb dX7_parts_5 rfl (fun c_1 => ?_) (fun c_1 => ?_)
  · have c_1 : ¬ ((n : Nat) : Int) = 1 := zc_ne (nI_toInt b9_2) rfl c_1
    refine lv_aload_n hx hb dX7_parts_12 rfl (lv_at hl 0 rfl) ?_
    obtain ⟨hPc, hDc, hFc, hI1⟩ := zi_sub (wc := [_, _, _]) hP hD hS hA [0, 1, 2] rfl rfl
    refine zcall (st1 := [.int (nI (edg n rg))]) (va_runV (As := []) (rest := []) ⟨hx, hb, hml, hown, hts⟩ (k_Row_edges l dC dI cI cZ cF s.heap.size r rx ry n cap X Y rg (by first | with_reducible assumption | omega) (by first | with_reducible assumption | omega)) (csV_0 hts rfl rfl ⟨Nat.le_of_ble_eq_true rfl, Nat.le_of_ble_eq_true rfl⟩) (zPV2 (q0 := 0) (ci := 6) hPc hDc hK hXN rfl rfl) rfl rfl hl.1 rfl (lv_room (Nat.le_of_ble_eq_true rfl)) dX7_parts_13 ⟨Nat.le_of_ble_eq_true rfl, Nat.le_of_ble_eq_true rfl⟩) hS hFc hFc rfl (fun t H locs ht hB hk1 hS => ?_)
    obtain ⟨hP1, hD1⟩ := hB
    rw [ht] at hP1
    replace hP := z0 hP hD hk1 hP1 hI1
    clear hk1 hPc hDc hFc hP1 hD1 ht hI1
    obtain ⟨hP9, hD9⟩ := zu_sub (wc := [_, _, _]) hP hD [true, true, true] rfl rfl
    rw [hQ9]
    exact W.iret (v := nI (edg n rg)) hx hb hr (fun t ht hW => ⟨⟨congrArg (fun z => Outcome.returned (some (Value.int z))) (show (nI (edg n rg) : Int32) = nI (prt n rg) from zn_eq (by unfold prt; split <;> omega)), by rw [ht]; exact hP9, hD9⟩, hS.F ht⟩) hS.2.2 dX7_parts_16
  · have c_1 : ((n : Nat) : Int) = 1 := zc_eq (nI_toInt b9_2) rfl c_1
    refine lv_iconst (v := 1) hx hb dX7_parts_8 rfl ?_
    refine lv_goto (tgt := 16) hx hb dX7_parts_9 rfl ?_
    obtain ⟨hP9, hD9⟩ := zu_sub (wc := [_, _, _]) hP hD [true, true, true] rfl rfl
    rw [hQ9]
    exact W.iret (v := 1) hx hb hr (fun t ht hW => ⟨⟨congrArg (fun z => Outcome.returned (some (Value.int z))) (show (1 : Int32) = nI (prt n rg) from zn_eq (by unfold prt; split <;> omega)), by rw [ht]; exact hP9, hD9⟩, hS.F ht⟩) hS.2.2 dX7_parts_16
set_option maxHeartbeats 4000000 in
set_option maxRecDepth 100000 in
theorem k_Row_isEnd (l : Launch) (dC : Nat → ClassId) (dI : Nat → Nat → Nat) (cI cZ cF : ClassId) (sz : Nat) (r : Nat) (rx : Nat) (ry : Nat) (n : Nat) (cap : Nat) (X : Nat → Int32) (Y : Nat → Int32) (rg : Int32) (i : Nat) (hn : n ≤ cap) (hcap : cap ≤ 1000) (hi : i < n) : zM l yX7_isEnd cX7_isEnd 2 (some .boolean) ({ frames := 0, cells := 0, slots := 0, locals := 0 } : Room) [.ref r, .int (nI i)] (dC, dI) (zTy cI cZ cF) [(oc6 r (.ref rx) (.ref ry) (nI n) rg), (oa rx cI cap X), (oa ry cI cap Y)] sz (some (.int (pI (rg.toInt = 0 ∧ (i = 0 ∨ i = n - 1))))) (fun A t => zPD (dC, dI) classes A [(oc6 r (.ref rx) (.ref ry) (nI n) rg), (oa rx cI cap X), (oa ry cI cap Y)] t.heap) 0 0 := by
  refine zIn (own := "ScaleShop$Row") (loc := [(0, .ref r), (1, .int (nI i))]) rfl rfl rfl rfl (fun p e s m below meth c hx hb hr hts hown hlocks hml hnm9 A hA hS hP hD hK hXN Q9 hQ9 ls hl => ?_)
  refine lv_aload_n hx hb dX7_isEnd_0 rfl (lv_at hl 0 rfl) ?_
  refine va_get (D := (dC, dI)) (ci := 6) (v := .int rg) (C := RX7) (T := TX7) (N := 4) hx hb hts inX7 hown hK hP 0 rfl rfl 3 (Nat.le_of_ble_eq_true rfl) (hts _ mw_183) (fun _ h9 => h9) rfl dX7_isEnd_1 ?_
  refine lv_if_ne (tgt := 25) hx hb dX7_isEnd_4 rfl (fun c_1 => ?_) (fun c_1 => ?_)
  · have c_1 : ¬ rg.toInt = 0 := zc_ne rfl rfl c_1
    refine lv_iconst (v := 0) hx hb dX7_isEnd_25 rfl ?_
    obtain ⟨hP9, hD9⟩ := zu_sub (wc := [_, _, _]) hP hD [true, true, true] rfl rfl
    rw [hQ9]
    exact W.zret (ty := .boolean) (v := 0) hx hb hr (rfl) (fun t ht hW => ⟨⟨congrArg (fun z => Outcome.returned (some (Value.int z))) (show (0 : Int32) = pI (rg.toInt = 0 ∧ (i = 0 ∨ i = n - 1)) from (zp_f (by omega)).symm), by rw [ht]; exact hP9, hD9⟩, hS.F ht⟩) hS.2.2 dX7_isEnd_26
  · have c_1 : rg.toInt = 0 := zc_eq rfl rfl c_1
    refine lv_iload_n hx hb dX7_isEnd_7 rfl (lv_at hl 1 rfl) ?_
    have b9_3 : zlt (i) := show i < 2147483648 by omega
    refine lv_if_eq (tgt := 21) hx hb dX7_isEnd_8 rfl (fun c_2 => ?_) (fun c_2 => ?_)
    · have c_2 : ((i : Nat) : Int) = 0 := zc_eq (nI_toInt b9_3) rfl c_2
      refine lv_iconst (v := 1) hx hb dX7_isEnd_21 rfl ?_
      refine lv_goto (tgt := 26) hx hb dX7_isEnd_22 rfl ?_
      obtain ⟨hP9, hD9⟩ := zu_sub (wc := [_, _, _]) hP hD [true, true, true] rfl rfl
      rw [hQ9]
      exact W.zret (ty := .boolean) (v := 1) hx hb hr (rfl) (fun t ht hW => ⟨⟨congrArg (fun z => Outcome.returned (some (Value.int z))) (show (1 : Int32) = pI (rg.toInt = 0 ∧ (i = 0 ∨ i = n - 1)) from (zp_t (by omega)).symm), by rw [ht]; exact hP9, hD9⟩, hS.F ht⟩) hS.2.2 dX7_isEnd_26
    · have c_2 : ¬ ((i : Nat) : Int) = 0 := zc_ne (nI_toInt b9_3) rfl c_2
      refine lv_iload_n hx hb dX7_isEnd_11 rfl (lv_at hl 1 rfl) ?_
      refine lv_aload_n hx hb dX7_isEnd_12 rfl (lv_at hl 0 rfl) ?_
      refine va_get (D := (dC, dI)) (ci := 6) (v := .int (nI n)) (C := RX7) (T := TX7) (N := 4) hx hb hts inX7 hown hK hP 0 rfl rfl 2 (Nat.le_of_ble_eq_true rfl) (hts _ mw_175) (fun _ h9 => h9) rfl dX7_isEnd_13 ?_
      refine lv_iconst (v := 1) hx hb dX7_isEnd_16 rfl ?_
      refine lv_isub hx hb dX7_isEnd_17 ?_
      refine zz_i (v := nI (n - 1)) (pk_sub (a := n) (b := 1) (by omega)) ?_
      have b9_5 : zlt ((n - 1)) := show (n - 1) < 2147483648 by omega
      refine lv_icmp_ne (tgt := 25) hx hb dX7_isEnd_18 rfl (fun c_4 => ?_) (fun c_4 => ?_)
      · have c_4 : ¬ ((i : Nat) : Int) = ((n - 1 : Nat) : Int) := zc_ne (nI_toInt b9_3) (nI_toInt b9_5) c_4
        refine lv_iconst (v := 0) hx hb dX7_isEnd_25 rfl ?_
        obtain ⟨hP9, hD9⟩ := zu_sub (wc := [_, _, _]) hP hD [true, true, true] rfl rfl
        rw [hQ9]
        exact W.zret (ty := .boolean) (v := 0) hx hb hr (rfl) (fun t ht hW => ⟨⟨congrArg (fun z => Outcome.returned (some (Value.int z))) (show (0 : Int32) = pI (rg.toInt = 0 ∧ (i = 0 ∨ i = n - 1)) from (zp_f (by omega)).symm), by rw [ht]; exact hP9, hD9⟩, hS.F ht⟩) hS.2.2 dX7_isEnd_26
      · have c_4 : ((i : Nat) : Int) = ((n - 1 : Nat) : Int) := zc_eq (nI_toInt b9_3) (nI_toInt b9_5) c_4
        refine lv_iconst (v := 1) hx hb dX7_isEnd_21 rfl ?_
        refine lv_goto (tgt := 26) hx hb dX7_isEnd_22 rfl ?_
        obtain ⟨hP9, hD9⟩ := zu_sub (wc := [_, _, _]) hP hD [true, true, true] rfl rfl
        rw [hQ9]
        exact W.zret (ty := .boolean) (v := 1) hx hb hr (rfl) (fun t ht hW => ⟨⟨congrArg (fun z => Outcome.returned (some (Value.int z))) (show (1 : Int32) = pI (rg.toInt = 0 ∧ (i = 0 ∨ i = n - 1)) from (zp_t (by omega)).symm), by rw [ht]; exact hP9, hD9⟩, hS.F ht⟩) hS.2.2 dX7_isEnd_26
set_option maxHeartbeats 4000000 in
set_option maxRecDepth 100000 in
theorem k_Row_turn (l : Launch) (dC : Nat → ClassId) (dI : Nat → Nat → Nat) (cI cZ cF : ClassId) (sz : Nat) (r : Nat) (rx : Nat) (ry : Nat) (n : Nat) (cap : Nat) (X : Nat → Int32) (Y : Nat → Int32) (rg : Int32) (i : Nat) (px : Int32) (py : Int32) (hn : n ≤ cap) (hcap : cap ≤ 1000) (hp : pls n X Y) (hi : i < n) (hpx : pl px) (hpy : pl py) : zM l yX7_turn cX7_turn 5 (some .int) ({ frames := 0, cells := 0, slots := 0, locals := 0 } : Room) [.ref r, .int (nI i), .int px, .int py] (dC, dI) (zTy cI cZ cF) [(oc6 r (.ref rx) (.ref ry) (nI n) rg), (oa rx cI cap X), (oa ry cI cap Y)] sz (some (.int (iI (eCr n X Y i px.toInt py.toInt)))) (fun A t => zPD (dC, dI) classes A [(oc6 r (.ref rx) (.ref ry) (nI n) rg), (oa rx cI cap X), (oa ry cI cap Y)] t.heap) 0 0 := by
  refine zIn (own := "ScaleShop$Row") (loc := [(0, .ref r), (1, .int (nI i)), (2, .int px), (3, .int py)]) rfl rfl rfl rfl (fun p e s m below meth c hx hb hr hts hown hlocks hml hnm9 A hA hS hP hD hK hXN Q9 hQ9 ls hl => ?_)
  refine lv_iload_n hx hb dX7_turn_0 rfl (lv_at hl 1 rfl) ?_
  refine lv_iconst (v := 1) hx hb dX7_turn_1 rfl ?_
  refine lv_iadd hx hb dX7_turn_2 ?_
  refine zz_i (v := nI (i + 1)) (nI_add i 1) ?_
  refine lv_aload_n hx hb dX7_turn_3 rfl (lv_at hl 0 rfl) ?_
  refine va_get (D := (dC, dI)) (ci := 6) (v := .int (nI n)) (C := RX7) (T := TX7) (N := 4) hx hb hts inX7 hown hK hP 0 rfl rfl 2 (Nat.le_of_ble_eq_true rfl) (hts _ mw_175) (fun _ h9 => h9) rfl dX7_turn_4 ?_
  have hj_1 : W p l e ({ frames := 0, cells := 0, slots := 0, locals := 0 } : Room) s m ([.ref r, .int (nI i), .int px, .int py] : List Value).toArray below meth c s.heap [] 0 0 Q9 (F0 m 17 ls [.int (nI (nxt n i))]) := by
    have hnx := nxt_lt (n := n) (i := i) (by omega)
    refine lv_istore (lv' := [(4, .int (nI (nxt n i))), (0, .ref r), (1, .int (nI i)), (2, .int px), (3, .int py)]) hx hb dX7_turn_17 hl (Nat.le_of_ble_eq_true rfl) rfl (fun ls hl => ?_)
    refine lv_aload_n hx hb dX7_turn_19 rfl (lv_at hl 1 rfl) ?_
    refine va_get (D := (dC, dI)) (ci := 6) (v := .ref rx) (C := RX7) (T := TX7) (N := 4) hx hb hts inX7 hown hK hP 0 rfl rfl 0 (Nat.le_of_ble_eq_true rfl) (hts _ mw_161) (fun _ h9 => h9) rfl dX7_turn_20 ?_
    refine lv_iload hx hb dX7_turn_23 (lv_at hl 0 rfl) ?_
    have b9_2 : nxt n i < cap := by omega
    have b9_3 : zlt (cap) := show cap < 2147483648 by omega
    refine z_iald hx hb hK hP 1 0 rfl rfl (e := nxt n i) rfl b9_2 b9_3 dX7_turn_25 ?_
    refine lv_aload_n hx hb dX7_turn_26 rfl (lv_at hl 1 rfl) ?_
    refine va_get (D := (dC, dI)) (ci := 6) (v := .ref rx) (C := RX7) (T := TX7) (N := 4) hx hb hts inX7 hown hK hP 0 rfl rfl 0 (Nat.le_of_ble_eq_true rfl) (hts _ mw_161) (fun _ h9 => h9) rfl dX7_turn_27 ?_
    refine lv_iload_n hx hb dX7_turn_30 rfl (lv_at hl 2 rfl) ?_
    have b9_4 : i < cap := by omega
    refine z_iald hx hb hK hP 1 0 rfl rfl (e := i) rfl b9_4 b9_3 dX7_turn_31 ?_
    refine lv_isub hx hb dX7_turn_32 ?_
    refine lv_iload_n hx hb dX7_turn_33 rfl (lv_at hl 4 rfl) ?_
    refine lv_aload_n hx hb dX7_turn_34 rfl (lv_at hl 1 rfl) ?_
    refine va_get (D := (dC, dI)) (ci := 6) (v := .ref ry) (C := RX7) (T := TX7) (N := 4) hx hb hts inX7 hown hK hP 0 rfl rfl 1 (Nat.le_of_ble_eq_true rfl) (hts _ mw_168) (fun _ h9 => h9) rfl dX7_turn_35 ?_
    refine lv_iload_n hx hb dX7_turn_38 rfl (lv_at hl 2 rfl) ?_
    refine z_iald hx hb hK hP 2 0 rfl rfl (e := i) rfl b9_4 b9_3 dX7_turn_39 ?_
    refine lv_isub hx hb dX7_turn_40 ?_
    refine lv_imul hx hb dX7_turn_41 ?_
    refine lv_aload_n hx hb dX7_turn_42 rfl (lv_at hl 1 rfl) ?_
    refine va_get (D := (dC, dI)) (ci := 6) (v := .ref ry) (C := RX7) (T := TX7) (N := 4) hx hb hts inX7 hown hK hP 0 rfl rfl 1 (Nat.le_of_ble_eq_true rfl) (hts _ mw_168) (fun _ h9 => h9) rfl dX7_turn_43 ?_
    refine lv_iload hx hb dX7_turn_46 (lv_at hl 0 rfl) ?_
    refine z_iald hx hb hK hP 2 0 rfl rfl (e := nxt n i) rfl b9_2 b9_3 dX7_turn_48 ?_
    refine lv_aload_n hx hb dX7_turn_49 rfl (lv_at hl 1 rfl) ?_
    refine va_get (D := (dC, dI)) (ci := 6) (v := .ref ry) (C := RX7) (T := TX7) (N := 4) hx hb hts inX7 hown hK hP 0 rfl rfl 1 (Nat.le_of_ble_eq_true rfl) (hts _ mw_168) (fun _ h9 => h9) rfl dX7_turn_50 ?_
    refine lv_iload_n hx hb dX7_turn_53 rfl (lv_at hl 2 rfl) ?_
    refine z_iald hx hb hK hP 2 0 rfl rfl (e := i) rfl b9_4 b9_3 dX7_turn_54 ?_
    refine lv_isub hx hb dX7_turn_55 ?_
    refine lv_iload_n hx hb dX7_turn_56 rfl (lv_at hl 3 rfl) ?_
    refine lv_aload_n hx hb dX7_turn_57 rfl (lv_at hl 1 rfl) ?_
    refine va_get (D := (dC, dI)) (ci := 6) (v := .ref rx) (C := RX7) (T := TX7) (N := 4) hx hb hts inX7 hown hK hP 0 rfl rfl 0 (Nat.le_of_ble_eq_true rfl) (hts _ mw_161) (fun _ h9 => h9) rfl dX7_turn_58 ?_
    refine lv_iload_n hx hb dX7_turn_61 rfl (lv_at hl 2 rfl) ?_
    refine z_iald hx hb hK hP 1 0 rfl rfl (e := i) rfl b9_4 b9_3 dX7_turn_62 ?_
    refine lv_isub hx hb dX7_turn_63 ?_
    refine lv_imul hx hb dX7_turn_64 ?_
    refine lv_isub hx hb dX7_turn_65 ?_
    obtain ⟨hP9, hD9⟩ := zu_sub (wc := [_, _, _]) hP hD [true, true, true] rfl rfl
    rw [hQ9]
    exact W.iret (v := (((X (nxt n i)) - (X i)) * (py - (Y i))) - (((Y (nxt n i)) - (Y i)) * (px - (X i)))) hx hb hr (fun t ht hW => ⟨⟨congrArg (fun z => Outcome.returned (some (Value.int z))) (show ((((X (nxt n i)) - (X i)) * (py - (Y i))) - (((Y (nxt n i)) - (Y i)) * (px - (X i))) : Int32) = iI (eCr n X Y i px.toInt py.toInt) from crI (hp i hi).1 (hp i hi).2 (hp _ hnx).1 (hp _ hnx).2 hpx hpy), by rw [ht]; exact hP9, hD9⟩, hS.F ht⟩) hS.2.2 dX7_turn_66
  have b9_6 : zlt ((i + 1)) := show (i + 1) < 2147483648 by omega
  have b9_7 : zlt (n) := show n < 2147483648 by omega
  refine lv_icmp_ge (tgt := 16) hx hb dX7_turn_7 rfl (fun c_5 => ?_) (fun c_5 => ?_)
  · have c_5 : ((n : Nat) : Int) ≤ ((i + 1 : Nat) : Int) := zc_le (nI_toInt b9_7) (nI_toInt b9_6) c_5
    refine lv_iconst (v := 0) hx hb dX7_turn_16 rfl ?_
    refine zz_i (v := nI (nxt n i)) (by first | (rw [nxt, if_pos (by omega)]) | (rw [nxt, if_neg (by omega)]; first | done | rfl)) ?_
    exact hj_1 
  · have c_5 : ((i + 1 : Nat) : Int) < ((n : Nat) : Int) := zc_nle (nI_toInt b9_7) (nI_toInt b9_6) c_5
    refine lv_iload_n hx hb dX7_turn_10 rfl (lv_at hl 1 rfl) ?_
    refine lv_iconst (v := 1) hx hb dX7_turn_11 rfl ?_
    refine lv_iadd hx hb dX7_turn_12 ?_
    refine zz_i (v := nI (i + 1)) (nI_add i 1) ?_
    refine lv_goto (tgt := 17) hx hb dX7_turn_13 rfl ?_
    refine zz_i (v := nI (nxt n i)) (by first | (rw [nxt, if_pos (by omega)]) | (rw [nxt, if_neg (by omega)]; first | done | rfl)) ?_
    exact hj_1 
set_option maxHeartbeats 4000000 in
set_option maxRecDepth 100000 in
theorem k_Row_isOn (l : Launch) (dC : Nat → ClassId) (dI : Nat → Nat → Nat) (cI cZ cF : ClassId) (sz : Nat) (r : Nat) (rx : Nat) (ry : Nat) (n : Nat) (cap : Nat) (X : Nat → Int32) (Y : Nat → Int32) (rg : Int32) (i : Nat) (px : Int32) (py : Int32) (hn : n ≤ cap) (hcap : cap ≤ 1000) (hp : pls n X Y) (hi : i < n) (hpx : pl px) (hpy : pl py) : zM l yX7_isOn cX7_isOn 5 (some .boolean) ({ frames := 1, cells := 0, slots := 0, locals := 24 } : Room) [.ref r, .int (nI i), .int px, .int py] (dC, dI) (zTy cI cZ cF) [(oc6 r (.ref rx) (.ref ry) (nI n) rg), (oa rx cI cap X), (oa ry cI cap Y)] sz (some (.int (pI (eOn n X Y i px.toInt py.toInt)))) (fun A t => zPD (dC, dI) classes A [(oc6 r (.ref rx) (.ref ry) (nI n) rg), (oa rx cI cap X), (oa ry cI cap Y)] t.heap) 0 0 := by
  refine zIn (own := "ScaleShop$Row") (loc := [(0, .ref r), (1, .int (nI i)), (2, .int px), (3, .int py)]) rfl rfl rfl rfl (fun p e s m below meth c hx hb hr hts hown hlocks hml hnm9 A hA hS hP hD hK hXN Q9 hQ9 ls hl => ?_)
  refine lv_iload_n hx hb dX7_isOn_0 rfl (lv_at hl 1 rfl) ?_
  refine lv_iconst (v := 1) hx hb dX7_isOn_1 rfl ?_
  refine lv_iadd hx hb dX7_isOn_2 ?_
  refine zz_i (v := nI (i + 1)) (nI_add i 1) ?_
  refine lv_aload_n hx hb dX7_isOn_3 rfl (lv_at hl 0 rfl) ?_
  refine va_get (D := (dC, dI)) (ci := 6) (v := .int (nI n)) (C := RX7) (T := TX7) (N := 4) hx hb hts inX7 hown hK hP 0 rfl rfl 2 (Nat.le_of_ble_eq_true rfl) (hts _ mw_175) (fun _ h9 => h9) rfl dX7_isOn_4 ?_
  have hj_1 : W p l e ({ frames := 1, cells := 0, slots := 0, locals := 24 } : Room) s m ([.ref r, .int (nI i), .int px, .int py] : List Value).toArray below meth c s.heap [] 0 0 Q9 (F0 m 17 ls [.int (nI (nxt n i))]) := by
    have hnx := nxt_lt (n := n) (i := i) (by omega)
    refine lv_istore (lv' := [(4, .int (nI (nxt n i))), (0, .ref r), (1, .int (nI i)), (2, .int px), (3, .int py)]) hx hb dX7_isOn_17 hl (Nat.le_of_ble_eq_true rfl) rfl (fun ls hl => ?_)
    have hj_2 : (min (X i).toInt (X (nxt n i)).toInt ≤ px.toInt ∧ px.toInt ≤ max (X i).toInt (X (nxt n i)).toInt) → W p l e ({ frames := 1, cells := 0, slots := 0, locals := 24 } : Room) s m ([.ref r, .int (nI i), .int px, .int py] : List Value).toArray below meth c s.heap [] 0 0 Q9 (F0 m 63 ls []) := by
      intro hx1
      have hj_3 : (min (Y i).toInt (Y (nxt n i)).toInt ≤ py.toInt ∧ py.toInt ≤ max (Y i).toInt (Y (nxt n i)).toInt) → W p l e ({ frames := 1, cells := 0, slots := 0, locals := 24 } : Room) s m ([.ref r, .int (nI i), .int px, .int py] : List Value).toArray below meth c s.heap [] 0 0 Q9 (F0 m 107 ls []) := by
        intro hy1
        have hcB := crBp (hp i hi).1 (hp i hi).2 (hp _ hnx).1 (hp _ hnx).2 hpx hpy
        have hcB : -2000000 ≤ eCr n X Y i px.toInt py.toInt ∧ eCr n X Y i px.toInt py.toInt ≤ 2000000 := hcB
        refine lv_aload_n hx hb dX7_isOn_107 rfl (lv_at hl 1 rfl) ?_
        refine lv_iload_n hx hb dX7_isOn_108 rfl (lv_at hl 2 rfl) ?_
        refine lv_iload_n hx hb dX7_isOn_109 rfl (lv_at hl 3 rfl) ?_
        refine lv_iload_n hx hb dX7_isOn_110 rfl (lv_at hl 4 rfl) ?_
        obtain ⟨hPc, hDc, hFc, hI1⟩ := zi_sub (wc := [_, _, _]) hP hD hS hA [0, 1, 2] rfl rfl
        refine zcall (st1 := [.int (iI (eCr n X Y i px.toInt py.toInt))]) (va_runV (As := [.int (nI i), .int px, .int py]) (rest := []) ⟨hx, hb, hml, hown, hts⟩ (k_Row_turn l dC dI cI cZ cF s.heap.size r rx ry n cap X Y rg i px py (by first | with_reducible assumption | omega) (by first | with_reducible assumption | omega) (by first | with_reducible assumption | assumption) (by first | with_reducible assumption | omega) (by first | with_reducible assumption | assumption) (by first | with_reducible assumption | assumption)) (csV_1 hts rfl rfl ⟨Nat.le_of_ble_eq_true rfl, Nat.le_of_ble_eq_true rfl⟩) (zPV2 (q0 := 0) (ci := 6) hPc hDc hK hXN rfl rfl) rfl rfl hl.1 rfl (lv_room (Nat.le_of_ble_eq_true rfl)) dX7_isOn_111 ⟨Nat.le_of_ble_eq_true rfl, Nat.le_of_ble_eq_true rfl⟩) hS hFc hFc rfl (fun t H locs ht hB hk1 hS => ?_)
        obtain ⟨hP1, hD1⟩ := hB
        rw [ht] at hP1
        replace hP := z0 hP hD hk1 hP1 hI1
        clear hk1 hPc hDc hFc hP1 hD1 ht hI1
        refine lv_if_ne (tgt := 121) hx hb dX7_isOn_114 rfl (fun c_4 => ?_) (fun c_4 => ?_)
        · have c_4 : ¬ (eCr n X Y i px.toInt py.toInt) = 0 := zc_ne (iI_toInt (by omega)) rfl c_4
          refine lv_iconst (v := 0) hx hb dX7_isOn_121 rfl ?_
          obtain ⟨hP9, hD9⟩ := zu_sub (wc := [_, _, _]) hP hD [true, true, true] rfl rfl
          rw [hQ9]
          exact W.zret (ty := .boolean) (v := 0) hx hb hr (rfl) (fun t ht hW => ⟨⟨congrArg (fun z => Outcome.returned (some (Value.int z))) (show (0 : Int32) = pI (eOn n X Y i px.toInt py.toInt) from (zp_f (by unfold eOn onS; first | exact ⟨by assumption, hx1.1, hx1.2, hy1.1, hy1.2⟩ | exact fun h => absurd h.1 (by first | with_reducible assumption | assumption))).symm), by rw [ht]; exact hP9, hD9⟩, hS.F ht⟩) hS.2.2 dX7_isOn_122
        · have c_4 : (eCr n X Y i px.toInt py.toInt) = 0 := zc_eq (iI_toInt (by omega)) rfl c_4
          refine lv_iconst (v := 1) hx hb dX7_isOn_117 rfl ?_
          refine lv_goto (tgt := 122) hx hb dX7_isOn_118 rfl ?_
          obtain ⟨hP9, hD9⟩ := zu_sub (wc := [_, _, _]) hP hD [true, true, true] rfl rfl
          rw [hQ9]
          exact W.zret (ty := .boolean) (v := 1) hx hb hr (rfl) (fun t ht hW => ⟨⟨congrArg (fun z => Outcome.returned (some (Value.int z))) (show (1 : Int32) = pI (eOn n X Y i px.toInt py.toInt) from (zp_t (by unfold eOn onS; first | exact ⟨by assumption, hx1.1, hx1.2, hy1.1, hy1.2⟩ | exact fun h => absurd h.1 (by first | with_reducible assumption | assumption))).symm), by rw [ht]; exact hP9, hD9⟩, hS.F ht⟩) hS.2.2 dX7_isOn_122
      refine lv_iload_n hx hb dX7_isOn_63 rfl (lv_at hl 4 rfl) ?_
      refine lv_aload_n hx hb dX7_isOn_64 rfl (lv_at hl 1 rfl) ?_
      refine va_get (D := (dC, dI)) (ci := 6) (v := .ref ry) (C := RX7) (T := TX7) (N := 4) hx hb hts inX7 hown hK hP 0 rfl rfl 1 (Nat.le_of_ble_eq_true rfl) (hts _ mw_168) (fun _ h9 => h9) rfl dX7_isOn_65 ?_
      refine lv_iload_n hx hb dX7_isOn_68 rfl (lv_at hl 2 rfl) ?_
      have b9_5 : i < cap := by omega
      have b9_6 : zlt (cap) := show cap < 2147483648 by omega
      refine z_iald hx hb hK hP 2 0 rfl rfl (e := i) rfl b9_5 b9_6 dX7_isOn_69 ?_
      refine lv_icmp_ge (tgt := 84) hx hb dX7_isOn_70 rfl (fun c_7 => ?_) (fun c_7 => ?_)
      · have c_7 : (Y i).toInt ≤ py.toInt := zc_le rfl rfl c_7
        refine lv_iload_n hx hb dX7_isOn_84 rfl (lv_at hl 4 rfl) ?_
        refine lv_aload_n hx hb dX7_isOn_85 rfl (lv_at hl 1 rfl) ?_
        refine va_get (D := (dC, dI)) (ci := 6) (v := .ref ry) (C := RX7) (T := TX7) (N := 4) hx hb hts inX7 hown hK hP 0 rfl rfl 1 (Nat.le_of_ble_eq_true rfl) (hts _ mw_168) (fun _ h9 => h9) rfl dX7_isOn_86 ?_
        refine lv_iload_n hx hb dX7_isOn_89 rfl (lv_at hl 2 rfl) ?_
        refine z_iald hx hb hK hP 2 0 rfl rfl (e := i) rfl b9_5 b9_6 dX7_isOn_90 ?_
        refine lv_icmp_le (tgt := 107) hx hb dX7_isOn_91 rfl (fun c_8 => ?_) (fun c_8 => ?_)
        · have c_8 : py.toInt ≤ (Y i).toInt := zc_le rfl rfl c_8
          exact hj_3 (by omega)
        · have c_8 : (Y i).toInt < py.toInt := zc_nle rfl rfl c_8
          refine lv_iload_n hx hb dX7_isOn_94 rfl (lv_at hl 4 rfl) ?_
          refine lv_aload_n hx hb dX7_isOn_95 rfl (lv_at hl 1 rfl) ?_
          refine va_get (D := (dC, dI)) (ci := 6) (v := .ref ry) (C := RX7) (T := TX7) (N := 4) hx hb hts inX7 hown hK hP 0 rfl rfl 1 (Nat.le_of_ble_eq_true rfl) (hts _ mw_168) (fun _ h9 => h9) rfl dX7_isOn_96 ?_
          refine lv_iload hx hb dX7_isOn_99 (lv_at hl 0 rfl) ?_
          have b9_9 : nxt n i < cap := by omega
          refine z_iald hx hb hK hP 2 0 rfl rfl (e := nxt n i) rfl b9_9 b9_6 dX7_isOn_101 ?_
          refine lv_icmp_le (tgt := 107) hx hb dX7_isOn_102 rfl (fun c_10 => ?_) (fun c_10 => ?_)
          · have c_10 : py.toInt ≤ (Y (nxt n i)).toInt := zc_le rfl rfl c_10
            exact hj_3 (by omega)
          · have c_10 : (Y (nxt n i)).toInt < py.toInt := zc_nle rfl rfl c_10
            refine lv_iconst (v := 0) hx hb dX7_isOn_105 rfl ?_
            obtain ⟨hP9, hD9⟩ := zu_sub (wc := [_, _, _]) hP hD [true, true, true] rfl rfl
            rw [hQ9]
            exact W.zret (ty := .boolean) (v := 0) hx hb hr (rfl) (fun t ht hW => ⟨⟨congrArg (fun z => Outcome.returned (some (Value.int z))) (show (0 : Int32) = pI (eOn n X Y i px.toInt py.toInt) from (zp_f (by unfold eOn onS; omega)).symm), by rw [ht]; exact hP9, hD9⟩, hS.F ht⟩) hS.2.2 dX7_isOn_106
      · have c_7 : py.toInt < (Y i).toInt := zc_nle rfl rfl c_7
        refine lv_iload_n hx hb dX7_isOn_73 rfl (lv_at hl 4 rfl) ?_
        refine lv_aload_n hx hb dX7_isOn_74 rfl (lv_at hl 1 rfl) ?_
        refine va_get (D := (dC, dI)) (ci := 6) (v := .ref ry) (C := RX7) (T := TX7) (N := 4) hx hb hts inX7 hown hK hP 0 rfl rfl 1 (Nat.le_of_ble_eq_true rfl) (hts _ mw_168) (fun _ h9 => h9) rfl dX7_isOn_75 ?_
        refine lv_iload hx hb dX7_isOn_78 (lv_at hl 0 rfl) ?_
        have b9_11 : nxt n i < cap := by omega
        refine z_iald hx hb hK hP 2 0 rfl rfl (e := nxt n i) rfl b9_11 b9_6 dX7_isOn_80 ?_
        refine lv_icmp_lt (tgt := 105) hx hb dX7_isOn_81 rfl (fun c_12 => ?_) (fun c_12 => ?_)
        · have c_12 : py.toInt < (Y (nxt n i)).toInt := zc_lt rfl rfl c_12
          refine lv_iconst (v := 0) hx hb dX7_isOn_105 rfl ?_
          obtain ⟨hP9, hD9⟩ := zu_sub (wc := [_, _, _]) hP hD [true, true, true] rfl rfl
          rw [hQ9]
          exact W.zret (ty := .boolean) (v := 0) hx hb hr (rfl) (fun t ht hW => ⟨⟨congrArg (fun z => Outcome.returned (some (Value.int z))) (show (0 : Int32) = pI (eOn n X Y i px.toInt py.toInt) from (zp_f (by unfold eOn onS; omega)).symm), by rw [ht]; exact hP9, hD9⟩, hS.F ht⟩) hS.2.2 dX7_isOn_106
        · have c_12 : (Y (nxt n i)).toInt ≤ py.toInt := zc_nlt rfl rfl c_12
          refine lv_iload_n hx hb dX7_isOn_84 rfl (lv_at hl 4 rfl) ?_
          refine lv_aload_n hx hb dX7_isOn_85 rfl (lv_at hl 1 rfl) ?_
          refine va_get (D := (dC, dI)) (ci := 6) (v := .ref ry) (C := RX7) (T := TX7) (N := 4) hx hb hts inX7 hown hK hP 0 rfl rfl 1 (Nat.le_of_ble_eq_true rfl) (hts _ mw_168) (fun _ h9 => h9) rfl dX7_isOn_86 ?_
          refine lv_iload_n hx hb dX7_isOn_89 rfl (lv_at hl 2 rfl) ?_
          refine z_iald hx hb hK hP 2 0 rfl rfl (e := i) rfl b9_5 b9_6 dX7_isOn_90 ?_
          refine lv_icmp_le (tgt := 107) hx hb dX7_isOn_91 rfl (fun c_13 => ?_) (fun c_13 => ?_)
          · have c_13 : py.toInt ≤ (Y i).toInt := zc_le rfl rfl c_13
            exact hj_3 (by omega)
          · have c_13 : (Y i).toInt < py.toInt := zc_nle rfl rfl c_13
            refine lv_iload_n hx hb dX7_isOn_94 rfl (lv_at hl 4 rfl) ?_
            refine lv_aload_n hx hb dX7_isOn_95 rfl (lv_at hl 1 rfl) ?_
            refine va_get (D := (dC, dI)) (ci := 6) (v := .ref ry) (C := RX7) (T := TX7) (N := 4) hx hb hts inX7 hown hK hP 0 rfl rfl 1 (Nat.le_of_ble_eq_true rfl) (hts _ mw_168) (fun _ h9 => h9) rfl dX7_isOn_96 ?_
            refine lv_iload hx hb dX7_isOn_99 (lv_at hl 0 rfl) ?_
            refine z_iald hx hb hK hP 2 0 rfl rfl (e := nxt n i) rfl b9_11 b9_6 dX7_isOn_101 ?_
            refine lv_icmp_le (tgt := 107) hx hb dX7_isOn_102 rfl (fun c_14 => ?_) (fun c_14 => ?_)
            · have c_14 : py.toInt ≤ (Y (nxt n i)).toInt := zc_le rfl rfl c_14
              exact hj_3 (by omega)
            · have c_14 : (Y (nxt n i)).toInt < py.toInt := zc_nle rfl rfl c_14
              refine lv_iconst (v := 0) hx hb dX7_isOn_105 rfl ?_
              obtain ⟨hP9, hD9⟩ := zu_sub (wc := [_, _, _]) hP hD [true, true, true] rfl rfl
              rw [hQ9]
              exact W.zret (ty := .boolean) (v := 0) hx hb hr (rfl) (fun t ht hW => ⟨⟨congrArg (fun z => Outcome.returned (some (Value.int z))) (show (0 : Int32) = pI (eOn n X Y i px.toInt py.toInt) from (zp_f (by unfold eOn onS; omega)).symm), by rw [ht]; exact hP9, hD9⟩, hS.F ht⟩) hS.2.2 dX7_isOn_106
    refine lv_iload_n hx hb dX7_isOn_19 rfl (lv_at hl 3 rfl) ?_
    refine lv_aload_n hx hb dX7_isOn_20 rfl (lv_at hl 1 rfl) ?_
    refine va_get (D := (dC, dI)) (ci := 6) (v := .ref rx) (C := RX7) (T := TX7) (N := 4) hx hb hts inX7 hown hK hP 0 rfl rfl 0 (Nat.le_of_ble_eq_true rfl) (hts _ mw_161) (fun _ h9 => h9) rfl dX7_isOn_21 ?_
    refine lv_iload_n hx hb dX7_isOn_24 rfl (lv_at hl 2 rfl) ?_
    have b9_15 : i < cap := by omega
    have b9_16 : zlt (cap) := show cap < 2147483648 by omega
    refine z_iald hx hb hK hP 1 0 rfl rfl (e := i) rfl b9_15 b9_16 dX7_isOn_25 ?_
    refine lv_icmp_ge (tgt := 40) hx hb dX7_isOn_26 rfl (fun c_17 => ?_) (fun c_17 => ?_)
    · have c_17 : (X i).toInt ≤ px.toInt := zc_le rfl rfl c_17
      refine lv_iload_n hx hb dX7_isOn_40 rfl (lv_at hl 3 rfl) ?_
      refine lv_aload_n hx hb dX7_isOn_41 rfl (lv_at hl 1 rfl) ?_
      refine va_get (D := (dC, dI)) (ci := 6) (v := .ref rx) (C := RX7) (T := TX7) (N := 4) hx hb hts inX7 hown hK hP 0 rfl rfl 0 (Nat.le_of_ble_eq_true rfl) (hts _ mw_161) (fun _ h9 => h9) rfl dX7_isOn_42 ?_
      refine lv_iload_n hx hb dX7_isOn_45 rfl (lv_at hl 2 rfl) ?_
      refine z_iald hx hb hK hP 1 0 rfl rfl (e := i) rfl b9_15 b9_16 dX7_isOn_46 ?_
      refine lv_icmp_le (tgt := 63) hx hb dX7_isOn_47 rfl (fun c_18 => ?_) (fun c_18 => ?_)
      · have c_18 : px.toInt ≤ (X i).toInt := zc_le rfl rfl c_18
        exact hj_2 (by omega)
      · have c_18 : (X i).toInt < px.toInt := zc_nle rfl rfl c_18
        refine lv_iload_n hx hb dX7_isOn_50 rfl (lv_at hl 3 rfl) ?_
        refine lv_aload_n hx hb dX7_isOn_51 rfl (lv_at hl 1 rfl) ?_
        refine va_get (D := (dC, dI)) (ci := 6) (v := .ref rx) (C := RX7) (T := TX7) (N := 4) hx hb hts inX7 hown hK hP 0 rfl rfl 0 (Nat.le_of_ble_eq_true rfl) (hts _ mw_161) (fun _ h9 => h9) rfl dX7_isOn_52 ?_
        refine lv_iload hx hb dX7_isOn_55 (lv_at hl 0 rfl) ?_
        have b9_19 : nxt n i < cap := by omega
        refine z_iald hx hb hK hP 1 0 rfl rfl (e := nxt n i) rfl b9_19 b9_16 dX7_isOn_57 ?_
        refine lv_icmp_le (tgt := 63) hx hb dX7_isOn_58 rfl (fun c_20 => ?_) (fun c_20 => ?_)
        · have c_20 : px.toInt ≤ (X (nxt n i)).toInt := zc_le rfl rfl c_20
          exact hj_2 (by omega)
        · have c_20 : (X (nxt n i)).toInt < px.toInt := zc_nle rfl rfl c_20
          refine lv_iconst (v := 0) hx hb dX7_isOn_61 rfl ?_
          obtain ⟨hP9, hD9⟩ := zu_sub (wc := [_, _, _]) hP hD [true, true, true] rfl rfl
          rw [hQ9]
          exact W.zret (ty := .boolean) (v := 0) hx hb hr (rfl) (fun t ht hW => ⟨⟨congrArg (fun z => Outcome.returned (some (Value.int z))) (show (0 : Int32) = pI (eOn n X Y i px.toInt py.toInt) from (zp_f (by unfold eOn onS; omega)).symm), by rw [ht]; exact hP9, hD9⟩, hS.F ht⟩) hS.2.2 dX7_isOn_62
    · have c_17 : px.toInt < (X i).toInt := zc_nle rfl rfl c_17
      refine lv_iload_n hx hb dX7_isOn_29 rfl (lv_at hl 3 rfl) ?_
      refine lv_aload_n hx hb dX7_isOn_30 rfl (lv_at hl 1 rfl) ?_
      refine va_get (D := (dC, dI)) (ci := 6) (v := .ref rx) (C := RX7) (T := TX7) (N := 4) hx hb hts inX7 hown hK hP 0 rfl rfl 0 (Nat.le_of_ble_eq_true rfl) (hts _ mw_161) (fun _ h9 => h9) rfl dX7_isOn_31 ?_
      refine lv_iload hx hb dX7_isOn_34 (lv_at hl 0 rfl) ?_
      have b9_21 : nxt n i < cap := by omega
      refine z_iald hx hb hK hP 1 0 rfl rfl (e := nxt n i) rfl b9_21 b9_16 dX7_isOn_36 ?_
      refine lv_icmp_lt (tgt := 61) hx hb dX7_isOn_37 rfl (fun c_22 => ?_) (fun c_22 => ?_)
      · have c_22 : px.toInt < (X (nxt n i)).toInt := zc_lt rfl rfl c_22
        refine lv_iconst (v := 0) hx hb dX7_isOn_61 rfl ?_
        obtain ⟨hP9, hD9⟩ := zu_sub (wc := [_, _, _]) hP hD [true, true, true] rfl rfl
        rw [hQ9]
        exact W.zret (ty := .boolean) (v := 0) hx hb hr (rfl) (fun t ht hW => ⟨⟨congrArg (fun z => Outcome.returned (some (Value.int z))) (show (0 : Int32) = pI (eOn n X Y i px.toInt py.toInt) from (zp_f (by unfold eOn onS; omega)).symm), by rw [ht]; exact hP9, hD9⟩, hS.F ht⟩) hS.2.2 dX7_isOn_62
      · have c_22 : (X (nxt n i)).toInt ≤ px.toInt := zc_nlt rfl rfl c_22
        refine lv_iload_n hx hb dX7_isOn_40 rfl (lv_at hl 3 rfl) ?_
        refine lv_aload_n hx hb dX7_isOn_41 rfl (lv_at hl 1 rfl) ?_
        refine va_get (D := (dC, dI)) (ci := 6) (v := .ref rx) (C := RX7) (T := TX7) (N := 4) hx hb hts inX7 hown hK hP 0 rfl rfl 0 (Nat.le_of_ble_eq_true rfl) (hts _ mw_161) (fun _ h9 => h9) rfl dX7_isOn_42 ?_
        refine lv_iload_n hx hb dX7_isOn_45 rfl (lv_at hl 2 rfl) ?_
        refine z_iald hx hb hK hP 1 0 rfl rfl (e := i) rfl b9_15 b9_16 dX7_isOn_46 ?_
        refine lv_icmp_le (tgt := 63) hx hb dX7_isOn_47 rfl (fun c_23 => ?_) (fun c_23 => ?_)
        · have c_23 : px.toInt ≤ (X i).toInt := zc_le rfl rfl c_23
          exact hj_2 (by omega)
        · have c_23 : (X i).toInt < px.toInt := zc_nle rfl rfl c_23
          refine lv_iload_n hx hb dX7_isOn_50 rfl (lv_at hl 3 rfl) ?_
          refine lv_aload_n hx hb dX7_isOn_51 rfl (lv_at hl 1 rfl) ?_
          refine va_get (D := (dC, dI)) (ci := 6) (v := .ref rx) (C := RX7) (T := TX7) (N := 4) hx hb hts inX7 hown hK hP 0 rfl rfl 0 (Nat.le_of_ble_eq_true rfl) (hts _ mw_161) (fun _ h9 => h9) rfl dX7_isOn_52 ?_
          refine lv_iload hx hb dX7_isOn_55 (lv_at hl 0 rfl) ?_
          refine z_iald hx hb hK hP 1 0 rfl rfl (e := nxt n i) rfl b9_21 b9_16 dX7_isOn_57 ?_
          refine lv_icmp_le (tgt := 63) hx hb dX7_isOn_58 rfl (fun c_24 => ?_) (fun c_24 => ?_)
          · have c_24 : px.toInt ≤ (X (nxt n i)).toInt := zc_le rfl rfl c_24
            exact hj_2 (by omega)
          · have c_24 : (X (nxt n i)).toInt < px.toInt := zc_nle rfl rfl c_24
            refine lv_iconst (v := 0) hx hb dX7_isOn_61 rfl ?_
            obtain ⟨hP9, hD9⟩ := zu_sub (wc := [_, _, _]) hP hD [true, true, true] rfl rfl
            rw [hQ9]
            exact W.zret (ty := .boolean) (v := 0) hx hb hr (rfl) (fun t ht hW => ⟨⟨congrArg (fun z => Outcome.returned (some (Value.int z))) (show (0 : Int32) = pI (eOn n X Y i px.toInt py.toInt) from (zp_f (by unfold eOn onS; omega)).symm), by rw [ht]; exact hP9, hD9⟩, hS.F ht⟩) hS.2.2 dX7_isOn_62
  have b9_26 : zlt ((i + 1)) := show (i + 1) < 2147483648 by omega
  have b9_27 : zlt (n) := show n < 2147483648 by omega
  refine lv_icmp_ge (tgt := 16) hx hb dX7_isOn_7 rfl (fun c_25 => ?_) (fun c_25 => ?_)
  · have c_25 : ((n : Nat) : Int) ≤ ((i + 1 : Nat) : Int) := zc_le (nI_toInt b9_27) (nI_toInt b9_26) c_25
    refine lv_iconst (v := 0) hx hb dX7_isOn_16 rfl ?_
    refine zz_i (v := nI (nxt n i)) (by first | (rw [nxt, if_pos (by omega)]) | (rw [nxt, if_neg (by omega)]; first | done | rfl)) ?_
    exact hj_1 
  · have c_25 : ((i + 1 : Nat) : Int) < ((n : Nat) : Int) := zc_nle (nI_toInt b9_27) (nI_toInt b9_26) c_25
    refine lv_iload_n hx hb dX7_isOn_10 rfl (lv_at hl 1 rfl) ?_
    refine lv_iconst (v := 1) hx hb dX7_isOn_11 rfl ?_
    refine lv_iadd hx hb dX7_isOn_12 ?_
    refine zz_i (v := nI (i + 1)) (nI_add i 1) ?_
    refine lv_goto (tgt := 17) hx hb dX7_isOn_13 rfl ?_
    refine zz_i (v := nI (nxt n i)) (by first | (rw [nxt, if_pos (by omega)]) | (rw [nxt, if_neg (by omega)]; first | done | rfl)) ?_
    exact hj_1 
set_option maxHeartbeats 4000000 in
set_option maxRecDepth 100000 in
theorem k_Row_isOnSet (l : Launch) (dC : Nat → ClassId) (dI : Nat → Nat → Nat) (cI cZ cF : ClassId) (sz : Nat) (r : Nat) (rx : Nat) (ry : Nat) (n : Nat) (cap : Nat) (X : Nat → Int32) (Y : Nat → Int32) (rg : Int32) (px : Int32) (py : Int32) (hn : n ≤ cap) (hcap : cap ≤ 1000) (hp : pls n X Y) (hpx : pl px) (hpy : pl py) : zM l yX7_isOnSet cX7_isOnSet 4 (some .boolean) ({ frames := 2, cells := 0, slots := 0, locals := 48 } : Room) [.ref r, .int px, .int py] (dC, dI) (zTy cI cZ cF) [(oc6 r (.ref rx) (.ref ry) (nI n) rg), (oa rx cI cap X), (oa ry cI cap Y)] sz (some (.int (pI (∃ i, i < prt n rg ∧ eOn n X Y i px.toInt py.toInt)))) (fun A t => zPD (dC, dI) classes A [(oc6 r (.ref rx) (.ref ry) (nI n) rg), (oa rx cI cap X), (oa ry cI cap Y)] t.heap) 0 0 := by
  refine zIn (own := "ScaleShop$Row") (loc := [(0, .ref r), (1, .int px), (2, .int py)]) rfl rfl rfl rfl (fun p e s m below meth c hx hb hr hts hown hlocks hml hnm9 A hA hS hP hD hK hXN Q9 hQ9 ls hl => ?_)
  have hpr := prt_le n rg
  refine lv_iconst (v := 0) hx hb dX7_isOnSet_0 rfl ?_
  refine lv_istore_n (lv' := [(3, .int 0), (0, .ref r), (1, .int px), (2, .int py)]) hx hb dX7_isOnSet_1 rfl hl (Nat.le_of_ble_eq_true rfl) rfl (fun ls hl => ?_)
  have hl_2 : ∀ (n9 : Nat) (i : Nat) (H : Heap) (locs : List Loc) (ls : Array Slot), prt n rg - i < n9 → (i ≤ prt n rg) → (∀ k, k < i → ¬ eOn n X Y k px.toInt py.toInt) → va_P (dC, dI) classes [(oc6 r (.ref rx) (.ref ry) (nI n) rg), (oa rx cI cap X), (oa ry cI cap Y)] H → va_D A [(oc6 r (.ref rx) (.ref ry) (nI n) rg), (oa rx cI cap X), (oa ry cI cap Y)] → va_S A s.heap H locs → lv_has ls 4 [(3, .int (nI i)), (0, .ref r), (1, .int px), (2, .int py)] → W p l e ({ frames := 2, cells := 0, slots := 0, locals := 48 } : Room) s m ([.ref r, .int px, .int py] : List Value).toArray below meth c H locs 0 0 Q9 (F0 m 2 ls []) := by
    intro n9
    induction n9 with
    | zero => intro i H locs ls hm; exact absurd hm (Nat.not_lt_zero _)
    | succ n9 ih_2 =>
      intro i H locs ls hm hi hno hP hD hS hl
      have hpr := prt_le n rg
      refine lv_iload_n hx hb dX7_isOnSet_2 rfl (lv_at hl 0 rfl) ?_
      refine lv_aload_n hx hb dX7_isOnSet_3 rfl (lv_at hl 1 rfl) ?_
      obtain ⟨hPc, hDc, hFc, hI1⟩ := zi_sub (wc := [_, _, _]) hP hD hS hA [0, 1, 2] rfl rfl
      refine zcall (st1 := [.int (nI (prt n rg)), .int (nI i)]) (va_runV (As := []) (rest := [.int (nI i)]) ⟨hx, hb, hml, hown, hts⟩ (k_Row_parts l dC dI cI cZ cF H.size r rx ry n cap X Y rg (by first | with_reducible assumption | omega) (by first | with_reducible assumption | omega)) (csV_2 hts rfl rfl ⟨Nat.le_of_ble_eq_true rfl, Nat.le_of_ble_eq_true rfl⟩) (zPV2 (q0 := 0) (ci := 6) hPc hDc hK hXN rfl rfl) rfl rfl hl.1 rfl (lv_room (Nat.le_of_ble_eq_true rfl)) dX7_isOnSet_4 ⟨Nat.le_of_ble_eq_true rfl, Nat.le_of_ble_eq_true rfl⟩) hS hFc hFc rfl (fun t H locs ht hB hk1 hS => ?_)
      obtain ⟨hP1, hD1⟩ := hB
      rw [ht] at hP1
      replace hP := z0 hP hD hk1 hP1 hI1
      clear hk1 hPc hDc hFc hP1 hD1 ht hI1
      have b9_2 : zlt (i) := show i < 2147483648 by omega
      have b9_3 : zlt ((prt n rg)) := show (prt n rg) < 2147483648 by omega
      refine lv_icmp_ge (tgt := 28) hx hb dX7_isOnSet_7 rfl (fun c_1 => ?_) (fun c_1 => ?_)
      · have c_1 : ((prt n rg : Nat) : Int) ≤ ((i : Nat) : Int) := zc_le (nI_toInt b9_3) (nI_toInt b9_2) c_1
        refine lv_iconst (v := 0) hx hb dX7_isOnSet_28 rfl ?_
        obtain ⟨hP9, hD9⟩ := zu_sub (wc := [_, _, _]) hP hD [true, true, true] rfl rfl
        rw [hQ9]
        exact W.zret (ty := .boolean) (v := 0) hx hb hr (rfl) (fun t ht hW => ⟨⟨congrArg (fun z => Outcome.returned (some (Value.int z))) (show (0 : Int32) = pI (∃ i, i < prt n rg ∧ eOn n X Y i px.toInt py.toInt) from (zp_f (fun ⟨k, hk, h⟩ => hno k (by omega) h)).symm), by rw [ht]; exact hP9, hD9⟩, hS.F ht⟩) hS.2.2 dX7_isOnSet_29
      · have c_1 : ((i : Nat) : Int) < ((prt n rg : Nat) : Int) := zc_nle (nI_toInt b9_3) (nI_toInt b9_2) c_1
        refine lv_aload_n hx hb dX7_isOnSet_10 rfl (lv_at hl 1 rfl) ?_
        refine lv_iload_n hx hb dX7_isOnSet_11 rfl (lv_at hl 0 rfl) ?_
        refine lv_iload_n hx hb dX7_isOnSet_12 rfl (lv_at hl 2 rfl) ?_
        refine lv_iload_n hx hb dX7_isOnSet_13 rfl (lv_at hl 3 rfl) ?_
        obtain ⟨hPc, hDc, hFc, hI1⟩ := zi_sub (wc := [_, _, _]) hP hD hS hA [0, 1, 2] rfl rfl
        refine zcall (st1 := [.int (pI (eOn n X Y i px.toInt py.toInt))]) (va_runV (As := [.int (nI i), .int px, .int py]) (rest := []) ⟨hx, hb, hml, hown, hts⟩ (k_Row_isOn l dC dI cI cZ cF H.size r rx ry n cap X Y rg i px py (by first | with_reducible assumption | omega) (by first | with_reducible assumption | omega) (by first | with_reducible assumption | assumption) (by first | with_reducible assumption | omega) (by first | with_reducible assumption | assumption) (by first | with_reducible assumption | assumption)) (csV_3 hts rfl rfl ⟨Nat.le_of_ble_eq_true rfl, Nat.le_of_ble_eq_true rfl⟩) (zPV2 (q0 := 0) (ci := 6) hPc hDc hK hXN rfl rfl) rfl rfl hl.1 rfl (lv_room (Nat.le_of_ble_eq_true rfl)) dX7_isOnSet_14 ⟨Nat.le_of_ble_eq_true rfl, Nat.le_of_ble_eq_true rfl⟩) hS hFc hFc rfl (fun t H locs ht hB hk1 hS => ?_)
        obtain ⟨hP1, hD1⟩ := hB
        rw [ht] at hP1
        replace hP := z0 hP hD hk1 hP1 hI1
        clear hk1 hPc hDc hFc hP1 hD1 ht hI1
        refine lv_if_eq (tgt := 22) hx hb dX7_isOnSet_17 rfl (fun c_4 => ?_) (fun c_4 => ?_)
        · have c_4 : ¬ (eOn n X Y i px.toInt py.toInt) := zp_0 c_4
          refine lv_iinc (v := nI (i + 1)) (lv' := [(3, .int (nI (i + 1))), (0, .ref r), (1, .int px), (2, .int py)]) hx hb dX7_isOnSet_22 hl (k := 0) rfl (nI_add i 1) (Nat.le_of_ble_eq_true rfl) rfl (fun ls hl => ?_)
          refine lv_goto (tgt := 2) hx hb dX7_isOnSet_25 rfl ?_
          exact ih_2 (i + 1) H locs ls (by first | with_reducible assumption | omega) (by first | with_reducible assumption | omega) (by intro k hk; rcases Nat.lt_or_ge k i with h | h; exact hno k h; have e9 : k = i := (by first | with_reducible assumption | omega); subst e9; assumption) hP hD hS (lv_sub hl [0, 1, 2, 3] rfl)
        · have c_4 : eOn n X Y i px.toInt py.toInt := zp_1 c_4
          refine lv_iconst (v := 1) hx hb dX7_isOnSet_20 rfl ?_
          obtain ⟨hP9, hD9⟩ := zu_sub (wc := [_, _, _]) hP hD [true, true, true] rfl rfl
          rw [hQ9]
          exact W.zret (ty := .boolean) (v := 1) hx hb hr (rfl) (fun t ht hW => ⟨⟨congrArg (fun z => Outcome.returned (some (Value.int z))) (show (1 : Int32) = pI (∃ i, i < prt n rg ∧ eOn n X Y i px.toInt py.toInt) from (zp_t (⟨i, by omega, by assumption⟩)).symm), by rw [ht]; exact hP9, hD9⟩, hS.F ht⟩) hS.2.2 dX7_isOnSet_21
  exact hl_2 _ 0 s.heap [] ls (Nat.lt_succ_self _) (by first | with_reducible assumption | omega) (by intro k hk; omega) hP hD hS (lv_sub hl [0, 1, 2, 3] rfl)
set_option maxHeartbeats 4000000 in
set_option maxRecDepth 100000 in
theorem k_Row_isCorner (l : Launch) (dC : Nat → ClassId) (dI : Nat → Nat → Nat) (cI cZ cF : ClassId) (sz : Nat) (r : Nat) (rx : Nat) (ry : Nat) (n : Nat) (cap : Nat) (X : Nat → Int32) (Y : Nat → Int32) (rg : Int32) (i : Nat) (px : Int32) (py : Int32) (hn : n ≤ cap) (hcap : cap ≤ 1000) (hi : i < n) : zM l yX7_isCorner cX7_isCorner 4 (some .boolean) ({ frames := 0, cells := 0, slots := 0, locals := 0 } : Room) [.ref r, .int (nI i), .int px, .int py] (dC, dI) (zTy cI cZ cF) [(oc6 r (.ref rx) (.ref ry) (nI n) rg), (oa rx cI cap X), (oa ry cI cap Y)] sz (some (.int (pI ((X i).toInt = px.toInt ∧ (Y i).toInt = py.toInt)))) (fun A t => zPD (dC, dI) classes A [(oc6 r (.ref rx) (.ref ry) (nI n) rg), (oa rx cI cap X), (oa ry cI cap Y)] t.heap) 0 0 := by
  refine zIn (own := "ScaleShop$Row") (loc := [(0, .ref r), (1, .int (nI i)), (2, .int px), (3, .int py)]) rfl rfl rfl rfl (fun p e s m below meth c hx hb hr hts hown hlocks hml hnm9 A hA hS hP hD hK hXN Q9 hQ9 ls hl => ?_)
  refine lv_aload_n hx hb dX7_isCorner_0 rfl (lv_at hl 0 rfl) ?_
  refine va_get (D := (dC, dI)) (ci := 6) (v := .ref rx) (C := RX7) (T := TX7) (N := 4) hx hb hts inX7 hown hK hP 0 rfl rfl 0 (Nat.le_of_ble_eq_true rfl) (hts _ mw_161) (fun _ h9 => h9) rfl dX7_isCorner_1 ?_
  refine lv_iload_n hx hb dX7_isCorner_4 rfl (lv_at hl 1 rfl) ?_
  have b9_1 : i < cap := by omega
  have b9_2 : zlt (cap) := show cap < 2147483648 by omega
  refine z_iald hx hb hK hP 1 0 rfl rfl (e := i) rfl b9_1 b9_2 dX7_isCorner_5 ?_
  refine lv_iload_n hx hb dX7_isCorner_6 rfl (lv_at hl 2 rfl) ?_
  refine lv_icmp_ne (tgt := 24) hx hb dX7_isCorner_7 rfl (fun c_3 => ?_) (fun c_3 => ?_)
  · have c_3 : ¬ (X i).toInt = px.toInt := zc_ne rfl rfl c_3
    refine lv_iconst (v := 0) hx hb dX7_isCorner_24 rfl ?_
    obtain ⟨hP9, hD9⟩ := zu_sub (wc := [_, _, _]) hP hD [true, true, true] rfl rfl
    rw [hQ9]
    exact W.zret (ty := .boolean) (v := 0) hx hb hr (rfl) (fun t ht hW => ⟨⟨congrArg (fun z => Outcome.returned (some (Value.int z))) (show (0 : Int32) = pI ((X i).toInt = px.toInt ∧ (Y i).toInt = py.toInt) from (zp_f (by omega)).symm), by rw [ht]; exact hP9, hD9⟩, hS.F ht⟩) hS.2.2 dX7_isCorner_25
  · have c_3 : (X i).toInt = px.toInt := zc_eq rfl rfl c_3
    refine lv_aload_n hx hb dX7_isCorner_10 rfl (lv_at hl 0 rfl) ?_
    refine va_get (D := (dC, dI)) (ci := 6) (v := .ref ry) (C := RX7) (T := TX7) (N := 4) hx hb hts inX7 hown hK hP 0 rfl rfl 1 (Nat.le_of_ble_eq_true rfl) (hts _ mw_168) (fun _ h9 => h9) rfl dX7_isCorner_11 ?_
    refine lv_iload_n hx hb dX7_isCorner_14 rfl (lv_at hl 1 rfl) ?_
    refine z_iald hx hb hK hP 2 0 rfl rfl (e := i) rfl b9_1 b9_2 dX7_isCorner_15 ?_
    refine lv_iload_n hx hb dX7_isCorner_16 rfl (lv_at hl 3 rfl) ?_
    refine lv_icmp_ne (tgt := 24) hx hb dX7_isCorner_17 rfl (fun c_4 => ?_) (fun c_4 => ?_)
    · have c_4 : ¬ (Y i).toInt = py.toInt := zc_ne rfl rfl c_4
      refine lv_iconst (v := 0) hx hb dX7_isCorner_24 rfl ?_
      obtain ⟨hP9, hD9⟩ := zu_sub (wc := [_, _, _]) hP hD [true, true, true] rfl rfl
      rw [hQ9]
      exact W.zret (ty := .boolean) (v := 0) hx hb hr (rfl) (fun t ht hW => ⟨⟨congrArg (fun z => Outcome.returned (some (Value.int z))) (show (0 : Int32) = pI ((X i).toInt = px.toInt ∧ (Y i).toInt = py.toInt) from (zp_f (by omega)).symm), by rw [ht]; exact hP9, hD9⟩, hS.F ht⟩) hS.2.2 dX7_isCorner_25
    · have c_4 : (Y i).toInt = py.toInt := zc_eq rfl rfl c_4
      refine lv_iconst (v := 1) hx hb dX7_isCorner_20 rfl ?_
      refine lv_goto (tgt := 25) hx hb dX7_isCorner_21 rfl ?_
      obtain ⟨hP9, hD9⟩ := zu_sub (wc := [_, _, _]) hP hD [true, true, true] rfl rfl
      rw [hQ9]
      exact W.zret (ty := .boolean) (v := 1) hx hb hr (rfl) (fun t ht hW => ⟨⟨congrArg (fun z => Outcome.returned (some (Value.int z))) (show (1 : Int32) = pI ((X i).toInt = px.toInt ∧ (Y i).toInt = py.toInt) from (zp_t (by omega)).symm), by rw [ht]; exact hP9, hD9⟩, hS.F ht⟩) hS.2.2 dX7_isCorner_25
set_option maxHeartbeats 4000000 in
set_option maxRecDepth 100000 in
theorem k_Row_partsMeet (l : Launch) (dC : Nat → ClassId) (dI : Nat → Nat → Nat) (cI cZ cF : ClassId) (sz : Nat) (r : Nat) (rx : Nat) (ry : Nat) (n : Nat) (cap : Nat) (X : Nat → Int32) (Y : Nat → Int32) (rg : Int32) (u : Nat) (ux : Nat) (uy : Nat) (m2 : Nat) (cap2 : Nat) (U : Nat → Int32) (V : Nat → Int32) (rh : Int32) (i : Nat) (j : Nat) (hn : n ≤ cap) (hcap : cap ≤ 1000) (hp : pls n X Y) (hm : m2 ≤ cap2) (hcap2 : cap2 ≤ 1000) (hq : pls m2 U V) (hi : i < n) (hj : j < m2) : zM l yX7_partsMeet cX7_partsMeet 18 (some .boolean) ({ frames := 0, cells := 0, slots := 0, locals := 0 } : Room) [.ref r, .int (nI i), .ref u, .int (nI j)] (dC, dI) (zTy cI cZ cF) [(oc6 r (.ref rx) (.ref ry) (nI n) rg), (oa rx cI cap X), (oa ry cI cap Y), (oc6 u (.ref ux) (.ref uy) (nI m2) rh), (oa ux cI cap2 U), (oa uy cI cap2 V)] sz (some (.int (pI (eMt n X Y i m2 U V j)))) (fun A t => zPD (dC, dI) classes A [(oc6 r (.ref rx) (.ref ry) (nI n) rg), (oa rx cI cap X), (oa ry cI cap Y), (oc6 u (.ref ux) (.ref uy) (nI m2) rh), (oa ux cI cap2 U), (oa uy cI cap2 V)] t.heap) 0 0 := by
  refine zIn (own := "ScaleShop$Row") (loc := [(0, .ref r), (1, .int (nI i)), (2, .ref u), (3, .int (nI j))]) rfl rfl rfl rfl (fun p e s m below meth c hx hb hr hts hown hlocks hml hnm9 A hA hS hP hD hK hXN Q9 hQ9 ls hl => ?_)
  refine lv_iload_n hx hb dX7_partsMeet_0 rfl (lv_at hl 1 rfl) ?_
  refine lv_iconst (v := 1) hx hb dX7_partsMeet_1 rfl ?_
  refine lv_iadd hx hb dX7_partsMeet_2 ?_
  refine zz_i (v := nI (i + 1)) (nI_add i 1) ?_
  refine lv_aload_n hx hb dX7_partsMeet_3 rfl (lv_at hl 0 rfl) ?_
  refine va_get (D := (dC, dI)) (ci := 6) (v := .int (nI n)) (C := RX7) (T := TX7) (N := 4) hx hb hts inX7 hown hK hP 0 rfl rfl 2 (Nat.le_of_ble_eq_true rfl) (hts _ mw_175) (fun _ h9 => h9) rfl dX7_partsMeet_4 ?_
  have hj_1 : W p l e ({ frames := 0, cells := 0, slots := 0, locals := 0 } : Room) s m ([.ref r, .int (nI i), .ref u, .int (nI j)] : List Value).toArray below meth c s.heap [] 0 0 Q9 (F0 m 17 ls [.int (nI (nxt n i))]) := by
    have hnx := nxt_lt (n := n) (i := i) (by omega)
    refine lv_istore (lv' := [(4, .int (nI (nxt n i))), (0, .ref r), (1, .int (nI i)), (2, .ref u), (3, .int (nI j))]) hx hb dX7_partsMeet_17 hl (Nat.le_of_ble_eq_true rfl) rfl (fun ls hl => ?_)
    refine lv_iload_n hx hb dX7_partsMeet_19 rfl (lv_at hl 4 rfl) ?_
    refine lv_iconst (v := 1) hx hb dX7_partsMeet_20 rfl ?_
    refine lv_iadd hx hb dX7_partsMeet_21 ?_
    refine zz_i (v := nI (j + 1)) (nI_add j 1) ?_
    refine lv_aload_n hx hb dX7_partsMeet_22 rfl (lv_at hl 3 rfl) ?_
    refine va_get (D := (dC, dI)) (ci := 6) (v := .int (nI m2)) (C := RX7) (T := TX7) (N := 4) hx hb hts inX7 hown hK hP 3 rfl rfl 2 (Nat.le_of_ble_eq_true rfl) (hts _ mw_175) (fun _ h9 => h9) rfl dX7_partsMeet_23 ?_
    have hj_2 : W p l e ({ frames := 0, cells := 0, slots := 0, locals := 0 } : Room) s m ([.ref r, .int (nI i), .ref u, .int (nI j)] : List Value).toArray below meth c s.heap [] 0 0 Q9 (F0 m 36 ls [.int (nI (nxt m2 j))]) := by
      have hnj := nxt_lt (n := m2) (i := j) (by omega)
      refine lv_istore (lv' := [(5, .int (nI (nxt m2 j))), (4, .int (nI (nxt n i))), (0, .ref r), (1, .int (nI i)), (2, .ref u), (3, .int (nI j))]) hx hb dX7_partsMeet_36 hl (Nat.le_of_ble_eq_true rfl) rfl (fun ls hl => ?_)
      refine lv_aload_n hx hb dX7_partsMeet_38 rfl (lv_at hl 2 rfl) ?_
      refine va_get (D := (dC, dI)) (ci := 6) (v := .ref rx) (C := RX7) (T := TX7) (N := 4) hx hb hts inX7 hown hK hP 0 rfl rfl 0 (Nat.le_of_ble_eq_true rfl) (hts _ mw_161) (fun _ h9 => h9) rfl dX7_partsMeet_39 ?_
      refine lv_iload_n hx hb dX7_partsMeet_42 rfl (lv_at hl 3 rfl) ?_
      have b9_3 : i < cap := by omega
      have b9_4 : zlt (cap) := show cap < 2147483648 by omega
      refine z_iald hx hb hK hP 1 0 rfl rfl (e := i) rfl b9_3 b9_4 dX7_partsMeet_43 ?_
      refine lv_istore (lv' := [(6, .int (X i)), (5, .int (nI (nxt m2 j))), (4, .int (nI (nxt n i))), (0, .ref r), (1, .int (nI i)), (2, .ref u), (3, .int (nI j))]) hx hb dX7_partsMeet_44 hl (Nat.le_of_ble_eq_true rfl) rfl (fun ls hl => ?_)
      refine lv_aload_n hx hb dX7_partsMeet_46 rfl (lv_at hl 3 rfl) ?_
      refine va_get (D := (dC, dI)) (ci := 6) (v := .ref ry) (C := RX7) (T := TX7) (N := 4) hx hb hts inX7 hown hK hP 0 rfl rfl 1 (Nat.le_of_ble_eq_true rfl) (hts _ mw_168) (fun _ h9 => h9) rfl dX7_partsMeet_47 ?_
      refine lv_iload_n hx hb dX7_partsMeet_50 rfl (lv_at hl 4 rfl) ?_
      refine z_iald hx hb hK hP 2 0 rfl rfl (e := i) rfl b9_3 b9_4 dX7_partsMeet_51 ?_
      refine lv_istore (lv' := [(7, .int (Y i)), (6, .int (X i)), (5, .int (nI (nxt m2 j))), (4, .int (nI (nxt n i))), (0, .ref r), (1, .int (nI i)), (2, .ref u), (3, .int (nI j))]) hx hb dX7_partsMeet_52 hl (Nat.le_of_ble_eq_true rfl) rfl (fun ls hl => ?_)
      refine lv_aload_n hx hb dX7_partsMeet_54 rfl (lv_at hl 4 rfl) ?_
      refine va_get (D := (dC, dI)) (ci := 6) (v := .ref rx) (C := RX7) (T := TX7) (N := 4) hx hb hts inX7 hown hK hP 0 rfl rfl 0 (Nat.le_of_ble_eq_true rfl) (hts _ mw_161) (fun _ h9 => h9) rfl dX7_partsMeet_55 ?_
      refine lv_iload hx hb dX7_partsMeet_58 (lv_at hl 3 rfl) ?_
      have b9_5 : nxt n i < cap := by omega
      refine z_iald hx hb hK hP 1 0 rfl rfl (e := nxt n i) rfl b9_5 b9_4 dX7_partsMeet_60 ?_
      refine lv_istore (lv' := [(8, .int (X (nxt n i))), (7, .int (Y i)), (6, .int (X i)), (5, .int (nI (nxt m2 j))), (4, .int (nI (nxt n i))), (0, .ref r), (1, .int (nI i)), (2, .ref u), (3, .int (nI j))]) hx hb dX7_partsMeet_61 hl (Nat.le_of_ble_eq_true rfl) rfl (fun ls hl => ?_)
      refine lv_aload_n hx hb dX7_partsMeet_63 rfl (lv_at hl 5 rfl) ?_
      refine va_get (D := (dC, dI)) (ci := 6) (v := .ref ry) (C := RX7) (T := TX7) (N := 4) hx hb hts inX7 hown hK hP 0 rfl rfl 1 (Nat.le_of_ble_eq_true rfl) (hts _ mw_168) (fun _ h9 => h9) rfl dX7_partsMeet_64 ?_
      refine lv_iload hx hb dX7_partsMeet_67 (lv_at hl 4 rfl) ?_
      refine z_iald hx hb hK hP 2 0 rfl rfl (e := nxt n i) rfl b9_5 b9_4 dX7_partsMeet_69 ?_
      refine lv_istore (lv' := [(9, .int (Y (nxt n i))), (8, .int (X (nxt n i))), (7, .int (Y i)), (6, .int (X i)), (5, .int (nI (nxt m2 j))), (4, .int (nI (nxt n i))), (0, .ref r), (1, .int (nI i)), (2, .ref u), (3, .int (nI j))]) hx hb dX7_partsMeet_70 hl (Nat.le_of_ble_eq_true rfl) rfl (fun ls hl => ?_)
      refine lv_aload_n hx hb dX7_partsMeet_72 rfl (lv_at hl 8 rfl) ?_
      refine va_get (D := (dC, dI)) (ci := 6) (v := .ref ux) (C := RX7) (T := TX7) (N := 4) hx hb hts inX7 hown hK hP 3 rfl rfl 0 (Nat.le_of_ble_eq_true rfl) (hts _ mw_161) (fun _ h9 => h9) rfl dX7_partsMeet_73 ?_
      refine lv_iload_n hx hb dX7_partsMeet_76 rfl (lv_at hl 9 rfl) ?_
      have b9_6 : j < cap2 := by omega
      have b9_7 : zlt (cap2) := show cap2 < 2147483648 by omega
      refine z_iald hx hb hK hP 4 0 rfl rfl (e := j) rfl b9_6 b9_7 dX7_partsMeet_77 ?_
      refine lv_istore (lv' := [(10, .int (U j)), (9, .int (Y (nxt n i))), (8, .int (X (nxt n i))), (7, .int (Y i)), (6, .int (X i)), (5, .int (nI (nxt m2 j))), (4, .int (nI (nxt n i))), (0, .ref r), (1, .int (nI i)), (2, .ref u), (3, .int (nI j))]) hx hb dX7_partsMeet_78 hl (Nat.le_of_ble_eq_true rfl) rfl (fun ls hl => ?_)
      refine lv_aload_n hx hb dX7_partsMeet_80 rfl (lv_at hl 9 rfl) ?_
      refine va_get (D := (dC, dI)) (ci := 6) (v := .ref uy) (C := RX7) (T := TX7) (N := 4) hx hb hts inX7 hown hK hP 3 rfl rfl 1 (Nat.le_of_ble_eq_true rfl) (hts _ mw_168) (fun _ h9 => h9) rfl dX7_partsMeet_81 ?_
      refine lv_iload_n hx hb dX7_partsMeet_84 rfl (lv_at hl 10 rfl) ?_
      refine z_iald hx hb hK hP 5 0 rfl rfl (e := j) rfl b9_6 b9_7 dX7_partsMeet_85 ?_
      refine lv_istore (lv' := [(11, .int (V j)), (10, .int (U j)), (9, .int (Y (nxt n i))), (8, .int (X (nxt n i))), (7, .int (Y i)), (6, .int (X i)), (5, .int (nI (nxt m2 j))), (4, .int (nI (nxt n i))), (0, .ref r), (1, .int (nI i)), (2, .ref u), (3, .int (nI j))]) hx hb dX7_partsMeet_86 hl (Nat.le_of_ble_eq_true rfl) rfl (fun ls hl => ?_)
      refine lv_aload_n hx hb dX7_partsMeet_88 rfl (lv_at hl 10 rfl) ?_
      refine va_get (D := (dC, dI)) (ci := 6) (v := .ref ux) (C := RX7) (T := TX7) (N := 4) hx hb hts inX7 hown hK hP 3 rfl rfl 0 (Nat.le_of_ble_eq_true rfl) (hts _ mw_161) (fun _ h9 => h9) rfl dX7_partsMeet_89 ?_
      refine lv_iload hx hb dX7_partsMeet_92 (lv_at hl 6 rfl) ?_
      have b9_8 : nxt m2 j < cap2 := by omega
      refine z_iald hx hb hK hP 4 0 rfl rfl (e := nxt m2 j) rfl b9_8 b9_7 dX7_partsMeet_94 ?_
      refine lv_istore (lv' := [(12, .int (U (nxt m2 j))), (11, .int (V j)), (10, .int (U j)), (9, .int (Y (nxt n i))), (8, .int (X (nxt n i))), (7, .int (Y i)), (6, .int (X i)), (5, .int (nI (nxt m2 j))), (4, .int (nI (nxt n i))), (0, .ref r), (1, .int (nI i)), (2, .ref u), (3, .int (nI j))]) hx hb dX7_partsMeet_95 hl (Nat.le_of_ble_eq_true rfl) rfl (fun ls hl => ?_)
      refine lv_aload_n hx hb dX7_partsMeet_97 rfl (lv_at hl 11 rfl) ?_
      refine va_get (D := (dC, dI)) (ci := 6) (v := .ref uy) (C := RX7) (T := TX7) (N := 4) hx hb hts inX7 hown hK hP 3 rfl rfl 1 (Nat.le_of_ble_eq_true rfl) (hts _ mw_168) (fun _ h9 => h9) rfl dX7_partsMeet_98 ?_
      refine lv_iload hx hb dX7_partsMeet_101 (lv_at hl 7 rfl) ?_
      refine z_iald hx hb hK hP 5 0 rfl rfl (e := nxt m2 j) rfl b9_8 b9_7 dX7_partsMeet_103 ?_
      refine lv_istore (lv' := [(13, .int (V (nxt m2 j))), (12, .int (U (nxt m2 j))), (11, .int (V j)), (10, .int (U j)), (9, .int (Y (nxt n i))), (8, .int (X (nxt n i))), (7, .int (Y i)), (6, .int (X i)), (5, .int (nI (nxt m2 j))), (4, .int (nI (nxt n i))), (0, .ref r), (1, .int (nI i)), (2, .ref u), (3, .int (nI j))]) hx hb dX7_partsMeet_104 hl (Nat.le_of_ble_eq_true rfl) rfl (fun ls hl => ?_)
      have hj_9 : (¬ (((X i).toInt < (U j).toInt ∧ (X (nxt n i)).toInt < (U j).toInt ∧ (X i).toInt < (U (nxt m2 j)).toInt ∧ (X (nxt n i)).toInt < (U (nxt m2 j)).toInt) ∨ ((U j).toInt < (X i).toInt ∧ (U j).toInt < (X (nxt n i)).toInt ∧ (U (nxt m2 j)).toInt < (X i).toInt ∧ (U (nxt m2 j)).toInt < (X (nxt n i)).toInt))) → W p l e ({ frames := 0, cells := 0, slots := 0, locals := 0 } : Room) s m ([.ref r, .int (nI i), .ref u, .int (nI j)] : List Value).toArray below meth c s.heap [] 0 0 Q9 (F0 m 164 ls []) := by
        intro hbx
        have hj_10 : (¬ (((Y i).toInt < (V j).toInt ∧ (Y (nxt n i)).toInt < (V j).toInt ∧ (Y i).toInt < (V (nxt m2 j)).toInt ∧ (Y (nxt n i)).toInt < (V (nxt m2 j)).toInt) ∨ ((V j).toInt < (Y i).toInt ∧ (V j).toInt < (Y (nxt n i)).toInt ∧ (V (nxt m2 j)).toInt < (Y i).toInt ∧ (V (nxt m2 j)).toInt < (Y (nxt n i)).toInt))) → W p l e ({ frames := 0, cells := 0, slots := 0, locals := 0 } : Room) s m ([.ref r, .int (nI i), .ref u, .int (nI j)] : List Value).toArray below meth c s.heap [] 0 0 Q9 (F0 m 222 ls []) := by
          intro hby
          refine lv_iload hx hb dX7_partsMeet_222 (lv_at hl 5 rfl) ?_
          refine lv_iload hx hb dX7_partsMeet_224 (lv_at hl 7 rfl) ?_
          refine lv_isub hx hb dX7_partsMeet_226 ?_
          refine lv_iload hx hb dX7_partsMeet_227 (lv_at hl 2 rfl) ?_
          refine lv_iload hx hb dX7_partsMeet_229 (lv_at hl 6 rfl) ?_
          refine lv_isub hx hb dX7_partsMeet_231 ?_
          refine lv_imul hx hb dX7_partsMeet_232 ?_
          refine lv_iload hx hb dX7_partsMeet_233 (lv_at hl 4 rfl) ?_
          refine lv_iload hx hb dX7_partsMeet_235 (lv_at hl 6 rfl) ?_
          refine lv_isub hx hb dX7_partsMeet_237 ?_
          refine lv_iload hx hb dX7_partsMeet_238 (lv_at hl 3 rfl) ?_
          refine lv_iload hx hb dX7_partsMeet_240 (lv_at hl 7 rfl) ?_
          refine lv_isub hx hb dX7_partsMeet_242 ?_
          refine lv_imul hx hb dX7_partsMeet_243 ?_
          refine lv_isub hx hb dX7_partsMeet_244 ?_
          refine zz_i (v := iI (cr (X i).toInt (Y i).toInt (X (nxt n i)).toInt (Y (nxt n i)).toInt (U j).toInt (V j).toInt)) (crI (hp i hi).1 (hp i hi).2 (hp _ hnx).1 (hp _ hnx).2 (hq j hj).1 (hq j hj).2) ?_
          have hB1 := crBp (hp i hi).1 (hp i hi).2 (hp _ hnx).1 (hp _ hnx).2 (hq j hj).1 (hq j hj).2
          refine lv_istore (lv' := [(14, .int (iI (cr (X i).toInt (Y i).toInt (X (nxt n i)).toInt (Y (nxt n i)).toInt (U j).toInt (V j).toInt))), (13, .int (V (nxt m2 j))), (12, .int (U (nxt m2 j))), (11, .int (V j)), (10, .int (U j)), (9, .int (Y (nxt n i))), (8, .int (X (nxt n i))), (7, .int (Y i)), (6, .int (X i)), (5, .int (nI (nxt m2 j))), (4, .int (nI (nxt n i))), (0, .ref r), (1, .int (nI i)), (2, .ref u), (3, .int (nI j))]) hx hb dX7_partsMeet_245 hl (Nat.le_of_ble_eq_true rfl) rfl (fun ls hl => ?_)
          refine lv_iload hx hb dX7_partsMeet_247 (lv_at hl 6 rfl) ?_
          refine lv_iload hx hb dX7_partsMeet_249 (lv_at hl 8 rfl) ?_
          refine lv_isub hx hb dX7_partsMeet_251 ?_
          refine lv_iload hx hb dX7_partsMeet_252 (lv_at hl 1 rfl) ?_
          refine lv_iload hx hb dX7_partsMeet_254 (lv_at hl 7 rfl) ?_
          refine lv_isub hx hb dX7_partsMeet_256 ?_
          refine lv_imul hx hb dX7_partsMeet_257 ?_
          refine lv_iload hx hb dX7_partsMeet_258 (lv_at hl 5 rfl) ?_
          refine lv_iload hx hb dX7_partsMeet_260 (lv_at hl 7 rfl) ?_
          refine lv_isub hx hb dX7_partsMeet_262 ?_
          refine lv_iload hx hb dX7_partsMeet_263 (lv_at hl 2 rfl) ?_
          refine lv_iload hx hb dX7_partsMeet_265 (lv_at hl 8 rfl) ?_
          refine lv_isub hx hb dX7_partsMeet_267 ?_
          refine lv_imul hx hb dX7_partsMeet_268 ?_
          refine lv_isub hx hb dX7_partsMeet_269 ?_
          refine zz_i (v := iI (cr (X i).toInt (Y i).toInt (X (nxt n i)).toInt (Y (nxt n i)).toInt (U (nxt m2 j)).toInt (V (nxt m2 j)).toInt)) (crI (hp i hi).1 (hp i hi).2 (hp _ hnx).1 (hp _ hnx).2 (hq _ hnj).1 (hq _ hnj).2) ?_
          have hB2 := crBp (hp i hi).1 (hp i hi).2 (hp _ hnx).1 (hp _ hnx).2 (hq _ hnj).1 (hq _ hnj).2
          refine lv_istore (lv' := [(15, .int (iI (cr (X i).toInt (Y i).toInt (X (nxt n i)).toInt (Y (nxt n i)).toInt (U (nxt m2 j)).toInt (V (nxt m2 j)).toInt))), (14, .int (iI (cr (X i).toInt (Y i).toInt (X (nxt n i)).toInt (Y (nxt n i)).toInt (U j).toInt (V j).toInt))), (13, .int (V (nxt m2 j))), (12, .int (U (nxt m2 j))), (11, .int (V j)), (10, .int (U j)), (9, .int (Y (nxt n i))), (8, .int (X (nxt n i))), (7, .int (Y i)), (6, .int (X i)), (5, .int (nI (nxt m2 j))), (4, .int (nI (nxt n i))), (0, .ref r), (1, .int (nI i)), (2, .ref u), (3, .int (nI j))]) hx hb dX7_partsMeet_270 hl (Nat.le_of_ble_eq_true rfl) rfl (fun ls hl => ?_)
          have hj_11 : (¬ ((0 < cr (X i).toInt (Y i).toInt (X (nxt n i)).toInt (Y (nxt n i)).toInt (U j).toInt (V j).toInt ∧ 0 < cr (X i).toInt (Y i).toInt (X (nxt n i)).toInt (Y (nxt n i)).toInt (U (nxt m2 j)).toInt (V (nxt m2 j)).toInt) ∨ (cr (X i).toInt (Y i).toInt (X (nxt n i)).toInt (Y (nxt n i)).toInt (U j).toInt (V j).toInt < 0 ∧ cr (X i).toInt (Y i).toInt (X (nxt n i)).toInt (Y (nxt n i)).toInt (U (nxt m2 j)).toInt (V (nxt m2 j)).toInt < 0))) → W p l e ({ frames := 0, cells := 0, slots := 0, locals := 0 } : Room) s m ([.ref r, .int (nI i), .ref u, .int (nI j)] : List Value).toArray below meth c s.heap [] 0 0 Q9 (F0 m 294 ls []) := by
            intro hs1
            refine lv_iload hx hb dX7_partsMeet_294 (lv_at hl 3 rfl) ?_
            refine lv_iload hx hb dX7_partsMeet_296 (lv_at hl 5 rfl) ?_
            refine lv_isub hx hb dX7_partsMeet_298 ?_
            refine lv_iload hx hb dX7_partsMeet_299 (lv_at hl 8 rfl) ?_
            refine lv_iload hx hb dX7_partsMeet_301 (lv_at hl 4 rfl) ?_
            refine lv_isub hx hb dX7_partsMeet_303 ?_
            refine lv_imul hx hb dX7_partsMeet_304 ?_
            refine lv_iload hx hb dX7_partsMeet_305 (lv_at hl 2 rfl) ?_
            refine lv_iload hx hb dX7_partsMeet_307 (lv_at hl 4 rfl) ?_
            refine lv_isub hx hb dX7_partsMeet_309 ?_
            refine lv_iload hx hb dX7_partsMeet_310 (lv_at hl 9 rfl) ?_
            refine lv_iload hx hb dX7_partsMeet_312 (lv_at hl 5 rfl) ?_
            refine lv_isub hx hb dX7_partsMeet_314 ?_
            refine lv_imul hx hb dX7_partsMeet_315 ?_
            refine lv_isub hx hb dX7_partsMeet_316 ?_
            refine zz_i (v := iI (cr (U j).toInt (V j).toInt (U (nxt m2 j)).toInt (V (nxt m2 j)).toInt (X i).toInt (Y i).toInt)) (crI (hq j hj).1 (hq j hj).2 (hq _ hnj).1 (hq _ hnj).2 (hp i hi).1 (hp i hi).2) ?_
            have hB3 := crBp (hq j hj).1 (hq j hj).2 (hq _ hnj).1 (hq _ hnj).2 (hp i hi).1 (hp i hi).2
            refine lv_istore (lv' := [(16, .int (iI (cr (U j).toInt (V j).toInt (U (nxt m2 j)).toInt (V (nxt m2 j)).toInt (X i).toInt (Y i).toInt))), (15, .int (iI (cr (X i).toInt (Y i).toInt (X (nxt n i)).toInt (Y (nxt n i)).toInt (U (nxt m2 j)).toInt (V (nxt m2 j)).toInt))), (14, .int (iI (cr (X i).toInt (Y i).toInt (X (nxt n i)).toInt (Y (nxt n i)).toInt (U j).toInt (V j).toInt))), (13, .int (V (nxt m2 j))), (12, .int (U (nxt m2 j))), (11, .int (V j)), (10, .int (U j)), (9, .int (Y (nxt n i))), (8, .int (X (nxt n i))), (7, .int (Y i)), (6, .int (X i)), (5, .int (nI (nxt m2 j))), (4, .int (nI (nxt n i))), (0, .ref r), (1, .int (nI i)), (2, .ref u), (3, .int (nI j))]) hx hb dX7_partsMeet_317 hl (Nat.le_of_ble_eq_true rfl) rfl (fun ls hl => ?_)
            refine lv_iload hx hb dX7_partsMeet_319 (lv_at hl 4 rfl) ?_
            refine lv_iload hx hb dX7_partsMeet_321 (lv_at hl 6 rfl) ?_
            refine lv_isub hx hb dX7_partsMeet_323 ?_
            refine lv_iload hx hb dX7_partsMeet_324 (lv_at hl 7 rfl) ?_
            refine lv_iload hx hb dX7_partsMeet_326 (lv_at hl 5 rfl) ?_
            refine lv_isub hx hb dX7_partsMeet_328 ?_
            refine lv_imul hx hb dX7_partsMeet_329 ?_
            refine lv_iload hx hb dX7_partsMeet_330 (lv_at hl 3 rfl) ?_
            refine lv_iload hx hb dX7_partsMeet_332 (lv_at hl 5 rfl) ?_
            refine lv_isub hx hb dX7_partsMeet_334 ?_
            refine lv_iload hx hb dX7_partsMeet_335 (lv_at hl 8 rfl) ?_
            refine lv_iload hx hb dX7_partsMeet_337 (lv_at hl 6 rfl) ?_
            refine lv_isub hx hb dX7_partsMeet_339 ?_
            refine lv_imul hx hb dX7_partsMeet_340 ?_
            refine lv_isub hx hb dX7_partsMeet_341 ?_
            refine zz_i (v := iI (cr (U j).toInt (V j).toInt (U (nxt m2 j)).toInt (V (nxt m2 j)).toInt (X (nxt n i)).toInt (Y (nxt n i)).toInt)) (crI (hq j hj).1 (hq j hj).2 (hq _ hnj).1 (hq _ hnj).2 (hp _ hnx).1 (hp _ hnx).2) ?_
            have hB4 := crBp (hq j hj).1 (hq j hj).2 (hq _ hnj).1 (hq _ hnj).2 (hp _ hnx).1 (hp _ hnx).2
            refine lv_istore (lv' := [(17, .int (iI (cr (U j).toInt (V j).toInt (U (nxt m2 j)).toInt (V (nxt m2 j)).toInt (X (nxt n i)).toInt (Y (nxt n i)).toInt))), (16, .int (iI (cr (U j).toInt (V j).toInt (U (nxt m2 j)).toInt (V (nxt m2 j)).toInt (X i).toInt (Y i).toInt))), (15, .int (iI (cr (X i).toInt (Y i).toInt (X (nxt n i)).toInt (Y (nxt n i)).toInt (U (nxt m2 j)).toInt (V (nxt m2 j)).toInt))), (14, .int (iI (cr (X i).toInt (Y i).toInt (X (nxt n i)).toInt (Y (nxt n i)).toInt (U j).toInt (V j).toInt))), (13, .int (V (nxt m2 j))), (12, .int (U (nxt m2 j))), (11, .int (V j)), (10, .int (U j)), (9, .int (Y (nxt n i))), (8, .int (X (nxt n i))), (7, .int (Y i)), (6, .int (X i)), (5, .int (nI (nxt m2 j))), (4, .int (nI (nxt n i))), (0, .ref r), (1, .int (nI i)), (2, .ref u), (3, .int (nI j))]) hx hb dX7_partsMeet_342 hl (Nat.le_of_ble_eq_true rfl) rfl (fun ls hl => ?_)
            refine lv_iload hx hb dX7_partsMeet_344 (lv_at hl 1 rfl) ?_
            refine lv_if_le (tgt := 354) hx hb dX7_partsMeet_346 rfl (fun c_12 => ?_) (fun c_12 => ?_)
            · have c_12 : (cr (U j).toInt (V j).toInt (U (nxt m2 j)).toInt (V (nxt m2 j)).toInt (X i).toInt (Y i).toInt) ≤ 0 := zc_le (iI_toInt (by omega)) rfl c_12
              refine lv_iload hx hb dX7_partsMeet_354 (lv_at hl 1 rfl) ?_
              refine lv_if_ge (tgt := 364) hx hb dX7_partsMeet_356 rfl (fun c_13 => ?_) (fun c_13 => ?_)
              · have c_13 : 0 ≤ (cr (U j).toInt (V j).toInt (U (nxt m2 j)).toInt (V (nxt m2 j)).toInt (X i).toInt (Y i).toInt) := zc_le rfl (iI_toInt (by omega)) c_13
                refine lv_iconst (v := 1) hx hb dX7_partsMeet_364 rfl ?_
                refine lv_goto (tgt := 369) hx hb dX7_partsMeet_365 rfl ?_
                obtain ⟨hP9, hD9⟩ := zu_sub (wc := [_, _, _, _, _, _]) hP hD [true, true, true, true, true, true] rfl rfl
                rw [hQ9]
                exact W.zret (ty := .boolean) (v := 1) hx hb hr (rfl) (fun t ht hW => ⟨⟨congrArg (fun z => Outcome.returned (some (Value.int z))) (show (1 : Int32) = pI (eMt n X Y i m2 U V j) from (zp_t (by unfold eMt mtC; first | exact ⟨hbx, hby, hs1, by omega⟩ | exact fun h => h.2.2.2 (by omega))).symm), by rw [ht]; exact hP9, hD9⟩, hS.F ht⟩) hS.2.2 dX7_partsMeet_369
              · have c_13 : (cr (U j).toInt (V j).toInt (U (nxt m2 j)).toInt (V (nxt m2 j)).toInt (X i).toInt (Y i).toInt) < 0 := zc_nle rfl (iI_toInt (by omega)) c_13
                refine lv_iload hx hb dX7_partsMeet_359 (lv_at hl 0 rfl) ?_
                refine lv_if_lt (tgt := 368) hx hb dX7_partsMeet_361 rfl (fun c_14 => ?_) (fun c_14 => ?_)
                · have c_14 : (cr (U j).toInt (V j).toInt (U (nxt m2 j)).toInt (V (nxt m2 j)).toInt (X (nxt n i)).toInt (Y (nxt n i)).toInt) < 0 := zc_lt (iI_toInt (by omega)) rfl c_14
                  refine lv_iconst (v := 0) hx hb dX7_partsMeet_368 rfl ?_
                  obtain ⟨hP9, hD9⟩ := zu_sub (wc := [_, _, _, _, _, _]) hP hD [true, true, true, true, true, true] rfl rfl
                  rw [hQ9]
                  exact W.zret (ty := .boolean) (v := 0) hx hb hr (rfl) (fun t ht hW => ⟨⟨congrArg (fun z => Outcome.returned (some (Value.int z))) (show (0 : Int32) = pI (eMt n X Y i m2 U V j) from (zp_f (by unfold eMt mtC; first | exact ⟨hbx, hby, hs1, by omega⟩ | exact fun h => h.2.2.2 (by omega))).symm), by rw [ht]; exact hP9, hD9⟩, hS.F ht⟩) hS.2.2 dX7_partsMeet_369
                · have c_14 : 0 ≤ (cr (U j).toInt (V j).toInt (U (nxt m2 j)).toInt (V (nxt m2 j)).toInt (X (nxt n i)).toInt (Y (nxt n i)).toInt) := zc_nlt (iI_toInt (by omega)) rfl c_14
                  refine lv_iconst (v := 1) hx hb dX7_partsMeet_364 rfl ?_
                  refine lv_goto (tgt := 369) hx hb dX7_partsMeet_365 rfl ?_
                  obtain ⟨hP9, hD9⟩ := zu_sub (wc := [_, _, _, _, _, _]) hP hD [true, true, true, true, true, true] rfl rfl
                  rw [hQ9]
                  exact W.zret (ty := .boolean) (v := 1) hx hb hr (rfl) (fun t ht hW => ⟨⟨congrArg (fun z => Outcome.returned (some (Value.int z))) (show (1 : Int32) = pI (eMt n X Y i m2 U V j) from (zp_t (by unfold eMt mtC; first | exact ⟨hbx, hby, hs1, by omega⟩ | exact fun h => h.2.2.2 (by omega))).symm), by rw [ht]; exact hP9, hD9⟩, hS.F ht⟩) hS.2.2 dX7_partsMeet_369
            · have c_12 : 0 < (cr (U j).toInt (V j).toInt (U (nxt m2 j)).toInt (V (nxt m2 j)).toInt (X i).toInt (Y i).toInt) := zc_nle (iI_toInt (by omega)) rfl c_12
              refine lv_iload hx hb dX7_partsMeet_349 (lv_at hl 0 rfl) ?_
              refine lv_if_gt (tgt := 368) hx hb dX7_partsMeet_351 rfl (fun c_15 => ?_) (fun c_15 => ?_)
              · have c_15 : 0 < (cr (U j).toInt (V j).toInt (U (nxt m2 j)).toInt (V (nxt m2 j)).toInt (X (nxt n i)).toInt (Y (nxt n i)).toInt) := zc_lt rfl (iI_toInt (by omega)) c_15
                refine lv_iconst (v := 0) hx hb dX7_partsMeet_368 rfl ?_
                obtain ⟨hP9, hD9⟩ := zu_sub (wc := [_, _, _, _, _, _]) hP hD [true, true, true, true, true, true] rfl rfl
                rw [hQ9]
                exact W.zret (ty := .boolean) (v := 0) hx hb hr (rfl) (fun t ht hW => ⟨⟨congrArg (fun z => Outcome.returned (some (Value.int z))) (show (0 : Int32) = pI (eMt n X Y i m2 U V j) from (zp_f (by unfold eMt mtC; first | exact ⟨hbx, hby, hs1, by omega⟩ | exact fun h => h.2.2.2 (by omega))).symm), by rw [ht]; exact hP9, hD9⟩, hS.F ht⟩) hS.2.2 dX7_partsMeet_369
              · have c_15 : (cr (U j).toInt (V j).toInt (U (nxt m2 j)).toInt (V (nxt m2 j)).toInt (X (nxt n i)).toInt (Y (nxt n i)).toInt) ≤ 0 := zc_nlt rfl (iI_toInt (by omega)) c_15
                refine lv_iload hx hb dX7_partsMeet_354 (lv_at hl 1 rfl) ?_
                refine lv_if_ge (tgt := 364) hx hb dX7_partsMeet_356 rfl (fun c_16 => ?_) (fun c_16 => ?_)
                · have c_16 : 0 ≤ (cr (U j).toInt (V j).toInt (U (nxt m2 j)).toInt (V (nxt m2 j)).toInt (X i).toInt (Y i).toInt) := zc_le rfl (iI_toInt (by omega)) c_16
                  refine lv_iconst (v := 1) hx hb dX7_partsMeet_364 rfl ?_
                  refine lv_goto (tgt := 369) hx hb dX7_partsMeet_365 rfl ?_
                  obtain ⟨hP9, hD9⟩ := zu_sub (wc := [_, _, _, _, _, _]) hP hD [true, true, true, true, true, true] rfl rfl
                  rw [hQ9]
                  exact W.zret (ty := .boolean) (v := 1) hx hb hr (rfl) (fun t ht hW => ⟨⟨congrArg (fun z => Outcome.returned (some (Value.int z))) (show (1 : Int32) = pI (eMt n X Y i m2 U V j) from (zp_t (by unfold eMt mtC; first | exact ⟨hbx, hby, hs1, by omega⟩ | exact fun h => h.2.2.2 (by omega))).symm), by rw [ht]; exact hP9, hD9⟩, hS.F ht⟩) hS.2.2 dX7_partsMeet_369
                · have c_16 : (cr (U j).toInt (V j).toInt (U (nxt m2 j)).toInt (V (nxt m2 j)).toInt (X i).toInt (Y i).toInt) < 0 := zc_nle rfl (iI_toInt (by omega)) c_16
                  refine lv_iload hx hb dX7_partsMeet_359 (lv_at hl 0 rfl) ?_
                  refine lv_if_lt (tgt := 368) hx hb dX7_partsMeet_361 rfl (fun c_17 => ?_) (fun c_17 => ?_)
                  · have c_17 : (cr (U j).toInt (V j).toInt (U (nxt m2 j)).toInt (V (nxt m2 j)).toInt (X (nxt n i)).toInt (Y (nxt n i)).toInt) < 0 := zc_lt (iI_toInt (by omega)) rfl c_17
                    refine lv_iconst (v := 0) hx hb dX7_partsMeet_368 rfl ?_
                    obtain ⟨hP9, hD9⟩ := zu_sub (wc := [_, _, _, _, _, _]) hP hD [true, true, true, true, true, true] rfl rfl
                    rw [hQ9]
                    exact W.zret (ty := .boolean) (v := 0) hx hb hr (rfl) (fun t ht hW => ⟨⟨congrArg (fun z => Outcome.returned (some (Value.int z))) (show (0 : Int32) = pI (eMt n X Y i m2 U V j) from (zp_f (by unfold eMt mtC; first | exact ⟨hbx, hby, hs1, by omega⟩ | exact fun h => h.2.2.2 (by omega))).symm), by rw [ht]; exact hP9, hD9⟩, hS.F ht⟩) hS.2.2 dX7_partsMeet_369
                  · have c_17 : 0 ≤ (cr (U j).toInt (V j).toInt (U (nxt m2 j)).toInt (V (nxt m2 j)).toInt (X (nxt n i)).toInt (Y (nxt n i)).toInt) := zc_nlt (iI_toInt (by omega)) rfl c_17
                    refine lv_iconst (v := 1) hx hb dX7_partsMeet_364 rfl ?_
                    refine lv_goto (tgt := 369) hx hb dX7_partsMeet_365 rfl ?_
                    obtain ⟨hP9, hD9⟩ := zu_sub (wc := [_, _, _, _, _, _]) hP hD [true, true, true, true, true, true] rfl rfl
                    rw [hQ9]
                    exact W.zret (ty := .boolean) (v := 1) hx hb hr (rfl) (fun t ht hW => ⟨⟨congrArg (fun z => Outcome.returned (some (Value.int z))) (show (1 : Int32) = pI (eMt n X Y i m2 U V j) from (zp_t (by unfold eMt mtC; first | exact ⟨hbx, hby, hs1, by omega⟩ | exact fun h => h.2.2.2 (by omega))).symm), by rw [ht]; exact hP9, hD9⟩, hS.F ht⟩) hS.2.2 dX7_partsMeet_369
          refine lv_iload hx hb dX7_partsMeet_272 (lv_at hl 1 rfl) ?_
          refine lv_if_le (tgt := 282) hx hb dX7_partsMeet_274 rfl (fun c_18 => ?_) (fun c_18 => ?_)
          · have c_18 : (cr (X i).toInt (Y i).toInt (X (nxt n i)).toInt (Y (nxt n i)).toInt (U j).toInt (V j).toInt) ≤ 0 := zc_le (iI_toInt (by omega)) rfl c_18
            refine lv_iload hx hb dX7_partsMeet_282 (lv_at hl 1 rfl) ?_
            refine lv_if_ge (tgt := 294) hx hb dX7_partsMeet_284 rfl (fun c_19 => ?_) (fun c_19 => ?_)
            · have c_19 : 0 ≤ (cr (X i).toInt (Y i).toInt (X (nxt n i)).toInt (Y (nxt n i)).toInt (U j).toInt (V j).toInt) := zc_le rfl (iI_toInt (by omega)) c_19
              exact hj_11 (by omega)
            · have c_19 : (cr (X i).toInt (Y i).toInt (X (nxt n i)).toInt (Y (nxt n i)).toInt (U j).toInt (V j).toInt) < 0 := zc_nle rfl (iI_toInt (by omega)) c_19
              refine lv_iload hx hb dX7_partsMeet_287 (lv_at hl 0 rfl) ?_
              refine lv_if_ge (tgt := 294) hx hb dX7_partsMeet_289 rfl (fun c_20 => ?_) (fun c_20 => ?_)
              · have c_20 : 0 ≤ (cr (X i).toInt (Y i).toInt (X (nxt n i)).toInt (Y (nxt n i)).toInt (U (nxt m2 j)).toInt (V (nxt m2 j)).toInt) := zc_le rfl (iI_toInt (by omega)) c_20
                exact hj_11 (by omega)
              · have c_20 : (cr (X i).toInt (Y i).toInt (X (nxt n i)).toInt (Y (nxt n i)).toInt (U (nxt m2 j)).toInt (V (nxt m2 j)).toInt) < 0 := zc_nle rfl (iI_toInt (by omega)) c_20
                refine lv_iconst (v := 0) hx hb dX7_partsMeet_292 rfl ?_
                obtain ⟨hP9, hD9⟩ := zu_sub (wc := [_, _, _, _, _, _]) hP hD [true, true, true, true, true, true] rfl rfl
                rw [hQ9]
                exact W.zret (ty := .boolean) (v := 0) hx hb hr (rfl) (fun t ht hW => ⟨⟨congrArg (fun z => Outcome.returned (some (Value.int z))) (show (0 : Int32) = pI (eMt n X Y i m2 U V j) from (zp_f (by unfold eMt mtC; intro h; exact h.2.2.1 (by omega))).symm), by rw [ht]; exact hP9, hD9⟩, hS.F ht⟩) hS.2.2 dX7_partsMeet_293
          · have c_18 : 0 < (cr (X i).toInt (Y i).toInt (X (nxt n i)).toInt (Y (nxt n i)).toInt (U j).toInt (V j).toInt) := zc_nle (iI_toInt (by omega)) rfl c_18
            refine lv_iload hx hb dX7_partsMeet_277 (lv_at hl 0 rfl) ?_
            refine lv_if_gt (tgt := 292) hx hb dX7_partsMeet_279 rfl (fun c_21 => ?_) (fun c_21 => ?_)
            · have c_21 : 0 < (cr (X i).toInt (Y i).toInt (X (nxt n i)).toInt (Y (nxt n i)).toInt (U (nxt m2 j)).toInt (V (nxt m2 j)).toInt) := zc_lt rfl (iI_toInt (by omega)) c_21
              refine lv_iconst (v := 0) hx hb dX7_partsMeet_292 rfl ?_
              obtain ⟨hP9, hD9⟩ := zu_sub (wc := [_, _, _, _, _, _]) hP hD [true, true, true, true, true, true] rfl rfl
              rw [hQ9]
              exact W.zret (ty := .boolean) (v := 0) hx hb hr (rfl) (fun t ht hW => ⟨⟨congrArg (fun z => Outcome.returned (some (Value.int z))) (show (0 : Int32) = pI (eMt n X Y i m2 U V j) from (zp_f (by unfold eMt mtC; intro h; exact h.2.2.1 (by omega))).symm), by rw [ht]; exact hP9, hD9⟩, hS.F ht⟩) hS.2.2 dX7_partsMeet_293
            · have c_21 : (cr (X i).toInt (Y i).toInt (X (nxt n i)).toInt (Y (nxt n i)).toInt (U (nxt m2 j)).toInt (V (nxt m2 j)).toInt) ≤ 0 := zc_nlt rfl (iI_toInt (by omega)) c_21
              refine lv_iload hx hb dX7_partsMeet_282 (lv_at hl 1 rfl) ?_
              refine lv_if_ge (tgt := 294) hx hb dX7_partsMeet_284 rfl (fun c_22 => ?_) (fun c_22 => ?_)
              · have c_22 : 0 ≤ (cr (X i).toInt (Y i).toInt (X (nxt n i)).toInt (Y (nxt n i)).toInt (U j).toInt (V j).toInt) := zc_le rfl (iI_toInt (by omega)) c_22
                exact hj_11 (by omega)
              · have c_22 : (cr (X i).toInt (Y i).toInt (X (nxt n i)).toInt (Y (nxt n i)).toInt (U j).toInt (V j).toInt) < 0 := zc_nle rfl (iI_toInt (by omega)) c_22
                refine lv_iload hx hb dX7_partsMeet_287 (lv_at hl 0 rfl) ?_
                refine lv_if_ge (tgt := 294) hx hb dX7_partsMeet_289 rfl (fun c_23 => ?_) (fun c_23 => ?_)
                · have c_23 : 0 ≤ (cr (X i).toInt (Y i).toInt (X (nxt n i)).toInt (Y (nxt n i)).toInt (U (nxt m2 j)).toInt (V (nxt m2 j)).toInt) := zc_le rfl (iI_toInt (by omega)) c_23
                  exact hj_11 (by omega)
                · have c_23 : (cr (X i).toInt (Y i).toInt (X (nxt n i)).toInt (Y (nxt n i)).toInt (U (nxt m2 j)).toInt (V (nxt m2 j)).toInt) < 0 := zc_nle rfl (iI_toInt (by omega)) c_23
                  refine lv_iconst (v := 0) hx hb dX7_partsMeet_292 rfl ?_
                  obtain ⟨hP9, hD9⟩ := zu_sub (wc := [_, _, _, _, _, _]) hP hD [true, true, true, true, true, true] rfl rfl
                  rw [hQ9]
                  exact W.zret (ty := .boolean) (v := 0) hx hb hr (rfl) (fun t ht hW => ⟨⟨congrArg (fun z => Outcome.returned (some (Value.int z))) (show (0 : Int32) = pI (eMt n X Y i m2 U V j) from (zp_f (by unfold eMt mtC; intro h; exact h.2.2.1 (by omega))).symm), by rw [ht]; exact hP9, hD9⟩, hS.F ht⟩) hS.2.2 dX7_partsMeet_293
        have hj_24 : (¬ ((Y i).toInt < (V j).toInt ∧ (Y (nxt n i)).toInt < (V j).toInt ∧ (Y i).toInt < (V (nxt m2 j)).toInt ∧ (Y (nxt n i)).toInt < (V (nxt m2 j)).toInt)) → W p l e ({ frames := 0, cells := 0, slots := 0, locals := 0 } : Room) s m ([.ref r, .int (nI i), .ref u, .int (nI j)] : List Value).toArray below meth c s.heap [] 0 0 Q9 (F0 m 192 ls []) := by
          intro hby0
          refine lv_iload hx hb dX7_partsMeet_192 (lv_at hl 6 rfl) ?_
          refine lv_iload hx hb dX7_partsMeet_194 (lv_at hl 2 rfl) ?_
          refine lv_icmp_le (tgt := 222) hx hb dX7_partsMeet_196 rfl (fun c_25 => ?_) (fun c_25 => ?_)
          · have c_25 : (Y i).toInt ≤ (V j).toInt := zc_le rfl rfl c_25
            exact hj_10 (by omega)
          · have c_25 : (V j).toInt < (Y i).toInt := zc_nle rfl rfl c_25
            refine lv_iload hx hb dX7_partsMeet_199 (lv_at hl 4 rfl) ?_
            refine lv_iload hx hb dX7_partsMeet_201 (lv_at hl 2 rfl) ?_
            refine lv_icmp_le (tgt := 222) hx hb dX7_partsMeet_203 rfl (fun c_26 => ?_) (fun c_26 => ?_)
            · have c_26 : (Y (nxt n i)).toInt ≤ (V j).toInt := zc_le rfl rfl c_26
              exact hj_10 (by omega)
            · have c_26 : (V j).toInt < (Y (nxt n i)).toInt := zc_nle rfl rfl c_26
              refine lv_iload hx hb dX7_partsMeet_206 (lv_at hl 6 rfl) ?_
              refine lv_iload hx hb dX7_partsMeet_208 (lv_at hl 0 rfl) ?_
              refine lv_icmp_le (tgt := 222) hx hb dX7_partsMeet_210 rfl (fun c_27 => ?_) (fun c_27 => ?_)
              · have c_27 : (Y i).toInt ≤ (V (nxt m2 j)).toInt := zc_le rfl rfl c_27
                exact hj_10 (by omega)
              · have c_27 : (V (nxt m2 j)).toInt < (Y i).toInt := zc_nle rfl rfl c_27
                refine lv_iload hx hb dX7_partsMeet_213 (lv_at hl 4 rfl) ?_
                refine lv_iload hx hb dX7_partsMeet_215 (lv_at hl 0 rfl) ?_
                refine lv_icmp_le (tgt := 222) hx hb dX7_partsMeet_217 rfl (fun c_28 => ?_) (fun c_28 => ?_)
                · have c_28 : (Y (nxt n i)).toInt ≤ (V (nxt m2 j)).toInt := zc_le rfl rfl c_28
                  exact hj_10 (by omega)
                · have c_28 : (V (nxt m2 j)).toInt < (Y (nxt n i)).toInt := zc_nle rfl rfl c_28
                  refine lv_iconst (v := 0) hx hb dX7_partsMeet_220 rfl ?_
                  obtain ⟨hP9, hD9⟩ := zu_sub (wc := [_, _, _, _, _, _]) hP hD [true, true, true, true, true, true] rfl rfl
                  rw [hQ9]
                  exact W.zret (ty := .boolean) (v := 0) hx hb hr (rfl) (fun t ht hW => ⟨⟨congrArg (fun z => Outcome.returned (some (Value.int z))) (show (0 : Int32) = pI (eMt n X Y i m2 U V j) from (zp_f (by unfold eMt mtC; intro h; exact h.2.1 (by omega))).symm), by rw [ht]; exact hP9, hD9⟩, hS.F ht⟩) hS.2.2 dX7_partsMeet_221
        refine lv_iload hx hb dX7_partsMeet_164 (lv_at hl 6 rfl) ?_
        refine lv_iload hx hb dX7_partsMeet_166 (lv_at hl 2 rfl) ?_
        refine lv_icmp_ge (tgt := 192) hx hb dX7_partsMeet_168 rfl (fun c_29 => ?_) (fun c_29 => ?_)
        · have c_29 : (V j).toInt ≤ (Y i).toInt := zc_le rfl rfl c_29
          exact hj_24 (by omega)
        · have c_29 : (Y i).toInt < (V j).toInt := zc_nle rfl rfl c_29
          refine lv_iload hx hb dX7_partsMeet_171 (lv_at hl 4 rfl) ?_
          refine lv_iload hx hb dX7_partsMeet_173 (lv_at hl 2 rfl) ?_
          refine lv_icmp_ge (tgt := 192) hx hb dX7_partsMeet_175 rfl (fun c_30 => ?_) (fun c_30 => ?_)
          · have c_30 : (V j).toInt ≤ (Y (nxt n i)).toInt := zc_le rfl rfl c_30
            exact hj_24 (by omega)
          · have c_30 : (Y (nxt n i)).toInt < (V j).toInt := zc_nle rfl rfl c_30
            refine lv_iload hx hb dX7_partsMeet_178 (lv_at hl 6 rfl) ?_
            refine lv_iload hx hb dX7_partsMeet_180 (lv_at hl 0 rfl) ?_
            refine lv_icmp_ge (tgt := 192) hx hb dX7_partsMeet_182 rfl (fun c_31 => ?_) (fun c_31 => ?_)
            · have c_31 : (V (nxt m2 j)).toInt ≤ (Y i).toInt := zc_le rfl rfl c_31
              exact hj_24 (by omega)
            · have c_31 : (Y i).toInt < (V (nxt m2 j)).toInt := zc_nle rfl rfl c_31
              refine lv_iload hx hb dX7_partsMeet_185 (lv_at hl 4 rfl) ?_
              refine lv_iload hx hb dX7_partsMeet_187 (lv_at hl 0 rfl) ?_
              refine lv_icmp_lt (tgt := 220) hx hb dX7_partsMeet_189 rfl (fun c_32 => ?_) (fun c_32 => ?_)
              · have c_32 : (Y (nxt n i)).toInt < (V (nxt m2 j)).toInt := zc_lt rfl rfl c_32
                refine lv_iconst (v := 0) hx hb dX7_partsMeet_220 rfl ?_
                obtain ⟨hP9, hD9⟩ := zu_sub (wc := [_, _, _, _, _, _]) hP hD [true, true, true, true, true, true] rfl rfl
                rw [hQ9]
                exact W.zret (ty := .boolean) (v := 0) hx hb hr (rfl) (fun t ht hW => ⟨⟨congrArg (fun z => Outcome.returned (some (Value.int z))) (show (0 : Int32) = pI (eMt n X Y i m2 U V j) from (zp_f (by unfold eMt mtC; intro h; exact h.2.1 (by omega))).symm), by rw [ht]; exact hP9, hD9⟩, hS.F ht⟩) hS.2.2 dX7_partsMeet_221
              · have c_32 : (V (nxt m2 j)).toInt ≤ (Y (nxt n i)).toInt := zc_nlt rfl rfl c_32
                exact hj_24 (by omega)
      have hj_33 : (¬ ((X i).toInt < (U j).toInt ∧ (X (nxt n i)).toInt < (U j).toInt ∧ (X i).toInt < (U (nxt m2 j)).toInt ∧ (X (nxt n i)).toInt < (U (nxt m2 j)).toInt)) → W p l e ({ frames := 0, cells := 0, slots := 0, locals := 0 } : Room) s m ([.ref r, .int (nI i), .ref u, .int (nI j)] : List Value).toArray below meth c s.heap [] 0 0 Q9 (F0 m 134 ls []) := by
        intro hbx0
        refine lv_iload hx hb dX7_partsMeet_134 (lv_at hl 7 rfl) ?_
        refine lv_iload hx hb dX7_partsMeet_136 (lv_at hl 3 rfl) ?_
        refine lv_icmp_le (tgt := 164) hx hb dX7_partsMeet_138 rfl (fun c_34 => ?_) (fun c_34 => ?_)
        · have c_34 : (X i).toInt ≤ (U j).toInt := zc_le rfl rfl c_34
          exact hj_9 (by omega)
        · have c_34 : (U j).toInt < (X i).toInt := zc_nle rfl rfl c_34
          refine lv_iload hx hb dX7_partsMeet_141 (lv_at hl 5 rfl) ?_
          refine lv_iload hx hb dX7_partsMeet_143 (lv_at hl 3 rfl) ?_
          refine lv_icmp_le (tgt := 164) hx hb dX7_partsMeet_145 rfl (fun c_35 => ?_) (fun c_35 => ?_)
          · have c_35 : (X (nxt n i)).toInt ≤ (U j).toInt := zc_le rfl rfl c_35
            exact hj_9 (by omega)
          · have c_35 : (U j).toInt < (X (nxt n i)).toInt := zc_nle rfl rfl c_35
            refine lv_iload hx hb dX7_partsMeet_148 (lv_at hl 7 rfl) ?_
            refine lv_iload hx hb dX7_partsMeet_150 (lv_at hl 1 rfl) ?_
            refine lv_icmp_le (tgt := 164) hx hb dX7_partsMeet_152 rfl (fun c_36 => ?_) (fun c_36 => ?_)
            · have c_36 : (X i).toInt ≤ (U (nxt m2 j)).toInt := zc_le rfl rfl c_36
              exact hj_9 (by omega)
            · have c_36 : (U (nxt m2 j)).toInt < (X i).toInt := zc_nle rfl rfl c_36
              refine lv_iload hx hb dX7_partsMeet_155 (lv_at hl 5 rfl) ?_
              refine lv_iload hx hb dX7_partsMeet_157 (lv_at hl 1 rfl) ?_
              refine lv_icmp_le (tgt := 164) hx hb dX7_partsMeet_159 rfl (fun c_37 => ?_) (fun c_37 => ?_)
              · have c_37 : (X (nxt n i)).toInt ≤ (U (nxt m2 j)).toInt := zc_le rfl rfl c_37
                exact hj_9 (by omega)
              · have c_37 : (U (nxt m2 j)).toInt < (X (nxt n i)).toInt := zc_nle rfl rfl c_37
                refine lv_iconst (v := 0) hx hb dX7_partsMeet_162 rfl ?_
                obtain ⟨hP9, hD9⟩ := zu_sub (wc := [_, _, _, _, _, _]) hP hD [true, true, true, true, true, true] rfl rfl
                rw [hQ9]
                exact W.zret (ty := .boolean) (v := 0) hx hb hr (rfl) (fun t ht hW => ⟨⟨congrArg (fun z => Outcome.returned (some (Value.int z))) (show (0 : Int32) = pI (eMt n X Y i m2 U V j) from (zp_f (by unfold eMt mtC; intro h; exact h.1 (by omega))).symm), by rw [ht]; exact hP9, hD9⟩, hS.F ht⟩) hS.2.2 dX7_partsMeet_163
      refine lv_iload hx hb dX7_partsMeet_106 (lv_at hl 7 rfl) ?_
      refine lv_iload hx hb dX7_partsMeet_108 (lv_at hl 3 rfl) ?_
      refine lv_icmp_ge (tgt := 134) hx hb dX7_partsMeet_110 rfl (fun c_38 => ?_) (fun c_38 => ?_)
      · have c_38 : (U j).toInt ≤ (X i).toInt := zc_le rfl rfl c_38
        exact hj_33 (by omega)
      · have c_38 : (X i).toInt < (U j).toInt := zc_nle rfl rfl c_38
        refine lv_iload hx hb dX7_partsMeet_113 (lv_at hl 5 rfl) ?_
        refine lv_iload hx hb dX7_partsMeet_115 (lv_at hl 3 rfl) ?_
        refine lv_icmp_ge (tgt := 134) hx hb dX7_partsMeet_117 rfl (fun c_39 => ?_) (fun c_39 => ?_)
        · have c_39 : (U j).toInt ≤ (X (nxt n i)).toInt := zc_le rfl rfl c_39
          exact hj_33 (by omega)
        · have c_39 : (X (nxt n i)).toInt < (U j).toInt := zc_nle rfl rfl c_39
          refine lv_iload hx hb dX7_partsMeet_120 (lv_at hl 7 rfl) ?_
          refine lv_iload hx hb dX7_partsMeet_122 (lv_at hl 1 rfl) ?_
          refine lv_icmp_ge (tgt := 134) hx hb dX7_partsMeet_124 rfl (fun c_40 => ?_) (fun c_40 => ?_)
          · have c_40 : (U (nxt m2 j)).toInt ≤ (X i).toInt := zc_le rfl rfl c_40
            exact hj_33 (by omega)
          · have c_40 : (X i).toInt < (U (nxt m2 j)).toInt := zc_nle rfl rfl c_40
            refine lv_iload hx hb dX7_partsMeet_127 (lv_at hl 5 rfl) ?_
            refine lv_iload hx hb dX7_partsMeet_129 (lv_at hl 1 rfl) ?_
            refine lv_icmp_lt (tgt := 162) hx hb dX7_partsMeet_131 rfl (fun c_41 => ?_) (fun c_41 => ?_)
            · have c_41 : (X (nxt n i)).toInt < (U (nxt m2 j)).toInt := zc_lt rfl rfl c_41
              refine lv_iconst (v := 0) hx hb dX7_partsMeet_162 rfl ?_
              obtain ⟨hP9, hD9⟩ := zu_sub (wc := [_, _, _, _, _, _]) hP hD [true, true, true, true, true, true] rfl rfl
              rw [hQ9]
              exact W.zret (ty := .boolean) (v := 0) hx hb hr (rfl) (fun t ht hW => ⟨⟨congrArg (fun z => Outcome.returned (some (Value.int z))) (show (0 : Int32) = pI (eMt n X Y i m2 U V j) from (zp_f (by unfold eMt mtC; intro h; exact h.1 (by omega))).symm), by rw [ht]; exact hP9, hD9⟩, hS.F ht⟩) hS.2.2 dX7_partsMeet_163
            · have c_41 : (U (nxt m2 j)).toInt ≤ (X (nxt n i)).toInt := zc_nlt rfl rfl c_41
              exact hj_33 (by omega)
    have b9_43 : zlt ((j + 1)) := show (j + 1) < 2147483648 by omega
    have b9_44 : zlt (m2) := show m2 < 2147483648 by omega
    refine lv_icmp_ge (tgt := 35) hx hb dX7_partsMeet_26 rfl (fun c_42 => ?_) (fun c_42 => ?_)
    · have c_42 : ((m2 : Nat) : Int) ≤ ((j + 1 : Nat) : Int) := zc_le (nI_toInt b9_44) (nI_toInt b9_43) c_42
      refine lv_iconst (v := 0) hx hb dX7_partsMeet_35 rfl ?_
      refine zz_i (v := nI (nxt m2 j)) (by first | (rw [nxt, if_pos (by omega)]) | (rw [nxt, if_neg (by omega)]; first | done | rfl)) ?_
      exact hj_2 
    · have c_42 : ((j + 1 : Nat) : Int) < ((m2 : Nat) : Int) := zc_nle (nI_toInt b9_44) (nI_toInt b9_43) c_42
      refine lv_iload_n hx hb dX7_partsMeet_29 rfl (lv_at hl 4 rfl) ?_
      refine lv_iconst (v := 1) hx hb dX7_partsMeet_30 rfl ?_
      refine lv_iadd hx hb dX7_partsMeet_31 ?_
      refine zz_i (v := nI (j + 1)) (nI_add j 1) ?_
      refine lv_goto (tgt := 36) hx hb dX7_partsMeet_32 rfl ?_
      refine zz_i (v := nI (nxt m2 j)) (by first | (rw [nxt, if_pos (by omega)]) | (rw [nxt, if_neg (by omega)]; first | done | rfl)) ?_
      exact hj_2 
  have b9_46 : zlt ((i + 1)) := show (i + 1) < 2147483648 by omega
  have b9_47 : zlt (n) := show n < 2147483648 by omega
  refine lv_icmp_ge (tgt := 16) hx hb dX7_partsMeet_7 rfl (fun c_45 => ?_) (fun c_45 => ?_)
  · have c_45 : ((n : Nat) : Int) ≤ ((i + 1 : Nat) : Int) := zc_le (nI_toInt b9_47) (nI_toInt b9_46) c_45
    refine lv_iconst (v := 0) hx hb dX7_partsMeet_16 rfl ?_
    refine zz_i (v := nI (nxt n i)) (by first | (rw [nxt, if_pos (by omega)]) | (rw [nxt, if_neg (by omega)]; first | done | rfl)) ?_
    exact hj_1 
  · have c_45 : ((i + 1 : Nat) : Int) < ((n : Nat) : Int) := zc_nle (nI_toInt b9_47) (nI_toInt b9_46) c_45
    refine lv_iload_n hx hb dX7_partsMeet_10 rfl (lv_at hl 1 rfl) ?_
    refine lv_iconst (v := 1) hx hb dX7_partsMeet_11 rfl ?_
    refine lv_iadd hx hb dX7_partsMeet_12 ?_
    refine zz_i (v := nI (i + 1)) (nI_add i 1) ?_
    refine lv_goto (tgt := 17) hx hb dX7_partsMeet_13 rfl ?_
    refine zz_i (v := nI (nxt n i)) (by first | (rw [nxt, if_pos (by omega)]) | (rw [nxt, if_neg (by omega)]; first | done | rfl)) ?_
    exact hj_1 
set_option maxHeartbeats 4000000 in
set_option maxRecDepth 100000 in
theorem k_Row_partsMeet_self (l : Launch) (dC : Nat → ClassId) (dI : Nat → Nat → Nat) (cI cZ cF : ClassId) (sz : Nat) (r : Nat) (rx : Nat) (ry : Nat) (n : Nat) (cap : Nat) (X : Nat → Int32) (Y : Nat → Int32) (rg : Int32) (i : Nat) (j : Nat) (hn : n ≤ cap) (hcap : cap ≤ 1000) (hp : pls n X Y) (hi : i < n) (hj : j < n) : zM l yX7_partsMeet cX7_partsMeet 18 (some .boolean) ({ frames := 0, cells := 0, slots := 0, locals := 0 } : Room) [.ref r, .int (nI i), .ref r, .int (nI j)] (dC, dI) (zTy cI cZ cF) [(oc6 r (.ref rx) (.ref ry) (nI n) rg), (oa rx cI cap X), (oa ry cI cap Y)] sz (some (.int (pI (eMt n X Y i n X Y j)))) (fun A t => zPD (dC, dI) classes A [(oc6 r (.ref rx) (.ref ry) (nI n) rg), (oa rx cI cap X), (oa ry cI cap Y)] t.heap) 0 0 := by
  refine zIn (own := "ScaleShop$Row") (loc := [(0, .ref r), (1, .int (nI i)), (2, .ref r), (3, .int (nI j))]) rfl rfl rfl rfl (fun p e s m below meth c hx hb hr hts hown hlocks hml hnm9 A hA hS hP hD hK hXN Q9 hQ9 ls hl => ?_)
  refine lv_iload_n hx hb dX7_partsMeet_0 rfl (lv_at hl 1 rfl) ?_
  refine lv_iconst (v := 1) hx hb dX7_partsMeet_1 rfl ?_
  refine lv_iadd hx hb dX7_partsMeet_2 ?_
  refine zz_i (v := nI (i + 1)) (nI_add i 1) ?_
  refine lv_aload_n hx hb dX7_partsMeet_3 rfl (lv_at hl 0 rfl) ?_
  refine va_get (D := (dC, dI)) (ci := 6) (v := .int (nI n)) (C := RX7) (T := TX7) (N := 4) hx hb hts inX7 hown hK hP 0 rfl rfl 2 (Nat.le_of_ble_eq_true rfl) (hts _ mw_175) (fun _ h9 => h9) rfl dX7_partsMeet_4 ?_
  have hj_1 : W p l e ({ frames := 0, cells := 0, slots := 0, locals := 0 } : Room) s m ([.ref r, .int (nI i), .ref r, .int (nI j)] : List Value).toArray below meth c s.heap [] 0 0 Q9 (F0 m 17 ls [.int (nI (nxt n i))]) := by
    have hnx := nxt_lt (n := n) (i := i) (by omega)
    refine lv_istore (lv' := [(4, .int (nI (nxt n i))), (0, .ref r), (1, .int (nI i)), (2, .ref r), (3, .int (nI j))]) hx hb dX7_partsMeet_17 hl (Nat.le_of_ble_eq_true rfl) rfl (fun ls hl => ?_)
    refine lv_iload_n hx hb dX7_partsMeet_19 rfl (lv_at hl 4 rfl) ?_
    refine lv_iconst (v := 1) hx hb dX7_partsMeet_20 rfl ?_
    refine lv_iadd hx hb dX7_partsMeet_21 ?_
    refine zz_i (v := nI (j + 1)) (nI_add j 1) ?_
    refine lv_aload_n hx hb dX7_partsMeet_22 rfl (lv_at hl 3 rfl) ?_
    refine va_get (D := (dC, dI)) (ci := 6) (v := .int (nI n)) (C := RX7) (T := TX7) (N := 4) hx hb hts inX7 hown hK hP 0 rfl rfl 2 (Nat.le_of_ble_eq_true rfl) (hts _ mw_175) (fun _ h9 => h9) rfl dX7_partsMeet_23 ?_
    have hj_2 : W p l e ({ frames := 0, cells := 0, slots := 0, locals := 0 } : Room) s m ([.ref r, .int (nI i), .ref r, .int (nI j)] : List Value).toArray below meth c s.heap [] 0 0 Q9 (F0 m 36 ls [.int (nI (nxt n j))]) := by
      have hnj := nxt_lt (n := n) (i := j) (by omega)
      refine lv_istore (lv' := [(5, .int (nI (nxt n j))), (4, .int (nI (nxt n i))), (0, .ref r), (1, .int (nI i)), (2, .ref r), (3, .int (nI j))]) hx hb dX7_partsMeet_36 hl (Nat.le_of_ble_eq_true rfl) rfl (fun ls hl => ?_)
      refine lv_aload_n hx hb dX7_partsMeet_38 rfl (lv_at hl 2 rfl) ?_
      refine va_get (D := (dC, dI)) (ci := 6) (v := .ref rx) (C := RX7) (T := TX7) (N := 4) hx hb hts inX7 hown hK hP 0 rfl rfl 0 (Nat.le_of_ble_eq_true rfl) (hts _ mw_161) (fun _ h9 => h9) rfl dX7_partsMeet_39 ?_
      refine lv_iload_n hx hb dX7_partsMeet_42 rfl (lv_at hl 3 rfl) ?_
      have b9_3 : i < cap := by omega
      have b9_4 : zlt (cap) := show cap < 2147483648 by omega
      refine z_iald hx hb hK hP 1 0 rfl rfl (e := i) rfl b9_3 b9_4 dX7_partsMeet_43 ?_
      refine lv_istore (lv' := [(6, .int (X i)), (5, .int (nI (nxt n j))), (4, .int (nI (nxt n i))), (0, .ref r), (1, .int (nI i)), (2, .ref r), (3, .int (nI j))]) hx hb dX7_partsMeet_44 hl (Nat.le_of_ble_eq_true rfl) rfl (fun ls hl => ?_)
      refine lv_aload_n hx hb dX7_partsMeet_46 rfl (lv_at hl 3 rfl) ?_
      refine va_get (D := (dC, dI)) (ci := 6) (v := .ref ry) (C := RX7) (T := TX7) (N := 4) hx hb hts inX7 hown hK hP 0 rfl rfl 1 (Nat.le_of_ble_eq_true rfl) (hts _ mw_168) (fun _ h9 => h9) rfl dX7_partsMeet_47 ?_
      refine lv_iload_n hx hb dX7_partsMeet_50 rfl (lv_at hl 4 rfl) ?_
      refine z_iald hx hb hK hP 2 0 rfl rfl (e := i) rfl b9_3 b9_4 dX7_partsMeet_51 ?_
      refine lv_istore (lv' := [(7, .int (Y i)), (6, .int (X i)), (5, .int (nI (nxt n j))), (4, .int (nI (nxt n i))), (0, .ref r), (1, .int (nI i)), (2, .ref r), (3, .int (nI j))]) hx hb dX7_partsMeet_52 hl (Nat.le_of_ble_eq_true rfl) rfl (fun ls hl => ?_)
      refine lv_aload_n hx hb dX7_partsMeet_54 rfl (lv_at hl 4 rfl) ?_
      refine va_get (D := (dC, dI)) (ci := 6) (v := .ref rx) (C := RX7) (T := TX7) (N := 4) hx hb hts inX7 hown hK hP 0 rfl rfl 0 (Nat.le_of_ble_eq_true rfl) (hts _ mw_161) (fun _ h9 => h9) rfl dX7_partsMeet_55 ?_
      refine lv_iload hx hb dX7_partsMeet_58 (lv_at hl 3 rfl) ?_
      have b9_5 : nxt n i < cap := by omega
      refine z_iald hx hb hK hP 1 0 rfl rfl (e := nxt n i) rfl b9_5 b9_4 dX7_partsMeet_60 ?_
      refine lv_istore (lv' := [(8, .int (X (nxt n i))), (7, .int (Y i)), (6, .int (X i)), (5, .int (nI (nxt n j))), (4, .int (nI (nxt n i))), (0, .ref r), (1, .int (nI i)), (2, .ref r), (3, .int (nI j))]) hx hb dX7_partsMeet_61 hl (Nat.le_of_ble_eq_true rfl) rfl (fun ls hl => ?_)
      refine lv_aload_n hx hb dX7_partsMeet_63 rfl (lv_at hl 5 rfl) ?_
      refine va_get (D := (dC, dI)) (ci := 6) (v := .ref ry) (C := RX7) (T := TX7) (N := 4) hx hb hts inX7 hown hK hP 0 rfl rfl 1 (Nat.le_of_ble_eq_true rfl) (hts _ mw_168) (fun _ h9 => h9) rfl dX7_partsMeet_64 ?_
      refine lv_iload hx hb dX7_partsMeet_67 (lv_at hl 4 rfl) ?_
      refine z_iald hx hb hK hP 2 0 rfl rfl (e := nxt n i) rfl b9_5 b9_4 dX7_partsMeet_69 ?_
      refine lv_istore (lv' := [(9, .int (Y (nxt n i))), (8, .int (X (nxt n i))), (7, .int (Y i)), (6, .int (X i)), (5, .int (nI (nxt n j))), (4, .int (nI (nxt n i))), (0, .ref r), (1, .int (nI i)), (2, .ref r), (3, .int (nI j))]) hx hb dX7_partsMeet_70 hl (Nat.le_of_ble_eq_true rfl) rfl (fun ls hl => ?_)
      refine lv_aload_n hx hb dX7_partsMeet_72 rfl (lv_at hl 8 rfl) ?_
      refine va_get (D := (dC, dI)) (ci := 6) (v := .ref rx) (C := RX7) (T := TX7) (N := 4) hx hb hts inX7 hown hK hP 0 rfl rfl 0 (Nat.le_of_ble_eq_true rfl) (hts _ mw_161) (fun _ h9 => h9) rfl dX7_partsMeet_73 ?_
      refine lv_iload_n hx hb dX7_partsMeet_76 rfl (lv_at hl 9 rfl) ?_
      have b9_6 : j < cap := by omega
      refine z_iald hx hb hK hP 1 0 rfl rfl (e := j) rfl b9_6 b9_4 dX7_partsMeet_77 ?_
      refine lv_istore (lv' := [(10, .int (X j)), (9, .int (Y (nxt n i))), (8, .int (X (nxt n i))), (7, .int (Y i)), (6, .int (X i)), (5, .int (nI (nxt n j))), (4, .int (nI (nxt n i))), (0, .ref r), (1, .int (nI i)), (2, .ref r), (3, .int (nI j))]) hx hb dX7_partsMeet_78 hl (Nat.le_of_ble_eq_true rfl) rfl (fun ls hl => ?_)
      refine lv_aload_n hx hb dX7_partsMeet_80 rfl (lv_at hl 9 rfl) ?_
      refine va_get (D := (dC, dI)) (ci := 6) (v := .ref ry) (C := RX7) (T := TX7) (N := 4) hx hb hts inX7 hown hK hP 0 rfl rfl 1 (Nat.le_of_ble_eq_true rfl) (hts _ mw_168) (fun _ h9 => h9) rfl dX7_partsMeet_81 ?_
      refine lv_iload_n hx hb dX7_partsMeet_84 rfl (lv_at hl 10 rfl) ?_
      refine z_iald hx hb hK hP 2 0 rfl rfl (e := j) rfl b9_6 b9_4 dX7_partsMeet_85 ?_
      refine lv_istore (lv' := [(11, .int (Y j)), (10, .int (X j)), (9, .int (Y (nxt n i))), (8, .int (X (nxt n i))), (7, .int (Y i)), (6, .int (X i)), (5, .int (nI (nxt n j))), (4, .int (nI (nxt n i))), (0, .ref r), (1, .int (nI i)), (2, .ref r), (3, .int (nI j))]) hx hb dX7_partsMeet_86 hl (Nat.le_of_ble_eq_true rfl) rfl (fun ls hl => ?_)
      refine lv_aload_n hx hb dX7_partsMeet_88 rfl (lv_at hl 10 rfl) ?_
      refine va_get (D := (dC, dI)) (ci := 6) (v := .ref rx) (C := RX7) (T := TX7) (N := 4) hx hb hts inX7 hown hK hP 0 rfl rfl 0 (Nat.le_of_ble_eq_true rfl) (hts _ mw_161) (fun _ h9 => h9) rfl dX7_partsMeet_89 ?_
      refine lv_iload hx hb dX7_partsMeet_92 (lv_at hl 6 rfl) ?_
      have b9_7 : nxt n j < cap := by omega
      refine z_iald hx hb hK hP 1 0 rfl rfl (e := nxt n j) rfl b9_7 b9_4 dX7_partsMeet_94 ?_
      refine lv_istore (lv' := [(12, .int (X (nxt n j))), (11, .int (Y j)), (10, .int (X j)), (9, .int (Y (nxt n i))), (8, .int (X (nxt n i))), (7, .int (Y i)), (6, .int (X i)), (5, .int (nI (nxt n j))), (4, .int (nI (nxt n i))), (0, .ref r), (1, .int (nI i)), (2, .ref r), (3, .int (nI j))]) hx hb dX7_partsMeet_95 hl (Nat.le_of_ble_eq_true rfl) rfl (fun ls hl => ?_)
      refine lv_aload_n hx hb dX7_partsMeet_97 rfl (lv_at hl 11 rfl) ?_
      refine va_get (D := (dC, dI)) (ci := 6) (v := .ref ry) (C := RX7) (T := TX7) (N := 4) hx hb hts inX7 hown hK hP 0 rfl rfl 1 (Nat.le_of_ble_eq_true rfl) (hts _ mw_168) (fun _ h9 => h9) rfl dX7_partsMeet_98 ?_
      refine lv_iload hx hb dX7_partsMeet_101 (lv_at hl 7 rfl) ?_
      refine z_iald hx hb hK hP 2 0 rfl rfl (e := nxt n j) rfl b9_7 b9_4 dX7_partsMeet_103 ?_
      refine lv_istore (lv' := [(13, .int (Y (nxt n j))), (12, .int (X (nxt n j))), (11, .int (Y j)), (10, .int (X j)), (9, .int (Y (nxt n i))), (8, .int (X (nxt n i))), (7, .int (Y i)), (6, .int (X i)), (5, .int (nI (nxt n j))), (4, .int (nI (nxt n i))), (0, .ref r), (1, .int (nI i)), (2, .ref r), (3, .int (nI j))]) hx hb dX7_partsMeet_104 hl (Nat.le_of_ble_eq_true rfl) rfl (fun ls hl => ?_)
      have hj_8 : (¬ (((X i).toInt < (X j).toInt ∧ (X (nxt n i)).toInt < (X j).toInt ∧ (X i).toInt < (X (nxt n j)).toInt ∧ (X (nxt n i)).toInt < (X (nxt n j)).toInt) ∨ ((X j).toInt < (X i).toInt ∧ (X j).toInt < (X (nxt n i)).toInt ∧ (X (nxt n j)).toInt < (X i).toInt ∧ (X (nxt n j)).toInt < (X (nxt n i)).toInt))) → W p l e ({ frames := 0, cells := 0, slots := 0, locals := 0 } : Room) s m ([.ref r, .int (nI i), .ref r, .int (nI j)] : List Value).toArray below meth c s.heap [] 0 0 Q9 (F0 m 164 ls []) := by
        intro hbx
        have hj_9 : (¬ (((Y i).toInt < (Y j).toInt ∧ (Y (nxt n i)).toInt < (Y j).toInt ∧ (Y i).toInt < (Y (nxt n j)).toInt ∧ (Y (nxt n i)).toInt < (Y (nxt n j)).toInt) ∨ ((Y j).toInt < (Y i).toInt ∧ (Y j).toInt < (Y (nxt n i)).toInt ∧ (Y (nxt n j)).toInt < (Y i).toInt ∧ (Y (nxt n j)).toInt < (Y (nxt n i)).toInt))) → W p l e ({ frames := 0, cells := 0, slots := 0, locals := 0 } : Room) s m ([.ref r, .int (nI i), .ref r, .int (nI j)] : List Value).toArray below meth c s.heap [] 0 0 Q9 (F0 m 222 ls []) := by
          intro hby
          refine lv_iload hx hb dX7_partsMeet_222 (lv_at hl 5 rfl) ?_
          refine lv_iload hx hb dX7_partsMeet_224 (lv_at hl 7 rfl) ?_
          refine lv_isub hx hb dX7_partsMeet_226 ?_
          refine lv_iload hx hb dX7_partsMeet_227 (lv_at hl 2 rfl) ?_
          refine lv_iload hx hb dX7_partsMeet_229 (lv_at hl 6 rfl) ?_
          refine lv_isub hx hb dX7_partsMeet_231 ?_
          refine lv_imul hx hb dX7_partsMeet_232 ?_
          refine lv_iload hx hb dX7_partsMeet_233 (lv_at hl 4 rfl) ?_
          refine lv_iload hx hb dX7_partsMeet_235 (lv_at hl 6 rfl) ?_
          refine lv_isub hx hb dX7_partsMeet_237 ?_
          refine lv_iload hx hb dX7_partsMeet_238 (lv_at hl 3 rfl) ?_
          refine lv_iload hx hb dX7_partsMeet_240 (lv_at hl 7 rfl) ?_
          refine lv_isub hx hb dX7_partsMeet_242 ?_
          refine lv_imul hx hb dX7_partsMeet_243 ?_
          refine lv_isub hx hb dX7_partsMeet_244 ?_
          refine zz_i (v := iI (cr (X i).toInt (Y i).toInt (X (nxt n i)).toInt (Y (nxt n i)).toInt (X j).toInt (Y j).toInt)) (crI (hp i hi).1 (hp i hi).2 (hp _ hnx).1 (hp _ hnx).2 (hp j hj).1 (hp j hj).2) ?_
          have hB1 := crBp (hp i hi).1 (hp i hi).2 (hp _ hnx).1 (hp _ hnx).2 (hp j hj).1 (hp j hj).2
          refine lv_istore (lv' := [(14, .int (iI (cr (X i).toInt (Y i).toInt (X (nxt n i)).toInt (Y (nxt n i)).toInt (X j).toInt (Y j).toInt))), (13, .int (Y (nxt n j))), (12, .int (X (nxt n j))), (11, .int (Y j)), (10, .int (X j)), (9, .int (Y (nxt n i))), (8, .int (X (nxt n i))), (7, .int (Y i)), (6, .int (X i)), (5, .int (nI (nxt n j))), (4, .int (nI (nxt n i))), (0, .ref r), (1, .int (nI i)), (2, .ref r), (3, .int (nI j))]) hx hb dX7_partsMeet_245 hl (Nat.le_of_ble_eq_true rfl) rfl (fun ls hl => ?_)
          refine lv_iload hx hb dX7_partsMeet_247 (lv_at hl 6 rfl) ?_
          refine lv_iload hx hb dX7_partsMeet_249 (lv_at hl 8 rfl) ?_
          refine lv_isub hx hb dX7_partsMeet_251 ?_
          refine lv_iload hx hb dX7_partsMeet_252 (lv_at hl 1 rfl) ?_
          refine lv_iload hx hb dX7_partsMeet_254 (lv_at hl 7 rfl) ?_
          refine lv_isub hx hb dX7_partsMeet_256 ?_
          refine lv_imul hx hb dX7_partsMeet_257 ?_
          refine lv_iload hx hb dX7_partsMeet_258 (lv_at hl 5 rfl) ?_
          refine lv_iload hx hb dX7_partsMeet_260 (lv_at hl 7 rfl) ?_
          refine lv_isub hx hb dX7_partsMeet_262 ?_
          refine lv_iload hx hb dX7_partsMeet_263 (lv_at hl 2 rfl) ?_
          refine lv_iload hx hb dX7_partsMeet_265 (lv_at hl 8 rfl) ?_
          refine lv_isub hx hb dX7_partsMeet_267 ?_
          refine lv_imul hx hb dX7_partsMeet_268 ?_
          refine lv_isub hx hb dX7_partsMeet_269 ?_
          refine zz_i (v := iI (cr (X i).toInt (Y i).toInt (X (nxt n i)).toInt (Y (nxt n i)).toInt (X (nxt n j)).toInt (Y (nxt n j)).toInt)) (crI (hp i hi).1 (hp i hi).2 (hp _ hnx).1 (hp _ hnx).2 (hp _ hnj).1 (hp _ hnj).2) ?_
          have hB2 := crBp (hp i hi).1 (hp i hi).2 (hp _ hnx).1 (hp _ hnx).2 (hp _ hnj).1 (hp _ hnj).2
          refine lv_istore (lv' := [(15, .int (iI (cr (X i).toInt (Y i).toInt (X (nxt n i)).toInt (Y (nxt n i)).toInt (X (nxt n j)).toInt (Y (nxt n j)).toInt))), (14, .int (iI (cr (X i).toInt (Y i).toInt (X (nxt n i)).toInt (Y (nxt n i)).toInt (X j).toInt (Y j).toInt))), (13, .int (Y (nxt n j))), (12, .int (X (nxt n j))), (11, .int (Y j)), (10, .int (X j)), (9, .int (Y (nxt n i))), (8, .int (X (nxt n i))), (7, .int (Y i)), (6, .int (X i)), (5, .int (nI (nxt n j))), (4, .int (nI (nxt n i))), (0, .ref r), (1, .int (nI i)), (2, .ref r), (3, .int (nI j))]) hx hb dX7_partsMeet_270 hl (Nat.le_of_ble_eq_true rfl) rfl (fun ls hl => ?_)
          have hj_10 : (¬ ((0 < cr (X i).toInt (Y i).toInt (X (nxt n i)).toInt (Y (nxt n i)).toInt (X j).toInt (Y j).toInt ∧ 0 < cr (X i).toInt (Y i).toInt (X (nxt n i)).toInt (Y (nxt n i)).toInt (X (nxt n j)).toInt (Y (nxt n j)).toInt) ∨ (cr (X i).toInt (Y i).toInt (X (nxt n i)).toInt (Y (nxt n i)).toInt (X j).toInt (Y j).toInt < 0 ∧ cr (X i).toInt (Y i).toInt (X (nxt n i)).toInt (Y (nxt n i)).toInt (X (nxt n j)).toInt (Y (nxt n j)).toInt < 0))) → W p l e ({ frames := 0, cells := 0, slots := 0, locals := 0 } : Room) s m ([.ref r, .int (nI i), .ref r, .int (nI j)] : List Value).toArray below meth c s.heap [] 0 0 Q9 (F0 m 294 ls []) := by
            intro hs1
            refine lv_iload hx hb dX7_partsMeet_294 (lv_at hl 3 rfl) ?_
            refine lv_iload hx hb dX7_partsMeet_296 (lv_at hl 5 rfl) ?_
            refine lv_isub hx hb dX7_partsMeet_298 ?_
            refine lv_iload hx hb dX7_partsMeet_299 (lv_at hl 8 rfl) ?_
            refine lv_iload hx hb dX7_partsMeet_301 (lv_at hl 4 rfl) ?_
            refine lv_isub hx hb dX7_partsMeet_303 ?_
            refine lv_imul hx hb dX7_partsMeet_304 ?_
            refine lv_iload hx hb dX7_partsMeet_305 (lv_at hl 2 rfl) ?_
            refine lv_iload hx hb dX7_partsMeet_307 (lv_at hl 4 rfl) ?_
            refine lv_isub hx hb dX7_partsMeet_309 ?_
            refine lv_iload hx hb dX7_partsMeet_310 (lv_at hl 9 rfl) ?_
            refine lv_iload hx hb dX7_partsMeet_312 (lv_at hl 5 rfl) ?_
            refine lv_isub hx hb dX7_partsMeet_314 ?_
            refine lv_imul hx hb dX7_partsMeet_315 ?_
            refine lv_isub hx hb dX7_partsMeet_316 ?_
            refine zz_i (v := iI (cr (X j).toInt (Y j).toInt (X (nxt n j)).toInt (Y (nxt n j)).toInt (X i).toInt (Y i).toInt)) (crI (hp j hj).1 (hp j hj).2 (hp _ hnj).1 (hp _ hnj).2 (hp i hi).1 (hp i hi).2) ?_
            have hB3 := crBp (hp j hj).1 (hp j hj).2 (hp _ hnj).1 (hp _ hnj).2 (hp i hi).1 (hp i hi).2
            refine lv_istore (lv' := [(16, .int (iI (cr (X j).toInt (Y j).toInt (X (nxt n j)).toInt (Y (nxt n j)).toInt (X i).toInt (Y i).toInt))), (15, .int (iI (cr (X i).toInt (Y i).toInt (X (nxt n i)).toInt (Y (nxt n i)).toInt (X (nxt n j)).toInt (Y (nxt n j)).toInt))), (14, .int (iI (cr (X i).toInt (Y i).toInt (X (nxt n i)).toInt (Y (nxt n i)).toInt (X j).toInt (Y j).toInt))), (13, .int (Y (nxt n j))), (12, .int (X (nxt n j))), (11, .int (Y j)), (10, .int (X j)), (9, .int (Y (nxt n i))), (8, .int (X (nxt n i))), (7, .int (Y i)), (6, .int (X i)), (5, .int (nI (nxt n j))), (4, .int (nI (nxt n i))), (0, .ref r), (1, .int (nI i)), (2, .ref r), (3, .int (nI j))]) hx hb dX7_partsMeet_317 hl (Nat.le_of_ble_eq_true rfl) rfl (fun ls hl => ?_)
            refine lv_iload hx hb dX7_partsMeet_319 (lv_at hl 4 rfl) ?_
            refine lv_iload hx hb dX7_partsMeet_321 (lv_at hl 6 rfl) ?_
            refine lv_isub hx hb dX7_partsMeet_323 ?_
            refine lv_iload hx hb dX7_partsMeet_324 (lv_at hl 7 rfl) ?_
            refine lv_iload hx hb dX7_partsMeet_326 (lv_at hl 5 rfl) ?_
            refine lv_isub hx hb dX7_partsMeet_328 ?_
            refine lv_imul hx hb dX7_partsMeet_329 ?_
            refine lv_iload hx hb dX7_partsMeet_330 (lv_at hl 3 rfl) ?_
            refine lv_iload hx hb dX7_partsMeet_332 (lv_at hl 5 rfl) ?_
            refine lv_isub hx hb dX7_partsMeet_334 ?_
            refine lv_iload hx hb dX7_partsMeet_335 (lv_at hl 8 rfl) ?_
            refine lv_iload hx hb dX7_partsMeet_337 (lv_at hl 6 rfl) ?_
            refine lv_isub hx hb dX7_partsMeet_339 ?_
            refine lv_imul hx hb dX7_partsMeet_340 ?_
            refine lv_isub hx hb dX7_partsMeet_341 ?_
            refine zz_i (v := iI (cr (X j).toInt (Y j).toInt (X (nxt n j)).toInt (Y (nxt n j)).toInt (X (nxt n i)).toInt (Y (nxt n i)).toInt)) (crI (hp j hj).1 (hp j hj).2 (hp _ hnj).1 (hp _ hnj).2 (hp _ hnx).1 (hp _ hnx).2) ?_
            have hB4 := crBp (hp j hj).1 (hp j hj).2 (hp _ hnj).1 (hp _ hnj).2 (hp _ hnx).1 (hp _ hnx).2
            refine lv_istore (lv' := [(17, .int (iI (cr (X j).toInt (Y j).toInt (X (nxt n j)).toInt (Y (nxt n j)).toInt (X (nxt n i)).toInt (Y (nxt n i)).toInt))), (16, .int (iI (cr (X j).toInt (Y j).toInt (X (nxt n j)).toInt (Y (nxt n j)).toInt (X i).toInt (Y i).toInt))), (15, .int (iI (cr (X i).toInt (Y i).toInt (X (nxt n i)).toInt (Y (nxt n i)).toInt (X (nxt n j)).toInt (Y (nxt n j)).toInt))), (14, .int (iI (cr (X i).toInt (Y i).toInt (X (nxt n i)).toInt (Y (nxt n i)).toInt (X j).toInt (Y j).toInt))), (13, .int (Y (nxt n j))), (12, .int (X (nxt n j))), (11, .int (Y j)), (10, .int (X j)), (9, .int (Y (nxt n i))), (8, .int (X (nxt n i))), (7, .int (Y i)), (6, .int (X i)), (5, .int (nI (nxt n j))), (4, .int (nI (nxt n i))), (0, .ref r), (1, .int (nI i)), (2, .ref r), (3, .int (nI j))]) hx hb dX7_partsMeet_342 hl (Nat.le_of_ble_eq_true rfl) rfl (fun ls hl => ?_)
            refine lv_iload hx hb dX7_partsMeet_344 (lv_at hl 1 rfl) ?_
            refine lv_if_le (tgt := 354) hx hb dX7_partsMeet_346 rfl (fun c_11 => ?_) (fun c_11 => ?_)
            · have c_11 : (cr (X j).toInt (Y j).toInt (X (nxt n j)).toInt (Y (nxt n j)).toInt (X i).toInt (Y i).toInt) ≤ 0 := zc_le (iI_toInt (by omega)) rfl c_11
              refine lv_iload hx hb dX7_partsMeet_354 (lv_at hl 1 rfl) ?_
              refine lv_if_ge (tgt := 364) hx hb dX7_partsMeet_356 rfl (fun c_12 => ?_) (fun c_12 => ?_)
              · have c_12 : 0 ≤ (cr (X j).toInt (Y j).toInt (X (nxt n j)).toInt (Y (nxt n j)).toInt (X i).toInt (Y i).toInt) := zc_le rfl (iI_toInt (by omega)) c_12
                refine lv_iconst (v := 1) hx hb dX7_partsMeet_364 rfl ?_
                refine lv_goto (tgt := 369) hx hb dX7_partsMeet_365 rfl ?_
                obtain ⟨hP9, hD9⟩ := zu_sub (wc := [_, _, _]) hP hD [true, true, true] rfl rfl
                rw [hQ9]
                exact W.zret (ty := .boolean) (v := 1) hx hb hr (rfl) (fun t ht hW => ⟨⟨congrArg (fun z => Outcome.returned (some (Value.int z))) (show (1 : Int32) = pI (eMt n X Y i n X Y j) from (zp_t (by unfold eMt mtC; first | exact ⟨hbx, hby, hs1, by omega⟩ | exact fun h => h.2.2.2 (by omega))).symm), by rw [ht]; exact hP9, hD9⟩, hS.F ht⟩) hS.2.2 dX7_partsMeet_369
              · have c_12 : (cr (X j).toInt (Y j).toInt (X (nxt n j)).toInt (Y (nxt n j)).toInt (X i).toInt (Y i).toInt) < 0 := zc_nle rfl (iI_toInt (by omega)) c_12
                refine lv_iload hx hb dX7_partsMeet_359 (lv_at hl 0 rfl) ?_
                refine lv_if_lt (tgt := 368) hx hb dX7_partsMeet_361 rfl (fun c_13 => ?_) (fun c_13 => ?_)
                · have c_13 : (cr (X j).toInt (Y j).toInt (X (nxt n j)).toInt (Y (nxt n j)).toInt (X (nxt n i)).toInt (Y (nxt n i)).toInt) < 0 := zc_lt (iI_toInt (by omega)) rfl c_13
                  refine lv_iconst (v := 0) hx hb dX7_partsMeet_368 rfl ?_
                  obtain ⟨hP9, hD9⟩ := zu_sub (wc := [_, _, _]) hP hD [true, true, true] rfl rfl
                  rw [hQ9]
                  exact W.zret (ty := .boolean) (v := 0) hx hb hr (rfl) (fun t ht hW => ⟨⟨congrArg (fun z => Outcome.returned (some (Value.int z))) (show (0 : Int32) = pI (eMt n X Y i n X Y j) from (zp_f (by unfold eMt mtC; first | exact ⟨hbx, hby, hs1, by omega⟩ | exact fun h => h.2.2.2 (by omega))).symm), by rw [ht]; exact hP9, hD9⟩, hS.F ht⟩) hS.2.2 dX7_partsMeet_369
                · have c_13 : 0 ≤ (cr (X j).toInt (Y j).toInt (X (nxt n j)).toInt (Y (nxt n j)).toInt (X (nxt n i)).toInt (Y (nxt n i)).toInt) := zc_nlt (iI_toInt (by omega)) rfl c_13
                  refine lv_iconst (v := 1) hx hb dX7_partsMeet_364 rfl ?_
                  refine lv_goto (tgt := 369) hx hb dX7_partsMeet_365 rfl ?_
                  obtain ⟨hP9, hD9⟩ := zu_sub (wc := [_, _, _]) hP hD [true, true, true] rfl rfl
                  rw [hQ9]
                  exact W.zret (ty := .boolean) (v := 1) hx hb hr (rfl) (fun t ht hW => ⟨⟨congrArg (fun z => Outcome.returned (some (Value.int z))) (show (1 : Int32) = pI (eMt n X Y i n X Y j) from (zp_t (by unfold eMt mtC; first | exact ⟨hbx, hby, hs1, by omega⟩ | exact fun h => h.2.2.2 (by omega))).symm), by rw [ht]; exact hP9, hD9⟩, hS.F ht⟩) hS.2.2 dX7_partsMeet_369
            · have c_11 : 0 < (cr (X j).toInt (Y j).toInt (X (nxt n j)).toInt (Y (nxt n j)).toInt (X i).toInt (Y i).toInt) := zc_nle (iI_toInt (by omega)) rfl c_11
              refine lv_iload hx hb dX7_partsMeet_349 (lv_at hl 0 rfl) ?_
              refine lv_if_gt (tgt := 368) hx hb dX7_partsMeet_351 rfl (fun c_14 => ?_) (fun c_14 => ?_)
              · have c_14 : 0 < (cr (X j).toInt (Y j).toInt (X (nxt n j)).toInt (Y (nxt n j)).toInt (X (nxt n i)).toInt (Y (nxt n i)).toInt) := zc_lt rfl (iI_toInt (by omega)) c_14
                refine lv_iconst (v := 0) hx hb dX7_partsMeet_368 rfl ?_
                obtain ⟨hP9, hD9⟩ := zu_sub (wc := [_, _, _]) hP hD [true, true, true] rfl rfl
                rw [hQ9]
                exact W.zret (ty := .boolean) (v := 0) hx hb hr (rfl) (fun t ht hW => ⟨⟨congrArg (fun z => Outcome.returned (some (Value.int z))) (show (0 : Int32) = pI (eMt n X Y i n X Y j) from (zp_f (by unfold eMt mtC; first | exact ⟨hbx, hby, hs1, by omega⟩ | exact fun h => h.2.2.2 (by omega))).symm), by rw [ht]; exact hP9, hD9⟩, hS.F ht⟩) hS.2.2 dX7_partsMeet_369
              · have c_14 : (cr (X j).toInt (Y j).toInt (X (nxt n j)).toInt (Y (nxt n j)).toInt (X (nxt n i)).toInt (Y (nxt n i)).toInt) ≤ 0 := zc_nlt rfl (iI_toInt (by omega)) c_14
                refine lv_iload hx hb dX7_partsMeet_354 (lv_at hl 1 rfl) ?_
                refine lv_if_ge (tgt := 364) hx hb dX7_partsMeet_356 rfl (fun c_15 => ?_) (fun c_15 => ?_)
                · have c_15 : 0 ≤ (cr (X j).toInt (Y j).toInt (X (nxt n j)).toInt (Y (nxt n j)).toInt (X i).toInt (Y i).toInt) := zc_le rfl (iI_toInt (by omega)) c_15
                  refine lv_iconst (v := 1) hx hb dX7_partsMeet_364 rfl ?_
                  refine lv_goto (tgt := 369) hx hb dX7_partsMeet_365 rfl ?_
                  obtain ⟨hP9, hD9⟩ := zu_sub (wc := [_, _, _]) hP hD [true, true, true] rfl rfl
                  rw [hQ9]
                  exact W.zret (ty := .boolean) (v := 1) hx hb hr (rfl) (fun t ht hW => ⟨⟨congrArg (fun z => Outcome.returned (some (Value.int z))) (show (1 : Int32) = pI (eMt n X Y i n X Y j) from (zp_t (by unfold eMt mtC; first | exact ⟨hbx, hby, hs1, by omega⟩ | exact fun h => h.2.2.2 (by omega))).symm), by rw [ht]; exact hP9, hD9⟩, hS.F ht⟩) hS.2.2 dX7_partsMeet_369
                · have c_15 : (cr (X j).toInt (Y j).toInt (X (nxt n j)).toInt (Y (nxt n j)).toInt (X i).toInt (Y i).toInt) < 0 := zc_nle rfl (iI_toInt (by omega)) c_15
                  refine lv_iload hx hb dX7_partsMeet_359 (lv_at hl 0 rfl) ?_
                  refine lv_if_lt (tgt := 368) hx hb dX7_partsMeet_361 rfl (fun c_16 => ?_) (fun c_16 => ?_)
                  · have c_16 : (cr (X j).toInt (Y j).toInt (X (nxt n j)).toInt (Y (nxt n j)).toInt (X (nxt n i)).toInt (Y (nxt n i)).toInt) < 0 := zc_lt (iI_toInt (by omega)) rfl c_16
                    refine lv_iconst (v := 0) hx hb dX7_partsMeet_368 rfl ?_
                    obtain ⟨hP9, hD9⟩ := zu_sub (wc := [_, _, _]) hP hD [true, true, true] rfl rfl
                    rw [hQ9]
                    exact W.zret (ty := .boolean) (v := 0) hx hb hr (rfl) (fun t ht hW => ⟨⟨congrArg (fun z => Outcome.returned (some (Value.int z))) (show (0 : Int32) = pI (eMt n X Y i n X Y j) from (zp_f (by unfold eMt mtC; first | exact ⟨hbx, hby, hs1, by omega⟩ | exact fun h => h.2.2.2 (by omega))).symm), by rw [ht]; exact hP9, hD9⟩, hS.F ht⟩) hS.2.2 dX7_partsMeet_369
                  · have c_16 : 0 ≤ (cr (X j).toInt (Y j).toInt (X (nxt n j)).toInt (Y (nxt n j)).toInt (X (nxt n i)).toInt (Y (nxt n i)).toInt) := zc_nlt (iI_toInt (by omega)) rfl c_16
                    refine lv_iconst (v := 1) hx hb dX7_partsMeet_364 rfl ?_
                    refine lv_goto (tgt := 369) hx hb dX7_partsMeet_365 rfl ?_
                    obtain ⟨hP9, hD9⟩ := zu_sub (wc := [_, _, _]) hP hD [true, true, true] rfl rfl
                    rw [hQ9]
                    exact W.zret (ty := .boolean) (v := 1) hx hb hr (rfl) (fun t ht hW => ⟨⟨congrArg (fun z => Outcome.returned (some (Value.int z))) (show (1 : Int32) = pI (eMt n X Y i n X Y j) from (zp_t (by unfold eMt mtC; first | exact ⟨hbx, hby, hs1, by omega⟩ | exact fun h => h.2.2.2 (by omega))).symm), by rw [ht]; exact hP9, hD9⟩, hS.F ht⟩) hS.2.2 dX7_partsMeet_369
          refine lv_iload hx hb dX7_partsMeet_272 (lv_at hl 1 rfl) ?_
          refine lv_if_le (tgt := 282) hx hb dX7_partsMeet_274 rfl (fun c_17 => ?_) (fun c_17 => ?_)
          · have c_17 : (cr (X i).toInt (Y i).toInt (X (nxt n i)).toInt (Y (nxt n i)).toInt (X j).toInt (Y j).toInt) ≤ 0 := zc_le (iI_toInt (by omega)) rfl c_17
            refine lv_iload hx hb dX7_partsMeet_282 (lv_at hl 1 rfl) ?_
            refine lv_if_ge (tgt := 294) hx hb dX7_partsMeet_284 rfl (fun c_18 => ?_) (fun c_18 => ?_)
            · have c_18 : 0 ≤ (cr (X i).toInt (Y i).toInt (X (nxt n i)).toInt (Y (nxt n i)).toInt (X j).toInt (Y j).toInt) := zc_le rfl (iI_toInt (by omega)) c_18
              exact hj_10 (by omega)
            · have c_18 : (cr (X i).toInt (Y i).toInt (X (nxt n i)).toInt (Y (nxt n i)).toInt (X j).toInt (Y j).toInt) < 0 := zc_nle rfl (iI_toInt (by omega)) c_18
              refine lv_iload hx hb dX7_partsMeet_287 (lv_at hl 0 rfl) ?_
              refine lv_if_ge (tgt := 294) hx hb dX7_partsMeet_289 rfl (fun c_19 => ?_) (fun c_19 => ?_)
              · have c_19 : 0 ≤ (cr (X i).toInt (Y i).toInt (X (nxt n i)).toInt (Y (nxt n i)).toInt (X (nxt n j)).toInt (Y (nxt n j)).toInt) := zc_le rfl (iI_toInt (by omega)) c_19
                exact hj_10 (by omega)
              · have c_19 : (cr (X i).toInt (Y i).toInt (X (nxt n i)).toInt (Y (nxt n i)).toInt (X (nxt n j)).toInt (Y (nxt n j)).toInt) < 0 := zc_nle rfl (iI_toInt (by omega)) c_19
                refine lv_iconst (v := 0) hx hb dX7_partsMeet_292 rfl ?_
                obtain ⟨hP9, hD9⟩ := zu_sub (wc := [_, _, _]) hP hD [true, true, true] rfl rfl
                rw [hQ9]
                exact W.zret (ty := .boolean) (v := 0) hx hb hr (rfl) (fun t ht hW => ⟨⟨congrArg (fun z => Outcome.returned (some (Value.int z))) (show (0 : Int32) = pI (eMt n X Y i n X Y j) from (zp_f (by unfold eMt mtC; intro h; exact h.2.2.1 (by omega))).symm), by rw [ht]; exact hP9, hD9⟩, hS.F ht⟩) hS.2.2 dX7_partsMeet_293
          · have c_17 : 0 < (cr (X i).toInt (Y i).toInt (X (nxt n i)).toInt (Y (nxt n i)).toInt (X j).toInt (Y j).toInt) := zc_nle (iI_toInt (by omega)) rfl c_17
            refine lv_iload hx hb dX7_partsMeet_277 (lv_at hl 0 rfl) ?_
            refine lv_if_gt (tgt := 292) hx hb dX7_partsMeet_279 rfl (fun c_20 => ?_) (fun c_20 => ?_)
            · have c_20 : 0 < (cr (X i).toInt (Y i).toInt (X (nxt n i)).toInt (Y (nxt n i)).toInt (X (nxt n j)).toInt (Y (nxt n j)).toInt) := zc_lt rfl (iI_toInt (by omega)) c_20
              refine lv_iconst (v := 0) hx hb dX7_partsMeet_292 rfl ?_
              obtain ⟨hP9, hD9⟩ := zu_sub (wc := [_, _, _]) hP hD [true, true, true] rfl rfl
              rw [hQ9]
              exact W.zret (ty := .boolean) (v := 0) hx hb hr (rfl) (fun t ht hW => ⟨⟨congrArg (fun z => Outcome.returned (some (Value.int z))) (show (0 : Int32) = pI (eMt n X Y i n X Y j) from (zp_f (by unfold eMt mtC; intro h; exact h.2.2.1 (by omega))).symm), by rw [ht]; exact hP9, hD9⟩, hS.F ht⟩) hS.2.2 dX7_partsMeet_293
            · have c_20 : (cr (X i).toInt (Y i).toInt (X (nxt n i)).toInt (Y (nxt n i)).toInt (X (nxt n j)).toInt (Y (nxt n j)).toInt) ≤ 0 := zc_nlt rfl (iI_toInt (by omega)) c_20
              refine lv_iload hx hb dX7_partsMeet_282 (lv_at hl 1 rfl) ?_
              refine lv_if_ge (tgt := 294) hx hb dX7_partsMeet_284 rfl (fun c_21 => ?_) (fun c_21 => ?_)
              · have c_21 : 0 ≤ (cr (X i).toInt (Y i).toInt (X (nxt n i)).toInt (Y (nxt n i)).toInt (X j).toInt (Y j).toInt) := zc_le rfl (iI_toInt (by omega)) c_21
                exact hj_10 (by omega)
              · have c_21 : (cr (X i).toInt (Y i).toInt (X (nxt n i)).toInt (Y (nxt n i)).toInt (X j).toInt (Y j).toInt) < 0 := zc_nle rfl (iI_toInt (by omega)) c_21
                refine lv_iload hx hb dX7_partsMeet_287 (lv_at hl 0 rfl) ?_
                refine lv_if_ge (tgt := 294) hx hb dX7_partsMeet_289 rfl (fun c_22 => ?_) (fun c_22 => ?_)
                · have c_22 : 0 ≤ (cr (X i).toInt (Y i).toInt (X (nxt n i)).toInt (Y (nxt n i)).toInt (X (nxt n j)).toInt (Y (nxt n j)).toInt) := zc_le rfl (iI_toInt (by omega)) c_22
                  exact hj_10 (by omega)
                · have c_22 : (cr (X i).toInt (Y i).toInt (X (nxt n i)).toInt (Y (nxt n i)).toInt (X (nxt n j)).toInt (Y (nxt n j)).toInt) < 0 := zc_nle rfl (iI_toInt (by omega)) c_22
                  refine lv_iconst (v := 0) hx hb dX7_partsMeet_292 rfl ?_
                  obtain ⟨hP9, hD9⟩ := zu_sub (wc := [_, _, _]) hP hD [true, true, true] rfl rfl
                  rw [hQ9]
                  exact W.zret (ty := .boolean) (v := 0) hx hb hr (rfl) (fun t ht hW => ⟨⟨congrArg (fun z => Outcome.returned (some (Value.int z))) (show (0 : Int32) = pI (eMt n X Y i n X Y j) from (zp_f (by unfold eMt mtC; intro h; exact h.2.2.1 (by omega))).symm), by rw [ht]; exact hP9, hD9⟩, hS.F ht⟩) hS.2.2 dX7_partsMeet_293
        have hj_23 : (¬ ((Y i).toInt < (Y j).toInt ∧ (Y (nxt n i)).toInt < (Y j).toInt ∧ (Y i).toInt < (Y (nxt n j)).toInt ∧ (Y (nxt n i)).toInt < (Y (nxt n j)).toInt)) → W p l e ({ frames := 0, cells := 0, slots := 0, locals := 0 } : Room) s m ([.ref r, .int (nI i), .ref r, .int (nI j)] : List Value).toArray below meth c s.heap [] 0 0 Q9 (F0 m 192 ls []) := by
          intro hby0
          refine lv_iload hx hb dX7_partsMeet_192 (lv_at hl 6 rfl) ?_
          refine lv_iload hx hb dX7_partsMeet_194 (lv_at hl 2 rfl) ?_
          refine lv_icmp_le (tgt := 222) hx hb dX7_partsMeet_196 rfl (fun c_24 => ?_) (fun c_24 => ?_)
          · have c_24 : (Y i).toInt ≤ (Y j).toInt := zc_le rfl rfl c_24
            exact hj_9 (by omega)
          · have c_24 : (Y j).toInt < (Y i).toInt := zc_nle rfl rfl c_24
            refine lv_iload hx hb dX7_partsMeet_199 (lv_at hl 4 rfl) ?_
            refine lv_iload hx hb dX7_partsMeet_201 (lv_at hl 2 rfl) ?_
            refine lv_icmp_le (tgt := 222) hx hb dX7_partsMeet_203 rfl (fun c_25 => ?_) (fun c_25 => ?_)
            · have c_25 : (Y (nxt n i)).toInt ≤ (Y j).toInt := zc_le rfl rfl c_25
              exact hj_9 (by omega)
            · have c_25 : (Y j).toInt < (Y (nxt n i)).toInt := zc_nle rfl rfl c_25
              refine lv_iload hx hb dX7_partsMeet_206 (lv_at hl 6 rfl) ?_
              refine lv_iload hx hb dX7_partsMeet_208 (lv_at hl 0 rfl) ?_
              refine lv_icmp_le (tgt := 222) hx hb dX7_partsMeet_210 rfl (fun c_26 => ?_) (fun c_26 => ?_)
              · have c_26 : (Y i).toInt ≤ (Y (nxt n j)).toInt := zc_le rfl rfl c_26
                exact hj_9 (by omega)
              · have c_26 : (Y (nxt n j)).toInt < (Y i).toInt := zc_nle rfl rfl c_26
                refine lv_iload hx hb dX7_partsMeet_213 (lv_at hl 4 rfl) ?_
                refine lv_iload hx hb dX7_partsMeet_215 (lv_at hl 0 rfl) ?_
                refine lv_icmp_le (tgt := 222) hx hb dX7_partsMeet_217 rfl (fun c_27 => ?_) (fun c_27 => ?_)
                · have c_27 : (Y (nxt n i)).toInt ≤ (Y (nxt n j)).toInt := zc_le rfl rfl c_27
                  exact hj_9 (by omega)
                · have c_27 : (Y (nxt n j)).toInt < (Y (nxt n i)).toInt := zc_nle rfl rfl c_27
                  refine lv_iconst (v := 0) hx hb dX7_partsMeet_220 rfl ?_
                  obtain ⟨hP9, hD9⟩ := zu_sub (wc := [_, _, _]) hP hD [true, true, true] rfl rfl
                  rw [hQ9]
                  exact W.zret (ty := .boolean) (v := 0) hx hb hr (rfl) (fun t ht hW => ⟨⟨congrArg (fun z => Outcome.returned (some (Value.int z))) (show (0 : Int32) = pI (eMt n X Y i n X Y j) from (zp_f (by unfold eMt mtC; intro h; exact h.2.1 (by omega))).symm), by rw [ht]; exact hP9, hD9⟩, hS.F ht⟩) hS.2.2 dX7_partsMeet_221
        refine lv_iload hx hb dX7_partsMeet_164 (lv_at hl 6 rfl) ?_
        refine lv_iload hx hb dX7_partsMeet_166 (lv_at hl 2 rfl) ?_
        refine lv_icmp_ge (tgt := 192) hx hb dX7_partsMeet_168 rfl (fun c_28 => ?_) (fun c_28 => ?_)
        · have c_28 : (Y j).toInt ≤ (Y i).toInt := zc_le rfl rfl c_28
          exact hj_23 (by omega)
        · have c_28 : (Y i).toInt < (Y j).toInt := zc_nle rfl rfl c_28
          refine lv_iload hx hb dX7_partsMeet_171 (lv_at hl 4 rfl) ?_
          refine lv_iload hx hb dX7_partsMeet_173 (lv_at hl 2 rfl) ?_
          refine lv_icmp_ge (tgt := 192) hx hb dX7_partsMeet_175 rfl (fun c_29 => ?_) (fun c_29 => ?_)
          · have c_29 : (Y j).toInt ≤ (Y (nxt n i)).toInt := zc_le rfl rfl c_29
            exact hj_23 (by omega)
          · have c_29 : (Y (nxt n i)).toInt < (Y j).toInt := zc_nle rfl rfl c_29
            refine lv_iload hx hb dX7_partsMeet_178 (lv_at hl 6 rfl) ?_
            refine lv_iload hx hb dX7_partsMeet_180 (lv_at hl 0 rfl) ?_
            refine lv_icmp_ge (tgt := 192) hx hb dX7_partsMeet_182 rfl (fun c_30 => ?_) (fun c_30 => ?_)
            · have c_30 : (Y (nxt n j)).toInt ≤ (Y i).toInt := zc_le rfl rfl c_30
              exact hj_23 (by omega)
            · have c_30 : (Y i).toInt < (Y (nxt n j)).toInt := zc_nle rfl rfl c_30
              refine lv_iload hx hb dX7_partsMeet_185 (lv_at hl 4 rfl) ?_
              refine lv_iload hx hb dX7_partsMeet_187 (lv_at hl 0 rfl) ?_
              refine lv_icmp_lt (tgt := 220) hx hb dX7_partsMeet_189 rfl (fun c_31 => ?_) (fun c_31 => ?_)
              · have c_31 : (Y (nxt n i)).toInt < (Y (nxt n j)).toInt := zc_lt rfl rfl c_31
                refine lv_iconst (v := 0) hx hb dX7_partsMeet_220 rfl ?_
                obtain ⟨hP9, hD9⟩ := zu_sub (wc := [_, _, _]) hP hD [true, true, true] rfl rfl
                rw [hQ9]
                exact W.zret (ty := .boolean) (v := 0) hx hb hr (rfl) (fun t ht hW => ⟨⟨congrArg (fun z => Outcome.returned (some (Value.int z))) (show (0 : Int32) = pI (eMt n X Y i n X Y j) from (zp_f (by unfold eMt mtC; intro h; exact h.2.1 (by omega))).symm), by rw [ht]; exact hP9, hD9⟩, hS.F ht⟩) hS.2.2 dX7_partsMeet_221
              · have c_31 : (Y (nxt n j)).toInt ≤ (Y (nxt n i)).toInt := zc_nlt rfl rfl c_31
                exact hj_23 (by omega)
      have hj_32 : (¬ ((X i).toInt < (X j).toInt ∧ (X (nxt n i)).toInt < (X j).toInt ∧ (X i).toInt < (X (nxt n j)).toInt ∧ (X (nxt n i)).toInt < (X (nxt n j)).toInt)) → W p l e ({ frames := 0, cells := 0, slots := 0, locals := 0 } : Room) s m ([.ref r, .int (nI i), .ref r, .int (nI j)] : List Value).toArray below meth c s.heap [] 0 0 Q9 (F0 m 134 ls []) := by
        intro hbx0
        refine lv_iload hx hb dX7_partsMeet_134 (lv_at hl 7 rfl) ?_
        refine lv_iload hx hb dX7_partsMeet_136 (lv_at hl 3 rfl) ?_
        refine lv_icmp_le (tgt := 164) hx hb dX7_partsMeet_138 rfl (fun c_33 => ?_) (fun c_33 => ?_)
        · have c_33 : (X i).toInt ≤ (X j).toInt := zc_le rfl rfl c_33
          exact hj_8 (by omega)
        · have c_33 : (X j).toInt < (X i).toInt := zc_nle rfl rfl c_33
          refine lv_iload hx hb dX7_partsMeet_141 (lv_at hl 5 rfl) ?_
          refine lv_iload hx hb dX7_partsMeet_143 (lv_at hl 3 rfl) ?_
          refine lv_icmp_le (tgt := 164) hx hb dX7_partsMeet_145 rfl (fun c_34 => ?_) (fun c_34 => ?_)
          · have c_34 : (X (nxt n i)).toInt ≤ (X j).toInt := zc_le rfl rfl c_34
            exact hj_8 (by omega)
          · have c_34 : (X j).toInt < (X (nxt n i)).toInt := zc_nle rfl rfl c_34
            refine lv_iload hx hb dX7_partsMeet_148 (lv_at hl 7 rfl) ?_
            refine lv_iload hx hb dX7_partsMeet_150 (lv_at hl 1 rfl) ?_
            refine lv_icmp_le (tgt := 164) hx hb dX7_partsMeet_152 rfl (fun c_35 => ?_) (fun c_35 => ?_)
            · have c_35 : (X i).toInt ≤ (X (nxt n j)).toInt := zc_le rfl rfl c_35
              exact hj_8 (by omega)
            · have c_35 : (X (nxt n j)).toInt < (X i).toInt := zc_nle rfl rfl c_35
              refine lv_iload hx hb dX7_partsMeet_155 (lv_at hl 5 rfl) ?_
              refine lv_iload hx hb dX7_partsMeet_157 (lv_at hl 1 rfl) ?_
              refine lv_icmp_le (tgt := 164) hx hb dX7_partsMeet_159 rfl (fun c_36 => ?_) (fun c_36 => ?_)
              · have c_36 : (X (nxt n i)).toInt ≤ (X (nxt n j)).toInt := zc_le rfl rfl c_36
                exact hj_8 (by omega)
              · have c_36 : (X (nxt n j)).toInt < (X (nxt n i)).toInt := zc_nle rfl rfl c_36
                refine lv_iconst (v := 0) hx hb dX7_partsMeet_162 rfl ?_
                obtain ⟨hP9, hD9⟩ := zu_sub (wc := [_, _, _]) hP hD [true, true, true] rfl rfl
                rw [hQ9]
                exact W.zret (ty := .boolean) (v := 0) hx hb hr (rfl) (fun t ht hW => ⟨⟨congrArg (fun z => Outcome.returned (some (Value.int z))) (show (0 : Int32) = pI (eMt n X Y i n X Y j) from (zp_f (by unfold eMt mtC; intro h; exact h.1 (by omega))).symm), by rw [ht]; exact hP9, hD9⟩, hS.F ht⟩) hS.2.2 dX7_partsMeet_163
      refine lv_iload hx hb dX7_partsMeet_106 (lv_at hl 7 rfl) ?_
      refine lv_iload hx hb dX7_partsMeet_108 (lv_at hl 3 rfl) ?_
      refine lv_icmp_ge (tgt := 134) hx hb dX7_partsMeet_110 rfl (fun c_37 => ?_) (fun c_37 => ?_)
      · have c_37 : (X j).toInt ≤ (X i).toInt := zc_le rfl rfl c_37
        exact hj_32 (by omega)
      · have c_37 : (X i).toInt < (X j).toInt := zc_nle rfl rfl c_37
        refine lv_iload hx hb dX7_partsMeet_113 (lv_at hl 5 rfl) ?_
        refine lv_iload hx hb dX7_partsMeet_115 (lv_at hl 3 rfl) ?_
        refine lv_icmp_ge (tgt := 134) hx hb dX7_partsMeet_117 rfl (fun c_38 => ?_) (fun c_38 => ?_)
        · have c_38 : (X j).toInt ≤ (X (nxt n i)).toInt := zc_le rfl rfl c_38
          exact hj_32 (by omega)
        · have c_38 : (X (nxt n i)).toInt < (X j).toInt := zc_nle rfl rfl c_38
          refine lv_iload hx hb dX7_partsMeet_120 (lv_at hl 7 rfl) ?_
          refine lv_iload hx hb dX7_partsMeet_122 (lv_at hl 1 rfl) ?_
          refine lv_icmp_ge (tgt := 134) hx hb dX7_partsMeet_124 rfl (fun c_39 => ?_) (fun c_39 => ?_)
          · have c_39 : (X (nxt n j)).toInt ≤ (X i).toInt := zc_le rfl rfl c_39
            exact hj_32 (by omega)
          · have c_39 : (X i).toInt < (X (nxt n j)).toInt := zc_nle rfl rfl c_39
            refine lv_iload hx hb dX7_partsMeet_127 (lv_at hl 5 rfl) ?_
            refine lv_iload hx hb dX7_partsMeet_129 (lv_at hl 1 rfl) ?_
            refine lv_icmp_lt (tgt := 162) hx hb dX7_partsMeet_131 rfl (fun c_40 => ?_) (fun c_40 => ?_)
            · have c_40 : (X (nxt n i)).toInt < (X (nxt n j)).toInt := zc_lt rfl rfl c_40
              refine lv_iconst (v := 0) hx hb dX7_partsMeet_162 rfl ?_
              obtain ⟨hP9, hD9⟩ := zu_sub (wc := [_, _, _]) hP hD [true, true, true] rfl rfl
              rw [hQ9]
              exact W.zret (ty := .boolean) (v := 0) hx hb hr (rfl) (fun t ht hW => ⟨⟨congrArg (fun z => Outcome.returned (some (Value.int z))) (show (0 : Int32) = pI (eMt n X Y i n X Y j) from (zp_f (by unfold eMt mtC; intro h; exact h.1 (by omega))).symm), by rw [ht]; exact hP9, hD9⟩, hS.F ht⟩) hS.2.2 dX7_partsMeet_163
            · have c_40 : (X (nxt n j)).toInt ≤ (X (nxt n i)).toInt := zc_nlt rfl rfl c_40
              exact hj_32 (by omega)
    have b9_42 : zlt ((j + 1)) := show (j + 1) < 2147483648 by omega
    have b9_43 : zlt (n) := show n < 2147483648 by omega
    refine lv_icmp_ge (tgt := 35) hx hb dX7_partsMeet_26 rfl (fun c_41 => ?_) (fun c_41 => ?_)
    · have c_41 : ((n : Nat) : Int) ≤ ((j + 1 : Nat) : Int) := zc_le (nI_toInt b9_43) (nI_toInt b9_42) c_41
      refine lv_iconst (v := 0) hx hb dX7_partsMeet_35 rfl ?_
      refine zz_i (v := nI (nxt n j)) (by first | (rw [nxt, if_pos (by omega)]) | (rw [nxt, if_neg (by omega)]; first | done | rfl)) ?_
      exact hj_2 
    · have c_41 : ((j + 1 : Nat) : Int) < ((n : Nat) : Int) := zc_nle (nI_toInt b9_43) (nI_toInt b9_42) c_41
      refine lv_iload_n hx hb dX7_partsMeet_29 rfl (lv_at hl 4 rfl) ?_
      refine lv_iconst (v := 1) hx hb dX7_partsMeet_30 rfl ?_
      refine lv_iadd hx hb dX7_partsMeet_31 ?_
      refine zz_i (v := nI (j + 1)) (nI_add j 1) ?_
      refine lv_goto (tgt := 36) hx hb dX7_partsMeet_32 rfl ?_
      refine zz_i (v := nI (nxt n j)) (by first | (rw [nxt, if_pos (by omega)]) | (rw [nxt, if_neg (by omega)]; first | done | rfl)) ?_
      exact hj_2 
  have b9_45 : zlt ((i + 1)) := show (i + 1) < 2147483648 by omega
  have b9_46 : zlt (n) := show n < 2147483648 by omega
  refine lv_icmp_ge (tgt := 16) hx hb dX7_partsMeet_7 rfl (fun c_44 => ?_) (fun c_44 => ?_)
  · have c_44 : ((n : Nat) : Int) ≤ ((i + 1 : Nat) : Int) := zc_le (nI_toInt b9_46) (nI_toInt b9_45) c_44
    refine lv_iconst (v := 0) hx hb dX7_partsMeet_16 rfl ?_
    refine zz_i (v := nI (nxt n i)) (by first | (rw [nxt, if_pos (by omega)]) | (rw [nxt, if_neg (by omega)]; first | done | rfl)) ?_
    exact hj_1 
  · have c_44 : ((i + 1 : Nat) : Int) < ((n : Nat) : Int) := zc_nle (nI_toInt b9_46) (nI_toInt b9_45) c_44
    refine lv_iload_n hx hb dX7_partsMeet_10 rfl (lv_at hl 1 rfl) ?_
    refine lv_iconst (v := 1) hx hb dX7_partsMeet_11 rfl ?_
    refine lv_iadd hx hb dX7_partsMeet_12 ?_
    refine zz_i (v := nI (i + 1)) (nI_add i 1) ?_
    refine lv_goto (tgt := 17) hx hb dX7_partsMeet_13 rfl ?_
    refine zz_i (v := nI (nxt n i)) (by first | (rw [nxt, if_pos (by omega)]) | (rw [nxt, if_neg (by omega)]; first | done | rfl)) ?_
    exact hj_1 
set_option maxHeartbeats 4000000 in
set_option maxRecDepth 100000 in
theorem k_Row_touches (l : Launch) (dC : Nat → ClassId) (dI : Nat → Nat → Nat) (cI cZ cF : ClassId) (sz : Nat) (r : Nat) (rx : Nat) (ry : Nat) (n : Nat) (cap : Nat) (X : Nat → Int32) (Y : Nat → Int32) (rg : Int32) (u : Nat) (ux : Nat) (uy : Nat) (m2 : Nat) (cap2 : Nat) (U : Nat → Int32) (V : Nat → Int32) (rh : Int32) (hn : n ≤ cap) (hcap : cap ≤ 1000) (hp : pls n X Y) (hm : m2 ≤ cap2) (hcap2 : cap2 ≤ 1000) (hq : pls m2 U V) : zM l yX7_touches cX7_touches 6 (some .boolean) ({ frames := 2, cells := 0, slots := 0, locals := 40 } : Room) [.ref r, .ref u] (dC, dI) (zTy cI cZ cF) [(oc6 r (.ref rx) (.ref ry) (nI n) rg), (oa rx cI cap X), (oa ry cI cap Y), (oc6 u (.ref ux) (.ref uy) (nI m2) rh), (oa ux cI cap2 U), (oa uy cI cap2 V)] sz (some (.int (pI (∃ i, i < prt n rg ∧ ∃ j, j < prt m2 rh ∧ eMt n X Y i m2 U V j)))) (fun A t => zPD (dC, dI) classes A [(oc6 r (.ref rx) (.ref ry) (nI n) rg), (oa rx cI cap X), (oa ry cI cap Y), (oc6 u (.ref ux) (.ref uy) (nI m2) rh), (oa ux cI cap2 U), (oa uy cI cap2 V)] t.heap) 0 0 := by
  refine zIn (own := "ScaleShop$Row") (loc := [(0, .ref r), (1, .ref u)]) rfl rfl rfl rfl (fun p e s m below meth c hx hb hr hts hown hlocks hml hnm9 A hA hS hP hD hK hXN Q9 hQ9 ls hl => ?_)
  have hpr := prt_le n rg
  have hpr2 := prt_le m2 rh
  refine lv_aload_n hx hb dX7_touches_0 rfl (lv_at hl 0 rfl) ?_
  obtain ⟨hPc, hDc, hFc, hI1⟩ := zi_sub (wc := [_, _, _]) hP hD hS hA [0, 1, 2] rfl rfl
  refine zcall (st1 := [.int (nI (prt n rg))]) (va_runV (As := []) (rest := []) ⟨hx, hb, hml, hown, hts⟩ (k_Row_parts l dC dI cI cZ cF s.heap.size r rx ry n cap X Y rg (by first | with_reducible assumption | omega) (by first | with_reducible assumption | omega)) (csV_2 hts rfl rfl ⟨Nat.le_of_ble_eq_true rfl, Nat.le_of_ble_eq_true rfl⟩) (zPV2 (q0 := 0) (ci := 6) hPc hDc hK hXN rfl rfl) rfl rfl hl.1 rfl (lv_room (Nat.le_of_ble_eq_true rfl)) dX7_touches_1 ⟨Nat.le_of_ble_eq_true rfl, Nat.le_of_ble_eq_true rfl⟩) hS hFc hFc rfl (fun t H locs ht hB hk1 hS => ?_)
  obtain ⟨hP1, hD1⟩ := hB
  rw [ht] at hP1
  replace hP := z0 hP hD hk1 hP1 hI1
  clear hk1 hPc hDc hFc hP1 hD1 ht hI1
  refine lv_istore_n (lv' := [(2, .int (nI (prt n rg))), (0, .ref r), (1, .ref u)]) hx hb dX7_touches_4 rfl hl (Nat.le_of_ble_eq_true rfl) rfl (fun ls hl => ?_)
  refine lv_aload_n hx hb dX7_touches_5 rfl (lv_at hl 2 rfl) ?_
  obtain ⟨hPc, hDc, hFc, hI1⟩ := zi_sub (wc := [_, _, _]) hP hD hS hA [3, 4, 5] rfl rfl
  refine zcall (st1 := [.int (nI (prt m2 rh))]) (va_runV (As := []) (rest := []) ⟨hx, hb, hml, hown, hts⟩ (k_Row_parts l dC dI cI cZ cF H.size u ux uy m2 cap2 U V rh (by first | with_reducible assumption | omega) (by first | with_reducible assumption | omega)) (csV_2 hts rfl rfl ⟨Nat.le_of_ble_eq_true rfl, Nat.le_of_ble_eq_true rfl⟩) (zPV2 (q0 := 0) (ci := 6) hPc hDc hK hXN rfl rfl) rfl rfl hl.1 rfl (lv_room (Nat.le_of_ble_eq_true rfl)) dX7_touches_6 ⟨Nat.le_of_ble_eq_true rfl, Nat.le_of_ble_eq_true rfl⟩) hS hFc hFc rfl (fun t H locs ht hB hk1 hS => ?_)
  obtain ⟨hP1, hD1⟩ := hB
  rw [ht] at hP1
  replace hP := z0 hP hD hk1 hP1 hI1
  clear hk1 hPc hDc hFc hP1 hD1 ht hI1
  refine lv_istore_n (lv' := [(3, .int (nI (prt m2 rh))), (2, .int (nI (prt n rg))), (0, .ref r), (1, .ref u)]) hx hb dX7_touches_9 rfl hl (Nat.le_of_ble_eq_true rfl) rfl (fun ls hl => ?_)
  refine lv_iconst (v := 0) hx hb dX7_touches_10 rfl ?_
  refine lv_istore (lv' := [(4, .int 0), (3, .int (nI (prt m2 rh))), (2, .int (nI (prt n rg))), (0, .ref r), (1, .ref u)]) hx hb dX7_touches_11 hl (Nat.le_of_ble_eq_true rfl) rfl (fun ls hl => ?_)
  have hl_13 : ∀ (n9 : Nat) (i : Nat) (H : Heap) (locs : List Loc) (ls : Array Slot), prt n rg - i < n9 → (i ≤ prt n rg) → (∀ k, k < i → ∀ j, j < prt m2 rh → ¬ eMt n X Y k m2 U V j) → va_P (dC, dI) classes [(oc6 r (.ref rx) (.ref ry) (nI n) rg), (oa rx cI cap X), (oa ry cI cap Y), (oc6 u (.ref ux) (.ref uy) (nI m2) rh), (oa ux cI cap2 U), (oa uy cI cap2 V)] H → va_D A [(oc6 r (.ref rx) (.ref ry) (nI n) rg), (oa rx cI cap X), (oa ry cI cap Y), (oc6 u (.ref ux) (.ref uy) (nI m2) rh), (oa ux cI cap2 U), (oa uy cI cap2 V)] → va_S A s.heap H locs → lv_has ls 6 [(4, .int (nI i)), (3, .int (nI (prt m2 rh))), (2, .int (nI (prt n rg))), (0, .ref r), (1, .ref u)] → W p l e ({ frames := 2, cells := 0, slots := 0, locals := 40 } : Room) s m ([.ref r, .ref u] : List Value).toArray below meth c H locs 0 0 Q9 (F0 m 13 ls []) := by
    intro n9
    induction n9 with
    | zero => intro i H locs ls hm; exact absurd hm (Nat.not_lt_zero _)
    | succ n9 ih_13 =>
      intro i H locs ls hm hi hno hP hD hS hl
      refine lv_iload hx hb dX7_touches_13 (lv_at hl 0 rfl) ?_
      refine lv_iload_n hx hb dX7_touches_15 rfl (lv_at hl 2 rfl) ?_
      have b9_2 : zlt (i) := show i < 2147483648 by omega
      have b9_3 : zlt ((prt n rg)) := show (prt n rg) < 2147483648 by omega
      refine lv_icmp_ge (tgt := 54) hx hb dX7_touches_16 rfl (fun c_1 => ?_) (fun c_1 => ?_)
      · have c_1 : ((prt n rg : Nat) : Int) ≤ ((i : Nat) : Int) := zc_le (nI_toInt b9_3) (nI_toInt b9_2) c_1
        refine lv_iconst (v := 0) hx hb dX7_touches_54 rfl ?_
        obtain ⟨hP9, hD9⟩ := zu_sub (wc := [_, _, _, _, _, _]) hP hD [true, true, true, true, true, true] rfl rfl
        rw [hQ9]
        exact W.zret (ty := .boolean) (v := 0) hx hb hr (rfl) (fun t ht hW => ⟨⟨congrArg (fun z => Outcome.returned (some (Value.int z))) (show (0 : Int32) = pI (∃ i, i < prt n rg ∧ ∃ j, j < prt m2 rh ∧ eMt n X Y i m2 U V j) from (zp_f (fun ⟨k, hk, j, hj, h⟩ => hno k (by omega) j hj h)).symm), by rw [ht]; exact hP9, hD9⟩, hS.F ht⟩) hS.2.2 dX7_touches_55
      · have c_1 : ((i : Nat) : Int) < ((prt n rg : Nat) : Int) := zc_nle (nI_toInt b9_3) (nI_toInt b9_2) c_1
        refine lv_iconst (v := 0) hx hb dX7_touches_19 rfl ?_
        refine lv_istore (lv' := [(5, .int 0), (4, .int (nI i)), (3, .int (nI (prt m2 rh))), (2, .int (nI (prt n rg))), (0, .ref r), (1, .ref u)]) hx hb dX7_touches_20 hl (Nat.le_of_ble_eq_true rfl) rfl (fun ls hl => ?_)
        have hl_22 : ∀ (n9 : Nat) (j : Nat) (H : Heap) (locs : List Loc) (ls : Array Slot), prt m2 rh - j < n9 → (j ≤ prt m2 rh) → (∀ k, k < j → ¬ eMt n X Y i m2 U V k) → va_P (dC, dI) classes [(oc6 r (.ref rx) (.ref ry) (nI n) rg), (oa rx cI cap X), (oa ry cI cap Y), (oc6 u (.ref ux) (.ref uy) (nI m2) rh), (oa ux cI cap2 U), (oa uy cI cap2 V)] H → va_D A [(oc6 r (.ref rx) (.ref ry) (nI n) rg), (oa rx cI cap X), (oa ry cI cap Y), (oc6 u (.ref ux) (.ref uy) (nI m2) rh), (oa ux cI cap2 U), (oa uy cI cap2 V)] → va_S A s.heap H locs → lv_has ls 6 [(5, .int (nI j)), (4, .int (nI i)), (3, .int (nI (prt m2 rh))), (2, .int (nI (prt n rg))), (0, .ref r), (1, .ref u)] → W p l e ({ frames := 2, cells := 0, slots := 0, locals := 40 } : Room) s m ([.ref r, .ref u] : List Value).toArray below meth c H locs 0 0 Q9 (F0 m 22 ls []) := by
          intro n9
          induction n9 with
          | zero => intro j H locs ls hm; exact absurd hm (Nat.not_lt_zero _)
          | succ n9 ih_22 =>
            intro j H locs ls hm hj hno2 hP hD hS hl
            refine lv_iload hx hb dX7_touches_22 (lv_at hl 0 rfl) ?_
            refine lv_iload_n hx hb dX7_touches_24 rfl (lv_at hl 2 rfl) ?_
            have b9_5 : zlt (j) := show j < 2147483648 by omega
            have b9_6 : zlt ((prt m2 rh)) := show (prt m2 rh) < 2147483648 by omega
            refine lv_icmp_ge (tgt := 48) hx hb dX7_touches_25 rfl (fun c_4 => ?_) (fun c_4 => ?_)
            · have c_4 : ((prt m2 rh : Nat) : Int) ≤ ((j : Nat) : Int) := zc_le (nI_toInt b9_6) (nI_toInt b9_5) c_4
              refine lv_iinc (v := nI (i + 1)) (lv' := [(4, .int (nI (i + 1))), (5, .int (nI j)), (3, .int (nI (prt m2 rh))), (2, .int (nI (prt n rg))), (0, .ref r), (1, .ref u)]) hx hb dX7_touches_48 hl (k := 1) rfl (nI_add i 1) (Nat.le_of_ble_eq_true rfl) rfl (fun ls hl => ?_)
              refine lv_goto (tgt := 13) hx hb dX7_touches_51 rfl ?_
              exact ih_13 (i + 1) H locs ls (by first | with_reducible assumption | omega) (by first | with_reducible assumption | omega) (by intro k hk; rcases Nat.lt_or_ge k i with h | h; exact hno k h; intro j2 hj2; have e9 : k = i := (by first | with_reducible assumption | omega); subst e9; exact hno2 j2 (by first | with_reducible assumption | omega)) hP hD hS (lv_sub hl [0, 2, 3, 4, 5] rfl)
            · have c_4 : ((j : Nat) : Int) < ((prt m2 rh : Nat) : Int) := zc_nle (nI_toInt b9_6) (nI_toInt b9_5) c_4
              refine lv_aload_n hx hb dX7_touches_28 rfl (lv_at hl 4 rfl) ?_
              refine lv_iload hx hb dX7_touches_29 (lv_at hl 1 rfl) ?_
              refine lv_aload_n hx hb dX7_touches_31 rfl (lv_at hl 5 rfl) ?_
              refine lv_iload hx hb dX7_touches_32 (lv_at hl 0 rfl) ?_
              obtain ⟨hPc, hDc, hFc, hI1⟩ := zi_sub (wc := [_, _, _, _, _, _]) hP hD hS hA [0, 1, 2, 3, 4, 5] (by decide +kernel) rfl
              refine zcall (st1 := [.int (pI (eMt n X Y i m2 U V j))]) (va_runV (As := [.int (nI i), .ref u, .int (nI j)]) (rest := []) ⟨hx, hb, hml, hown, hts⟩ (k_Row_partsMeet l dC dI cI cZ cF H.size r rx ry n cap X Y rg u ux uy m2 cap2 U V rh i j (by first | with_reducible assumption | omega) (by first | with_reducible assumption | omega) (by first | with_reducible assumption | assumption) (by first | with_reducible assumption | omega) (by first | with_reducible assumption | omega) (by first | with_reducible assumption | assumption) (by first | with_reducible assumption | omega) (by first | with_reducible assumption | omega)) (csV_4 hts rfl rfl ⟨Nat.le_of_ble_eq_true rfl, Nat.le_of_ble_eq_true rfl⟩) (zPV2 (q0 := 0) (ci := 6) hPc hDc hK hXN rfl rfl) rfl rfl hl.1 rfl (lv_room (Nat.le_of_ble_eq_true rfl)) dX7_touches_34 ⟨Nat.le_of_ble_eq_true rfl, Nat.le_of_ble_eq_true rfl⟩) hS hFc hFc rfl (fun t H locs ht hB hk1 hS => ?_)
              obtain ⟨hP1, hD1⟩ := hB
              rw [ht] at hP1
              replace hP := z0 hP hD hk1 hP1 hI1
              clear hk1 hPc hDc hFc hP1 hD1 ht hI1
              refine lv_if_eq (tgt := 42) hx hb dX7_touches_37 rfl (fun c_7 => ?_) (fun c_7 => ?_)
              · have c_7 : ¬ (eMt n X Y i m2 U V j) := zp_0 c_7
                refine lv_iinc (v := nI (j + 1)) (lv' := [(5, .int (nI (j + 1))), (4, .int (nI i)), (3, .int (nI (prt m2 rh))), (2, .int (nI (prt n rg))), (0, .ref r), (1, .ref u)]) hx hb dX7_touches_42 hl (k := 0) rfl (nI_add j 1) (Nat.le_of_ble_eq_true rfl) rfl (fun ls hl => ?_)
                refine lv_goto (tgt := 22) hx hb dX7_touches_45 rfl ?_
                exact ih_22 (j + 1) H locs ls (by first | with_reducible assumption | omega) (by first | with_reducible assumption | omega) (by intro k hk; rcases Nat.lt_or_ge k j with h | h; exact hno2 k h; have e9 : k = j := (by first | with_reducible assumption | omega); subst e9; assumption) hP hD hS (lv_sub hl [0, 1, 2, 3, 4, 5] rfl)
              · have c_7 : eMt n X Y i m2 U V j := zp_1 c_7
                refine lv_iconst (v := 1) hx hb dX7_touches_40 rfl ?_
                obtain ⟨hP9, hD9⟩ := zu_sub (wc := [_, _, _, _, _, _]) hP hD [true, true, true, true, true, true] rfl rfl
                rw [hQ9]
                exact W.zret (ty := .boolean) (v := 1) hx hb hr (rfl) (fun t ht hW => ⟨⟨congrArg (fun z => Outcome.returned (some (Value.int z))) (show (1 : Int32) = pI (∃ i, i < prt n rg ∧ ∃ j, j < prt m2 rh ∧ eMt n X Y i m2 U V j) from (zp_t (⟨i, by omega, j, by omega, by assumption⟩)).symm), by rw [ht]; exact hP9, hD9⟩, hS.F ht⟩) hS.2.2 dX7_touches_41
        exact hl_22 _ 0 H locs ls (Nat.lt_succ_self _) (by first | with_reducible assumption | omega) (by intro k hk; omega) hP hD hS (lv_sub hl [0, 1, 2, 3, 4, 5] rfl)
  exact hl_13 _ 0 H locs ls (Nat.lt_succ_self _) (by first | with_reducible assumption | omega) (by intro k hk; omega) hP hD hS (lv_sub hl [0, 1, 2, 3, 4] rfl)
set_option maxHeartbeats 4000000 in
set_option maxRecDepth 100000 in
theorem k_Row_put (l : Launch) (dC : Nat → ClassId) (dI : Nat → Nat → Nat) (cI cZ cF : ClassId) (sz : Nat) (r : Nat) (rx : Nat) (ry : Nat) (n : Nat) (cap : Nat) (X : Nat → Int32) (Y : Nat → Int32) (rg : Int32) (px : Int32) (py : Int32) (hn : n < cap) (hcap : cap ≤ 1000) : zM l yX7_put cX7_put 3 none ({ frames := 0, cells := 0, slots := 0, locals := 0 } : Room) [.ref r, .int px, .int py] (dC, dI) (zTy cI cZ cF) [(oc6 r (.ref rx) (.ref ry) (nI n) rg), (oa rx cI cap X), (oa ry cI cap Y)] sz none (fun A t => zPD (dC, dI) classes A [(oc6 r (.ref rx) (.ref ry) (nI (n + 1)) rg), (oa rx cI cap (upd X n px)), (oa ry cI cap (upd Y n py))] t.heap) 0 0 := by
  refine zIn (own := "ScaleShop$Row") (loc := [(0, .ref r), (1, .int px), (2, .int py)]) rfl rfl rfl rfl (fun p e s m below meth c hx hb hr hts hown hlocks hml hnm9 A hA hS hP hD hK hXN Q9 hQ9 ls hl => ?_)
  refine lv_aload_n hx hb dX7_put_0 rfl (lv_at hl 0 rfl) ?_
  refine va_get (D := (dC, dI)) (ci := 6) (v := .int (nI n)) (C := RX7) (T := TX7) (N := 4) hx hb hts inX7 hown hK hP 0 rfl rfl 2 (Nat.le_of_ble_eq_true rfl) (hts _ mw_175) (fun _ h9 => h9) rfl dX7_put_1 ?_
  refine lv_aload_n hx hb dX7_put_4 rfl (lv_at hl 0 rfl) ?_
  refine va_get (D := (dC, dI)) (ci := 6) (v := .ref rx) (C := RX7) (T := TX7) (N := 4) hx hb hts inX7 hown hK hP 0 rfl rfl 0 (Nat.le_of_ble_eq_true rfl) (hts _ mw_161) (fun _ h9 => h9) rfl dX7_put_5 ?_
  refine va_alen (v := nI cap) hx hb hK hP 1 0 rfl rfl rfl dX7_put_8 ?_
  have b9_2 : zlt (n) := show n < 2147483648 by omega
  have b9_3 : zlt (cap) := show cap < 2147483648 by omega
  refine lv_icmp_ge (tgt := 42) hx hb dX7_put_9 rfl (fun c_1 => ?_) (fun c_1 => ?_)
  · have c_1 : ((cap : Nat) : Int) ≤ ((n : Nat) : Int) := zc_le (nI_toInt b9_3) (nI_toInt b9_2) c_1
    exfalso; omega
  · have c_1 : ((n : Nat) : Int) < ((cap : Nat) : Int) := zc_nle (nI_toInt b9_3) (nI_toInt b9_2) c_1
    refine lv_aload_n hx hb dX7_put_12 rfl (lv_at hl 0 rfl) ?_
    refine va_get (D := (dC, dI)) (ci := 6) (v := .ref rx) (C := RX7) (T := TX7) (N := 4) hx hb hts inX7 hown hK hP 0 rfl rfl 0 (Nat.le_of_ble_eq_true rfl) (hts _ mw_161) (fun _ h9 => h9) rfl dX7_put_13 ?_
    refine lv_aload_n hx hb dX7_put_16 rfl (lv_at hl 0 rfl) ?_
    refine va_get (D := (dC, dI)) (ci := 6) (v := .int (nI n)) (C := RX7) (T := TX7) (N := 4) hx hb hts inX7 hown hK hP 0 rfl rfl 2 (Nat.le_of_ble_eq_true rfl) (hts _ mw_175) (fun _ h9 => h9) rfl dX7_put_17 ?_
    refine lv_iload_n hx hb dX7_put_20 rfl (lv_at hl 1 rfl) ?_
    have b9_4 : n < cap := by omega
    refine z_iast hx hb hK hP hD hS 1 0 rfl rfl (e := n) (x := px) rfl b9_4 b9_3 dX7_put_21 (fun H locs hP hD hS => ?_)
    obtain ⟨hP, hD⟩ := zre (W2 := [_, (oa rx cI cap (upd X n px)), _]) hP hD rfl
    refine lv_aload_n hx hb dX7_put_22 rfl (lv_at hl 0 rfl) ?_
    refine va_get (D := (dC, dI)) (ci := 6) (v := .ref ry) (C := RX7) (T := TX7) (N := 4) hx hb hts inX7 hown hK hP 0 rfl rfl 1 (Nat.le_of_ble_eq_true rfl) (hts _ mw_168) (fun _ h9 => h9) rfl dX7_put_23 ?_
    refine lv_aload_n hx hb dX7_put_26 rfl (lv_at hl 0 rfl) ?_
    refine va_get (D := (dC, dI)) (ci := 6) (v := .int (nI n)) (C := RX7) (T := TX7) (N := 4) hx hb hts inX7 hown hK hP 0 rfl rfl 2 (Nat.le_of_ble_eq_true rfl) (hts _ mw_175) (fun _ h9 => h9) rfl dX7_put_27 ?_
    refine lv_iload_n hx hb dX7_put_30 rfl (lv_at hl 2 rfl) ?_
    refine z_iast hx hb hK hP hD hS 2 0 rfl rfl (e := n) (x := py) rfl b9_4 b9_3 dX7_put_31 (fun H locs hP hD hS => ?_)
    obtain ⟨hP, hD⟩ := zre (W2 := [_, _, (oa ry cI cap (upd Y n py))]) hP hD rfl
    refine lv_aload_n hx hb dX7_put_32 rfl (lv_at hl 0 rfl) ?_
    refine lv_dup hx hb dX7_put_33 rfl ?_
    refine va_get (D := (dC, dI)) (ci := 6) (v := .int (nI n)) (C := RX7) (T := TX7) (N := 4) hx hb hts inX7 hown hK hP 0 rfl rfl 2 (Nat.le_of_ble_eq_true rfl) (hts _ mw_175) (fun _ h9 => h9) rfl dX7_put_34 ?_
    refine lv_iconst (v := 1) hx hb dX7_put_37 rfl ?_
    refine lv_iadd hx hb dX7_put_38 ?_
    refine zz_i (v := nI (n + 1)) (nI_add n 1) ?_
    refine va_put (D := (dC, dI)) (ci := 6) (v := .int (nI (n + 1))) (ty := .int) (C := RX7) (T := TX7) (N := 4) hx hb hts inX7 tyX7 tyX7_ok nmX7 hown hK hP hD hS 0 rfl rfl 2 (by decide) (hts _ mw_175) (fun _ h9 => h9) rfl (by decide +kernel) rfl rfl (Nat.le_of_ble_eq_true rfl) dX7_put_39 (fun H locs hP hD hS => ?_)
    obtain ⟨hP, hD⟩ := zre (W2 := [(oc6 r (.ref rx) (.ref ry) (nI (n + 1)) rg), _, _]) hP hD rfl
    obtain ⟨hP9, hD9⟩ := zu_sub (wc := [_, _, _]) hP hD [true, true, true] rfl rfl
    rw [hQ9]
    exact W.vret hx hb hr (fun t ht hW => ⟨⟨rfl, by rw [ht]; exact hP9, hD9⟩, hS.F ht⟩) hS.2.2 dX7_put_42
set_option maxHeartbeats 4000000 in
set_option maxRecDepth 100000 in
theorem k_Row_clear (l : Launch) (dC : Nat → ClassId) (dI : Nat → Nat → Nat) (cI cZ cF : ClassId) (sz : Nat) (r : Nat) (rx : Nat) (ry : Nat) (n : Nat) (cap : Nat) (X : Nat → Int32) (Y : Nat → Int32) (rg : Int32) (rh : Int32) (hrh : rh = 0 ∨ rh = 1) : zM l yX7_clear cX7_clear 2 none ({ frames := 0, cells := 0, slots := 0, locals := 0 } : Room) [.ref r, .int rh] (dC, dI) (zTy cI cZ cF) [(oc6 r (.ref rx) (.ref ry) (nI n) rg), (oa rx cI cap X), (oa ry cI cap Y)] sz none (fun A t => zPD (dC, dI) classes A [(oc6 r (.ref rx) (.ref ry) (nI 0) rh), (oa rx cI cap X), (oa ry cI cap Y)] t.heap) 0 0 := by
  refine zIn (own := "ScaleShop$Row") (loc := [(0, .ref r), (1, .int rh)]) rfl rfl rfl rfl (fun p e s m below meth c hx hb hr hts hown hlocks hml hnm9 A hA hS hP hD hK hXN Q9 hQ9 ls hl => ?_)
  refine lv_aload_n hx hb dX7_clear_0 rfl (lv_at hl 0 rfl) ?_
  refine lv_iconst (v := 0) hx hb dX7_clear_1 rfl ?_
  refine va_put (D := (dC, dI)) (ci := 6) (v := .int 0) (ty := .int) (C := RX7) (T := TX7) (N := 4) hx hb hts inX7 tyX7 tyX7_ok nmX7 hown hK hP hD hS 0 rfl rfl 2 (by decide) (hts _ mw_175) (fun _ h9 => h9) rfl (by decide +kernel) rfl rfl (Nat.le_of_ble_eq_true rfl) dX7_clear_2 (fun H locs hP hD hS => ?_)
  obtain ⟨hP, hD⟩ := zre (W2 := [(oc6 r (.ref rx) (.ref ry) 0 rg), _, _]) hP hD rfl
  refine lv_aload_n hx hb dX7_clear_5 rfl (lv_at hl 0 rfl) ?_
  refine lv_iload_n hx hb dX7_clear_6 rfl (lv_at hl 1 rfl) ?_
  refine va_put (D := (dC, dI)) (ci := 6) (v := .int rh) (ty := .boolean) (C := RX7) (T := TX7) (N := 4) hx hb hts inX7 tyX7 tyX7_ok nmX7 hown hK hP hD hS 0 rfl rfl 3 (by decide) (hts _ mw_183) (fun _ h9 => h9) rfl (by decide +kernel) (zb_nar hrh) (zb_fit hrh) (Nat.le_of_ble_eq_true rfl) dX7_clear_7 (fun H locs hP hD hS => ?_)
  obtain ⟨hP, hD⟩ := zre (W2 := [(oc6 r (.ref rx) (.ref ry) 0 rh), _, _]) hP hD rfl
  obtain ⟨hP9, hD9⟩ := zu_sub (wc := [(oc6 r (.ref rx) (.ref ry) 0 rh), (oa rx cI cap X), (oa ry cI cap Y)]) hP hD [true, true, true] rfl rfl
  have hE9 : ([(oc6 r (.ref rx) (.ref ry) 0 rh), (oa rx cI cap X), (oa ry cI cap Y)] : va_W) = [(oc6 r (.ref rx) (.ref ry) (nI 0) rh), (oa rx cI cap X), (oa ry cI cap Y)] := by rfl
  rw [hE9] at hP9 hD9
  rw [hQ9]
  exact W.vret hx hb hr (fun t ht hW => ⟨⟨rfl, by rw [ht]; exact hP9, hD9⟩, hS.F ht⟩) hS.2.2 dX7_clear_10
end
section
set_option maxHeartbeats 4000000 in
set_option maxRecDepth 100000 in
theorem k_Row_where (l : Launch) (dC : Nat → ClassId) (dI : Nat → Nat → Nat) (cI cZ cF : ClassId) (sz : Nat) (r : Nat) (rx : Nat) (ry : Nat) (n : Nat) (cap : Nat) (X : Nat → Int32) (Y : Nat → Int32) (rg : Int32) (px : Int32) (py : Int32) (hn : n ≤ cap) (hcap : cap ≤ 1000) (hp : pls n X Y) (hpx : pl px) (hpy : pl py) : zM l yX7_where cX7_where 7 (some .int) ({ frames := 0, cells := 0, slots := 0, locals := 0 } : Room) [.ref r, .int px, .int py] (dC, dI) (zTy cI cZ cF) [(oc6 r (.ref rx) (.ref ry) (nI n) rg), (oa rx cI cap X), (oa ry cI cap Y)] sz (some (.int (whr n X Y px.toInt py.toInt))) (fun A t => zPD (dC, dI) classes A [(oc6 r (.ref rx) (.ref ry) (nI n) rg), (oa rx cI cap X), (oa ry cI cap Y)] t.heap) 0 0 := by
  refine zIn (own := "ScaleShop$Row") (loc := [(0, .ref r), (1, .int px), (2, .int py)]) rfl rfl rfl rfl (fun p e s m below meth c hx hb hr hts hown hlocks hml hnm9 A hA hS hP hD hK hXN Q9 hQ9 ls hl => ?_)
  refine lv_iconst (v := 0) hx hb dX7_where_0 rfl ?_
  refine lv_istore_n (lv' := [(3, .int 0), (0, .ref r), (1, .int px), (2, .int py)]) hx hb dX7_where_1 rfl hl (Nat.le_of_ble_eq_true rfl) rfl (fun ls hl => ?_)
  refine lv_iconst (v := 0) hx hb dX7_where_2 rfl ?_
  refine lv_istore (lv' := [(4, .int 0), (3, .int 0), (0, .ref r), (1, .int px), (2, .int py)]) hx hb dX7_where_3 hl (Nat.le_of_ble_eq_true rfl) rfl (fun ls hl => ?_)
  have hl_5 : ∀ (n9 : Nat) (i : Nat) (H : Heap) (locs : List Loc) (ls : Array Slot), n - i < n9 → (i ≤ n) → (∀ k, k < i → ¬ eOn n X Y k px.toInt py.toInt) → va_P (dC, dI) classes [(oc6 r (.ref rx) (.ref ry) (nI n) rg), (oa rx cI cap X), (oa ry cI cap Y)] H → va_D A [(oc6 r (.ref rx) (.ref ry) (nI n) rg), (oa rx cI cap X), (oa ry cI cap Y)] → va_S A s.heap H locs → lv_has ls 7 [(4, .int (nI i)), (3, .int (pI (par2 (eTg n X Y px.toInt py.toInt) i))), (0, .ref r), (1, .int px), (2, .int py)] → W p l e ({ frames := 0, cells := 0, slots := 0, locals := 0 } : Room) s m ([.ref r, .int px, .int py] : List Value).toArray below meth c H locs 0 0 Q9 (F0 m 5 ls []) := by
    intro n9
    induction n9 with
    | zero => intro i H locs ls hm; exact absurd hm (Nat.not_lt_zero _)
    | succ n9 ih_5 =>
      intro i H locs ls hm hi hno hP hD hS hl
      refine lv_iload hx hb dX7_where_5 (lv_at hl 0 rfl) ?_
      refine lv_aload_n hx hb dX7_where_7 rfl (lv_at hl 2 rfl) ?_
      refine va_get (D := (dC, dI)) (ci := 6) (v := .int (nI n)) (C := RX7) (T := TX7) (N := 4) hx hb hts inX7 hown hK hP 0 rfl rfl 2 (Nat.le_of_ble_eq_true rfl) (hts _ mw_175) (fun _ h9 => h9) rfl dX7_where_8 ?_
      have b9_2 : zlt (i) := show i < 2147483648 by omega
      have b9_3 : zlt (n) := show n < 2147483648 by omega
      refine lv_icmp_ge (tgt := 272) hx hb dX7_where_11 rfl (fun c_1 => ?_) (fun c_1 => ?_)
      · have c_1 : ((n : Nat) : Int) ≤ ((i : Nat) : Int) := zc_le (nI_toInt b9_3) (nI_toInt b9_2) c_1
        refine lv_iload_n hx hb dX7_where_272 rfl (lv_at hl 1 rfl) ?_
        refine lv_if_eq (tgt := 280) hx hb dX7_where_273 rfl (fun c_4 => ?_) (fun c_4 => ?_)
        · have c_4 : ¬ (par2 (eTg n X Y px.toInt py.toInt) i) := zp_0 c_4
          refine lv_iconst (v := 0) hx hb dX7_where_280 rfl ?_
          obtain ⟨hP9, hD9⟩ := zu_sub (wc := [_, _, _]) hP hD [true, true, true] rfl rfl
          rw [hQ9]
          exact W.iret (v := 0) hx hb hr (fun t ht hW => ⟨⟨congrArg (fun z => Outcome.returned (some (Value.int z))) (show (0 : Int32) = whr n X Y px.toInt py.toInt from by obtain rfl : i = n := (by omega); rw [whr_n (fun ⟨k, hk, h⟩ => hno k hk h)]; first | exact (zp_t (by first | with_reducible assumption | assumption)).symm | exact (zp_f (by first | with_reducible assumption | assumption)).symm), by rw [ht]; exact hP9, hD9⟩, hS.F ht⟩) hS.2.2 dX7_where_281
        · have c_4 : par2 (eTg n X Y px.toInt py.toInt) i := zp_1 c_4
          refine lv_iconst (v := 1) hx hb dX7_where_276 rfl ?_
          refine lv_goto (tgt := 281) hx hb dX7_where_277 rfl ?_
          obtain ⟨hP9, hD9⟩ := zu_sub (wc := [_, _, _]) hP hD [true, true, true] rfl rfl
          rw [hQ9]
          exact W.iret (v := 1) hx hb hr (fun t ht hW => ⟨⟨congrArg (fun z => Outcome.returned (some (Value.int z))) (show (1 : Int32) = whr n X Y px.toInt py.toInt from by obtain rfl : i = n := (by omega); rw [whr_n (fun ⟨k, hk, h⟩ => hno k hk h)]; first | exact (zp_t (by first | with_reducible assumption | assumption)).symm | exact (zp_f (by first | with_reducible assumption | assumption)).symm), by rw [ht]; exact hP9, hD9⟩, hS.F ht⟩) hS.2.2 dX7_where_281
      · have c_1 : ((i : Nat) : Int) < ((n : Nat) : Int) := zc_nle (nI_toInt b9_3) (nI_toInt b9_2) c_1
        refine lv_iload hx hb dX7_where_14 (lv_at hl 0 rfl) ?_
        refine lv_iconst (v := 1) hx hb dX7_where_16 rfl ?_
        refine lv_iadd hx hb dX7_where_17 ?_
        refine zz_i (v := nI (i + 1)) (nI_add i 1) ?_
        refine lv_aload_n hx hb dX7_where_18 rfl (lv_at hl 2 rfl) ?_
        refine va_get (D := (dC, dI)) (ci := 6) (v := .int (nI n)) (C := RX7) (T := TX7) (N := 4) hx hb hts inX7 hown hK hP 0 rfl rfl 2 (Nat.le_of_ble_eq_true rfl) (hts _ mw_175) (fun _ h9 => h9) rfl dX7_where_19 ?_
        have hj_5 : W p l e ({ frames := 0, cells := 0, slots := 0, locals := 0 } : Room) s m ([.ref r, .int px, .int py] : List Value).toArray below meth c H locs 0 0 Q9 (F0 m 33 ls [.int (nI (nxt n i))]) := by
          have hnx := nxt_lt (n := n) (i := i) (by omega)
          refine lv_istore (lv' := [(5, .int (nI (nxt n i))), (4, .int (nI i)), (3, .int (pI (par2 (eTg n X Y px.toInt py.toInt) i))), (0, .ref r), (1, .int px), (2, .int py)]) hx hb dX7_where_33 hl (Nat.le_of_ble_eq_true rfl) rfl (fun ls hl => ?_)
          have hj_6 : (¬ ((py.toInt < (Y i).toInt ∧ py.toInt < (Y (nxt n i)).toInt) ∨ ((Y i).toInt < py.toInt ∧ (Y (nxt n i)).toInt < py.toInt) ∨ ((X i).toInt < px.toInt ∧ (X (nxt n i)).toInt < px.toInt))) → W p l e ({ frames := 0, cells := 0, slots := 0, locals := 0 } : Room) s m ([.ref r, .int px, .int py] : List Value).toArray below meth c H locs 0 0 Q9 (F0 m 104 ls []) := by
            intro hsk
            refine lv_aload_n hx hb dX7_where_104 rfl (lv_at hl 3 rfl) ?_
            refine va_get (D := (dC, dI)) (ci := 6) (v := .ref rx) (C := RX7) (T := TX7) (N := 4) hx hb hts inX7 hown hK hP 0 rfl rfl 0 (Nat.le_of_ble_eq_true rfl) (hts _ mw_161) (fun _ h9 => h9) rfl dX7_where_105 ?_
            refine lv_iload hx hb dX7_where_108 (lv_at hl 0 rfl) ?_
            have b9_7 : nxt n i < cap := by omega
            have b9_8 : zlt (cap) := show cap < 2147483648 by omega
            refine z_iald hx hb hK hP 1 0 rfl rfl (e := nxt n i) rfl b9_7 b9_8 dX7_where_110 ?_
            refine lv_aload_n hx hb dX7_where_111 rfl (lv_at hl 3 rfl) ?_
            refine va_get (D := (dC, dI)) (ci := 6) (v := .ref rx) (C := RX7) (T := TX7) (N := 4) hx hb hts inX7 hown hK hP 0 rfl rfl 0 (Nat.le_of_ble_eq_true rfl) (hts _ mw_161) (fun _ h9 => h9) rfl dX7_where_112 ?_
            refine lv_iload hx hb dX7_where_115 (lv_at hl 1 rfl) ?_
            have b9_9 : i < cap := by omega
            refine z_iald hx hb hK hP 1 0 rfl rfl (e := i) rfl b9_9 b9_8 dX7_where_117 ?_
            refine lv_isub hx hb dX7_where_118 ?_
            refine lv_iload_n hx hb dX7_where_119 rfl (lv_at hl 5 rfl) ?_
            refine lv_aload_n hx hb dX7_where_120 rfl (lv_at hl 3 rfl) ?_
            refine va_get (D := (dC, dI)) (ci := 6) (v := .ref ry) (C := RX7) (T := TX7) (N := 4) hx hb hts inX7 hown hK hP 0 rfl rfl 1 (Nat.le_of_ble_eq_true rfl) (hts _ mw_168) (fun _ h9 => h9) rfl dX7_where_121 ?_
            refine lv_iload hx hb dX7_where_124 (lv_at hl 1 rfl) ?_
            refine z_iald hx hb hK hP 2 0 rfl rfl (e := i) rfl b9_9 b9_8 dX7_where_126 ?_
            refine lv_isub hx hb dX7_where_127 ?_
            refine lv_imul hx hb dX7_where_128 ?_
            refine lv_aload_n hx hb dX7_where_129 rfl (lv_at hl 3 rfl) ?_
            refine va_get (D := (dC, dI)) (ci := 6) (v := .ref ry) (C := RX7) (T := TX7) (N := 4) hx hb hts inX7 hown hK hP 0 rfl rfl 1 (Nat.le_of_ble_eq_true rfl) (hts _ mw_168) (fun _ h9 => h9) rfl dX7_where_130 ?_
            refine lv_iload hx hb dX7_where_133 (lv_at hl 0 rfl) ?_
            refine z_iald hx hb hK hP 2 0 rfl rfl (e := nxt n i) rfl b9_7 b9_8 dX7_where_135 ?_
            refine lv_aload_n hx hb dX7_where_136 rfl (lv_at hl 3 rfl) ?_
            refine va_get (D := (dC, dI)) (ci := 6) (v := .ref ry) (C := RX7) (T := TX7) (N := 4) hx hb hts inX7 hown hK hP 0 rfl rfl 1 (Nat.le_of_ble_eq_true rfl) (hts _ mw_168) (fun _ h9 => h9) rfl dX7_where_137 ?_
            refine lv_iload hx hb dX7_where_140 (lv_at hl 1 rfl) ?_
            refine z_iald hx hb hK hP 2 0 rfl rfl (e := i) rfl b9_9 b9_8 dX7_where_142 ?_
            refine lv_isub hx hb dX7_where_143 ?_
            refine lv_iload_n hx hb dX7_where_144 rfl (lv_at hl 4 rfl) ?_
            refine lv_aload_n hx hb dX7_where_145 rfl (lv_at hl 3 rfl) ?_
            refine va_get (D := (dC, dI)) (ci := 6) (v := .ref rx) (C := RX7) (T := TX7) (N := 4) hx hb hts inX7 hown hK hP 0 rfl rfl 0 (Nat.le_of_ble_eq_true rfl) (hts _ mw_161) (fun _ h9 => h9) rfl dX7_where_146 ?_
            refine lv_iload hx hb dX7_where_149 (lv_at hl 1 rfl) ?_
            refine z_iald hx hb hK hP 1 0 rfl rfl (e := i) rfl b9_9 b9_8 dX7_where_151 ?_
            refine lv_isub hx hb dX7_where_152 ?_
            refine lv_imul hx hb dX7_where_153 ?_
            refine lv_isub hx hb dX7_where_154 ?_
            refine zz_i (v := iI (eCr n X Y i px.toInt py.toInt)) (crI (hp i (by omega)).1 (hp i (by omega)).2 (hp _ hnx).1 (hp _ hnx).2 hpx hpy) ?_
            have hB1 := crBp (hp i (by omega)).1 (hp i (by omega)).2 (hp _ hnx).1 (hp _ hnx).2 hpx hpy
            have hB1 : -2000000 ≤ eCr n X Y i px.toInt py.toInt ∧ eCr n X Y i px.toInt py.toInt ≤ 2000000 := hB1
            refine lv_istore (lv' := [(6, .int (iI (eCr n X Y i px.toInt py.toInt))), (5, .int (nI (nxt n i))), (4, .int (nI i)), (3, .int (pI (par2 (eTg n X Y px.toInt py.toInt) i))), (0, .ref r), (1, .int px), (2, .int py)]) hx hb dX7_where_155 hl (Nat.le_of_ble_eq_true rfl) rfl (fun ls hl => ?_)
            have hj_10 : (¬ (eCr n X Y i px.toInt py.toInt = 0 ∧ ((X i).toInt ≤ px.toInt ∨ (X (nxt n i)).toInt ≤ px.toInt))) → W p l e ({ frames := 0, cells := 0, slots := 0, locals := 0 } : Room) s m ([.ref r, .int px, .int py] : List Value).toArray below meth c H locs 0 0 Q9 (F0 m 186 ls []) := by
              intro h186
              have hne : (py.toInt < (Y i).toInt ↔ ¬ py.toInt < (Y (nxt n i)).toInt) → ¬ eCr n X Y i px.toInt py.toInt = 0 := fun h1 h0 => h186 ⟨h0, (by have h9 := on_of_mid h1 h0; unfold onS at h9; omega)⟩
              refine lv_aload_n hx hb dX7_where_186 rfl (lv_at hl 4 rfl) ?_
              refine va_get (D := (dC, dI)) (ci := 6) (v := .ref ry) (C := RX7) (T := TX7) (N := 4) hx hb hts inX7 hown hK hP 0 rfl rfl 1 (Nat.le_of_ble_eq_true rfl) (hts _ mw_168) (fun _ h9 => h9) rfl dX7_where_187 ?_
              refine lv_iload hx hb dX7_where_190 (lv_at hl 2 rfl) ?_
              refine z_iald hx hb hK hP 2 0 rfl rfl (e := i) rfl b9_9 b9_8 dX7_where_192 ?_
              refine lv_iload_n hx hb dX7_where_193 rfl (lv_at hl 6 rfl) ?_
              refine lv_icmp_le (tgt := 201) hx hb dX7_where_194 rfl (fun c_11 => ?_) (fun c_11 => ?_)
              · have c_11 : (Y i).toInt ≤ py.toInt := zc_le rfl rfl c_11
                refine lv_iconst (v := 0) hx hb dX7_where_201 rfl ?_
                refine lv_aload_n hx hb dX7_where_202 rfl (lv_at hl 4 rfl) ?_
                refine va_get (D := (dC, dI)) (ci := 6) (v := .ref ry) (C := RX7) (T := TX7) (N := 4) hx hb hts inX7 hown hK hP 0 rfl rfl 1 (Nat.le_of_ble_eq_true rfl) (hts _ mw_168) (fun _ h9 => h9) rfl dX7_where_203 ?_
                refine lv_iload hx hb dX7_where_206 (lv_at hl 1 rfl) ?_
                refine z_iald hx hb hK hP 2 0 rfl rfl (e := nxt n i) rfl b9_7 b9_8 dX7_where_208 ?_
                refine lv_iload_n hx hb dX7_where_209 rfl (lv_at hl 6 rfl) ?_
                refine lv_icmp_le (tgt := 217) hx hb dX7_where_210 rfl (fun c_12 => ?_) (fun c_12 => ?_)
                · have c_12 : (Y (nxt n i)).toInt ≤ py.toInt := zc_le rfl rfl c_12
                  refine lv_iconst (v := 0) hx hb dX7_where_217 rfl ?_
                  refine lv_icmp_eq (tgt := 266) hx hb dX7_where_218 rfl (fun c_13 => ?_) (fun c_13 => ?_)
                  · refine lv_iinc (v := nI (i + 1)) (lv' := [(4, .int (nI (i + 1))), (6, .int (iI (eCr n X Y i px.toInt py.toInt))), (5, .int (nI (nxt n i))), (3, .int (pI (par2 (eTg n X Y px.toInt py.toInt) i))), (0, .ref r), (1, .int px), (2, .int py)]) hx hb dX7_where_266 hl (k := 2) rfl (nI_add i 1) (Nat.le_of_ble_eq_true rfl) rfl (fun ls hl => ?_)
                    refine lv_goto (tgt := 5) hx hb dX7_where_269 rfl ?_
                    have hl9 := lv_sub hl [0, 3, 4, 5, 6] rfl
                    have e9_3 : pI (par2 (eTg n X Y px.toInt py.toInt) (i + 1)) = (pI (par2 (eTg n X Y px.toInt py.toInt) i) : Int32) := by first | exact zp_iff (par2_n (sk_tg (by omega)).1) | exact zp_iff (par2_n (by unfold eTg; omega)) | exact zp_t ((par2_y (P := (eTg n X Y px.toInt py.toInt)) (i := i) (by have h9 := hne (by omega); unfold eTg; omega)).mpr (by first | with_reducible assumption | assumption)) | exact zp_f (fun q => (par2_y (P := (eTg n X Y px.toInt py.toInt)) (i := i) (by have h9 := hne (by omega); unfold eTg; omega)).mp q (by first | with_reducible assumption | assumption))
                    have hl9 : lv_has ls 7 [(4, .int (nI (i + 1))), (3, .int (pI (par2 (eTg n X Y px.toInt py.toInt) (i + 1)))), (0, .ref r), (1, .int px), (2, .int py)] := by rw [e9_3]; exact hl9
                    exact ih_5 (i + 1) H locs ls (by first | with_reducible assumption | omega) (by first | with_reducible assumption | omega) (by intro k hk; rcases Nat.lt_or_ge k i with h | h; exact hno k h; have e9 : k = i := (by first | with_reducible assumption | omega); subst e9; first | exact (sk_tg (by first | with_reducible assumption | omega)).2 | (unfold eOn onS; unfold eCr at *; omega)) hP hD hS hl9
                  · exact absurd (by decide) c_13
                · have c_12 : py.toInt < (Y (nxt n i)).toInt := zc_nle rfl rfl c_12
                  refine lv_iconst (v := 1) hx hb dX7_where_213 rfl ?_
                  refine lv_goto (tgt := 218) hx hb dX7_where_214 rfl ?_
                  refine lv_icmp_eq (tgt := 266) hx hb dX7_where_218 rfl (fun c_14 => ?_) (fun c_14 => ?_)
                  · exact absurd c_14 (by decide)
                  · refine lv_iload hx hb dX7_where_221 (lv_at hl 0 rfl) ?_
                    refine lv_if_le (tgt := 230) hx hb dX7_where_223 rfl (fun c_15 => ?_) (fun c_15 => ?_)
                    · have c_15 : (eCr n X Y i px.toInt py.toInt) ≤ 0 := zc_le (iI_toInt (by omega)) rfl c_15
                      refine lv_iconst (v := 0) hx hb dX7_where_230 rfl ?_
                      refine lv_aload_n hx hb dX7_where_231 rfl (lv_at hl 4 rfl) ?_
                      refine va_get (D := (dC, dI)) (ci := 6) (v := .ref ry) (C := RX7) (T := TX7) (N := 4) hx hb hts inX7 hown hK hP 0 rfl rfl 1 (Nat.le_of_ble_eq_true rfl) (hts _ mw_168) (fun _ h9 => h9) rfl dX7_where_232 ?_
                      refine lv_iload hx hb dX7_where_235 (lv_at hl 1 rfl) ?_
                      have b9_16 : nxt n i < cap := by omega
                      refine z_iald hx hb hK hP 2 0 rfl rfl (e := nxt n i) rfl b9_16 b9_8 dX7_where_237 ?_
                      refine lv_aload_n hx hb dX7_where_238 rfl (lv_at hl 4 rfl) ?_
                      refine va_get (D := (dC, dI)) (ci := 6) (v := .ref ry) (C := RX7) (T := TX7) (N := 4) hx hb hts inX7 hown hK hP 0 rfl rfl 1 (Nat.le_of_ble_eq_true rfl) (hts _ mw_168) (fun _ h9 => h9) rfl dX7_where_239 ?_
                      refine lv_iload hx hb dX7_where_242 (lv_at hl 2 rfl) ?_
                      have b9_17 : i < cap := by omega
                      refine z_iald hx hb hK hP 2 0 rfl rfl (e := i) rfl b9_17 b9_8 dX7_where_244 ?_
                      refine lv_icmp_le (tgt := 252) hx hb dX7_where_245 rfl (fun c_18 => ?_) (fun c_18 => ?_)
                      · have c_18 : (Y (nxt n i)).toInt ≤ (Y i).toInt := zc_le rfl rfl c_18
                        refine lv_iconst (v := 0) hx hb dX7_where_252 rfl ?_
                        refine lv_icmp_ne (tgt := 266) hx hb dX7_where_253 rfl (fun c_19 => ?_) (fun c_19 => ?_)
                        · exact absurd (by decide) c_19
                        · refine lv_iload_n hx hb dX7_where_256 rfl (lv_at hl 3 rfl) ?_
                          refine lv_if_ne (tgt := 264) hx hb dX7_where_257 rfl (fun c_20 => ?_) (fun c_20 => ?_)
                          · have c_20 : par2 (eTg n X Y px.toInt py.toInt) i := zp_1 c_20
                            refine lv_iconst (v := 0) hx hb dX7_where_264 rfl ?_
                            refine lv_istore_n (lv' := [(3, .int 0), (6, .int (iI (eCr n X Y i px.toInt py.toInt))), (5, .int (nI (nxt n i))), (4, .int (nI i)), (0, .ref r), (1, .int px), (2, .int py)]) hx hb dX7_where_265 rfl hl (Nat.le_of_ble_eq_true rfl) rfl (fun ls hl => ?_)
                            refine lv_iinc (v := nI (i + 1)) (lv' := [(4, .int (nI (i + 1))), (3, .int 0), (6, .int (iI (eCr n X Y i px.toInt py.toInt))), (5, .int (nI (nxt n i))), (0, .ref r), (1, .int px), (2, .int py)]) hx hb dX7_where_266 hl (k := 3) rfl (nI_add i 1) (Nat.le_of_ble_eq_true rfl) rfl (fun ls hl => ?_)
                            refine lv_goto (tgt := 5) hx hb dX7_where_269 rfl ?_
                            have hl9 := lv_sub hl [0, 1, 4, 5, 6] rfl
                            have e9_3 : pI (par2 (eTg n X Y px.toInt py.toInt) (i + 1)) = (0 : Int32) := by first | exact zp_iff (par2_n (sk_tg (by omega)).1) | exact zp_iff (par2_n (by unfold eTg; omega)) | exact zp_t ((par2_y (P := (eTg n X Y px.toInt py.toInt)) (i := i) (by have h9 := hne (by omega); unfold eTg; omega)).mpr (by first | with_reducible assumption | assumption)) | exact zp_f (fun q => (par2_y (P := (eTg n X Y px.toInt py.toInt)) (i := i) (by have h9 := hne (by omega); unfold eTg; omega)).mp q (by first | with_reducible assumption | assumption))
                            have hl9 : lv_has ls 7 [(4, .int (nI (i + 1))), (3, .int (pI (par2 (eTg n X Y px.toInt py.toInt) (i + 1)))), (0, .ref r), (1, .int px), (2, .int py)] := by rw [e9_3]; exact hl9
                            exact ih_5 (i + 1) H locs ls (by first | with_reducible assumption | omega) (by first | with_reducible assumption | omega) (by intro k hk; rcases Nat.lt_or_ge k i with h | h; exact hno k h; have e9 : k = i := (by first | with_reducible assumption | omega); subst e9; first | exact (sk_tg (by first | with_reducible assumption | omega)).2 | (unfold eOn onS; unfold eCr at *; omega)) hP hD hS hl9
                          · have c_20 : ¬ (par2 (eTg n X Y px.toInt py.toInt) i) := zp_0 c_20
                            refine lv_iconst (v := 1) hx hb dX7_where_260 rfl ?_
                            refine lv_goto (tgt := 265) hx hb dX7_where_261 rfl ?_
                            refine lv_istore_n (lv' := [(3, .int 1), (6, .int (iI (eCr n X Y i px.toInt py.toInt))), (5, .int (nI (nxt n i))), (4, .int (nI i)), (0, .ref r), (1, .int px), (2, .int py)]) hx hb dX7_where_265 rfl hl (Nat.le_of_ble_eq_true rfl) rfl (fun ls hl => ?_)
                            refine lv_iinc (v := nI (i + 1)) (lv' := [(4, .int (nI (i + 1))), (3, .int 1), (6, .int (iI (eCr n X Y i px.toInt py.toInt))), (5, .int (nI (nxt n i))), (0, .ref r), (1, .int px), (2, .int py)]) hx hb dX7_where_266 hl (k := 3) rfl (nI_add i 1) (Nat.le_of_ble_eq_true rfl) rfl (fun ls hl => ?_)
                            refine lv_goto (tgt := 5) hx hb dX7_where_269 rfl ?_
                            have hl9 := lv_sub hl [0, 1, 4, 5, 6] rfl
                            have e9_3 : pI (par2 (eTg n X Y px.toInt py.toInt) (i + 1)) = (1 : Int32) := by first | exact zp_iff (par2_n (sk_tg (by omega)).1) | exact zp_iff (par2_n (by unfold eTg; omega)) | exact zp_t ((par2_y (P := (eTg n X Y px.toInt py.toInt)) (i := i) (by have h9 := hne (by omega); unfold eTg; omega)).mpr (by first | with_reducible assumption | assumption)) | exact zp_f (fun q => (par2_y (P := (eTg n X Y px.toInt py.toInt)) (i := i) (by have h9 := hne (by omega); unfold eTg; omega)).mp q (by first | with_reducible assumption | assumption))
                            have hl9 : lv_has ls 7 [(4, .int (nI (i + 1))), (3, .int (pI (par2 (eTg n X Y px.toInt py.toInt) (i + 1)))), (0, .ref r), (1, .int px), (2, .int py)] := by rw [e9_3]; exact hl9
                            exact ih_5 (i + 1) H locs ls (by first | with_reducible assumption | omega) (by first | with_reducible assumption | omega) (by intro k hk; rcases Nat.lt_or_ge k i with h | h; exact hno k h; have e9 : k = i := (by first | with_reducible assumption | omega); subst e9; first | exact (sk_tg (by first | with_reducible assumption | omega)).2 | (unfold eOn onS; unfold eCr at *; omega)) hP hD hS hl9
                      · have c_18 : (Y i).toInt < (Y (nxt n i)).toInt := zc_nle rfl rfl c_18
                        refine lv_iconst (v := 1) hx hb dX7_where_248 rfl ?_
                        refine lv_goto (tgt := 253) hx hb dX7_where_249 rfl ?_
                        refine lv_icmp_ne (tgt := 266) hx hb dX7_where_253 rfl (fun c_21 => ?_) (fun c_21 => ?_)
                        · refine lv_iinc (v := nI (i + 1)) (lv' := [(4, .int (nI (i + 1))), (6, .int (iI (eCr n X Y i px.toInt py.toInt))), (5, .int (nI (nxt n i))), (3, .int (pI (par2 (eTg n X Y px.toInt py.toInt) i))), (0, .ref r), (1, .int px), (2, .int py)]) hx hb dX7_where_266 hl (k := 2) rfl (nI_add i 1) (Nat.le_of_ble_eq_true rfl) rfl (fun ls hl => ?_)
                          refine lv_goto (tgt := 5) hx hb dX7_where_269 rfl ?_
                          have hl9 := lv_sub hl [0, 3, 4, 5, 6] rfl
                          have e9_3 : pI (par2 (eTg n X Y px.toInt py.toInt) (i + 1)) = (pI (par2 (eTg n X Y px.toInt py.toInt) i) : Int32) := by first | exact zp_iff (par2_n (sk_tg (by omega)).1) | exact zp_iff (par2_n (by unfold eTg; omega)) | exact zp_t ((par2_y (P := (eTg n X Y px.toInt py.toInt)) (i := i) (by have h9 := hne (by omega); unfold eTg; omega)).mpr (by first | with_reducible assumption | assumption)) | exact zp_f (fun q => (par2_y (P := (eTg n X Y px.toInt py.toInt)) (i := i) (by have h9 := hne (by omega); unfold eTg; omega)).mp q (by first | with_reducible assumption | assumption))
                          have hl9 : lv_has ls 7 [(4, .int (nI (i + 1))), (3, .int (pI (par2 (eTg n X Y px.toInt py.toInt) (i + 1)))), (0, .ref r), (1, .int px), (2, .int py)] := by rw [e9_3]; exact hl9
                          exact ih_5 (i + 1) H locs ls (by first | with_reducible assumption | omega) (by first | with_reducible assumption | omega) (by intro k hk; rcases Nat.lt_or_ge k i with h | h; exact hno k h; have e9 : k = i := (by first | with_reducible assumption | omega); subst e9; first | exact (sk_tg (by first | with_reducible assumption | omega)).2 | (unfold eOn onS; unfold eCr at *; omega)) hP hD hS hl9
                        · exact absurd c_21 (by decide)
                    · have c_15 : 0 < (eCr n X Y i px.toInt py.toInt) := zc_nle (iI_toInt (by omega)) rfl c_15
                      refine lv_iconst (v := 1) hx hb dX7_where_226 rfl ?_
                      refine lv_goto (tgt := 231) hx hb dX7_where_227 rfl ?_
                      refine lv_aload_n hx hb dX7_where_231 rfl (lv_at hl 4 rfl) ?_
                      refine va_get (D := (dC, dI)) (ci := 6) (v := .ref ry) (C := RX7) (T := TX7) (N := 4) hx hb hts inX7 hown hK hP 0 rfl rfl 1 (Nat.le_of_ble_eq_true rfl) (hts _ mw_168) (fun _ h9 => h9) rfl dX7_where_232 ?_
                      refine lv_iload hx hb dX7_where_235 (lv_at hl 1 rfl) ?_
                      have b9_22 : nxt n i < cap := by omega
                      refine z_iald hx hb hK hP 2 0 rfl rfl (e := nxt n i) rfl b9_22 b9_8 dX7_where_237 ?_
                      refine lv_aload_n hx hb dX7_where_238 rfl (lv_at hl 4 rfl) ?_
                      refine va_get (D := (dC, dI)) (ci := 6) (v := .ref ry) (C := RX7) (T := TX7) (N := 4) hx hb hts inX7 hown hK hP 0 rfl rfl 1 (Nat.le_of_ble_eq_true rfl) (hts _ mw_168) (fun _ h9 => h9) rfl dX7_where_239 ?_
                      refine lv_iload hx hb dX7_where_242 (lv_at hl 2 rfl) ?_
                      have b9_23 : i < cap := by omega
                      refine z_iald hx hb hK hP 2 0 rfl rfl (e := i) rfl b9_23 b9_8 dX7_where_244 ?_
                      refine lv_icmp_le (tgt := 252) hx hb dX7_where_245 rfl (fun c_24 => ?_) (fun c_24 => ?_)
                      · have c_24 : (Y (nxt n i)).toInt ≤ (Y i).toInt := zc_le rfl rfl c_24
                        refine lv_iconst (v := 0) hx hb dX7_where_252 rfl ?_
                        refine lv_icmp_ne (tgt := 266) hx hb dX7_where_253 rfl (fun c_25 => ?_) (fun c_25 => ?_)
                        · refine lv_iinc (v := nI (i + 1)) (lv' := [(4, .int (nI (i + 1))), (6, .int (iI (eCr n X Y i px.toInt py.toInt))), (5, .int (nI (nxt n i))), (3, .int (pI (par2 (eTg n X Y px.toInt py.toInt) i))), (0, .ref r), (1, .int px), (2, .int py)]) hx hb dX7_where_266 hl (k := 2) rfl (nI_add i 1) (Nat.le_of_ble_eq_true rfl) rfl (fun ls hl => ?_)
                          refine lv_goto (tgt := 5) hx hb dX7_where_269 rfl ?_
                          have hl9 := lv_sub hl [0, 3, 4, 5, 6] rfl
                          have e9_3 : pI (par2 (eTg n X Y px.toInt py.toInt) (i + 1)) = (pI (par2 (eTg n X Y px.toInt py.toInt) i) : Int32) := by first | exact zp_iff (par2_n (sk_tg (by omega)).1) | exact zp_iff (par2_n (by unfold eTg; omega)) | exact zp_t ((par2_y (P := (eTg n X Y px.toInt py.toInt)) (i := i) (by have h9 := hne (by omega); unfold eTg; omega)).mpr (by first | with_reducible assumption | assumption)) | exact zp_f (fun q => (par2_y (P := (eTg n X Y px.toInt py.toInt)) (i := i) (by have h9 := hne (by omega); unfold eTg; omega)).mp q (by first | with_reducible assumption | assumption))
                          have hl9 : lv_has ls 7 [(4, .int (nI (i + 1))), (3, .int (pI (par2 (eTg n X Y px.toInt py.toInt) (i + 1)))), (0, .ref r), (1, .int px), (2, .int py)] := by rw [e9_3]; exact hl9
                          exact ih_5 (i + 1) H locs ls (by first | with_reducible assumption | omega) (by first | with_reducible assumption | omega) (by intro k hk; rcases Nat.lt_or_ge k i with h | h; exact hno k h; have e9 : k = i := (by first | with_reducible assumption | omega); subst e9; first | exact (sk_tg (by first | with_reducible assumption | omega)).2 | (unfold eOn onS; unfold eCr at *; omega)) hP hD hS hl9
                        · exact absurd c_25 (by decide)
                      · have c_24 : (Y i).toInt < (Y (nxt n i)).toInt := zc_nle rfl rfl c_24
                        refine lv_iconst (v := 1) hx hb dX7_where_248 rfl ?_
                        refine lv_goto (tgt := 253) hx hb dX7_where_249 rfl ?_
                        refine lv_icmp_ne (tgt := 266) hx hb dX7_where_253 rfl (fun c_26 => ?_) (fun c_26 => ?_)
                        · exact absurd (by decide) c_26
                        · refine lv_iload_n hx hb dX7_where_256 rfl (lv_at hl 3 rfl) ?_
                          refine lv_if_ne (tgt := 264) hx hb dX7_where_257 rfl (fun c_27 => ?_) (fun c_27 => ?_)
                          · have c_27 : par2 (eTg n X Y px.toInt py.toInt) i := zp_1 c_27
                            refine lv_iconst (v := 0) hx hb dX7_where_264 rfl ?_
                            refine lv_istore_n (lv' := [(3, .int 0), (6, .int (iI (eCr n X Y i px.toInt py.toInt))), (5, .int (nI (nxt n i))), (4, .int (nI i)), (0, .ref r), (1, .int px), (2, .int py)]) hx hb dX7_where_265 rfl hl (Nat.le_of_ble_eq_true rfl) rfl (fun ls hl => ?_)
                            refine lv_iinc (v := nI (i + 1)) (lv' := [(4, .int (nI (i + 1))), (3, .int 0), (6, .int (iI (eCr n X Y i px.toInt py.toInt))), (5, .int (nI (nxt n i))), (0, .ref r), (1, .int px), (2, .int py)]) hx hb dX7_where_266 hl (k := 3) rfl (nI_add i 1) (Nat.le_of_ble_eq_true rfl) rfl (fun ls hl => ?_)
                            refine lv_goto (tgt := 5) hx hb dX7_where_269 rfl ?_
                            have hl9 := lv_sub hl [0, 1, 4, 5, 6] rfl
                            have e9_3 : pI (par2 (eTg n X Y px.toInt py.toInt) (i + 1)) = (0 : Int32) := by first | exact zp_iff (par2_n (sk_tg (by omega)).1) | exact zp_iff (par2_n (by unfold eTg; omega)) | exact zp_t ((par2_y (P := (eTg n X Y px.toInt py.toInt)) (i := i) (by have h9 := hne (by omega); unfold eTg; omega)).mpr (by first | with_reducible assumption | assumption)) | exact zp_f (fun q => (par2_y (P := (eTg n X Y px.toInt py.toInt)) (i := i) (by have h9 := hne (by omega); unfold eTg; omega)).mp q (by first | with_reducible assumption | assumption))
                            have hl9 : lv_has ls 7 [(4, .int (nI (i + 1))), (3, .int (pI (par2 (eTg n X Y px.toInt py.toInt) (i + 1)))), (0, .ref r), (1, .int px), (2, .int py)] := by rw [e9_3]; exact hl9
                            exact ih_5 (i + 1) H locs ls (by first | with_reducible assumption | omega) (by first | with_reducible assumption | omega) (by intro k hk; rcases Nat.lt_or_ge k i with h | h; exact hno k h; have e9 : k = i := (by first | with_reducible assumption | omega); subst e9; first | exact (sk_tg (by first | with_reducible assumption | omega)).2 | (unfold eOn onS; unfold eCr at *; omega)) hP hD hS hl9
                          · have c_27 : ¬ (par2 (eTg n X Y px.toInt py.toInt) i) := zp_0 c_27
                            refine lv_iconst (v := 1) hx hb dX7_where_260 rfl ?_
                            refine lv_goto (tgt := 265) hx hb dX7_where_261 rfl ?_
                            refine lv_istore_n (lv' := [(3, .int 1), (6, .int (iI (eCr n X Y i px.toInt py.toInt))), (5, .int (nI (nxt n i))), (4, .int (nI i)), (0, .ref r), (1, .int px), (2, .int py)]) hx hb dX7_where_265 rfl hl (Nat.le_of_ble_eq_true rfl) rfl (fun ls hl => ?_)
                            refine lv_iinc (v := nI (i + 1)) (lv' := [(4, .int (nI (i + 1))), (3, .int 1), (6, .int (iI (eCr n X Y i px.toInt py.toInt))), (5, .int (nI (nxt n i))), (0, .ref r), (1, .int px), (2, .int py)]) hx hb dX7_where_266 hl (k := 3) rfl (nI_add i 1) (Nat.le_of_ble_eq_true rfl) rfl (fun ls hl => ?_)
                            refine lv_goto (tgt := 5) hx hb dX7_where_269 rfl ?_
                            have hl9 := lv_sub hl [0, 1, 4, 5, 6] rfl
                            have e9_3 : pI (par2 (eTg n X Y px.toInt py.toInt) (i + 1)) = (1 : Int32) := by first | exact zp_iff (par2_n (sk_tg (by omega)).1) | exact zp_iff (par2_n (by unfold eTg; omega)) | exact zp_t ((par2_y (P := (eTg n X Y px.toInt py.toInt)) (i := i) (by have h9 := hne (by omega); unfold eTg; omega)).mpr (by first | with_reducible assumption | assumption)) | exact zp_f (fun q => (par2_y (P := (eTg n X Y px.toInt py.toInt)) (i := i) (by have h9 := hne (by omega); unfold eTg; omega)).mp q (by first | with_reducible assumption | assumption))
                            have hl9 : lv_has ls 7 [(4, .int (nI (i + 1))), (3, .int (pI (par2 (eTg n X Y px.toInt py.toInt) (i + 1)))), (0, .ref r), (1, .int px), (2, .int py)] := by rw [e9_3]; exact hl9
                            exact ih_5 (i + 1) H locs ls (by first | with_reducible assumption | omega) (by first | with_reducible assumption | omega) (by intro k hk; rcases Nat.lt_or_ge k i with h | h; exact hno k h; have e9 : k = i := (by first | with_reducible assumption | omega); subst e9; first | exact (sk_tg (by first | with_reducible assumption | omega)).2 | (unfold eOn onS; unfold eCr at *; omega)) hP hD hS hl9
              · have c_11 : py.toInt < (Y i).toInt := zc_nle rfl rfl c_11
                refine lv_iconst (v := 1) hx hb dX7_where_197 rfl ?_
                refine lv_goto (tgt := 202) hx hb dX7_where_198 rfl ?_
                refine lv_aload_n hx hb dX7_where_202 rfl (lv_at hl 4 rfl) ?_
                refine va_get (D := (dC, dI)) (ci := 6) (v := .ref ry) (C := RX7) (T := TX7) (N := 4) hx hb hts inX7 hown hK hP 0 rfl rfl 1 (Nat.le_of_ble_eq_true rfl) (hts _ mw_168) (fun _ h9 => h9) rfl dX7_where_203 ?_
                refine lv_iload hx hb dX7_where_206 (lv_at hl 1 rfl) ?_
                have b9_28 : nxt n i < cap := by omega
                refine z_iald hx hb hK hP 2 0 rfl rfl (e := nxt n i) rfl b9_28 b9_8 dX7_where_208 ?_
                refine lv_iload_n hx hb dX7_where_209 rfl (lv_at hl 6 rfl) ?_
                refine lv_icmp_le (tgt := 217) hx hb dX7_where_210 rfl (fun c_29 => ?_) (fun c_29 => ?_)
                · have c_29 : (Y (nxt n i)).toInt ≤ py.toInt := zc_le rfl rfl c_29
                  refine lv_iconst (v := 0) hx hb dX7_where_217 rfl ?_
                  refine lv_icmp_eq (tgt := 266) hx hb dX7_where_218 rfl (fun c_30 => ?_) (fun c_30 => ?_)
                  · exact absurd c_30 (by decide)
                  · refine lv_iload hx hb dX7_where_221 (lv_at hl 0 rfl) ?_
                    refine lv_if_le (tgt := 230) hx hb dX7_where_223 rfl (fun c_31 => ?_) (fun c_31 => ?_)
                    · have c_31 : (eCr n X Y i px.toInt py.toInt) ≤ 0 := zc_le (iI_toInt (by omega)) rfl c_31
                      refine lv_iconst (v := 0) hx hb dX7_where_230 rfl ?_
                      refine lv_aload_n hx hb dX7_where_231 rfl (lv_at hl 4 rfl) ?_
                      refine va_get (D := (dC, dI)) (ci := 6) (v := .ref ry) (C := RX7) (T := TX7) (N := 4) hx hb hts inX7 hown hK hP 0 rfl rfl 1 (Nat.le_of_ble_eq_true rfl) (hts _ mw_168) (fun _ h9 => h9) rfl dX7_where_232 ?_
                      refine lv_iload hx hb dX7_where_235 (lv_at hl 1 rfl) ?_
                      refine z_iald hx hb hK hP 2 0 rfl rfl (e := nxt n i) rfl b9_28 b9_8 dX7_where_237 ?_
                      refine lv_aload_n hx hb dX7_where_238 rfl (lv_at hl 4 rfl) ?_
                      refine va_get (D := (dC, dI)) (ci := 6) (v := .ref ry) (C := RX7) (T := TX7) (N := 4) hx hb hts inX7 hown hK hP 0 rfl rfl 1 (Nat.le_of_ble_eq_true rfl) (hts _ mw_168) (fun _ h9 => h9) rfl dX7_where_239 ?_
                      refine lv_iload hx hb dX7_where_242 (lv_at hl 2 rfl) ?_
                      have b9_32 : i < cap := by omega
                      refine z_iald hx hb hK hP 2 0 rfl rfl (e := i) rfl b9_32 b9_8 dX7_where_244 ?_
                      refine lv_icmp_le (tgt := 252) hx hb dX7_where_245 rfl (fun c_33 => ?_) (fun c_33 => ?_)
                      · have c_33 : (Y (nxt n i)).toInt ≤ (Y i).toInt := zc_le rfl rfl c_33
                        refine lv_iconst (v := 0) hx hb dX7_where_252 rfl ?_
                        refine lv_icmp_ne (tgt := 266) hx hb dX7_where_253 rfl (fun c_34 => ?_) (fun c_34 => ?_)
                        · exact absurd (by decide) c_34
                        · refine lv_iload_n hx hb dX7_where_256 rfl (lv_at hl 3 rfl) ?_
                          refine lv_if_ne (tgt := 264) hx hb dX7_where_257 rfl (fun c_35 => ?_) (fun c_35 => ?_)
                          · have c_35 : par2 (eTg n X Y px.toInt py.toInt) i := zp_1 c_35
                            refine lv_iconst (v := 0) hx hb dX7_where_264 rfl ?_
                            refine lv_istore_n (lv' := [(3, .int 0), (6, .int (iI (eCr n X Y i px.toInt py.toInt))), (5, .int (nI (nxt n i))), (4, .int (nI i)), (0, .ref r), (1, .int px), (2, .int py)]) hx hb dX7_where_265 rfl hl (Nat.le_of_ble_eq_true rfl) rfl (fun ls hl => ?_)
                            refine lv_iinc (v := nI (i + 1)) (lv' := [(4, .int (nI (i + 1))), (3, .int 0), (6, .int (iI (eCr n X Y i px.toInt py.toInt))), (5, .int (nI (nxt n i))), (0, .ref r), (1, .int px), (2, .int py)]) hx hb dX7_where_266 hl (k := 3) rfl (nI_add i 1) (Nat.le_of_ble_eq_true rfl) rfl (fun ls hl => ?_)
                            refine lv_goto (tgt := 5) hx hb dX7_where_269 rfl ?_
                            have hl9 := lv_sub hl [0, 1, 4, 5, 6] rfl
                            have e9_3 : pI (par2 (eTg n X Y px.toInt py.toInt) (i + 1)) = (0 : Int32) := by first | exact zp_iff (par2_n (sk_tg (by omega)).1) | exact zp_iff (par2_n (by unfold eTg; omega)) | exact zp_t ((par2_y (P := (eTg n X Y px.toInt py.toInt)) (i := i) (by have h9 := hne (by omega); unfold eTg; omega)).mpr (by first | with_reducible assumption | assumption)) | exact zp_f (fun q => (par2_y (P := (eTg n X Y px.toInt py.toInt)) (i := i) (by have h9 := hne (by omega); unfold eTg; omega)).mp q (by first | with_reducible assumption | assumption))
                            have hl9 : lv_has ls 7 [(4, .int (nI (i + 1))), (3, .int (pI (par2 (eTg n X Y px.toInt py.toInt) (i + 1)))), (0, .ref r), (1, .int px), (2, .int py)] := by rw [e9_3]; exact hl9
                            exact ih_5 (i + 1) H locs ls (by first | with_reducible assumption | omega) (by first | with_reducible assumption | omega) (by intro k hk; rcases Nat.lt_or_ge k i with h | h; exact hno k h; have e9 : k = i := (by first | with_reducible assumption | omega); subst e9; first | exact (sk_tg (by first | with_reducible assumption | omega)).2 | (unfold eOn onS; unfold eCr at *; omega)) hP hD hS hl9
                          · have c_35 : ¬ (par2 (eTg n X Y px.toInt py.toInt) i) := zp_0 c_35
                            refine lv_iconst (v := 1) hx hb dX7_where_260 rfl ?_
                            refine lv_goto (tgt := 265) hx hb dX7_where_261 rfl ?_
                            refine lv_istore_n (lv' := [(3, .int 1), (6, .int (iI (eCr n X Y i px.toInt py.toInt))), (5, .int (nI (nxt n i))), (4, .int (nI i)), (0, .ref r), (1, .int px), (2, .int py)]) hx hb dX7_where_265 rfl hl (Nat.le_of_ble_eq_true rfl) rfl (fun ls hl => ?_)
                            refine lv_iinc (v := nI (i + 1)) (lv' := [(4, .int (nI (i + 1))), (3, .int 1), (6, .int (iI (eCr n X Y i px.toInt py.toInt))), (5, .int (nI (nxt n i))), (0, .ref r), (1, .int px), (2, .int py)]) hx hb dX7_where_266 hl (k := 3) rfl (nI_add i 1) (Nat.le_of_ble_eq_true rfl) rfl (fun ls hl => ?_)
                            refine lv_goto (tgt := 5) hx hb dX7_where_269 rfl ?_
                            have hl9 := lv_sub hl [0, 1, 4, 5, 6] rfl
                            have e9_3 : pI (par2 (eTg n X Y px.toInt py.toInt) (i + 1)) = (1 : Int32) := by first | exact zp_iff (par2_n (sk_tg (by omega)).1) | exact zp_iff (par2_n (by unfold eTg; omega)) | exact zp_t ((par2_y (P := (eTg n X Y px.toInt py.toInt)) (i := i) (by have h9 := hne (by omega); unfold eTg; omega)).mpr (by first | with_reducible assumption | assumption)) | exact zp_f (fun q => (par2_y (P := (eTg n X Y px.toInt py.toInt)) (i := i) (by have h9 := hne (by omega); unfold eTg; omega)).mp q (by first | with_reducible assumption | assumption))
                            have hl9 : lv_has ls 7 [(4, .int (nI (i + 1))), (3, .int (pI (par2 (eTg n X Y px.toInt py.toInt) (i + 1)))), (0, .ref r), (1, .int px), (2, .int py)] := by rw [e9_3]; exact hl9
                            exact ih_5 (i + 1) H locs ls (by first | with_reducible assumption | omega) (by first | with_reducible assumption | omega) (by intro k hk; rcases Nat.lt_or_ge k i with h | h; exact hno k h; have e9 : k = i := (by first | with_reducible assumption | omega); subst e9; first | exact (sk_tg (by first | with_reducible assumption | omega)).2 | (unfold eOn onS; unfold eCr at *; omega)) hP hD hS hl9
                      · have c_33 : (Y i).toInt < (Y (nxt n i)).toInt := zc_nle rfl rfl c_33
                        refine lv_iconst (v := 1) hx hb dX7_where_248 rfl ?_
                        refine lv_goto (tgt := 253) hx hb dX7_where_249 rfl ?_
                        refine lv_icmp_ne (tgt := 266) hx hb dX7_where_253 rfl (fun c_36 => ?_) (fun c_36 => ?_)
                        · refine lv_iinc (v := nI (i + 1)) (lv' := [(4, .int (nI (i + 1))), (6, .int (iI (eCr n X Y i px.toInt py.toInt))), (5, .int (nI (nxt n i))), (3, .int (pI (par2 (eTg n X Y px.toInt py.toInt) i))), (0, .ref r), (1, .int px), (2, .int py)]) hx hb dX7_where_266 hl (k := 2) rfl (nI_add i 1) (Nat.le_of_ble_eq_true rfl) rfl (fun ls hl => ?_)
                          refine lv_goto (tgt := 5) hx hb dX7_where_269 rfl ?_
                          have hl9 := lv_sub hl [0, 3, 4, 5, 6] rfl
                          have e9_3 : pI (par2 (eTg n X Y px.toInt py.toInt) (i + 1)) = (pI (par2 (eTg n X Y px.toInt py.toInt) i) : Int32) := by first | exact zp_iff (par2_n (sk_tg (by omega)).1) | exact zp_iff (par2_n (by unfold eTg; omega)) | exact zp_t ((par2_y (P := (eTg n X Y px.toInt py.toInt)) (i := i) (by have h9 := hne (by omega); unfold eTg; omega)).mpr (by first | with_reducible assumption | assumption)) | exact zp_f (fun q => (par2_y (P := (eTg n X Y px.toInt py.toInt)) (i := i) (by have h9 := hne (by omega); unfold eTg; omega)).mp q (by first | with_reducible assumption | assumption))
                          have hl9 : lv_has ls 7 [(4, .int (nI (i + 1))), (3, .int (pI (par2 (eTg n X Y px.toInt py.toInt) (i + 1)))), (0, .ref r), (1, .int px), (2, .int py)] := by rw [e9_3]; exact hl9
                          exact ih_5 (i + 1) H locs ls (by first | with_reducible assumption | omega) (by first | with_reducible assumption | omega) (by intro k hk; rcases Nat.lt_or_ge k i with h | h; exact hno k h; have e9 : k = i := (by first | with_reducible assumption | omega); subst e9; first | exact (sk_tg (by first | with_reducible assumption | omega)).2 | (unfold eOn onS; unfold eCr at *; omega)) hP hD hS hl9
                        · exact absurd c_36 (by decide)
                    · have c_31 : 0 < (eCr n X Y i px.toInt py.toInt) := zc_nle (iI_toInt (by omega)) rfl c_31
                      refine lv_iconst (v := 1) hx hb dX7_where_226 rfl ?_
                      refine lv_goto (tgt := 231) hx hb dX7_where_227 rfl ?_
                      refine lv_aload_n hx hb dX7_where_231 rfl (lv_at hl 4 rfl) ?_
                      refine va_get (D := (dC, dI)) (ci := 6) (v := .ref ry) (C := RX7) (T := TX7) (N := 4) hx hb hts inX7 hown hK hP 0 rfl rfl 1 (Nat.le_of_ble_eq_true rfl) (hts _ mw_168) (fun _ h9 => h9) rfl dX7_where_232 ?_
                      refine lv_iload hx hb dX7_where_235 (lv_at hl 1 rfl) ?_
                      have b9_37 : nxt n i < cap := by omega
                      refine z_iald hx hb hK hP 2 0 rfl rfl (e := nxt n i) rfl b9_37 b9_8 dX7_where_237 ?_
                      refine lv_aload_n hx hb dX7_where_238 rfl (lv_at hl 4 rfl) ?_
                      refine va_get (D := (dC, dI)) (ci := 6) (v := .ref ry) (C := RX7) (T := TX7) (N := 4) hx hb hts inX7 hown hK hP 0 rfl rfl 1 (Nat.le_of_ble_eq_true rfl) (hts _ mw_168) (fun _ h9 => h9) rfl dX7_where_239 ?_
                      refine lv_iload hx hb dX7_where_242 (lv_at hl 2 rfl) ?_
                      have b9_38 : i < cap := by omega
                      refine z_iald hx hb hK hP 2 0 rfl rfl (e := i) rfl b9_38 b9_8 dX7_where_244 ?_
                      refine lv_icmp_le (tgt := 252) hx hb dX7_where_245 rfl (fun c_39 => ?_) (fun c_39 => ?_)
                      · have c_39 : (Y (nxt n i)).toInt ≤ (Y i).toInt := zc_le rfl rfl c_39
                        refine lv_iconst (v := 0) hx hb dX7_where_252 rfl ?_
                        refine lv_icmp_ne (tgt := 266) hx hb dX7_where_253 rfl (fun c_40 => ?_) (fun c_40 => ?_)
                        · refine lv_iinc (v := nI (i + 1)) (lv' := [(4, .int (nI (i + 1))), (6, .int (iI (eCr n X Y i px.toInt py.toInt))), (5, .int (nI (nxt n i))), (3, .int (pI (par2 (eTg n X Y px.toInt py.toInt) i))), (0, .ref r), (1, .int px), (2, .int py)]) hx hb dX7_where_266 hl (k := 2) rfl (nI_add i 1) (Nat.le_of_ble_eq_true rfl) rfl (fun ls hl => ?_)
                          refine lv_goto (tgt := 5) hx hb dX7_where_269 rfl ?_
                          have hl9 := lv_sub hl [0, 3, 4, 5, 6] rfl
                          have e9_3 : pI (par2 (eTg n X Y px.toInt py.toInt) (i + 1)) = (pI (par2 (eTg n X Y px.toInt py.toInt) i) : Int32) := by first | exact zp_iff (par2_n (sk_tg (by omega)).1) | exact zp_iff (par2_n (by unfold eTg; omega)) | exact zp_t ((par2_y (P := (eTg n X Y px.toInt py.toInt)) (i := i) (by have h9 := hne (by omega); unfold eTg; omega)).mpr (by first | with_reducible assumption | assumption)) | exact zp_f (fun q => (par2_y (P := (eTg n X Y px.toInt py.toInt)) (i := i) (by have h9 := hne (by omega); unfold eTg; omega)).mp q (by first | with_reducible assumption | assumption))
                          have hl9 : lv_has ls 7 [(4, .int (nI (i + 1))), (3, .int (pI (par2 (eTg n X Y px.toInt py.toInt) (i + 1)))), (0, .ref r), (1, .int px), (2, .int py)] := by rw [e9_3]; exact hl9
                          exact ih_5 (i + 1) H locs ls (by first | with_reducible assumption | omega) (by first | with_reducible assumption | omega) (by intro k hk; rcases Nat.lt_or_ge k i with h | h; exact hno k h; have e9 : k = i := (by first | with_reducible assumption | omega); subst e9; first | exact (sk_tg (by first | with_reducible assumption | omega)).2 | (unfold eOn onS; unfold eCr at *; omega)) hP hD hS hl9
                        · exact absurd c_40 (by decide)
                      · have c_39 : (Y i).toInt < (Y (nxt n i)).toInt := zc_nle rfl rfl c_39
                        refine lv_iconst (v := 1) hx hb dX7_where_248 rfl ?_
                        refine lv_goto (tgt := 253) hx hb dX7_where_249 rfl ?_
                        refine lv_icmp_ne (tgt := 266) hx hb dX7_where_253 rfl (fun c_41 => ?_) (fun c_41 => ?_)
                        · exact absurd (by decide) c_41
                        · refine lv_iload_n hx hb dX7_where_256 rfl (lv_at hl 3 rfl) ?_
                          refine lv_if_ne (tgt := 264) hx hb dX7_where_257 rfl (fun c_42 => ?_) (fun c_42 => ?_)
                          · have c_42 : par2 (eTg n X Y px.toInt py.toInt) i := zp_1 c_42
                            refine lv_iconst (v := 0) hx hb dX7_where_264 rfl ?_
                            refine lv_istore_n (lv' := [(3, .int 0), (6, .int (iI (eCr n X Y i px.toInt py.toInt))), (5, .int (nI (nxt n i))), (4, .int (nI i)), (0, .ref r), (1, .int px), (2, .int py)]) hx hb dX7_where_265 rfl hl (Nat.le_of_ble_eq_true rfl) rfl (fun ls hl => ?_)
                            refine lv_iinc (v := nI (i + 1)) (lv' := [(4, .int (nI (i + 1))), (3, .int 0), (6, .int (iI (eCr n X Y i px.toInt py.toInt))), (5, .int (nI (nxt n i))), (0, .ref r), (1, .int px), (2, .int py)]) hx hb dX7_where_266 hl (k := 3) rfl (nI_add i 1) (Nat.le_of_ble_eq_true rfl) rfl (fun ls hl => ?_)
                            refine lv_goto (tgt := 5) hx hb dX7_where_269 rfl ?_
                            have hl9 := lv_sub hl [0, 1, 4, 5, 6] rfl
                            have e9_3 : pI (par2 (eTg n X Y px.toInt py.toInt) (i + 1)) = (0 : Int32) := by first | exact zp_iff (par2_n (sk_tg (by omega)).1) | exact zp_iff (par2_n (by unfold eTg; omega)) | exact zp_t ((par2_y (P := (eTg n X Y px.toInt py.toInt)) (i := i) (by have h9 := hne (by omega); unfold eTg; omega)).mpr (by first | with_reducible assumption | assumption)) | exact zp_f (fun q => (par2_y (P := (eTg n X Y px.toInt py.toInt)) (i := i) (by have h9 := hne (by omega); unfold eTg; omega)).mp q (by first | with_reducible assumption | assumption))
                            have hl9 : lv_has ls 7 [(4, .int (nI (i + 1))), (3, .int (pI (par2 (eTg n X Y px.toInt py.toInt) (i + 1)))), (0, .ref r), (1, .int px), (2, .int py)] := by rw [e9_3]; exact hl9
                            exact ih_5 (i + 1) H locs ls (by first | with_reducible assumption | omega) (by first | with_reducible assumption | omega) (by intro k hk; rcases Nat.lt_or_ge k i with h | h; exact hno k h; have e9 : k = i := (by first | with_reducible assumption | omega); subst e9; first | exact (sk_tg (by first | with_reducible assumption | omega)).2 | (unfold eOn onS; unfold eCr at *; omega)) hP hD hS hl9
                          · have c_42 : ¬ (par2 (eTg n X Y px.toInt py.toInt) i) := zp_0 c_42
                            refine lv_iconst (v := 1) hx hb dX7_where_260 rfl ?_
                            refine lv_goto (tgt := 265) hx hb dX7_where_261 rfl ?_
                            refine lv_istore_n (lv' := [(3, .int 1), (6, .int (iI (eCr n X Y i px.toInt py.toInt))), (5, .int (nI (nxt n i))), (4, .int (nI i)), (0, .ref r), (1, .int px), (2, .int py)]) hx hb dX7_where_265 rfl hl (Nat.le_of_ble_eq_true rfl) rfl (fun ls hl => ?_)
                            refine lv_iinc (v := nI (i + 1)) (lv' := [(4, .int (nI (i + 1))), (3, .int 1), (6, .int (iI (eCr n X Y i px.toInt py.toInt))), (5, .int (nI (nxt n i))), (0, .ref r), (1, .int px), (2, .int py)]) hx hb dX7_where_266 hl (k := 3) rfl (nI_add i 1) (Nat.le_of_ble_eq_true rfl) rfl (fun ls hl => ?_)
                            refine lv_goto (tgt := 5) hx hb dX7_where_269 rfl ?_
                            have hl9 := lv_sub hl [0, 1, 4, 5, 6] rfl
                            have e9_3 : pI (par2 (eTg n X Y px.toInt py.toInt) (i + 1)) = (1 : Int32) := by first | exact zp_iff (par2_n (sk_tg (by omega)).1) | exact zp_iff (par2_n (by unfold eTg; omega)) | exact zp_t ((par2_y (P := (eTg n X Y px.toInt py.toInt)) (i := i) (by have h9 := hne (by omega); unfold eTg; omega)).mpr (by first | with_reducible assumption | assumption)) | exact zp_f (fun q => (par2_y (P := (eTg n X Y px.toInt py.toInt)) (i := i) (by have h9 := hne (by omega); unfold eTg; omega)).mp q (by first | with_reducible assumption | assumption))
                            have hl9 : lv_has ls 7 [(4, .int (nI (i + 1))), (3, .int (pI (par2 (eTg n X Y px.toInt py.toInt) (i + 1)))), (0, .ref r), (1, .int px), (2, .int py)] := by rw [e9_3]; exact hl9
                            exact ih_5 (i + 1) H locs ls (by first | with_reducible assumption | omega) (by first | with_reducible assumption | omega) (by intro k hk; rcases Nat.lt_or_ge k i with h | h; exact hno k h; have e9 : k = i := (by first | with_reducible assumption | omega); subst e9; first | exact (sk_tg (by first | with_reducible assumption | omega)).2 | (unfold eOn onS; unfold eCr at *; omega)) hP hD hS hl9
                · have c_29 : py.toInt < (Y (nxt n i)).toInt := zc_nle rfl rfl c_29
                  refine lv_iconst (v := 1) hx hb dX7_where_213 rfl ?_
                  refine lv_goto (tgt := 218) hx hb dX7_where_214 rfl ?_
                  refine lv_icmp_eq (tgt := 266) hx hb dX7_where_218 rfl (fun c_43 => ?_) (fun c_43 => ?_)
                  · refine lv_iinc (v := nI (i + 1)) (lv' := [(4, .int (nI (i + 1))), (6, .int (iI (eCr n X Y i px.toInt py.toInt))), (5, .int (nI (nxt n i))), (3, .int (pI (par2 (eTg n X Y px.toInt py.toInt) i))), (0, .ref r), (1, .int px), (2, .int py)]) hx hb dX7_where_266 hl (k := 2) rfl (nI_add i 1) (Nat.le_of_ble_eq_true rfl) rfl (fun ls hl => ?_)
                    refine lv_goto (tgt := 5) hx hb dX7_where_269 rfl ?_
                    have hl9 := lv_sub hl [0, 3, 4, 5, 6] rfl
                    have e9_3 : pI (par2 (eTg n X Y px.toInt py.toInt) (i + 1)) = (pI (par2 (eTg n X Y px.toInt py.toInt) i) : Int32) := by first | exact zp_iff (par2_n (sk_tg (by omega)).1) | exact zp_iff (par2_n (by unfold eTg; omega)) | exact zp_t ((par2_y (P := (eTg n X Y px.toInt py.toInt)) (i := i) (by have h9 := hne (by omega); unfold eTg; omega)).mpr (by first | with_reducible assumption | assumption)) | exact zp_f (fun q => (par2_y (P := (eTg n X Y px.toInt py.toInt)) (i := i) (by have h9 := hne (by omega); unfold eTg; omega)).mp q (by first | with_reducible assumption | assumption))
                    have hl9 : lv_has ls 7 [(4, .int (nI (i + 1))), (3, .int (pI (par2 (eTg n X Y px.toInt py.toInt) (i + 1)))), (0, .ref r), (1, .int px), (2, .int py)] := by rw [e9_3]; exact hl9
                    exact ih_5 (i + 1) H locs ls (by first | with_reducible assumption | omega) (by first | with_reducible assumption | omega) (by intro k hk; rcases Nat.lt_or_ge k i with h | h; exact hno k h; have e9 : k = i := (by first | with_reducible assumption | omega); subst e9; first | exact (sk_tg (by first | with_reducible assumption | omega)).2 | (unfold eOn onS; unfold eCr at *; omega)) hP hD hS hl9
                  · exact absurd (by decide) c_43
            refine lv_iload hx hb dX7_where_157 (lv_at hl 0 rfl) ?_
            refine lv_if_ne (tgt := 186) hx hb dX7_where_159 rfl (fun c_44 => ?_) (fun c_44 => ?_)
            · have c_44 : ¬ (eCr n X Y i px.toInt py.toInt) = 0 := zc_ne (iI_toInt (by omega)) rfl c_44
              exact hj_10 (by omega)
            · have c_44 : (eCr n X Y i px.toInt py.toInt) = 0 := zc_eq (iI_toInt (by omega)) rfl c_44
              refine lv_aload_n hx hb dX7_where_162 rfl (lv_at hl 4 rfl) ?_
              refine va_get (D := (dC, dI)) (ci := 6) (v := .ref rx) (C := RX7) (T := TX7) (N := 4) hx hb hts inX7 hown hK hP 0 rfl rfl 0 (Nat.le_of_ble_eq_true rfl) (hts _ mw_161) (fun _ h9 => h9) rfl dX7_where_163 ?_
              refine lv_iload hx hb dX7_where_166 (lv_at hl 2 rfl) ?_
              have b9_45 : i < cap := by omega
              refine z_iald hx hb hK hP 1 0 rfl rfl (e := i) rfl b9_45 b9_8 dX7_where_168 ?_
              refine lv_iload_n hx hb dX7_where_169 rfl (lv_at hl 5 rfl) ?_
              refine lv_icmp_le (tgt := 184) hx hb dX7_where_170 rfl (fun c_46 => ?_) (fun c_46 => ?_)
              · have c_46 : (X i).toInt ≤ px.toInt := zc_le rfl rfl c_46
                refine lv_iconst (v := 2) hx hb dX7_where_184 rfl ?_
                obtain ⟨hP9, hD9⟩ := zu_sub (wc := [_, _, _]) hP hD [true, true, true] rfl rfl
                rw [hQ9]
                exact W.iret (v := 2) hx hb hr (fun t ht hW => ⟨⟨congrArg (fun z => Outcome.returned (some (Value.int z))) (show (2 : Int32) = whr n X Y px.toInt py.toInt from (whr_2 ⟨i, by omega, by unfold eOn onS; unfold eCr at *; omega⟩).symm), by rw [ht]; exact hP9, hD9⟩, hS.F ht⟩) hS.2.2 dX7_where_185
              · have c_46 : px.toInt < (X i).toInt := zc_nle rfl rfl c_46
                refine lv_aload_n hx hb dX7_where_173 rfl (lv_at hl 4 rfl) ?_
                refine va_get (D := (dC, dI)) (ci := 6) (v := .ref rx) (C := RX7) (T := TX7) (N := 4) hx hb hts inX7 hown hK hP 0 rfl rfl 0 (Nat.le_of_ble_eq_true rfl) (hts _ mw_161) (fun _ h9 => h9) rfl dX7_where_174 ?_
                refine lv_iload hx hb dX7_where_177 (lv_at hl 1 rfl) ?_
                have b9_47 : nxt n i < cap := by omega
                refine z_iald hx hb hK hP 1 0 rfl rfl (e := nxt n i) rfl b9_47 b9_8 dX7_where_179 ?_
                refine lv_iload_n hx hb dX7_where_180 rfl (lv_at hl 5 rfl) ?_
                refine lv_icmp_gt (tgt := 186) hx hb dX7_where_181 rfl (fun c_48 => ?_) (fun c_48 => ?_)
                · have c_48 : px.toInt < (X (nxt n i)).toInt := zc_lt rfl rfl c_48
                  exact hj_10 (by omega)
                · have c_48 : (X (nxt n i)).toInt ≤ px.toInt := zc_nlt rfl rfl c_48
                  refine lv_iconst (v := 2) hx hb dX7_where_184 rfl ?_
                  obtain ⟨hP9, hD9⟩ := zu_sub (wc := [_, _, _]) hP hD [true, true, true] rfl rfl
                  rw [hQ9]
                  exact W.iret (v := 2) hx hb hr (fun t ht hW => ⟨⟨congrArg (fun z => Outcome.returned (some (Value.int z))) (show (2 : Int32) = whr n X Y px.toInt py.toInt from (whr_2 ⟨i, by omega, by unfold eOn onS; unfold eCr at *; omega⟩).symm), by rw [ht]; exact hP9, hD9⟩, hS.F ht⟩) hS.2.2 dX7_where_185
          have hj_49 : (¬ ((py.toInt < (Y i).toInt ∧ py.toInt < (Y (nxt n i)).toInt) ∨ ((Y i).toInt < py.toInt ∧ (Y (nxt n i)).toInt < py.toInt))) → W p l e ({ frames := 0, cells := 0, slots := 0, locals := 0 } : Room) s m ([.ref r, .int px, .int py] : List Value).toArray below meth c H locs 0 0 Q9 (F0 m 79 ls []) := by
            intro hsk2
            refine lv_aload_n hx hb dX7_where_79 rfl (lv_at hl 3 rfl) ?_
            refine va_get (D := (dC, dI)) (ci := 6) (v := .ref rx) (C := RX7) (T := TX7) (N := 4) hx hb hts inX7 hown hK hP 0 rfl rfl 0 (Nat.le_of_ble_eq_true rfl) (hts _ mw_161) (fun _ h9 => h9) rfl dX7_where_80 ?_
            refine lv_iload hx hb dX7_where_83 (lv_at hl 1 rfl) ?_
            have b9_50 : i < cap := by omega
            have b9_51 : zlt (cap) := show cap < 2147483648 by omega
            refine z_iald hx hb hK hP 1 0 rfl rfl (e := i) rfl b9_50 b9_51 dX7_where_85 ?_
            refine lv_iload_n hx hb dX7_where_86 rfl (lv_at hl 4 rfl) ?_
            refine lv_icmp_ge (tgt := 104) hx hb dX7_where_87 rfl (fun c_52 => ?_) (fun c_52 => ?_)
            · have c_52 : px.toInt ≤ (X i).toInt := zc_le rfl rfl c_52
              exact hj_6 (by omega)
            · have c_52 : (X i).toInt < px.toInt := zc_nle rfl rfl c_52
              refine lv_aload_n hx hb dX7_where_90 rfl (lv_at hl 3 rfl) ?_
              refine va_get (D := (dC, dI)) (ci := 6) (v := .ref rx) (C := RX7) (T := TX7) (N := 4) hx hb hts inX7 hown hK hP 0 rfl rfl 0 (Nat.le_of_ble_eq_true rfl) (hts _ mw_161) (fun _ h9 => h9) rfl dX7_where_91 ?_
              refine lv_iload hx hb dX7_where_94 (lv_at hl 0 rfl) ?_
              have b9_53 : nxt n i < cap := by omega
              refine z_iald hx hb hK hP 1 0 rfl rfl (e := nxt n i) rfl b9_53 b9_51 dX7_where_96 ?_
              refine lv_iload_n hx hb dX7_where_97 rfl (lv_at hl 4 rfl) ?_
              refine lv_icmp_ge (tgt := 104) hx hb dX7_where_98 rfl (fun c_54 => ?_) (fun c_54 => ?_)
              · have c_54 : px.toInt ≤ (X (nxt n i)).toInt := zc_le rfl rfl c_54
                exact hj_6 (by omega)
              · have c_54 : (X (nxt n i)).toInt < px.toInt := zc_nle rfl rfl c_54
                refine lv_goto (tgt := 266) hx hb dX7_where_101 rfl ?_
                refine lv_iinc (v := nI (i + 1)) (lv' := [(4, .int (nI (i + 1))), (5, .int (nI (nxt n i))), (3, .int (pI (par2 (eTg n X Y px.toInt py.toInt) i))), (0, .ref r), (1, .int px), (2, .int py)]) hx hb dX7_where_266 hl (k := 1) rfl (nI_add i 1) (Nat.le_of_ble_eq_true rfl) rfl (fun ls hl => ?_)
                refine lv_goto (tgt := 5) hx hb dX7_where_269 rfl ?_
                have hl9 := lv_sub hl [0, 2, 3, 4, 5] rfl
                have e9_3 : pI (par2 (eTg n X Y px.toInt py.toInt) (i + 1)) = (pI (par2 (eTg n X Y px.toInt py.toInt) i) : Int32) := by first | exact zp_iff (par2_n (sk_tg (by omega)).1) | exact zp_iff (par2_n (by unfold eTg; omega)) | exact zp_t ((par2_y (P := (eTg n X Y px.toInt py.toInt)) (i := i) (by have h9 := hne (by omega); unfold eTg; omega)).mpr (by first | with_reducible assumption | assumption)) | exact zp_f (fun q => (par2_y (P := (eTg n X Y px.toInt py.toInt)) (i := i) (by have h9 := hne (by omega); unfold eTg; omega)).mp q (by first | with_reducible assumption | assumption))
                have hl9 : lv_has ls 7 [(4, .int (nI (i + 1))), (3, .int (pI (par2 (eTg n X Y px.toInt py.toInt) (i + 1)))), (0, .ref r), (1, .int px), (2, .int py)] := by rw [e9_3]; exact hl9
                exact ih_5 (i + 1) H locs ls (by first | with_reducible assumption | omega) (by first | with_reducible assumption | omega) (by intro k hk; rcases Nat.lt_or_ge k i with h | h; exact hno k h; have e9 : k = i := (by first | with_reducible assumption | omega); subst e9; first | exact (sk_tg (by first | with_reducible assumption | omega)).2 | (unfold eOn onS; unfold eCr at *; omega)) hP hD hS hl9
          have hj_55 : (¬ (py.toInt < (Y i).toInt ∧ py.toInt < (Y (nxt n i)).toInt)) → W p l e ({ frames := 0, cells := 0, slots := 0, locals := 0 } : Room) s m ([.ref r, .int px, .int py] : List Value).toArray below meth c H locs 0 0 Q9 (F0 m 57 ls []) := by
            intro hsk1
            refine lv_aload_n hx hb dX7_where_57 rfl (lv_at hl 3 rfl) ?_
            refine va_get (D := (dC, dI)) (ci := 6) (v := .ref ry) (C := RX7) (T := TX7) (N := 4) hx hb hts inX7 hown hK hP 0 rfl rfl 1 (Nat.le_of_ble_eq_true rfl) (hts _ mw_168) (fun _ h9 => h9) rfl dX7_where_58 ?_
            refine lv_iload hx hb dX7_where_61 (lv_at hl 1 rfl) ?_
            have b9_56 : i < cap := by omega
            have b9_57 : zlt (cap) := show cap < 2147483648 by omega
            refine z_iald hx hb hK hP 2 0 rfl rfl (e := i) rfl b9_56 b9_57 dX7_where_63 ?_
            refine lv_iload_n hx hb dX7_where_64 rfl (lv_at hl 5 rfl) ?_
            refine lv_icmp_ge (tgt := 79) hx hb dX7_where_65 rfl (fun c_58 => ?_) (fun c_58 => ?_)
            · have c_58 : py.toInt ≤ (Y i).toInt := zc_le rfl rfl c_58
              exact hj_49 (by omega)
            · have c_58 : (Y i).toInt < py.toInt := zc_nle rfl rfl c_58
              refine lv_aload_n hx hb dX7_where_68 rfl (lv_at hl 3 rfl) ?_
              refine va_get (D := (dC, dI)) (ci := 6) (v := .ref ry) (C := RX7) (T := TX7) (N := 4) hx hb hts inX7 hown hK hP 0 rfl rfl 1 (Nat.le_of_ble_eq_true rfl) (hts _ mw_168) (fun _ h9 => h9) rfl dX7_where_69 ?_
              refine lv_iload hx hb dX7_where_72 (lv_at hl 0 rfl) ?_
              have b9_59 : nxt n i < cap := by omega
              refine z_iald hx hb hK hP 2 0 rfl rfl (e := nxt n i) rfl b9_59 b9_57 dX7_where_74 ?_
              refine lv_iload_n hx hb dX7_where_75 rfl (lv_at hl 5 rfl) ?_
              refine lv_icmp_lt (tgt := 266) hx hb dX7_where_76 rfl (fun c_60 => ?_) (fun c_60 => ?_)
              · have c_60 : (Y (nxt n i)).toInt < py.toInt := zc_lt rfl rfl c_60
                refine lv_iinc (v := nI (i + 1)) (lv' := [(4, .int (nI (i + 1))), (5, .int (nI (nxt n i))), (3, .int (pI (par2 (eTg n X Y px.toInt py.toInt) i))), (0, .ref r), (1, .int px), (2, .int py)]) hx hb dX7_where_266 hl (k := 1) rfl (nI_add i 1) (Nat.le_of_ble_eq_true rfl) rfl (fun ls hl => ?_)
                refine lv_goto (tgt := 5) hx hb dX7_where_269 rfl ?_
                have hl9 := lv_sub hl [0, 2, 3, 4, 5] rfl
                have e9_3 : pI (par2 (eTg n X Y px.toInt py.toInt) (i + 1)) = (pI (par2 (eTg n X Y px.toInt py.toInt) i) : Int32) := by first | exact zp_iff (par2_n (sk_tg (by omega)).1) | exact zp_iff (par2_n (by unfold eTg; omega)) | exact zp_t ((par2_y (P := (eTg n X Y px.toInt py.toInt)) (i := i) (by have h9 := hne (by omega); unfold eTg; omega)).mpr (by first | with_reducible assumption | assumption)) | exact zp_f (fun q => (par2_y (P := (eTg n X Y px.toInt py.toInt)) (i := i) (by have h9 := hne (by omega); unfold eTg; omega)).mp q (by first | with_reducible assumption | assumption))
                have hl9 : lv_has ls 7 [(4, .int (nI (i + 1))), (3, .int (pI (par2 (eTg n X Y px.toInt py.toInt) (i + 1)))), (0, .ref r), (1, .int px), (2, .int py)] := by rw [e9_3]; exact hl9
                exact ih_5 (i + 1) H locs ls (by first | with_reducible assumption | omega) (by first | with_reducible assumption | omega) (by intro k hk; rcases Nat.lt_or_ge k i with h | h; exact hno k h; have e9 : k = i := (by first | with_reducible assumption | omega); subst e9; first | exact (sk_tg (by first | with_reducible assumption | omega)).2 | (unfold eOn onS; unfold eCr at *; omega)) hP hD hS hl9
              · have c_60 : py.toInt ≤ (Y (nxt n i)).toInt := zc_nlt rfl rfl c_60
                exact hj_49 (by omega)
          refine lv_aload_n hx hb dX7_where_35 rfl (lv_at hl 3 rfl) ?_
          refine va_get (D := (dC, dI)) (ci := 6) (v := .ref ry) (C := RX7) (T := TX7) (N := 4) hx hb hts inX7 hown hK hP 0 rfl rfl 1 (Nat.le_of_ble_eq_true rfl) (hts _ mw_168) (fun _ h9 => h9) rfl dX7_where_36 ?_
          refine lv_iload hx hb dX7_where_39 (lv_at hl 1 rfl) ?_
          have b9_61 : i < cap := by omega
          have b9_62 : zlt (cap) := show cap < 2147483648 by omega
          refine z_iald hx hb hK hP 2 0 rfl rfl (e := i) rfl b9_61 b9_62 dX7_where_41 ?_
          refine lv_iload_n hx hb dX7_where_42 rfl (lv_at hl 5 rfl) ?_
          refine lv_icmp_le (tgt := 57) hx hb dX7_where_43 rfl (fun c_63 => ?_) (fun c_63 => ?_)
          · have c_63 : (Y i).toInt ≤ py.toInt := zc_le rfl rfl c_63
            exact hj_55 (by omega)
          · have c_63 : py.toInt < (Y i).toInt := zc_nle rfl rfl c_63
            refine lv_aload_n hx hb dX7_where_46 rfl (lv_at hl 3 rfl) ?_
            refine va_get (D := (dC, dI)) (ci := 6) (v := .ref ry) (C := RX7) (T := TX7) (N := 4) hx hb hts inX7 hown hK hP 0 rfl rfl 1 (Nat.le_of_ble_eq_true rfl) (hts _ mw_168) (fun _ h9 => h9) rfl dX7_where_47 ?_
            refine lv_iload hx hb dX7_where_50 (lv_at hl 0 rfl) ?_
            have b9_64 : nxt n i < cap := by omega
            refine z_iald hx hb hK hP 2 0 rfl rfl (e := nxt n i) rfl b9_64 b9_62 dX7_where_52 ?_
            refine lv_iload_n hx hb dX7_where_53 rfl (lv_at hl 5 rfl) ?_
            refine lv_icmp_gt (tgt := 266) hx hb dX7_where_54 rfl (fun c_65 => ?_) (fun c_65 => ?_)
            · have c_65 : py.toInt < (Y (nxt n i)).toInt := zc_lt rfl rfl c_65
              refine lv_iinc (v := nI (i + 1)) (lv' := [(4, .int (nI (i + 1))), (5, .int (nI (nxt n i))), (3, .int (pI (par2 (eTg n X Y px.toInt py.toInt) i))), (0, .ref r), (1, .int px), (2, .int py)]) hx hb dX7_where_266 hl (k := 1) rfl (nI_add i 1) (Nat.le_of_ble_eq_true rfl) rfl (fun ls hl => ?_)
              refine lv_goto (tgt := 5) hx hb dX7_where_269 rfl ?_
              have hl9 := lv_sub hl [0, 2, 3, 4, 5] rfl
              have e9_3 : pI (par2 (eTg n X Y px.toInt py.toInt) (i + 1)) = (pI (par2 (eTg n X Y px.toInt py.toInt) i) : Int32) := by first | exact zp_iff (par2_n (sk_tg (by omega)).1) | exact zp_iff (par2_n (by unfold eTg; omega)) | exact zp_t ((par2_y (P := (eTg n X Y px.toInt py.toInt)) (i := i) (by have h9 := hne (by omega); unfold eTg; omega)).mpr (by first | with_reducible assumption | assumption)) | exact zp_f (fun q => (par2_y (P := (eTg n X Y px.toInt py.toInt)) (i := i) (by have h9 := hne (by omega); unfold eTg; omega)).mp q (by first | with_reducible assumption | assumption))
              have hl9 : lv_has ls 7 [(4, .int (nI (i + 1))), (3, .int (pI (par2 (eTg n X Y px.toInt py.toInt) (i + 1)))), (0, .ref r), (1, .int px), (2, .int py)] := by rw [e9_3]; exact hl9
              exact ih_5 (i + 1) H locs ls (by first | with_reducible assumption | omega) (by first | with_reducible assumption | omega) (by intro k hk; rcases Nat.lt_or_ge k i with h | h; exact hno k h; have e9 : k = i := (by first | with_reducible assumption | omega); subst e9; first | exact (sk_tg (by first | with_reducible assumption | omega)).2 | (unfold eOn onS; unfold eCr at *; omega)) hP hD hS hl9
            · have c_65 : (Y (nxt n i)).toInt ≤ py.toInt := zc_nlt rfl rfl c_65
              exact hj_55 (by omega)
        have b9_67 : zlt ((i + 1)) := show (i + 1) < 2147483648 by omega
        refine lv_icmp_ge (tgt := 32) hx hb dX7_where_22 rfl (fun c_66 => ?_) (fun c_66 => ?_)
        · have c_66 : ((n : Nat) : Int) ≤ ((i + 1 : Nat) : Int) := zc_le (nI_toInt b9_3) (nI_toInt b9_67) c_66
          refine lv_iconst (v := 0) hx hb dX7_where_32 rfl ?_
          refine zz_i (v := nI (nxt n i)) (by first | (rw [nxt, if_pos (by omega)]) | (rw [nxt, if_neg (by omega)]; first | done | rfl)) ?_
          exact hj_5 
        · have c_66 : ((i + 1 : Nat) : Int) < ((n : Nat) : Int) := zc_nle (nI_toInt b9_3) (nI_toInt b9_67) c_66
          refine lv_iload hx hb dX7_where_25 (lv_at hl 0 rfl) ?_
          refine lv_iconst (v := 1) hx hb dX7_where_27 rfl ?_
          refine lv_iadd hx hb dX7_where_28 ?_
          refine zz_i (v := nI (i + 1)) (nI_add i 1) ?_
          refine lv_goto (tgt := 33) hx hb dX7_where_29 rfl ?_
          refine zz_i (v := nI (nxt n i)) (by first | (rw [nxt, if_pos (by omega)]) | (rw [nxt, if_neg (by omega)]; first | done | rfl)) ?_
          exact hj_5 
  have e9_3 : pI (par2 (eTg n X Y px.toInt py.toInt) 0) = (0 : Int32) := by exact zp_f (fun h => h)
  have hl9 : lv_has ls 7 [(4, .int (nI 0)), (3, .int (pI (par2 (eTg n X Y px.toInt py.toInt) 0))), (0, .ref r), (1, .int px), (2, .int py)] := by rw [e9_3]; exact lv_sub hl [0, 1, 2, 3, 4] rfl
  exact hl_5 _ 0 s.heap [] ls (Nat.lt_succ_self _) (by first | with_reducible assumption | omega) (by intro k hk; omega) hP hD hS hl9
end
section
set_option maxHeartbeats 4000000 in
set_option maxRecDepth 100000 in
theorem k_Row_foldsBack (l : Launch) (dC : Nat → ClassId) (dI : Nat → Nat → Nat) (cI cZ cF : ClassId) (sz : Nat) (r : Nat) (rx : Nat) (ry : Nat) (n : Nat) (cap : Nat) (X : Nat → Int32) (Y : Nat → Int32) (rg : Int32) (k : Nat) (hn : n ≤ cap) (hcap : cap ≤ 1000) (hp : pls n X Y) (hi : k < n) : zM l yX7_foldsBack cX7_foldsBack 8 (some .boolean) ({ frames := 0, cells := 0, slots := 0, locals := 0 } : Room) [.ref r, .int (nI k)] (dC, dI) (zTy cI cZ cF) [(oc6 r (.ref rx) (.ref ry) (nI n) rg), (oa rx cI cap X), (oa ry cI cap Y)] sz (some (.int (pI (eFd n X Y k)))) (fun A t => zPD (dC, dI) classes A [(oc6 r (.ref rx) (.ref ry) (nI n) rg), (oa rx cI cap X), (oa ry cI cap Y)] t.heap) 0 0 := by
  refine zIn (own := "ScaleShop$Row") (loc := [(0, .ref r), (1, .int (nI k))]) rfl rfl rfl rfl (fun p e s m below meth c hx hb hr hts hown hlocks hml hnm9 A hA hS hP hD hK hXN Q9 hQ9 ls hl => ?_)
  refine lv_iload_n hx hb dX7_foldsBack_0 rfl (lv_at hl 1 rfl) ?_
  have hj_1 : W p l e ({ frames := 0, cells := 0, slots := 0, locals := 0 } : Room) s m ([.ref r, .int (nI k)] : List Value).toArray below meth c s.heap [] 0 0 Q9 (F0 m 16 ls [.int (nI (prv n k))]) := by
    have hpv := prv_lt (n := n) (i := k) (by omega)
    refine lv_istore_n (lv' := [(2, .int (nI (prv n k))), (0, .ref r), (1, .int (nI k))]) hx hb dX7_foldsBack_16 rfl hl (Nat.le_of_ble_eq_true rfl) rfl (fun ls hl => ?_)
    refine lv_iload_n hx hb dX7_foldsBack_17 rfl (lv_at hl 2 rfl) ?_
    refine lv_iconst (v := 1) hx hb dX7_foldsBack_18 rfl ?_
    refine lv_iadd hx hb dX7_foldsBack_19 ?_
    refine zz_i (v := nI (k + 1)) (nI_add k 1) ?_
    refine lv_aload_n hx hb dX7_foldsBack_20 rfl (lv_at hl 1 rfl) ?_
    refine va_get (D := (dC, dI)) (ci := 6) (v := .int (nI n)) (C := RX7) (T := TX7) (N := 4) hx hb hts inX7 hown hK hP 0 rfl rfl 2 (Nat.le_of_ble_eq_true rfl) (hts _ mw_175) (fun _ h9 => h9) rfl dX7_foldsBack_21 ?_
    have hj_2 : W p l e ({ frames := 0, cells := 0, slots := 0, locals := 0 } : Room) s m ([.ref r, .int (nI k)] : List Value).toArray below meth c s.heap [] 0 0 Q9 (F0 m 34 ls [.int (nI (nxt n k))]) := by
      have hnk := nxt_lt (n := n) (i := k) (by omega)
      refine lv_istore_n (lv' := [(3, .int (nI (nxt n k))), (2, .int (nI (prv n k))), (0, .ref r), (1, .int (nI k))]) hx hb dX7_foldsBack_34 rfl hl (Nat.le_of_ble_eq_true rfl) rfl (fun ls hl => ?_)
      refine lv_aload_n hx hb dX7_foldsBack_35 rfl (lv_at hl 2 rfl) ?_
      refine va_get (D := (dC, dI)) (ci := 6) (v := .ref rx) (C := RX7) (T := TX7) (N := 4) hx hb hts inX7 hown hK hP 0 rfl rfl 0 (Nat.le_of_ble_eq_true rfl) (hts _ mw_161) (fun _ h9 => h9) rfl dX7_foldsBack_36 ?_
      refine lv_iload_n hx hb dX7_foldsBack_39 rfl (lv_at hl 1 rfl) ?_
      have b9_3 : prv n k < cap := by omega
      have b9_4 : zlt (cap) := show cap < 2147483648 by omega
      refine z_iald hx hb hK hP 1 0 rfl rfl (e := prv n k) rfl b9_3 b9_4 dX7_foldsBack_40 ?_
      refine lv_aload_n hx hb dX7_foldsBack_41 rfl (lv_at hl 2 rfl) ?_
      refine va_get (D := (dC, dI)) (ci := 6) (v := .ref rx) (C := RX7) (T := TX7) (N := 4) hx hb hts inX7 hown hK hP 0 rfl rfl 0 (Nat.le_of_ble_eq_true rfl) (hts _ mw_161) (fun _ h9 => h9) rfl dX7_foldsBack_42 ?_
      refine lv_iload_n hx hb dX7_foldsBack_45 rfl (lv_at hl 3 rfl) ?_
      have b9_5 : k < cap := by omega
      refine z_iald hx hb hK hP 1 0 rfl rfl (e := k) rfl b9_5 b9_4 dX7_foldsBack_46 ?_
      refine lv_isub hx hb dX7_foldsBack_47 ?_
      refine lv_istore (lv' := [(4, .int ((X (prv n k)) - (X k))), (3, .int (nI (nxt n k))), (2, .int (nI (prv n k))), (0, .ref r), (1, .int (nI k))]) hx hb dX7_foldsBack_48 hl (Nat.le_of_ble_eq_true rfl) rfl (fun ls hl => ?_)
      refine lv_aload_n hx hb dX7_foldsBack_50 rfl (lv_at hl 3 rfl) ?_
      refine va_get (D := (dC, dI)) (ci := 6) (v := .ref ry) (C := RX7) (T := TX7) (N := 4) hx hb hts inX7 hown hK hP 0 rfl rfl 1 (Nat.le_of_ble_eq_true rfl) (hts _ mw_168) (fun _ h9 => h9) rfl dX7_foldsBack_51 ?_
      refine lv_iload_n hx hb dX7_foldsBack_54 rfl (lv_at hl 2 rfl) ?_
      refine z_iald hx hb hK hP 2 0 rfl rfl (e := prv n k) rfl b9_3 b9_4 dX7_foldsBack_55 ?_
      refine lv_aload_n hx hb dX7_foldsBack_56 rfl (lv_at hl 3 rfl) ?_
      refine va_get (D := (dC, dI)) (ci := 6) (v := .ref ry) (C := RX7) (T := TX7) (N := 4) hx hb hts inX7 hown hK hP 0 rfl rfl 1 (Nat.le_of_ble_eq_true rfl) (hts _ mw_168) (fun _ h9 => h9) rfl dX7_foldsBack_57 ?_
      refine lv_iload_n hx hb dX7_foldsBack_60 rfl (lv_at hl 4 rfl) ?_
      refine z_iald hx hb hK hP 2 0 rfl rfl (e := k) rfl b9_5 b9_4 dX7_foldsBack_61 ?_
      refine lv_isub hx hb dX7_foldsBack_62 ?_
      refine lv_istore (lv' := [(5, .int ((Y (prv n k)) - (Y k))), (4, .int ((X (prv n k)) - (X k))), (3, .int (nI (nxt n k))), (2, .int (nI (prv n k))), (0, .ref r), (1, .int (nI k))]) hx hb dX7_foldsBack_63 hl (Nat.le_of_ble_eq_true rfl) rfl (fun ls hl => ?_)
      refine lv_aload_n hx hb dX7_foldsBack_65 rfl (lv_at hl 4 rfl) ?_
      refine va_get (D := (dC, dI)) (ci := 6) (v := .ref rx) (C := RX7) (T := TX7) (N := 4) hx hb hts inX7 hown hK hP 0 rfl rfl 0 (Nat.le_of_ble_eq_true rfl) (hts _ mw_161) (fun _ h9 => h9) rfl dX7_foldsBack_66 ?_
      refine lv_iload_n hx hb dX7_foldsBack_69 rfl (lv_at hl 2 rfl) ?_
      have b9_6 : nxt n k < cap := by omega
      refine z_iald hx hb hK hP 1 0 rfl rfl (e := nxt n k) rfl b9_6 b9_4 dX7_foldsBack_70 ?_
      refine lv_aload_n hx hb dX7_foldsBack_71 rfl (lv_at hl 4 rfl) ?_
      refine va_get (D := (dC, dI)) (ci := 6) (v := .ref rx) (C := RX7) (T := TX7) (N := 4) hx hb hts inX7 hown hK hP 0 rfl rfl 0 (Nat.le_of_ble_eq_true rfl) (hts _ mw_161) (fun _ h9 => h9) rfl dX7_foldsBack_72 ?_
      refine lv_iload_n hx hb dX7_foldsBack_75 rfl (lv_at hl 5 rfl) ?_
      refine z_iald hx hb hK hP 1 0 rfl rfl (e := k) rfl b9_5 b9_4 dX7_foldsBack_76 ?_
      refine lv_isub hx hb dX7_foldsBack_77 ?_
      refine lv_istore (lv' := [(6, .int ((X (nxt n k)) - (X k))), (5, .int ((Y (prv n k)) - (Y k))), (4, .int ((X (prv n k)) - (X k))), (3, .int (nI (nxt n k))), (2, .int (nI (prv n k))), (0, .ref r), (1, .int (nI k))]) hx hb dX7_foldsBack_78 hl (Nat.le_of_ble_eq_true rfl) rfl (fun ls hl => ?_)
      refine lv_aload_n hx hb dX7_foldsBack_80 rfl (lv_at hl 5 rfl) ?_
      refine va_get (D := (dC, dI)) (ci := 6) (v := .ref ry) (C := RX7) (T := TX7) (N := 4) hx hb hts inX7 hown hK hP 0 rfl rfl 1 (Nat.le_of_ble_eq_true rfl) (hts _ mw_168) (fun _ h9 => h9) rfl dX7_foldsBack_81 ?_
      refine lv_iload_n hx hb dX7_foldsBack_84 rfl (lv_at hl 3 rfl) ?_
      refine z_iald hx hb hK hP 2 0 rfl rfl (e := nxt n k) rfl b9_6 b9_4 dX7_foldsBack_85 ?_
      refine lv_aload_n hx hb dX7_foldsBack_86 rfl (lv_at hl 5 rfl) ?_
      refine va_get (D := (dC, dI)) (ci := 6) (v := .ref ry) (C := RX7) (T := TX7) (N := 4) hx hb hts inX7 hown hK hP 0 rfl rfl 1 (Nat.le_of_ble_eq_true rfl) (hts _ mw_168) (fun _ h9 => h9) rfl dX7_foldsBack_87 ?_
      refine lv_iload_n hx hb dX7_foldsBack_90 rfl (lv_at hl 6 rfl) ?_
      refine z_iald hx hb hK hP 2 0 rfl rfl (e := k) rfl b9_5 b9_4 dX7_foldsBack_91 ?_
      refine lv_isub hx hb dX7_foldsBack_92 ?_
      refine lv_istore (lv' := [(7, .int ((Y (nxt n k)) - (Y k))), (6, .int ((X (nxt n k)) - (X k))), (5, .int ((Y (prv n k)) - (Y k))), (4, .int ((X (prv n k)) - (X k))), (3, .int (nI (nxt n k))), (2, .int (nI (prv n k))), (0, .ref r), (1, .int (nI k))]) hx hb dX7_foldsBack_93 hl (Nat.le_of_ble_eq_true rfl) rfl (fun ls hl => ?_)
      refine lv_iload hx hb dX7_foldsBack_95 (lv_at hl 3 rfl) ?_
      refine lv_iload hx hb dX7_foldsBack_97 (lv_at hl 0 rfl) ?_
      refine lv_imul hx hb dX7_foldsBack_99 ?_
      refine zz_i (v := iI (((X (prv n k)).toInt - (X k).toInt) * ((Y (nxt n k)).toInt - (Y k).toInt))) (mlI (hp _ hpv).1 (hp k hi).1 (hp _ hnk).2 (hp k hi).2) ?_
      have hB1 := mlB (hp _ hpv).1 (hp k hi).1 (hp _ hnk).2 (hp k hi).2
      refine lv_iload hx hb dX7_foldsBack_100 (lv_at hl 2 rfl) ?_
      refine lv_iload hx hb dX7_foldsBack_102 (lv_at hl 1 rfl) ?_
      refine lv_imul hx hb dX7_foldsBack_104 ?_
      refine zz_i (v := iI (((Y (prv n k)).toInt - (Y k).toInt) * ((X (nxt n k)).toInt - (X k).toInt))) (mlI (hp _ hpv).2 (hp k hi).2 (hp _ hnk).1 (hp k hi).1) ?_
      have hB2 := mlB (hp _ hpv).2 (hp k hi).2 (hp _ hnk).1 (hp k hi).1
      refine lv_icmp_ne (tgt := 126) hx hb dX7_foldsBack_105 rfl (fun c_7 => ?_) (fun c_7 => ?_)
      · have c_7 : ¬ (((X (prv n k)).toInt - (X k).toInt) * ((Y (nxt n k)).toInt - (Y k).toInt)) = (((Y (prv n k)).toInt - (Y k).toInt) * ((X (nxt n k)).toInt - (X k).toInt)) := zc_ne (iI_toInt (by omega)) (iI_toInt (by omega)) c_7
        refine lv_iconst (v := 0) hx hb dX7_foldsBack_126 rfl ?_
        obtain ⟨hP9, hD9⟩ := zu_sub (wc := [_, _, _]) hP hD [true, true, true] rfl rfl
        rw [hQ9]
        exact W.zret (ty := .boolean) (v := 0) hx hb hr (rfl) (fun t ht hW => ⟨⟨congrArg (fun z => Outcome.returned (some (Value.int z))) (show (0 : Int32) = pI (eFd n X Y k) from (zp_f (by have h9 := cr_ml (X (prv n k)).toInt (Y (prv n k)).toInt (X k).toInt (Y k).toInt (X (nxt n k)).toInt (Y (nxt n k)).toInt; unfold eFd fld; omega)).symm), by rw [ht]; exact hP9, hD9⟩, hS.F ht⟩) hS.2.2 dX7_foldsBack_127
      · have c_7 : (((X (prv n k)).toInt - (X k).toInt) * ((Y (nxt n k)).toInt - (Y k).toInt)) = (((Y (prv n k)).toInt - (Y k).toInt) * ((X (nxt n k)).toInt - (X k).toInt)) := zc_eq (iI_toInt (by omega)) (iI_toInt (by omega)) c_7
        refine lv_iload hx hb dX7_foldsBack_108 (lv_at hl 3 rfl) ?_
        refine lv_iload hx hb dX7_foldsBack_110 (lv_at hl 1 rfl) ?_
        refine lv_imul hx hb dX7_foldsBack_112 ?_
        refine lv_iload hx hb dX7_foldsBack_113 (lv_at hl 2 rfl) ?_
        refine lv_iload hx hb dX7_foldsBack_115 (lv_at hl 0 rfl) ?_
        refine lv_imul hx hb dX7_foldsBack_117 ?_
        refine lv_iadd hx hb dX7_foldsBack_118 ?_
        refine zz_i (v := iI (dt (X (prv n k)).toInt (Y (prv n k)).toInt (X k).toInt (Y k).toInt (X (nxt n k)).toInt (Y (nxt n k)).toInt)) (dtI (hp _ hpv).1 (hp _ hpv).2 (hp k hi).1 (hp k hi).2 (hp _ hnk).1 (hp _ hnk).2) ?_
        have hB3 := dtB (hp _ hpv).1 (hp _ hpv).2 (hp k hi).1 (hp k hi).2 (hp _ hnk).1 (hp _ hnk).2
        refine lv_if_le (tgt := 126) hx hb dX7_foldsBack_119 rfl (fun c_8 => ?_) (fun c_8 => ?_)
        · have c_8 : (dt (X (prv n k)).toInt (Y (prv n k)).toInt (X k).toInt (Y k).toInt (X (nxt n k)).toInt (Y (nxt n k)).toInt) ≤ 0 := zc_le (iI_toInt (by omega)) rfl c_8
          refine lv_iconst (v := 0) hx hb dX7_foldsBack_126 rfl ?_
          obtain ⟨hP9, hD9⟩ := zu_sub (wc := [_, _, _]) hP hD [true, true, true] rfl rfl
          rw [hQ9]
          exact W.zret (ty := .boolean) (v := 0) hx hb hr (rfl) (fun t ht hW => ⟨⟨congrArg (fun z => Outcome.returned (some (Value.int z))) (show (0 : Int32) = pI (eFd n X Y k) from (zp_f (by have h9 := cr_ml (X (prv n k)).toInt (Y (prv n k)).toInt (X k).toInt (Y k).toInt (X (nxt n k)).toInt (Y (nxt n k)).toInt; unfold eFd fld; omega)).symm), by rw [ht]; exact hP9, hD9⟩, hS.F ht⟩) hS.2.2 dX7_foldsBack_127
        · have c_8 : 0 < (dt (X (prv n k)).toInt (Y (prv n k)).toInt (X k).toInt (Y k).toInt (X (nxt n k)).toInt (Y (nxt n k)).toInt) := zc_nle (iI_toInt (by omega)) rfl c_8
          refine lv_iconst (v := 1) hx hb dX7_foldsBack_122 rfl ?_
          refine lv_goto (tgt := 127) hx hb dX7_foldsBack_123 rfl ?_
          obtain ⟨hP9, hD9⟩ := zu_sub (wc := [_, _, _]) hP hD [true, true, true] rfl rfl
          rw [hQ9]
          exact W.zret (ty := .boolean) (v := 1) hx hb hr (rfl) (fun t ht hW => ⟨⟨congrArg (fun z => Outcome.returned (some (Value.int z))) (show (1 : Int32) = pI (eFd n X Y k) from (zp_t (by have h9 := cr_ml (X (prv n k)).toInt (Y (prv n k)).toInt (X k).toInt (Y k).toInt (X (nxt n k)).toInt (Y (nxt n k)).toInt; unfold eFd fld; omega)).symm), by rw [ht]; exact hP9, hD9⟩, hS.F ht⟩) hS.2.2 dX7_foldsBack_127
    have b9_10 : zlt ((k + 1)) := show (k + 1) < 2147483648 by omega
    have b9_11 : zlt (n) := show n < 2147483648 by omega
    refine lv_icmp_ge (tgt := 33) hx hb dX7_foldsBack_24 rfl (fun c_9 => ?_) (fun c_9 => ?_)
    · have c_9 : ((n : Nat) : Int) ≤ ((k + 1 : Nat) : Int) := zc_le (nI_toInt b9_11) (nI_toInt b9_10) c_9
      refine lv_iconst (v := 0) hx hb dX7_foldsBack_33 rfl ?_
      refine zz_i (v := nI (nxt n k)) (by first | (rw [nxt, if_pos (by omega)]) | (rw [nxt, if_neg (by omega)]; first | done | rfl)) ?_
      exact hj_2 
    · have c_9 : ((k + 1 : Nat) : Int) < ((n : Nat) : Int) := zc_nle (nI_toInt b9_11) (nI_toInt b9_10) c_9
      refine lv_iload_n hx hb dX7_foldsBack_27 rfl (lv_at hl 2 rfl) ?_
      refine lv_iconst (v := 1) hx hb dX7_foldsBack_28 rfl ?_
      refine lv_iadd hx hb dX7_foldsBack_29 ?_
      refine zz_i (v := nI (k + 1)) (nI_add k 1) ?_
      refine lv_goto (tgt := 34) hx hb dX7_foldsBack_30 rfl ?_
      refine zz_i (v := nI (nxt n k)) (by first | (rw [nxt, if_pos (by omega)]) | (rw [nxt, if_neg (by omega)]; first | done | rfl)) ?_
      exact hj_2 
  have b9_13 : zlt (k) := show k < 2147483648 by omega
  refine lv_if_le (tgt := 10) hx hb dX7_foldsBack_1 rfl (fun c_12 => ?_) (fun c_12 => ?_)
  · have c_12 : ((k : Nat) : Int) ≤ 0 := zc_le (nI_toInt b9_13) rfl c_12
    refine lv_aload_n hx hb dX7_foldsBack_10 rfl (lv_at hl 0 rfl) ?_
    refine va_get (D := (dC, dI)) (ci := 6) (v := .int (nI n)) (C := RX7) (T := TX7) (N := 4) hx hb hts inX7 hown hK hP 0 rfl rfl 2 (Nat.le_of_ble_eq_true rfl) (hts _ mw_175) (fun _ h9 => h9) rfl dX7_foldsBack_11 ?_
    refine lv_iconst (v := 1) hx hb dX7_foldsBack_14 rfl ?_
    refine lv_isub hx hb dX7_foldsBack_15 ?_
    refine zz_i (v := nI (n - 1)) (pk_sub (a := n) (b := 1) (by omega)) ?_
    refine zz_i (v := nI (prv n k)) (by first | (rw [prv, if_pos (by omega)]) | (rw [prv, if_neg (by omega)])) ?_
    exact hj_1 
  · have c_12 : 0 < ((k : Nat) : Int) := zc_nle (nI_toInt b9_13) rfl c_12
    refine lv_iload_n hx hb dX7_foldsBack_4 rfl (lv_at hl 1 rfl) ?_
    refine lv_iconst (v := 1) hx hb dX7_foldsBack_5 rfl ?_
    refine lv_isub hx hb dX7_foldsBack_6 ?_
    refine zz_i (v := nI (k - 1)) (pk_sub (a := k) (b := 1) (by omega)) ?_
    refine lv_goto (tgt := 16) hx hb dX7_foldsBack_7 rfl ?_
    refine zz_i (v := nI (prv n k)) (by first | (rw [prv, if_pos (by omega)]) | (rw [prv, if_neg (by omega)])) ?_
    exact hj_1 
set_option maxHeartbeats 4000000 in
set_option maxRecDepth 100000 in
theorem k_Row_hasRightAngles (l : Launch) (dC : Nat → ClassId) (dI : Nat → Nat → Nat) (cI cZ cF : ClassId) (sz : Nat) (r : Nat) (rx : Nat) (ry : Nat) (n : Nat) (cap : Nat) (X : Nat → Int32) (Y : Nat → Int32) (rg : Int32) (hn : n ≤ cap) (hcap : cap ≤ 1000) (hp : pls n X Y) : zM l yX7_hasRightAngles cX7_hasRightAngles 4 (some .boolean) ({ frames := 1, cells := 0, slots := 0, locals := 21 } : Room) [.ref r] (dC, dI) (zTy cI cZ cF) [(oc6 r (.ref rx) (.ref ry) (nI n) rg), (oa rx cI cap X), (oa ry cI cap Y)] sz (some (.int (pI (∀ k, k < n → eRt n X Y k)))) (fun A t => zPD (dC, dI) classes A [(oc6 r (.ref rx) (.ref ry) (nI n) rg), (oa rx cI cap X), (oa ry cI cap Y)] t.heap) 0 0 := by
  refine zIn (own := "ScaleShop$Row") (loc := [(0, .ref r)]) rfl rfl rfl rfl (fun p e s m below meth c hx hb hr hts hown hlocks hml hnm9 A hA hS hP hD hK hXN Q9 hQ9 ls hl => ?_)
  refine lv_iconst (v := 0) hx hb dX7_hasRightAngles_0 rfl ?_
  refine lv_istore_n (lv' := [(1, .int 0), (0, .ref r)]) hx hb dX7_hasRightAngles_1 rfl hl (Nat.le_of_ble_eq_true rfl) rfl (fun ls hl => ?_)
  have hl_2 : ∀ (n9 : Nat) (k : Nat) (H : Heap) (locs : List Loc) (ls : Array Slot), n - k < n9 → (k ≤ n) → (∀ j, j < k → eRt n X Y j) → va_P (dC, dI) classes [(oc6 r (.ref rx) (.ref ry) (nI n) rg), (oa rx cI cap X), (oa ry cI cap Y)] H → va_D A [(oc6 r (.ref rx) (.ref ry) (nI n) rg), (oa rx cI cap X), (oa ry cI cap Y)] → va_S A s.heap H locs → lv_has ls 4 [(1, .int (nI k)), (0, .ref r)] → W p l e ({ frames := 1, cells := 0, slots := 0, locals := 21 } : Room) s m ([.ref r] : List Value).toArray below meth c H locs 0 0 Q9 (F0 m 2 ls []) := by
    intro n9
    induction n9 with
    | zero => intro k H locs ls hm; exact absurd hm (Nat.not_lt_zero _)
    | succ n9 ih_2 =>
      intro k H locs ls hm hi0 hall hP hD hS hl
      refine lv_iload_n hx hb dX7_hasRightAngles_2 rfl (lv_at hl 0 rfl) ?_
      refine lv_aload_n hx hb dX7_hasRightAngles_3 rfl (lv_at hl 1 rfl) ?_
      refine va_get (D := (dC, dI)) (ci := 6) (v := .int (nI n)) (C := RX7) (T := TX7) (N := 4) hx hb hts inX7 hown hK hP 0 rfl rfl 2 (Nat.le_of_ble_eq_true rfl) (hts _ mw_175) (fun _ h9 => h9) rfl dX7_hasRightAngles_4 ?_
      have b9_2 : zlt (k) := show k < 2147483648 by omega
      have b9_3 : zlt (n) := show n < 2147483648 by omega
      refine lv_icmp_ge (tgt := 88) hx hb dX7_hasRightAngles_7 rfl (fun c_1 => ?_) (fun c_1 => ?_)
      · have c_1 : ((n : Nat) : Int) ≤ ((k : Nat) : Int) := zc_le (nI_toInt b9_3) (nI_toInt b9_2) c_1
        refine lv_iconst (v := 1) hx hb dX7_hasRightAngles_88 rfl ?_
        obtain ⟨hP9, hD9⟩ := zu_sub (wc := [_, _, _]) hP hD [true, true, true] rfl rfl
        rw [hQ9]
        exact W.zret (ty := .boolean) (v := 1) hx hb hr (rfl) (fun t ht hW => ⟨⟨congrArg (fun z => Outcome.returned (some (Value.int z))) (show (1 : Int32) = pI (∀ k, k < n → eRt n X Y k) from (zp_t (fun j hj => hall j (by omega))).symm), by rw [ht]; exact hP9, hD9⟩, hS.F ht⟩) hS.2.2 dX7_hasRightAngles_89
      · have c_1 : ((k : Nat) : Int) < ((n : Nat) : Int) := zc_nle (nI_toInt b9_3) (nI_toInt b9_2) c_1
        have hi : k < n := (by omega)
        have hpv := prv_lt (n := n) (i := k) (by omega)
        have hnk := nxt_lt (n := n) (i := k) (by omega)
        refine lv_aload_n hx hb dX7_hasRightAngles_10 rfl (lv_at hl 1 rfl) ?_
        refine lv_iload_n hx hb dX7_hasRightAngles_11 rfl (lv_at hl 0 rfl) ?_
        obtain ⟨hPc, hDc, hFc, hI1⟩ := zi_sub (wc := [_, _, _]) hP hD hS hA [0, 1, 2] rfl rfl
        refine zcall (st1 := [.int (nI (prv n k))]) (va_runV (As := [.int (nI k)]) (rest := []) ⟨hx, hb, hml, hown, hts⟩ (k_Row_previous l dC dI cI cZ cF H.size r rx ry n cap X Y rg k (by first | with_reducible assumption | omega) (by first | with_reducible assumption | omega) (by first | with_reducible assumption | omega)) (csV_5 hts rfl rfl ⟨Nat.le_of_ble_eq_true rfl, Nat.le_of_ble_eq_true rfl⟩) (zPV2 (q0 := 0) (ci := 6) hPc hDc hK hXN rfl rfl) rfl rfl hl.1 rfl (lv_room (Nat.le_of_ble_eq_true rfl)) dX7_hasRightAngles_12 ⟨Nat.le_of_ble_eq_true rfl, Nat.le_of_ble_eq_true rfl⟩) hS hFc hFc rfl (fun t H locs ht hB hk1 hS => ?_)
        obtain ⟨hP1, hD1⟩ := hB
        rw [ht] at hP1
        replace hP := z0 hP hD hk1 hP1 hI1
        clear hk1 hPc hDc hFc hP1 hD1 ht hI1
        refine lv_istore_n (lv' := [(2, .int (nI (prv n k))), (1, .int (nI k)), (0, .ref r)]) hx hb dX7_hasRightAngles_15 rfl hl (Nat.le_of_ble_eq_true rfl) rfl (fun ls hl => ?_)
        refine lv_aload_n hx hb dX7_hasRightAngles_16 rfl (lv_at hl 2 rfl) ?_
        refine lv_iload_n hx hb dX7_hasRightAngles_17 rfl (lv_at hl 1 rfl) ?_
        obtain ⟨hPc, hDc, hFc, hI1⟩ := zi_sub (wc := [_, _, _]) hP hD hS hA [0, 1, 2] rfl rfl
        refine zcall (st1 := [.int (nI (nxt n k))]) (va_runV (As := [.int (nI k)]) (rest := []) ⟨hx, hb, hml, hown, hts⟩ (k_Row_next l dC dI cI cZ cF H.size r rx ry n cap X Y rg k (by first | with_reducible assumption | omega) (by first | with_reducible assumption | omega) (by first | with_reducible assumption | omega)) (csV_6 hts rfl rfl ⟨Nat.le_of_ble_eq_true rfl, Nat.le_of_ble_eq_true rfl⟩) (zPV2 (q0 := 0) (ci := 6) hPc hDc hK hXN rfl rfl) rfl rfl hl.1 rfl (lv_room (Nat.le_of_ble_eq_true rfl)) dX7_hasRightAngles_18 ⟨Nat.le_of_ble_eq_true rfl, Nat.le_of_ble_eq_true rfl⟩) hS hFc hFc rfl (fun t H locs ht hB hk1 hS => ?_)
        obtain ⟨hP1, hD1⟩ := hB
        rw [ht] at hP1
        replace hP := z0 hP hD hk1 hP1 hI1
        clear hk1 hPc hDc hFc hP1 hD1 ht hI1
        refine lv_istore_n (lv' := [(3, .int (nI (nxt n k))), (2, .int (nI (prv n k))), (1, .int (nI k)), (0, .ref r)]) hx hb dX7_hasRightAngles_21 rfl hl (Nat.le_of_ble_eq_true rfl) rfl (fun ls hl => ?_)
        refine lv_aload_n hx hb dX7_hasRightAngles_22 rfl (lv_at hl 3 rfl) ?_
        refine va_get (D := (dC, dI)) (ci := 6) (v := .ref rx) (C := RX7) (T := TX7) (N := 4) hx hb hts inX7 hown hK hP 0 rfl rfl 0 (Nat.le_of_ble_eq_true rfl) (hts _ mw_161) (fun _ h9 => h9) rfl dX7_hasRightAngles_23 ?_
        refine lv_iload_n hx hb dX7_hasRightAngles_26 rfl (lv_at hl 1 rfl) ?_
        have b9_4 : prv n k < cap := by omega
        have b9_5 : zlt (cap) := show cap < 2147483648 by omega
        refine z_iald hx hb hK hP 1 0 rfl rfl (e := prv n k) rfl b9_4 b9_5 dX7_hasRightAngles_27 ?_
        refine lv_aload_n hx hb dX7_hasRightAngles_28 rfl (lv_at hl 3 rfl) ?_
        refine va_get (D := (dC, dI)) (ci := 6) (v := .ref rx) (C := RX7) (T := TX7) (N := 4) hx hb hts inX7 hown hK hP 0 rfl rfl 0 (Nat.le_of_ble_eq_true rfl) (hts _ mw_161) (fun _ h9 => h9) rfl dX7_hasRightAngles_29 ?_
        refine lv_iload_n hx hb dX7_hasRightAngles_32 rfl (lv_at hl 2 rfl) ?_
        have b9_6 : k < cap := by omega
        refine z_iald hx hb hK hP 1 0 rfl rfl (e := k) rfl b9_6 b9_5 dX7_hasRightAngles_33 ?_
        refine lv_isub hx hb dX7_hasRightAngles_34 ?_
        refine lv_aload_n hx hb dX7_hasRightAngles_35 rfl (lv_at hl 3 rfl) ?_
        refine va_get (D := (dC, dI)) (ci := 6) (v := .ref rx) (C := RX7) (T := TX7) (N := 4) hx hb hts inX7 hown hK hP 0 rfl rfl 0 (Nat.le_of_ble_eq_true rfl) (hts _ mw_161) (fun _ h9 => h9) rfl dX7_hasRightAngles_36 ?_
        refine lv_iload_n hx hb dX7_hasRightAngles_39 rfl (lv_at hl 0 rfl) ?_
        have b9_7 : nxt n k < cap := by omega
        refine z_iald hx hb hK hP 1 0 rfl rfl (e := nxt n k) rfl b9_7 b9_5 dX7_hasRightAngles_40 ?_
        refine lv_aload_n hx hb dX7_hasRightAngles_41 rfl (lv_at hl 3 rfl) ?_
        refine va_get (D := (dC, dI)) (ci := 6) (v := .ref rx) (C := RX7) (T := TX7) (N := 4) hx hb hts inX7 hown hK hP 0 rfl rfl 0 (Nat.le_of_ble_eq_true rfl) (hts _ mw_161) (fun _ h9 => h9) rfl dX7_hasRightAngles_42 ?_
        refine lv_iload_n hx hb dX7_hasRightAngles_45 rfl (lv_at hl 2 rfl) ?_
        refine z_iald hx hb hK hP 1 0 rfl rfl (e := k) rfl b9_6 b9_5 dX7_hasRightAngles_46 ?_
        refine lv_isub hx hb dX7_hasRightAngles_47 ?_
        refine lv_imul hx hb dX7_hasRightAngles_48 ?_
        refine lv_aload_n hx hb dX7_hasRightAngles_49 rfl (lv_at hl 3 rfl) ?_
        refine va_get (D := (dC, dI)) (ci := 6) (v := .ref ry) (C := RX7) (T := TX7) (N := 4) hx hb hts inX7 hown hK hP 0 rfl rfl 1 (Nat.le_of_ble_eq_true rfl) (hts _ mw_168) (fun _ h9 => h9) rfl dX7_hasRightAngles_50 ?_
        refine lv_iload_n hx hb dX7_hasRightAngles_53 rfl (lv_at hl 1 rfl) ?_
        refine z_iald hx hb hK hP 2 0 rfl rfl (e := prv n k) rfl b9_4 b9_5 dX7_hasRightAngles_54 ?_
        refine lv_aload_n hx hb dX7_hasRightAngles_55 rfl (lv_at hl 3 rfl) ?_
        refine va_get (D := (dC, dI)) (ci := 6) (v := .ref ry) (C := RX7) (T := TX7) (N := 4) hx hb hts inX7 hown hK hP 0 rfl rfl 1 (Nat.le_of_ble_eq_true rfl) (hts _ mw_168) (fun _ h9 => h9) rfl dX7_hasRightAngles_56 ?_
        refine lv_iload_n hx hb dX7_hasRightAngles_59 rfl (lv_at hl 2 rfl) ?_
        refine z_iald hx hb hK hP 2 0 rfl rfl (e := k) rfl b9_6 b9_5 dX7_hasRightAngles_60 ?_
        refine lv_isub hx hb dX7_hasRightAngles_61 ?_
        refine lv_aload_n hx hb dX7_hasRightAngles_62 rfl (lv_at hl 3 rfl) ?_
        refine va_get (D := (dC, dI)) (ci := 6) (v := .ref ry) (C := RX7) (T := TX7) (N := 4) hx hb hts inX7 hown hK hP 0 rfl rfl 1 (Nat.le_of_ble_eq_true rfl) (hts _ mw_168) (fun _ h9 => h9) rfl dX7_hasRightAngles_63 ?_
        refine lv_iload_n hx hb dX7_hasRightAngles_66 rfl (lv_at hl 0 rfl) ?_
        refine z_iald hx hb hK hP 2 0 rfl rfl (e := nxt n k) rfl b9_7 b9_5 dX7_hasRightAngles_67 ?_
        refine lv_aload_n hx hb dX7_hasRightAngles_68 rfl (lv_at hl 3 rfl) ?_
        refine va_get (D := (dC, dI)) (ci := 6) (v := .ref ry) (C := RX7) (T := TX7) (N := 4) hx hb hts inX7 hown hK hP 0 rfl rfl 1 (Nat.le_of_ble_eq_true rfl) (hts _ mw_168) (fun _ h9 => h9) rfl dX7_hasRightAngles_69 ?_
        refine lv_iload_n hx hb dX7_hasRightAngles_72 rfl (lv_at hl 2 rfl) ?_
        refine z_iald hx hb hK hP 2 0 rfl rfl (e := k) rfl b9_6 b9_5 dX7_hasRightAngles_73 ?_
        refine lv_isub hx hb dX7_hasRightAngles_74 ?_
        refine lv_imul hx hb dX7_hasRightAngles_75 ?_
        refine lv_iadd hx hb dX7_hasRightAngles_76 ?_
        refine zz_i (v := iI (dt (X (prv n k)).toInt (Y (prv n k)).toInt (X k).toInt (Y k).toInt (X (nxt n k)).toInt (Y (nxt n k)).toInt)) (dtI (hp _ hpv).1 (hp _ hpv).2 (hp k hi).1 (hp k hi).2 (hp _ hnk).1 (hp _ hnk).2) ?_
        have hB3 := dtB (hp _ hpv).1 (hp _ hpv).2 (hp k hi).1 (hp k hi).2 (hp _ hnk).1 (hp _ hnk).2
        refine lv_if_eq (tgt := 82) hx hb dX7_hasRightAngles_77 rfl (fun c_8 => ?_) (fun c_8 => ?_)
        · have c_8 : (dt (X (prv n k)).toInt (Y (prv n k)).toInt (X k).toInt (Y k).toInt (X (nxt n k)).toInt (Y (nxt n k)).toInt) = 0 := zc_eq (iI_toInt (by omega)) rfl c_8
          refine lv_iinc (v := nI (k + 1)) (lv' := [(1, .int (nI (k + 1))), (3, .int (nI (nxt n k))), (2, .int (nI (prv n k))), (0, .ref r)]) hx hb dX7_hasRightAngles_82 hl (k := 2) rfl (nI_add k 1) (Nat.le_of_ble_eq_true rfl) rfl (fun ls hl => ?_)
          refine lv_goto (tgt := 2) hx hb dX7_hasRightAngles_85 rfl ?_
          exact ih_2 (k + 1) H locs ls (by first | with_reducible assumption | omega) (by first | with_reducible assumption | omega) (by intro j hj; rcases Nat.lt_or_ge j k with h | h; exact hall j h; have e9 : j = k := (by first | with_reducible assumption | omega); subst e9; unfold eRt; assumption) hP hD hS (lv_sub hl [0, 3] rfl)
        · have c_8 : ¬ (dt (X (prv n k)).toInt (Y (prv n k)).toInt (X k).toInt (Y k).toInt (X (nxt n k)).toInt (Y (nxt n k)).toInt) = 0 := zc_ne (iI_toInt (by omega)) rfl c_8
          refine lv_iconst (v := 0) hx hb dX7_hasRightAngles_80 rfl ?_
          obtain ⟨hP9, hD9⟩ := zu_sub (wc := [_, _, _]) hP hD [true, true, true] rfl rfl
          rw [hQ9]
          exact W.zret (ty := .boolean) (v := 0) hx hb hr (rfl) (fun t ht hW => ⟨⟨congrArg (fun z => Outcome.returned (some (Value.int z))) (show (0 : Int32) = pI (∀ k, k < n → eRt n X Y k) from (zp_f (fun h => absurd (h k (by omega)) (by unfold eRt; assumption))).symm), by rw [ht]; exact hP9, hD9⟩, hS.F ht⟩) hS.2.2 dX7_hasRightAngles_81
  exact hl_2 _ 0 s.heap [] ls (Nat.lt_succ_self _) (by first | with_reducible assumption | omega) (by intro j hj; omega) hP hD hS (lv_sub hl [0, 1] rfl)
set_option maxHeartbeats 4000000 in
set_option maxRecDepth 100000 in
theorem k_Row_isEdgeFree (l : Launch) (dC : Nat → ClassId) (dI : Nat → Nat → Nat) (cI cZ cF : ClassId) (sz : Nat) (r : Nat) (rx : Nat) (ry : Nat) (n : Nat) (cap : Nat) (X : Nat → Int32) (Y : Nat → Int32) (rg : Int32) (i : Nat) (f : Nat) (hn : n ≤ cap) (hcap : cap ≤ 1000) (hp : pls n X Y) (hi : i < n) (hf : f ≤ n) : zM l yX7_isEdgeFree cX7_isEdgeFree 5 (some .boolean) ({ frames := 1, cells := 0, slots := 0, locals := 37 } : Room) [.ref r, .int (nI i), .int (nI f)] (dC, dI) (zTy cI cZ cF) [(oc6 r (.ref rx) (.ref ry) (nI n) rg), (oa rx cI cap X), (oa ry cI cap Y)] sz (some (.int (pI (eFr n X Y rg i f)))) (fun A t => zPD (dC, dI) classes A [(oc6 r (.ref rx) (.ref ry) (nI n) rg), (oa rx cI cap X), (oa ry cI cap Y)] t.heap) 0 0 := by
  refine zIn (own := "ScaleShop$Row") (loc := [(0, .ref r), (1, .int (nI i)), (2, .int (nI f))]) rfl rfl rfl rfl (fun p e s m below meth c hx hb hr hts hown hlocks hml hnm9 A hA hS hP hD hK hXN Q9 hQ9 ls hl => ?_)
  have hnx := nxt_lt (n := n) (i := i) (by omega)
  have hle := edg_le n rg
  refine lv_aload_n hx hb dX7_isEdgeFree_0 rfl (lv_at hl 0 rfl) ?_
  refine lv_iload_n hx hb dX7_isEdgeFree_1 rfl (lv_at hl 1 rfl) ?_
  refine lv_aload_n hx hb dX7_isEdgeFree_2 rfl (lv_at hl 0 rfl) ?_
  refine va_get (D := (dC, dI)) (ci := 6) (v := .ref rx) (C := RX7) (T := TX7) (N := 4) hx hb hts inX7 hown hK hP 0 rfl rfl 0 (Nat.le_of_ble_eq_true rfl) (hts _ mw_161) (fun _ h9 => h9) rfl dX7_isEdgeFree_3 ?_
  refine lv_aload_n hx hb dX7_isEdgeFree_6 rfl (lv_at hl 0 rfl) ?_
  refine lv_iload_n hx hb dX7_isEdgeFree_7 rfl (lv_at hl 1 rfl) ?_
  obtain ⟨hPc, hDc, hFc, hI1⟩ := zi_sub (wc := [_, _, _]) hP hD hS hA [0, 1, 2] rfl rfl
  refine zcall (st1 := [.int (nI (nxt n i)), .ref rx, .int (nI i), .ref r]) (va_runV (As := [.int (nI i)]) (rest := [.ref rx, .int (nI i), .ref r]) ⟨hx, hb, hml, hown, hts⟩ (k_Row_next l dC dI cI cZ cF s.heap.size r rx ry n cap X Y rg i (by first | with_reducible assumption | omega) (by first | with_reducible assumption | omega) (by first | with_reducible assumption | omega)) (csV_6 hts rfl rfl ⟨Nat.le_of_ble_eq_true rfl, Nat.le_of_ble_eq_true rfl⟩) (zPV2 (q0 := 0) (ci := 6) hPc hDc hK hXN rfl rfl) rfl rfl hl.1 rfl (lv_room (Nat.le_of_ble_eq_true rfl)) dX7_isEdgeFree_8 ⟨Nat.le_of_ble_eq_true rfl, Nat.le_of_ble_eq_true rfl⟩) hS hFc hFc rfl (fun t H locs ht hB hk1 hS => ?_)
  obtain ⟨hP1, hD1⟩ := hB
  rw [ht] at hP1
  replace hP := z0 hP hD hk1 hP1 hI1
  clear hk1 hPc hDc hFc hP1 hD1 ht hI1
  have b9_1 : nxt n i < cap := by omega
  have b9_2 : zlt (cap) := show cap < 2147483648 by omega
  refine z_iald hx hb hK hP 1 0 rfl rfl (e := nxt n i) rfl b9_1 b9_2 dX7_isEdgeFree_11 ?_
  refine lv_aload_n hx hb dX7_isEdgeFree_12 rfl (lv_at hl 0 rfl) ?_
  refine va_get (D := (dC, dI)) (ci := 6) (v := .ref ry) (C := RX7) (T := TX7) (N := 4) hx hb hts inX7 hown hK hP 0 rfl rfl 1 (Nat.le_of_ble_eq_true rfl) (hts _ mw_168) (fun _ h9 => h9) rfl dX7_isEdgeFree_13 ?_
  refine lv_aload_n hx hb dX7_isEdgeFree_16 rfl (lv_at hl 0 rfl) ?_
  refine lv_iload_n hx hb dX7_isEdgeFree_17 rfl (lv_at hl 1 rfl) ?_
  obtain ⟨hPc, hDc, hFc, hI1⟩ := zi_sub (wc := [_, _, _]) hP hD hS hA [0, 1, 2] rfl rfl
  refine zcall (st1 := [.int (nI (nxt n i)), .ref ry, .int (X (nxt n i)), .int (nI i), .ref r]) (va_runV (As := [.int (nI i)]) (rest := [.ref ry, .int (X (nxt n i)), .int (nI i), .ref r]) ⟨hx, hb, hml, hown, hts⟩ (k_Row_next l dC dI cI cZ cF H.size r rx ry n cap X Y rg i (by first | with_reducible assumption | omega) (by first | with_reducible assumption | omega) (by first | with_reducible assumption | omega)) (csV_6 hts rfl rfl ⟨Nat.le_of_ble_eq_true rfl, Nat.le_of_ble_eq_true rfl⟩) (zPV2 (q0 := 0) (ci := 6) hPc hDc hK hXN rfl rfl) rfl rfl hl.1 rfl (lv_room (Nat.le_of_ble_eq_true rfl)) dX7_isEdgeFree_18 ⟨Nat.le_of_ble_eq_true rfl, Nat.le_of_ble_eq_true rfl⟩) hS hFc hFc rfl (fun t H locs ht hB hk1 hS => ?_)
  obtain ⟨hP1, hD1⟩ := hB
  rw [ht] at hP1
  replace hP := z0 hP hD hk1 hP1 hI1
  clear hk1 hPc hDc hFc hP1 hD1 ht hI1
  refine z_iald hx hb hK hP 2 0 rfl rfl (e := nxt n i) rfl b9_1 b9_2 dX7_isEdgeFree_21 ?_
  obtain ⟨hPc, hDc, hFc, hI1⟩ := zi_sub (wc := [_, _, _]) hP hD hS hA [0, 1, 2] rfl rfl
  refine zcall (st1 := [.int (pI ((X i).toInt = (X (nxt n i)).toInt ∧ (Y i).toInt = (Y (nxt n i)).toInt))]) (va_runV (As := [.int (nI i), .int (X (nxt n i)), .int (Y (nxt n i))]) (rest := []) ⟨hx, hb, hml, hown, hts⟩ (k_Row_isCorner l dC dI cI cZ cF H.size r rx ry n cap X Y rg i (X (nxt n i)) (Y (nxt n i)) (by first | with_reducible assumption | omega) (by first | with_reducible assumption | omega) (by first | with_reducible assumption | omega)) (csV_7 hts rfl rfl ⟨Nat.le_of_ble_eq_true rfl, Nat.le_of_ble_eq_true rfl⟩) (zPV2 (q0 := 0) (ci := 6) hPc hDc hK hXN rfl rfl) rfl rfl hl.1 rfl (lv_room (Nat.le_of_ble_eq_true rfl)) dX7_isEdgeFree_22 ⟨Nat.le_of_ble_eq_true rfl, Nat.le_of_ble_eq_true rfl⟩) hS hFc hFc rfl (fun t H locs ht hB hk1 hS => ?_)
  obtain ⟨hP1, hD1⟩ := hB
  rw [ht] at hP1
  replace hP := z0 hP hD hk1 hP1 hI1
  clear hk1 hPc hDc hFc hP1 hD1 ht hI1
  refine lv_if_eq (tgt := 30) hx hb dX7_isEdgeFree_25 rfl (fun c_3 => ?_) (fun c_3 => ?_)
  · have c_3 : ¬ ((X i).toInt = (X (nxt n i)).toInt ∧ (Y i).toInt = (Y (nxt n i)).toInt) := zp_0 c_3
    refine lv_iload_n hx hb dX7_isEdgeFree_30 rfl (lv_at hl 2 rfl) ?_
    refine lv_istore_n (lv' := [(3, .int (nI f)), (0, .ref r), (1, .int (nI i)), (2, .int (nI f))]) hx hb dX7_isEdgeFree_31 rfl hl (Nat.le_of_ble_eq_true rfl) rfl (fun ls hl => ?_)
    have hl_32 : ∀ (n9 : Nat) (j : Nat) (H : Heap) (locs : List Loc) (ls : Array Slot), edg n rg - j < n9 → (j ≤ n) → (f ≤ j) → (∀ q, f ≤ q → q < j → q ≠ i → (nxt n i = q → ¬ eFd n X Y q) ∧ (nxt n i ≠ q → nxt n q = i → ¬ eFd n X Y i) ∧ (nxt n i ≠ q → nxt n q ≠ i → ¬ eMt n X Y i n X Y q)) → va_P (dC, dI) classes [(oc6 r (.ref rx) (.ref ry) (nI n) rg), (oa rx cI cap X), (oa ry cI cap Y)] H → va_D A [(oc6 r (.ref rx) (.ref ry) (nI n) rg), (oa rx cI cap X), (oa ry cI cap Y)] → va_S A s.heap H locs → lv_has ls 5 [(3, .int (nI j)), (0, .ref r), (1, .int (nI i)), (2, .int (nI f))] → W p l e ({ frames := 1, cells := 0, slots := 0, locals := 37 } : Room) s m ([.ref r, .int (nI i), .int (nI f)] : List Value).toArray below meth c H locs 0 0 Q9 (F0 m 32 ls []) := by
      intro n9
      induction n9 with
      | zero => intro j H locs ls hm; exact absurd hm (Nat.not_lt_zero _)
      | succ n9 ih_32 =>
        intro j H locs ls hm hj hfj hall hP hD hS hl
        refine lv_iload_n hx hb dX7_isEdgeFree_32 rfl (lv_at hl 0 rfl) ?_
        refine lv_aload_n hx hb dX7_isEdgeFree_33 rfl (lv_at hl 1 rfl) ?_
        obtain ⟨hPc, hDc, hFc, hI1⟩ := zi_sub (wc := [_, _, _]) hP hD hS hA [0, 1, 2] rfl rfl
        refine zcall (st1 := [.int (nI (edg n rg)), .int (nI j)]) (va_runV (As := []) (rest := [.int (nI j)]) ⟨hx, hb, hml, hown, hts⟩ (k_Row_edges l dC dI cI cZ cF H.size r rx ry n cap X Y rg (by first | with_reducible assumption | omega) (by first | with_reducible assumption | omega)) (csV_0 hts rfl rfl ⟨Nat.le_of_ble_eq_true rfl, Nat.le_of_ble_eq_true rfl⟩) (zPV2 (q0 := 0) (ci := 6) hPc hDc hK hXN rfl rfl) rfl rfl hl.1 rfl (lv_room (Nat.le_of_ble_eq_true rfl)) dX7_isEdgeFree_34 ⟨Nat.le_of_ble_eq_true rfl, Nat.le_of_ble_eq_true rfl⟩) hS hFc hFc rfl (fun t H locs ht hB hk1 hS => ?_)
        obtain ⟨hP1, hD1⟩ := hB
        rw [ht] at hP1
        replace hP := z0 hP hD hk1 hP1 hI1
        clear hk1 hPc hDc hFc hP1 hD1 ht hI1
        have b9_5 : zlt (j) := show j < 2147483648 by omega
        have b9_6 : zlt ((edg n rg)) := show (edg n rg) < 2147483648 by omega
        refine lv_icmp_ge (tgt := 132) hx hb dX7_isEdgeFree_37 rfl (fun c_4 => ?_) (fun c_4 => ?_)
        · have c_4 : ((edg n rg : Nat) : Int) ≤ ((j : Nat) : Int) := zc_le (nI_toInt b9_6) (nI_toInt b9_5) c_4
          refine lv_iconst (v := 1) hx hb dX7_isEdgeFree_132 rfl ?_
          obtain ⟨hP9, hD9⟩ := zu_sub (wc := [_, _, _]) hP hD [true, true, true] rfl rfl
          rw [hQ9]
          exact W.zret (ty := .boolean) (v := 1) hx hb hr (rfl) (fun t ht hW => ⟨⟨congrArg (fun z => Outcome.returned (some (Value.int z))) (show (1 : Int32) = pI (eFr n X Y rg i f) from (zp_t (⟨by assumption, fun q h1 h2 h3 => hall q h1 (by omega) h3⟩)).symm), by rw [ht]; exact hP9, hD9⟩, hS.F ht⟩) hS.2.2 dX7_isEdgeFree_133
        · have c_4 : ((j : Nat) : Int) < ((edg n rg : Nat) : Int) := zc_nle (nI_toInt b9_6) (nI_toInt b9_5) c_4
          have hnj := nxt_lt (n := n) (i := j) (by omega)
          have hjn : j < n := (by omega)
          refine lv_iload_n hx hb dX7_isEdgeFree_40 rfl (lv_at hl 0 rfl) ?_
          refine lv_iload_n hx hb dX7_isEdgeFree_41 rfl (lv_at hl 2 rfl) ?_
          have b9_8 : zlt (i) := show i < 2147483648 by omega
          refine lv_icmp_ne (tgt := 48) hx hb dX7_isEdgeFree_42 rfl (fun c_7 => ?_) (fun c_7 => ?_)
          · have c_7 : ¬ ((j : Nat) : Int) = ((i : Nat) : Int) := zc_ne (nI_toInt b9_5) (nI_toInt b9_8) c_7
            refine lv_aload_n hx hb dX7_isEdgeFree_48 rfl (lv_at hl 1 rfl) ?_
            refine lv_iload_n hx hb dX7_isEdgeFree_49 rfl (lv_at hl 2 rfl) ?_
            obtain ⟨hPc, hDc, hFc, hI1⟩ := zi_sub (wc := [_, _, _]) hP hD hS hA [0, 1, 2] rfl rfl
            refine zcall (st1 := [.int (nI (nxt n i))]) (va_runV (As := [.int (nI i)]) (rest := []) ⟨hx, hb, hml, hown, hts⟩ (k_Row_next l dC dI cI cZ cF H.size r rx ry n cap X Y rg i (by first | with_reducible assumption | omega) (by first | with_reducible assumption | omega) (by first | with_reducible assumption | omega)) (csV_6 hts rfl rfl ⟨Nat.le_of_ble_eq_true rfl, Nat.le_of_ble_eq_true rfl⟩) (zPV2 (q0 := 0) (ci := 6) hPc hDc hK hXN rfl rfl) rfl rfl hl.1 rfl (lv_room (Nat.le_of_ble_eq_true rfl)) dX7_isEdgeFree_50 ⟨Nat.le_of_ble_eq_true rfl, Nat.le_of_ble_eq_true rfl⟩) hS hFc hFc rfl (fun t H locs ht hB hk1 hS => ?_)
            obtain ⟨hP1, hD1⟩ := hB
            rw [ht] at hP1
            replace hP := z0 hP hD hk1 hP1 hI1
            clear hk1 hPc hDc hFc hP1 hD1 ht hI1
            refine lv_iload_n hx hb dX7_isEdgeFree_53 rfl (lv_at hl 0 rfl) ?_
            have b9_10 : zlt ((nxt n i)) := show (nxt n i) < 2147483648 by omega
            refine lv_icmp_ne (tgt := 75) hx hb dX7_isEdgeFree_54 rfl (fun c_9 => ?_) (fun c_9 => ?_)
            · have c_9 : ¬ ((nxt n i : Nat) : Int) = ((j : Nat) : Int) := zc_ne (nI_toInt b9_10) (nI_toInt b9_5) c_9
              refine lv_aload_n hx hb dX7_isEdgeFree_75 rfl (lv_at hl 1 rfl) ?_
              refine lv_iload_n hx hb dX7_isEdgeFree_76 rfl (lv_at hl 0 rfl) ?_
              obtain ⟨hPc, hDc, hFc, hI1⟩ := zi_sub (wc := [_, _, _]) hP hD hS hA [0, 1, 2] rfl rfl
              refine zcall (st1 := [.int (nI (nxt n j))]) (va_runV (As := [.int (nI j)]) (rest := []) ⟨hx, hb, hml, hown, hts⟩ (k_Row_next l dC dI cI cZ cF H.size r rx ry n cap X Y rg j (by first | with_reducible assumption | omega) (by first | with_reducible assumption | omega) (by first | with_reducible assumption | omega)) (csV_6 hts rfl rfl ⟨Nat.le_of_ble_eq_true rfl, Nat.le_of_ble_eq_true rfl⟩) (zPV2 (q0 := 0) (ci := 6) hPc hDc hK hXN rfl rfl) rfl rfl hl.1 rfl (lv_room (Nat.le_of_ble_eq_true rfl)) dX7_isEdgeFree_77 ⟨Nat.le_of_ble_eq_true rfl, Nat.le_of_ble_eq_true rfl⟩) hS hFc hFc rfl (fun t H locs ht hB hk1 hS => ?_)
              obtain ⟨hP1, hD1⟩ := hB
              rw [ht] at hP1
              replace hP := z0 hP hD hk1 hP1 hI1
              clear hk1 hPc hDc hFc hP1 hD1 ht hI1
              refine lv_iload_n hx hb dX7_isEdgeFree_80 rfl (lv_at hl 2 rfl) ?_
              have b9_12 : zlt ((nxt n j)) := show (nxt n j) < 2147483648 by omega
              refine lv_icmp_ne (tgt := 102) hx hb dX7_isEdgeFree_81 rfl (fun c_11 => ?_) (fun c_11 => ?_)
              · have c_11 : ¬ ((nxt n j : Nat) : Int) = ((i : Nat) : Int) := zc_ne (nI_toInt b9_12) (nI_toInt b9_8) c_11
                refine lv_aload_n hx hb dX7_isEdgeFree_102 rfl (lv_at hl 1 rfl) ?_
                refine lv_iload_n hx hb dX7_isEdgeFree_103 rfl (lv_at hl 2 rfl) ?_
                refine lv_aload_n hx hb dX7_isEdgeFree_104 rfl (lv_at hl 1 rfl) ?_
                refine lv_iload_n hx hb dX7_isEdgeFree_105 rfl (lv_at hl 0 rfl) ?_
                obtain ⟨hPc, hDc, hFc, hI1⟩ := zi_sub (wc := [_, _, _]) hP hD hS hA [0, 1, 2] rfl rfl
                refine zcall (st1 := [.int (pI (eMt n X Y i n X Y j))]) (va_runV (As := [.int (nI i), .ref r, .int (nI j)]) (rest := []) ⟨hx, hb, hml, hown, hts⟩ (k_Row_partsMeet_self l dC dI cI cZ cF H.size r rx ry n cap X Y rg i j (by first | with_reducible assumption | omega) (by first | with_reducible assumption | omega) (by first | with_reducible assumption | assumption) (by first | with_reducible assumption | omega) (by first | with_reducible assumption | omega)) (csV_4 hts rfl rfl ⟨Nat.le_of_ble_eq_true rfl, Nat.le_of_ble_eq_true rfl⟩) (zPV2 (q0 := 0) (ci := 6) hPc hDc hK hXN rfl rfl) rfl rfl hl.1 rfl (lv_room (Nat.le_of_ble_eq_true rfl)) dX7_isEdgeFree_106 ⟨Nat.le_of_ble_eq_true rfl, Nat.le_of_ble_eq_true rfl⟩) hS hFc hFc rfl (fun t H locs ht hB hk1 hS => ?_)
                obtain ⟨hP1, hD1⟩ := hB
                rw [ht] at hP1
                replace hP := z0 hP hD hk1 hP1 hI1
                clear hk1 hPc hDc hFc hP1 hD1 ht hI1
                refine lv_if_ne (tgt := 116) hx hb dX7_isEdgeFree_109 rfl (fun c_13 => ?_) (fun c_13 => ?_)
                · have c_13 : eMt n X Y i n X Y j := zp_1 c_13
                  refine lv_iconst (v := 0) hx hb dX7_isEdgeFree_116 rfl ?_
                  refine lv_istore (lv' := [(4, .int 0), (3, .int (nI j)), (0, .ref r), (1, .int (nI i)), (2, .int (nI f))]) hx hb dX7_isEdgeFree_117 hl (Nat.le_of_ble_eq_true rfl) rfl (fun ls hl => ?_)
                  refine lv_iload hx hb dX7_isEdgeFree_119 (lv_at hl 0 rfl) ?_
                  refine lv_if_ne (tgt := 126) hx hb dX7_isEdgeFree_121 rfl (fun c_14 => ?_) (fun c_14 => ?_)
                  · exact absurd (by decide) c_14
                  · refine lv_iconst (v := 0) hx hb dX7_isEdgeFree_124 rfl ?_
                    obtain ⟨hP9, hD9⟩ := zu_sub (wc := [_, _, _]) hP hD [true, true, true] rfl rfl
                    rw [hQ9]
                    exact W.zret (ty := .boolean) (v := 0) hx hb hr (rfl) (fun t ht hW => ⟨⟨congrArg (fun z => Outcome.returned (some (Value.int z))) (show (0 : Int32) = pI (eFr n X Y rg i f) from (zp_f (fun h => by have h9 := h.2 j (by omega) (by omega) (by omega); have h91 := h9.1; have h92 := h9.2.1; have h93 := h9.2.2; first | exact h91 (by omega) (by first | with_reducible assumption | assumption) | exact h92 (by omega) (by omega) (by first | with_reducible assumption | assumption) | exact h93 (by omega) (by omega) (by first | with_reducible assumption | assumption))).symm), by rw [ht]; exact hP9, hD9⟩, hS.F ht⟩) hS.2.2 dX7_isEdgeFree_125
                · have c_13 : ¬ (eMt n X Y i n X Y j) := zp_0 c_13
                  refine lv_iconst (v := 1) hx hb dX7_isEdgeFree_112 rfl ?_
                  refine lv_goto (tgt := 117) hx hb dX7_isEdgeFree_113 rfl ?_
                  refine lv_istore (lv' := [(4, .int 1), (3, .int (nI j)), (0, .ref r), (1, .int (nI i)), (2, .int (nI f))]) hx hb dX7_isEdgeFree_117 hl (Nat.le_of_ble_eq_true rfl) rfl (fun ls hl => ?_)
                  refine lv_iload hx hb dX7_isEdgeFree_119 (lv_at hl 0 rfl) ?_
                  refine lv_if_ne (tgt := 126) hx hb dX7_isEdgeFree_121 rfl (fun c_15 => ?_) (fun c_15 => ?_)
                  · refine lv_iinc (v := nI (j + 1)) (lv' := [(3, .int (nI (j + 1))), (4, .int 1), (0, .ref r), (1, .int (nI i)), (2, .int (nI f))]) hx hb dX7_isEdgeFree_126 hl (k := 1) rfl (nI_add j 1) (Nat.le_of_ble_eq_true rfl) rfl (fun ls hl => ?_)
                    refine lv_goto (tgt := 32) hx hb dX7_isEdgeFree_129 rfl ?_
                    exact ih_32 (j + 1) H locs ls (by first | with_reducible assumption | omega) (by first | with_reducible assumption | omega) (by first | with_reducible assumption | omega) (by intro q h1 h2 h3; rcases Nat.lt_or_ge q j with h | h; exact hall q h1 h h3; have e9 : q = j := (by first | with_reducible assumption | omega); subst e9; first | (exact absurd (by first | with_reducible assumption | omega) h3) | (refine ⟨fun h => ?_, fun h h4 => ?_, fun h h4 => ?_⟩ <;> first | assumption | (exfalso; omega))) hP hD hS (lv_sub hl [0, 2, 3, 4] rfl)
                  · exact absurd c_15 (by decide)
              · have c_11 : ((nxt n j : Nat) : Int) = ((i : Nat) : Int) := zc_eq (nI_toInt b9_12) (nI_toInt b9_8) c_11
                refine lv_aload_n hx hb dX7_isEdgeFree_84 rfl (lv_at hl 1 rfl) ?_
                refine lv_iload_n hx hb dX7_isEdgeFree_85 rfl (lv_at hl 2 rfl) ?_
                obtain ⟨hPc, hDc, hFc, hI1⟩ := zi_sub (wc := [_, _, _]) hP hD hS hA [0, 1, 2] rfl rfl
                refine zcall (st1 := [.int (pI (eFd n X Y i))]) (va_runV (As := [.int (nI i)]) (rest := []) ⟨hx, hb, hml, hown, hts⟩ (k_Row_foldsBack l dC dI cI cZ cF H.size r rx ry n cap X Y rg i (by first | with_reducible assumption | omega) (by first | with_reducible assumption | omega) (by first | with_reducible assumption | assumption) (by first | with_reducible assumption | omega)) (csV_8 hts rfl rfl ⟨Nat.le_of_ble_eq_true rfl, Nat.le_of_ble_eq_true rfl⟩) (zPV2 (q0 := 0) (ci := 6) hPc hDc hK hXN rfl rfl) rfl rfl hl.1 rfl (lv_room (Nat.le_of_ble_eq_true rfl)) dX7_isEdgeFree_86 ⟨Nat.le_of_ble_eq_true rfl, Nat.le_of_ble_eq_true rfl⟩) hS hFc hFc rfl (fun t H locs ht hB hk1 hS => ?_)
                obtain ⟨hP1, hD1⟩ := hB
                rw [ht] at hP1
                replace hP := z0 hP hD hk1 hP1 hI1
                clear hk1 hPc hDc hFc hP1 hD1 ht hI1
                refine lv_if_ne (tgt := 96) hx hb dX7_isEdgeFree_89 rfl (fun c_16 => ?_) (fun c_16 => ?_)
                · have c_16 : eFd n X Y i := zp_1 c_16
                  refine lv_iconst (v := 0) hx hb dX7_isEdgeFree_96 rfl ?_
                  refine lv_istore (lv' := [(4, .int 0), (3, .int (nI j)), (0, .ref r), (1, .int (nI i)), (2, .int (nI f))]) hx hb dX7_isEdgeFree_97 hl (Nat.le_of_ble_eq_true rfl) rfl (fun ls hl => ?_)
                  refine lv_goto (tgt := 119) hx hb dX7_isEdgeFree_99 rfl ?_
                  refine lv_iload hx hb dX7_isEdgeFree_119 (lv_at hl 0 rfl) ?_
                  refine lv_if_ne (tgt := 126) hx hb dX7_isEdgeFree_121 rfl (fun c_17 => ?_) (fun c_17 => ?_)
                  · exact absurd (by decide) c_17
                  · refine lv_iconst (v := 0) hx hb dX7_isEdgeFree_124 rfl ?_
                    obtain ⟨hP9, hD9⟩ := zu_sub (wc := [_, _, _]) hP hD [true, true, true] rfl rfl
                    rw [hQ9]
                    exact W.zret (ty := .boolean) (v := 0) hx hb hr (rfl) (fun t ht hW => ⟨⟨congrArg (fun z => Outcome.returned (some (Value.int z))) (show (0 : Int32) = pI (eFr n X Y rg i f) from (zp_f (fun h => by have h9 := h.2 j (by omega) (by omega) (by omega); have h91 := h9.1; have h92 := h9.2.1; have h93 := h9.2.2; first | exact h91 (by omega) (by first | with_reducible assumption | assumption) | exact h92 (by omega) (by omega) (by first | with_reducible assumption | assumption) | exact h93 (by omega) (by omega) (by first | with_reducible assumption | assumption))).symm), by rw [ht]; exact hP9, hD9⟩, hS.F ht⟩) hS.2.2 dX7_isEdgeFree_125
                · have c_16 : ¬ (eFd n X Y i) := zp_0 c_16
                  refine lv_iconst (v := 1) hx hb dX7_isEdgeFree_92 rfl ?_
                  refine lv_goto (tgt := 97) hx hb dX7_isEdgeFree_93 rfl ?_
                  refine lv_istore (lv' := [(4, .int 1), (3, .int (nI j)), (0, .ref r), (1, .int (nI i)), (2, .int (nI f))]) hx hb dX7_isEdgeFree_97 hl (Nat.le_of_ble_eq_true rfl) rfl (fun ls hl => ?_)
                  refine lv_goto (tgt := 119) hx hb dX7_isEdgeFree_99 rfl ?_
                  refine lv_iload hx hb dX7_isEdgeFree_119 (lv_at hl 0 rfl) ?_
                  refine lv_if_ne (tgt := 126) hx hb dX7_isEdgeFree_121 rfl (fun c_18 => ?_) (fun c_18 => ?_)
                  · refine lv_iinc (v := nI (j + 1)) (lv' := [(3, .int (nI (j + 1))), (4, .int 1), (0, .ref r), (1, .int (nI i)), (2, .int (nI f))]) hx hb dX7_isEdgeFree_126 hl (k := 1) rfl (nI_add j 1) (Nat.le_of_ble_eq_true rfl) rfl (fun ls hl => ?_)
                    refine lv_goto (tgt := 32) hx hb dX7_isEdgeFree_129 rfl ?_
                    exact ih_32 (j + 1) H locs ls (by first | with_reducible assumption | omega) (by first | with_reducible assumption | omega) (by first | with_reducible assumption | omega) (by intro q h1 h2 h3; rcases Nat.lt_or_ge q j with h | h; exact hall q h1 h h3; have e9 : q = j := (by first | with_reducible assumption | omega); subst e9; first | (exact absurd (by first | with_reducible assumption | omega) h3) | (refine ⟨fun h => ?_, fun h h4 => ?_, fun h h4 => ?_⟩ <;> first | assumption | (exfalso; omega))) hP hD hS (lv_sub hl [0, 2, 3, 4] rfl)
                  · exact absurd c_18 (by decide)
            · have c_9 : ((nxt n i : Nat) : Int) = ((j : Nat) : Int) := zc_eq (nI_toInt b9_10) (nI_toInt b9_5) c_9
              refine lv_aload_n hx hb dX7_isEdgeFree_57 rfl (lv_at hl 1 rfl) ?_
              refine lv_iload_n hx hb dX7_isEdgeFree_58 rfl (lv_at hl 0 rfl) ?_
              obtain ⟨hPc, hDc, hFc, hI1⟩ := zi_sub (wc := [_, _, _]) hP hD hS hA [0, 1, 2] rfl rfl
              refine zcall (st1 := [.int (pI (eFd n X Y j))]) (va_runV (As := [.int (nI j)]) (rest := []) ⟨hx, hb, hml, hown, hts⟩ (k_Row_foldsBack l dC dI cI cZ cF H.size r rx ry n cap X Y rg j (by first | with_reducible assumption | omega) (by first | with_reducible assumption | omega) (by first | with_reducible assumption | assumption) (by first | with_reducible assumption | omega)) (csV_8 hts rfl rfl ⟨Nat.le_of_ble_eq_true rfl, Nat.le_of_ble_eq_true rfl⟩) (zPV2 (q0 := 0) (ci := 6) hPc hDc hK hXN rfl rfl) rfl rfl hl.1 rfl (lv_room (Nat.le_of_ble_eq_true rfl)) dX7_isEdgeFree_59 ⟨Nat.le_of_ble_eq_true rfl, Nat.le_of_ble_eq_true rfl⟩) hS hFc hFc rfl (fun t H locs ht hB hk1 hS => ?_)
              obtain ⟨hP1, hD1⟩ := hB
              rw [ht] at hP1
              replace hP := z0 hP hD hk1 hP1 hI1
              clear hk1 hPc hDc hFc hP1 hD1 ht hI1
              refine lv_if_ne (tgt := 69) hx hb dX7_isEdgeFree_62 rfl (fun c_19 => ?_) (fun c_19 => ?_)
              · have c_19 : eFd n X Y j := zp_1 c_19
                refine lv_iconst (v := 0) hx hb dX7_isEdgeFree_69 rfl ?_
                refine lv_istore (lv' := [(4, .int 0), (3, .int (nI j)), (0, .ref r), (1, .int (nI i)), (2, .int (nI f))]) hx hb dX7_isEdgeFree_70 hl (Nat.le_of_ble_eq_true rfl) rfl (fun ls hl => ?_)
                refine lv_goto (tgt := 119) hx hb dX7_isEdgeFree_72 rfl ?_
                refine lv_iload hx hb dX7_isEdgeFree_119 (lv_at hl 0 rfl) ?_
                refine lv_if_ne (tgt := 126) hx hb dX7_isEdgeFree_121 rfl (fun c_20 => ?_) (fun c_20 => ?_)
                · exact absurd (by decide) c_20
                · refine lv_iconst (v := 0) hx hb dX7_isEdgeFree_124 rfl ?_
                  obtain ⟨hP9, hD9⟩ := zu_sub (wc := [_, _, _]) hP hD [true, true, true] rfl rfl
                  rw [hQ9]
                  exact W.zret (ty := .boolean) (v := 0) hx hb hr (rfl) (fun t ht hW => ⟨⟨congrArg (fun z => Outcome.returned (some (Value.int z))) (show (0 : Int32) = pI (eFr n X Y rg i f) from (zp_f (fun h => by have h9 := h.2 j (by omega) (by omega) (by omega); have h91 := h9.1; have h92 := h9.2.1; have h93 := h9.2.2; first | exact h91 (by omega) (by first | with_reducible assumption | assumption) | exact h92 (by omega) (by omega) (by first | with_reducible assumption | assumption) | exact h93 (by omega) (by omega) (by first | with_reducible assumption | assumption))).symm), by rw [ht]; exact hP9, hD9⟩, hS.F ht⟩) hS.2.2 dX7_isEdgeFree_125
              · have c_19 : ¬ (eFd n X Y j) := zp_0 c_19
                refine lv_iconst (v := 1) hx hb dX7_isEdgeFree_65 rfl ?_
                refine lv_goto (tgt := 70) hx hb dX7_isEdgeFree_66 rfl ?_
                refine lv_istore (lv' := [(4, .int 1), (3, .int (nI j)), (0, .ref r), (1, .int (nI i)), (2, .int (nI f))]) hx hb dX7_isEdgeFree_70 hl (Nat.le_of_ble_eq_true rfl) rfl (fun ls hl => ?_)
                refine lv_goto (tgt := 119) hx hb dX7_isEdgeFree_72 rfl ?_
                refine lv_iload hx hb dX7_isEdgeFree_119 (lv_at hl 0 rfl) ?_
                refine lv_if_ne (tgt := 126) hx hb dX7_isEdgeFree_121 rfl (fun c_21 => ?_) (fun c_21 => ?_)
                · refine lv_iinc (v := nI (j + 1)) (lv' := [(3, .int (nI (j + 1))), (4, .int 1), (0, .ref r), (1, .int (nI i)), (2, .int (nI f))]) hx hb dX7_isEdgeFree_126 hl (k := 1) rfl (nI_add j 1) (Nat.le_of_ble_eq_true rfl) rfl (fun ls hl => ?_)
                  refine lv_goto (tgt := 32) hx hb dX7_isEdgeFree_129 rfl ?_
                  exact ih_32 (j + 1) H locs ls (by first | with_reducible assumption | omega) (by first | with_reducible assumption | omega) (by first | with_reducible assumption | omega) (by intro q h1 h2 h3; rcases Nat.lt_or_ge q j with h | h; exact hall q h1 h h3; have e9 : q = j := (by first | with_reducible assumption | omega); subst e9; first | (exact absurd (by first | with_reducible assumption | omega) h3) | (refine ⟨fun h => ?_, fun h h4 => ?_, fun h h4 => ?_⟩ <;> first | assumption | (exfalso; omega))) hP hD hS (lv_sub hl [0, 2, 3, 4] rfl)
                · exact absurd c_21 (by decide)
          · have c_7 : ((j : Nat) : Int) = ((i : Nat) : Int) := zc_eq (nI_toInt b9_5) (nI_toInt b9_8) c_7
            refine lv_goto (tgt := 126) hx hb dX7_isEdgeFree_45 rfl ?_
            refine lv_iinc (v := nI (j + 1)) (lv' := [(3, .int (nI (j + 1))), (0, .ref r), (1, .int (nI i)), (2, .int (nI f))]) hx hb dX7_isEdgeFree_126 hl (k := 0) rfl (nI_add j 1) (Nat.le_of_ble_eq_true rfl) rfl (fun ls hl => ?_)
            refine lv_goto (tgt := 32) hx hb dX7_isEdgeFree_129 rfl ?_
            exact ih_32 (j + 1) H locs ls (by first | with_reducible assumption | omega) (by first | with_reducible assumption | omega) (by first | with_reducible assumption | omega) (by intro q h1 h2 h3; rcases Nat.lt_or_ge q j with h | h; exact hall q h1 h h3; have e9 : q = j := (by first | with_reducible assumption | omega); subst e9; first | (exact absurd (by first | with_reducible assumption | omega) h3) | (refine ⟨fun h => ?_, fun h h4 => ?_, fun h h4 => ?_⟩ <;> first | assumption | (exfalso; omega))) hP hD hS (lv_sub hl [0, 1, 2, 3] rfl)
    exact hl_32 _ f H locs ls (Nat.lt_succ_self _) (by first | with_reducible assumption | omega) (by first | with_reducible assumption | omega) (by intro q h1 h2; omega) hP hD hS (lv_sub hl [0, 1, 2, 3] rfl)
  · have c_3 : (X i).toInt = (X (nxt n i)).toInt ∧ (Y i).toInt = (Y (nxt n i)).toInt := zp_1 c_3
    refine lv_iconst (v := 0) hx hb dX7_isEdgeFree_28 rfl ?_
    obtain ⟨hP9, hD9⟩ := zu_sub (wc := [_, _, _]) hP hD [true, true, true] rfl rfl
    rw [hQ9]
    exact W.zret (ty := .boolean) (v := 0) hx hb hr (rfl) (fun t ht hW => ⟨⟨congrArg (fun z => Outcome.returned (some (Value.int z))) (show (0 : Int32) = pI (eFr n X Y rg i f) from (zp_f (fun h => h.1 (by first | with_reducible assumption | assumption))).symm), by rw [ht]; exact hP9, hD9⟩, hS.F ht⟩) hS.2.2 dX7_isEdgeFree_29
set_option maxHeartbeats 4000000 in
set_option maxRecDepth 100000 in
theorem k_Row_isSound (l : Launch) (dC : Nat → ClassId) (dI : Nat → Nat → Nat) (cI cZ cF : ClassId) (sz : Nat) (r : Nat) (rx : Nat) (ry : Nat) (n : Nat) (cap : Nat) (X : Nat → Int32) (Y : Nat → Int32) (rg : Int32) (kd : Int32) (hn : n ≤ cap) (hcap : cap ≤ 1000) (hp : pls n X Y) : zM l yX7_isSound cX7_isSound 3 (some .boolean) ({ frames := 2, cells := 0, slots := 0, locals := 61 } : Room) [.ref r, .int kd] (dC, dI) (zTy cI cZ cF) [(oc6 r (.ref rx) (.ref ry) (nI n) rg), (oa rx cI cap X), (oa ry cI cap Y)] sz (some (.int (pI ((∀ i, i < edg n rg → eFr n X Y rg i (i + 1)) ∧ (¬ kd.toInt = 6 ∨ ∀ k, k < n → eRt n X Y k))))) (fun A t => zPD (dC, dI) classes A [(oc6 r (.ref rx) (.ref ry) (nI n) rg), (oa rx cI cap X), (oa ry cI cap Y)] t.heap) 0 0 := by
  refine zIn (own := "ScaleShop$Row") (loc := [(0, .ref r), (1, .int kd)]) rfl rfl rfl rfl (fun p e s m below meth c hx hb hr hts hown hlocks hml hnm9 A hA hS hP hD hK hXN Q9 hQ9 ls hl => ?_)
  have hle := edg_le n rg
  refine lv_iconst (v := 0) hx hb dX7_isSound_0 rfl ?_
  refine lv_istore_n (lv' := [(2, .int 0), (0, .ref r), (1, .int kd)]) hx hb dX7_isSound_1 rfl hl (Nat.le_of_ble_eq_true rfl) rfl (fun ls hl => ?_)
  have hl_2 : ∀ (n9 : Nat) (i : Nat) (H : Heap) (locs : List Loc) (ls : Array Slot), edg n rg - i < n9 → (i ≤ edg n rg) → (∀ j, j < i → eFr n X Y rg j (j + 1)) → va_P (dC, dI) classes [(oc6 r (.ref rx) (.ref ry) (nI n) rg), (oa rx cI cap X), (oa ry cI cap Y)] H → va_D A [(oc6 r (.ref rx) (.ref ry) (nI n) rg), (oa rx cI cap X), (oa ry cI cap Y)] → va_S A s.heap H locs → lv_has ls 3 [(2, .int (nI i)), (0, .ref r), (1, .int kd)] → W p l e ({ frames := 2, cells := 0, slots := 0, locals := 61 } : Room) s m ([.ref r, .int kd] : List Value).toArray below meth c H locs 0 0 Q9 (F0 m 2 ls []) := by
    intro n9
    induction n9 with
    | zero => intro i H locs ls hm; exact absurd hm (Nat.not_lt_zero _)
    | succ n9 ih_2 =>
      intro i H locs ls hm hi hall hP hD hS hl
      refine lv_iload_n hx hb dX7_isSound_2 rfl (lv_at hl 0 rfl) ?_
      refine lv_aload_n hx hb dX7_isSound_3 rfl (lv_at hl 1 rfl) ?_
      obtain ⟨hPc, hDc, hFc, hI1⟩ := zi_sub (wc := [_, _, _]) hP hD hS hA [0, 1, 2] rfl rfl
      refine zcall (st1 := [.int (nI (edg n rg)), .int (nI i)]) (va_runV (As := []) (rest := [.int (nI i)]) ⟨hx, hb, hml, hown, hts⟩ (k_Row_edges l dC dI cI cZ cF H.size r rx ry n cap X Y rg (by first | with_reducible assumption | omega) (by first | with_reducible assumption | omega)) (csV_0 hts rfl rfl ⟨Nat.le_of_ble_eq_true rfl, Nat.le_of_ble_eq_true rfl⟩) (zPV2 (q0 := 0) (ci := 6) hPc hDc hK hXN rfl rfl) rfl rfl hl.1 rfl (lv_room (Nat.le_of_ble_eq_true rfl)) dX7_isSound_4 ⟨Nat.le_of_ble_eq_true rfl, Nat.le_of_ble_eq_true rfl⟩) hS hFc hFc rfl (fun t H locs ht hB hk1 hS => ?_)
      obtain ⟨hP1, hD1⟩ := hB
      rw [ht] at hP1
      replace hP := z0 hP hD hk1 hP1 hI1
      clear hk1 hPc hDc hFc hP1 hD1 ht hI1
      have b9_2 : zlt (i) := show i < 2147483648 by omega
      have b9_3 : zlt ((edg n rg)) := show (edg n rg) < 2147483648 by omega
      refine lv_icmp_ge (tgt := 29) hx hb dX7_isSound_7 rfl (fun c_1 => ?_) (fun c_1 => ?_)
      · have c_1 : ((edg n rg : Nat) : Int) ≤ ((i : Nat) : Int) := zc_le (nI_toInt b9_3) (nI_toInt b9_2) c_1
        refine lv_iload_n hx hb dX7_isSound_29 rfl (lv_at hl 2 rfl) ?_
        refine lv_bipush (v := 6) hx hb dX7_isSound_30 rfl ?_
        refine lv_icmp_ne (tgt := 42) hx hb dX7_isSound_32 rfl (fun c_4 => ?_) (fun c_4 => ?_)
        · have c_4 : ¬ kd.toInt = 6 := zc_ne rfl rfl c_4
          refine lv_iconst (v := 1) hx hb dX7_isSound_42 rfl ?_
          refine lv_goto (tgt := 47) hx hb dX7_isSound_43 rfl ?_
          obtain ⟨hP9, hD9⟩ := zu_sub (wc := [_, _, _]) hP hD [true, true, true] rfl rfl
          rw [hQ9]
          exact W.zret (ty := .boolean) (v := 1) hx hb hr (rfl) (fun t ht hW => ⟨⟨congrArg (fun z => Outcome.returned (some (Value.int z))) (show (1 : Int32) = pI ((∀ i, i < edg n rg → eFr n X Y rg i (i + 1)) ∧ (¬ kd.toInt = 6 ∨ ∀ k, k < n → eRt n X Y k)) from (zp_t (by first | exact ⟨fun j hj => hall j (by omega), Or.inl (by omega)⟩ | exact ⟨fun j hj => hall j (by omega), Or.inr (by first | with_reducible assumption | assumption)⟩ | exact fun h => h.2.elim (fun h => h (by omega)) (by first | with_reducible assumption | assumption))).symm), by rw [ht]; exact hP9, hD9⟩, hS.F ht⟩) hS.2.2 dX7_isSound_47
        · have c_4 : kd.toInt = 6 := zc_eq rfl rfl c_4
          refine lv_aload_n hx hb dX7_isSound_35 rfl (lv_at hl 1 rfl) ?_
          obtain ⟨hPc, hDc, hFc, hI1⟩ := zi_sub (wc := [_, _, _]) hP hD hS hA [0, 1, 2] rfl rfl
          refine zcall (st1 := [.int (pI (∀ k, k < n → eRt n X Y k))]) (va_runV (As := []) (rest := []) ⟨hx, hb, hml, hown, hts⟩ (k_Row_hasRightAngles l dC dI cI cZ cF H.size r rx ry n cap X Y rg (by first | with_reducible assumption | omega) (by first | with_reducible assumption | omega) (by first | with_reducible assumption | assumption)) (csV_9 hts rfl rfl ⟨Nat.le_of_ble_eq_true rfl, Nat.le_of_ble_eq_true rfl⟩) (zPV2 (q0 := 0) (ci := 6) hPc hDc hK hXN rfl rfl) rfl rfl hl.1 rfl (lv_room (Nat.le_of_ble_eq_true rfl)) dX7_isSound_36 ⟨Nat.le_of_ble_eq_true rfl, Nat.le_of_ble_eq_true rfl⟩) hS hFc hFc rfl (fun t H locs ht hB hk1 hS => ?_)
          obtain ⟨hP1, hD1⟩ := hB
          rw [ht] at hP1
          replace hP := z0 hP hD hk1 hP1 hI1
          clear hk1 hPc hDc hFc hP1 hD1 ht hI1
          refine lv_if_eq (tgt := 46) hx hb dX7_isSound_39 rfl (fun c_5 => ?_) (fun c_5 => ?_)
          · have c_5 : ¬ (∀ k, k < n → eRt n X Y k) := zp_0 c_5
            refine lv_iconst (v := 0) hx hb dX7_isSound_46 rfl ?_
            obtain ⟨hP9, hD9⟩ := zu_sub (wc := [_, _, _]) hP hD [true, true, true] rfl rfl
            rw [hQ9]
            exact W.zret (ty := .boolean) (v := 0) hx hb hr (rfl) (fun t ht hW => ⟨⟨congrArg (fun z => Outcome.returned (some (Value.int z))) (show (0 : Int32) = pI ((∀ i, i < edg n rg → eFr n X Y rg i (i + 1)) ∧ (¬ kd.toInt = 6 ∨ ∀ k, k < n → eRt n X Y k)) from (zp_f (by first | exact ⟨fun j hj => hall j (by omega), Or.inl (by omega)⟩ | exact ⟨fun j hj => hall j (by omega), Or.inr (by first | with_reducible assumption | assumption)⟩ | exact fun h => h.2.elim (fun h => h (by omega)) (by first | with_reducible assumption | assumption))).symm), by rw [ht]; exact hP9, hD9⟩, hS.F ht⟩) hS.2.2 dX7_isSound_47
          · have c_5 : ∀ k, k < n → eRt n X Y k := zp_1 c_5
            refine lv_iconst (v := 1) hx hb dX7_isSound_42 rfl ?_
            refine lv_goto (tgt := 47) hx hb dX7_isSound_43 rfl ?_
            obtain ⟨hP9, hD9⟩ := zu_sub (wc := [_, _, _]) hP hD [true, true, true] rfl rfl
            rw [hQ9]
            exact W.zret (ty := .boolean) (v := 1) hx hb hr (rfl) (fun t ht hW => ⟨⟨congrArg (fun z => Outcome.returned (some (Value.int z))) (show (1 : Int32) = pI ((∀ i, i < edg n rg → eFr n X Y rg i (i + 1)) ∧ (¬ kd.toInt = 6 ∨ ∀ k, k < n → eRt n X Y k)) from (zp_t (by first | exact ⟨fun j hj => hall j (by omega), Or.inl (by omega)⟩ | exact ⟨fun j hj => hall j (by omega), Or.inr (by first | with_reducible assumption | assumption)⟩ | exact fun h => h.2.elim (fun h => h (by omega)) (by first | with_reducible assumption | assumption))).symm), by rw [ht]; exact hP9, hD9⟩, hS.F ht⟩) hS.2.2 dX7_isSound_47
      · have c_1 : ((i : Nat) : Int) < ((edg n rg : Nat) : Int) := zc_nle (nI_toInt b9_3) (nI_toInt b9_2) c_1
        refine lv_aload_n hx hb dX7_isSound_10 rfl (lv_at hl 1 rfl) ?_
        refine lv_iload_n hx hb dX7_isSound_11 rfl (lv_at hl 0 rfl) ?_
        refine lv_iload_n hx hb dX7_isSound_12 rfl (lv_at hl 0 rfl) ?_
        refine lv_iconst (v := 1) hx hb dX7_isSound_13 rfl ?_
        refine lv_iadd hx hb dX7_isSound_14 ?_
        refine zz_i (v := nI (i + 1)) (nI_add i 1) ?_
        obtain ⟨hPc, hDc, hFc, hI1⟩ := zi_sub (wc := [_, _, _]) hP hD hS hA [0, 1, 2] rfl rfl
        refine zcall (st1 := [.int (pI (eFr n X Y rg i (i + 1)))]) (va_runV (As := [.int (nI i), .int (nI (i + 1))]) (rest := []) ⟨hx, hb, hml, hown, hts⟩ (k_Row_isEdgeFree l dC dI cI cZ cF H.size r rx ry n cap X Y rg i (i + 1) (by first | with_reducible assumption | omega) (by first | with_reducible assumption | omega) (by first | with_reducible assumption | assumption) (by first | with_reducible assumption | omega) (by first | with_reducible assumption | omega)) (csV_10 hts rfl rfl ⟨Nat.le_of_ble_eq_true rfl, Nat.le_of_ble_eq_true rfl⟩) (zPV2 (q0 := 0) (ci := 6) hPc hDc hK hXN rfl rfl) rfl rfl hl.1 rfl (lv_room (Nat.le_of_ble_eq_true rfl)) dX7_isSound_15 ⟨Nat.le_of_ble_eq_true rfl, Nat.le_of_ble_eq_true rfl⟩) hS hFc hFc rfl (fun t H locs ht hB hk1 hS => ?_)
        obtain ⟨hP1, hD1⟩ := hB
        rw [ht] at hP1
        replace hP := z0 hP hD hk1 hP1 hI1
        clear hk1 hPc hDc hFc hP1 hD1 ht hI1
        refine lv_if_ne (tgt := 23) hx hb dX7_isSound_18 rfl (fun c_6 => ?_) (fun c_6 => ?_)
        · have c_6 : eFr n X Y rg i (i + 1) := zp_1 c_6
          refine lv_iinc (v := nI (i + 1)) (lv' := [(2, .int (nI (i + 1))), (0, .ref r), (1, .int kd)]) hx hb dX7_isSound_23 hl (k := 0) rfl (nI_add i 1) (Nat.le_of_ble_eq_true rfl) rfl (fun ls hl => ?_)
          refine lv_goto (tgt := 2) hx hb dX7_isSound_26 rfl ?_
          exact ih_2 (i + 1) H locs ls (by first | with_reducible assumption | omega) (by first | with_reducible assumption | omega) (by intro j hj; rcases Nat.lt_or_ge j i with h | h; exact hall j h; have e9 : j = i := (by first | with_reducible assumption | omega); subst e9; assumption) hP hD hS (lv_sub hl [0, 1, 2] rfl)
        · have c_6 : ¬ (eFr n X Y rg i (i + 1)) := zp_0 c_6
          refine lv_iconst (v := 0) hx hb dX7_isSound_21 rfl ?_
          obtain ⟨hP9, hD9⟩ := zu_sub (wc := [_, _, _]) hP hD [true, true, true] rfl rfl
          rw [hQ9]
          exact W.zret (ty := .boolean) (v := 0) hx hb hr (rfl) (fun t ht hW => ⟨⟨congrArg (fun z => Outcome.returned (some (Value.int z))) (show (0 : Int32) = pI ((∀ i, i < edg n rg → eFr n X Y rg i (i + 1)) ∧ (¬ kd.toInt = 6 ∨ ∀ k, k < n → eRt n X Y k)) from (zp_f (fun h => absurd (h.1 i (by omega)) (by first | with_reducible assumption | assumption))).symm), by rw [ht]; exact hP9, hD9⟩, hS.F ht⟩) hS.2.2 dX7_isSound_22
  exact hl_2 _ 0 s.heap [] ls (Nat.lt_succ_self _) (by first | with_reducible assumption | omega) (by intro j hj; omega) hP hD hS (lv_sub hl [0, 1, 2] rfl)
end
section
set_option maxHeartbeats 4000000 in
set_option maxRecDepth 100000 in
theorem k_Row_copyFrom (l : Launch) (dC : Nat → ClassId) (dI : Nat → Nat → Nat) (cI cZ cF : ClassId) (sz : Nat) (r : Nat) (rx : Nat) (ry : Nat) (n : Nat) (cap : Nat) (X : Nat → Int32) (Y : Nat → Int32) (rg : Int32) (u : Nat) (ux : Nat) (uy : Nat) (m2 : Nat) (cap2 : Nat) (U : Nat → Int32) (V : Nat → Int32) (rh : Int32) (hm : m2 ≤ cap) (hcap : cap ≤ 1000) (hm2 : m2 ≤ cap2) (hcap2 : cap2 ≤ 1000) (hrh : rh = 0 ∨ rh = 1) : zM l yX7_copyFrom cX7_copyFrom 3 none ({ frames := 1, cells := 0, slots := 0, locals := 22 } : Room) [.ref r, .ref u] (dC, dI) (zTy cI cZ cF) [(oc6 r (.ref rx) (.ref ry) (nI n) rg), (oa rx cI cap X), (oa ry cI cap Y), (oc6 u (.ref ux) (.ref uy) (nI m2) rh), (oa ux cI cap2 U), (oa uy cI cap2 V)] sz none (fun A t => ∃ (X1 : Nat → Int32), ∃ (Y1 : Nat → Int32), (∀ k, k < m2 → X1 k = U k ∧ Y1 k = V k) ∧ zPD (dC, dI) classes A [(oc6 r (.ref rx) (.ref ry) (nI m2) rh), (oa rx cI cap X1), (oa ry cI cap Y1), (oc6 u (.ref ux) (.ref uy) (nI m2) rh), (oa ux cI cap2 U), (oa uy cI cap2 V)] t.heap) 0 0 := by
  refine zIn (own := "ScaleShop$Row") (loc := [(0, .ref r), (1, .ref u)]) rfl rfl rfl rfl (fun p e s m below meth c hx hb hr hts hown hlocks hml hnm9 A hA hS hP hD hK hXN Q9 hQ9 ls hl => ?_)
  refine lv_aload_n hx hb dX7_copyFrom_0 rfl (lv_at hl 0 rfl) ?_
  refine lv_aload_n hx hb dX7_copyFrom_1 rfl (lv_at hl 1 rfl) ?_
  refine va_get (D := (dC, dI)) (ci := 6) (v := .int rh) (C := RX7) (T := TX7) (N := 4) hx hb hts inX7 hown hK hP 3 rfl rfl 3 (Nat.le_of_ble_eq_true rfl) (hts _ mw_183) (fun _ h9 => h9) rfl dX7_copyFrom_2 ?_
  obtain ⟨hPc, hDc, hFc⟩ := zo_sub (wc := [_, _, _]) hP hD hS hA [0, 1, 2] rfl rfl
  refine zcall (st1 := []) (va_runV (As := [.int rh]) (rest := []) ⟨hx, hb, hml, hown, hts⟩ (k_Row_clear l dC dI cI cZ cF s.heap.size r rx ry n cap X Y rg rh (by first | with_reducible assumption | assumption)) (csV_11 hts rfl rfl ⟨Nat.le_of_ble_eq_true rfl, Nat.le_of_ble_eq_true rfl⟩) (zPV2 (q0 := 0) (ci := 6) hPc hDc hK hXN rfl rfl) rfl rfl hl.1 rfl (lv_room (Nat.le_of_ble_eq_true rfl)) dX7_copyFrom_5 ⟨Nat.le_of_ble_eq_true rfl, Nat.le_of_ble_eq_true rfl⟩) hS hFc hFc rfl (fun t H locs ht hB hk1 hS => ?_)
  obtain ⟨hP1, hD1⟩ := hB
  rw [ht] at hP1
  obtain ⟨hP, hD⟩ := zn (W2 := [(oc6 r (.ref rx) (.ref ry) (nI 0) rh), _, _, _, _, _]) hP hD hk1 hFc hP1 hD1 [0, 1, 2] [false, false, false, true, true, true] [false, false, false, true, true, true] [0, 1, 2] (by decide +kernel) rfl rfl rfl rfl rfl
  clear hk1 hPc hDc hFc hP1 hD1 ht
  refine lv_iconst (v := 0) hx hb dX7_copyFrom_8 rfl ?_
  refine lv_istore_n (lv' := [(2, .int 0), (0, .ref r), (1, .ref u)]) hx hb dX7_copyFrom_9 rfl hl (Nat.le_of_ble_eq_true rfl) rfl (fun ls hl => ?_)
  have hl_10 : ∀ (n9 : Nat) (i : Nat) (X1 : Nat → Int32) (Y1 : Nat → Int32) (H : Heap) (locs : List Loc) (ls : Array Slot), m2 - i < n9 → (i ≤ m2) → (∀ k, k < i → X1 k = U k ∧ Y1 k = V k) → va_P (dC, dI) classes [(oc6 r (.ref rx) (.ref ry) (nI i) rh), (oa rx cI cap X1), (oa ry cI cap Y1), (oc6 u (.ref ux) (.ref uy) (nI m2) rh), (oa ux cI cap2 U), (oa uy cI cap2 V)] H → va_D A [(oc6 r (.ref rx) (.ref ry) (nI i) rh), (oa rx cI cap X1), (oa ry cI cap Y1), (oc6 u (.ref ux) (.ref uy) (nI m2) rh), (oa ux cI cap2 U), (oa uy cI cap2 V)] → va_S A s.heap H locs → lv_has ls 3 [(2, .int (nI i)), (0, .ref r), (1, .ref u)] → W p l e ({ frames := 1, cells := 0, slots := 0, locals := 22 } : Room) s m ([.ref r, .ref u] : List Value).toArray below meth c H locs 0 0 Q9 (F0 m 10 ls []) := by
    intro n9
    induction n9 with
    | zero => intro i X1 Y1 H locs ls hm; exact absurd hm (Nat.not_lt_zero _)
    | succ n9 ih_10 =>
      intro i X1 Y1 H locs ls hm hi hall hP hD hS hl
      refine lv_iload_n hx hb dX7_copyFrom_10 rfl (lv_at hl 0 rfl) ?_
      refine lv_aload_n hx hb dX7_copyFrom_11 rfl (lv_at hl 2 rfl) ?_
      refine va_get (D := (dC, dI)) (ci := 6) (v := .int (nI m2)) (C := RX7) (T := TX7) (N := 4) hx hb hts inX7 hown hK hP 3 rfl rfl 2 (Nat.le_of_ble_eq_true rfl) (hts _ mw_175) (fun _ h9 => h9) rfl dX7_copyFrom_12 ?_
      have b9_2 : zlt (i) := show i < 2147483648 by omega
      have b9_3 : zlt (m2) := show m2 < 2147483648 by omega
      refine lv_icmp_ge (tgt := 40) hx hb dX7_copyFrom_15 rfl (fun c_1 => ?_) (fun c_1 => ?_)
      · have c_1 : ((m2 : Nat) : Int) ≤ ((i : Nat) : Int) := zc_le (nI_toInt b9_3) (nI_toInt b9_2) c_1
        obtain ⟨hP9, hD9⟩ := zu_sub (wc := [(oc6 r (.ref rx) (.ref ry) (nI i) rh), (oa rx cI cap X1), (oa ry cI cap Y1), (oc6 u (.ref ux) (.ref uy) (nI m2) rh), (oa ux cI cap2 U), (oa uy cI cap2 V)]) hP hD [true, true, true, true, true, true] rfl rfl
        have hE9 : ([(oc6 r (.ref rx) (.ref ry) (nI i) rh), (oa rx cI cap X1), (oa ry cI cap Y1), (oc6 u (.ref ux) (.ref uy) (nI m2) rh), (oa ux cI cap2 U), (oa uy cI cap2 V)] : va_W) = [(oc6 r (.ref rx) (.ref ry) (nI m2) rh), (oa rx cI cap X1), (oa ry cI cap Y1), (oc6 u (.ref ux) (.ref uy) (nI m2) rh), (oa ux cI cap2 U), (oa uy cI cap2 V)] := by rw [show i = m2 by omega]
        rw [hE9] at hP9 hD9
        rw [hQ9]
        exact W.vret hx hb hr (fun t ht hW => ⟨⟨rfl, X1, Y1, (fun k hk => hall k (by omega)), by rw [ht]; exact hP9, hD9⟩, hS.F ht⟩) hS.2.2 dX7_copyFrom_40
      · have c_1 : ((i : Nat) : Int) < ((m2 : Nat) : Int) := zc_nle (nI_toInt b9_3) (nI_toInt b9_2) c_1
        refine lv_aload_n hx hb dX7_copyFrom_18 rfl (lv_at hl 1 rfl) ?_
        refine lv_aload_n hx hb dX7_copyFrom_19 rfl (lv_at hl 2 rfl) ?_
        refine va_get (D := (dC, dI)) (ci := 6) (v := .ref ux) (C := RX7) (T := TX7) (N := 4) hx hb hts inX7 hown hK hP 3 rfl rfl 0 (Nat.le_of_ble_eq_true rfl) (hts _ mw_161) (fun _ h9 => h9) rfl dX7_copyFrom_20 ?_
        refine lv_iload_n hx hb dX7_copyFrom_23 rfl (lv_at hl 0 rfl) ?_
        have b9_4 : i < cap2 := by omega
        have b9_5 : zlt (cap2) := show cap2 < 2147483648 by omega
        refine z_iald hx hb hK hP 4 0 rfl rfl (e := i) rfl b9_4 b9_5 dX7_copyFrom_24 ?_
        refine lv_aload_n hx hb dX7_copyFrom_25 rfl (lv_at hl 2 rfl) ?_
        refine va_get (D := (dC, dI)) (ci := 6) (v := .ref uy) (C := RX7) (T := TX7) (N := 4) hx hb hts inX7 hown hK hP 3 rfl rfl 1 (Nat.le_of_ble_eq_true rfl) (hts _ mw_168) (fun _ h9 => h9) rfl dX7_copyFrom_26 ?_
        refine lv_iload_n hx hb dX7_copyFrom_29 rfl (lv_at hl 0 rfl) ?_
        refine z_iald hx hb hK hP 5 0 rfl rfl (e := i) rfl b9_4 b9_5 dX7_copyFrom_30 ?_
        obtain ⟨hPc, hDc, hFc⟩ := zo_sub (wc := [_, _, _]) hP hD hS hA [0, 1, 2] rfl rfl
        refine zcall (st1 := []) (va_runV (As := [.int (U i), .int (V i)]) (rest := []) ⟨hx, hb, hml, hown, hts⟩ (k_Row_put l dC dI cI cZ cF H.size r rx ry i cap X1 Y1 rh (U i) (V i) (by first | with_reducible assumption | omega) (by first | with_reducible assumption | omega)) (csV_12 hts rfl rfl ⟨Nat.le_of_ble_eq_true rfl, Nat.le_of_ble_eq_true rfl⟩) (zPV2 (q0 := 0) (ci := 6) hPc hDc hK hXN rfl rfl) rfl rfl hl.1 rfl (lv_room (Nat.le_of_ble_eq_true rfl)) dX7_copyFrom_31 ⟨Nat.le_of_ble_eq_true rfl, Nat.le_of_ble_eq_true rfl⟩) hS hFc hFc rfl (fun t H locs ht hB hk1 hS => ?_)
        obtain ⟨hP1, hD1⟩ := hB
        rw [ht] at hP1
        obtain ⟨hP, hD⟩ := zn (W2 := [(oc6 r (.ref rx) (.ref ry) (nI (i + 1)) rh), (oa rx cI cap (upd X1 i (U i))), (oa ry cI cap (upd Y1 i (V i))), _, _, _]) hP hD hk1 hFc hP1 hD1 [0, 1, 2] [false, false, false, true, true, true] [false, false, false, true, true, true] [0, 1, 2] (by decide +kernel) rfl rfl rfl rfl rfl
        clear hk1 hPc hDc hFc hP1 hD1 ht
        refine lv_iinc (v := nI (i + 1)) (lv' := [(2, .int (nI (i + 1))), (0, .ref r), (1, .ref u)]) hx hb dX7_copyFrom_34 hl (k := 0) rfl (nI_add i 1) (Nat.le_of_ble_eq_true rfl) rfl (fun ls hl => ?_)
        refine lv_goto (tgt := 10) hx hb dX7_copyFrom_37 rfl ?_
        exact ih_10 (i + 1) (upd X1 i (U i)) (upd Y1 i (V i)) H locs ls (by first | with_reducible assumption | omega) (by first | with_reducible assumption | omega) (by intro k hk; rcases Nat.lt_or_ge k i with h | h; simp only [upd, if_neg (show k ≠ i by omega)]; exact hall k h; rw [show k = i by omega]; simp only [upd, if_true]; first | exact ⟨rfl, rfl⟩ | exact ⟨trivial, trivial⟩) hP hD hS (lv_sub hl [0, 1, 2] rfl)
  exact hl_10 _ 0 X Y H locs ls (Nat.lt_succ_self _) (by first | with_reducible assumption | omega) (by intro k hk; omega) hP hD hS (lv_sub hl [0, 1, 2] rfl)
set_option maxHeartbeats 4000000 in
set_option maxRecDepth 100000 in
theorem k_Row_doubleFrom (l : Launch) (dC : Nat → ClassId) (dI : Nat → Nat → Nat) (cI cZ cF : ClassId) (sz : Nat) (r : Nat) (rx : Nat) (ry : Nat) (n : Nat) (cap : Nat) (X : Nat → Int32) (Y : Nat → Int32) (rg : Int32) (u : Nat) (ux : Nat) (uy : Nat) (m2 : Nat) (cap2 : Nat) (U : Nat → Int32) (V : Nat → Int32) (rh : Int32) (hm : m2 ≤ cap) (hcap : cap ≤ 1000) (hm2 : m2 ≤ cap2) (hcap2 : cap2 ≤ 1000) (hrh : rh = 0 ∨ rh = 1) : zM l yX7_doubleFrom cX7_doubleFrom 3 none ({ frames := 1, cells := 0, slots := 0, locals := 22 } : Room) [.ref r, .ref u] (dC, dI) (zTy cI cZ cF) [(oc6 r (.ref rx) (.ref ry) (nI n) rg), (oa rx cI cap X), (oa ry cI cap Y), (oc6 u (.ref ux) (.ref uy) (nI m2) rh), (oa ux cI cap2 U), (oa uy cI cap2 V)] sz none (fun A t => ∃ (X1 : Nat → Int32), ∃ (Y1 : Nat → Int32), (∀ k, k < m2 → X1 k = 2 * U k - U 0 ∧ Y1 k = 2 * V k - V 0) ∧ zPD (dC, dI) classes A [(oc6 r (.ref rx) (.ref ry) (nI m2) rh), (oa rx cI cap X1), (oa ry cI cap Y1), (oc6 u (.ref ux) (.ref uy) (nI m2) rh), (oa ux cI cap2 U), (oa uy cI cap2 V)] t.heap) 0 0 := by
  refine zIn (own := "ScaleShop$Row") (loc := [(0, .ref r), (1, .ref u)]) rfl rfl rfl rfl (fun p e s m below meth c hx hb hr hts hown hlocks hml hnm9 A hA hS hP hD hK hXN Q9 hQ9 ls hl => ?_)
  refine lv_aload_n hx hb dX7_doubleFrom_0 rfl (lv_at hl 0 rfl) ?_
  refine lv_aload_n hx hb dX7_doubleFrom_1 rfl (lv_at hl 1 rfl) ?_
  refine va_get (D := (dC, dI)) (ci := 6) (v := .int rh) (C := RX7) (T := TX7) (N := 4) hx hb hts inX7 hown hK hP 3 rfl rfl 3 (Nat.le_of_ble_eq_true rfl) (hts _ mw_183) (fun _ h9 => h9) rfl dX7_doubleFrom_2 ?_
  obtain ⟨hPc, hDc, hFc⟩ := zo_sub (wc := [_, _, _]) hP hD hS hA [0, 1, 2] rfl rfl
  refine zcall (st1 := []) (va_runV (As := [.int rh]) (rest := []) ⟨hx, hb, hml, hown, hts⟩ (k_Row_clear l dC dI cI cZ cF s.heap.size r rx ry n cap X Y rg rh (by first | with_reducible assumption | assumption)) (csV_11 hts rfl rfl ⟨Nat.le_of_ble_eq_true rfl, Nat.le_of_ble_eq_true rfl⟩) (zPV2 (q0 := 0) (ci := 6) hPc hDc hK hXN rfl rfl) rfl rfl hl.1 rfl (lv_room (Nat.le_of_ble_eq_true rfl)) dX7_doubleFrom_5 ⟨Nat.le_of_ble_eq_true rfl, Nat.le_of_ble_eq_true rfl⟩) hS hFc hFc rfl (fun t H locs ht hB hk1 hS => ?_)
  obtain ⟨hP1, hD1⟩ := hB
  rw [ht] at hP1
  obtain ⟨hP, hD⟩ := zn (W2 := [(oc6 r (.ref rx) (.ref ry) (nI 0) rh), _, _, _, _, _]) hP hD hk1 hFc hP1 hD1 [0, 1, 2] [false, false, false, true, true, true] [false, false, false, true, true, true] [0, 1, 2] (by decide +kernel) rfl rfl rfl rfl rfl
  clear hk1 hPc hDc hFc hP1 hD1 ht
  refine lv_iconst (v := 0) hx hb dX7_doubleFrom_8 rfl ?_
  refine lv_istore_n (lv' := [(2, .int 0), (0, .ref r), (1, .ref u)]) hx hb dX7_doubleFrom_9 rfl hl (Nat.le_of_ble_eq_true rfl) rfl (fun ls hl => ?_)
  have hl_10 : ∀ (n9 : Nat) (i : Nat) (X1 : Nat → Int32) (Y1 : Nat → Int32) (H : Heap) (locs : List Loc) (ls : Array Slot), m2 - i < n9 → (i ≤ m2) → (∀ k, k < i → X1 k = 2 * U k - U 0 ∧ Y1 k = 2 * V k - V 0) → va_P (dC, dI) classes [(oc6 r (.ref rx) (.ref ry) (nI i) rh), (oa rx cI cap X1), (oa ry cI cap Y1), (oc6 u (.ref ux) (.ref uy) (nI m2) rh), (oa ux cI cap2 U), (oa uy cI cap2 V)] H → va_D A [(oc6 r (.ref rx) (.ref ry) (nI i) rh), (oa rx cI cap X1), (oa ry cI cap Y1), (oc6 u (.ref ux) (.ref uy) (nI m2) rh), (oa ux cI cap2 U), (oa uy cI cap2 V)] → va_S A s.heap H locs → lv_has ls 3 [(2, .int (nI i)), (0, .ref r), (1, .ref u)] → W p l e ({ frames := 1, cells := 0, slots := 0, locals := 22 } : Room) s m ([.ref r, .ref u] : List Value).toArray below meth c H locs 0 0 Q9 (F0 m 10 ls []) := by
    intro n9
    induction n9 with
    | zero => intro i X1 Y1 H locs ls hm; exact absurd hm (Nat.not_lt_zero _)
    | succ n9 ih_10 =>
      intro i X1 Y1 H locs ls hm hi hall hP hD hS hl
      refine lv_iload_n hx hb dX7_doubleFrom_10 rfl (lv_at hl 0 rfl) ?_
      refine lv_aload_n hx hb dX7_doubleFrom_11 rfl (lv_at hl 2 rfl) ?_
      refine va_get (D := (dC, dI)) (ci := 6) (v := .int (nI m2)) (C := RX7) (T := TX7) (N := 4) hx hb hts inX7 hown hK hP 3 rfl rfl 2 (Nat.le_of_ble_eq_true rfl) (hts _ mw_175) (fun _ h9 => h9) rfl dX7_doubleFrom_12 ?_
      have b9_2 : zlt (i) := show i < 2147483648 by omega
      have b9_3 : zlt (m2) := show m2 < 2147483648 by omega
      refine lv_icmp_ge (tgt := 58) hx hb dX7_doubleFrom_15 rfl (fun c_1 => ?_) (fun c_1 => ?_)
      · have c_1 : ((m2 : Nat) : Int) ≤ ((i : Nat) : Int) := zc_le (nI_toInt b9_3) (nI_toInt b9_2) c_1
        obtain ⟨hP9, hD9⟩ := zu_sub (wc := [(oc6 r (.ref rx) (.ref ry) (nI i) rh), (oa rx cI cap X1), (oa ry cI cap Y1), (oc6 u (.ref ux) (.ref uy) (nI m2) rh), (oa ux cI cap2 U), (oa uy cI cap2 V)]) hP hD [true, true, true, true, true, true] rfl rfl
        have hE9 : ([(oc6 r (.ref rx) (.ref ry) (nI i) rh), (oa rx cI cap X1), (oa ry cI cap Y1), (oc6 u (.ref ux) (.ref uy) (nI m2) rh), (oa ux cI cap2 U), (oa uy cI cap2 V)] : va_W) = [(oc6 r (.ref rx) (.ref ry) (nI m2) rh), (oa rx cI cap X1), (oa ry cI cap Y1), (oc6 u (.ref ux) (.ref uy) (nI m2) rh), (oa ux cI cap2 U), (oa uy cI cap2 V)] := by rw [show i = m2 by omega]
        rw [hE9] at hP9 hD9
        rw [hQ9]
        exact W.vret hx hb hr (fun t ht hW => ⟨⟨rfl, X1, Y1, (fun k hk => hall k (by omega)), by rw [ht]; exact hP9, hD9⟩, hS.F ht⟩) hS.2.2 dX7_doubleFrom_58
      · have c_1 : ((i : Nat) : Int) < ((m2 : Nat) : Int) := zc_nle (nI_toInt b9_3) (nI_toInt b9_2) c_1
        refine lv_aload_n hx hb dX7_doubleFrom_18 rfl (lv_at hl 1 rfl) ?_
        refine lv_iconst (v := 2) hx hb dX7_doubleFrom_19 rfl ?_
        refine lv_aload_n hx hb dX7_doubleFrom_20 rfl (lv_at hl 2 rfl) ?_
        refine va_get (D := (dC, dI)) (ci := 6) (v := .ref ux) (C := RX7) (T := TX7) (N := 4) hx hb hts inX7 hown hK hP 3 rfl rfl 0 (Nat.le_of_ble_eq_true rfl) (hts _ mw_161) (fun _ h9 => h9) rfl dX7_doubleFrom_21 ?_
        refine lv_iload_n hx hb dX7_doubleFrom_24 rfl (lv_at hl 0 rfl) ?_
        have b9_4 : i < cap2 := by omega
        have b9_5 : zlt (cap2) := show cap2 < 2147483648 by omega
        refine z_iald hx hb hK hP 4 0 rfl rfl (e := i) rfl b9_4 b9_5 dX7_doubleFrom_25 ?_
        refine lv_imul hx hb dX7_doubleFrom_26 ?_
        refine lv_aload_n hx hb dX7_doubleFrom_27 rfl (lv_at hl 2 rfl) ?_
        refine va_get (D := (dC, dI)) (ci := 6) (v := .ref ux) (C := RX7) (T := TX7) (N := 4) hx hb hts inX7 hown hK hP 3 rfl rfl 0 (Nat.le_of_ble_eq_true rfl) (hts _ mw_161) (fun _ h9 => h9) rfl dX7_doubleFrom_28 ?_
        refine lv_iconst (v := 0) hx hb dX7_doubleFrom_31 rfl ?_
        have b9_6 : 0 < cap2 := by omega
        refine z_iald hx hb hK hP 4 0 rfl rfl (e := 0) rfl b9_6 b9_5 dX7_doubleFrom_32 ?_
        refine lv_isub hx hb dX7_doubleFrom_33 ?_
        refine lv_iconst (v := 2) hx hb dX7_doubleFrom_34 rfl ?_
        refine lv_aload_n hx hb dX7_doubleFrom_35 rfl (lv_at hl 2 rfl) ?_
        refine va_get (D := (dC, dI)) (ci := 6) (v := .ref uy) (C := RX7) (T := TX7) (N := 4) hx hb hts inX7 hown hK hP 3 rfl rfl 1 (Nat.le_of_ble_eq_true rfl) (hts _ mw_168) (fun _ h9 => h9) rfl dX7_doubleFrom_36 ?_
        refine lv_iload_n hx hb dX7_doubleFrom_39 rfl (lv_at hl 0 rfl) ?_
        refine z_iald hx hb hK hP 5 0 rfl rfl (e := i) rfl b9_4 b9_5 dX7_doubleFrom_40 ?_
        refine lv_imul hx hb dX7_doubleFrom_41 ?_
        refine lv_aload_n hx hb dX7_doubleFrom_42 rfl (lv_at hl 2 rfl) ?_
        refine va_get (D := (dC, dI)) (ci := 6) (v := .ref uy) (C := RX7) (T := TX7) (N := 4) hx hb hts inX7 hown hK hP 3 rfl rfl 1 (Nat.le_of_ble_eq_true rfl) (hts _ mw_168) (fun _ h9 => h9) rfl dX7_doubleFrom_43 ?_
        refine lv_iconst (v := 0) hx hb dX7_doubleFrom_46 rfl ?_
        refine z_iald hx hb hK hP 5 0 rfl rfl (e := 0) rfl b9_6 b9_5 dX7_doubleFrom_47 ?_
        refine lv_isub hx hb dX7_doubleFrom_48 ?_
        obtain ⟨hPc, hDc, hFc⟩ := zo_sub (wc := [_, _, _]) hP hD hS hA [0, 1, 2] rfl rfl
        refine zcall (st1 := []) (va_runV (As := [.int ((2 * (U i)) - (U 0)), .int ((2 * (V i)) - (V 0))]) (rest := []) ⟨hx, hb, hml, hown, hts⟩ (k_Row_put l dC dI cI cZ cF H.size r rx ry i cap X1 Y1 rh ((2 * (U i)) - (U 0)) ((2 * (V i)) - (V 0)) (by first | with_reducible assumption | omega) (by first | with_reducible assumption | omega)) (csV_12 hts rfl rfl ⟨Nat.le_of_ble_eq_true rfl, Nat.le_of_ble_eq_true rfl⟩) (zPV2 (q0 := 0) (ci := 6) hPc hDc hK hXN rfl rfl) rfl rfl hl.1 rfl (lv_room (Nat.le_of_ble_eq_true rfl)) dX7_doubleFrom_49 ⟨Nat.le_of_ble_eq_true rfl, Nat.le_of_ble_eq_true rfl⟩) hS hFc hFc rfl (fun t H locs ht hB hk1 hS => ?_)
        obtain ⟨hP1, hD1⟩ := hB
        rw [ht] at hP1
        obtain ⟨hP, hD⟩ := zn (W2 := [(oc6 r (.ref rx) (.ref ry) (nI (i + 1)) rh), (oa rx cI cap (upd X1 i ((2 * (U i)) - (U 0)))), (oa ry cI cap (upd Y1 i ((2 * (V i)) - (V 0)))), _, _, _]) hP hD hk1 hFc hP1 hD1 [0, 1, 2] [false, false, false, true, true, true] [false, false, false, true, true, true] [0, 1, 2] (by decide +kernel) rfl rfl rfl rfl rfl
        clear hk1 hPc hDc hFc hP1 hD1 ht
        refine lv_iinc (v := nI (i + 1)) (lv' := [(2, .int (nI (i + 1))), (0, .ref r), (1, .ref u)]) hx hb dX7_doubleFrom_52 hl (k := 0) rfl (nI_add i 1) (Nat.le_of_ble_eq_true rfl) rfl (fun ls hl => ?_)
        refine lv_goto (tgt := 10) hx hb dX7_doubleFrom_55 rfl ?_
        exact ih_10 (i + 1) (upd X1 i ((2 * (U i)) - (U 0))) (upd Y1 i ((2 * (V i)) - (V 0))) H locs ls (by first | with_reducible assumption | omega) (by first | with_reducible assumption | omega) (by intro k hk; rcases Nat.lt_or_ge k i with h | h; simp only [upd, if_neg (show k ≠ i by omega)]; exact hall k h; rw [show k = i by omega]; simp only [upd, if_true]; first | exact ⟨rfl, rfl⟩ | exact ⟨trivial, trivial⟩) hP hD hS (lv_sub hl [0, 1, 2] rfl)
  exact hl_10 _ 0 X Y H locs ls (Nat.lt_succ_self _) (by first | with_reducible assumption | omega) (by intro k hk; omega) hP hD hS (lv_sub hl [0, 1, 2] rfl)
set_option maxHeartbeats 4000000 in
set_option maxRecDepth 100000 in
theorem k_Row_carry (l : Launch) (dC : Nat → ClassId) (dI : Nat → Nat → Nat) (cI cZ cF : ClassId) (sz : Nat) (r : Nat) (rx : Nat) (ry : Nat) (n : Nat) (cap : Nat) (X : Nat → Int32) (Y : Nat → Int32) (rg : Int32) (dx : Int32) (dy : Int32) (hn : n ≤ cap) (hcap : cap ≤ 1000) : zM l yX7_carry cX7_carry 4 none ({ frames := 0, cells := 0, slots := 0, locals := 0 } : Room) [.ref r, .int dx, .int dy] (dC, dI) (zTy cI cZ cF) [(oc6 r (.ref rx) (.ref ry) (nI n) rg), (oa rx cI cap X), (oa ry cI cap Y)] sz none (fun A t => ∃ (X1 : Nat → Int32), ∃ (Y1 : Nat → Int32), (∀ k, k < n → X1 k = X k + dx ∧ Y1 k = Y k + dy) ∧ zPD (dC, dI) classes A [(oc6 r (.ref rx) (.ref ry) (nI n) rg), (oa rx cI cap X1), (oa ry cI cap Y1)] t.heap) 0 0 := by
  refine zIn (own := "ScaleShop$Row") (loc := [(0, .ref r), (1, .int dx), (2, .int dy)]) rfl rfl rfl rfl (fun p e s m below meth c hx hb hr hts hown hlocks hml hnm9 A hA hS hP hD hK hXN Q9 hQ9 ls hl => ?_)
  refine lv_iconst (v := 0) hx hb dX7_carry_0 rfl ?_
  refine lv_istore_n (lv' := [(3, .int 0), (0, .ref r), (1, .int dx), (2, .int dy)]) hx hb dX7_carry_1 rfl hl (Nat.le_of_ble_eq_true rfl) rfl (fun ls hl => ?_)
  have hl_2 : ∀ (n9 : Nat) (i : Nat) (X1 : Nat → Int32) (Y1 : Nat → Int32) (H : Heap) (locs : List Loc) (ls : Array Slot), n - i < n9 → (i ≤ n) → (∀ k, k < i → X1 k = X k + dx ∧ Y1 k = Y k + dy) → (∀ k, i ≤ k → X1 k = X k ∧ Y1 k = Y k) → va_P (dC, dI) classes [(oc6 r (.ref rx) (.ref ry) (nI n) rg), (oa rx cI cap X1), (oa ry cI cap Y1)] H → va_D A [(oc6 r (.ref rx) (.ref ry) (nI n) rg), (oa rx cI cap X1), (oa ry cI cap Y1)] → va_S A s.heap H locs → lv_has ls 4 [(3, .int (nI i)), (0, .ref r), (1, .int dx), (2, .int dy)] → W p l e ({ frames := 0, cells := 0, slots := 0, locals := 0 } : Room) s m ([.ref r, .int dx, .int dy] : List Value).toArray below meth c H locs 0 0 Q9 (F0 m 2 ls []) := by
    intro n9
    induction n9 with
    | zero => intro i X1 Y1 H locs ls hm; exact absurd hm (Nat.not_lt_zero _)
    | succ n9 ih_2 =>
      intro i X1 Y1 H locs ls hm hi hall hrst hP hD hS hl
      refine lv_iload_n hx hb dX7_carry_2 rfl (lv_at hl 0 rfl) ?_
      refine lv_aload_n hx hb dX7_carry_3 rfl (lv_at hl 1 rfl) ?_
      refine va_get (D := (dC, dI)) (ci := 6) (v := .int (nI n)) (C := RX7) (T := TX7) (N := 4) hx hb hts inX7 hown hK hP 0 rfl rfl 2 (Nat.le_of_ble_eq_true rfl) (hts _ mw_175) (fun _ h9 => h9) rfl dX7_carry_4 ?_
      have b9_2 : zlt (i) := show i < 2147483648 by omega
      have b9_3 : zlt (n) := show n < 2147483648 by omega
      refine lv_icmp_ge (tgt := 36) hx hb dX7_carry_7 rfl (fun c_1 => ?_) (fun c_1 => ?_)
      · have c_1 : ((n : Nat) : Int) ≤ ((i : Nat) : Int) := zc_le (nI_toInt b9_3) (nI_toInt b9_2) c_1
        obtain ⟨hP9, hD9⟩ := zu_sub (wc := [_, _, _]) hP hD [true, true, true] rfl rfl
        rw [hQ9]
        exact W.vret hx hb hr (fun t ht hW => ⟨⟨rfl, X1, Y1, (fun k hk => hall k (by omega)), by rw [ht]; exact hP9, hD9⟩, hS.F ht⟩) hS.2.2 dX7_carry_36
      · have c_1 : ((i : Nat) : Int) < ((n : Nat) : Int) := zc_nle (nI_toInt b9_3) (nI_toInt b9_2) c_1
        refine lv_aload_n hx hb dX7_carry_10 rfl (lv_at hl 1 rfl) ?_
        refine va_get (D := (dC, dI)) (ci := 6) (v := .ref rx) (C := RX7) (T := TX7) (N := 4) hx hb hts inX7 hown hK hP 0 rfl rfl 0 (Nat.le_of_ble_eq_true rfl) (hts _ mw_161) (fun _ h9 => h9) rfl dX7_carry_11 ?_
        refine lv_iload_n hx hb dX7_carry_14 rfl (lv_at hl 0 rfl) ?_
        refine lv_dup2_11 hx hb dX7_carry_15 rfl rfl ?_
        have b9_4 : i < cap := by omega
        have b9_5 : zlt (cap) := show cap < 2147483648 by omega
        refine z_iald hx hb hK hP 1 0 rfl rfl (e := i) rfl b9_4 b9_5 dX7_carry_16 ?_
        refine lv_iload_n hx hb dX7_carry_17 rfl (lv_at hl 2 rfl) ?_
        refine lv_iadd hx hb dX7_carry_18 ?_
        refine z_iast hx hb hK hP hD hS 1 0 rfl rfl (e := i) (x := (X1 i) + dx) rfl b9_4 b9_5 dX7_carry_19 (fun H locs hP hD hS => ?_)
        obtain ⟨hP, hD⟩ := zre (W2 := [_, (oa rx cI cap (upd X1 i ((X1 i) + dx))), _]) hP hD rfl
        refine lv_aload_n hx hb dX7_carry_20 rfl (lv_at hl 1 rfl) ?_
        refine va_get (D := (dC, dI)) (ci := 6) (v := .ref ry) (C := RX7) (T := TX7) (N := 4) hx hb hts inX7 hown hK hP 0 rfl rfl 1 (Nat.le_of_ble_eq_true rfl) (hts _ mw_168) (fun _ h9 => h9) rfl dX7_carry_21 ?_
        refine lv_iload_n hx hb dX7_carry_24 rfl (lv_at hl 0 rfl) ?_
        refine lv_dup2_11 hx hb dX7_carry_25 rfl rfl ?_
        refine z_iald hx hb hK hP 2 0 rfl rfl (e := i) rfl b9_4 b9_5 dX7_carry_26 ?_
        refine lv_iload_n hx hb dX7_carry_27 rfl (lv_at hl 3 rfl) ?_
        refine lv_iadd hx hb dX7_carry_28 ?_
        refine z_iast hx hb hK hP hD hS 2 0 rfl rfl (e := i) (x := (Y1 i) + dy) rfl b9_4 b9_5 dX7_carry_29 (fun H locs hP hD hS => ?_)
        obtain ⟨hP, hD⟩ := zre (W2 := [_, _, (oa ry cI cap (upd Y1 i ((Y1 i) + dy)))]) hP hD rfl
        refine lv_iinc (v := nI (i + 1)) (lv' := [(3, .int (nI (i + 1))), (0, .ref r), (1, .int dx), (2, .int dy)]) hx hb dX7_carry_30 hl (k := 0) rfl (nI_add i 1) (Nat.le_of_ble_eq_true rfl) rfl (fun ls hl => ?_)
        refine lv_goto (tgt := 2) hx hb dX7_carry_33 rfl ?_
        exact ih_2 (i + 1) (upd X1 i ((X1 i) + dx)) (upd Y1 i ((Y1 i) + dy)) H locs ls (by first | with_reducible assumption | omega) (by first | with_reducible assumption | omega) (by intro k hk; rcases Nat.lt_or_ge k i with h | h; simp only [upd, if_neg (show k ≠ i by omega)]; exact hall k h; have e9 : k = i := (by first | with_reducible assumption | omega); subst e9; simp only [upd, if_true]; rw [(hrst k (by first | with_reducible assumption | omega)).1, (hrst k (by first | with_reducible assumption | omega)).2]; exact ⟨rfl, rfl⟩) (by intro k hk; simp only [upd, if_neg (show k ≠ i by omega)]; exact hrst k (by first | with_reducible assumption | omega)) hP hD hS (lv_sub hl [0, 1, 2, 3] rfl)
  exact hl_2 _ 0 X Y s.heap [] ls (Nat.lt_succ_self _) (by first | with_reducible assumption | omega) (by intro k hk; omega) (by intro k hk; exact ⟨rfl, rfl⟩) hP hD hS (lv_sub hl [0, 1, 2, 3] rfl)
set_option maxHeartbeats 4000000 in
set_option maxRecDepth 100000 in
theorem k_Row_cut (l : Launch) (dC : Nat → ClassId) (dI : Nat → Nat → Nat) (cI cZ cF : ClassId) (sz : Nat) (r : Nat) (rx : Nat) (ry : Nat) (n : Nat) (cap : Nat) (X : Nat → Int32) (Y : Nat → Int32) (rg : Int32) (k : Nat) (hn : n ≤ cap) (hcap : cap ≤ 1000) (hk : k < n) : zM l yX7_cut cX7_cut 3 none ({ frames := 1, cells := 0, slots := 0, locals := 14 } : Room) [.ref r, .int (nI k)] (dC, dI) (zTy cI cZ cF) [(oc6 r (.ref rx) (.ref ry) (nI n) rg), (oa rx cI cap X), (oa ry cI cap Y)] sz none (fun A t => ∃ (X1 : Nat → Int32), ∃ (Y1 : Nat → Int32), (∀ j, j < k → X1 j = X j ∧ Y1 j = Y j) ∧ (∀ j, k ≤ j → j < n - 1 → X1 j = X (j + 1) ∧ Y1 j = Y (j + 1)) ∧ zPD (dC, dI) classes A [(oc6 r (.ref rx) (.ref ry) (nI (n - 1)) rg), (oa rx cI cap X1), (oa ry cI cap Y1)] t.heap) 0 0 := by
  refine zIn (own := "ScaleShop$Row") (loc := [(0, .ref r), (1, .int (nI k))]) rfl rfl rfl rfl (fun p e s m below meth c hx hb hr hts hown hlocks hml hnm9 A hA hS hP hD hK hXN Q9 hQ9 ls hl => ?_)
  refine lv_iload_n hx hb dX7_cut_0 rfl (lv_at hl 1 rfl) ?_
  refine lv_iconst (v := 0) hx hb dX7_cut_1 rfl ?_
  refine va_mmax hx hb (by rw [hml]; exact hl.1.symm) hown (hts _ mw_158) (hts _ mw_159) (hts _ mw_103) (hts _ mw_maxcode) (Nat.le_of_ble_eq_true rfl) (Nat.le_of_ble_eq_true rfl) (Nat.le_of_ble_eq_true rfl) (Nat.le_of_ble_eq_true rfl) dX7_cut_2 ?_
  have b9_1 : zlt (k) := show k < 2147483648 by omega
  refine lv_topi (fun v_2 ev_2 => ?_)
  have hv_2 : v_2.toInt = max ((k : Nat) : Int) 0 := zmax (nI_toInt b9_1) (by decide) ev_2
  refine zz_i (v := nI k) (Int32.toInt_inj.mp (by rw [hv_2, nI_toInt (by omega)]; omega)) ?_
  refine lv_istore_n (lv' := [(2, .int (nI k)), (0, .ref r), (1, .int (nI k))]) hx hb dX7_cut_5 rfl hl (Nat.le_of_ble_eq_true rfl) rfl (fun ls hl => ?_)
  have hl_6 : ∀ (n9 : Nat) (i : Nat) (X1 : Nat → Int32) (Y1 : Nat → Int32) (H : Heap) (locs : List Loc) (ls : Array Slot), n - i < n9 → (i ≤ n) → (k ≤ i) → (∀ j, j < k → X1 j = X j ∧ Y1 j = Y j) → (∀ j, k ≤ j → j < i → X1 j = X (j + 1) ∧ Y1 j = Y (j + 1)) → (∀ j, i ≤ j → X1 j = X j ∧ Y1 j = Y j) → va_P (dC, dI) classes [(oc6 r (.ref rx) (.ref ry) (nI n) rg), (oa rx cI cap X1), (oa ry cI cap Y1)] H → va_D A [(oc6 r (.ref rx) (.ref ry) (nI n) rg), (oa rx cI cap X1), (oa ry cI cap Y1)] → va_S A s.heap H locs → lv_has ls 3 [(2, .int (nI i)), (0, .ref r), (1, .int (nI k))] → W p l e ({ frames := 1, cells := 0, slots := 0, locals := 14 } : Room) s m ([.ref r, .int (nI k)] : List Value).toArray below meth c H locs 0 0 Q9 (F0 m 6 ls []) := by
    intro n9
    induction n9 with
    | zero => intro i X1 Y1 H locs ls hm; exact absurd hm (Nat.not_lt_zero _)
    | succ n9 ih_6 =>
      intro i X1 Y1 H locs ls hm hi hki hlo hhi hrst hP hD hS hl
      refine lv_iload_n hx hb dX7_cut_6 rfl (lv_at hl 0 rfl) ?_
      refine lv_aload_n hx hb dX7_cut_7 rfl (lv_at hl 1 rfl) ?_
      refine va_get (D := (dC, dI)) (ci := 6) (v := .int (nI n)) (C := RX7) (T := TX7) (N := 4) hx hb hts inX7 hown hK hP 0 rfl rfl 2 (Nat.le_of_ble_eq_true rfl) (hts _ mw_175) (fun _ h9 => h9) rfl dX7_cut_8 ?_
      refine lv_iconst (v := 1) hx hb dX7_cut_11 rfl ?_
      refine lv_isub hx hb dX7_cut_12 ?_
      refine zz_i (v := nI (n - 1)) (pk_sub (a := n) (b := 1) (by omega)) ?_
      have b9_4 : zlt (i) := show i < 2147483648 by omega
      have b9_5 : zlt ((n - 1)) := show (n - 1) < 2147483648 by omega
      refine lv_icmp_ge (tgt := 50) hx hb dX7_cut_13 rfl (fun c_3 => ?_) (fun c_3 => ?_)
      · have c_3 : ((n - 1 : Nat) : Int) ≤ ((i : Nat) : Int) := zc_le (nI_toInt b9_5) (nI_toInt b9_4) c_3
        refine lv_aload_n hx hb dX7_cut_50 rfl (lv_at hl 1 rfl) ?_
        refine lv_aload_n hx hb dX7_cut_51 rfl (lv_at hl 1 rfl) ?_
        refine va_get (D := (dC, dI)) (ci := 6) (v := .int (nI n)) (C := RX7) (T := TX7) (N := 4) hx hb hts inX7 hown hK hP 0 rfl rfl 2 (Nat.le_of_ble_eq_true rfl) (hts _ mw_175) (fun _ h9 => h9) rfl dX7_cut_52 ?_
        refine lv_iconst (v := 1) hx hb dX7_cut_55 rfl ?_
        refine lv_isub hx hb dX7_cut_56 ?_
        refine zz_i (v := nI (n - 1)) (pk_sub (a := n) (b := 1) (by omega)) ?_
        refine lv_iconst (v := 0) hx hb dX7_cut_57 rfl ?_
        refine va_mmax hx hb (by rw [hml]; exact hl.1.symm) hown (hts _ mw_158) (hts _ mw_159) (hts _ mw_103) (hts _ mw_maxcode) (Nat.le_of_ble_eq_true rfl) (Nat.le_of_ble_eq_true rfl) (Nat.le_of_ble_eq_true rfl) (Nat.le_of_ble_eq_true rfl) dX7_cut_58 ?_
        refine lv_topi (fun v_6 ev_6 => ?_)
        have hv_6 : v_6.toInt = max ((n - 1 : Nat) : Int) 0 := zmax (nI_toInt b9_5) (by decide) ev_6
        refine zz_i (v := nI (n - 1)) (Int32.toInt_inj.mp (by rw [hv_6, nI_toInt (by omega)]; omega)) ?_
        refine va_put (D := (dC, dI)) (ci := 6) (v := .int (nI (n - 1))) (ty := .int) (C := RX7) (T := TX7) (N := 4) hx hb hts inX7 tyX7 tyX7_ok nmX7 hown hK hP hD hS 0 rfl rfl 2 (by decide) (hts _ mw_175) (fun _ h9 => h9) rfl (by decide +kernel) rfl rfl (Nat.le_of_ble_eq_true rfl) dX7_cut_61 (fun H locs hP hD hS => ?_)
        obtain ⟨hP, hD⟩ := zre (W2 := [(oc6 r (.ref rx) (.ref ry) (nI (n - 1)) rg), _, _]) hP hD rfl
        obtain ⟨hP9, hD9⟩ := zu_sub (wc := [_, _, _]) hP hD [true, true, true] rfl rfl
        rw [hQ9]
        exact W.vret hx hb hr (fun t ht hW => ⟨⟨rfl, X1, Y1, (hlo), (fun j h1 h2 => hhi j h1 (by omega)), by rw [ht]; exact hP9, hD9⟩, hS.F ht⟩) hS.2.2 dX7_cut_64
      · have c_3 : ((i : Nat) : Int) < ((n - 1 : Nat) : Int) := zc_nle (nI_toInt b9_5) (nI_toInt b9_4) c_3
        refine lv_aload_n hx hb dX7_cut_16 rfl (lv_at hl 1 rfl) ?_
        refine va_get (D := (dC, dI)) (ci := 6) (v := .ref rx) (C := RX7) (T := TX7) (N := 4) hx hb hts inX7 hown hK hP 0 rfl rfl 0 (Nat.le_of_ble_eq_true rfl) (hts _ mw_161) (fun _ h9 => h9) rfl dX7_cut_17 ?_
        refine lv_iload_n hx hb dX7_cut_20 rfl (lv_at hl 0 rfl) ?_
        refine lv_aload_n hx hb dX7_cut_21 rfl (lv_at hl 1 rfl) ?_
        refine va_get (D := (dC, dI)) (ci := 6) (v := .ref rx) (C := RX7) (T := TX7) (N := 4) hx hb hts inX7 hown hK hP 0 rfl rfl 0 (Nat.le_of_ble_eq_true rfl) (hts _ mw_161) (fun _ h9 => h9) rfl dX7_cut_22 ?_
        refine lv_iload_n hx hb dX7_cut_25 rfl (lv_at hl 0 rfl) ?_
        refine lv_iconst (v := 1) hx hb dX7_cut_26 rfl ?_
        refine lv_iadd hx hb dX7_cut_27 ?_
        refine zz_i (v := nI (i + 1)) (nI_add i 1) ?_
        have b9_7 : i + 1 < cap := by omega
        have b9_8 : zlt (cap) := show cap < 2147483648 by omega
        refine z_iald hx hb hK hP 1 0 rfl rfl (e := i + 1) rfl b9_7 b9_8 dX7_cut_28 ?_
        have b9_9 : i < cap := by omega
        refine z_iast hx hb hK hP hD hS 1 0 rfl rfl (e := i) (x := X1 (i + 1)) rfl b9_9 b9_8 dX7_cut_29 (fun H locs hP hD hS => ?_)
        obtain ⟨hP, hD⟩ := zre (W2 := [_, (oa rx cI cap (upd X1 i (X1 (i + 1)))), _]) hP hD rfl
        refine lv_aload_n hx hb dX7_cut_30 rfl (lv_at hl 1 rfl) ?_
        refine va_get (D := (dC, dI)) (ci := 6) (v := .ref ry) (C := RX7) (T := TX7) (N := 4) hx hb hts inX7 hown hK hP 0 rfl rfl 1 (Nat.le_of_ble_eq_true rfl) (hts _ mw_168) (fun _ h9 => h9) rfl dX7_cut_31 ?_
        refine lv_iload_n hx hb dX7_cut_34 rfl (lv_at hl 0 rfl) ?_
        refine lv_aload_n hx hb dX7_cut_35 rfl (lv_at hl 1 rfl) ?_
        refine va_get (D := (dC, dI)) (ci := 6) (v := .ref ry) (C := RX7) (T := TX7) (N := 4) hx hb hts inX7 hown hK hP 0 rfl rfl 1 (Nat.le_of_ble_eq_true rfl) (hts _ mw_168) (fun _ h9 => h9) rfl dX7_cut_36 ?_
        refine lv_iload_n hx hb dX7_cut_39 rfl (lv_at hl 0 rfl) ?_
        refine lv_iconst (v := 1) hx hb dX7_cut_40 rfl ?_
        refine lv_iadd hx hb dX7_cut_41 ?_
        refine zz_i (v := nI (i + 1)) (nI_add i 1) ?_
        refine z_iald hx hb hK hP 2 0 rfl rfl (e := i + 1) rfl b9_7 b9_8 dX7_cut_42 ?_
        refine z_iast hx hb hK hP hD hS 2 0 rfl rfl (e := i) (x := Y1 (i + 1)) rfl b9_9 b9_8 dX7_cut_43 (fun H locs hP hD hS => ?_)
        obtain ⟨hP, hD⟩ := zre (W2 := [_, _, (oa ry cI cap (upd Y1 i (Y1 (i + 1))))]) hP hD rfl
        refine lv_iinc (v := nI (i + 1)) (lv' := [(2, .int (nI (i + 1))), (0, .ref r), (1, .int (nI k))]) hx hb dX7_cut_44 hl (k := 0) rfl (nI_add i 1) (Nat.le_of_ble_eq_true rfl) rfl (fun ls hl => ?_)
        refine lv_goto (tgt := 6) hx hb dX7_cut_47 rfl ?_
        exact ih_6 (i + 1) (upd X1 i (X1 (i + 1))) (upd Y1 i (Y1 (i + 1))) H locs ls (by first | with_reducible assumption | omega) (by first | with_reducible assumption | omega) (by first | with_reducible assumption | omega) (by intro j hj; simp only [upd, if_neg (show j ≠ i by omega)]; exact hlo j hj) (by intro j h1 h2; rcases Nat.lt_or_ge j i with h | h; simp only [upd, if_neg (show j ≠ i by omega)]; exact hhi j h1 h; have e9 : j = i := (by first | with_reducible assumption | omega); subst e9; simp only [upd, if_true]; exact hrst (j + 1) (by first | with_reducible assumption | omega)) (by intro j hj; simp only [upd, if_neg (show j ≠ i by omega)]; exact hrst j (by first | with_reducible assumption | omega)) hP hD hS (lv_sub hl [0, 1, 2] rfl)
  exact hl_6 _ k X Y s.heap [] ls (Nat.lt_succ_self _) (by first | with_reducible assumption | omega) (by first | with_reducible assumption | omega) (by intro j hj; exact ⟨rfl, rfl⟩) (by intro j h1 h2; omega) (by intro j hj; exact ⟨rfl, rfl⟩) hP hD hS (lv_sub hl [0, 1, 2] rfl)
end
section
set_option maxHeartbeats 4000000 in
set_option maxRecDepth 100000 in
theorem k_Row_smoothFrom (l : Launch) (dC : Nat → ClassId) (dI : Nat → Nat → Nat) (cI cZ cF : ClassId) (sz : Nat) (r : Nat) (rx : Nat) (ry : Nat) (n : Nat) (cap : Nat) (X : Nat → Int32) (Y : Nat → Int32) (rg : Int32) (u : Nat) (ux : Nat) (uy : Nat) (m2 : Nat) (cap2 : Nat) (U : Nat → Int32) (V : Nat → Int32) (rh : Int32) (hm : m2 ≤ cap) (hcap : cap ≤ 1000) (hm2 : m2 ≤ cap2) (hcap2 : cap2 ≤ 1000) (hrh : rh = 0 ∨ rh = 1) : zM l yX7_smoothFrom cX7_smoothFrom 5 none ({ frames := 1, cells := 0, slots := 0, locals := 22 } : Room) [.ref r, .ref u] (dC, dI) (zTy cI cZ cF) [(oc6 r (.ref rx) (.ref ry) (nI n) rg), (oa rx cI cap X), (oa ry cI cap Y), (oc6 u (.ref ux) (.ref uy) (nI m2) rh), (oa ux cI cap2 U), (oa uy cI cap2 V)] sz none (fun A t => ∃ (X1 : Nat → Int32), ∃ (Y1 : Nat → Int32), (∀ k, k < m2 → X1 k = smv (pI (rh.toInt = 0 ∧ (k = 0 ∨ k = m2 - 1))) (U (prv m2 k)) (U k) (U (nxt m2 k)) ∧ Y1 k = smv (pI (rh.toInt = 0 ∧ (k = 0 ∨ k = m2 - 1))) (V (prv m2 k)) (V k) (V (nxt m2 k))) ∧ zPD (dC, dI) classes A [(oc6 r (.ref rx) (.ref ry) (nI m2) rh), (oa rx cI cap X1), (oa ry cI cap Y1), (oc6 u (.ref ux) (.ref uy) (nI m2) rh), (oa ux cI cap2 U), (oa uy cI cap2 V)] t.heap) 0 0 := by
  refine zIn (own := "ScaleShop$Row") (loc := [(0, .ref r), (1, .ref u)]) rfl rfl rfl rfl (fun p e s m below meth c hx hb hr hts hown hlocks hml hnm9 A hA hS hP hD hK hXN Q9 hQ9 ls hl => ?_)
  refine lv_aload_n hx hb dX7_smoothFrom_0 rfl (lv_at hl 0 rfl) ?_
  refine lv_aload_n hx hb dX7_smoothFrom_1 rfl (lv_at hl 1 rfl) ?_
  refine va_get (D := (dC, dI)) (ci := 6) (v := .int rh) (C := RX7) (T := TX7) (N := 4) hx hb hts inX7 hown hK hP 3 rfl rfl 3 (Nat.le_of_ble_eq_true rfl) (hts _ mw_183) (fun _ h9 => h9) rfl dX7_smoothFrom_2 ?_
  obtain ⟨hPc, hDc, hFc⟩ := zo_sub (wc := [_, _, _]) hP hD hS hA [0, 1, 2] rfl rfl
  refine zcall (st1 := []) (va_runV (As := [.int rh]) (rest := []) ⟨hx, hb, hml, hown, hts⟩ (k_Row_clear l dC dI cI cZ cF s.heap.size r rx ry n cap X Y rg rh (by first | with_reducible assumption | assumption)) (csV_11 hts rfl rfl ⟨Nat.le_of_ble_eq_true rfl, Nat.le_of_ble_eq_true rfl⟩) (zPV2 (q0 := 0) (ci := 6) hPc hDc hK hXN rfl rfl) rfl rfl hl.1 rfl (lv_room (Nat.le_of_ble_eq_true rfl)) dX7_smoothFrom_5 ⟨Nat.le_of_ble_eq_true rfl, Nat.le_of_ble_eq_true rfl⟩) hS hFc hFc rfl (fun t H locs ht hB hk1 hS => ?_)
  obtain ⟨hP1, hD1⟩ := hB
  rw [ht] at hP1
  obtain ⟨hP, hD⟩ := zn (W2 := [(oc6 r (.ref rx) (.ref ry) (nI 0) rh), _, _, _, _, _]) hP hD hk1 hFc hP1 hD1 [0, 1, 2] [false, false, false, true, true, true] [false, false, false, true, true, true] [0, 1, 2] (by decide +kernel) rfl rfl rfl rfl rfl
  clear hk1 hPc hDc hFc hP1 hD1 ht
  refine lv_iconst (v := 0) hx hb dX7_smoothFrom_8 rfl ?_
  refine lv_istore_n (lv' := [(2, .int 0), (0, .ref r), (1, .ref u)]) hx hb dX7_smoothFrom_9 rfl hl (Nat.le_of_ble_eq_true rfl) rfl (fun ls hl => ?_)
  have hl_10 : ∀ (n9 : Nat) (i : Nat) (X1 : Nat → Int32) (Y1 : Nat → Int32) (H : Heap) (locs : List Loc) (ls : Array Slot), m2 - i < n9 → (i ≤ m2) → (∀ k, k < i → X1 k = smv (pI (rh.toInt = 0 ∧ (k = 0 ∨ k = m2 - 1))) (U (prv m2 k)) (U k) (U (nxt m2 k)) ∧ Y1 k = smv (pI (rh.toInt = 0 ∧ (k = 0 ∨ k = m2 - 1))) (V (prv m2 k)) (V k) (V (nxt m2 k))) → va_P (dC, dI) classes [(oc6 r (.ref rx) (.ref ry) (nI i) rh), (oa rx cI cap X1), (oa ry cI cap Y1), (oc6 u (.ref ux) (.ref uy) (nI m2) rh), (oa ux cI cap2 U), (oa uy cI cap2 V)] H → va_D A [(oc6 r (.ref rx) (.ref ry) (nI i) rh), (oa rx cI cap X1), (oa ry cI cap Y1), (oc6 u (.ref ux) (.ref uy) (nI m2) rh), (oa ux cI cap2 U), (oa uy cI cap2 V)] → va_S A s.heap H locs → lv_has ls 5 [(2, .int (nI i)), (0, .ref r), (1, .ref u)] → W p l e ({ frames := 1, cells := 0, slots := 0, locals := 22 } : Room) s m ([.ref r, .ref u] : List Value).toArray below meth c H locs 0 0 Q9 (F0 m 10 ls []) := by
    intro n9
    induction n9 with
    | zero => intro i X1 Y1 H locs ls hm; exact absurd hm (Nat.not_lt_zero _)
    | succ n9 ih_10 =>
      intro i X1 Y1 H locs ls hm hi hall hP hD hS hl
      refine lv_iload_n hx hb dX7_smoothFrom_10 rfl (lv_at hl 0 rfl) ?_
      refine lv_aload_n hx hb dX7_smoothFrom_11 rfl (lv_at hl 2 rfl) ?_
      refine va_get (D := (dC, dI)) (ci := 6) (v := .int (nI m2)) (C := RX7) (T := TX7) (N := 4) hx hb hts inX7 hown hK hP 3 rfl rfl 2 (Nat.le_of_ble_eq_true rfl) (hts _ mw_175) (fun _ h9 => h9) rfl dX7_smoothFrom_12 ?_
      have b9_2 : zlt (i) := show i < 2147483648 by omega
      have b9_3 : zlt (m2) := show m2 < 2147483648 by omega
      refine lv_icmp_ge (tgt := 118) hx hb dX7_smoothFrom_15 rfl (fun c_1 => ?_) (fun c_1 => ?_)
      · have c_1 : ((m2 : Nat) : Int) ≤ ((i : Nat) : Int) := zc_le (nI_toInt b9_3) (nI_toInt b9_2) c_1
        obtain ⟨hP9, hD9⟩ := zu_sub (wc := [(oc6 r (.ref rx) (.ref ry) (nI i) rh), (oa rx cI cap X1), (oa ry cI cap Y1), (oc6 u (.ref ux) (.ref uy) (nI m2) rh), (oa ux cI cap2 U), (oa uy cI cap2 V)]) hP hD [true, true, true, true, true, true] rfl rfl
        have hE9 : ([(oc6 r (.ref rx) (.ref ry) (nI i) rh), (oa rx cI cap X1), (oa ry cI cap Y1), (oc6 u (.ref ux) (.ref uy) (nI m2) rh), (oa ux cI cap2 U), (oa uy cI cap2 V)] : va_W) = [(oc6 r (.ref rx) (.ref ry) (nI m2) rh), (oa rx cI cap X1), (oa ry cI cap Y1), (oc6 u (.ref ux) (.ref uy) (nI m2) rh), (oa ux cI cap2 U), (oa uy cI cap2 V)] := by rw [show i = m2 by omega]
        rw [hE9] at hP9 hD9
        rw [hQ9]
        exact W.vret hx hb hr (fun t ht hW => ⟨⟨rfl, X1, Y1, (fun k hk => hall k (by omega)), by rw [ht]; exact hP9, hD9⟩, hS.F ht⟩) hS.2.2 dX7_smoothFrom_118
      · have c_1 : ((i : Nat) : Int) < ((m2 : Nat) : Int) := zc_nle (nI_toInt b9_3) (nI_toInt b9_2) c_1
        have hnk := nxt_lt (n := m2) (i := i) (by omega)
        have hpk := prv_lt (n := m2) (i := i) (by omega)
        refine lv_aload_n hx hb dX7_smoothFrom_18 rfl (lv_at hl 2 rfl) ?_
        refine lv_iload_n hx hb dX7_smoothFrom_19 rfl (lv_at hl 0 rfl) ?_
        obtain ⟨hPc, hDc, hFc, hI1⟩ := zi_sub (wc := [_, _, _]) hP hD hS hA [3, 4, 5] rfl rfl
        refine zcall (st1 := [.int (nI (prv m2 i))]) (va_runV (As := [.int (nI i)]) (rest := []) ⟨hx, hb, hml, hown, hts⟩ (k_Row_previous l dC dI cI cZ cF H.size u ux uy m2 cap2 U V rh i (by first | with_reducible assumption | omega) (by first | with_reducible assumption | omega) (by first | with_reducible assumption | omega)) (csV_5 hts rfl rfl ⟨Nat.le_of_ble_eq_true rfl, Nat.le_of_ble_eq_true rfl⟩) (zPV2 (q0 := 0) (ci := 6) hPc hDc hK hXN rfl rfl) rfl rfl hl.1 rfl (lv_room (Nat.le_of_ble_eq_true rfl)) dX7_smoothFrom_20 ⟨Nat.le_of_ble_eq_true rfl, Nat.le_of_ble_eq_true rfl⟩) hS hFc hFc rfl (fun t H locs ht hB hk1 hS => ?_)
        obtain ⟨hP1, hD1⟩ := hB
        rw [ht] at hP1
        replace hP := z0 hP hD hk1 hP1 hI1
        clear hk1 hPc hDc hFc hP1 hD1 ht hI1
        refine lv_istore_n (lv' := [(3, .int (nI (prv m2 i))), (2, .int (nI i)), (0, .ref r), (1, .ref u)]) hx hb dX7_smoothFrom_23 rfl hl (Nat.le_of_ble_eq_true rfl) rfl (fun ls hl => ?_)
        refine lv_aload_n hx hb dX7_smoothFrom_24 rfl (lv_at hl 3 rfl) ?_
        refine lv_iload_n hx hb dX7_smoothFrom_25 rfl (lv_at hl 1 rfl) ?_
        obtain ⟨hPc, hDc, hFc, hI1⟩ := zi_sub (wc := [_, _, _]) hP hD hS hA [3, 4, 5] rfl rfl
        refine zcall (st1 := [.int (nI (nxt m2 i))]) (va_runV (As := [.int (nI i)]) (rest := []) ⟨hx, hb, hml, hown, hts⟩ (k_Row_next l dC dI cI cZ cF H.size u ux uy m2 cap2 U V rh i (by first | with_reducible assumption | omega) (by first | with_reducible assumption | omega) (by first | with_reducible assumption | omega)) (csV_6 hts rfl rfl ⟨Nat.le_of_ble_eq_true rfl, Nat.le_of_ble_eq_true rfl⟩) (zPV2 (q0 := 0) (ci := 6) hPc hDc hK hXN rfl rfl) rfl rfl hl.1 rfl (lv_room (Nat.le_of_ble_eq_true rfl)) dX7_smoothFrom_26 ⟨Nat.le_of_ble_eq_true rfl, Nat.le_of_ble_eq_true rfl⟩) hS hFc hFc rfl (fun t H locs ht hB hk1 hS => ?_)
        obtain ⟨hP1, hD1⟩ := hB
        rw [ht] at hP1
        replace hP := z0 hP hD hk1 hP1 hI1
        clear hk1 hPc hDc hFc hP1 hD1 ht hI1
        refine lv_istore (lv' := [(4, .int (nI (nxt m2 i))), (3, .int (nI (prv m2 i))), (2, .int (nI i)), (0, .ref r), (1, .ref u)]) hx hb dX7_smoothFrom_29 hl (Nat.le_of_ble_eq_true rfl) rfl (fun ls hl => ?_)
        refine lv_aload_n hx hb dX7_smoothFrom_31 rfl (lv_at hl 4 rfl) ?_
        refine lv_iload_n hx hb dX7_smoothFrom_32 rfl (lv_at hl 2 rfl) ?_
        obtain ⟨hPc, hDc, hFc, hI1⟩ := zi_sub (wc := [_, _, _]) hP hD hS hA [3, 4, 5] rfl rfl
        refine zcall (st1 := [.int (pI (rh.toInt = 0 ∧ (i = 0 ∨ i = m2 - 1)))]) (va_runV (As := [.int (nI i)]) (rest := []) ⟨hx, hb, hml, hown, hts⟩ (k_Row_isEnd l dC dI cI cZ cF H.size u ux uy m2 cap2 U V rh i (by first | with_reducible assumption | omega) (by first | with_reducible assumption | omega) (by first | with_reducible assumption | omega)) (csV_13 hts rfl rfl ⟨Nat.le_of_ble_eq_true rfl, Nat.le_of_ble_eq_true rfl⟩) (zPV2 (q0 := 0) (ci := 6) hPc hDc hK hXN rfl rfl) rfl rfl hl.1 rfl (lv_room (Nat.le_of_ble_eq_true rfl)) dX7_smoothFrom_33 ⟨Nat.le_of_ble_eq_true rfl, Nat.le_of_ble_eq_true rfl⟩) hS hFc hFc rfl (fun t H locs ht hB hk1 hS => ?_)
        obtain ⟨hP1, hD1⟩ := hB
        rw [ht] at hP1
        replace hP := z0 hP hD hk1 hP1 hI1
        clear hk1 hPc hDc hFc hP1 hD1 ht hI1
        refine lv_if_eq (tgt := 58) hx hb dX7_smoothFrom_36 rfl (fun c_4 => ?_) (fun c_4 => ?_)
        · have c_4 : ¬ (rh.toInt = 0 ∧ (i = 0 ∨ i = m2 - 1)) := zp_0 c_4
          refine lv_aload_n hx hb dX7_smoothFrom_58 rfl (lv_at hl 3 rfl) ?_
          refine lv_aload_n hx hb dX7_smoothFrom_59 rfl (lv_at hl 4 rfl) ?_
          refine va_get (D := (dC, dI)) (ci := 6) (v := .ref ux) (C := RX7) (T := TX7) (N := 4) hx hb hts inX7 hown hK hP 3 rfl rfl 0 (Nat.le_of_ble_eq_true rfl) (hts _ mw_161) (fun _ h9 => h9) rfl dX7_smoothFrom_60 ?_
          refine lv_iload_n hx hb dX7_smoothFrom_63 rfl (lv_at hl 1 rfl) ?_
          have b9_5 : prv m2 i < cap2 := by omega
          have b9_6 : zlt (cap2) := show cap2 < 2147483648 by omega
          refine z_iald hx hb hK hP 4 0 rfl rfl (e := prv m2 i) rfl b9_5 b9_6 dX7_smoothFrom_64 ?_
          refine lv_iconst (v := 2) hx hb dX7_smoothFrom_65 rfl ?_
          refine lv_aload_n hx hb dX7_smoothFrom_66 rfl (lv_at hl 4 rfl) ?_
          refine va_get (D := (dC, dI)) (ci := 6) (v := .ref ux) (C := RX7) (T := TX7) (N := 4) hx hb hts inX7 hown hK hP 3 rfl rfl 0 (Nat.le_of_ble_eq_true rfl) (hts _ mw_161) (fun _ h9 => h9) rfl dX7_smoothFrom_67 ?_
          refine lv_iload_n hx hb dX7_smoothFrom_70 rfl (lv_at hl 2 rfl) ?_
          have b9_7 : i < cap2 := by omega
          refine z_iald hx hb hK hP 4 0 rfl rfl (e := i) rfl b9_7 b9_6 dX7_smoothFrom_71 ?_
          refine lv_imul hx hb dX7_smoothFrom_72 ?_
          refine lv_iadd hx hb dX7_smoothFrom_73 ?_
          refine lv_aload_n hx hb dX7_smoothFrom_74 rfl (lv_at hl 4 rfl) ?_
          refine va_get (D := (dC, dI)) (ci := 6) (v := .ref ux) (C := RX7) (T := TX7) (N := 4) hx hb hts inX7 hown hK hP 3 rfl rfl 0 (Nat.le_of_ble_eq_true rfl) (hts _ mw_161) (fun _ h9 => h9) rfl dX7_smoothFrom_75 ?_
          refine lv_iload hx hb dX7_smoothFrom_78 (lv_at hl 0 rfl) ?_
          have b9_8 : nxt m2 i < cap2 := by omega
          refine z_iald hx hb hK hP 4 0 rfl rfl (e := nxt m2 i) rfl b9_8 b9_6 dX7_smoothFrom_80 ?_
          refine lv_iadd hx hb dX7_smoothFrom_81 ?_
          refine lv_iconst (v := 4) hx hb dX7_smoothFrom_82 rfl ?_
          refine lv_idiv hx hb dX7_smoothFrom_83 (by decide) ?_
          refine lv_aload_n hx hb dX7_smoothFrom_84 rfl (lv_at hl 4 rfl) ?_
          refine va_get (D := (dC, dI)) (ci := 6) (v := .ref uy) (C := RX7) (T := TX7) (N := 4) hx hb hts inX7 hown hK hP 3 rfl rfl 1 (Nat.le_of_ble_eq_true rfl) (hts _ mw_168) (fun _ h9 => h9) rfl dX7_smoothFrom_85 ?_
          refine lv_iload_n hx hb dX7_smoothFrom_88 rfl (lv_at hl 1 rfl) ?_
          refine z_iald hx hb hK hP 5 0 rfl rfl (e := prv m2 i) rfl b9_5 b9_6 dX7_smoothFrom_89 ?_
          refine lv_iconst (v := 2) hx hb dX7_smoothFrom_90 rfl ?_
          refine lv_aload_n hx hb dX7_smoothFrom_91 rfl (lv_at hl 4 rfl) ?_
          refine va_get (D := (dC, dI)) (ci := 6) (v := .ref uy) (C := RX7) (T := TX7) (N := 4) hx hb hts inX7 hown hK hP 3 rfl rfl 1 (Nat.le_of_ble_eq_true rfl) (hts _ mw_168) (fun _ h9 => h9) rfl dX7_smoothFrom_92 ?_
          refine lv_iload_n hx hb dX7_smoothFrom_95 rfl (lv_at hl 2 rfl) ?_
          refine z_iald hx hb hK hP 5 0 rfl rfl (e := i) rfl b9_7 b9_6 dX7_smoothFrom_96 ?_
          refine lv_imul hx hb dX7_smoothFrom_97 ?_
          refine lv_iadd hx hb dX7_smoothFrom_98 ?_
          refine lv_aload_n hx hb dX7_smoothFrom_99 rfl (lv_at hl 4 rfl) ?_
          refine va_get (D := (dC, dI)) (ci := 6) (v := .ref uy) (C := RX7) (T := TX7) (N := 4) hx hb hts inX7 hown hK hP 3 rfl rfl 1 (Nat.le_of_ble_eq_true rfl) (hts _ mw_168) (fun _ h9 => h9) rfl dX7_smoothFrom_100 ?_
          refine lv_iload hx hb dX7_smoothFrom_103 (lv_at hl 0 rfl) ?_
          refine z_iald hx hb hK hP 5 0 rfl rfl (e := nxt m2 i) rfl b9_8 b9_6 dX7_smoothFrom_105 ?_
          refine lv_iadd hx hb dX7_smoothFrom_106 ?_
          refine lv_iconst (v := 4) hx hb dX7_smoothFrom_107 rfl ?_
          refine lv_idiv hx hb dX7_smoothFrom_108 (by decide) ?_
          obtain ⟨hPc, hDc, hFc⟩ := zo_sub (wc := [_, _, _]) hP hD hS hA [0, 1, 2] rfl rfl
          refine zcall (st1 := []) (va_runV (As := [.int ((((U (prv m2 i)) + (2 * (U i))) + (U (nxt m2 i))) / 4), .int ((((V (prv m2 i)) + (2 * (V i))) + (V (nxt m2 i))) / 4)]) (rest := []) ⟨hx, hb, hml, hown, hts⟩ (k_Row_put l dC dI cI cZ cF H.size r rx ry i cap X1 Y1 rh ((((U (prv m2 i)) + (2 * (U i))) + (U (nxt m2 i))) / 4) ((((V (prv m2 i)) + (2 * (V i))) + (V (nxt m2 i))) / 4) (by first | with_reducible assumption | omega) (by first | with_reducible assumption | omega)) (csV_12 hts rfl rfl ⟨Nat.le_of_ble_eq_true rfl, Nat.le_of_ble_eq_true rfl⟩) (zPV2 (q0 := 0) (ci := 6) hPc hDc hK hXN rfl rfl) rfl rfl hl.1 rfl (lv_room (Nat.le_of_ble_eq_true rfl)) dX7_smoothFrom_109 ⟨Nat.le_of_ble_eq_true rfl, Nat.le_of_ble_eq_true rfl⟩) hS hFc hFc rfl (fun t H locs ht hB hk1 hS => ?_)
          obtain ⟨hP1, hD1⟩ := hB
          rw [ht] at hP1
          obtain ⟨hP, hD⟩ := zn (W2 := [(oc6 r (.ref rx) (.ref ry) (nI (i + 1)) rh), (oa rx cI cap (upd X1 i ((((U (prv m2 i)) + (2 * (U i))) + (U (nxt m2 i))) / 4))), (oa ry cI cap (upd Y1 i ((((V (prv m2 i)) + (2 * (V i))) + (V (nxt m2 i))) / 4))), _, _, _]) hP hD hk1 hFc hP1 hD1 [0, 1, 2] [false, false, false, true, true, true] [false, false, false, true, true, true] [0, 1, 2] (by decide +kernel) rfl rfl rfl rfl rfl
          clear hk1 hPc hDc hFc hP1 hD1 ht
          refine lv_iinc (v := nI (i + 1)) (lv' := [(2, .int (nI (i + 1))), (4, .int (nI (nxt m2 i))), (3, .int (nI (prv m2 i))), (0, .ref r), (1, .ref u)]) hx hb dX7_smoothFrom_112 hl (k := 2) rfl (nI_add i 1) (Nat.le_of_ble_eq_true rfl) rfl (fun ls hl => ?_)
          refine lv_goto (tgt := 10) hx hb dX7_smoothFrom_115 rfl ?_
          exact ih_10 (i + 1) (upd X1 i ((((U (prv m2 i)) + (2 * (U i))) + (U (nxt m2 i))) / 4)) (upd Y1 i ((((V (prv m2 i)) + (2 * (V i))) + (V (nxt m2 i))) / 4)) H locs ls (by first | with_reducible assumption | omega) (by first | with_reducible assumption | omega) (by intro k hk; rcases Nat.lt_or_ge k i with h | h; simp only [upd, if_neg (show k ≠ i by omega)]; exact hall k h; rw [show k = i by omega]; simp only [upd, if_true]; first | (have h9 : (rh.toInt = 0 ∧ (i = 0 ∨ i = m2 - 1)) := (by first | with_reducible assumption | assumption); exact ⟨smv_t h9, smv_t h9⟩) | (have h9 : ¬ (rh.toInt = 0 ∧ (i = 0 ∨ i = m2 - 1)) := (by first | with_reducible assumption | assumption); exact ⟨smv_f h9, smv_f h9⟩)) hP hD hS (lv_sub hl [0, 3, 4] rfl)
        · have c_4 : rh.toInt = 0 ∧ (i = 0 ∨ i = m2 - 1) := zp_1 c_4
          refine lv_aload_n hx hb dX7_smoothFrom_39 rfl (lv_at hl 3 rfl) ?_
          refine lv_aload_n hx hb dX7_smoothFrom_40 rfl (lv_at hl 4 rfl) ?_
          refine va_get (D := (dC, dI)) (ci := 6) (v := .ref ux) (C := RX7) (T := TX7) (N := 4) hx hb hts inX7 hown hK hP 3 rfl rfl 0 (Nat.le_of_ble_eq_true rfl) (hts _ mw_161) (fun _ h9 => h9) rfl dX7_smoothFrom_41 ?_
          refine lv_iload_n hx hb dX7_smoothFrom_44 rfl (lv_at hl 2 rfl) ?_
          have b9_9 : i < cap2 := by omega
          have b9_10 : zlt (cap2) := show cap2 < 2147483648 by omega
          refine z_iald hx hb hK hP 4 0 rfl rfl (e := i) rfl b9_9 b9_10 dX7_smoothFrom_45 ?_
          refine lv_aload_n hx hb dX7_smoothFrom_46 rfl (lv_at hl 4 rfl) ?_
          refine va_get (D := (dC, dI)) (ci := 6) (v := .ref uy) (C := RX7) (T := TX7) (N := 4) hx hb hts inX7 hown hK hP 3 rfl rfl 1 (Nat.le_of_ble_eq_true rfl) (hts _ mw_168) (fun _ h9 => h9) rfl dX7_smoothFrom_47 ?_
          refine lv_iload_n hx hb dX7_smoothFrom_50 rfl (lv_at hl 2 rfl) ?_
          refine z_iald hx hb hK hP 5 0 rfl rfl (e := i) rfl b9_9 b9_10 dX7_smoothFrom_51 ?_
          obtain ⟨hPc, hDc, hFc⟩ := zo_sub (wc := [_, _, _]) hP hD hS hA [0, 1, 2] rfl rfl
          refine zcall (st1 := []) (va_runV (As := [.int (U i), .int (V i)]) (rest := []) ⟨hx, hb, hml, hown, hts⟩ (k_Row_put l dC dI cI cZ cF H.size r rx ry i cap X1 Y1 rh (U i) (V i) (by first | with_reducible assumption | omega) (by first | with_reducible assumption | omega)) (csV_12 hts rfl rfl ⟨Nat.le_of_ble_eq_true rfl, Nat.le_of_ble_eq_true rfl⟩) (zPV2 (q0 := 0) (ci := 6) hPc hDc hK hXN rfl rfl) rfl rfl hl.1 rfl (lv_room (Nat.le_of_ble_eq_true rfl)) dX7_smoothFrom_52 ⟨Nat.le_of_ble_eq_true rfl, Nat.le_of_ble_eq_true rfl⟩) hS hFc hFc rfl (fun t H locs ht hB hk1 hS => ?_)
          obtain ⟨hP1, hD1⟩ := hB
          rw [ht] at hP1
          obtain ⟨hP, hD⟩ := zn (W2 := [(oc6 r (.ref rx) (.ref ry) (nI (i + 1)) rh), (oa rx cI cap (upd X1 i (U i))), (oa ry cI cap (upd Y1 i (V i))), _, _, _]) hP hD hk1 hFc hP1 hD1 [0, 1, 2] [false, false, false, true, true, true] [false, false, false, true, true, true] [0, 1, 2] (by decide +kernel) rfl rfl rfl rfl rfl
          clear hk1 hPc hDc hFc hP1 hD1 ht
          refine lv_goto (tgt := 112) hx hb dX7_smoothFrom_55 rfl ?_
          refine lv_iinc (v := nI (i + 1)) (lv' := [(2, .int (nI (i + 1))), (4, .int (nI (nxt m2 i))), (3, .int (nI (prv m2 i))), (0, .ref r), (1, .ref u)]) hx hb dX7_smoothFrom_112 hl (k := 2) rfl (nI_add i 1) (Nat.le_of_ble_eq_true rfl) rfl (fun ls hl => ?_)
          refine lv_goto (tgt := 10) hx hb dX7_smoothFrom_115 rfl ?_
          exact ih_10 (i + 1) (upd X1 i (U i)) (upd Y1 i (V i)) H locs ls (by first | with_reducible assumption | omega) (by first | with_reducible assumption | omega) (by intro k hk; rcases Nat.lt_or_ge k i with h | h; simp only [upd, if_neg (show k ≠ i by omega)]; exact hall k h; rw [show k = i by omega]; simp only [upd, if_true]; first | (have h9 : (rh.toInt = 0 ∧ (i = 0 ∨ i = m2 - 1)) := (by first | with_reducible assumption | assumption); exact ⟨smv_t h9, smv_t h9⟩) | (have h9 : ¬ (rh.toInt = 0 ∧ (i = 0 ∨ i = m2 - 1)) := (by first | with_reducible assumption | assumption); exact ⟨smv_f h9, smv_f h9⟩)) hP hD hS (lv_sub hl [0, 3, 4] rfl)
  exact hl_10 _ 0 X Y H locs ls (Nat.lt_succ_self _) (by first | with_reducible assumption | omega) (by intro k hk; omega) hP hD hS (lv_sub hl [0, 1, 2] rfl)
set_option maxHeartbeats 4000000 in
set_option maxRecDepth 100000 in
theorem k_Row_boxFrom (l : Launch) (dC : Nat → ClassId) (dI : Nat → Nat → Nat) (cI cZ cF : ClassId) (sz : Nat) (r : Nat) (rx : Nat) (ry : Nat) (n : Nat) (cap : Nat) (X : Nat → Int32) (Y : Nat → Int32) (rg : Int32) (b0 : Nat) (x0 : Int32) (y0 : Int32) (x1 : Int32) (y1 : Int32) (hcap4 : 4 ≤ cap) (hcap : cap ≤ 1000) : zM l yX7_boxFrom cX7_boxFrom 2 none ({ frames := 1, cells := 0, slots := 0, locals := 22 } : Room) [.ref r, .ref b0] (dC, dI) (zTy cI cZ cF) [(oc6 r (.ref rx) (.ref ry) (nI n) rg), (oa rx cI cap X), (oa ry cI cap Y), (oc0 b0 x0 y0 x1 y1)] sz none (fun A t => zPD (dC, dI) classes A [(oc6 r (.ref rx) (.ref ry) (nI 4) 1), (oa rx cI cap (upd (upd (upd (upd X 0 x0) 1 x1) 2 x1) 3 x0)), (oa ry cI cap (upd (upd (upd (upd Y 0 y0) 1 y0) 2 y1) 3 y1)), (oc0 b0 x0 y0 x1 y1)] t.heap) 0 0 := by
  refine zIn (own := "ScaleShop$Row") (loc := [(0, .ref r), (1, .ref b0)]) rfl rfl rfl rfl (fun p e s m below meth c hx hb hr hts hown hlocks hml hnm9 A hA hS hP hD hK hXN Q9 hQ9 ls hl => ?_)
  refine lv_aload_n hx hb dX7_boxFrom_0 rfl (lv_at hl 0 rfl) ?_
  refine lv_iconst (v := 1) hx hb dX7_boxFrom_1 rfl ?_
  obtain ⟨hPc, hDc, hFc⟩ := zo_sub (wc := [_, _, _]) hP hD hS hA [0, 1, 2] rfl rfl
  refine zcall (st1 := []) (va_runV (As := [.int 1]) (rest := []) ⟨hx, hb, hml, hown, hts⟩ (k_Row_clear l dC dI cI cZ cF s.heap.size r rx ry n cap X Y rg 1 (Or.inr rfl)) (csV_11 hts rfl rfl ⟨Nat.le_of_ble_eq_true rfl, Nat.le_of_ble_eq_true rfl⟩) (zPV2 (q0 := 0) (ci := 6) hPc hDc hK hXN rfl rfl) rfl rfl hl.1 rfl (lv_room (Nat.le_of_ble_eq_true rfl)) dX7_boxFrom_2 ⟨Nat.le_of_ble_eq_true rfl, Nat.le_of_ble_eq_true rfl⟩) hS hFc hFc rfl (fun t H locs ht hB hk1 hS => ?_)
  obtain ⟨hP1, hD1⟩ := hB
  rw [ht] at hP1
  obtain ⟨hP, hD⟩ := zn (W2 := [(oc6 r (.ref rx) (.ref ry) (nI 0) 1), _, _, _]) hP hD hk1 hFc hP1 hD1 [0, 1, 2] [false, false, false, true] [false, false, false, true] [0, 1, 2] (by decide +kernel) rfl rfl rfl rfl rfl
  clear hk1 hPc hDc hFc hP1 hD1 ht
  refine lv_aload_n hx hb dX7_boxFrom_5 rfl (lv_at hl 0 rfl) ?_
  refine lv_aload_n hx hb dX7_boxFrom_6 rfl (lv_at hl 1 rfl) ?_
  refine va_get (D := (dC, dI)) (ci := 0) (v := .int x0) (C := RX0) (T := TX0) (N := 4) hx hb hts inX0 hown hK hP 3 rfl rfl 0 (Nat.le_of_ble_eq_true rfl) (hts _ mw_203) (fun _ h9 => h9) rfl dX7_boxFrom_7 ?_
  refine lv_aload_n hx hb dX7_boxFrom_10 rfl (lv_at hl 1 rfl) ?_
  refine va_get (D := (dC, dI)) (ci := 0) (v := .int y0) (C := RX0) (T := TX0) (N := 4) hx hb hts inX0 hown hK hP 3 rfl rfl 1 (Nat.le_of_ble_eq_true rfl) (hts _ mw_205) (fun _ h9 => h9) rfl dX7_boxFrom_11 ?_
  obtain ⟨hPc, hDc, hFc⟩ := zo_sub (wc := [_, _, _]) hP hD hS hA [0, 1, 2] rfl rfl
  refine zcall (st1 := []) (va_runV (As := [.int x0, .int y0]) (rest := []) ⟨hx, hb, hml, hown, hts⟩ (k_Row_put l dC dI cI cZ cF H.size r rx ry 0 cap X Y 1 x0 y0 (by first | with_reducible assumption | omega) (by first | with_reducible assumption | omega)) (csV_12 hts rfl rfl ⟨Nat.le_of_ble_eq_true rfl, Nat.le_of_ble_eq_true rfl⟩) (zPV2 (q0 := 0) (ci := 6) hPc hDc hK hXN rfl rfl) rfl rfl hl.1 rfl (lv_room (Nat.le_of_ble_eq_true rfl)) dX7_boxFrom_14 ⟨Nat.le_of_ble_eq_true rfl, Nat.le_of_ble_eq_true rfl⟩) hS hFc hFc rfl (fun t H locs ht hB hk1 hS => ?_)
  obtain ⟨hP1, hD1⟩ := hB
  rw [ht] at hP1
  obtain ⟨hP, hD⟩ := zn (W2 := [(oc6 r (.ref rx) (.ref ry) (nI (0 + 1)) 1), (oa rx cI cap (upd X 0 x0)), (oa ry cI cap (upd Y 0 y0)), _]) hP hD hk1 hFc hP1 hD1 [0, 1, 2] [false, false, false, true] [false, false, false, true] [0, 1, 2] (by decide +kernel) rfl rfl rfl rfl rfl
  clear hk1 hPc hDc hFc hP1 hD1 ht
  refine lv_aload_n hx hb dX7_boxFrom_17 rfl (lv_at hl 0 rfl) ?_
  refine lv_aload_n hx hb dX7_boxFrom_18 rfl (lv_at hl 1 rfl) ?_
  refine va_get (D := (dC, dI)) (ci := 0) (v := .int x1) (C := RX0) (T := TX0) (N := 4) hx hb hts inX0 hown hK hP 3 rfl rfl 2 (Nat.le_of_ble_eq_true rfl) (hts _ mw_207) (fun _ h9 => h9) rfl dX7_boxFrom_19 ?_
  refine lv_aload_n hx hb dX7_boxFrom_22 rfl (lv_at hl 1 rfl) ?_
  refine va_get (D := (dC, dI)) (ci := 0) (v := .int y0) (C := RX0) (T := TX0) (N := 4) hx hb hts inX0 hown hK hP 3 rfl rfl 1 (Nat.le_of_ble_eq_true rfl) (hts _ mw_205) (fun _ h9 => h9) rfl dX7_boxFrom_23 ?_
  obtain ⟨hPc, hDc, hFc⟩ := zo_sub (wc := [_, _, _]) hP hD hS hA [0, 1, 2] rfl rfl
  refine zcall (st1 := []) (va_runV (As := [.int x1, .int y0]) (rest := []) ⟨hx, hb, hml, hown, hts⟩ (k_Row_put l dC dI cI cZ cF H.size r rx ry (0 + 1) cap (upd X 0 x0) (upd Y 0 y0) 1 x1 y0 (by first | with_reducible assumption | omega) (by first | with_reducible assumption | omega)) (csV_12 hts rfl rfl ⟨Nat.le_of_ble_eq_true rfl, Nat.le_of_ble_eq_true rfl⟩) (zPV2 (q0 := 0) (ci := 6) hPc hDc hK hXN rfl rfl) rfl rfl hl.1 rfl (lv_room (Nat.le_of_ble_eq_true rfl)) dX7_boxFrom_26 ⟨Nat.le_of_ble_eq_true rfl, Nat.le_of_ble_eq_true rfl⟩) hS hFc hFc rfl (fun t H locs ht hB hk1 hS => ?_)
  obtain ⟨hP1, hD1⟩ := hB
  rw [ht] at hP1
  obtain ⟨hP, hD⟩ := zn (W2 := [(oc6 r (.ref rx) (.ref ry) (nI ((0 + 1) + 1)) 1), (oa rx cI cap (upd (upd X 0 x0) (0 + 1) x1)), (oa ry cI cap (upd (upd Y 0 y0) (0 + 1) y0)), _]) hP hD hk1 hFc hP1 hD1 [0, 1, 2] [false, false, false, true] [false, false, false, true] [0, 1, 2] (by decide +kernel) rfl rfl rfl rfl rfl
  clear hk1 hPc hDc hFc hP1 hD1 ht
  refine lv_aload_n hx hb dX7_boxFrom_29 rfl (lv_at hl 0 rfl) ?_
  refine lv_aload_n hx hb dX7_boxFrom_30 rfl (lv_at hl 1 rfl) ?_
  refine va_get (D := (dC, dI)) (ci := 0) (v := .int x1) (C := RX0) (T := TX0) (N := 4) hx hb hts inX0 hown hK hP 3 rfl rfl 2 (Nat.le_of_ble_eq_true rfl) (hts _ mw_207) (fun _ h9 => h9) rfl dX7_boxFrom_31 ?_
  refine lv_aload_n hx hb dX7_boxFrom_34 rfl (lv_at hl 1 rfl) ?_
  refine va_get (D := (dC, dI)) (ci := 0) (v := .int y1) (C := RX0) (T := TX0) (N := 4) hx hb hts inX0 hown hK hP 3 rfl rfl 3 (Nat.le_of_ble_eq_true rfl) (hts _ mw_209) (fun _ h9 => h9) rfl dX7_boxFrom_35 ?_
  obtain ⟨hPc, hDc, hFc⟩ := zo_sub (wc := [_, _, _]) hP hD hS hA [0, 1, 2] rfl rfl
  refine zcall (st1 := []) (va_runV (As := [.int x1, .int y1]) (rest := []) ⟨hx, hb, hml, hown, hts⟩ (k_Row_put l dC dI cI cZ cF H.size r rx ry ((0 + 1) + 1) cap (upd (upd X 0 x0) (0 + 1) x1) (upd (upd Y 0 y0) (0 + 1) y0) 1 x1 y1 (by first | with_reducible assumption | omega) (by first | with_reducible assumption | omega)) (csV_12 hts rfl rfl ⟨Nat.le_of_ble_eq_true rfl, Nat.le_of_ble_eq_true rfl⟩) (zPV2 (q0 := 0) (ci := 6) hPc hDc hK hXN rfl rfl) rfl rfl hl.1 rfl (lv_room (Nat.le_of_ble_eq_true rfl)) dX7_boxFrom_38 ⟨Nat.le_of_ble_eq_true rfl, Nat.le_of_ble_eq_true rfl⟩) hS hFc hFc rfl (fun t H locs ht hB hk1 hS => ?_)
  obtain ⟨hP1, hD1⟩ := hB
  rw [ht] at hP1
  obtain ⟨hP, hD⟩ := zn (W2 := [(oc6 r (.ref rx) (.ref ry) (nI (((0 + 1) + 1) + 1)) 1), (oa rx cI cap (upd (upd (upd X 0 x0) (0 + 1) x1) ((0 + 1) + 1) x1)), (oa ry cI cap (upd (upd (upd Y 0 y0) (0 + 1) y0) ((0 + 1) + 1) y1)), _]) hP hD hk1 hFc hP1 hD1 [0, 1, 2] [false, false, false, true] [false, false, false, true] [0, 1, 2] (by decide +kernel) rfl rfl rfl rfl rfl
  clear hk1 hPc hDc hFc hP1 hD1 ht
  refine lv_aload_n hx hb dX7_boxFrom_41 rfl (lv_at hl 0 rfl) ?_
  refine lv_aload_n hx hb dX7_boxFrom_42 rfl (lv_at hl 1 rfl) ?_
  refine va_get (D := (dC, dI)) (ci := 0) (v := .int x0) (C := RX0) (T := TX0) (N := 4) hx hb hts inX0 hown hK hP 3 rfl rfl 0 (Nat.le_of_ble_eq_true rfl) (hts _ mw_203) (fun _ h9 => h9) rfl dX7_boxFrom_43 ?_
  refine lv_aload_n hx hb dX7_boxFrom_46 rfl (lv_at hl 1 rfl) ?_
  refine va_get (D := (dC, dI)) (ci := 0) (v := .int y1) (C := RX0) (T := TX0) (N := 4) hx hb hts inX0 hown hK hP 3 rfl rfl 3 (Nat.le_of_ble_eq_true rfl) (hts _ mw_209) (fun _ h9 => h9) rfl dX7_boxFrom_47 ?_
  obtain ⟨hPc, hDc, hFc⟩ := zo_sub (wc := [_, _, _]) hP hD hS hA [0, 1, 2] rfl rfl
  refine zcall (st1 := []) (va_runV (As := [.int x0, .int y1]) (rest := []) ⟨hx, hb, hml, hown, hts⟩ (k_Row_put l dC dI cI cZ cF H.size r rx ry (((0 + 1) + 1) + 1) cap (upd (upd (upd X 0 x0) (0 + 1) x1) ((0 + 1) + 1) x1) (upd (upd (upd Y 0 y0) (0 + 1) y0) ((0 + 1) + 1) y1) 1 x0 y1 (by first | with_reducible assumption | omega) (by first | with_reducible assumption | omega)) (csV_12 hts rfl rfl ⟨Nat.le_of_ble_eq_true rfl, Nat.le_of_ble_eq_true rfl⟩) (zPV2 (q0 := 0) (ci := 6) hPc hDc hK hXN rfl rfl) rfl rfl hl.1 rfl (lv_room (Nat.le_of_ble_eq_true rfl)) dX7_boxFrom_50 ⟨Nat.le_of_ble_eq_true rfl, Nat.le_of_ble_eq_true rfl⟩) hS hFc hFc rfl (fun t H locs ht hB hk1 hS => ?_)
  obtain ⟨hP1, hD1⟩ := hB
  rw [ht] at hP1
  obtain ⟨hP, hD⟩ := zn (W2 := [(oc6 r (.ref rx) (.ref ry) (nI ((((0 + 1) + 1) + 1) + 1)) 1), (oa rx cI cap (upd (upd (upd (upd X 0 x0) (0 + 1) x1) ((0 + 1) + 1) x1) (((0 + 1) + 1) + 1) x0)), (oa ry cI cap (upd (upd (upd (upd Y 0 y0) (0 + 1) y0) ((0 + 1) + 1) y1) (((0 + 1) + 1) + 1) y1)), _]) hP hD hk1 hFc hP1 hD1 [0, 1, 2] [false, false, false, true] [false, false, false, true] [0, 1, 2] (by decide +kernel) rfl rfl rfl rfl rfl
  clear hk1 hPc hDc hFc hP1 hD1 ht
  obtain ⟨hP9, hD9⟩ := zu_sub (wc := [(oc6 r (.ref rx) (.ref ry) (nI ((((0 + 1) + 1) + 1) + 1)) 1), (oa rx cI cap (upd (upd (upd (upd X 0 x0) (0 + 1) x1) ((0 + 1) + 1) x1) (((0 + 1) + 1) + 1) x0)), (oa ry cI cap (upd (upd (upd (upd Y 0 y0) (0 + 1) y0) ((0 + 1) + 1) y1) (((0 + 1) + 1) + 1) y1)), (oc0 b0 x0 y0 x1 y1)]) hP hD [true, true, true, true] rfl rfl
  have hE9 : ([(oc6 r (.ref rx) (.ref ry) (nI ((((0 + 1) + 1) + 1) + 1)) 1), (oa rx cI cap (upd (upd (upd (upd X 0 x0) (0 + 1) x1) ((0 + 1) + 1) x1) (((0 + 1) + 1) + 1) x0)), (oa ry cI cap (upd (upd (upd (upd Y 0 y0) (0 + 1) y0) ((0 + 1) + 1) y1) (((0 + 1) + 1) + 1) y1)), (oc0 b0 x0 y0 x1 y1)] : va_W) = [(oc6 r (.ref rx) (.ref ry) (nI 4) 1), (oa rx cI cap (upd (upd (upd (upd X 0 x0) 1 x1) 2 x1) 3 x0)), (oa ry cI cap (upd (upd (upd (upd Y 0 y0) 1 y0) 2 y1) 3 y1)), (oc0 b0 x0 y0 x1 y1)] := by rfl
  rw [hE9] at hP9 hD9
  rw [hQ9]
  exact W.vret hx hb hr (fun t ht hW => ⟨⟨rfl, by rw [ht]; exact hP9, hD9⟩, hS.F ht⟩) hS.2.2 dX7_boxFrom_53
set_option maxHeartbeats 4000000 in
set_option maxRecDepth 100000 in
theorem k_Row_isAlike (l : Launch) (dC : Nat → ClassId) (dI : Nat → Nat → Nat) (cI cZ cF : ClassId) (sz : Nat) (r : Nat) (rx : Nat) (ry : Nat) (n : Nat) (cap : Nat) (X : Nat → Int32) (Y : Nat → Int32) (rg : Int32) (u : Nat) (ux : Nat) (uy : Nat) (m2 : Nat) (cap2 : Nat) (U : Nat → Int32) (V : Nat → Int32) (rh : Int32) (hn : n ≤ cap) (hcap : cap ≤ 1000) (hm : m2 ≤ cap2) (hcap2 : cap2 ≤ 1000) : zM l yX7_isAlike cX7_isAlike 3 (some .boolean) ({ frames := 1, cells := 0, slots := 0, locals := 23 } : Room) [.ref r, .ref u] (dC, dI) (zTy cI cZ cF) [(oc6 r (.ref rx) (.ref ry) (nI n) rg), (oa rx cI cap X), (oa ry cI cap Y), (oc6 u (.ref ux) (.ref uy) (nI m2) rh), (oa ux cI cap2 U), (oa uy cI cap2 V)] sz (some (.int (pI (m2 = n ∧ ∀ k, k < n → (X k).toInt = (U k).toInt ∧ (Y k).toInt = (V k).toInt)))) (fun A t => zPD (dC, dI) classes A [(oc6 r (.ref rx) (.ref ry) (nI n) rg), (oa rx cI cap X), (oa ry cI cap Y), (oc6 u (.ref ux) (.ref uy) (nI m2) rh), (oa ux cI cap2 U), (oa uy cI cap2 V)] t.heap) 0 0 := by
  refine zIn (own := "ScaleShop$Row") (loc := [(0, .ref r), (1, .ref u)]) rfl rfl rfl rfl (fun p e s m below meth c hx hb hr hts hown hlocks hml hnm9 A hA hS hP hD hK hXN Q9 hQ9 ls hl => ?_)
  refine lv_aload_n hx hb dX7_isAlike_0 rfl (lv_at hl 1 rfl) ?_
  refine lv_ifnull hx hb dX7_isAlike_1 ?_
  refine lv_aload_n hx hb dX7_isAlike_4 rfl (lv_at hl 1 rfl) ?_
  refine va_get (D := (dC, dI)) (ci := 6) (v := .int (nI m2)) (C := RX7) (T := TX7) (N := 4) hx hb hts inX7 hown hK hP 3 rfl rfl 2 (Nat.le_of_ble_eq_true rfl) (hts _ mw_175) (fun _ h9 => h9) rfl dX7_isAlike_5 ?_
  refine lv_aload_n hx hb dX7_isAlike_8 rfl (lv_at hl 0 rfl) ?_
  refine va_get (D := (dC, dI)) (ci := 6) (v := .int (nI n)) (C := RX7) (T := TX7) (N := 4) hx hb hts inX7 hown hK hP 0 rfl rfl 2 (Nat.le_of_ble_eq_true rfl) (hts _ mw_175) (fun _ h9 => h9) rfl dX7_isAlike_9 ?_
  have b9_2 : zlt (m2) := show m2 < 2147483648 by omega
  have b9_3 : zlt (n) := show n < 2147483648 by omega
  refine lv_icmp_eq (tgt := 17) hx hb dX7_isAlike_12 rfl (fun c_1 => ?_) (fun c_1 => ?_)
  · have c_1 : ((m2 : Nat) : Int) = ((n : Nat) : Int) := zc_eq (nI_toInt b9_2) (nI_toInt b9_3) c_1
    refine lv_iconst (v := 0) hx hb dX7_isAlike_17 rfl ?_
    refine lv_istore_n (lv' := [(2, .int 0), (0, .ref r), (1, .ref u)]) hx hb dX7_isAlike_18 rfl hl (Nat.le_of_ble_eq_true rfl) rfl (fun ls hl => ?_)
    have hl_19 : ∀ (n9 : Nat) (i : Nat) (H : Heap) (locs : List Loc) (ls : Array Slot), n - i < n9 → (i ≤ n) → (m2 = n) → (∀ k, k < i → (X k).toInt = (U k).toInt ∧ (Y k).toInt = (V k).toInt) → va_P (dC, dI) classes [(oc6 r (.ref rx) (.ref ry) (nI n) rg), (oa rx cI cap X), (oa ry cI cap Y), (oc6 u (.ref ux) (.ref uy) (nI m2) rh), (oa ux cI cap2 U), (oa uy cI cap2 V)] H → va_D A [(oc6 r (.ref rx) (.ref ry) (nI n) rg), (oa rx cI cap X), (oa ry cI cap Y), (oc6 u (.ref ux) (.ref uy) (nI m2) rh), (oa ux cI cap2 U), (oa uy cI cap2 V)] → va_S A s.heap H locs → lv_has ls 3 [(2, .int (nI i)), (0, .ref r), (1, .ref u)] → W p l e ({ frames := 1, cells := 0, slots := 0, locals := 23 } : Room) s m ([.ref r, .ref u] : List Value).toArray below meth c H locs 0 0 Q9 (F0 m 19 ls []) := by
      intro n9
      induction n9 with
      | zero => intro i H locs ls hm; exact absurd hm (Nat.not_lt_zero _)
      | succ n9 ih_19 =>
        intro i H locs ls hm hi hmn hall hP hD hS hl
        refine lv_iload_n hx hb dX7_isAlike_19 rfl (lv_at hl 0 rfl) ?_
        refine lv_aload_n hx hb dX7_isAlike_20 rfl (lv_at hl 1 rfl) ?_
        refine va_get (D := (dC, dI)) (ci := 6) (v := .int (nI n)) (C := RX7) (T := TX7) (N := 4) hx hb hts inX7 hown hK hP 0 rfl rfl 2 (Nat.le_of_ble_eq_true rfl) (hts _ mw_175) (fun _ h9 => h9) rfl dX7_isAlike_21 ?_
        have b9_5 : zlt (i) := show i < 2147483648 by omega
        refine lv_icmp_ge (tgt := 55) hx hb dX7_isAlike_24 rfl (fun c_4 => ?_) (fun c_4 => ?_)
        · have c_4 : ((n : Nat) : Int) ≤ ((i : Nat) : Int) := zc_le (nI_toInt b9_3) (nI_toInt b9_5) c_4
          refine lv_iconst (v := 1) hx hb dX7_isAlike_55 rfl ?_
          obtain ⟨hP9, hD9⟩ := zu_sub (wc := [_, _, _, _, _, _]) hP hD [true, true, true, true, true, true] rfl rfl
          rw [hQ9]
          exact W.zret (ty := .boolean) (v := 1) hx hb hr (rfl) (fun t ht hW => ⟨⟨congrArg (fun z => Outcome.returned (some (Value.int z))) (show (1 : Int32) = pI (m2 = n ∧ ∀ k, k < n → (X k).toInt = (U k).toInt ∧ (Y k).toInt = (V k).toInt) from (zp_t (⟨hmn, fun k hk => hall k (by omega)⟩)).symm), by rw [ht]; exact hP9, hD9⟩, hS.F ht⟩) hS.2.2 dX7_isAlike_56
        · have c_4 : ((i : Nat) : Int) < ((n : Nat) : Int) := zc_nle (nI_toInt b9_3) (nI_toInt b9_5) c_4
          refine lv_aload_n hx hb dX7_isAlike_27 rfl (lv_at hl 1 rfl) ?_
          refine lv_iload_n hx hb dX7_isAlike_28 rfl (lv_at hl 0 rfl) ?_
          refine lv_aload_n hx hb dX7_isAlike_29 rfl (lv_at hl 2 rfl) ?_
          refine va_get (D := (dC, dI)) (ci := 6) (v := .ref ux) (C := RX7) (T := TX7) (N := 4) hx hb hts inX7 hown hK hP 3 rfl rfl 0 (Nat.le_of_ble_eq_true rfl) (hts _ mw_161) (fun _ h9 => h9) rfl dX7_isAlike_30 ?_
          refine lv_iload_n hx hb dX7_isAlike_33 rfl (lv_at hl 0 rfl) ?_
          have b9_6 : i < cap2 := by omega
          have b9_7 : zlt (cap2) := show cap2 < 2147483648 by omega
          refine z_iald hx hb hK hP 4 0 rfl rfl (e := i) rfl b9_6 b9_7 dX7_isAlike_34 ?_
          refine lv_aload_n hx hb dX7_isAlike_35 rfl (lv_at hl 2 rfl) ?_
          refine va_get (D := (dC, dI)) (ci := 6) (v := .ref uy) (C := RX7) (T := TX7) (N := 4) hx hb hts inX7 hown hK hP 3 rfl rfl 1 (Nat.le_of_ble_eq_true rfl) (hts _ mw_168) (fun _ h9 => h9) rfl dX7_isAlike_36 ?_
          refine lv_iload_n hx hb dX7_isAlike_39 rfl (lv_at hl 0 rfl) ?_
          refine z_iald hx hb hK hP 5 0 rfl rfl (e := i) rfl b9_6 b9_7 dX7_isAlike_40 ?_
          obtain ⟨hPc, hDc, hFc, hI1⟩ := zi_sub (wc := [_, _, _]) hP hD hS hA [0, 1, 2] rfl rfl
          refine zcall (st1 := [.int (pI ((X i).toInt = (U i).toInt ∧ (Y i).toInt = (V i).toInt))]) (va_runV (As := [.int (nI i), .int (U i), .int (V i)]) (rest := []) ⟨hx, hb, hml, hown, hts⟩ (k_Row_isCorner l dC dI cI cZ cF H.size r rx ry n cap X Y rg i (U i) (V i) (by first | with_reducible assumption | omega) (by first | with_reducible assumption | omega) (by first | with_reducible assumption | omega)) (csV_7 hts rfl rfl ⟨Nat.le_of_ble_eq_true rfl, Nat.le_of_ble_eq_true rfl⟩) (zPV2 (q0 := 0) (ci := 6) hPc hDc hK hXN rfl rfl) rfl rfl hl.1 rfl (lv_room (Nat.le_of_ble_eq_true rfl)) dX7_isAlike_41 ⟨Nat.le_of_ble_eq_true rfl, Nat.le_of_ble_eq_true rfl⟩) hS hFc hFc rfl (fun t H locs ht hB hk1 hS => ?_)
          obtain ⟨hP1, hD1⟩ := hB
          rw [ht] at hP1
          replace hP := z0 hP hD hk1 hP1 hI1
          clear hk1 hPc hDc hFc hP1 hD1 ht hI1
          refine lv_if_ne (tgt := 49) hx hb dX7_isAlike_44 rfl (fun c_8 => ?_) (fun c_8 => ?_)
          · have c_8 : (X i).toInt = (U i).toInt ∧ (Y i).toInt = (V i).toInt := zp_1 c_8
            refine lv_iinc (v := nI (i + 1)) (lv' := [(2, .int (nI (i + 1))), (0, .ref r), (1, .ref u)]) hx hb dX7_isAlike_49 hl (k := 0) rfl (nI_add i 1) (Nat.le_of_ble_eq_true rfl) rfl (fun ls hl => ?_)
            refine lv_goto (tgt := 19) hx hb dX7_isAlike_52 rfl ?_
            exact ih_19 (i + 1) H locs ls (by first | with_reducible assumption | omega) (by first | with_reducible assumption | omega) (hmn) (by intro k hk; rcases Nat.lt_or_ge k i with h | h; exact hall k h; have e9 : k = i := (by first | with_reducible assumption | omega); subst e9; assumption) hP hD hS (lv_sub hl [0, 1, 2] rfl)
          · have c_8 : ¬ ((X i).toInt = (U i).toInt ∧ (Y i).toInt = (V i).toInt) := zp_0 c_8
            refine lv_iconst (v := 0) hx hb dX7_isAlike_47 rfl ?_
            obtain ⟨hP9, hD9⟩ := zu_sub (wc := [_, _, _, _, _, _]) hP hD [true, true, true, true, true, true] rfl rfl
            rw [hQ9]
            exact W.zret (ty := .boolean) (v := 0) hx hb hr (rfl) (fun t ht hW => ⟨⟨congrArg (fun z => Outcome.returned (some (Value.int z))) (show (0 : Int32) = pI (m2 = n ∧ ∀ k, k < n → (X k).toInt = (U k).toInt ∧ (Y k).toInt = (V k).toInt) from (zp_f (fun h => absurd (h.2 i (by omega)) (by first | with_reducible assumption | assumption))).symm), by rw [ht]; exact hP9, hD9⟩, hS.F ht⟩) hS.2.2 dX7_isAlike_48
    exact hl_19 _ 0 s.heap [] ls (Nat.lt_succ_self _) (by first | with_reducible assumption | omega) (by first | with_reducible assumption | omega) (by intro k hk; omega) hP hD hS (lv_sub hl [0, 1, 2] rfl)
  · have c_1 : ¬ ((m2 : Nat) : Int) = ((n : Nat) : Int) := zc_ne (nI_toInt b9_2) (nI_toInt b9_3) c_1
    refine lv_iconst (v := 0) hx hb dX7_isAlike_15 rfl ?_
    obtain ⟨hP9, hD9⟩ := zu_sub (wc := [_, _, _, _, _, _]) hP hD [true, true, true, true, true, true] rfl rfl
    rw [hQ9]
    exact W.zret (ty := .boolean) (v := 0) hx hb hr (rfl) (fun t ht hW => ⟨⟨congrArg (fun z => Outcome.returned (some (Value.int z))) (show (0 : Int32) = pI (m2 = n ∧ ∀ k, k < n → (X k).toInt = (U k).toInt ∧ (Y k).toInt = (V k).toInt) from (zp_f (by omega)).symm), by rw [ht]; exact hP9, hD9⟩, hS.F ht⟩) hS.2.2 dX7_isAlike_16
set_option maxHeartbeats 4000000 in
set_option maxRecDepth 100000 in
theorem k_Row_doubleTriangle (l : Launch) (dC : Nat → ClassId) (dI : Nat → Nat → Nat) (cI cZ cF : ClassId) (sz : Nat) (r : Nat) (rx : Nat) (ry : Nat) (n : Nat) (cap : Nat) (X : Nat → Int32) (Y : Nat → Int32) (rg : Int32) (k : Nat) (hn : n ≤ cap) (hcap : cap ≤ 1000) (hp : pls n X Y) (hi : k < n) : zM l yX7_doubleTriangle cX7_doubleTriangle 3 (some .int) ({ frames := 1, cells := 0, slots := 0, locals := 24 } : Room) [.ref r, .int (nI k)] (dC, dI) (zTy cI cZ cF) [(oc6 r (.ref rx) (.ref ry) (nI n) rg), (oa rx cI cap X), (oa ry cI cap Y)] sz (some (.int (nI (Int.natAbs (eCr n X Y (prv n k) (X (nxt n k)).toInt (Y (nxt n k)).toInt))))) (fun A t => zPD (dC, dI) classes A [(oc6 r (.ref rx) (.ref ry) (nI n) rg), (oa rx cI cap X), (oa ry cI cap Y)] t.heap) 0 0 := by
  refine zIn (own := "ScaleShop$Row") (loc := [(0, .ref r), (1, .int (nI k))]) rfl rfl rfl rfl (fun p e s m below meth c hx hb hr hts hown hlocks hml hnm9 A hA hS hP hD hK hXN Q9 hQ9 ls hl => ?_)
  have hpv := prv_lt (n := n) (i := k) (by omega)
  have hnk := nxt_lt (n := n) (i := k) (by omega)
  have hB := crBp (hp _ hpv).1 (hp _ hpv).2 (hp _ (nxt_lt (n := n) (i := prv n k) (by omega))).1 (hp _ (nxt_lt (n := n) (i := prv n k) (by omega))).2 (hp _ hnk).1 (hp _ hnk).2
  have hB : -2000000 ≤ eCr n X Y (prv n k) (X (nxt n k)).toInt (Y (nxt n k)).toInt ∧ eCr n X Y (prv n k) (X (nxt n k)).toInt (Y (nxt n k)).toInt ≤ 2000000 := hB
  refine lv_aload_n hx hb dX7_doubleTriangle_0 rfl (lv_at hl 0 rfl) ?_
  refine lv_iload_n hx hb dX7_doubleTriangle_1 rfl (lv_at hl 1 rfl) ?_
  obtain ⟨hPc, hDc, hFc, hI1⟩ := zi_sub (wc := [_, _, _]) hP hD hS hA [0, 1, 2] rfl rfl
  refine zcall (st1 := [.int (nI (nxt n k))]) (va_runV (As := [.int (nI k)]) (rest := []) ⟨hx, hb, hml, hown, hts⟩ (k_Row_next l dC dI cI cZ cF s.heap.size r rx ry n cap X Y rg k (by first | with_reducible assumption | omega) (by first | with_reducible assumption | omega) (by first | with_reducible assumption | omega)) (csV_6 hts rfl rfl ⟨Nat.le_of_ble_eq_true rfl, Nat.le_of_ble_eq_true rfl⟩) (zPV2 (q0 := 0) (ci := 6) hPc hDc hK hXN rfl rfl) rfl rfl hl.1 rfl (lv_room (Nat.le_of_ble_eq_true rfl)) dX7_doubleTriangle_2 ⟨Nat.le_of_ble_eq_true rfl, Nat.le_of_ble_eq_true rfl⟩) hS hFc hFc rfl (fun t H locs ht hB hk1 hS => ?_)
  obtain ⟨hP1, hD1⟩ := hB
  rw [ht] at hP1
  replace hP := z0 hP hD hk1 hP1 hI1
  clear hk1 hPc hDc hFc hP1 hD1 ht hI1
  refine lv_istore_n (lv' := [(2, .int (nI (nxt n k))), (0, .ref r), (1, .int (nI k))]) hx hb dX7_doubleTriangle_5 rfl hl (Nat.le_of_ble_eq_true rfl) rfl (fun ls hl => ?_)
  refine lv_aload_n hx hb dX7_doubleTriangle_6 rfl (lv_at hl 1 rfl) ?_
  refine lv_aload_n hx hb dX7_doubleTriangle_7 rfl (lv_at hl 1 rfl) ?_
  refine lv_iload_n hx hb dX7_doubleTriangle_8 rfl (lv_at hl 2 rfl) ?_
  obtain ⟨hPc, hDc, hFc, hI1⟩ := zi_sub (wc := [_, _, _]) hP hD hS hA [0, 1, 2] rfl rfl
  refine zcall (st1 := [.int (nI (prv n k)), .ref r]) (va_runV (As := [.int (nI k)]) (rest := [.ref r]) ⟨hx, hb, hml, hown, hts⟩ (k_Row_previous l dC dI cI cZ cF H.size r rx ry n cap X Y rg k (by first | with_reducible assumption | omega) (by first | with_reducible assumption | omega) (by first | with_reducible assumption | omega)) (csV_5 hts rfl rfl ⟨Nat.le_of_ble_eq_true rfl, Nat.le_of_ble_eq_true rfl⟩) (zPV2 (q0 := 0) (ci := 6) hPc hDc hK hXN rfl rfl) rfl rfl hl.1 rfl (lv_room (Nat.le_of_ble_eq_true rfl)) dX7_doubleTriangle_9 ⟨Nat.le_of_ble_eq_true rfl, Nat.le_of_ble_eq_true rfl⟩) hS hFc hFc rfl (fun t H locs ht hB hk1 hS => ?_)
  obtain ⟨hP1, hD1⟩ := hB
  rw [ht] at hP1
  replace hP := z0 hP hD hk1 hP1 hI1
  clear hk1 hPc hDc hFc hP1 hD1 ht hI1
  refine lv_aload_n hx hb dX7_doubleTriangle_12 rfl (lv_at hl 1 rfl) ?_
  refine va_get (D := (dC, dI)) (ci := 6) (v := .ref rx) (C := RX7) (T := TX7) (N := 4) hx hb hts inX7 hown hK hP 0 rfl rfl 0 (Nat.le_of_ble_eq_true rfl) (hts _ mw_161) (fun _ h9 => h9) rfl dX7_doubleTriangle_13 ?_
  refine lv_iload_n hx hb dX7_doubleTriangle_16 rfl (lv_at hl 0 rfl) ?_
  have b9_1 : nxt n k < cap := by omega
  have b9_2 : zlt (cap) := show cap < 2147483648 by omega
  refine z_iald hx hb hK hP 1 0 rfl rfl (e := nxt n k) rfl b9_1 b9_2 dX7_doubleTriangle_17 ?_
  refine lv_aload_n hx hb dX7_doubleTriangle_18 rfl (lv_at hl 1 rfl) ?_
  refine va_get (D := (dC, dI)) (ci := 6) (v := .ref ry) (C := RX7) (T := TX7) (N := 4) hx hb hts inX7 hown hK hP 0 rfl rfl 1 (Nat.le_of_ble_eq_true rfl) (hts _ mw_168) (fun _ h9 => h9) rfl dX7_doubleTriangle_19 ?_
  refine lv_iload_n hx hb dX7_doubleTriangle_22 rfl (lv_at hl 0 rfl) ?_
  refine z_iald hx hb hK hP 2 0 rfl rfl (e := nxt n k) rfl b9_1 b9_2 dX7_doubleTriangle_23 ?_
  obtain ⟨hPc, hDc, hFc, hI1⟩ := zi_sub (wc := [_, _, _]) hP hD hS hA [0, 1, 2] rfl rfl
  refine zcall (st1 := [.int (iI (eCr n X Y (prv n k) (X (nxt n k)).toInt (Y (nxt n k)).toInt))]) (va_runV (As := [.int (nI (prv n k)), .int (X (nxt n k)), .int (Y (nxt n k))]) (rest := []) ⟨hx, hb, hml, hown, hts⟩ (k_Row_turn l dC dI cI cZ cF H.size r rx ry n cap X Y rg (prv n k) (X (nxt n k)) (Y (nxt n k)) (by first | with_reducible assumption | omega) (by first | with_reducible assumption | omega) (by first | with_reducible assumption | assumption) (by first | with_reducible assumption | omega) ((hp _ hnk).1) ((hp _ hnk).2)) (csV_1 hts rfl rfl ⟨Nat.le_of_ble_eq_true rfl, Nat.le_of_ble_eq_true rfl⟩) (zPV2 (q0 := 0) (ci := 6) hPc hDc hK hXN rfl rfl) rfl rfl hl.1 rfl (lv_room (Nat.le_of_ble_eq_true rfl)) dX7_doubleTriangle_24 ⟨Nat.le_of_ble_eq_true rfl, Nat.le_of_ble_eq_true rfl⟩) hS hFc hFc rfl (fun t H locs ht hB hk1 hS => ?_)
  obtain ⟨hP1, hD1⟩ := hB
  rw [ht] at hP1
  replace hP := z0 hP hD hk1 hP1 hI1
  clear hk1 hPc hDc hFc hP1 hD1 ht hI1
  refine va_mabs hx hb (by rw [hml]; exact hl.1.symm) hown (hts _ mw_588) (hts _ mw_589) (hts _ mw_103) (hts _ mw_abscode) (Nat.le_of_ble_eq_true rfl) (Nat.le_of_ble_eq_true rfl) (Nat.le_of_ble_eq_true rfl) (Nat.le_of_ble_eq_true rfl) dX7_doubleTriangle_27 ?_
  refine zz_i (v := nI (Int.natAbs (eCr n X Y (prv n k) (X (nxt n k)).toInt (Y (nxt n k)).toInt))) (zabs (iI_toInt (by omega)) (by omega)) ?_
  obtain ⟨hP9, hD9⟩ := zu_sub (wc := [_, _, _]) hP hD [true, true, true] rfl rfl
  rw [hQ9]
  exact W.iret (v := nI (Int.natAbs (eCr n X Y (prv n k) (X (nxt n k)).toInt (Y (nxt n k)).toInt))) hx hb hr (fun t ht hW => ⟨⟨rfl, by rw [ht]; exact hP9, hD9⟩, hS.F ht⟩) hS.2.2 dX7_doubleTriangle_30
set_option maxHeartbeats 4000000 in
set_option maxRecDepth 100000 in
theorem k_Row_doubleArea (l : Launch) (dC : Nat → ClassId) (dI : Nat → Nat → Nat) (cI cZ cF : ClassId) (sz : Nat) (r : Nat) (rx : Nat) (ry : Nat) (n : Nat) (cap : Nat) (X : Nat → Int32) (Y : Nat → Int32) (rg : Int32) (hn : n ≤ cap) (hcap : cap ≤ 1000) (hp : pls n X Y) : zM l yX7_doubleArea cX7_doubleArea 4 (some .int) ({ frames := 1, cells := 0, slots := 0, locals := 21 } : Room) [.ref r] (dC, dI) (zTy cI cZ cF) [(oc6 r (.ref rx) (.ref ry) (nI n) rg), (oa rx cI cap X), (oa ry cI cap Y)] sz (some (.int (nI (Int.natAbs (ar2 n X Y n))))) (fun A t => zPD (dC, dI) classes A [(oc6 r (.ref rx) (.ref ry) (nI n) rg), (oa rx cI cap X), (oa ry cI cap Y)] t.heap) 0 0 := by
  refine zIn (own := "ScaleShop$Row") (loc := [(0, .ref r)]) rfl rfl rfl rfl (fun p e s m below meth c hx hb hr hts hown hlocks hml hnm9 A hA hS hP hD hK hXN Q9 hQ9 ls hl => ?_)
  refine lv_iconst (v := 0) hx hb dX7_doubleArea_0 rfl ?_
  refine lv_istore_n (lv' := [(1, .int 0), (0, .ref r)]) hx hb dX7_doubleArea_1 rfl hl (Nat.le_of_ble_eq_true rfl) rfl (fun ls hl => ?_)
  refine lv_iconst (v := 0) hx hb dX7_doubleArea_2 rfl ?_
  refine lv_istore_n (lv' := [(2, .int 0), (1, .int 0), (0, .ref r)]) hx hb dX7_doubleArea_3 rfl hl (Nat.le_of_ble_eq_true rfl) rfl (fun ls hl => ?_)
  have hl_4 : ∀ (n9 : Nat) (i : Nat) (H : Heap) (locs : List Loc) (ls : Array Slot), n - i < n9 → (i ≤ n) → va_P (dC, dI) classes [(oc6 r (.ref rx) (.ref ry) (nI n) rg), (oa rx cI cap X), (oa ry cI cap Y)] H → va_D A [(oc6 r (.ref rx) (.ref ry) (nI n) rg), (oa rx cI cap X), (oa ry cI cap Y)] → va_S A s.heap H locs → lv_has ls 4 [(2, .int (nI i)), (1, .int (iI (ar2 n X Y i))), (0, .ref r)] → W p l e ({ frames := 1, cells := 0, slots := 0, locals := 21 } : Room) s m ([.ref r] : List Value).toArray below meth c H locs 0 0 Q9 (F0 m 4 ls []) := by
    intro n9
    induction n9 with
    | zero => intro i H locs ls hm; exact absurd hm (Nat.not_lt_zero _)
    | succ n9 ih_4 =>
      intro i H locs ls hm hi hP hD hS hl
      have hB := ar2B hp i hi
      refine lv_iload_n hx hb dX7_doubleArea_4 rfl (lv_at hl 0 rfl) ?_
      refine lv_aload_n hx hb dX7_doubleArea_5 rfl (lv_at hl 2 rfl) ?_
      refine va_get (D := (dC, dI)) (ci := 6) (v := .int (nI n)) (C := RX7) (T := TX7) (N := 4) hx hb hts inX7 hown hK hP 0 rfl rfl 2 (Nat.le_of_ble_eq_true rfl) (hts _ mw_175) (fun _ h9 => h9) rfl dX7_doubleArea_6 ?_
      have b9_2 : zlt (i) := show i < 2147483648 by omega
      have b9_3 : zlt (n) := show n < 2147483648 by omega
      refine lv_icmp_ge (tgt := 54) hx hb dX7_doubleArea_9 rfl (fun c_1 => ?_) (fun c_1 => ?_)
      · have c_1 : ((n : Nat) : Int) ≤ ((i : Nat) : Int) := zc_le (nI_toInt b9_3) (nI_toInt b9_2) c_1
        refine lv_iload_n hx hb dX7_doubleArea_54 rfl (lv_at hl 1 rfl) ?_
        refine va_mabs hx hb (by rw [hml]; exact hl.1.symm) hown (hts _ mw_588) (hts _ mw_589) (hts _ mw_103) (hts _ mw_abscode) (Nat.le_of_ble_eq_true rfl) (Nat.le_of_ble_eq_true rfl) (Nat.le_of_ble_eq_true rfl) (Nat.le_of_ble_eq_true rfl) dX7_doubleArea_55 ?_
        refine zz_i (v := nI (Int.natAbs (ar2 n X Y i))) (zabs (iI_toInt (by omega)) (by omega)) ?_
        obtain ⟨hP9, hD9⟩ := zu_sub (wc := [_, _, _]) hP hD [true, true, true] rfl rfl
        rw [hQ9]
        exact W.iret (v := nI (Int.natAbs (ar2 n X Y i))) hx hb hr (fun t ht hW => ⟨⟨congrArg (fun z => Outcome.returned (some (Value.int z))) (show (nI (Int.natAbs (ar2 n X Y i)) : Int32) = nI (Int.natAbs (ar2 n X Y n)) from by rw [show i = n by omega]), by rw [ht]; exact hP9, hD9⟩, hS.F ht⟩) hS.2.2 dX7_doubleArea_58
      · have c_1 : ((i : Nat) : Int) < ((n : Nat) : Int) := zc_nle (nI_toInt b9_3) (nI_toInt b9_2) c_1
        have hnx := nxt_lt (n := n) (i := i) (by omega)
        have hq1 := xyB (hp i (by omega)).1 (hp _ hnx).2
        have hq2 := xyB (hp _ hnx).1 (hp i (by omega)).2
        refine lv_aload_n hx hb dX7_doubleArea_12 rfl (lv_at hl 2 rfl) ?_
        refine lv_iload_n hx hb dX7_doubleArea_13 rfl (lv_at hl 0 rfl) ?_
        obtain ⟨hPc, hDc, hFc, hI1⟩ := zi_sub (wc := [_, _, _]) hP hD hS hA [0, 1, 2] rfl rfl
        refine zcall (st1 := [.int (nI (nxt n i))]) (va_runV (As := [.int (nI i)]) (rest := []) ⟨hx, hb, hml, hown, hts⟩ (k_Row_next l dC dI cI cZ cF H.size r rx ry n cap X Y rg i (by first | with_reducible assumption | omega) (by first | with_reducible assumption | omega) (by first | with_reducible assumption | omega)) (csV_6 hts rfl rfl ⟨Nat.le_of_ble_eq_true rfl, Nat.le_of_ble_eq_true rfl⟩) (zPV2 (q0 := 0) (ci := 6) hPc hDc hK hXN rfl rfl) rfl rfl hl.1 rfl (lv_room (Nat.le_of_ble_eq_true rfl)) dX7_doubleArea_14 ⟨Nat.le_of_ble_eq_true rfl, Nat.le_of_ble_eq_true rfl⟩) hS hFc hFc rfl (fun t H locs ht hB hk1 hS => ?_)
        obtain ⟨hP1, hD1⟩ := hB
        rw [ht] at hP1
        replace hP := z0 hP hD hk1 hP1 hI1
        clear hk1 hPc hDc hFc hP1 hD1 ht hI1
        refine lv_istore_n (lv' := [(3, .int (nI (nxt n i))), (2, .int (nI i)), (1, .int (iI (ar2 n X Y i))), (0, .ref r)]) hx hb dX7_doubleArea_17 rfl hl (Nat.le_of_ble_eq_true rfl) rfl (fun ls hl => ?_)
        refine lv_iload_n hx hb dX7_doubleArea_18 rfl (lv_at hl 2 rfl) ?_
        refine lv_aload_n hx hb dX7_doubleArea_19 rfl (lv_at hl 3 rfl) ?_
        refine va_get (D := (dC, dI)) (ci := 6) (v := .ref rx) (C := RX7) (T := TX7) (N := 4) hx hb hts inX7 hown hK hP 0 rfl rfl 0 (Nat.le_of_ble_eq_true rfl) (hts _ mw_161) (fun _ h9 => h9) rfl dX7_doubleArea_20 ?_
        refine lv_iload_n hx hb dX7_doubleArea_23 rfl (lv_at hl 1 rfl) ?_
        have b9_4 : i < cap := by omega
        have b9_5 : zlt (cap) := show cap < 2147483648 by omega
        refine z_iald hx hb hK hP 1 0 rfl rfl (e := i) rfl b9_4 b9_5 dX7_doubleArea_24 ?_
        refine lv_aload_n hx hb dX7_doubleArea_25 rfl (lv_at hl 3 rfl) ?_
        refine va_get (D := (dC, dI)) (ci := 6) (v := .ref ry) (C := RX7) (T := TX7) (N := 4) hx hb hts inX7 hown hK hP 0 rfl rfl 1 (Nat.le_of_ble_eq_true rfl) (hts _ mw_168) (fun _ h9 => h9) rfl dX7_doubleArea_26 ?_
        refine lv_iload_n hx hb dX7_doubleArea_29 rfl (lv_at hl 0 rfl) ?_
        have b9_6 : nxt n i < cap := by omega
        refine z_iald hx hb hK hP 2 0 rfl rfl (e := nxt n i) rfl b9_6 b9_5 dX7_doubleArea_30 ?_
        refine lv_imul hx hb dX7_doubleArea_31 ?_
        refine lv_aload_n hx hb dX7_doubleArea_32 rfl (lv_at hl 3 rfl) ?_
        refine va_get (D := (dC, dI)) (ci := 6) (v := .ref rx) (C := RX7) (T := TX7) (N := 4) hx hb hts inX7 hown hK hP 0 rfl rfl 0 (Nat.le_of_ble_eq_true rfl) (hts _ mw_161) (fun _ h9 => h9) rfl dX7_doubleArea_33 ?_
        refine lv_iload_n hx hb dX7_doubleArea_36 rfl (lv_at hl 0 rfl) ?_
        refine z_iald hx hb hK hP 1 0 rfl rfl (e := nxt n i) rfl b9_6 b9_5 dX7_doubleArea_37 ?_
        refine lv_aload_n hx hb dX7_doubleArea_38 rfl (lv_at hl 3 rfl) ?_
        refine va_get (D := (dC, dI)) (ci := 6) (v := .ref ry) (C := RX7) (T := TX7) (N := 4) hx hb hts inX7 hown hK hP 0 rfl rfl 1 (Nat.le_of_ble_eq_true rfl) (hts _ mw_168) (fun _ h9 => h9) rfl dX7_doubleArea_39 ?_
        refine lv_iload_n hx hb dX7_doubleArea_42 rfl (lv_at hl 1 rfl) ?_
        refine z_iald hx hb hK hP 2 0 rfl rfl (e := i) rfl b9_4 b9_5 dX7_doubleArea_43 ?_
        refine lv_imul hx hb dX7_doubleArea_44 ?_
        refine lv_isub hx hb dX7_doubleArea_45 ?_
        refine zz_i (v := iI ((X i).toInt * (Y (nxt n i)).toInt - (X (nxt n i)).toInt * (Y i).toInt)) (xyI (hp i (by omega)).1 (hp _ hnx).2 (hp _ hnx).1 (hp i (by omega)).2) ?_
        refine lv_iadd hx hb dX7_doubleArea_46 ?_
        refine zz_i (v := iI (ar2 n X Y i + ((X i).toInt * (Y (nxt n i)).toInt - (X (nxt n i)).toInt * (Y i).toInt))) (iI_add (by omega) (by omega)) ?_
        refine lv_istore_n (lv' := [(1, .int (iI (ar2 n X Y i + ((X i).toInt * (Y (nxt n i)).toInt - (X (nxt n i)).toInt * (Y i).toInt)))), (3, .int (nI (nxt n i))), (2, .int (nI i)), (0, .ref r)]) hx hb dX7_doubleArea_47 rfl hl (Nat.le_of_ble_eq_true rfl) rfl (fun ls hl => ?_)
        refine lv_iinc (v := nI (i + 1)) (lv' := [(2, .int (nI (i + 1))), (1, .int (iI (ar2 n X Y i + ((X i).toInt * (Y (nxt n i)).toInt - (X (nxt n i)).toInt * (Y i).toInt)))), (3, .int (nI (nxt n i))), (0, .ref r)]) hx hb dX7_doubleArea_48 hl (k := 2) rfl (nI_add i 1) (Nat.le_of_ble_eq_true rfl) rfl (fun ls hl => ?_)
        refine lv_goto (tgt := 4) hx hb dX7_doubleArea_51 rfl ?_
        have hl9 := lv_sub hl [0, 1, 3] rfl
        have e9_1 : iI (ar2 n X Y (i + 1)) = (iI (ar2 n X Y i + ((X i).toInt * (Y (nxt n i)).toInt - (X (nxt n i)).toInt * (Y i).toInt)) : Int32) := by rfl
        have hl9 : lv_has ls 4 [(2, .int (nI (i + 1))), (1, .int (iI (ar2 n X Y (i + 1)))), (0, .ref r)] := by rw [e9_1]; exact hl9
        exact ih_4 (i + 1) H locs ls (by first | with_reducible assumption | omega) (by first | with_reducible assumption | omega) hP hD hS hl9
  have e9_1 : iI (ar2 n X Y 0) = (0 : Int32) := by rfl
  have hl9 : lv_has ls 4 [(2, .int (nI 0)), (1, .int (iI (ar2 n X Y 0))), (0, .ref r)] := by rw [e9_1]; exact lv_sub hl [0, 1, 2] rfl
  exact hl_4 _ 0 s.heap [] ls (Nat.lt_succ_self _) (by first | with_reducible assumption | omega) hP hD hS hl9
set_option maxHeartbeats 4000000 in
set_option maxRecDepth 100000 in
theorem k_Row_length (l : Launch) (dC : Nat → ClassId) (dI : Nat → Nat → Nat) (cI cZ cF : ClassId) (sz : Nat) (r : Nat) (rx : Nat) (ry : Nat) (n : Nat) (cap : Nat) (X : Nat → Int32) (Y : Nat → Int32) (rg : Int32) (hn : n ≤ cap) (hcap : cap ≤ 1000) (hp : pls n X Y) (h1n : 1 ≤ n) : zM l yX7_length cX7_length 3 (some .int) ({ frames := 1, cells := 0, slots := 0, locals := 15 } : Room) [.ref r] (dC, dI) (zTy cI cZ cF) [(oc6 r (.ref rx) (.ref ry) (nI n) rg), (oa rx cI cap X), (oa ry cI cap Y)] sz (some (.int (nI (ln2 X Y (n - 1))))) (fun A t => zPD (dC, dI) classes A [(oc6 r (.ref rx) (.ref ry) (nI n) rg), (oa rx cI cap X), (oa ry cI cap Y)] t.heap) 0 0 := by
  refine zIn (own := "ScaleShop$Row") (loc := [(0, .ref r)]) rfl rfl rfl rfl (fun p e s m below meth c hx hb hr hts hown hlocks hml hnm9 A hA hS hP hD hK hXN Q9 hQ9 ls hl => ?_)
  refine lv_iconst (v := 0) hx hb dX7_length_0 rfl ?_
  refine lv_istore_n (lv' := [(1, .int 0), (0, .ref r)]) hx hb dX7_length_1 rfl hl (Nat.le_of_ble_eq_true rfl) rfl (fun ls hl => ?_)
  refine lv_iconst (v := 0) hx hb dX7_length_2 rfl ?_
  refine lv_istore_n (lv' := [(2, .int 0), (1, .int 0), (0, .ref r)]) hx hb dX7_length_3 rfl hl (Nat.le_of_ble_eq_true rfl) rfl (fun ls hl => ?_)
  have hl_4 : ∀ (n9 : Nat) (i : Nat) (H : Heap) (locs : List Loc) (ls : Array Slot), n - i < n9 → (i ≤ n - 1) → va_P (dC, dI) classes [(oc6 r (.ref rx) (.ref ry) (nI n) rg), (oa rx cI cap X), (oa ry cI cap Y)] H → va_D A [(oc6 r (.ref rx) (.ref ry) (nI n) rg), (oa rx cI cap X), (oa ry cI cap Y)] → va_S A s.heap H locs → lv_has ls 3 [(2, .int (nI i)), (1, .int (nI (ln2 X Y i))), (0, .ref r)] → W p l e ({ frames := 1, cells := 0, slots := 0, locals := 15 } : Room) s m ([.ref r] : List Value).toArray below meth c H locs 0 0 Q9 (F0 m 4 ls []) := by
    intro n9
    induction n9 with
    | zero => intro i H locs ls hm; exact absurd hm (Nat.not_lt_zero _)
    | succ n9 ih_4 =>
      intro i H locs ls hm hi hP hD hS hl
      have hB := ln2B hp i (by omega)
      refine lv_iload_n hx hb dX7_length_4 rfl (lv_at hl 0 rfl) ?_
      refine lv_aload_n hx hb dX7_length_5 rfl (lv_at hl 2 rfl) ?_
      refine va_get (D := (dC, dI)) (ci := 6) (v := .int (nI n)) (C := RX7) (T := TX7) (N := 4) hx hb hts inX7 hown hK hP 0 rfl rfl 2 (Nat.le_of_ble_eq_true rfl) (hts _ mw_175) (fun _ h9 => h9) rfl dX7_length_6 ?_
      refine lv_iconst (v := 1) hx hb dX7_length_9 rfl ?_
      refine lv_isub hx hb dX7_length_10 ?_
      refine zz_i (v := nI (n - 1)) (pk_sub (a := n) (b := 1) (by omega)) ?_
      have b9_2 : zlt (i) := show i < 2147483648 by omega
      have b9_3 : zlt ((n - 1)) := show (n - 1) < 2147483648 by omega
      refine lv_icmp_ge (tgt := 60) hx hb dX7_length_11 rfl (fun c_1 => ?_) (fun c_1 => ?_)
      · have c_1 : ((n - 1 : Nat) : Int) ≤ ((i : Nat) : Int) := zc_le (nI_toInt b9_3) (nI_toInt b9_2) c_1
        refine lv_iload_n hx hb dX7_length_60 rfl (lv_at hl 1 rfl) ?_
        obtain ⟨hP9, hD9⟩ := zu_sub (wc := [_, _, _]) hP hD [true, true, true] rfl rfl
        rw [hQ9]
        exact W.iret (v := nI (ln2 X Y i)) hx hb hr (fun t ht hW => ⟨⟨congrArg (fun z => Outcome.returned (some (Value.int z))) (show (nI (ln2 X Y i) : Int32) = nI (ln2 X Y (n - 1)) from by rw [show i = n - 1 by omega]), by rw [ht]; exact hP9, hD9⟩, hS.F ht⟩) hS.2.2 dX7_length_61
      · have c_1 : ((i : Nat) : Int) < ((n - 1 : Nat) : Int) := zc_nle (nI_toInt b9_3) (nI_toInt b9_2) c_1
        have ha := hp i (by omega)
        have hb9 := hp (i + 1) (by omega)
        unfold pl at ha hb9
        have ex : (X (i + 1) - X i).toInt = (X (i + 1)).toInt - (X i).toInt := fb_subI (by omega) (by omega)
        have ey : (Y (i + 1) - Y i).toInt = (Y (i + 1)).toInt - (Y i).toInt := fb_subI (by omega) (by omega)
        refine lv_iload_n hx hb dX7_length_14 rfl (lv_at hl 1 rfl) ?_
        refine lv_aload_n hx hb dX7_length_15 rfl (lv_at hl 2 rfl) ?_
        refine va_get (D := (dC, dI)) (ci := 6) (v := .ref rx) (C := RX7) (T := TX7) (N := 4) hx hb hts inX7 hown hK hP 0 rfl rfl 0 (Nat.le_of_ble_eq_true rfl) (hts _ mw_161) (fun _ h9 => h9) rfl dX7_length_16 ?_
        refine lv_iload_n hx hb dX7_length_19 rfl (lv_at hl 0 rfl) ?_
        refine lv_iconst (v := 1) hx hb dX7_length_20 rfl ?_
        refine lv_iadd hx hb dX7_length_21 ?_
        refine zz_i (v := nI (i + 1)) (nI_add i 1) ?_
        have b9_4 : i + 1 < cap := by omega
        have b9_5 : zlt (cap) := show cap < 2147483648 by omega
        refine z_iald hx hb hK hP 1 0 rfl rfl (e := i + 1) rfl b9_4 b9_5 dX7_length_22 ?_
        refine lv_aload_n hx hb dX7_length_23 rfl (lv_at hl 2 rfl) ?_
        refine va_get (D := (dC, dI)) (ci := 6) (v := .ref rx) (C := RX7) (T := TX7) (N := 4) hx hb hts inX7 hown hK hP 0 rfl rfl 0 (Nat.le_of_ble_eq_true rfl) (hts _ mw_161) (fun _ h9 => h9) rfl dX7_length_24 ?_
        refine lv_iload_n hx hb dX7_length_27 rfl (lv_at hl 0 rfl) ?_
        have b9_6 : i < cap := by omega
        refine z_iald hx hb hK hP 1 0 rfl rfl (e := i) rfl b9_6 b9_5 dX7_length_28 ?_
        refine lv_isub hx hb dX7_length_29 ?_
        refine zz_i (v := iI ((X (i + 1)).toInt - (X i).toInt)) (iI_of ex) ?_
        refine va_mabs hx hb (by rw [hml]; exact hl.1.symm) hown (hts _ mw_588) (hts _ mw_589) (hts _ mw_103) (hts _ mw_abscode) (Nat.le_of_ble_eq_true rfl) (Nat.le_of_ble_eq_true rfl) (Nat.le_of_ble_eq_true rfl) (Nat.le_of_ble_eq_true rfl) dX7_length_30 ?_
        refine zz_i (v := nI (Int.natAbs ((X (i + 1)).toInt - (X i).toInt))) (zabs (iI_toInt (by omega)) (by omega)) ?_
        refine lv_aload_n hx hb dX7_length_33 rfl (lv_at hl 2 rfl) ?_
        refine va_get (D := (dC, dI)) (ci := 6) (v := .ref ry) (C := RX7) (T := TX7) (N := 4) hx hb hts inX7 hown hK hP 0 rfl rfl 1 (Nat.le_of_ble_eq_true rfl) (hts _ mw_168) (fun _ h9 => h9) rfl dX7_length_34 ?_
        refine lv_iload_n hx hb dX7_length_37 rfl (lv_at hl 0 rfl) ?_
        refine lv_iconst (v := 1) hx hb dX7_length_38 rfl ?_
        refine lv_iadd hx hb dX7_length_39 ?_
        refine zz_i (v := nI (i + 1)) (nI_add i 1) ?_
        refine z_iald hx hb hK hP 2 0 rfl rfl (e := i + 1) rfl b9_4 b9_5 dX7_length_40 ?_
        refine lv_aload_n hx hb dX7_length_41 rfl (lv_at hl 2 rfl) ?_
        refine va_get (D := (dC, dI)) (ci := 6) (v := .ref ry) (C := RX7) (T := TX7) (N := 4) hx hb hts inX7 hown hK hP 0 rfl rfl 1 (Nat.le_of_ble_eq_true rfl) (hts _ mw_168) (fun _ h9 => h9) rfl dX7_length_42 ?_
        refine lv_iload_n hx hb dX7_length_45 rfl (lv_at hl 0 rfl) ?_
        refine z_iald hx hb hK hP 2 0 rfl rfl (e := i) rfl b9_6 b9_5 dX7_length_46 ?_
        refine lv_isub hx hb dX7_length_47 ?_
        refine zz_i (v := iI ((Y (i + 1)).toInt - (Y i).toInt)) (iI_of ey) ?_
        refine va_mabs hx hb (by rw [hml]; exact hl.1.symm) hown (hts _ mw_588) (hts _ mw_589) (hts _ mw_103) (hts _ mw_abscode) (Nat.le_of_ble_eq_true rfl) (Nat.le_of_ble_eq_true rfl) (Nat.le_of_ble_eq_true rfl) (Nat.le_of_ble_eq_true rfl) dX7_length_48 ?_
        refine zz_i (v := nI (Int.natAbs ((Y (i + 1)).toInt - (Y i).toInt))) (zabs (iI_toInt (by omega)) (by omega)) ?_
        refine lv_iadd hx hb dX7_length_51 ?_
        refine zz_i (v := nI ((Int.natAbs ((X (i + 1)).toInt - (X i).toInt)) + (Int.natAbs ((Y (i + 1)).toInt - (Y i).toInt)))) (nI_add (Int.natAbs ((X (i + 1)).toInt - (X i).toInt)) (Int.natAbs ((Y (i + 1)).toInt - (Y i).toInt))) ?_
        refine lv_iadd hx hb dX7_length_52 ?_
        refine zz_i (v := nI ((ln2 X Y i) + ((Int.natAbs ((X (i + 1)).toInt - (X i).toInt)) + (Int.natAbs ((Y (i + 1)).toInt - (Y i).toInt))))) (nI_add (ln2 X Y i) ((Int.natAbs ((X (i + 1)).toInt - (X i).toInt)) + (Int.natAbs ((Y (i + 1)).toInt - (Y i).toInt)))) ?_
        refine lv_istore_n (lv' := [(1, .int (nI ((ln2 X Y i) + ((Int.natAbs ((X (i + 1)).toInt - (X i).toInt)) + (Int.natAbs ((Y (i + 1)).toInt - (Y i).toInt)))))), (2, .int (nI i)), (0, .ref r)]) hx hb dX7_length_53 rfl hl (Nat.le_of_ble_eq_true rfl) rfl (fun ls hl => ?_)
        refine lv_iinc (v := nI (i + 1)) (lv' := [(2, .int (nI (i + 1))), (1, .int (nI ((ln2 X Y i) + ((Int.natAbs ((X (i + 1)).toInt - (X i).toInt)) + (Int.natAbs ((Y (i + 1)).toInt - (Y i).toInt)))))), (0, .ref r)]) hx hb dX7_length_54 hl (k := 1) rfl (nI_add i 1) (Nat.le_of_ble_eq_true rfl) rfl (fun ls hl => ?_)
        refine lv_goto (tgt := 4) hx hb dX7_length_57 rfl ?_
        have hl9 := lv_sub hl [0, 1, 2] rfl
        have e9_1 : nI (ln2 X Y (i + 1)) = (nI ((ln2 X Y i) + ((Int.natAbs ((X (i + 1)).toInt - (X i).toInt)) + (Int.natAbs ((Y (i + 1)).toInt - (Y i).toInt)))) : Int32) := by rfl
        have hl9 : lv_has ls 3 [(2, .int (nI (i + 1))), (1, .int (nI (ln2 X Y (i + 1)))), (0, .ref r)] := by rw [e9_1]; exact hl9
        exact ih_4 (i + 1) H locs ls (by first | with_reducible assumption | omega) (by first | with_reducible assumption | omega) hP hD hS hl9
  have e9_1 : nI (ln2 X Y 0) = (0 : Int32) := by rfl
  have hl9 : lv_has ls 3 [(2, .int (nI 0)), (1, .int (nI (ln2 X Y 0))), (0, .ref r)] := by rw [e9_1]; exact lv_sub hl [0, 1, 2] rfl
  exact hl_4 _ 0 s.heap [] ls (Nat.lt_succ_self _) (by first | with_reducible assumption | omega) hP hD hS hl9
end
section
set_option maxHeartbeats 4000000 in
set_option maxRecDepth 100000 in
theorem k_isWithin (l : Launch) (dC : Nat → ClassId) (dI : Nat → Nat → Nat) (cI cZ cF : ClassId) (sz : Nat) (v : Int32) (v1 : Int32) (v2 : Int32) : zM l yX10_isWithin cX10_isWithin 3 (some .boolean) ({ frames := 0, cells := 0, slots := 0, locals := 0 } : Room) [.int v, .int v1, .int v2] (dC, dI) (zTy cI cZ cF) [] sz (some (.int (pI (v1.toInt ≤ v.toInt ∧ v.toInt ≤ v2.toInt)))) (fun A t => zPD (dC, dI) classes A [] t.heap) 0 0 := by
  refine zIn (own := "ScaleShop") (loc := [(0, .int v), (1, .int v1), (2, .int v2)]) rfl rfl rfl rfl (fun p e s m below meth c hx hb hr hts hown hlocks hml hnm9 A hA hS hP hD hK hXN Q9 hQ9 ls hl => ?_)
  refine lv_iload_n hx hb dX10_isWithin_0 rfl (lv_at hl 0 rfl) ?_
  refine lv_iload_n hx hb dX10_isWithin_1 rfl (lv_at hl 1 rfl) ?_
  refine lv_icmp_lt (tgt := 14) hx hb dX10_isWithin_2 rfl (fun c_1 => ?_) (fun c_1 => ?_)
  · have c_1 : v.toInt < v1.toInt := zc_lt rfl rfl c_1
    refine lv_iconst (v := 0) hx hb dX10_isWithin_14 rfl ?_
    obtain ⟨hP9, hD9⟩ := zu_sub (wc := []) hP hD [] rfl rfl
    rw [hQ9]
    exact W.zret (ty := .boolean) (v := 0) hx hb hr (rfl) (fun t ht hW => ⟨⟨congrArg (fun z => Outcome.returned (some (Value.int z))) (show (0 : Int32) = pI (v1.toInt ≤ v.toInt ∧ v.toInt ≤ v2.toInt) from (zp_f (by omega)).symm), by rw [ht]; exact hP9, hD9⟩, hS.F ht⟩) hS.2.2 dX10_isWithin_15
  · have c_1 : v1.toInt ≤ v.toInt := zc_nlt rfl rfl c_1
    refine lv_iload_n hx hb dX10_isWithin_5 rfl (lv_at hl 0 rfl) ?_
    refine lv_iload_n hx hb dX10_isWithin_6 rfl (lv_at hl 2 rfl) ?_
    refine lv_icmp_gt (tgt := 14) hx hb dX10_isWithin_7 rfl (fun c_2 => ?_) (fun c_2 => ?_)
    · have c_2 : v2.toInt < v.toInt := zc_lt rfl rfl c_2
      refine lv_iconst (v := 0) hx hb dX10_isWithin_14 rfl ?_
      obtain ⟨hP9, hD9⟩ := zu_sub (wc := []) hP hD [] rfl rfl
      rw [hQ9]
      exact W.zret (ty := .boolean) (v := 0) hx hb hr (rfl) (fun t ht hW => ⟨⟨congrArg (fun z => Outcome.returned (some (Value.int z))) (show (0 : Int32) = pI (v1.toInt ≤ v.toInt ∧ v.toInt ≤ v2.toInt) from (zp_f (by omega)).symm), by rw [ht]; exact hP9, hD9⟩, hS.F ht⟩) hS.2.2 dX10_isWithin_15
    · have c_2 : v.toInt ≤ v2.toInt := zc_nlt rfl rfl c_2
      refine lv_iconst (v := 1) hx hb dX10_isWithin_10 rfl ?_
      refine lv_goto (tgt := 15) hx hb dX10_isWithin_11 rfl ?_
      obtain ⟨hP9, hD9⟩ := zu_sub (wc := []) hP hD [] rfl rfl
      rw [hQ9]
      exact W.zret (ty := .boolean) (v := 1) hx hb hr (rfl) (fun t ht hW => ⟨⟨congrArg (fun z => Outcome.returned (some (Value.int z))) (show (1 : Int32) = pI (v1.toInt ≤ v.toInt ∧ v.toInt ≤ v2.toInt) from (zp_t (by omega)).symm), by rw [ht]; exact hP9, hD9⟩, hS.F ht⟩) hS.2.2 dX10_isWithin_15
set_option maxHeartbeats 4000000 in
set_option maxRecDepth 100000 in
theorem k_isPlace (l : Launch) (dC : Nat → ClassId) (dI : Nat → Nat → Nat) (cI cZ cF : ClassId) (sz : Nat) (px : Int32) (py : Int32) : zM l yX10_isPlace cX10_isPlace 2 (some .boolean) ({ frames := 1, cells := 0, slots := 0, locals := 22 } : Room) [.int px, .int py] (dC, dI) (zTy cI cZ cF) [] sz (some (.int (pI (pl px ∧ pl py)))) (fun A t => zPD (dC, dI) classes A [] t.heap) 0 0 := by
  refine zIn (own := "ScaleShop") (loc := [(0, .int px), (1, .int py)]) rfl rfl rfl rfl (fun p e s m below meth c hx hb hr hts hown hlocks hml hnm9 A hA hS hP hD hK hXN Q9 hQ9 ls hl => ?_)
  refine lv_iload_n hx hb dX10_isPlace_0 rfl (lv_at hl 0 rfl) ?_
  refine lv_iconst (v := 0) hx hb dX10_isPlace_1 rfl ?_
  refine lv_sipush (v := 1000) hx hb dX10_isPlace_2 rfl ?_
  obtain ⟨hPc, hDc, hFc⟩ := zo_sub (wc := []) hP hD hS hA [] rfl rfl
  refine zcall (st1 := [.int (pI ((0 : Int32).toInt ≤ px.toInt ∧ px.toInt ≤ (1000 : Int32).toInt))]) (va_runS (As := [.int px, .int 0, .int 1000]) (rest := []) ⟨hx, hb, hml, hown, hts⟩ (k_isWithin l dC dI cI cZ cF s.heap.size px 0 1000 ) (csS_14 hts rfl rfl ⟨Nat.le_of_ble_eq_true rfl, Nat.le_of_ble_eq_true rfl⟩) (zPS2 hPc hDc hK hXN) rfl rfl hl.1 rfl (lv_room (Nat.le_of_ble_eq_true rfl)) dX10_isPlace_5 ⟨Nat.le_of_ble_eq_true rfl, Nat.le_of_ble_eq_true rfl⟩) hS hFc hFc rfl (fun t H locs ht hB hk1 hS => ?_)
  obtain ⟨hP1, hD1⟩ := hB
  rw [ht] at hP1
  obtain ⟨hP, hD⟩ := zk (W2 := []) hP hD [] [] [] [] [] 0 rfl rfl rfl rfl rfl rfl rfl rfl rfl hk1 hFc hP1 hD1
  clear hk1 hPc hDc hFc hP1 hD1 ht
  refine lv_if_eq (tgt := 26) hx hb dX10_isPlace_8 rfl (fun c_1 => ?_) (fun c_1 => ?_)
  · have c_1 : ¬ ((0 : Int32).toInt ≤ px.toInt ∧ px.toInt ≤ (1000 : Int32).toInt) := zp_0 c_1
    refine lv_iconst (v := 0) hx hb dX10_isPlace_26 rfl ?_
    obtain ⟨hP9, hD9⟩ := zu_sub (wc := []) hP hD [] rfl rfl
    rw [hQ9]
    exact W.zret (ty := .boolean) (v := 0) hx hb hr (rfl) (fun t ht hW => ⟨⟨congrArg (fun z => Outcome.returned (some (Value.int z))) (show (0 : Int32) = pI (pl px ∧ pl py) from (zp_f (by unfold pl; have e0 : (0 : Int32).toInt = 0 := (by decide); have e1 : (1000 : Int32).toInt = 1000 := (by decide); omega)).symm), by rw [ht]; exact hP9, hD9⟩, hS.F ht⟩) hS.2.2 dX10_isPlace_27
  · have c_1 : (0 : Int32).toInt ≤ px.toInt ∧ px.toInt ≤ (1000 : Int32).toInt := zp_1 c_1
    refine lv_iload_n hx hb dX10_isPlace_11 rfl (lv_at hl 1 rfl) ?_
    refine lv_iconst (v := 0) hx hb dX10_isPlace_12 rfl ?_
    refine lv_sipush (v := 1000) hx hb dX10_isPlace_13 rfl ?_
    obtain ⟨hPc, hDc, hFc⟩ := zo_sub (wc := []) hP hD hS hA [] rfl rfl
    refine zcall (st1 := [.int (pI ((0 : Int32).toInt ≤ py.toInt ∧ py.toInt ≤ (1000 : Int32).toInt))]) (va_runS (As := [.int py, .int 0, .int 1000]) (rest := []) ⟨hx, hb, hml, hown, hts⟩ (k_isWithin l dC dI cI cZ cF H.size py 0 1000 ) (csS_14 hts rfl rfl ⟨Nat.le_of_ble_eq_true rfl, Nat.le_of_ble_eq_true rfl⟩) (zPS2 hPc hDc hK hXN) rfl rfl hl.1 rfl (lv_room (Nat.le_of_ble_eq_true rfl)) dX10_isPlace_16 ⟨Nat.le_of_ble_eq_true rfl, Nat.le_of_ble_eq_true rfl⟩) hS hFc hFc rfl (fun t H locs ht hB hk1 hS => ?_)
    obtain ⟨hP1, hD1⟩ := hB
    rw [ht] at hP1
    obtain ⟨hP, hD⟩ := zk (W2 := []) hP hD [] [] [] [] [] 0 rfl rfl rfl rfl rfl rfl rfl rfl rfl hk1 hFc hP1 hD1
    clear hk1 hPc hDc hFc hP1 hD1 ht
    refine lv_if_eq (tgt := 26) hx hb dX10_isPlace_19 rfl (fun c_2 => ?_) (fun c_2 => ?_)
    · have c_2 : ¬ ((0 : Int32).toInt ≤ py.toInt ∧ py.toInt ≤ (1000 : Int32).toInt) := zp_0 c_2
      refine lv_iconst (v := 0) hx hb dX10_isPlace_26 rfl ?_
      obtain ⟨hP9, hD9⟩ := zu_sub (wc := []) hP hD [] rfl rfl
      rw [hQ9]
      exact W.zret (ty := .boolean) (v := 0) hx hb hr (rfl) (fun t ht hW => ⟨⟨congrArg (fun z => Outcome.returned (some (Value.int z))) (show (0 : Int32) = pI (pl px ∧ pl py) from (zp_f (by unfold pl; have e0 : (0 : Int32).toInt = 0 := (by decide); have e1 : (1000 : Int32).toInt = 1000 := (by decide); omega)).symm), by rw [ht]; exact hP9, hD9⟩, hS.F ht⟩) hS.2.2 dX10_isPlace_27
    · have c_2 : (0 : Int32).toInt ≤ py.toInt ∧ py.toInt ≤ (1000 : Int32).toInt := zp_1 c_2
      refine lv_iconst (v := 1) hx hb dX10_isPlace_22 rfl ?_
      refine lv_goto (tgt := 27) hx hb dX10_isPlace_23 rfl ?_
      obtain ⟨hP9, hD9⟩ := zu_sub (wc := []) hP hD [] rfl rfl
      rw [hQ9]
      exact W.zret (ty := .boolean) (v := 1) hx hb hr (rfl) (fun t ht hW => ⟨⟨congrArg (fun z => Outcome.returned (some (Value.int z))) (show (1 : Int32) = pI (pl px ∧ pl py) from (zp_t (by unfold pl; have e0 : (0 : Int32).toInt = 0 := (by decide); have e1 : (1000 : Int32).toInt = 1000 := (by decide); omega)).symm), by rw [ht]; exact hP9, hD9⟩, hS.F ht⟩) hS.2.2 dX10_isPlace_27
set_option maxHeartbeats 4000000 in
set_option maxRecDepth 100000 in
theorem k_Row_arePlaces (l : Launch) (dC : Nat → ClassId) (dI : Nat → Nat → Nat) (cI cZ cF : ClassId) (sz : Nat) (r : Nat) (rx : Nat) (ry : Nat) (n : Nat) (cap : Nat) (X : Nat → Int32) (Y : Nat → Int32) (rg : Int32) (hn : n ≤ cap) (hcap : cap ≤ 1000) : zM l yX7_arePlaces cX7_arePlaces 2 (some .boolean) ({ frames := 2, cells := 0, slots := 0, locals := 43 } : Room) [.ref r] (dC, dI) (zTy cI cZ cF) [(oc6 r (.ref rx) (.ref ry) (nI n) rg), (oa rx cI cap X), (oa ry cI cap Y)] sz (some (.int (pI (pls n X Y)))) (fun A t => zPD (dC, dI) classes A [(oc6 r (.ref rx) (.ref ry) (nI n) rg), (oa rx cI cap X), (oa ry cI cap Y)] t.heap) 0 0 := by
  refine zIn (own := "ScaleShop$Row") (loc := [(0, .ref r)]) rfl rfl rfl rfl (fun p e s m below meth c hx hb hr hts hown hlocks hml hnm9 A hA hS hP hD hK hXN Q9 hQ9 ls hl => ?_)
  refine lv_iconst (v := 0) hx hb dX7_arePlaces_0 rfl ?_
  refine lv_istore_n (lv' := [(1, .int 0), (0, .ref r)]) hx hb dX7_arePlaces_1 rfl hl (Nat.le_of_ble_eq_true rfl) rfl (fun ls hl => ?_)
  have hl_2 : ∀ (n9 : Nat) (i : Nat) (H : Heap) (locs : List Loc) (ls : Array Slot), n - i < n9 → (i ≤ n) → (∀ k, k < i → pl (X k) ∧ pl (Y k)) → va_P (dC, dI) classes [(oc6 r (.ref rx) (.ref ry) (nI n) rg), (oa rx cI cap X), (oa ry cI cap Y)] H → va_D A [(oc6 r (.ref rx) (.ref ry) (nI n) rg), (oa rx cI cap X), (oa ry cI cap Y)] → va_S A s.heap H locs → lv_has ls 2 [(1, .int (nI i)), (0, .ref r)] → W p l e ({ frames := 2, cells := 0, slots := 0, locals := 43 } : Room) s m ([.ref r] : List Value).toArray below meth c H locs 0 0 Q9 (F0 m 2 ls []) := by
    intro n9
    induction n9 with
    | zero => intro i H locs ls hm; exact absurd hm (Nat.not_lt_zero _)
    | succ n9 ih_2 =>
      intro i H locs ls hm hi hall hP hD hS hl
      refine lv_iload_n hx hb dX7_arePlaces_2 rfl (lv_at hl 0 rfl) ?_
      refine lv_aload_n hx hb dX7_arePlaces_3 rfl (lv_at hl 1 rfl) ?_
      refine va_get (D := (dC, dI)) (ci := 6) (v := .int (nI n)) (C := RX7) (T := TX7) (N := 4) hx hb hts inX7 hown hK hP 0 rfl rfl 2 (Nat.le_of_ble_eq_true rfl) (hts _ mw_175) (fun _ h9 => h9) rfl dX7_arePlaces_4 ?_
      have b9_2 : zlt (i) := show i < 2147483648 by omega
      have b9_3 : zlt (n) := show n < 2147483648 by omega
      refine lv_icmp_ge (tgt := 36) hx hb dX7_arePlaces_7 rfl (fun c_1 => ?_) (fun c_1 => ?_)
      · have c_1 : ((n : Nat) : Int) ≤ ((i : Nat) : Int) := zc_le (nI_toInt b9_3) (nI_toInt b9_2) c_1
        refine lv_iconst (v := 1) hx hb dX7_arePlaces_36 rfl ?_
        obtain ⟨hP9, hD9⟩ := zu_sub (wc := [_, _, _]) hP hD [true, true, true] rfl rfl
        rw [hQ9]
        exact W.zret (ty := .boolean) (v := 1) hx hb hr (rfl) (fun t ht hW => ⟨⟨congrArg (fun z => Outcome.returned (some (Value.int z))) (show (1 : Int32) = pI (pls n X Y) from (zp_t (fun k hk => hall k (by omega))).symm), by rw [ht]; exact hP9, hD9⟩, hS.F ht⟩) hS.2.2 dX7_arePlaces_37
      · have c_1 : ((i : Nat) : Int) < ((n : Nat) : Int) := zc_nle (nI_toInt b9_3) (nI_toInt b9_2) c_1
        refine lv_aload_n hx hb dX7_arePlaces_10 rfl (lv_at hl 1 rfl) ?_
        refine va_get (D := (dC, dI)) (ci := 6) (v := .ref rx) (C := RX7) (T := TX7) (N := 4) hx hb hts inX7 hown hK hP 0 rfl rfl 0 (Nat.le_of_ble_eq_true rfl) (hts _ mw_161) (fun _ h9 => h9) rfl dX7_arePlaces_11 ?_
        refine lv_iload_n hx hb dX7_arePlaces_14 rfl (lv_at hl 0 rfl) ?_
        have b9_4 : i < cap := by omega
        have b9_5 : zlt (cap) := show cap < 2147483648 by omega
        refine z_iald hx hb hK hP 1 0 rfl rfl (e := i) rfl b9_4 b9_5 dX7_arePlaces_15 ?_
        refine lv_aload_n hx hb dX7_arePlaces_16 rfl (lv_at hl 1 rfl) ?_
        refine va_get (D := (dC, dI)) (ci := 6) (v := .ref ry) (C := RX7) (T := TX7) (N := 4) hx hb hts inX7 hown hK hP 0 rfl rfl 1 (Nat.le_of_ble_eq_true rfl) (hts _ mw_168) (fun _ h9 => h9) rfl dX7_arePlaces_17 ?_
        refine lv_iload_n hx hb dX7_arePlaces_20 rfl (lv_at hl 0 rfl) ?_
        refine z_iald hx hb hK hP 2 0 rfl rfl (e := i) rfl b9_4 b9_5 dX7_arePlaces_21 ?_
        obtain ⟨hPc, hDc, hFc, hI1⟩ := zi_sub (wc := []) hP hD hS hA [] rfl rfl
        refine zcall (st1 := [.int (pI (pl (X i) ∧ pl (Y i)))]) (va_runSN (As := [.int (X i), .int (Y i)]) (rest := []) ⟨hx, hb, hml, hown, hts⟩ (k_isPlace l dC dI cI cZ cF H.size (X i) (Y i) ) ⟨va_cnB 2 hts (zz_gC mc_yX10_isPlace) rfl rfl rfl hXN.1 (hts _ mw_99) (by decide +kernel) ⟨Nat.le_of_ble_eq_true rfl, Nat.le_of_ble_eq_true rfl⟩, hts _ mw_503, trivial⟩ (zPS2 hPc hDc hK hXN) rfl rfl hl.1 rfl (lv_room (Nat.le_of_ble_eq_true rfl)) dX7_arePlaces_22 ⟨Nat.le_of_ble_eq_true rfl, Nat.le_of_ble_eq_true rfl⟩) hS hFc hFc rfl (fun t H locs ht hB hk1 hS => ?_)
        obtain ⟨hP1, hD1⟩ := hB
        rw [ht] at hP1
        replace hP := z0 hP hD hk1 hP1 hI1
        clear hk1 hPc hDc hFc hP1 hD1 ht hI1
        refine lv_if_ne (tgt := 30) hx hb dX7_arePlaces_25 rfl (fun c_6 => ?_) (fun c_6 => ?_)
        · have c_6 : pl (X i) ∧ pl (Y i) := zp_1 c_6
          refine lv_iinc (v := nI (i + 1)) (lv' := [(1, .int (nI (i + 1))), (0, .ref r)]) hx hb dX7_arePlaces_30 hl (k := 0) rfl (nI_add i 1) (Nat.le_of_ble_eq_true rfl) rfl (fun ls hl => ?_)
          refine lv_goto (tgt := 2) hx hb dX7_arePlaces_33 rfl ?_
          exact ih_2 (i + 1) H locs ls (by first | with_reducible assumption | omega) (by first | with_reducible assumption | omega) (by intro k hk; rcases Nat.lt_or_ge k i with h | h; exact hall k h; rw [show k = i by omega]; assumption) hP hD hS (lv_sub hl [0, 1] rfl)
        · have c_6 : ¬ (pl (X i) ∧ pl (Y i)) := zp_0 c_6
          refine lv_iconst (v := 0) hx hb dX7_arePlaces_28 rfl ?_
          obtain ⟨hP9, hD9⟩ := zu_sub (wc := [_, _, _]) hP hD [true, true, true] rfl rfl
          rw [hQ9]
          exact W.zret (ty := .boolean) (v := 0) hx hb hr (rfl) (fun t ht hW => ⟨⟨congrArg (fun z => Outcome.returned (some (Value.int z))) (show (0 : Int32) = pI (pls n X Y) from (zp_f (fun h => absurd (h i (by omega)) (by first | with_reducible assumption | assumption))).symm), by rw [ht]; exact hP9, hD9⟩, hS.F ht⟩) hS.2.2 dX7_arePlaces_29
  exact hl_2 _ 0 s.heap [] ls (Nat.lt_succ_self _) (by first | with_reducible assumption | omega) (by intro k hk; omega) hP hD hS (lv_sub hl [0, 1] rfl)
end
section
set_option maxHeartbeats 4000000 in
set_option maxRecDepth 100000 in
theorem k_Box_begin (l : Launch) (dC : Nat → ClassId) (dI : Nat → Nat → Nat) (cI cZ cF : ClassId) (sz : Nat) (b0 : Nat) (x0 : Int32) (y0 : Int32) (x1 : Int32) (y1 : Int32) (px : Int32) (py : Int32) : zM l yX0_begin cX0_begin 3 none ({ frames := 0, cells := 0, slots := 0, locals := 0 } : Room) [.ref b0, .int px, .int py] (dC, dI) (zTy cI cZ cF) [(oc0 b0 x0 y0 x1 y1)] sz none (fun A t => zPD (dC, dI) classes A [(oc0 b0 (iI px.toInt) (iI py.toInt) (iI px.toInt) (iI py.toInt))] t.heap) 0 0 := by
  refine zIn (own := "ScaleShop$Box") (loc := [(0, .ref b0), (1, .int px), (2, .int py)]) rfl rfl rfl rfl (fun p e s m below meth c hx hb hr hts hown hlocks hml hnm9 A hA hS hP hD hK hXN Q9 hQ9 ls hl => ?_)
  refine lv_aload_n hx hb dX0_begin_0 rfl (lv_at hl 0 rfl) ?_
  refine lv_iload_n hx hb dX0_begin_1 rfl (lv_at hl 1 rfl) ?_
  refine va_put (D := (dC, dI)) (ci := 0) (v := .int px) (ty := .int) (C := RX0) (T := TX0) (N := 4) hx hb hts inX0 tyX0 tyX0_ok nmX0 hown hK hP hD hS 0 rfl rfl 0 (by decide) (hts _ mw_202) (fun _ h9 => h9) rfl (by decide +kernel) rfl rfl (Nat.le_of_ble_eq_true rfl) dX0_begin_2 (fun H locs hP hD hS => ?_)
  obtain ⟨hP, hD⟩ := zre (W2 := [(oc0 b0 px y0 x1 y1)]) hP hD rfl
  refine lv_aload_n hx hb dX0_begin_5 rfl (lv_at hl 0 rfl) ?_
  refine lv_iload_n hx hb dX0_begin_6 rfl (lv_at hl 1 rfl) ?_
  refine va_put (D := (dC, dI)) (ci := 0) (v := .int px) (ty := .int) (C := RX0) (T := TX0) (N := 4) hx hb hts inX0 tyX0 tyX0_ok nmX0 hown hK hP hD hS 0 rfl rfl 2 (by decide) (hts _ mw_206) (fun _ h9 => h9) rfl (by decide +kernel) rfl rfl (Nat.le_of_ble_eq_true rfl) dX0_begin_7 (fun H locs hP hD hS => ?_)
  obtain ⟨hP, hD⟩ := zre (W2 := [(oc0 b0 px y0 px y1)]) hP hD rfl
  refine lv_aload_n hx hb dX0_begin_10 rfl (lv_at hl 0 rfl) ?_
  refine lv_iload_n hx hb dX0_begin_11 rfl (lv_at hl 2 rfl) ?_
  refine va_put (D := (dC, dI)) (ci := 0) (v := .int py) (ty := .int) (C := RX0) (T := TX0) (N := 4) hx hb hts inX0 tyX0 tyX0_ok nmX0 hown hK hP hD hS 0 rfl rfl 1 (by decide) (hts _ mw_204) (fun _ h9 => h9) rfl (by decide +kernel) rfl rfl (Nat.le_of_ble_eq_true rfl) dX0_begin_12 (fun H locs hP hD hS => ?_)
  obtain ⟨hP, hD⟩ := zre (W2 := [(oc0 b0 px py px y1)]) hP hD rfl
  refine lv_aload_n hx hb dX0_begin_15 rfl (lv_at hl 0 rfl) ?_
  refine lv_iload_n hx hb dX0_begin_16 rfl (lv_at hl 2 rfl) ?_
  refine va_put (D := (dC, dI)) (ci := 0) (v := .int py) (ty := .int) (C := RX0) (T := TX0) (N := 4) hx hb hts inX0 tyX0 tyX0_ok nmX0 hown hK hP hD hS 0 rfl rfl 3 (by decide) (hts _ mw_208) (fun _ h9 => h9) rfl (by decide +kernel) rfl rfl (Nat.le_of_ble_eq_true rfl) dX0_begin_17 (fun H locs hP hD hS => ?_)
  obtain ⟨hP, hD⟩ := zre (W2 := [(oc0 b0 px py px py)]) hP hD rfl
  obtain ⟨hP9, hD9⟩ := zu_sub (wc := [(oc0 b0 px py px py)]) hP hD [true] rfl rfl
  have hE9 : ([(oc0 b0 px py px py)] : va_W) = [(oc0 b0 (iI px.toInt) (iI py.toInt) (iI px.toInt) (iI py.toInt))] := by rw [← iI_of (x := px) (z := px.toInt) rfl, ← iI_of (x := py) (z := py.toInt) rfl]
  rw [hE9] at hP9 hD9
  rw [hQ9]
  exact W.vret hx hb hr (fun t ht hW => ⟨⟨rfl, by rw [ht]; exact hP9, hD9⟩, hS.F ht⟩) hS.2.2 dX0_begin_20
set_option maxHeartbeats 4000000 in
set_option maxRecDepth 100000 in
theorem k_Box_take (l : Launch) (dC : Nat → ClassId) (dI : Nat → Nat → Nat) (cI cZ cF : ClassId) (sz : Nat) (b0 : Nat) (l0 : Int) (o0 : Int) (r0 : Int) (h0 : Int) (px : Int32) (py : Int32) (hnb : nr l0 ∧ nr o0 ∧ nr r0 ∧ nr h0) : zM l yX0_take cX0_take 3 none ({ frames := 0, cells := 0, slots := 0, locals := 0 } : Room) [.ref b0, .int px, .int py] (dC, dI) (zTy cI cZ cF) [(oc0 b0 (iI l0) (iI o0) (iI r0) (iI h0))] sz none (fun A t => zPD (dC, dI) classes A [(oc0 b0 (iI (min l0 px.toInt)) (iI (min o0 py.toInt)) (iI (max r0 px.toInt)) (iI (max h0 py.toInt)))] t.heap) 0 0 := by
  refine zIn (own := "ScaleShop$Box") (loc := [(0, .ref b0), (1, .int px), (2, .int py)]) rfl rfl rfl rfl (fun p e s m below meth c hx hb hr hts hown hlocks hml hnm9 A hA hS hP hD hK hXN Q9 hQ9 ls hl => ?_)
  have hnb9 := hnb
  unfold nr at hnb9
  refine lv_aload_n hx hb dX0_take_0 rfl (lv_at hl 0 rfl) ?_
  refine lv_iload_n hx hb dX0_take_1 rfl (lv_at hl 1 rfl) ?_
  refine lv_aload_n hx hb dX0_take_2 rfl (lv_at hl 0 rfl) ?_
  refine va_get (D := (dC, dI)) (ci := 0) (v := .int (iI l0)) (C := RX0) (T := TX0) (N := 4) hx hb hts inX0 hown hK hP 0 rfl rfl 0 (Nat.le_of_ble_eq_true rfl) (hts _ mw_202) (fun _ h9 => h9) rfl dX0_take_3 ?_
  have hj_1 : W p l e ({ frames := 0, cells := 0, slots := 0, locals := 0 } : Room) s m ([.ref b0, .int px, .int py] : List Value).toArray below meth c s.heap [] 0 0 Q9 (F0 m 17 ls [.int (iI (min l0 px.toInt)), .ref b0]) := by
    refine va_put (D := (dC, dI)) (ci := 0) (v := .int (iI (min l0 px.toInt))) (ty := .int) (C := RX0) (T := TX0) (N := 4) hx hb hts inX0 tyX0 tyX0_ok nmX0 hown hK hP hD hS 0 rfl rfl 0 (by decide) (hts _ mw_202) (fun _ h9 => h9) rfl (by decide +kernel) rfl rfl (Nat.le_of_ble_eq_true rfl) dX0_take_17 (fun H locs hP hD hS => ?_)
    obtain ⟨hP, hD⟩ := zre (W2 := [(oc0 b0 (iI (min l0 px.toInt)) (iI o0) (iI r0) (iI h0))]) hP hD rfl
    refine lv_aload_n hx hb dX0_take_20 rfl (lv_at hl 0 rfl) ?_
    refine lv_iload_n hx hb dX0_take_21 rfl (lv_at hl 1 rfl) ?_
    refine lv_aload_n hx hb dX0_take_22 rfl (lv_at hl 0 rfl) ?_
    refine va_get (D := (dC, dI)) (ci := 0) (v := .int (iI r0)) (C := RX0) (T := TX0) (N := 4) hx hb hts inX0 hown hK hP 0 rfl rfl 2 (Nat.le_of_ble_eq_true rfl) (hts _ mw_206) (fun _ h9 => h9) rfl dX0_take_23 ?_
    have hj_2 : W p l e ({ frames := 0, cells := 0, slots := 0, locals := 0 } : Room) s m ([.ref b0, .int px, .int py] : List Value).toArray below meth c H locs 0 0 Q9 (F0 m 37 ls [.int (iI (max r0 px.toInt)), .ref b0]) := by
      refine va_put (D := (dC, dI)) (ci := 0) (v := .int (iI (max r0 px.toInt))) (ty := .int) (C := RX0) (T := TX0) (N := 4) hx hb hts inX0 tyX0 tyX0_ok nmX0 hown hK hP hD hS 0 rfl rfl 2 (by decide) (hts _ mw_206) (fun _ h9 => h9) rfl (by decide +kernel) rfl rfl (Nat.le_of_ble_eq_true rfl) dX0_take_37 (fun H locs hP hD hS => ?_)
      obtain ⟨hP, hD⟩ := zre (W2 := [(oc0 b0 (iI (min l0 px.toInt)) (iI o0) (iI (max r0 px.toInt)) (iI h0))]) hP hD rfl
      refine lv_aload_n hx hb dX0_take_40 rfl (lv_at hl 0 rfl) ?_
      refine lv_iload_n hx hb dX0_take_41 rfl (lv_at hl 2 rfl) ?_
      refine lv_aload_n hx hb dX0_take_42 rfl (lv_at hl 0 rfl) ?_
      refine va_get (D := (dC, dI)) (ci := 0) (v := .int (iI o0)) (C := RX0) (T := TX0) (N := 4) hx hb hts inX0 hown hK hP 0 rfl rfl 1 (Nat.le_of_ble_eq_true rfl) (hts _ mw_204) (fun _ h9 => h9) rfl dX0_take_43 ?_
      have hj_3 : W p l e ({ frames := 0, cells := 0, slots := 0, locals := 0 } : Room) s m ([.ref b0, .int px, .int py] : List Value).toArray below meth c H locs 0 0 Q9 (F0 m 57 ls [.int (iI (min o0 py.toInt)), .ref b0]) := by
        refine va_put (D := (dC, dI)) (ci := 0) (v := .int (iI (min o0 py.toInt))) (ty := .int) (C := RX0) (T := TX0) (N := 4) hx hb hts inX0 tyX0 tyX0_ok nmX0 hown hK hP hD hS 0 rfl rfl 1 (by decide) (hts _ mw_204) (fun _ h9 => h9) rfl (by decide +kernel) rfl rfl (Nat.le_of_ble_eq_true rfl) dX0_take_57 (fun H locs hP hD hS => ?_)
        obtain ⟨hP, hD⟩ := zre (W2 := [(oc0 b0 (iI (min l0 px.toInt)) (iI (min o0 py.toInt)) (iI (max r0 px.toInt)) (iI h0))]) hP hD rfl
        refine lv_aload_n hx hb dX0_take_60 rfl (lv_at hl 0 rfl) ?_
        refine lv_iload_n hx hb dX0_take_61 rfl (lv_at hl 2 rfl) ?_
        refine lv_aload_n hx hb dX0_take_62 rfl (lv_at hl 0 rfl) ?_
        refine va_get (D := (dC, dI)) (ci := 0) (v := .int (iI h0)) (C := RX0) (T := TX0) (N := 4) hx hb hts inX0 hown hK hP 0 rfl rfl 3 (Nat.le_of_ble_eq_true rfl) (hts _ mw_208) (fun _ h9 => h9) rfl dX0_take_63 ?_
        have hj_4 : W p l e ({ frames := 0, cells := 0, slots := 0, locals := 0 } : Room) s m ([.ref b0, .int px, .int py] : List Value).toArray below meth c H locs 0 0 Q9 (F0 m 77 ls [.int (iI (max h0 py.toInt)), .ref b0]) := by
          refine va_put (D := (dC, dI)) (ci := 0) (v := .int (iI (max h0 py.toInt))) (ty := .int) (C := RX0) (T := TX0) (N := 4) hx hb hts inX0 tyX0 tyX0_ok nmX0 hown hK hP hD hS 0 rfl rfl 3 (by decide) (hts _ mw_208) (fun _ h9 => h9) rfl (by decide +kernel) rfl rfl (Nat.le_of_ble_eq_true rfl) dX0_take_77 (fun H locs hP hD hS => ?_)
          obtain ⟨hP, hD⟩ := zre (W2 := [(oc0 b0 (iI (min l0 px.toInt)) (iI (min o0 py.toInt)) (iI (max r0 px.toInt)) (iI (max h0 py.toInt)))]) hP hD rfl
          obtain ⟨hP9, hD9⟩ := zu_sub (wc := [_]) hP hD [true] rfl rfl
          rw [hQ9]
          exact W.vret hx hb hr (fun t ht hW => ⟨⟨rfl, by rw [ht]; exact hP9, hD9⟩, hS.F ht⟩) hS.2.2 dX0_take_80
        refine lv_icmp_le (tgt := 73) hx hb dX0_take_66 rfl (fun c_5 => ?_) (fun c_5 => ?_)
        · have c_5 : py.toInt ≤ h0 := zc_le rfl (iI_toInt (by omega)) c_5
          refine lv_aload_n hx hb dX0_take_73 rfl (lv_at hl 0 rfl) ?_
          refine va_get (D := (dC, dI)) (ci := 0) (v := .int (iI h0)) (C := RX0) (T := TX0) (N := 4) hx hb hts inX0 hown hK hP 0 rfl rfl 3 (Nat.le_of_ble_eq_true rfl) (hts _ mw_208) (fun _ h9 => h9) rfl dX0_take_74 ?_
          refine zz_i (v := iI (max h0 py.toInt)) (by first | exact iI_of (by omega) | (congr 1; omega)) ?_
          exact hj_4 
        · have c_5 : h0 < py.toInt := zc_nle rfl (iI_toInt (by omega)) c_5
          refine lv_iload_n hx hb dX0_take_69 rfl (lv_at hl 2 rfl) ?_
          refine lv_goto (tgt := 77) hx hb dX0_take_70 rfl ?_
          refine zz_i (v := iI (max h0 py.toInt)) (by first | exact iI_of (by omega) | (congr 1; omega)) ?_
          exact hj_4 
      refine lv_icmp_ge (tgt := 53) hx hb dX0_take_46 rfl (fun c_6 => ?_) (fun c_6 => ?_)
      · have c_6 : o0 ≤ py.toInt := zc_le (iI_toInt (by omega)) rfl c_6
        refine lv_aload_n hx hb dX0_take_53 rfl (lv_at hl 0 rfl) ?_
        refine va_get (D := (dC, dI)) (ci := 0) (v := .int (iI o0)) (C := RX0) (T := TX0) (N := 4) hx hb hts inX0 hown hK hP 0 rfl rfl 1 (Nat.le_of_ble_eq_true rfl) (hts _ mw_204) (fun _ h9 => h9) rfl dX0_take_54 ?_
        refine zz_i (v := iI (min o0 py.toInt)) (by first | exact iI_of (by omega) | (congr 1; omega)) ?_
        exact hj_3 
      · have c_6 : py.toInt < o0 := zc_nle (iI_toInt (by omega)) rfl c_6
        refine lv_iload_n hx hb dX0_take_49 rfl (lv_at hl 2 rfl) ?_
        refine lv_goto (tgt := 57) hx hb dX0_take_50 rfl ?_
        refine zz_i (v := iI (min o0 py.toInt)) (by first | exact iI_of (by omega) | (congr 1; omega)) ?_
        exact hj_3 
    refine lv_icmp_le (tgt := 33) hx hb dX0_take_26 rfl (fun c_7 => ?_) (fun c_7 => ?_)
    · have c_7 : px.toInt ≤ r0 := zc_le rfl (iI_toInt (by omega)) c_7
      refine lv_aload_n hx hb dX0_take_33 rfl (lv_at hl 0 rfl) ?_
      refine va_get (D := (dC, dI)) (ci := 0) (v := .int (iI r0)) (C := RX0) (T := TX0) (N := 4) hx hb hts inX0 hown hK hP 0 rfl rfl 2 (Nat.le_of_ble_eq_true rfl) (hts _ mw_206) (fun _ h9 => h9) rfl dX0_take_34 ?_
      refine zz_i (v := iI (max r0 px.toInt)) (by first | exact iI_of (by omega) | (congr 1; omega)) ?_
      exact hj_2 
    · have c_7 : r0 < px.toInt := zc_nle rfl (iI_toInt (by omega)) c_7
      refine lv_iload_n hx hb dX0_take_29 rfl (lv_at hl 1 rfl) ?_
      refine lv_goto (tgt := 37) hx hb dX0_take_30 rfl ?_
      refine zz_i (v := iI (max r0 px.toInt)) (by first | exact iI_of (by omega) | (congr 1; omega)) ?_
      exact hj_2 
  refine lv_icmp_ge (tgt := 13) hx hb dX0_take_6 rfl (fun c_8 => ?_) (fun c_8 => ?_)
  · have c_8 : l0 ≤ px.toInt := zc_le (iI_toInt (by omega)) rfl c_8
    refine lv_aload_n hx hb dX0_take_13 rfl (lv_at hl 0 rfl) ?_
    refine va_get (D := (dC, dI)) (ci := 0) (v := .int (iI l0)) (C := RX0) (T := TX0) (N := 4) hx hb hts inX0 hown hK hP 0 rfl rfl 0 (Nat.le_of_ble_eq_true rfl) (hts _ mw_202) (fun _ h9 => h9) rfl dX0_take_14 ?_
    refine zz_i (v := iI (min l0 px.toInt)) (by first | exact iI_of (by omega) | (congr 1; omega)) ?_
    exact hj_1 
  · have c_8 : px.toInt < l0 := zc_nle (iI_toInt (by omega)) rfl c_8
    refine lv_iload_n hx hb dX0_take_9 rfl (lv_at hl 1 rfl) ?_
    refine lv_goto (tgt := 17) hx hb dX0_take_10 rfl ?_
    refine zz_i (v := iI (min l0 px.toInt)) (by first | exact iI_of (by omega) | (congr 1; omega)) ?_
    exact hj_1 
set_option maxHeartbeats 4000000 in
set_option maxRecDepth 100000 in
theorem k_Box_stretch (l : Launch) (dC : Nat → ClassId) (dI : Nat → Nat → Nat) (cI cZ cF : ClassId) (sz : Nat) (b0 : Nat) (l0 : Int) (o0 : Int) (r0 : Int) (h0 : Int) (r : Nat) (rx : Nat) (ry : Nat) (n : Nat) (cap : Nat) (X : Nat → Int32) (Y : Nat → Int32) (rg : Int32) (hnb : nr l0 ∧ nr o0 ∧ nr r0 ∧ nr h0) (hn : n ≤ cap) (hcap : cap ≤ 1000) (hnx : ∀ k, k < n → nr (X k).toInt) (hny : ∀ k, k < n → nr (Y k).toInt) : zM l yX0_stretch cX0_stretch 3 none ({ frames := 1, cells := 0, slots := 0, locals := 22 } : Room) [.ref b0, .ref r] (dC, dI) (zTy cI cZ cF) [(oc0 b0 (iI l0) (iI o0) (iI r0) (iI h0)), (oc6 r (.ref rx) (.ref ry) (nI n) rg), (oa rx cI cap X), (oa ry cI cap Y)] sz none (fun A t => zPD (dC, dI) classes A [(oc0 b0 (iI (mnI l0 X n)) (iI (mnI o0 Y n)) (iI (mxI r0 X n)) (iI (mxI h0 Y n))), (oc6 r (.ref rx) (.ref ry) (nI n) rg), (oa rx cI cap X), (oa ry cI cap Y)] t.heap) 0 0 := by
  refine zIn (own := "ScaleShop$Box") (loc := [(0, .ref b0), (1, .ref r)]) rfl rfl rfl rfl (fun p e s m below meth c hx hb hr hts hown hlocks hml hnm9 A hA hS hP hD hK hXN Q9 hQ9 ls hl => ?_)
  refine lv_iconst (v := 0) hx hb dX0_stretch_0 rfl ?_
  refine lv_istore_n (lv' := [(2, .int 0), (0, .ref b0), (1, .ref r)]) hx hb dX0_stretch_1 rfl hl (Nat.le_of_ble_eq_true rfl) rfl (fun ls hl => ?_)
  have hl_2 : ∀ (n9 : Nat) (i : Nat) (H : Heap) (locs : List Loc) (ls : Array Slot), n - i < n9 → (i ≤ n) → va_P (dC, dI) classes [(oc0 b0 (iI (mnI l0 X i)) (iI (mnI o0 Y i)) (iI (mxI r0 X i)) (iI (mxI h0 Y i))), (oc6 r (.ref rx) (.ref ry) (nI n) rg), (oa rx cI cap X), (oa ry cI cap Y)] H → va_D A [(oc0 b0 (iI (mnI l0 X i)) (iI (mnI o0 Y i)) (iI (mxI r0 X i)) (iI (mxI h0 Y i))), (oc6 r (.ref rx) (.ref ry) (nI n) rg), (oa rx cI cap X), (oa ry cI cap Y)] → va_S A s.heap H locs → lv_has ls 3 [(2, .int (nI i)), (0, .ref b0), (1, .ref r)] → W p l e ({ frames := 1, cells := 0, slots := 0, locals := 22 } : Room) s m ([.ref b0, .ref r] : List Value).toArray below meth c H locs 0 0 Q9 (F0 m 2 ls []) := by
    intro n9
    induction n9 with
    | zero => intro i H locs ls hm; exact absurd hm (Nat.not_lt_zero _)
    | succ n9 ih_2 =>
      intro i H locs ls hm hi hP hD hS hl
      refine lv_iload_n hx hb dX0_stretch_2 rfl (lv_at hl 0 rfl) ?_
      refine lv_aload_n hx hb dX0_stretch_3 rfl (lv_at hl 2 rfl) ?_
      refine va_get (D := (dC, dI)) (ci := 6) (v := .int (nI n)) (C := RX7) (T := TX7) (N := 4) hx hb hts inX7 hown hK hP 1 rfl rfl 2 (Nat.le_of_ble_eq_true rfl) (hts _ mw_180) (fun _ h9 => h9) rfl dX0_stretch_4 ?_
      have b9_2 : zlt (i) := show i < 2147483648 by omega
      have b9_3 : zlt (n) := show n < 2147483648 by omega
      refine lv_icmp_ge (tgt := 32) hx hb dX0_stretch_7 rfl (fun c_1 => ?_) (fun c_1 => ?_)
      · have c_1 : ((n : Nat) : Int) ≤ ((i : Nat) : Int) := zc_le (nI_toInt b9_3) (nI_toInt b9_2) c_1
        obtain ⟨hP9, hD9⟩ := zu_sub (wc := [(oc0 b0 (iI (mnI l0 X i)) (iI (mnI o0 Y i)) (iI (mxI r0 X i)) (iI (mxI h0 Y i))), (oc6 r (.ref rx) (.ref ry) (nI n) rg), (oa rx cI cap X), (oa ry cI cap Y)]) hP hD [true, true, true, true] rfl rfl
        have hE9 : ([(oc0 b0 (iI (mnI l0 X i)) (iI (mnI o0 Y i)) (iI (mxI r0 X i)) (iI (mxI h0 Y i))), (oc6 r (.ref rx) (.ref ry) (nI n) rg), (oa rx cI cap X), (oa ry cI cap Y)] : va_W) = [(oc0 b0 (iI (mnI l0 X n)) (iI (mnI o0 Y n)) (iI (mxI r0 X n)) (iI (mxI h0 Y n))), (oc6 r (.ref rx) (.ref ry) (nI n) rg), (oa rx cI cap X), (oa ry cI cap Y)] := by rw [show i = n by omega]
        rw [hE9] at hP9 hD9
        rw [hQ9]
        exact W.vret hx hb hr (fun t ht hW => ⟨⟨rfl, by rw [ht]; exact hP9, hD9⟩, hS.F ht⟩) hS.2.2 dX0_stretch_32
      · have c_1 : ((i : Nat) : Int) < ((n : Nat) : Int) := zc_nle (nI_toInt b9_3) (nI_toInt b9_2) c_1
        refine lv_aload_n hx hb dX0_stretch_10 rfl (lv_at hl 1 rfl) ?_
        refine lv_aload_n hx hb dX0_stretch_11 rfl (lv_at hl 2 rfl) ?_
        refine va_get (D := (dC, dI)) (ci := 6) (v := .ref rx) (C := RX7) (T := TX7) (N := 4) hx hb hts inX7 hown hK hP 1 rfl rfl 0 (Nat.le_of_ble_eq_true rfl) (hts _ mw_164) (fun _ h9 => h9) rfl dX0_stretch_12 ?_
        refine lv_iload_n hx hb dX0_stretch_15 rfl (lv_at hl 0 rfl) ?_
        have b9_4 : i < cap := by omega
        have b9_5 : zlt (cap) := show cap < 2147483648 by omega
        refine z_iald hx hb hK hP 2 0 rfl rfl (e := i) rfl b9_4 b9_5 dX0_stretch_16 ?_
        refine lv_aload_n hx hb dX0_stretch_17 rfl (lv_at hl 2 rfl) ?_
        refine va_get (D := (dC, dI)) (ci := 6) (v := .ref ry) (C := RX7) (T := TX7) (N := 4) hx hb hts inX7 hown hK hP 1 rfl rfl 1 (Nat.le_of_ble_eq_true rfl) (hts _ mw_171) (fun _ h9 => h9) rfl dX0_stretch_18 ?_
        refine lv_iload_n hx hb dX0_stretch_21 rfl (lv_at hl 0 rfl) ?_
        refine z_iald hx hb hK hP 3 0 rfl rfl (e := i) rfl b9_4 b9_5 dX0_stretch_22 ?_
        obtain ⟨hPc, hDc, hFc⟩ := zo_sub (wc := [_]) hP hD hS hA [0] rfl rfl
        refine zcall (st1 := []) (va_runV (As := [.int (X i), .int (Y i)]) (rest := []) ⟨hx, hb, hml, hown, hts⟩ (k_Box_take l dC dI cI cZ cF H.size b0 (mnI l0 X i) (mnI o0 Y i) (mxI r0 X i) (mxI h0 Y i) (X i) (Y i) (⟨mnB hnb.1 hnx i hi, mnB hnb.2.1 hny i hi, mxB hnb.2.2.1 hnx i hi, mxB hnb.2.2.2 hny i hi⟩)) (csV_15 hts rfl rfl ⟨Nat.le_of_ble_eq_true rfl, Nat.le_of_ble_eq_true rfl⟩) (zPV2 (q0 := 0) (ci := 0) hPc hDc hK hXN rfl rfl) rfl rfl hl.1 rfl (lv_room (Nat.le_of_ble_eq_true rfl)) dX0_stretch_23 ⟨Nat.le_of_ble_eq_true rfl, Nat.le_of_ble_eq_true rfl⟩) hS hFc hFc rfl (fun t H locs ht hB hk1 hS => ?_)
        obtain ⟨hP1, hD1⟩ := hB
        rw [ht] at hP1
        obtain ⟨hP, hD⟩ := zn (W2 := [(oc0 b0 (iI (min (mnI l0 X i) (X i).toInt)) (iI (min (mnI o0 Y i) (Y i).toInt)) (iI (max (mxI r0 X i) (X i).toInt)) (iI (max (mxI h0 Y i) (Y i).toInt))), _, _, _]) hP hD hk1 hFc hP1 hD1 [0] [false, true, true, true] [false, true, true, true] [0] (by decide +kernel) rfl rfl rfl rfl rfl
        clear hk1 hPc hDc hFc hP1 hD1 ht
        refine lv_iinc (v := nI (i + 1)) (lv' := [(2, .int (nI (i + 1))), (0, .ref b0), (1, .ref r)]) hx hb dX0_stretch_26 hl (k := 0) rfl (nI_add i 1) (Nat.le_of_ble_eq_true rfl) rfl (fun ls hl => ?_)
        refine lv_goto (tgt := 2) hx hb dX0_stretch_29 rfl ?_
        exact ih_2 (i + 1) H locs ls (by first | with_reducible assumption | omega) (by first | with_reducible assumption | omega) hP hD hS (lv_sub hl [0, 1, 2] rfl)
  exact hl_2 _ 0 s.heap [] ls (Nat.lt_succ_self _) (by first | with_reducible assumption | omega) hP hD hS (lv_sub hl [0, 1, 2] rfl)
set_option maxHeartbeats 4000000 in
set_option maxRecDepth 100000 in
theorem k_Box_cover (l : Launch) (dC : Nat → ClassId) (dI : Nat → Nat → Nat) (cI cZ cF : ClassId) (sz : Nat) (b0 : Nat) (x0 : Int32) (y0 : Int32) (x1 : Int32) (y1 : Int32) (r : Nat) (rx : Nat) (ry : Nat) (n : Nat) (cap : Nat) (X : Nat → Int32) (Y : Nat → Int32) (rg : Int32) (hn : n ≤ cap) (hcap : cap ≤ 1000) (hnx : ∀ k, k < n → nr (X k).toInt) (hny : ∀ k, k < n → nr (Y k).toInt) (h1n : 1 ≤ n) : zM l yX0_cover cX0_cover 2 none ({ frames := 2, cells := 0, slots := 0, locals := 44 } : Room) [.ref b0, .ref r] (dC, dI) (zTy cI cZ cF) [(oc0 b0 x0 y0 x1 y1), (oc6 r (.ref rx) (.ref ry) (nI n) rg), (oa rx cI cap X), (oa ry cI cap Y)] sz none (fun A t => zPD (dC, dI) classes A [(oc0 b0 (iI (mnI (X 0).toInt X n)) (iI (mnI (Y 0).toInt Y n)) (iI (mxI (X 0).toInt X n)) (iI (mxI (Y 0).toInt Y n))), (oc6 r (.ref rx) (.ref ry) (nI n) rg), (oa rx cI cap X), (oa ry cI cap Y)] t.heap) 0 0 := by
  refine zIn (own := "ScaleShop$Box") (loc := [(0, .ref b0), (1, .ref r)]) rfl rfl rfl rfl (fun p e s m below meth c hx hb hr hts hown hlocks hml hnm9 A hA hS hP hD hK hXN Q9 hQ9 ls hl => ?_)
  refine lv_aload_n hx hb dX0_cover_0 rfl (lv_at hl 0 rfl) ?_
  refine lv_aload_n hx hb dX0_cover_1 rfl (lv_at hl 1 rfl) ?_
  refine va_get (D := (dC, dI)) (ci := 6) (v := .ref rx) (C := RX7) (T := TX7) (N := 4) hx hb hts inX7 hown hK hP 1 rfl rfl 0 (Nat.le_of_ble_eq_true rfl) (hts _ mw_164) (fun _ h9 => h9) rfl dX0_cover_2 ?_
  refine lv_iconst (v := 0) hx hb dX0_cover_5 rfl ?_
  have b9_1 : 0 < cap := by omega
  have b9_2 : zlt (cap) := show cap < 2147483648 by omega
  refine z_iald hx hb hK hP 2 0 rfl rfl (e := 0) rfl b9_1 b9_2 dX0_cover_6 ?_
  refine lv_aload_n hx hb dX0_cover_7 rfl (lv_at hl 1 rfl) ?_
  refine va_get (D := (dC, dI)) (ci := 6) (v := .ref ry) (C := RX7) (T := TX7) (N := 4) hx hb hts inX7 hown hK hP 1 rfl rfl 1 (Nat.le_of_ble_eq_true rfl) (hts _ mw_171) (fun _ h9 => h9) rfl dX0_cover_8 ?_
  refine lv_iconst (v := 0) hx hb dX0_cover_11 rfl ?_
  refine z_iald hx hb hK hP 3 0 rfl rfl (e := 0) rfl b9_1 b9_2 dX0_cover_12 ?_
  obtain ⟨hPc, hDc, hFc⟩ := zo_sub (wc := [_]) hP hD hS hA [0] rfl rfl
  refine zcall (st1 := []) (va_runV (As := [.int (X 0), .int (Y 0)]) (rest := []) ⟨hx, hb, hml, hown, hts⟩ (k_Box_begin l dC dI cI cZ cF s.heap.size b0 x0 y0 x1 y1 (X 0) (Y 0) ) (csV_16 hts rfl rfl ⟨Nat.le_of_ble_eq_true rfl, Nat.le_of_ble_eq_true rfl⟩) (zPV2 (q0 := 0) (ci := 0) hPc hDc hK hXN rfl rfl) rfl rfl hl.1 rfl (lv_room (Nat.le_of_ble_eq_true rfl)) dX0_cover_13 ⟨Nat.le_of_ble_eq_true rfl, Nat.le_of_ble_eq_true rfl⟩) hS hFc hFc rfl (fun t H locs ht hB hk1 hS => ?_)
  obtain ⟨hP1, hD1⟩ := hB
  rw [ht] at hP1
  obtain ⟨hP, hD⟩ := zn (W2 := [(oc0 b0 (iI (X 0).toInt) (iI (Y 0).toInt) (iI (X 0).toInt) (iI (Y 0).toInt)), _, _, _]) hP hD hk1 hFc hP1 hD1 [0] [false, true, true, true] [false, true, true, true] [0] (by decide +kernel) rfl rfl rfl rfl rfl
  clear hk1 hPc hDc hFc hP1 hD1 ht
  refine lv_aload_n hx hb dX0_cover_16 rfl (lv_at hl 0 rfl) ?_
  refine lv_aload_n hx hb dX0_cover_17 rfl (lv_at hl 1 rfl) ?_
  obtain ⟨hPc, hDc, hFc⟩ := zo_sub (wc := [_, _, _, _]) hP hD hS hA [0, 1, 2, 3] (by decide +kernel) rfl
  refine zcall (st1 := []) (va_runV (As := [.ref r]) (rest := []) ⟨hx, hb, hml, hown, hts⟩ (k_Box_stretch l dC dI cI cZ cF H.size b0 ((X 0).toInt) ((Y 0).toInt) ((X 0).toInt) ((Y 0).toInt) r rx ry n cap X Y rg (⟨hnx 0 (by first | with_reducible assumption | omega), hny 0 (by first | with_reducible assumption | omega), hnx 0 (by first | with_reducible assumption | omega), hny 0 (by first | with_reducible assumption | omega)⟩) (by first | with_reducible assumption | omega) (by first | with_reducible assumption | omega) (by first | with_reducible assumption | assumption) (by first | with_reducible assumption | assumption)) (csV_17 hts rfl rfl ⟨Nat.le_of_ble_eq_true rfl, Nat.le_of_ble_eq_true rfl⟩) (zPV2 (q0 := 0) (ci := 0) hPc hDc hK hXN rfl rfl) rfl rfl hl.1 rfl (lv_room (Nat.le_of_ble_eq_true rfl)) dX0_cover_18 ⟨Nat.le_of_ble_eq_true rfl, Nat.le_of_ble_eq_true rfl⟩) hS hFc hFc rfl (fun t H locs ht hB hk1 hS => ?_)
  obtain ⟨hP1, hD1⟩ := hB
  rw [ht] at hP1
  obtain ⟨hP, hD⟩ := zn (W2 := [(oc0 b0 (iI (mnI ((X 0).toInt) X n)) (iI (mnI ((Y 0).toInt) Y n)) (iI (mxI ((X 0).toInt) X n)) (iI (mxI ((Y 0).toInt) Y n))), _, _, _]) hP hD hk1 hFc hP1 hD1 [0, 1, 2, 3] [] [false, false, false, false] [0, 1, 2, 3] (by decide +kernel) rfl rfl rfl rfl rfl
  clear hk1 hPc hDc hFc hP1 hD1 ht
  obtain ⟨hP9, hD9⟩ := zu_sub (wc := [_, _, _, _]) hP hD [true, true, true, true] rfl rfl
  rw [hQ9]
  exact W.vret hx hb hr (fun t ht hW => ⟨⟨rfl, by rw [ht]; exact hP9, hD9⟩, hS.F ht⟩) hS.2.2 dX0_cover_21
set_option maxHeartbeats 4000000 in
set_option maxRecDepth 100000 in
theorem k_Box_squareApart (l : Launch) (dC : Nat → ClassId) (dI : Nat → Nat → Nat) (cI cZ cF : ClassId) (sz : Nat) (b0 : Nat) (l0 : Int) (o0 : Int) (r0 : Int) (h0 : Int) (b1 : Nat) (l1 : Int) (o1 : Int) (r1 : Int) (h1 : Int) (hnb : nr l0 ∧ nr o0 ∧ nr r0 ∧ nr h0) (hnc : nr l1 ∧ nr o1 ∧ nr r1 ∧ nr h1) : zM l yX0_squareApart cX0_squareApart 4 (some .int) ({ frames := 1, cells := 0, slots := 0, locals := 14 } : Room) [.ref b0, .ref b1] (dC, dI) (zTy cI cZ cF) [(oc0 b0 (iI l0) (iI o0) (iI r0) (iI h0)), (oc0 b1 (iI l1) (iI o1) (iI r1) (iI h1))] sz (some (.int (iI ((gp l0 r0 l1 r1) * (gp l0 r0 l1 r1) + (gp o0 h0 o1 h1) * (gp o0 h0 o1 h1))))) (fun A t => zPD (dC, dI) classes A [(oc0 b0 (iI l0) (iI o0) (iI r0) (iI h0)), (oc0 b1 (iI l1) (iI o1) (iI r1) (iI h1))] t.heap) 0 0 := by
  refine zIn (own := "ScaleShop$Box") (loc := [(0, .ref b0), (1, .ref b1)]) rfl rfl rfl rfl (fun p e s m below meth c hx hb hr hts hown hlocks hml hnm9 A hA hS hP hD hK hXN Q9 hQ9 ls hl => ?_)
  have g1 := gpB hnb.1 hnb.2.2.1 hnc.1 hnc.2.2.1
  have g2 := gpB hnb.2.1 hnb.2.2.2 hnc.2.1 hnc.2.2.2
  have q1 := sqB g1
  have q2 := sqB g2
  have hb9 := hnb
  have hc9 := hnc
  unfold nr at hb9 hc9
  refine lv_iconst (v := 0) hx hb dX0_squareApart_0 rfl ?_
  refine lv_aload_n hx hb dX0_squareApart_1 rfl (lv_at hl 1 rfl) ?_
  refine va_get (D := (dC, dI)) (ci := 0) (v := .int (iI l1)) (C := RX0) (T := TX0) (N := 4) hx hb hts inX0 hown hK hP 1 rfl rfl 0 (Nat.le_of_ble_eq_true rfl) (hts _ mw_202) (fun _ h9 => h9) rfl dX0_squareApart_2 ?_
  refine lv_aload_n hx hb dX0_squareApart_5 rfl (lv_at hl 0 rfl) ?_
  refine va_get (D := (dC, dI)) (ci := 0) (v := .int (iI r0)) (C := RX0) (T := TX0) (N := 4) hx hb hts inX0 hown hK hP 0 rfl rfl 2 (Nat.le_of_ble_eq_true rfl) (hts _ mw_206) (fun _ h9 => h9) rfl dX0_squareApart_6 ?_
  refine lv_isub hx hb dX0_squareApart_9 ?_
  refine zz_i (v := iI (l1 - r0)) (iI_sub (by omega) (by omega)) ?_
  refine lv_aload_n hx hb dX0_squareApart_10 rfl (lv_at hl 0 rfl) ?_
  refine va_get (D := (dC, dI)) (ci := 0) (v := .int (iI l0)) (C := RX0) (T := TX0) (N := 4) hx hb hts inX0 hown hK hP 0 rfl rfl 0 (Nat.le_of_ble_eq_true rfl) (hts _ mw_202) (fun _ h9 => h9) rfl dX0_squareApart_11 ?_
  refine lv_aload_n hx hb dX0_squareApart_14 rfl (lv_at hl 1 rfl) ?_
  refine va_get (D := (dC, dI)) (ci := 0) (v := .int (iI r1)) (C := RX0) (T := TX0) (N := 4) hx hb hts inX0 hown hK hP 1 rfl rfl 2 (Nat.le_of_ble_eq_true rfl) (hts _ mw_206) (fun _ h9 => h9) rfl dX0_squareApart_15 ?_
  refine lv_isub hx hb dX0_squareApart_18 ?_
  refine zz_i (v := iI (l0 - r1)) (iI_sub (by omega) (by omega)) ?_
  refine va_mmax hx hb (by rw [hml]; exact hl.1.symm) hown (hts _ mw_674) (hts _ mw_159) (hts _ mw_103) (hts _ mw_maxcode) (Nat.le_of_ble_eq_true rfl) (Nat.le_of_ble_eq_true rfl) (Nat.le_of_ble_eq_true rfl) (Nat.le_of_ble_eq_true rfl) dX0_squareApart_19 ?_
  refine lv_topi (fun v_1 ev_1 => ?_)
  have hv_1 : v_1.toInt = max (l1 - r0) (l0 - r1) := zmax (iI_toInt (by omega)) (iI_toInt (by omega)) ev_1
  refine va_mmax hx hb (by rw [hml]; exact hl.1.symm) hown (hts _ mw_674) (hts _ mw_159) (hts _ mw_103) (hts _ mw_maxcode) (Nat.le_of_ble_eq_true rfl) (Nat.le_of_ble_eq_true rfl) (Nat.le_of_ble_eq_true rfl) (Nat.le_of_ble_eq_true rfl) dX0_squareApart_22 ?_
  refine lv_topi (fun v_2 ev_2 => ?_)
  have hv_2 : v_2.toInt = max 0 v_1.toInt := zmax (by decide) rfl ev_2
  refine zz_i (v := iI (gp l0 r0 l1 r1)) (iI_of (by rw [hv_2]; unfold gp; omega)) ?_
  refine lv_istore_n (lv' := [(2, .int (iI (gp l0 r0 l1 r1))), (0, .ref b0), (1, .ref b1)]) hx hb dX0_squareApart_25 rfl hl (Nat.le_of_ble_eq_true rfl) rfl (fun ls hl => ?_)
  refine lv_iconst (v := 0) hx hb dX0_squareApart_26 rfl ?_
  refine lv_aload_n hx hb dX0_squareApart_27 rfl (lv_at hl 2 rfl) ?_
  refine va_get (D := (dC, dI)) (ci := 0) (v := .int (iI o1)) (C := RX0) (T := TX0) (N := 4) hx hb hts inX0 hown hK hP 1 rfl rfl 1 (Nat.le_of_ble_eq_true rfl) (hts _ mw_204) (fun _ h9 => h9) rfl dX0_squareApart_28 ?_
  refine lv_aload_n hx hb dX0_squareApart_31 rfl (lv_at hl 1 rfl) ?_
  refine va_get (D := (dC, dI)) (ci := 0) (v := .int (iI h0)) (C := RX0) (T := TX0) (N := 4) hx hb hts inX0 hown hK hP 0 rfl rfl 3 (Nat.le_of_ble_eq_true rfl) (hts _ mw_208) (fun _ h9 => h9) rfl dX0_squareApart_32 ?_
  refine lv_isub hx hb dX0_squareApart_35 ?_
  refine zz_i (v := iI (o1 - h0)) (iI_sub (by omega) (by omega)) ?_
  refine lv_aload_n hx hb dX0_squareApart_36 rfl (lv_at hl 1 rfl) ?_
  refine va_get (D := (dC, dI)) (ci := 0) (v := .int (iI o0)) (C := RX0) (T := TX0) (N := 4) hx hb hts inX0 hown hK hP 0 rfl rfl 1 (Nat.le_of_ble_eq_true rfl) (hts _ mw_204) (fun _ h9 => h9) rfl dX0_squareApart_37 ?_
  refine lv_aload_n hx hb dX0_squareApart_40 rfl (lv_at hl 2 rfl) ?_
  refine va_get (D := (dC, dI)) (ci := 0) (v := .int (iI h1)) (C := RX0) (T := TX0) (N := 4) hx hb hts inX0 hown hK hP 1 rfl rfl 3 (Nat.le_of_ble_eq_true rfl) (hts _ mw_208) (fun _ h9 => h9) rfl dX0_squareApart_41 ?_
  refine lv_isub hx hb dX0_squareApart_44 ?_
  refine zz_i (v := iI (o0 - h1)) (iI_sub (by omega) (by omega)) ?_
  refine va_mmax hx hb (by rw [hml]; exact hl.1.symm) hown (hts _ mw_674) (hts _ mw_159) (hts _ mw_103) (hts _ mw_maxcode) (Nat.le_of_ble_eq_true rfl) (Nat.le_of_ble_eq_true rfl) (Nat.le_of_ble_eq_true rfl) (Nat.le_of_ble_eq_true rfl) dX0_squareApart_45 ?_
  refine lv_topi (fun v_3 ev_3 => ?_)
  have hv_3 : v_3.toInt = max (o1 - h0) (o0 - h1) := zmax (iI_toInt (by omega)) (iI_toInt (by omega)) ev_3
  refine va_mmax hx hb (by rw [hml]; exact hl.1.symm) hown (hts _ mw_674) (hts _ mw_159) (hts _ mw_103) (hts _ mw_maxcode) (Nat.le_of_ble_eq_true rfl) (Nat.le_of_ble_eq_true rfl) (Nat.le_of_ble_eq_true rfl) (Nat.le_of_ble_eq_true rfl) dX0_squareApart_48 ?_
  refine lv_topi (fun v_4 ev_4 => ?_)
  have hv_4 : v_4.toInt = max 0 v_3.toInt := zmax (by decide) rfl ev_4
  refine zz_i (v := iI (gp o0 h0 o1 h1)) (iI_of (by rw [hv_4]; unfold gp; omega)) ?_
  refine lv_istore_n (lv' := [(3, .int (iI (gp o0 h0 o1 h1))), (2, .int (iI (gp l0 r0 l1 r1))), (0, .ref b0), (1, .ref b1)]) hx hb dX0_squareApart_51 rfl hl (Nat.le_of_ble_eq_true rfl) rfl (fun ls hl => ?_)
  refine lv_iload_n hx hb dX0_squareApart_52 rfl (lv_at hl 1 rfl) ?_
  refine lv_iload_n hx hb dX0_squareApart_53 rfl (lv_at hl 1 rfl) ?_
  refine lv_imul hx hb dX0_squareApart_54 ?_
  refine zz_i (v := iI ((gp l0 r0 l1 r1) * (gp l0 r0 l1 r1))) (iI_sq g1) ?_
  refine lv_iload_n hx hb dX0_squareApart_55 rfl (lv_at hl 0 rfl) ?_
  refine lv_iload_n hx hb dX0_squareApart_56 rfl (lv_at hl 0 rfl) ?_
  refine lv_imul hx hb dX0_squareApart_57 ?_
  refine zz_i (v := iI ((gp o0 h0 o1 h1) * (gp o0 h0 o1 h1))) (iI_sq g2) ?_
  refine lv_iadd hx hb dX0_squareApart_58 ?_
  refine zz_i (v := iI ((gp l0 r0 l1 r1) * (gp l0 r0 l1 r1) + (gp o0 h0 o1 h1) * (gp o0 h0 o1 h1))) (iI_add (by omega) (by omega)) ?_
  obtain ⟨hP9, hD9⟩ := zu_sub (wc := [_, _]) hP hD [true, true] rfl rfl
  rw [hQ9]
  exact W.iret (v := iI ((gp l0 r0 l1 r1) * (gp l0 r0 l1 r1) + (gp o0 h0 o1 h1) * (gp o0 h0 o1 h1))) hx hb hr (fun t ht hW => ⟨⟨rfl, by rw [ht]; exact hP9, hD9⟩, hS.F ht⟩) hS.2.2 dX0_squareApart_59
set_option maxHeartbeats 4000000 in
set_option maxRecDepth 100000 in
theorem k_Box_isApart (l : Launch) (dC : Nat → ClassId) (dI : Nat → Nat → Nat) (cI cZ cF : ClassId) (sz : Nat) (b0 : Nat) (l0 : Int) (o0 : Int) (r0 : Int) (h0 : Int) (b1 : Nat) (l1 : Int) (o1 : Int) (r1 : Int) (h1 : Int) (hnb : nr l0 ∧ nr o0 ∧ nr r0 ∧ nr h0) (hnc : nr l1 ∧ nr o1 ∧ nr r1 ∧ nr h1) : zM l yX0_isApart cX0_isApart 2 (some .boolean) ({ frames := 2, cells := 0, slots := 0, locals := 37 } : Room) [.ref b0, .ref b1] (dC, dI) (zTy cI cZ cF) [(oc0 b0 (iI l0) (iI o0) (iI r0) (iI h0)), (oc0 b1 (iI l1) (iI o1) (iI r1) (iI h1))] sz (some (.int (pI (r0 < l1 ∨ r1 < l0 ∨ h0 < o1 ∨ h1 < o0)))) (fun A t => zPD (dC, dI) classes A [(oc0 b0 (iI l0) (iI o0) (iI r0) (iI h0)), (oc0 b1 (iI l1) (iI o1) (iI r1) (iI h1))] t.heap) 0 0 := by
  refine zIn (own := "ScaleShop$Box") (loc := [(0, .ref b0), (1, .ref b1)]) rfl rfl rfl rfl (fun p e s m below meth c hx hb hr hts hown hlocks hml hnm9 A hA hS hP hD hK hXN Q9 hQ9 ls hl => ?_)
  have g1 := gpB hnb.1 hnb.2.2.1 hnc.1 hnc.2.2.1
  have g2 := gpB hnb.2.1 hnb.2.2.2 hnc.2.1 hnc.2.2.2
  have q1 := sqB g1
  have q2 := sqB g2
  have hsq := sq_pos g1 g2
  refine lv_aload_n hx hb dX0_isApart_0 rfl (lv_at hl 0 rfl) ?_
  refine lv_aload_n hx hb dX0_isApart_1 rfl (lv_at hl 1 rfl) ?_
  obtain ⟨hPc, hDc, hFc, hI1⟩ := zi_sub (wc := [_, _]) hP hD hS hA [0, 1] rfl rfl
  refine zcall (st1 := [.int (iI ((gp l0 r0 l1 r1) * (gp l0 r0 l1 r1) + (gp o0 h0 o1 h1) * (gp o0 h0 o1 h1)))]) (va_runV (As := [.ref b1]) (rest := []) ⟨hx, hb, hml, hown, hts⟩ (k_Box_squareApart l dC dI cI cZ cF s.heap.size b0 l0 o0 r0 h0 b1 l1 o1 r1 h1 (by first | with_reducible assumption | assumption) (by first | with_reducible assumption | assumption)) (csV_18 hts rfl rfl ⟨Nat.le_of_ble_eq_true rfl, Nat.le_of_ble_eq_true rfl⟩) (zPV2 (q0 := 0) (ci := 0) hPc hDc hK hXN rfl rfl) rfl rfl hl.1 rfl (lv_room (Nat.le_of_ble_eq_true rfl)) dX0_isApart_2 ⟨Nat.le_of_ble_eq_true rfl, Nat.le_of_ble_eq_true rfl⟩) hS hFc hFc rfl (fun t H locs ht hB hk1 hS => ?_)
  obtain ⟨hP1, hD1⟩ := hB
  rw [ht] at hP1
  replace hP := z0 hP hD hk1 hP1 hI1
  clear hk1 hPc hDc hFc hP1 hD1 ht hI1
  refine lv_if_le (tgt := 12) hx hb dX0_isApart_5 rfl (fun c_1 => ?_) (fun c_1 => ?_)
  · have c_1 : ((gp l0 r0 l1 r1) * (gp l0 r0 l1 r1) + (gp o0 h0 o1 h1) * (gp o0 h0 o1 h1)) ≤ 0 := zc_le (iI_toInt (by omega)) rfl c_1
    refine lv_iconst (v := 0) hx hb dX0_isApart_12 rfl ?_
    obtain ⟨hP9, hD9⟩ := zu_sub (wc := [_, _]) hP hD [true, true] rfl rfl
    rw [hQ9]
    exact W.zret (ty := .boolean) (v := 0) hx hb hr (rfl) (fun t ht hW => ⟨⟨congrArg (fun z => Outcome.returned (some (Value.int z))) (show (0 : Int32) = pI (r0 < l1 ∨ r1 < l0 ∨ h0 < o1 ∨ h1 < o0) from (zp_f (by unfold gp at *; omega)).symm), by rw [ht]; exact hP9, hD9⟩, hS.F ht⟩) hS.2.2 dX0_isApart_13
  · have c_1 : 0 < ((gp l0 r0 l1 r1) * (gp l0 r0 l1 r1) + (gp o0 h0 o1 h1) * (gp o0 h0 o1 h1)) := zc_nle (iI_toInt (by omega)) rfl c_1
    refine lv_iconst (v := 1) hx hb dX0_isApart_8 rfl ?_
    refine lv_goto (tgt := 13) hx hb dX0_isApart_9 rfl ?_
    obtain ⟨hP9, hD9⟩ := zu_sub (wc := [_, _]) hP hD [true, true] rfl rfl
    rw [hQ9]
    exact W.zret (ty := .boolean) (v := 1) hx hb hr (rfl) (fun t ht hW => ⟨⟨congrArg (fun z => Outcome.returned (some (Value.int z))) (show (1 : Int32) = pI (r0 < l1 ∨ r1 < l0 ∨ h0 < o1 ∨ h1 < o0) from (zp_t (by unfold gp at *; omega)).symm), by rw [ht]; exact hP9, hD9⟩, hS.F ht⟩) hS.2.2 dX0_isApart_13
end
section
/-! the reference's triangles, areas and lengths -/
def wtM (a1 a2 b1 b2 c1 c2 x y : Int) : Prop := (cr a1 a2 b1 b2 c1 c2 = 0 ∧ (onS a1 a2 b1 b2 x y ∨ onS b1 b2 c1 c2 x y ∨ onS c1 c2 a1 a2 x y)) ∨ (¬ cr a1 a2 b1 b2 c1 c2 = 0 ∧ ((0 ≤ cr a1 a2 b1 b2 x y ∧ 0 ≤ cr b1 b2 c1 c2 x y ∧ 0 ≤ cr c1 c2 a1 a2 x y) ∨ (cr a1 a2 b1 b2 x y ≤ 0 ∧ cr b1 b2 c1 c2 x y ≤ 0 ∧ cr c1 c2 a1 a2 x y ≤ 0)))
theorem sg_s (z : Int) : (0 < z ∧ sg z = 1) ∨ (z < 0 ∧ sg z = -1) ∨ (z = 0 ∧ sg z = 0) := by unfold sg; split <;> (try split) <;> omega
theorem xyL {x y u v : Int32} (h1 : pl x) (h2 : pl y) (h3 : pl u) (h4 : pl v) : x.toInt64 * y.toInt64 - u.toInt64 * v.toInt64 = jI (x.toInt * y.toInt - u.toInt * v.toInt) := by
  have p := xyB h1 h2; have q := xyB h3 h4
  have e1 : (x.toInt64 * y.toInt64).toInt = x.toInt * y.toInt := by rw [fb_mulL (by rw [i64, i64]; omega) (by rw [i64, i64]; omega), i64, i64]
  have e2 : (u.toInt64 * v.toInt64).toInt = u.toInt * v.toInt := by rw [fb_mulL (by rw [i64, i64]; omega) (by rw [i64, i64]; omega), i64, i64]
  refine jI_of ?_
  rw [fb_subL (by rw [e1, e2]; omega) (by rw [e1, e2]; omega), e1, e2]
theorem jI_neg {z : Int} (h : -1000000000000000 ≤ z ∧ z ≤ 1000000000000000) : -(jI z) = jI (-z) := by
  refine jI_of ?_
  rw [Int64.toInt_neg, jI_toInt (by omega), fb_bmodL (by omega) (by omega)]
theorem nI_64 {m : Nat} (h : m < 2147483648) : (nI m).toInt64 = jI (m : Int) := jI_of (by rw [i64, nI_toInt h])
/-- what a corner that goes sweeps -/
def swB (on : Nat) (X Y : Nat → Int32) (b : Nat) (x y : Int) : Prop := ¬ (x = (X (prv on b)).toInt ∧ y = (Y (prv on b)).toInt) ∧ ¬ (x = (X (nxt on b)).toInt ∧ y = (Y (nxt on b)).toInt) ∧ wtM (X (prv on b)).toInt (Y (prv on b)).toInt (X b).toInt (Y b).toInt (X (nxt on b)).toInt (Y (nxt on b)).toInt x y
/-- what an edge that moves sweeps: its ends' old places (X, Y), their new ones (P, Q) -/
def stay (X Y P Q : Nat → Int32) (k : Nat) : Prop := (X k).toInt = (P k).toInt ∧ (Y k).toInt = (Q k).toInt
def spr (on : Nat) (X Y P Q : Nat → Int32) (k : Nat) (x y : Int) : Prop := (stay X Y P Q k ∧ stay X Y P Q (nxt on k)) ∨ (stay X Y P Q k ∧ x = (X k).toInt ∧ y = (Y k).toInt) ∨ (stay X Y P Q (nxt on k) ∧ x = (X (nxt on k)).toInt ∧ y = (Y (nxt on k)).toInt)
def swp (on : Nat) (X Y P Q : Nat → Int32) (x y : Int) (k : Nat) : Prop := ¬ spr on X Y P Q k x y ∧ (wtM (X k).toInt (Y k).toInt (X (nxt on k)).toInt (Y (nxt on k)).toInt (P (nxt on k)).toInt (Q (nxt on k)).toInt x y ∨ wtM (X k).toInt (Y k).toInt (P k).toInt (Q k).toInt (P (nxt on k)).toInt (Q (nxt on k)).toInt x y)
theorem tPl {T : Nat → Int32} (h0 : pl (T 0)) (h1 : pl (T 1)) (h2 : pl (T 2)) (h3 : pl (T 3)) (h4 : pl (T 4)) (h5 : pl (T 5)) : ∀ k, k < 6 → pl (T k) := by
  intro k hk
  rcases (show k = 0 ∨ k = 1 ∨ k = 2 ∨ k = 3 ∨ k = 4 ∨ k = 5 by omega) with rfl | rfl | rfl | rfl | rfl | rfl <;> assumption
theorem jI_sub {y z : Int} (h1 : -1000000000000000 ≤ y ∧ y ≤ 1000000000000000) (h2 : -1000000000000000 ≤ z ∧ z ≤ 1000000000000000) : jI y - jI z = jI (y - z) := by
  refine jI_of ?_
  rw [fb_subL (by rw [jI_toInt (by omega), jI_toInt (by omega)]; omega) (by rw [jI_toInt (by omega), jI_toInt (by omega)]; omega), jI_toInt (by omega), jI_toInt (by omega)]
/-- a way from a to b and an edge c d have only the place x y in common -/
def oAt (a1 a2 b1 b2 c1 c2 d1 d2 x y : Int) : Prop := onS c1 c2 d1 d2 x y ∧ ((a1 = b1 ∧ a2 = b2) ∨ (c1 = d1 ∧ c2 = d2) ∨ ¬ (b1 - a1) * (d2 - c2) - (b2 - a2) * (d1 - c1) = 0 ∨ (¬ 0 < dt c1 c2 x y b1 b2 ∧ ¬ 0 < dt d1 d2 x y b1 b2))
theorem mt_cg {S : Nat → Int32} {a0 a1 a2 a3 a4 a5 a6 a7 : Int32} (s0 : S 0 = a0) (s1 : S 1 = a1) (s2 : S 2 = a2) (s3 : S 3 = a3) (s4 : S 4 = a4) (s5 : S 5 = a5) (s6 : S 6 = a6) (s7 : S 7 = a7) : mtC (S 0).toInt (S 1).toInt (S 2).toInt (S 3).toInt (S 4).toInt (S 5).toInt (S 6).toInt (S 7).toInt ↔ mtC a0.toInt a1.toInt a2.toInt a3.toInt a4.toInt a5.toInt a6.toInt a7.toInt := by rw [s0, s1, s2, s3, s4, s5, s6, s7]
theorem oa_cg {S : Nat → Int32} {a0 a1 a2 a3 a4 a5 a6 a7 : Int32} {x y : Int} (s0 : S 0 = a0) (s1 : S 1 = a1) (s2 : S 2 = a2) (s3 : S 3 = a3) (s4 : S 4 = a4) (s5 : S 5 = a5) (s6 : S 6 = a6) (s7 : S 7 = a7) : oAt (S 0).toInt (S 1).toInt (S 2).toInt (S 3).toInt (S 4).toInt (S 5).toInt (S 6).toInt (S 7).toInt x y ↔ oAt a0.toInt a1.toInt a2.toInt a3.toInt a4.toInt a5.toInt a6.toInt a7.toInt x y := by rw [s0, s1, s2, s3, s4, s5, s6, s7]
/-- edge k lies on a point's way from x0 to x1 at most where the point was -/
def fWy (x0 y0 x1 y1 : Int) (n : Nat) (X Y : Nat → Int32) (k : Nat) : Prop := mtC x0 y0 x1 y1 (X k).toInt (Y k).toInt (X (nxt n k)).toInt (Y (nxt n k)).toInt → oAt x0 y0 x1 y1 (X k).toInt (Y k).toInt (X (nxt n k)).toInt (Y (nxt n k)).toInt x0 y0
end
section
/-! the reference's features: how many corners; those that are there -/
def nN (v : Int32) : Nat := v.toInt.toNat
def wfM (mn cx cy : Nat → Int32) (g : Nat) : Prop := mn g = nI (nN (mn g)) ∧ (1 ≤ nN (mn g) ∧ nN (mn g) ≤ 40) ∧ pls (nN (mn g)) (cF40 cx g) (cF40 cy g)
/-- a place is of a feature's set -/
def onF (kd mn cx cy : Nat → Int32) (g : Nat) (x y : Int) : Prop := ∃ i, i < eO (kd g).toInt (nN (mn g)) ∧ eOn (nN (mn g)) (cF40 cx g) (cF40 cy g) i x y
/-- a place is inside a ring -/
def inF (k : Int) (n : Nat) (X Y : Nat → Int32) (x y : Int) : Prop := ¬ (∃ i, i < eO k n ∧ eOn n X Y i x y) ∧ par2 (eTg n X Y x y) (eO k n)
def mtF (k : Int) (n : Nat) (X Y : Nat → Int32) (k2 : Int) (m : Nat) (U V : Nat → Int32) : Prop := ∃ i, i < eO k n ∧ ∃ j, j < eO k2 m ∧ eMt n X Y i m U V j
theorem zp_eq {p q : Prop} : pI p = pI q ↔ (p ↔ q) := by
  by_cases hp : p <;> by_cases hq : q <;> simp [pI, hp, hq]
theorem zp_ieq {p q : Prop} : (pI p).toInt = (pI q).toInt ↔ (p ↔ q) :=
  ⟨fun h => zp_eq.mp (Int32.toInt_inj.mp h), fun h => congrArg Int32.toInt (zp_eq.mpr h)⟩
/-- a feature's change is lawful to another one: what was met, inside; what is swept; a point's way -/
def lawTo (x0 y0 : Int32) (kf : Int) (n : Nat) (X Y : Nat → Int32) (kg : Int) (m : Nat) (U V : Nat → Int32) (mt wi : Prop) (ins sw : Nat → Prop) : Prop :=
  (mtF kf n X Y kg m U V ↔ mt) ∧ (5 ≤ kg → (inF kg m U V (X 0).toInt (Y 0).toInt ↔ wi)) ∧ (∀ k, k < m → (5 ≤ kf → (inF kf n X Y (U k).toInt (V k).toInt ↔ ins k)) ∧ (¬ kf = 0 → ¬ sw k)) ∧ (kf = 0 → ∀ k, k < eO kg m → fWy x0.toInt y0.toInt (X 0).toInt (Y 0).toInt m U V k)
end
section
/-! an answer of two values; a switch's reach -/
section ZD
variable {p : Program} {l : Launch} {e : Env} {R : Room} {s : State} {m : MethodId} {args : Array Value} {below : List Frame} {meth : Method} {c : Code} {H : Heap} {locs : List Loc} {cells slots : Nat} {Q : State → Prop}
variable {pc : Nat} {ls : Array Slot} {rest : List Value}
theorem zz_i2 {x v1 v2 : Int32} {P1 P2 : Prop} (h : (x = v1 ∧ P1) ∨ (x = v2 ∧ P2)) (k1 : P1 → W p l e R s m args below meth c H locs cells slots Q (F0 m pc ls (.int v1 :: rest))) (k2 : P2 → W p l e R s m args below meth c H locs cells slots Q (F0 m pc ls (.int v2 :: rest))) : W p l e R s m args below meth c H locs cells slots Q (F0 m pc ls (.int x :: rest)) := by
  rcases h with ⟨h, h1⟩ | ⟨h, h1⟩
  · rw [h]; exact k1 h1
  · rw [h]; exact k2 h1
end ZD
theorem zz_sw {lo hi : Int} {x : Int32} {z : Int} (hx : x.toInt = z) : ((x.toInt < lo ∨ hi < x.toInt) ∧ (z < lo ∨ hi < z)) ∨ ((lo ≤ z ∧ z ≤ hi) ∧ ¬ x.toInt < lo ∧ ¬ hi < x.toInt) := by rw [hx]; omega
/-- what is left of a row when a corner goes -/
def shp (f k i : Nat) (c : Nat → Int32) : Nat → Int32 := fun j => if 40 * f + k ≤ j ∧ j < 40 * f + i then c (j + 1) else c j
theorem shp_0 (f k : Nat) (c : Nat → Int32) : c = shp f k k c := by
  funext j; unfold shp; rw [if_neg (by omega)]
theorem shp_s {f k i : Nat} {c c1 : Nat → Int32} {x : Int32} (h : k ≤ i) (h1 : c1 = shp f k i c) (hx : x = c (40 * f + (i + 1))) : upd c1 (40 * f + i) x = shp f k (i + 1) c := by
  subst h1 hx
  funext j; unfold upd shp
  by_cases q : j = 40 * f + i
  · subst q; rw [if_pos rfl, if_pos (by omega)]; rfl
  · rw [if_neg q]
    by_cases q2 : 40 * f + k ≤ j ∧ j < 40 * f + i
    · rw [if_pos q2, if_pos (by omega)]
    · rw [if_neg q2, if_neg (by omega)]
theorem shp_o {f k i j : Nat} {c : Nat → Int32} (h : i ≤ 40) (hj : j < 40 * f ∨ 40 * f + 40 ≤ j) : shp f k i c j = c j := by unfold shp; rw [if_neg (by omega)]
theorem mSm_pos {kd : Int} {n : Nat} {X Y : Nat → Int32} (h : mSm kd n X Y) : 1 ≤ n := by
  unfold mSm at h
  by_cases q : kd = 0
  · have := h.1 q; omega
  · have := (h.2 q).1; unfold mnc at this; split at this <;> omega
theorem wfM_o {mn mn1 cx cx1 cy cy1 : Nat → Int32} {f q : Nat} (h : wfM mn cx cy q) (hq : q ≠ f) (hm : ∀ j, j ≠ f → mn1 j = mn j) (hx : ∀ j, (j < 40 * f ∨ 40 * f + 40 ≤ j) → cx1 j = cx j ∧ cy1 j = cy j) : wfM mn1 cx1 cy1 q := by
  unfold wfM at *
  rw [hm q hq]
  refine ⟨h.1, h.2.1, fun k hk => ?_⟩
  have h2 := hx (40 * q + k) (by omega)
  show pl (cx1 (40 * q + k)) ∧ pl (cy1 (40 * q + k))
  rw [h2.1, h2.2]; exact h.2.2 k hk
/-- features that are there, and not torn -/
abbrev lvF (ft : Nat) (st tn : Nat → Int32) (q : Nat) : Prop := q < ft ∧ (st q).toInt = 1 ∧ (tn q).toInt = 0
/-- what two features had in common before a change -/
abbrev bMt (kd mn cx cy : Nat → Int32) (f n q : Nat) : Prop := mtF (kd f).toInt n (cF40 cx f) (cF40 cy f) (kd q).toInt (nN (mn q)) (cF40 cx q) (cF40 cy q)
abbrev bWi (kd mn cx cy : Nat → Int32) (f q : Nat) : Prop := inF (kd q).toInt (nN (mn q)) (cF40 cx q) (cF40 cy q) (cF40 cx f 0).toInt (cF40 cy f 0).toInt
abbrev bIn (kd cx cy : Nat → Int32) (f n q k : Nat) : Prop := inF (kd f).toInt n (cF40 cx f) (cF40 cy f) (cF40 cx q k).toInt (cF40 cy q k).toInt
/-- a corner may go, but for the law -/
def mGo (ft : Nat) (st tn kd mn cx cy : Nat → Int32) (f n k : Nat) : Prop := ((5 ≤ (kd f).toInt ∧ ¬ n = 3) ∨ (¬ 5 ≤ (kd f).toInt ∧ ¬ k = 0 ∧ ¬ k = n - 1)) ∧ ¬ ∃ q, lvF ft st tn q ∧ q ≠ f ∧ onF kd mn cx cy q (cF40 cx f k).toInt (cF40 cy f k).toInt
/-- the change of a row is lawful: X Y with on corners it was, the arrays say what it is -/
def lwA (ft : Nat) (st tn kd mn cx cy : Nat → Int32) (f n : Nat) (x0 y0 : Int32) (MT WI : Nat → Prop) (IN SW : Nat → Nat → Prop) : Prop :=
  pls n (cF40 cx f) (cF40 cy f) ∧ mSm (kd f).toInt n (cF40 cx f) (cF40 cy f) ∧ ∀ q, lvF ft st tn q → q ≠ f → lawTo x0 y0 (kd f).toInt n (cF40 cx f) (cF40 cy f) (kd q).toInt (nN (mn q)) (cF40 cx q) (cF40 cy q) (MT q) (WI q) (IN q) (SW q)
abbrev sWp (on : Nat) (ox oy cx cy : Nat → Int32) (b q k : Nat) : Prop := swB on ox oy b (cF40 cx q k).toInt (cF40 cy q k).toInt
abbrev sWm (kf : Int) (on : Nat) (ox oy cx cy : Nat → Int32) (f q k : Nat) : Prop := ∃ e, e < eO kf on ∧ swp on ox oy (cF40 cx f) (cF40 cy f) (cF40 cx q k).toInt (cF40 cy q k).toInt e
abbrev sW0 (_ _ : Nat) : Prop := False
theorem swB_c {on b : Nat} {X Y U V : Nat → Int32} {x y : Int} (hb : b < on) (h : ∀ j, j < on → X j = U j ∧ Y j = V j) : swB on X Y b x y = swB on U V b x y := by
  have h1 := h _ (prv_lt (n := on) (i := b) hb); have h2 := h _ (nxt_lt (n := on) (i := b) (by omega)); have h3 := h b hb
  unfold swB; rw [h1.1, h1.2, h2.1, h2.2, h3.1, h3.2]
/-- a corner goes lawfully -/
def lwP (ft : Nat) (st tn kd mn cx cy : Nat → Int32) (f n k : Nat) : Prop := lwA ft st tn kd (upd mn f (nI (n - 1))) (shp f k (n - 1) cx) (shp f k (n - 1) cy) f (n - 1) (cF40 cx f 0) (cF40 cy f 0) (bMt kd mn cx cy f n) (bWi kd mn cx cy f) (bIn kd cx cy f n) (sWp n (cF40 cx f) (cF40 cy f) (shp f k (n - 1) cx) (shp f k (n - 1) cy) k)
theorem fn_c {c c1 X : Nat → Int32} {f n : Nat} (h1 : ∀ j, j < n → c1 (40 * f + j) = X j) (h2 : ∀ j, j < n → X j = c (40 * f + j)) (h3 : ∀ j, (j < 40 * f ∨ 40 * f + n ≤ j) → c1 j = c j) : c1 = c := by
  funext j
  by_cases q : j < 40 * f ∨ 40 * f + n ≤ j
  · exact h3 j q
  · obtain ⟨i, rfl⟩ : ∃ i, j = 40 * f + i := ⟨j - 40 * f, by omega⟩
    rw [h1 i (by omega), h2 i (by omega)]
theorem upd_back {m : Nat → Int32} {f : Nat} {x y : Int32} (h : m f = y) : upd (upd m f x) f y = m := by
  funext j; unfold upd
  by_cases q : j = f
  · rw [if_pos q, q, h]
  · rw [if_neg q, if_neg q]
theorem upd_self {m : Nat → Int32} {f : Nat} {y : Int32} (h : m f = y) : upd m f y = m := by
  funext j; unfold upd
  by_cases q : j = f
  · rw [if_pos q, q, h]
  · rw [if_neg q]
def wrN (v : Int32) : Int32 := @ite Int32 (v.toInt = 1) (inferInstanceAs (Decidable (v.toInt = 1))) 0 2
theorem wrN_s (v : Int32) : (wrN v = 0 ∧ v.toInt = 1) ∨ (wrN v = 2 ∧ ¬ v.toInt = 1) := by
  unfold wrN
  by_cases h : v.toInt = 1
  · rw [if_pos h]; exact Or.inl ⟨rfl, h⟩
  · rw [if_neg h]; exact Or.inr ⟨rfl, h⟩
end
