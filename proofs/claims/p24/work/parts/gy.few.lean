section
set_option maxHeartbeats 4000000 in
set_option maxRecDepth 100000 in
theorem k_few_4 (l : Launch) (dC : Nat → ClassId) (dI : Nat → Nat → Nat) (cI cZ cF : ClassId) (sz : Nat) (x : Nat) (sh : Nat) (lw : Nat) (ro : Nat) (bq : Nat) (bp : Nat) (dq : Nat) (dp : Nat) (lv : Nat) (sl : Nat) (sd : Int32) (ul : Int32) (su : Int32) (ds : Int32) (le9 : Int32) (mv9 : Int32) (hbad : ¬ (0 ≤ le9.toInt ∧ (0 ≤ mv9.toInt ∧ mv9.toInt ≤ 200))) : zM l yX10_few cX10_few 6 (some .int) ({ frames := 1, cells := 0, slots := 0, locals := 22 } : Room) [.ref x, .int le9, .int mv9] (dC, dI) (zTy cI cZ cF) [(oc8 x (.ref sh) (.ref lw) (.ref ro) (.ref bq) (.ref bp) (.ref dq) (.ref dp) (.ref lv) (.ref sl) ds sd ul su)] sz (some (.int (-1))) (fun A t => zPD (dC, dI) classes A [(oc8 x (.ref sh) (.ref lw) (.ref ro) (.ref bq) (.ref bp) (.ref dq) (.ref dp) (.ref lv) (.ref sl) ds sd ul 4)] t.heap) 0 0 := by
  refine zIn (own := "ScaleShop") (loc := [(0, .ref x), (1, .int le9), (2, .int mv9)]) rfl rfl rfl rfl (fun p e s m below meth c hx hb hr hts hown hlocks hml hnm9 A hA hS hP hD hK hXN Q9 hQ9 ls hl => ?_)
  have e_0 : (0 : Int32).toInt = 0 := (by decide)
  have e_200 : (200 : Int32).toInt = 200 := (by decide)
  refine lv_iload_n hx hb dX10_few_0 rfl (lv_at hl 1 rfl) ?_
  refine lv_if_lt (tgt := 15) hx hb dX10_few_1 rfl (fun c_1 => ?_) (fun c_1 => ?_)
  · have c_1 : le9.toInt < 0 := zc_lt rfl rfl c_1
    refine lv_aload_n hx hb dX10_few_15 rfl (lv_at hl 0 rfl) ?_
    refine lv_iconst (v := 4) hx hb dX10_few_16 rfl ?_
    obtain ⟨hPc, hDc, hFc⟩ := zo_sub (wc := [_]) hP hD hS hA [0] rfl rfl
    refine zcall (st1 := [.int (-1)]) (va_runV (As := [.int 4]) (rest := []) ⟨hx, hb, hml, hown, hts⟩ (k_refuse_4 l dC dI cI cZ cF s.heap.size x sh lw ro bq bp dq dp lv sl sd ul su ds ) (csV_95 hts rfl rfl ⟨Nat.le_of_ble_eq_true rfl, Nat.le_of_ble_eq_true rfl⟩) (zPV2 (q0 := 0) (ci := 8) hPc hDc hK hXN rfl rfl) rfl rfl hl.1 rfl (lv_room (Nat.le_of_ble_eq_true rfl)) dX10_few_17 ⟨Nat.le_of_ble_eq_true rfl, Nat.le_of_ble_eq_true rfl⟩) hS hFc hFc rfl (fun t H locs ht hB hk1 hS => ?_)
    obtain ⟨hP1, hD1⟩ := hB
    rw [ht] at hP1
    obtain ⟨hP, hD⟩ := zn (W2 := [(oc8 x (.ref sh) (.ref lw) (.ref ro) (.ref bq) (.ref bp) (.ref dq) (.ref dp) (.ref lv) (.ref sl) ds sd ul 4)]) hP hD hk1 hFc hP1 hD1 [0] [] [false] [0] (by decide +kernel) rfl rfl rfl rfl rfl
    clear hk1 hPc hDc hFc hP1 hD1 ht
    obtain ⟨hP9, hD9⟩ := zu_sub (wc := [_]) hP hD [true] rfl rfl
    rw [hQ9]
    exact W.iret (v := (-1)) hx hb hr (fun t ht hW => ⟨⟨rfl, by rw [ht]; exact hP9, hD9⟩, hS.F ht⟩) hS.2.2 dX10_few_20
  · have c_1 : 0 ≤ le9.toInt := zc_nlt rfl rfl c_1
    refine lv_iload_n hx hb dX10_few_4 rfl (lv_at hl 2 rfl) ?_
    refine lv_iconst (v := 0) hx hb dX10_few_5 rfl ?_
    refine lv_sipush (v := 200) hx hb dX10_few_6 rfl ?_
    obtain ⟨hPc, hDc, hFc, hI1⟩ := zi_sub (wc := []) hP hD hS hA [] rfl rfl
    refine zcall (st1 := [.int (pI ((0 : Int32).toInt ≤ mv9.toInt ∧ mv9.toInt ≤ (200 : Int32).toInt))]) (va_runS (As := [.int mv9, .int 0, .int 200]) (rest := []) ⟨hx, hb, hml, hown, hts⟩ (k_isWithin l dC dI cI cZ cF s.heap.size mv9 0 200 ) (csS_14 hts rfl rfl ⟨Nat.le_of_ble_eq_true rfl, Nat.le_of_ble_eq_true rfl⟩) (zPS2 hPc hDc hK hXN) rfl rfl hl.1 rfl (lv_room (Nat.le_of_ble_eq_true rfl)) dX10_few_9 ⟨Nat.le_of_ble_eq_true rfl, Nat.le_of_ble_eq_true rfl⟩) hS hFc hFc rfl (fun t H locs ht hB hk1 hS => ?_)
    obtain ⟨hP1, hD1⟩ := hB
    rw [ht] at hP1
    replace hP := z0 hP hD hk1 hP1 hI1
    clear hk1 hPc hDc hFc hP1 hD1 ht hI1
    refine lv_if_ne (tgt := 21) hx hb dX10_few_12 rfl (fun c_2 => ?_) (fun c_2 => ?_)
    · have c_2 : (0 : Int32).toInt ≤ mv9.toInt ∧ mv9.toInt ≤ (200 : Int32).toInt := zp_1 c_2
      exfalso; omega
    · have c_2 : ¬ ((0 : Int32).toInt ≤ mv9.toInt ∧ mv9.toInt ≤ (200 : Int32).toInt) := zp_0 c_2
      refine lv_aload_n hx hb dX10_few_15 rfl (lv_at hl 0 rfl) ?_
      refine lv_iconst (v := 4) hx hb dX10_few_16 rfl ?_
      obtain ⟨hPc, hDc, hFc⟩ := zo_sub (wc := [_]) hP hD hS hA [0] rfl rfl
      refine zcall (st1 := [.int (-1)]) (va_runV (As := [.int 4]) (rest := []) ⟨hx, hb, hml, hown, hts⟩ (k_refuse_4 l dC dI cI cZ cF H.size x sh lw ro bq bp dq dp lv sl sd ul su ds ) (csV_95 hts rfl rfl ⟨Nat.le_of_ble_eq_true rfl, Nat.le_of_ble_eq_true rfl⟩) (zPV2 (q0 := 0) (ci := 8) hPc hDc hK hXN rfl rfl) rfl rfl hl.1 rfl (lv_room (Nat.le_of_ble_eq_true rfl)) dX10_few_17 ⟨Nat.le_of_ble_eq_true rfl, Nat.le_of_ble_eq_true rfl⟩) hS hFc hFc rfl (fun t H locs ht hB hk1 hS => ?_)
      obtain ⟨hP1, hD1⟩ := hB
      rw [ht] at hP1
      obtain ⟨hP, hD⟩ := zn (W2 := [(oc8 x (.ref sh) (.ref lw) (.ref ro) (.ref bq) (.ref bp) (.ref dq) (.ref dp) (.ref lv) (.ref sl) ds sd ul 4)]) hP hD hk1 hFc hP1 hD1 [0] [] [false] [0] (by decide +kernel) rfl rfl rfl rfl rfl
      clear hk1 hPc hDc hFc hP1 hD1 ht
      obtain ⟨hP9, hD9⟩ := zu_sub (wc := [_]) hP hD [true] rfl rfl
      rw [hQ9]
      exact W.iret (v := (-1)) hx hb hr (fun t ht hW => ⟨⟨rfl, by rw [ht]; exact hP9, hD9⟩, hS.F ht⟩) hS.2.2 dX10_few_20
set_option maxHeartbeats 4000000 in
set_option maxRecDepth 100000 in
theorem k_few_0 (l : Launch) (dC : Nat → ClassId) (dI : Nat → Nat → Nat) (cI cZ cF : ClassId) (sz : Nat) (cO : ClassId) (e0 : Nat) (mi : Nat) (x : Nat) (sh : Nat) (lw : Nat) (ro : Nat) (bq : Nat) (bp : Nat) (dq : Nat) (dp : Nat) (lv : Nat) (sl : Nat) (sd : Int32) (ul : Int32) (su : Int32) (ea : Nat) (mc9 : Int32) (fa : Nat) (FA : Nat → Option Nat) (bs : Nat) (dn : Nat) (T : Nat) (ft : Nat) (FT : Nat → Nat) (V : Nat → Nat → Nat → Int32) (VX : Nat → Nat → Int32) (VY : Nat → Nat → Int32) (tn : Nat → Int32) (rk : Nat → Int32) (wd : Nat → Int32) (tw : Nat → Int32) (pa : Nat → Int32) (pb : Nat → Int32) (wh : Nat → Int32) (of9 : Nat → Int32) (we : Nat → Int32) (kd : Nat → Int32) (st : Nat → Int32) (gb : Nat → Int32) (it : Nat → Int32) (mn : Nat → Int32) (cx : Nat → Int32) (cy : Nat → Int32) (L : List Nat) (f : Nat → va_E) (le9 : Int32) (mv9 : Int32) (LV : Nat → Int32) (hB : shB cI cO L f e0 FA ea bs dn T ft FT V VX VY tn rk wd tw pa pb wh of9 we kd st gb it mn cx cy) (hok : okA ft st tn kd mn cx cy) (hgd : 0 ≤ le9.toInt ∧ (0 ≤ mv9.toInt ∧ mv9.toInt ≤ 200)) (hno : ∀ q, q < ft → ¬ fwM ft st tn kd mn tw cx cy le9.toInt mv9.toInt q) : zML l yX10_few cX10_few 6 (some .int) ({ frames := 4, cells := 0, slots := 0, locals := 93 } : Room) [.ref x, .int le9, .int mv9] (dC, dI) (zTyO cI cZ cF cO) e0 mi ([(oc8 x (.ref sh) (.ref lw) (.ref ro) (.ref bq) (.ref bp) (.ref dq) (.ref dp) (.ref lv) (.ref sl) (nI dn) sd ul su), (oc10 sl mc9 (.ref ea) (nI T)), (oa lv cZ 200 LV), (oc7 sh (.ref fa) (nI ft)), (oq fa cF 200 FA)] ++ va_pl L f) sz (some (.int (-1))) (fun A t => ∃ (LV1 : Nat → Int32), zPD (dC, dI) classes A ([(oc8 x (.ref sh) (.ref lw) (.ref ro) (.ref bq) (.ref bp) (.ref dq) (.ref dp) (.ref lv) (.ref sl) (nI dn) sd ul 8), (oc10 sl mc9 (.ref ea) (nI T)), (oa lv cZ 200 LV1), (oc7 sh (.ref fa) (nI ft)), (oq fa cF 200 FA)] ++ va_pl L f) t.heap) 0 0 := by
  refine zInL (own := "ScaleShop") (loc := [(0, .ref x), (1, .int le9), (2, .int mv9)]) rfl rfl rfl rfl (fun p e s m below meth c hx hb hr hts hown hlocks hml hnm9 A hA hS hP hD hK hXL hXN hK3 Q9 hQ9 ls hl => ?_)
  have hva9 := shB_va hB
  obtain ⟨own, fe, cl, la, sp, SA, hG9, hH9, hft9, hO9⟩ := hB
  obtain ⟨hG, hM, hdT, hT5, hO⟩ := M_0 hG9 hH9 hft9 hO9
  have h200 : ft ≤ 200 := hG.2.2.2.2.2.1.2.2.2.2.2
  have hFA9 := hG.2.2.2.2.2.2
  have e_0 : (0 : Int32).toInt = 0 := (by decide)
  have e_200 : (200 : Int32).toInt = 200 := (by decide)
  refine lv_iload_n hx hb dX10_few_0 rfl (lv_at hl 1 rfl) ?_
  refine lv_if_lt (tgt := 15) hx hb dX10_few_1 rfl (fun c_1 => ?_) (fun c_1 => ?_)
  · have c_1 : le9.toInt < 0 := zc_lt rfl rfl c_1
    exfalso; omega
  · have c_1 : 0 ≤ le9.toInt := zc_nlt rfl rfl c_1
    refine lv_iload_n hx hb dX10_few_4 rfl (lv_at hl 2 rfl) ?_
    refine lv_iconst (v := 0) hx hb dX10_few_5 rfl ?_
    refine lv_sipush (v := 200) hx hb dX10_few_6 rfl ?_
    obtain ⟨hPc, hDc, hFc, hI1⟩ := zi_sub (wc := []) hP hD hS hA [] rfl rfl
    refine zcall (st1 := [.int (pI ((0 : Int32).toInt ≤ mv9.toInt ∧ mv9.toInt ≤ (200 : Int32).toInt))]) (va_runS (As := [.int mv9, .int 0, .int 200]) (rest := []) ⟨hx, hb, hml, hown, hts⟩ (k_isWithin l dC dI cI cZ cF s.heap.size mv9 0 200 ) (csS_14 hts rfl rfl ⟨Nat.le_of_ble_eq_true rfl, Nat.le_of_ble_eq_true rfl⟩) (zPS2 hPc hDc hK3 hXN) rfl rfl hl.1 rfl (lv_room (Nat.le_of_ble_eq_true rfl)) dX10_few_9 ⟨Nat.le_of_ble_eq_true rfl, Nat.le_of_ble_eq_true rfl⟩) hS hFc hFc rfl (fun t H locs ht hB hk1 hS => ?_)
    obtain ⟨hP1, hD1⟩ := hB
    rw [ht] at hP1
    replace hP := z0 hP hD hk1 hP1 hI1
    clear hk1 hPc hDc hFc hP1 hD1 ht hI1
    refine lv_if_ne (tgt := 21) hx hb dX10_few_12 rfl (fun c_2 => ?_) (fun c_2 => ?_)
    · have c_2 : (0 : Int32).toInt ≤ mv9.toInt ∧ mv9.toInt ≤ (200 : Int32).toInt := zp_1 c_2
      refine lv_iconst (v := 0) hx hb dX10_few_21 rfl ?_
      refine lv_istore_n (lv' := [(3, .int 0), (0, .ref x), (1, .int le9), (2, .int mv9)]) hx hb dX10_few_22 rfl hl (Nat.le_of_ble_eq_true rfl) rfl (fun ls hl => ?_)
      have hl_23 : ∀ (n9 : Nat) (g5 : Nat) (LVk : Nat → Int32) (H : Heap) (locs : List Loc) (ls : Array Slot), ft - g5 < n9 → (g5 ≤ ft) → (∀ j, j < g5 → LVk j = pI (fwM ft st tn kd mn tw cx cy le9.toInt mv9.toInt j)) → va_P (dC, dI) classes ([(oc8 x (.ref sh) (.ref lw) (.ref ro) (.ref bq) (.ref bp) (.ref dq) (.ref dp) (.ref lv) (.ref sl) (nI dn) sd ul su), (oc10 sl mc9 (.ref ea) (nI T)), (oa lv cZ 200 LVk), (oc7 sh (.ref fa) (nI ft)), (oq fa cF 200 FA)] ++ va_pl L f) H → va_D A ([(oc8 x (.ref sh) (.ref lw) (.ref ro) (.ref bq) (.ref bp) (.ref dq) (.ref dp) (.ref lv) (.ref sl) (nI dn) sd ul su), (oc10 sl mc9 (.ref ea) (nI T)), (oa lv cZ 200 LVk), (oc7 sh (.ref fa) (nI ft)), (oq fa cF 200 FA)] ++ va_pl L f) → va_S A s.heap H locs → lv_has ls 6 [(3, .int (nI g5)), (0, .ref x), (1, .int le9), (2, .int mv9)] → W p l e ({ frames := 4, cells := 0, slots := 0, locals := 93 } : Room) s m ([.ref x, .int le9, .int mv9] : List Value).toArray below meth c H locs 0 0 Q9 (F0 m 23 ls []) := by
        intro n9
        induction n9 with
        | zero => intro g5 LVk H locs ls hm; exact absurd hm (Nat.not_lt_zero _)
        | succ n9 ih_23 =>
          intro g5 LVk H locs ls hm hg5 hlk hP hD hS hl
          have hgb9 := cntP_b (gtF ft st tn kd mn tw cx cy g5) ft
          refine lv_iload_n hx hb dX10_few_23 rfl (lv_at hl 0 rfl) ?_
          refine lv_aload_n hx hb dX10_few_24 rfl (lv_at hl 1 rfl) ?_
          refine va_get (D := (dC, dI)) (ci := 8) (v := .ref sh) (C := RX10) (T := TX10) (N := 13) hx hb hts inX10 hown hK hP 0 rfl rfl 0 (Nat.le_of_ble_eq_true rfl) (hts _ mw_309) (fun _ h9 => h9) rfl dX10_few_25 ?_
          refine va_get (D := (dC, dI)) (ci := 7) (v := .int (nI ft)) (C := RX8) (T := TX8) (N := 2) hx hb hts inX8 hown hK hP 3 rfl rfl 1 (Nat.le_of_ble_eq_true rfl) (hts _ mw_140) (fun _ h9 => h9) rfl dX10_few_28 ?_
          have b9_4 : zlt (g5) := show g5 < 2147483648 by omega
          have b9_5 : zlt (ft) := show ft < 2147483648 by omega
          refine lv_icmp_ge (tgt := 69) hx hb dX10_few_31 rfl (fun c_3 => ?_) (fun c_3 => ?_)
          · have c_3 : ((ft : Nat) : Int) ≤ ((g5 : Nat) : Int) := zc_le (nI_toInt b9_5) (nI_toInt b9_4) c_3
            have hgf : g5 = ft := (by omega)
            rw [hgf] at hlk
            refine lv_iconst (v := 0) hx hb dX10_few_69 rfl ?_
            refine lv_istore_n (lv' := [(3, .int 0), (0, .ref x), (1, .int le9), (2, .int mv9)]) hx hb dX10_few_70 rfl hl (Nat.le_of_ble_eq_true rfl) rfl (fun ls hl => ?_)
            refine lv_iconst (v := 0) hx hb dX10_few_71 rfl ?_
            refine lv_istore (lv' := [(4, .int 0), (3, .int 0), (0, .ref x), (1, .int le9), (2, .int mv9)]) hx hb dX10_few_72 hl (Nat.le_of_ble_eq_true rfl) rfl (fun ls hl => ?_)
            have hl_74 : ∀ (n9 : Nat) (g5 : Nat) (H : Heap) (locs : List Loc) (ls : Array Slot), ft - g5 < n9 → (g5 ≤ ft) → va_P (dC, dI) classes ([(oc8 x (.ref sh) (.ref lw) (.ref ro) (.ref bq) (.ref bp) (.ref dq) (.ref dp) (.ref lv) (.ref sl) (nI dn) sd ul su), (oc10 sl mc9 (.ref ea) (nI T)), (oa lv cZ 200 LVk), (oc7 sh (.ref fa) (nI ft)), (oq fa cF 200 FA)] ++ va_pl L f) H → va_D A ([(oc8 x (.ref sh) (.ref lw) (.ref ro) (.ref bq) (.ref bp) (.ref dq) (.ref dp) (.ref lv) (.ref sl) (nI dn) sd ul su), (oc10 sl mc9 (.ref ea) (nI T)), (oa lv cZ 200 LVk), (oc7 sh (.ref fa) (nI ft)), (oq fa cF 200 FA)] ++ va_pl L f) → va_S A s.heap H locs → lv_has ls 6 [(4, .int (nI g5)), (3, .int 0), (0, .ref x), (1, .int le9), (2, .int mv9)] → W p l e ({ frames := 4, cells := 0, slots := 0, locals := 93 } : Room) s m ([.ref x, .int le9, .int mv9] : List Value).toArray below meth c H locs 0 0 Q9 (F0 m 74 ls []) := by
              intro n9
              induction n9 with
              | zero => intro g5 H locs ls hm; exact absurd hm (Nat.not_lt_zero _)
              | succ n9 ih_74 =>
                intro g5 H locs ls hm hh5 hP hD hS hl
                refine lv_iload hx hb dX10_few_74 (lv_at hl 0 rfl) ?_
                refine lv_aload_n hx hb dX10_few_76 rfl (lv_at hl 2 rfl) ?_
                refine va_get (D := (dC, dI)) (ci := 8) (v := .ref sh) (C := RX10) (T := TX10) (N := 13) hx hb hts inX10 hown hK hP 0 rfl rfl 0 (Nat.le_of_ble_eq_true rfl) (hts _ mw_309) (fun _ h9 => h9) rfl dX10_few_77 ?_
                refine va_get (D := (dC, dI)) (ci := 7) (v := .int (nI ft)) (C := RX8) (T := TX8) (N := 2) hx hb hts inX8 hown hK hP 3 rfl rfl 1 (Nat.le_of_ble_eq_true rfl) (hts _ mw_140) (fun _ h9 => h9) rfl dX10_few_80 ?_
                have b9_7 : zlt (g5) := show g5 < 2147483648 by omega
                refine lv_icmp_ge (tgt := 132) hx hb dX10_few_83 rfl (fun c_6 => ?_) (fun c_6 => ?_)
                · have c_6 : ((ft : Nat) : Int) ≤ ((g5 : Nat) : Int) := zc_le (nI_toInt b9_5) (nI_toInt b9_7) c_6
                  refine lv_iload_n hx hb dX10_few_132 rfl (lv_at hl 1 rfl) ?_
                  refine lv_if_ne (tgt := 143) hx hb dX10_few_133 rfl (fun c_8 => ?_) (fun c_8 => ?_)
                  · exact absurd (by decide) c_8
                  · refine lv_aload_n hx hb dX10_few_136 rfl (lv_at hl 2 rfl) ?_
                    refine lv_bipush (v := 8) hx hb dX10_few_137 rfl ?_
                    obtain ⟨hPc, hDc, hFc⟩ := zo_sub (wc := [_]) hP hD hS hA [0] rfl rfl
                    refine zcall (st1 := [.int (-1)]) (va_runV (As := [.int 8]) (rest := []) ⟨hx, hb, hml, hown, hts⟩ (k_refuse_8 l dC dI cI cZ cF H.size x sh lw ro bq bp dq dp lv sl sd ul su (nI dn) ) (csV_95 hts rfl rfl ⟨Nat.le_of_ble_eq_true rfl, Nat.le_of_ble_eq_true rfl⟩) (zPV2 (q0 := 0) (ci := 8) hPc hDc hK3 hXN rfl rfl) rfl rfl hl.1 rfl (lv_room (Nat.le_of_ble_eq_true rfl)) dX10_few_139 ⟨Nat.le_of_ble_eq_true rfl, Nat.le_of_ble_eq_true rfl⟩) hS hFc hFc rfl (fun t H locs ht hB hk1 hS => ?_)
                    obtain ⟨hP1, hD1⟩ := hB
                    rw [ht] at hP1
                    obtain ⟨hP, hD⟩ := znQ (W2 := [(oc8 x (.ref sh) (.ref lw) (.ref ro) (.ref bq) (.ref bp) (.ref dq) (.ref dp) (.ref lv) (.ref sl) (nI dn) sd ul 8), _, _, _, _]) hP hD hk1 hFc hP1 hD1 [0] [false, true, true, true, true] [false, true, true, true, true] [0] (by decide +kernel) rfl rfl rfl rfl rfl
                    clear hk1 hPc hDc hFc hP1 hD1 ht
                    obtain ⟨hP9, hD9⟩ := zu_part (cx := [_, _, _, _, _]) hP hD [true, true, true, true, true] rfl rfl
                    rw [hQ9]
                    exact W.iret (v := (-1)) hx hb hr (fun t ht hW => ⟨⟨rfl, LVk, by rw [ht]; exact hP9, hD9⟩, hS.F ht⟩) hS.2.2 dX10_few_142
                · have c_6 : ((g5 : Nat) : Int) < ((ft : Nat) : Int) := zc_nle (nI_toInt b9_5) (nI_toInt b9_7) c_6
                  refine lv_aload_n hx hb dX10_few_86 rfl (lv_at hl 2 rfl) ?_
                  refine va_get (D := (dC, dI)) (ci := 8) (v := .ref sh) (C := RX10) (T := TX10) (N := 13) hx hb hts inX10 hown hK hP 0 rfl rfl 0 (Nat.le_of_ble_eq_true rfl) (hts _ mw_309) (fun _ h9 => h9) rfl dX10_few_87 ?_
                  refine lv_iload hx hb dX10_few_90 (lv_at hl 0 rfl) ?_
                  obtain ⟨hPc, hDc, hFc, hI1⟩ := zi_sub (wc := [_, _]) hP hD hS hA [3, 4] rfl rfl
                  refine zcall (st1 := [.ref (fe g5)]) (va_runV (As := [.int (nI g5)]) (rest := []) ⟨hx, hb, hml, hown, hts⟩ (k_Sheet_find l dC dI cI cZ cF H.size sh fa ft FA g5 (fe g5) (by first | with_reducible assumption | omega) (by first | with_reducible assumption | omega) (hFA9 g5 (by first | with_reducible assumption | omega))) (csV_94 hts rfl rfl ⟨Nat.le_of_ble_eq_true rfl, Nat.le_of_ble_eq_true rfl⟩) (zPV2 (q0 := 0) (ci := 7) hPc hDc hK3 hXN rfl rfl) rfl rfl hl.1 rfl (lv_room (Nat.le_of_ble_eq_true rfl)) dX10_few_92 ⟨Nat.le_of_ble_eq_true rfl, Nat.le_of_ble_eq_true rfl⟩) hS hFc hFc rfl (fun t H locs ht hB hk1 hS => ?_)
                  obtain ⟨hP1, hD1⟩ := hB
                  rw [ht] at hP1
                  replace hP := z0 hP hD hk1 hP1 hI1
                  clear hk1 hPc hDc hFc hP1 hD1 ht hI1
                  refine lv_astore (lv' := [(5, .ref (fe g5)), (4, .int (nI g5)), (3, .int 0), (0, .ref x), (1, .int le9), (2, .int mv9)]) hx hb dX10_few_95 hl (Nat.le_of_ble_eq_true rfl) rfl (fun ls hl => ?_)
                  refine lv_aload hx hb dX10_few_97 (lv_at hl 0 rfl) ?_
                  refine lv_ifnull hx hb dX10_few_99 ?_
                  refine lv_aload_n hx hb dX10_few_102 rfl (lv_at hl 3 rfl) ?_
                  refine va_get (D := (dC, dI)) (ci := 8) (v := .ref lv) (C := RX10) (T := TX10) (N := 13) hx hb hts inX10 hown hK hP 0 rfl rfl 7 (Nat.le_of_ble_eq_true rfl) (hts _ mw_316) (fun _ h9 => h9) rfl dX10_few_103 ?_
                  refine lv_iload hx hb dX10_few_106 (lv_at hl 1 rfl) ?_
                  have b9_9 : g5 < 200 := by omega
                  refine z_zald hx hb hK hP 2 1 rfl rfl (e := g5) rfl b9_9 (Nat.le_of_ble_eq_true rfl) dX10_few_108 ?_
                  refine zz_i (v := pI (fwM ft st tn kd mn tw cx cy le9.toInt mv9.toInt g5)) (hlk g5 (by omega)) ?_
                  refine lv_if_eq (tgt := 126) hx hb dX10_few_109 rfl (fun c_10 => ?_) (fun c_10 => ?_)
                  · have c_10 : ¬ (fwM ft st tn kd mn tw cx cy le9.toInt mv9.toInt g5) := zp_0 c_10
                    refine lv_iinc (v := nI (g5 + 1)) (lv' := [(4, .int (nI (g5 + 1))), (5, .ref (fe g5)), (3, .int 0), (0, .ref x), (1, .int le9), (2, .int mv9)]) hx hb dX10_few_126 hl (k := 1) rfl (nI_add g5 1) (Nat.le_of_ble_eq_true rfl) rfl (fun ls hl => ?_)
                    refine lv_goto (tgt := 74) hx hb dX10_few_129 rfl ?_
                    exact ih_74 (g5 + 1) H locs ls (by first | with_reducible assumption | omega) (by first | with_reducible assumption | omega) hP hD hS (lv_sub hl [0, 2, 3, 4, 5] rfl)
                  · have c_10 : fwM ft st tn kd mn tw cx cy le9.toInt mv9.toInt g5 := zp_1 c_10
                    exfalso; exact absurd (by first | with_reducible assumption | assumption) (hno g5 (by omega))
            exact hl_74 _ 0 H locs ls (Nat.lt_succ_self _) (by first | with_reducible assumption | omega) hP hD hS (lv_sub hl [0, 1, 2, 3, 4] rfl)
          · have c_3 : ((g5 : Nat) : Int) < ((ft : Nat) : Int) := zc_nle (nI_toInt b9_5) (nI_toInt b9_4) c_3
            refine lv_aload_n hx hb dX10_few_34 rfl (lv_at hl 1 rfl) ?_
            refine va_get (D := (dC, dI)) (ci := 8) (v := .ref lv) (C := RX10) (T := TX10) (N := 13) hx hb hts inX10 hown hK hP 0 rfl rfl 7 (Nat.le_of_ble_eq_true rfl) (hts _ mw_316) (fun _ h9 => h9) rfl dX10_few_35 ?_
            refine lv_iload_n hx hb dX10_few_38 rfl (lv_at hl 0 rfl) ?_
            refine lv_aload_n hx hb dX10_few_39 rfl (lv_at hl 1 rfl) ?_
            refine lv_iload_n hx hb dX10_few_40 rfl (lv_at hl 0 rfl) ?_
            refine lv_iload_n hx hb dX10_few_41 rfl (lv_at hl 2 rfl) ?_
            obtain ⟨hPc, hDc, hFc, hI1⟩ := zi_part (cx := [_, _, _]) hP hD hS hA [0, 3, 4] rfl rfl
            refine zcall (st1 := [.int (pI (smF ft st tn kd mn cx cy le9.toInt g5)), .int (nI g5), .ref lv]) (va_runV (As := [.int (nI g5), .int le9]) (rest := [.int (nI g5), .ref lv]) ⟨hx, hb, hml, hown, hts⟩ (k_isSmallHouse l dC dI cI cZ cF H.size x sh lw ro bq bp dq dp lv sl sd ul su (nI dn) fa ft FA g5 le9 L f kd st tn mn cx cy rk wd tw pa pb gb it (by first | with_reducible assumption | omega) (by first | with_reducible assumption | omega) (hva9) (hok)) (csV_124 hts rfl rfl ⟨Nat.le_of_ble_eq_true rfl, Nat.le_of_ble_eq_true rfl⟩) (zPV2 (q0 := 0) (ci := 8) hPc hDc hK3 hXN rfl rfl) rfl rfl hl.1 rfl (lv_room (Nat.le_of_ble_eq_true rfl)) dX10_few_42 ⟨Nat.le_of_ble_eq_true rfl, Nat.le_of_ble_eq_true rfl⟩) hS hFc hFc rfl (fun t H locs ht hB hk1 hS => ?_)
            obtain ⟨hP1, hD1⟩ := hB
            rw [ht] at hP1
            replace hP := z0 hP hD hk1 hP1 hI1
            clear hk1 hPc hDc hFc hP1 hD1 ht hI1
            refine lv_if_eq (tgt := 61) hx hb dX10_few_45 rfl (fun c_11 => ?_) (fun c_11 => ?_)
            · have c_11 : ¬ (smF ft st tn kd mn cx cy le9.toInt g5) := zp_0 c_11
              refine lv_iconst (v := 0) hx hb dX10_few_61 rfl ?_
              have b9_12 : g5 < 200 := by omega
              refine z_zast hx hb hK hP hD hS 2 1 rfl rfl (e := g5) (x := 0) rfl b9_12 (Nat.le_of_ble_eq_true rfl) (by decide) dX10_few_62 (fun H locs hP hD hS => ?_)
              obtain ⟨hP, hD⟩ := zre (W2 := ([_, _, (oa lv cZ 200 (upd LVk g5 0)), _, _] ++ va_pl L f)) hP hD rfl
              refine lv_iinc (v := nI (g5 + 1)) (lv' := [(3, .int (nI (g5 + 1))), (0, .ref x), (1, .int le9), (2, .int mv9)]) hx hb dX10_few_63 hl (k := 0) rfl (nI_add g5 1) (Nat.le_of_ble_eq_true rfl) rfl (fun ls hl => ?_)
              refine lv_goto (tgt := 23) hx hb dX10_few_66 rfl ?_
              exact ih_23 (g5 + 1) (upd LVk g5 0) H locs ls (by first | with_reducible assumption | omega) (by first | with_reducible assumption | omega) (by intro j hj; unfold upd; by_cases e : j = g5; (rw [if_pos e, e]; first | exact (zp_t ⟨by assumption, by omega⟩).symm | exact (zp_f (fun q => by have h9 := q.2; omega)).symm | exact (zp_f (fun q => absurd q.1 (by first | with_reducible assumption | assumption))).symm); (rw [if_neg e]; exact hlk j (by first | with_reducible assumption | omega))) hP hD hS (lv_sub hl [0, 1, 2, 3] rfl)
            · have c_11 : smF ft st tn kd mn cx cy le9.toInt g5 := zp_1 c_11
              refine lv_aload_n hx hb dX10_few_48 rfl (lv_at hl 1 rfl) ?_
              refine lv_iload_n hx hb dX10_few_49 rfl (lv_at hl 0 rfl) ?_
              obtain ⟨hPc, hDc, hFc, hI1⟩ := zi_part (cx := [_, _, _]) hP hD hS hA [0, 3, 4] rfl rfl
              refine zcall (st1 := [.int (nI (cntP (gtF ft st tn kd mn tw cx cy g5) ft)), .int (nI g5), .ref lv]) (va_runV (As := [.int (nI g5)]) (rest := [.int (nI g5), .ref lv]) ⟨hx, hb, hml, hown, hts⟩ (k_rankInTown l dC dI cI cZ cF H.size x sh lw ro bq bp dq dp lv sl sd ul su (nI dn) fa ft FA g5 L f kd st tn mn cx cy rk wd tw pa pb gb it own fe cl (la dn) (fun _ => 0) (fun _ => Value.null) (by first | with_reducible assumption | omega) (by first | with_reducible assumption | omega) (hG.1) (hG.2.1) (hFA9) (hok) ((by (first | with_reducible assumption | assumption) : smF ft st tn kd mn cx cy le9.toInt g5).1.2.1) ((by (first | with_reducible assumption | assumption) : smF ft st tn kd mn cx cy le9.toInt g5).1.2.2) ((by (first | with_reducible assumption | assumption) : smF ft st tn kd mn cx cy le9.toInt g5).2.1)) (csV_125 hts rfl rfl ⟨Nat.le_of_ble_eq_true rfl, Nat.le_of_ble_eq_true rfl⟩) (zPV2 (q0 := 0) (ci := 8) hPc hDc hK3 hXN rfl rfl) rfl rfl hl.1 rfl (lv_room (Nat.le_of_ble_eq_true rfl)) dX10_few_50 ⟨Nat.le_of_ble_eq_true rfl, Nat.le_of_ble_eq_true rfl⟩) hS hFc hFc rfl (fun t H locs ht hB hk1 hS => ?_)
              obtain ⟨hP1, hD1⟩ := hB
              rw [ht] at hP1
              replace hP := z0 hP hD hk1 hP1 hI1
              clear hk1 hPc hDc hFc hP1 hD1 ht hI1
              refine lv_iload_n hx hb dX10_few_53 rfl (lv_at hl 3 rfl) ?_
              have b9_14 : zlt ((cntP (gtF ft st tn kd mn tw cx cy g5) ft)) := show (cntP (gtF ft st tn kd mn tw cx cy g5) ft) < 2147483648 by omega
              refine lv_icmp_lt (tgt := 61) hx hb dX10_few_54 rfl (fun c_13 => ?_) (fun c_13 => ?_)
              · have c_13 : ((cntP (gtF ft st tn kd mn tw cx cy g5) ft : Nat) : Int) < mv9.toInt := zc_lt (nI_toInt b9_14) rfl c_13
                refine lv_iconst (v := 0) hx hb dX10_few_61 rfl ?_
                have b9_15 : g5 < 200 := by omega
                refine z_zast hx hb hK hP hD hS 2 1 rfl rfl (e := g5) (x := 0) rfl b9_15 (Nat.le_of_ble_eq_true rfl) (by decide) dX10_few_62 (fun H locs hP hD hS => ?_)
                obtain ⟨hP, hD⟩ := zre (W2 := ([_, _, (oa lv cZ 200 (upd LVk g5 0)), _, _] ++ va_pl L f)) hP hD rfl
                refine lv_iinc (v := nI (g5 + 1)) (lv' := [(3, .int (nI (g5 + 1))), (0, .ref x), (1, .int le9), (2, .int mv9)]) hx hb dX10_few_63 hl (k := 0) rfl (nI_add g5 1) (Nat.le_of_ble_eq_true rfl) rfl (fun ls hl => ?_)
                refine lv_goto (tgt := 23) hx hb dX10_few_66 rfl ?_
                exact ih_23 (g5 + 1) (upd LVk g5 0) H locs ls (by first | with_reducible assumption | omega) (by first | with_reducible assumption | omega) (by intro j hj; unfold upd; by_cases e : j = g5; (rw [if_pos e, e]; first | exact (zp_t ⟨by assumption, by omega⟩).symm | exact (zp_f (fun q => by have h9 := q.2; omega)).symm | exact (zp_f (fun q => absurd q.1 (by first | with_reducible assumption | assumption))).symm); (rw [if_neg e]; exact hlk j (by first | with_reducible assumption | omega))) hP hD hS (lv_sub hl [0, 1, 2, 3] rfl)
              · have c_13 : mv9.toInt ≤ ((cntP (gtF ft st tn kd mn tw cx cy g5) ft : Nat) : Int) := zc_nlt (nI_toInt b9_14) rfl c_13
                refine lv_iconst (v := 1) hx hb dX10_few_57 rfl ?_
                refine lv_goto (tgt := 62) hx hb dX10_few_58 rfl ?_
                have b9_16 : g5 < 200 := by omega
                refine z_zast hx hb hK hP hD hS 2 1 rfl rfl (e := g5) (x := 1) rfl b9_16 (Nat.le_of_ble_eq_true rfl) (by decide) dX10_few_62 (fun H locs hP hD hS => ?_)
                obtain ⟨hP, hD⟩ := zre (W2 := ([_, _, (oa lv cZ 200 (upd LVk g5 1)), _, _] ++ va_pl L f)) hP hD rfl
                refine lv_iinc (v := nI (g5 + 1)) (lv' := [(3, .int (nI (g5 + 1))), (0, .ref x), (1, .int le9), (2, .int mv9)]) hx hb dX10_few_63 hl (k := 0) rfl (nI_add g5 1) (Nat.le_of_ble_eq_true rfl) rfl (fun ls hl => ?_)
                refine lv_goto (tgt := 23) hx hb dX10_few_66 rfl ?_
                exact ih_23 (g5 + 1) (upd LVk g5 1) H locs ls (by first | with_reducible assumption | omega) (by first | with_reducible assumption | omega) (by intro j hj; unfold upd; by_cases e : j = g5; (rw [if_pos e, e]; first | exact (zp_t ⟨by assumption, by omega⟩).symm | exact (zp_f (fun q => by have h9 := q.2; omega)).symm | exact (zp_f (fun q => absurd q.1 (by first | with_reducible assumption | assumption))).symm); (rw [if_neg e]; exact hlk j (by first | with_reducible assumption | omega))) hP hD hS (lv_sub hl [0, 1, 2, 3] rfl)
      exact hl_23 _ 0 LV H locs ls (Nat.lt_succ_self _) (by first | with_reducible assumption | omega) (by intro j hj; omega) hP hD hS (lv_sub hl [0, 1, 2, 3] rfl)
    · have c_2 : ¬ ((0 : Int32).toInt ≤ mv9.toInt ∧ mv9.toInt ≤ (200 : Int32).toInt) := zp_0 c_2
      exfalso; omega
set_option maxHeartbeats 4000000 in
set_option maxRecDepth 100000 in
theorem k_few_y (l : Launch) (dC : Nat → ClassId) (dI : Nat → Nat → Nat) (cI cZ cF : ClassId) (sz : Nat) (cO : ClassId) (e0 : Nat) (mi : Nat) (x : Nat) (sh : Nat) (lw : Nat) (ro : Nat) (bq : Nat) (bp : Nat) (dq : Nat) (dp : Nat) (lv : Nat) (sl : Nat) (sd : Int32) (ul : Int32) (su : Int32) (ea : Nat) (mc9 : Int32) (fa : Nat) (FA : Nat → Option Nat) (bs : Nat) (dn : Nat) (T : Nat) (ft : Nat) (FT : Nat → Nat) (V : Nat → Nat → Nat → Int32) (VX : Nat → Nat → Int32) (VY : Nat → Nat → Int32) (tn : Nat → Int32) (rk : Nat → Int32) (wd : Nat → Int32) (tw : Nat → Int32) (pa : Nat → Int32) (pb : Nat → Int32) (wh : Nat → Int32) (of9 : Nat → Int32) (we : Nat → Int32) (kd : Nat → Int32) (st : Nat → Int32) (gb : Nat → Int32) (it : Nat → Int32) (mn : Nat → Int32) (cx : Nat → Int32) (cy : Nat → Int32) (L : List Nat) (f : Nat → va_E) (le9 : Int32) (mv9 : Int32) (LV : Nat → Int32) (hB : shB cI cO L f e0 FA ea bs dn T ft FT V VX VY tn rk wd tw pa pb wh of9 we kd st gb it mn cx cy) (hd5 : dn + 1 ≤ 512) (hok : okA ft st tn kd mn cx cy) (hgd : 0 ≤ le9.toInt ∧ (0 ≤ mv9.toInt ∧ mv9.toInt ≤ 200)) (hyes : 1 ≤ cntP (fwM ft st tn kd mn tw cx cy le9.toInt mv9.toInt) ft) (hit : ∀ q, q < ft → (st q).toInt = 1 → it q = -1) : zML l yX10_few cX10_few 6 (some .int) ({ frames := 8, cells := 2 * ft + 2, slots := 10 * ft + 805, locals := 182 } : Room) [.ref x, .int le9, .int mv9] (dC, dI) (zTyO cI cZ cF cO) e0 mi ([(oc8 x (.ref sh) (.ref lw) (.ref ro) (.ref bq) (.ref bp) (.ref dq) (.ref dp) (.ref lv) (.ref sl) (nI dn) sd ul su), (oc10 sl mc9 (.ref ea) (nI T)), (oa lv cZ 200 LV), (oc7 sh (.ref fa) (nI ft)), (oq fa cF 200 FA)] ++ va_pl L f) sz (some (.int (nI (cntP (fwM ft st tn kd mn tw cx cy le9.toInt mv9.toInt) ft)))) (fun A t => ∃ (mc1 : Int32), ∃ (L1 : List Nat), ∃ (f1 : Nat → va_E), ∃ (ea1 : Nat), ∃ (LV1 : Nat → Int32), (shB cI cO L1 f1 e0 FA ea1 bs (dn + 1) (dn + 1) ft (upN FT (dn + 1) ft) (upN V (dn + 1) (vC (V dn) kd (gnA (fwM ft st tn kd mn tw cx cy le9.toInt mv9.toInt) ft 2 st) (gnA (fwM ft st tn kd mn tw cx cy le9.toInt mv9.toInt) ft (nI (dn + 1)) gb) (gnA (fwM ft st tn kd mn tw cx cy le9.toInt mv9.toInt) ft (-1 : Int32) it) mn)) (upN VX (dn + 1) cx) (upN VY (dn + 1) cy) tn rk wd tw pa pb (upd wh (dn + 1) (8 : Int32)) (upd of9 (dn + 1) (-1 : Int32)) (upd we (dn + 1) (nI (cntP (fwM ft st tn kd mn tw cx cy le9.toInt mv9.toInt) ft))) kd (gnA (fwM ft st tn kd mn tw cx cy le9.toInt mv9.toInt) ft 2 st) (gnA (fwM ft st tn kd mn tw cx cy le9.toInt mv9.toInt) ft (nI (dn + 1)) gb) (gnA (fwM ft st tn kd mn tw cx cy le9.toInt mv9.toInt) ft (-1 : Int32) it) mn cx cy) ∧ zPD (dC, dI) classes A ([(oc8 x (.ref sh) (.ref lw) (.ref ro) (.ref bq) (.ref bp) (.ref dq) (.ref dp) (.ref lv) (.ref sl) (nI (dn + 1)) sd ul 0), (oc10 sl mc1 (.ref ea1) (nI (dn + 1))), (oa lv cZ 200 LV1), (oc7 sh (.ref fa) (nI ft)), (oq fa cF 200 FA)] ++ va_pl L1 f1) t.heap) (2 * ft + 2) (10 * ft + 805) := by
  refine zInL (own := "ScaleShop") (loc := [(0, .ref x), (1, .int le9), (2, .int mv9)]) rfl rfl rfl rfl (fun p e s m below meth c hx hb hr hts hown hlocks hml hnm9 A hA hS hP hD hK hXL hXN hK3 Q9 hQ9 ls hl => ?_)
  have hva9 := shB_va hB
  obtain ⟨own, fe, cl, la, sp, SA, hG9, hH9, hft9, hO9⟩ := hB
  obtain ⟨hG, hM, hdT, hT5, hO⟩ := M_0 hG9 hH9 hft9 hO9
  have h200 : ft ≤ 200 := hG.2.2.2.2.2.1.2.2.2.2.2
  have hFA9 := hG.2.2.2.2.2.2
  have e_0 : (0 : Int32).toInt = 0 := (by decide)
  have e_200 : (200 : Int32).toInt = 200 := (by decide)
  refine lv_iload_n hx hb dX10_few_0 rfl (lv_at hl 1 rfl) ?_
  refine lv_if_lt (tgt := 15) hx hb dX10_few_1 rfl (fun c_1 => ?_) (fun c_1 => ?_)
  · have c_1 : le9.toInt < 0 := zc_lt rfl rfl c_1
    exfalso; omega
  · have c_1 : 0 ≤ le9.toInt := zc_nlt rfl rfl c_1
    refine lv_iload_n hx hb dX10_few_4 rfl (lv_at hl 2 rfl) ?_
    refine lv_iconst (v := 0) hx hb dX10_few_5 rfl ?_
    refine lv_sipush (v := 200) hx hb dX10_few_6 rfl ?_
    obtain ⟨hPc, hDc, hFc, hI1⟩ := zi_sub (wc := []) hP hD hS hA [] rfl rfl
    refine zcall (st1 := [.int (pI ((0 : Int32).toInt ≤ mv9.toInt ∧ mv9.toInt ≤ (200 : Int32).toInt))]) (va_runS (As := [.int mv9, .int 0, .int 200]) (rest := []) ⟨hx, hb, hml, hown, hts⟩ (k_isWithin l dC dI cI cZ cF s.heap.size mv9 0 200 ) (csS_14 hts rfl rfl ⟨Nat.le_of_ble_eq_true rfl, Nat.le_of_ble_eq_true rfl⟩) (zPS2 hPc hDc hK3 hXN) rfl rfl hl.1 rfl (lv_room (Nat.le_of_ble_eq_true rfl)) dX10_few_9 ⟨Nat.zero_le _, Nat.zero_le _⟩) hS hFc hFc rfl (fun t H locs ht hB hk1 hS => ?_)
    obtain ⟨hP1, hD1⟩ := hB
    rw [ht] at hP1
    replace hP := z0 hP hD hk1 hP1 hI1
    clear hk1 hPc hDc hFc hP1 hD1 ht hI1
    refine lv_if_ne (tgt := 21) hx hb dX10_few_12 rfl (fun c_2 => ?_) (fun c_2 => ?_)
    · have c_2 : (0 : Int32).toInt ≤ mv9.toInt ∧ mv9.toInt ≤ (200 : Int32).toInt := zp_1 c_2
      refine lv_iconst (v := 0) hx hb dX10_few_21 rfl ?_
      refine lv_istore_n (lv' := [(3, .int 0), (0, .ref x), (1, .int le9), (2, .int mv9)]) hx hb dX10_few_22 rfl hl (Nat.le_of_ble_eq_true rfl) rfl (fun ls hl => ?_)
      have hl_23 : ∀ (n9 : Nat) (g5 : Nat) (LVk : Nat → Int32) (H : Heap) (locs : List Loc) (ls : Array Slot), ft - g5 < n9 → (g5 ≤ ft) → (∀ j, j < g5 → LVk j = pI (fwM ft st tn kd mn tw cx cy le9.toInt mv9.toInt j)) → va_P (dC, dI) classes ([(oc8 x (.ref sh) (.ref lw) (.ref ro) (.ref bq) (.ref bp) (.ref dq) (.ref dp) (.ref lv) (.ref sl) (nI dn) sd ul su), (oc10 sl mc9 (.ref ea) (nI T)), (oa lv cZ 200 LVk), (oc7 sh (.ref fa) (nI ft)), (oq fa cF 200 FA)] ++ va_pl L f) H → va_D A ([(oc8 x (.ref sh) (.ref lw) (.ref ro) (.ref bq) (.ref bp) (.ref dq) (.ref dp) (.ref lv) (.ref sl) (nI dn) sd ul su), (oc10 sl mc9 (.ref ea) (nI T)), (oa lv cZ 200 LVk), (oc7 sh (.ref fa) (nI ft)), (oq fa cF 200 FA)] ++ va_pl L f) → va_S A s.heap H locs → lv_has ls 6 [(3, .int (nI g5)), (0, .ref x), (1, .int le9), (2, .int mv9)] → W p l e ({ frames := 8, cells := 2 * ft + 2, slots := 10 * ft + 805, locals := 182 } : Room) s m ([.ref x, .int le9, .int mv9] : List Value).toArray below meth c H locs 0 0 Q9 (F0 m 23 ls []) := by
        intro n9
        induction n9 with
        | zero => intro g5 LVk H locs ls hm; exact absurd hm (Nat.not_lt_zero _)
        | succ n9 ih_23 =>
          intro g5 LVk H locs ls hm hg5 hlk hP hD hS hl
          have hgb9 := cntP_b (gtF ft st tn kd mn tw cx cy g5) ft
          refine lv_iload_n hx hb dX10_few_23 rfl (lv_at hl 0 rfl) ?_
          refine lv_aload_n hx hb dX10_few_24 rfl (lv_at hl 1 rfl) ?_
          refine va_get (D := (dC, dI)) (ci := 8) (v := .ref sh) (C := RX10) (T := TX10) (N := 13) hx hb hts inX10 hown hK hP 0 rfl rfl 0 (Nat.le_of_ble_eq_true rfl) (hts _ mw_309) (fun _ h9 => h9) rfl dX10_few_25 ?_
          refine va_get (D := (dC, dI)) (ci := 7) (v := .int (nI ft)) (C := RX8) (T := TX8) (N := 2) hx hb hts inX8 hown hK hP 3 rfl rfl 1 (Nat.le_of_ble_eq_true rfl) (hts _ mw_140) (fun _ h9 => h9) rfl dX10_few_28 ?_
          have b9_4 : zlt (g5) := show g5 < 2147483648 by omega
          have b9_5 : zlt (ft) := show ft < 2147483648 by omega
          refine lv_icmp_ge (tgt := 69) hx hb dX10_few_31 rfl (fun c_3 => ?_) (fun c_3 => ?_)
          · have c_3 : ((ft : Nat) : Int) ≤ ((g5 : Nat) : Int) := zc_le (nI_toInt b9_5) (nI_toInt b9_4) c_3
            have hgf : g5 = ft := (by omega)
            rw [hgf] at hlk
            refine lv_iconst (v := 0) hx hb dX10_few_69 rfl ?_
            refine lv_istore_n (lv' := [(3, .int 0), (0, .ref x), (1, .int le9), (2, .int mv9)]) hx hb dX10_few_70 rfl hl (Nat.le_of_ble_eq_true rfl) rfl (fun ls hl => ?_)
            refine lv_iconst (v := 0) hx hb dX10_few_71 rfl ?_
            refine lv_istore (lv' := [(4, .int 0), (3, .int 0), (0, .ref x), (1, .int le9), (2, .int mv9)]) hx hb dX10_few_72 hl (Nat.le_of_ble_eq_true rfl) rfl (fun ls hl => ?_)
            have hl_74 : ∀ (n9 : Nat) (g5 : Nat) (L6 : List Nat) (f6 : Nat → va_E) (own6 : Nat → Nat) (nw6 : Nat → Nat) (md6 : Nat → Nat) (fm6 : Nat → Value) (H : Heap) (locs : List Loc) (ls : Array Slot), ft - g5 < n9 → (g5 ≤ ft) → ((shG cI cO L6 f6 e0 FA ea T own6 fe cl la nw6 md6 sp fm6 SA bs dn dn ft ft FT V VX VY tn rk wd tw pa pb wh of9 we kd (gnA (fwM ft st tn kd mn tw cx cy le9.toInt mv9.toInt) g5 2 st) (gnA (fwM ft st tn kd mn tw cx cy le9.toInt mv9.toInt) g5 (nI (dn + 1)) gb) (gnA (fwM ft st tn kd mn tw cx cy le9.toInt mv9.toInt) g5 (-1 : Int32) it) mn cx cy) ∧ (mdA dn ft FT la nw6 md6 fm6 V kd (gnA (fwM ft st tn kd mn tw cx cy le9.toInt mv9.toInt) g5 2 st) (gnA (fwM ft st tn kd mn tw cx cy le9.toInt mv9.toInt) g5 (nI (dn + 1)) gb) (gnA (fwM ft st tn kd mn tw cx cy le9.toInt mv9.toInt) g5 (-1 : Int32) it)) ∧ (∀ q, g5 ≤ q → md6 q = 0) ∧ (loG cI L6 f6 own6 fe nw6 md6 la bs dn dn ft ft FT V (V dn))) → va_P (dC, dI) classes ([(oc8 x (.ref sh) (.ref lw) (.ref ro) (.ref bq) (.ref bp) (.ref dq) (.ref dp) (.ref lv) (.ref sl) (nI dn) sd ul su), (oc10 sl mc9 (.ref ea) (nI T)), (oa lv cZ 200 LVk), (oc7 sh (.ref fa) (nI ft)), (oq fa cF 200 FA)] ++ va_pl L6 f6) H → va_D A ([(oc8 x (.ref sh) (.ref lw) (.ref ro) (.ref bq) (.ref bp) (.ref dq) (.ref dp) (.ref lv) (.ref sl) (nI dn) sd ul su), (oc10 sl mc9 (.ref ea) (nI T)), (oa lv cZ 200 LVk), (oc7 sh (.ref fa) (nI ft)), (oq fa cF 200 FA)] ++ va_pl L6 f6) → va_S A s.heap H locs → lv_has ls 6 [(4, .int (nI g5)), (3, .int (nI (cntP (fwM ft st tn kd mn tw cx cy le9.toInt mv9.toInt) g5))), (0, .ref x), (1, .int le9), (2, .int mv9)] → W p l e ({ frames := 8, cells := 2 * ft + 2, slots := 10 * ft + 805, locals := 182 } : Room) s m ([.ref x, .int le9, .int mv9] : List Value).toArray below meth c H locs g5 (6 * g5) Q9 (F0 m 74 ls []) := by
              intro n9
              induction n9 with
              | zero => intro g5 L6 f6 own6 nw6 md6 fm6 H locs ls hm; exact absurd hm (Nat.not_lt_zero _)
              | succ n9 ih_74 =>
                intro g5 L6 f6 own6 nw6 md6 fm6 H locs ls hm hh5 hJ6 hP hD hS hl
                have hcb := cntP_b (fwM ft st tn kd mn tw cx cy le9.toInt mv9.toInt) g5
                refine lv_iload hx hb dX10_few_74 (lv_at hl 0 rfl) ?_
                refine lv_aload_n hx hb dX10_few_76 rfl (lv_at hl 2 rfl) ?_
                refine va_get (D := (dC, dI)) (ci := 8) (v := .ref sh) (C := RX10) (T := TX10) (N := 13) hx hb hts inX10 hown hK hP 0 rfl rfl 0 (Nat.le_of_ble_eq_true rfl) (hts _ mw_309) (fun _ h9 => h9) rfl dX10_few_77 ?_
                refine va_get (D := (dC, dI)) (ci := 7) (v := .int (nI ft)) (C := RX8) (T := TX8) (N := 2) hx hb hts inX8 hown hK hP 3 rfl rfl 1 (Nat.le_of_ble_eq_true rfl) (hts _ mw_140) (fun _ h9 => h9) rfl dX10_few_80 ?_
                have b9_7 : zlt (g5) := show g5 < 2147483648 by omega
                refine lv_icmp_ge (tgt := 132) hx hb dX10_few_83 rfl (fun c_6 => ?_) (fun c_6 => ?_)
                · have c_6 : ((ft : Nat) : Int) ≤ ((g5 : Nat) : Int) := zc_le (nI_toInt b9_5) (nI_toInt b9_7) c_6
                  have hgf6 : g5 = ft := (by omega)
                  rw [hgf6] at hJ6
                  obtain ⟨hG1, hM1, hmd1, hO1⟩ := hJ6
                  refine lv_iload_n hx hb dX10_few_132 rfl (lv_at hl 1 rfl) ?_
                  have b9_9 : zlt ((cntP (fwM ft st tn kd mn tw cx cy le9.toInt mv9.toInt) g5)) := show (cntP (fwM ft st tn kd mn tw cx cy le9.toInt mv9.toInt) g5) < 2147483648 by omega
                  refine lv_if_ne (tgt := 143) hx hb dX10_few_133 rfl (fun c_8 => ?_) (fun c_8 => ?_)
                  · have c_8 : ¬ ((cntP (fwM ft st tn kd mn tw cx cy le9.toInt mv9.toInt) g5 : Nat) : Int) = 0 := zc_ne (nI_toInt b9_9) rfl c_8
                    refine lv_aload_n hx hb dX10_few_143 rfl (lv_at hl 2 rfl) ?_
                    refine lv_bipush (v := 8) hx hb dX10_few_144 rfl ?_
                    refine lv_iconst (v := (-1)) hx hb dX10_few_146 rfl ?_
                    refine lv_iload_n hx hb dX10_few_147 rfl (lv_at hl 1 rfl) ?_
                    refine zz_i (v := nI (cntP (fwM ft st tn kd mn tw cx cy le9.toInt mv9.toInt) ft)) (by rw [hgf6]) ?_
                    refine lv_null hx hb dX10_few_148 ?_
                    obtain ⟨hPc, hDc, hFc⟩ := zo_part (cx := [_, _, _, _]) hP hD hS hA [0, 1, 3, 4] (by decide +kernel) rfl
                    refine zcall (st1 := [.int 1]) (va_runV (As := [.int 8, .int (-1), .int (nI (cntP (fwM ft st tn kd mn tw cx cy le9.toInt mv9.toInt) ft)), .null]) (rest := []) ⟨hx, hb, hml, hown, hts⟩ (k_book_n l dC dI cI cZ cF H.size cO e0 mi x sh lw ro bq bp dq dp lv sl sd ul su sl ea T mc9 fa FA own6 fe cl la nw6 md6 sp fm6 SA bs dn ft FT V VX VY (V dn) tn rk wd tw pa pb wh of9 we kd (gnA (fwM ft st tn kd mn tw cx cy le9.toInt mv9.toInt) ft 2 st) (gnA (fwM ft st tn kd mn tw cx cy le9.toInt mv9.toInt) ft (nI (dn + 1)) gb) (gnA (fwM ft st tn kd mn tw cx cy le9.toInt mv9.toInt) ft (-1 : Int32) it) mn cx cy 8 (-1) (nI (cntP (fwM ft st tn kd mn tw cx cy le9.toInt mv9.toInt) ft)) L6 f6 (hG1) (hM1) (hO1) (hdT) (hT5) (by first | with_reducible assumption | omega) (fun q h1 h2 => by omega) (hft9)) (csV_101 hts rfl rfl ⟨Nat.le_of_ble_eq_true rfl, Nat.le_of_ble_eq_true rfl⟩) (zPVL (q0 := 0) (ci := 8) hPc hDc hK hXL hS hFc rfl rfl) rfl rfl hl.1 rfl (lv_room (Nat.le_of_ble_eq_true rfl)) dX10_few_149 ⟨show (g5 + (ft + 2)) ≤ 2 * ft + 2 by omega, show (6 * g5 + (4 * ft + 805)) ≤ 10 * ft + 805 by omega⟩) hS hFc hFc rfl (fun t H locs ht hB hk1 hS => ?_)
                    obtain ⟨mc6, L8, f8, ea6, hB6, hP1, hD1⟩ := hB
                    rw [ht] at hP1
                    obtain ⟨hP, hD⟩ := znP (W2 := [(oc8 x (.ref sh) (.ref lw) (.ref ro) (.ref bq) (.ref bp) (.ref dq) (.ref dp) (.ref lv) (.ref sl) (nI (dn + 1)) sd ul 0), (oc10 sl mc6 (.ref ea6) (nI (dn + 1))), _, _, _]) hP hD hk1 hFc hP1 hD1 [0, 1, 3, 4] [false, false, true] [false, false, true, false, false] [0, 1, 3, 4] (by decide +kernel) rfl rfl rfl rfl rfl
                    clear hk1 hPc hDc hFc hP1 hD1 ht
                    refine lv_pop hx hb dX10_few_152 rfl ?_
                    refine lv_iload_n hx hb dX10_few_153 rfl (lv_at hl 1 rfl) ?_
                    obtain ⟨hP9, hD9⟩ := zu_part (cx := [_, _, _, _, _]) hP hD [true, true, true, true, true] rfl rfl
                    refine W.widen (k := 2 * ft + 2) (n := 10 * ft + 805) (by omega) (by omega) ?_
                    rw [hQ9]
                    exact W.iret (v := nI (cntP (fwM ft st tn kd mn tw cx cy le9.toInt mv9.toInt) g5)) hx hb hr (fun t ht hW => ⟨⟨congrArg (fun z => Outcome.returned (some (Value.int z))) (show (nI (cntP (fwM ft st tn kd mn tw cx cy le9.toInt mv9.toInt) g5) : Int32) = nI (cntP (fwM ft st tn kd mn tw cx cy le9.toInt mv9.toInt) ft) from by rw [hgf6]), mc6, L8, f8, ea6, LVk, (hB6), by rw [ht]; exact hP9, hD9⟩, hS.F ht⟩) hS.2.2 dX10_few_154
                  · have c_8 : ((cntP (fwM ft st tn kd mn tw cx cy le9.toInt mv9.toInt) g5 : Nat) : Int) = 0 := zc_eq (nI_toInt b9_9) rfl c_8
                    exfalso; have e9 : cntP (fwM ft st tn kd mn tw cx cy le9.toInt mv9.toInt) g5 = cntP (fwM ft st tn kd mn tw cx cy le9.toInt mv9.toInt) ft := (by rw [hgf6]); omega
                · have c_6 : ((g5 : Nat) : Int) < ((ft : Nat) : Int) := zc_nle (nI_toInt b9_5) (nI_toInt b9_7) c_6
                  refine lv_aload_n hx hb dX10_few_86 rfl (lv_at hl 2 rfl) ?_
                  refine va_get (D := (dC, dI)) (ci := 8) (v := .ref sh) (C := RX10) (T := TX10) (N := 13) hx hb hts inX10 hown hK hP 0 rfl rfl 0 (Nat.le_of_ble_eq_true rfl) (hts _ mw_309) (fun _ h9 => h9) rfl dX10_few_87 ?_
                  refine lv_iload hx hb dX10_few_90 (lv_at hl 0 rfl) ?_
                  obtain ⟨hPc, hDc, hFc, hI1⟩ := zi_sub (wc := [_, _]) hP hD hS hA [3, 4] rfl rfl
                  refine zcall (st1 := [.ref (fe g5)]) (va_runV (As := [.int (nI g5)]) (rest := []) ⟨hx, hb, hml, hown, hts⟩ (k_Sheet_find l dC dI cI cZ cF H.size sh fa ft FA g5 (fe g5) (by first | with_reducible assumption | omega) (by first | with_reducible assumption | omega) (hFA9 g5 (by first | with_reducible assumption | omega))) (csV_94 hts rfl rfl ⟨Nat.le_of_ble_eq_true rfl, Nat.le_of_ble_eq_true rfl⟩) (zPV2 (q0 := 0) (ci := 7) hPc hDc hK3 hXN rfl rfl) rfl rfl hl.1 rfl (lv_room (Nat.le_of_ble_eq_true rfl)) dX10_few_92 ⟨show g5 ≤ 2 * ft + 2 by omega, show 6 * g5 ≤ 10 * ft + 805 by omega⟩) hS hFc hFc rfl (fun t H locs ht hB hk1 hS => ?_)
                  obtain ⟨hP1, hD1⟩ := hB
                  rw [ht] at hP1
                  replace hP := z0 hP hD hk1 hP1 hI1
                  clear hk1 hPc hDc hFc hP1 hD1 ht hI1
                  refine lv_astore (lv' := [(5, .ref (fe g5)), (4, .int (nI g5)), (3, .int (nI (cntP (fwM ft st tn kd mn tw cx cy le9.toInt mv9.toInt) g5))), (0, .ref x), (1, .int le9), (2, .int mv9)]) hx hb dX10_few_95 hl (Nat.le_of_ble_eq_true rfl) rfl (fun ls hl => ?_)
                  refine lv_aload hx hb dX10_few_97 (lv_at hl 0 rfl) ?_
                  refine lv_ifnull hx hb dX10_few_99 ?_
                  refine lv_aload_n hx hb dX10_few_102 rfl (lv_at hl 3 rfl) ?_
                  refine va_get (D := (dC, dI)) (ci := 8) (v := .ref lv) (C := RX10) (T := TX10) (N := 13) hx hb hts inX10 hown hK hP 0 rfl rfl 7 (Nat.le_of_ble_eq_true rfl) (hts _ mw_316) (fun _ h9 => h9) rfl dX10_few_103 ?_
                  refine lv_iload hx hb dX10_few_106 (lv_at hl 1 rfl) ?_
                  have b9_10 : g5 < 200 := by omega
                  refine z_zald hx hb hK hP 2 1 rfl rfl (e := g5) rfl b9_10 (Nat.le_of_ble_eq_true rfl) dX10_few_108 ?_
                  refine zz_i (v := pI (fwM ft st tn kd mn tw cx cy le9.toInt mv9.toInt g5)) (hlk g5 (by omega)) ?_
                  refine lv_if_eq (tgt := 126) hx hb dX10_few_109 rfl (fun c_11 => ?_) (fun c_11 => ?_)
                  · have c_11 : ¬ (fwM ft st tn kd mn tw cx cy le9.toInt mv9.toInt g5) := zp_0 c_11
                    have hMn : ¬ fwM ft st tn kd mn tw cx cy le9.toInt mv9.toInt g5 := (by first | with_reducible assumption | assumption)
                    have hJ7 : (shG cI cO L6 f6 e0 FA ea T own6 fe cl la nw6 md6 sp fm6 SA bs dn dn ft ft FT V VX VY tn rk wd tw pa pb wh of9 we kd (gnA (fwM ft st tn kd mn tw cx cy le9.toInt mv9.toInt) (g5 + 1) 2 st) (gnA (fwM ft st tn kd mn tw cx cy le9.toInt mv9.toInt) (g5 + 1) (nI (dn + 1)) gb) (gnA (fwM ft st tn kd mn tw cx cy le9.toInt mv9.toInt) (g5 + 1) (-1 : Int32) it) mn cx cy) ∧ (mdA dn ft FT la nw6 md6 fm6 V kd (gnA (fwM ft st tn kd mn tw cx cy le9.toInt mv9.toInt) (g5 + 1) 2 st) (gnA (fwM ft st tn kd mn tw cx cy le9.toInt mv9.toInt) (g5 + 1) (nI (dn + 1)) gb) (gnA (fwM ft st tn kd mn tw cx cy le9.toInt mv9.toInt) (g5 + 1) (-1 : Int32) it)) ∧ (∀ q, (g5 + 1) ≤ q → md6 q = 0) ∧ (loG cI L6 f6 own6 fe nw6 md6 la bs dn dn ft ft FT V (V dn)) := (by obtain ⟨a1, a2, a3, a4⟩ := hJ6; rw [gnA_n (k := st) rfl hMn, gnA_n (k := gb) rfl hMn, gnA_n (k := it) rfl hMn] at a1 a2; exact ⟨a1, a2, fun q hq => a3 q (by omega), a4⟩)
                    refine lv_iinc (v := nI (g5 + 1)) (lv' := [(4, .int (nI (g5 + 1))), (5, .ref (fe g5)), (3, .int (nI (cntP (fwM ft st tn kd mn tw cx cy le9.toInt mv9.toInt) g5))), (0, .ref x), (1, .int le9), (2, .int mv9)]) hx hb dX10_few_126 hl (k := 1) rfl (nI_add g5 1) (Nat.le_of_ble_eq_true rfl) rfl (fun ls hl => ?_)
                    refine lv_goto (tgt := 74) hx hb dX10_few_129 rfl ?_
                    have hl9 := lv_sub hl [0, 2, 3, 4, 5] rfl
                    have e9_3 : nI (cntP (fwM ft st tn kd mn tw cx cy le9.toInt mv9.toInt) (g5 + 1)) = (nI (cntP (fwM ft st tn kd mn tw cx cy le9.toInt mv9.toInt) g5) : Int32) := by first | (rw [cntP_y hMk]; done) | (rw [cntP_n hMn]; first | done | rfl) | rfl
                    have hl9 : lv_has ls 6 [(4, .int (nI (g5 + 1))), (3, .int (nI (cntP (fwM ft st tn kd mn tw cx cy le9.toInt mv9.toInt) (g5 + 1)))), (0, .ref x), (1, .int le9), (2, .int mv9)] := by rw [e9_3]; exact hl9
                    refine W.widen (k := (g5 + 1)) (n := 6 * (g5 + 1)) (by omega) (by omega) ?_
                    exact ih_74 (g5 + 1) L6 f6 own6 nw6 md6 fm6 H locs ls (by first | with_reducible assumption | omega) (by first | with_reducible assumption | omega) (hJ7) hP hD hS hl9
                  · have c_11 : fwM ft st tn kd mn tw cx cy le9.toInt mv9.toInt g5 := zp_1 c_11
                    have hMk : fwM ft st tn kd mn tw cx cy le9.toInt mv9.toInt g5 := (by first | with_reducible assumption | assumption)
                    obtain ⟨hG6, hM6, hmd6, hO6⟩ := hJ6
                    have hlv := hMk.1.1
                    have hm6 := hmd6 g5 (Nat.le_refl _)
                    have es6 : gnA (fwM ft st tn kd mn tw cx cy le9.toInt mv9.toInt) g5 2 st g5 = st g5 := gnA_o (Nat.le_refl _)
                    have eg6 : gnA (fwM ft st tn kd mn tw cx cy le9.toInt mv9.toInt) g5 (nI (dn + 1)) gb g5 = gb g5 := gnA_o (Nat.le_refl _)
                    have ei6 : gnA (fwM ft st tn kd mn tw cx cy le9.toInt mv9.toInt) g5 (-1 : Int32) it g5 = it g5 := gnA_o (Nat.le_refl _)
                    refine ex13 (sh_fc hG6.1 hG6.2.1 (Nat.le_refl _) (show g5 < ft by omega) hlv.2.2) (fun lo5 lx5 ly5 ln5 LX5 LY5 we5 r5 rx5 ry5 cap5 X5 Y5 hc5 => ?_)
                    rw [((hM6 g5 (by omega)).1 hm6).1, hm6] at hc5
                    have hc5 := fc_0 hc5
                    have hb5 := hc5.2.2.1
                    have hc9_1 : inPl L6 f6 [(oc1 (fe g5) (rk g5) (wd g5) (tw g5) (pa g5) (pb g5) (.ref lo5) (.ref (nw6 g5)) .null), (oc4 (nw6 g5) (kd g5) (gnA (fwM ft st tn kd mn tw cx cy le9.toInt mv9.toInt) g5 2 st g5) (.ref r5) (gnA (fwM ft st tn kd mn tw cx cy le9.toInt mv9.toInt) g5 (nI (dn + 1)) gb g5) (gnA (fwM ft st tn kd mn tw cx cy le9.toInt mv9.toInt) g5 (-1 : Int32) it g5) (nI we5)), (oc6 r5 (.ref rx5) (.ref ry5) (nI (nN (mn g5))) (rgK (kd g5).toInt)), (oa rx5 cI cap5 X5), (oa ry5 cI cap5 Y5), (oc6 lo5 (.ref lx5) (.ref ly5) (nI ln5) 0), (oa lx5 cI (cl g5) LX5), (oa ly5 cI (cl g5) LY5)] := ⟨ce_pl hc5.1.1, ce_pl hc5.1.2.1, ce_pl hc5.1.2.2.1.1, ce_pl hc5.1.2.2.1.2.1, ce_pl hc5.1.2.2.1.2.2.1, ce_pl hc5.1.2.2.2.1, ce_pl hc5.1.2.2.2.2.1, ce_pl hc5.1.2.2.2.2.2.1, trivial⟩
                    have hD0_1 := hD
                    obtain ⟨T_1, hT_1, hP, hD⟩ := pl_oT hP hD hc9_1 (pw8 hc5 (by omega))
                    obtain ⟨hP, hD⟩ := zre (W2 := ([_, _, _, _, _, _, _, _, _, _, _, _, _] ++ va_pl T_1 f6)) hP hD rfl
                    refine lv_aload hx hb dX10_few_112 (lv_at hl 0 rfl) ?_
                    refine lv_aload_n hx hb dX10_few_114 rfl (lv_at hl 3 rfl) ?_
                    refine va_get (D := (dC, dI)) (ci := 8) (v := .int (nI dn)) (C := RX10) (T := TX10) (N := 13) hx hb hts inX10 hown hK hP 0 rfl rfl 9 (Nat.le_of_ble_eq_true rfl) (hts _ mw_318) (fun _ h9 => h9) rfl dX10_few_115 ?_
                    refine lv_iconst (v := 1) hx hb dX10_few_118 rfl ?_
                    refine lv_iadd hx hb dX10_few_119 ?_
                    refine zz_i (v := nI (dn + 1)) (nI_add dn 1) ?_
                    obtain ⟨hPc, hDc, hFc⟩ := zo_sub (wc := [_, _]) hP hD hS hA [5, 6] rfl rfl
                    refine zcall (st1 := []) (va_runV (As := [.int (nI (dn + 1))]) (rest := []) ⟨hx, hb, hml, hown, hts⟩ (k_Feature_leave_r l dC dI cI cZ cF H.size (fe g5) lo5 (rk g5) (wd g5) (tw g5) (pa g5) (pb g5) (nw6 g5) (kd g5) (gnA (fwM ft st tn kd mn tw cx cy le9.toInt mv9.toInt) g5 2 st g5) (gnA (fwM ft st tn kd mn tw cx cy le9.toInt mv9.toInt) g5 (nI (dn + 1)) gb g5) (gnA (fwM ft st tn kd mn tw cx cy le9.toInt mv9.toInt) g5 (-1 : Int32) it g5) (nI we5) r5 (nI (dn + 1)) ) (csV_100 hts rfl rfl ⟨Nat.le_of_ble_eq_true rfl, Nat.le_of_ble_eq_true rfl⟩) (zPV2 (q0 := 0) (ci := 1) hPc hDc hK3 hXN rfl rfl) rfl rfl hl.1 rfl (lv_room (Nat.le_of_ble_eq_true rfl)) dX10_few_120 ⟨show (g5 + 1) ≤ 2 * ft + 2 by omega, show (6 * g5 + 6) ≤ 10 * ft + 805 by omega⟩) hS hFc hFc rfl (fun t H locs ht hB hk1 hS => ?_)
                    obtain ⟨q7, hP1, hD1⟩ := hB
                    rw [ht] at hP1
                    obtain ⟨hP, hD⟩ := znQ (W2 := [_, _, _, _, _, _, _, _, _, _, _, (oc1 (fe g5) (rk g5) (wd g5) (tw g5) (pa g5) (pb g5) (.ref lo5) (.ref q7) (.ref (nw6 g5))), (oc4 (nw6 g5) (kd g5) (gnA (fwM ft st tn kd mn tw cx cy le9.toInt mv9.toInt) g5 2 st g5) (.ref r5) (gnA (fwM ft st tn kd mn tw cx cy le9.toInt mv9.toInt) g5 (nI (dn + 1)) gb g5) (gnA (fwM ft st tn kd mn tw cx cy le9.toInt mv9.toInt) g5 (-1 : Int32) it g5) (nI we5)), (oc4 q7 (kd g5) 2 (.ref r5) (nI (dn + 1)) (gnA (fwM ft st tn kd mn tw cx cy le9.toInt mv9.toInt) g5 (-1 : Int32) it g5) (nI we5))]) hP hD hk1 hFc hP1 hD1 [5, 6] zl_83 zl_84 [11, 12, 13] (by decide +kernel) rfl rfl rfl rfl rfl
                    clear hk1 hPc hDc hFc hP1 hD1 ht
                    obtain ⟨hP, hD⟩ := zq_part (cx := [_, _, _, _, _, _, _, _, _, _, _, _, _, _]) hP hD [0, 1, 2, 3, 4, 11, 12, 5, 6, 7, 8, 9, 10, 13] rfl rfl
                    obtain ⟨Lp1, fp1, hP, hD, hpin_1⟩ := pl_pn (X := [_, _, _, _, _]) (old := [_, _, _, _, _, _, _, _]) (new := [_]) (cs1 := [_, _, _, _, _, _, _, _, _]) (L := L6) (cs := [(oc1 (fe g5) (rk g5) (wd g5) (tw g5) (pa g5) (pb g5) (.ref lo5) (.ref (nw6 g5)) .null), (oc4 (nw6 g5) (kd g5) (gnA (fwM ft st tn kd mn tw cx cy le9.toInt mv9.toInt) g5 2 st g5) (.ref r5) (gnA (fwM ft st tn kd mn tw cx cy le9.toInt mv9.toInt) g5 (nI (dn + 1)) gb g5) (gnA (fwM ft st tn kd mn tw cx cy le9.toInt mv9.toInt) g5 (-1 : Int32) it g5) (nI we5)), (oc6 r5 (.ref rx5) (.ref ry5) (nI (nN (mn g5))) (rgK (kd g5).toInt)), (oa rx5 cI cap5 X5), (oa ry5 cI cap5 Y5), (oc6 lo5 (.ref lx5) (.ref ly5) (nI ln5) 0), (oa lx5 cI (cl g5) LX5), (oa ly5 cI (cl g5) LY5)]) hT_1 hP hD rfl rfl rfl
                    obtain ⟨hfr_1, hkp_1, hce_1, hsx_1, hpw_1⟩ := id hpin_1
                    obtain ⟨own7, nw7, md7, fm7, hG7, hM7, hmd7, hO7⟩ := M_leave (m := 0) (kd1 := kd) (st1 := upd (gnA (fwM ft st tn kd mn tw cx cy le9.toInt mv9.toInt) g5 2 st) g5 2) (gb1 := upd (gnA (fwM ft st tn kd mn tw cx cy le9.toInt mv9.toInt) g5 (nI (dn + 1)) gb) g5 (nI (dn + 1))) (it1 := upd (gnA (fwM ft st tn kd mn tw cx cy le9.toInt mv9.toInt) g5 (-1 : Int32) it) g5 (-1 : Int32)) hG6 hM6 hm6 (by omega) (by rw [← hft9]; omega) (by rw [es6]; have := hlv.2.1; omega) (by rw [up_at]; decide) hlv.2.2 hc5 ⟨rfl, rfl, rfl, rfl⟩ hpin_1 (fun p hp => ⟨rfl, if_neg hp, if_neg hp, if_neg hp, rfl, fun k _ => ⟨rfl, rfl⟩⟩) rfl (up_at _ _ _) (up_at _ _ _) ((up_at _ _ _).trans (by rw [ei6]; exact (hit g5 (by omega) hlv.2.1).symm)) rfl (fun g => g) hO6
                    rw [gnA_y rfl hMk, gnA_y rfl hMk, gnA_y rfl hMk] at hG7 hM7
                    have hJ7 : (shG cI cO Lp1 fp1 e0 FA ea T own7 fe cl la nw7 md7 sp fm7 SA bs dn dn ft ft FT V VX VY tn rk wd tw pa pb wh of9 we kd (gnA (fwM ft st tn kd mn tw cx cy le9.toInt mv9.toInt) (g5 + 1) 2 st) (gnA (fwM ft st tn kd mn tw cx cy le9.toInt mv9.toInt) (g5 + 1) (nI (dn + 1)) gb) (gnA (fwM ft st tn kd mn tw cx cy le9.toInt mv9.toInt) (g5 + 1) (-1 : Int32) it) mn cx cy) ∧ (mdA dn ft FT la nw7 md7 fm7 V kd (gnA (fwM ft st tn kd mn tw cx cy le9.toInt mv9.toInt) (g5 + 1) 2 st) (gnA (fwM ft st tn kd mn tw cx cy le9.toInt mv9.toInt) (g5 + 1) (nI (dn + 1)) gb) (gnA (fwM ft st tn kd mn tw cx cy le9.toInt mv9.toInt) (g5 + 1) (-1 : Int32) it)) ∧ (∀ q, (g5 + 1) ≤ q → md7 q = 0) ∧ (loG cI Lp1 fp1 own7 fe nw7 md7 la bs dn dn ft ft FT V (V dn)) := ⟨hG7, hM7, fun q hq => by rw [hmd7, upN_o (by omega)]; exact hmd6 q (by omega), hO7⟩
                    refine lv_iinc (v := nI ((cntP (fwM ft st tn kd mn tw cx cy le9.toInt mv9.toInt) g5) + 1)) (lv' := [(3, .int (nI ((cntP (fwM ft st tn kd mn tw cx cy le9.toInt mv9.toInt) g5) + 1))), (5, .ref (fe g5)), (4, .int (nI g5)), (0, .ref x), (1, .int le9), (2, .int mv9)]) hx hb dX10_few_123 hl (k := 2) rfl (nI_add (cntP (fwM ft st tn kd mn tw cx cy le9.toInt mv9.toInt) g5) 1) (Nat.le_of_ble_eq_true rfl) rfl (fun ls hl => ?_)
                    refine lv_iinc (v := nI (g5 + 1)) (lv' := [(4, .int (nI (g5 + 1))), (3, .int (nI ((cntP (fwM ft st tn kd mn tw cx cy le9.toInt mv9.toInt) g5) + 1))), (5, .ref (fe g5)), (0, .ref x), (1, .int le9), (2, .int mv9)]) hx hb dX10_few_126 hl (k := 2) rfl (nI_add g5 1) (Nat.le_of_ble_eq_true rfl) rfl (fun ls hl => ?_)
                    refine lv_goto (tgt := 74) hx hb dX10_few_129 rfl ?_
                    have hl9 := lv_sub hl [0, 1, 3, 4, 5] rfl
                    have e9_3 : nI (cntP (fwM ft st tn kd mn tw cx cy le9.toInt mv9.toInt) (g5 + 1)) = (nI ((cntP (fwM ft st tn kd mn tw cx cy le9.toInt mv9.toInt) g5) + 1) : Int32) := by first | (rw [cntP_y hMk]; done) | (rw [cntP_n hMn]; first | done | rfl) | rfl
                    have hl9 : lv_has ls 6 [(4, .int (nI (g5 + 1))), (3, .int (nI (cntP (fwM ft st tn kd mn tw cx cy le9.toInt mv9.toInt) (g5 + 1)))), (0, .ref x), (1, .int le9), (2, .int mv9)] := by rw [e9_3]; exact hl9
                    refine W.widen (k := (g5 + 1)) (n := 6 * (g5 + 1)) (by omega) (by omega) ?_
                    exact ih_74 (g5 + 1) Lp1 fp1 own7 nw7 md7 fm7 H locs ls (by first | with_reducible assumption | omega) (by first | with_reducible assumption | omega) (hJ7) hP hD hS hl9
            have e9_3 : nI (cntP (fwM ft st tn kd mn tw cx cy le9.toInt mv9.toInt) 0) = (0 : Int32) := by rfl
            have hl9 : lv_has ls 6 [(4, .int (nI 0)), (3, .int (nI (cntP (fwM ft st tn kd mn tw cx cy le9.toInt mv9.toInt) 0))), (0, .ref x), (1, .int le9), (2, .int mv9)] := by rw [e9_3]; exact lv_sub hl [0, 1, 2, 3, 4] rfl
            refine W.widen (k := 0) (n := 6 * 0) (by omega) (by omega) ?_
            exact hl_74 _ 0 L f own (la dn) (fun _ => 0) (fun _ => Value.null) H locs ls (Nat.lt_succ_self _) (by first | with_reducible assumption | omega) (⟨by rw [← gnA_0, ← gnA_0, ← gnA_0]; exact hG, by rw [← gnA_0, ← gnA_0, ← gnA_0]; exact hM, fun _ _ => rfl, hO⟩) hP hD hS hl9
          · have c_3 : ((g5 : Nat) : Int) < ((ft : Nat) : Int) := zc_nle (nI_toInt b9_5) (nI_toInt b9_4) c_3
            refine lv_aload_n hx hb dX10_few_34 rfl (lv_at hl 1 rfl) ?_
            refine va_get (D := (dC, dI)) (ci := 8) (v := .ref lv) (C := RX10) (T := TX10) (N := 13) hx hb hts inX10 hown hK hP 0 rfl rfl 7 (Nat.le_of_ble_eq_true rfl) (hts _ mw_316) (fun _ h9 => h9) rfl dX10_few_35 ?_
            refine lv_iload_n hx hb dX10_few_38 rfl (lv_at hl 0 rfl) ?_
            refine lv_aload_n hx hb dX10_few_39 rfl (lv_at hl 1 rfl) ?_
            refine lv_iload_n hx hb dX10_few_40 rfl (lv_at hl 0 rfl) ?_
            refine lv_iload_n hx hb dX10_few_41 rfl (lv_at hl 2 rfl) ?_
            obtain ⟨hPc, hDc, hFc, hI1⟩ := zi_part (cx := [_, _, _]) hP hD hS hA [0, 3, 4] rfl rfl
            refine zcall (st1 := [.int (pI (smF ft st tn kd mn cx cy le9.toInt g5)), .int (nI g5), .ref lv]) (va_runV (As := [.int (nI g5), .int le9]) (rest := [.int (nI g5), .ref lv]) ⟨hx, hb, hml, hown, hts⟩ (k_isSmallHouse l dC dI cI cZ cF H.size x sh lw ro bq bp dq dp lv sl sd ul su (nI dn) fa ft FA g5 le9 L f kd st tn mn cx cy rk wd tw pa pb gb it (by first | with_reducible assumption | omega) (by first | with_reducible assumption | omega) (hva9) (hok)) (csV_124 hts rfl rfl ⟨Nat.le_of_ble_eq_true rfl, Nat.le_of_ble_eq_true rfl⟩) (zPV2 (q0 := 0) (ci := 8) hPc hDc hK3 hXN rfl rfl) rfl rfl hl.1 rfl (lv_room (Nat.le_of_ble_eq_true rfl)) dX10_few_42 ⟨Nat.zero_le _, Nat.zero_le _⟩) hS hFc hFc rfl (fun t H locs ht hB hk1 hS => ?_)
            obtain ⟨hP1, hD1⟩ := hB
            rw [ht] at hP1
            replace hP := z0 hP hD hk1 hP1 hI1
            clear hk1 hPc hDc hFc hP1 hD1 ht hI1
            refine lv_if_eq (tgt := 61) hx hb dX10_few_45 rfl (fun c_12 => ?_) (fun c_12 => ?_)
            · have c_12 : ¬ (smF ft st tn kd mn cx cy le9.toInt g5) := zp_0 c_12
              refine lv_iconst (v := 0) hx hb dX10_few_61 rfl ?_
              have b9_13 : g5 < 200 := by omega
              refine z_zast hx hb hK hP hD hS 2 1 rfl rfl (e := g5) (x := 0) rfl b9_13 (Nat.le_of_ble_eq_true rfl) (by decide) dX10_few_62 (fun H locs hP hD hS => ?_)
              obtain ⟨hP, hD⟩ := zre (W2 := ([_, _, (oa lv cZ 200 (upd LVk g5 0)), _, _] ++ va_pl L f)) hP hD rfl
              refine lv_iinc (v := nI (g5 + 1)) (lv' := [(3, .int (nI (g5 + 1))), (0, .ref x), (1, .int le9), (2, .int mv9)]) hx hb dX10_few_63 hl (k := 0) rfl (nI_add g5 1) (Nat.le_of_ble_eq_true rfl) rfl (fun ls hl => ?_)
              refine lv_goto (tgt := 23) hx hb dX10_few_66 rfl ?_
              exact ih_23 (g5 + 1) (upd LVk g5 0) H locs ls (by first | with_reducible assumption | omega) (by first | with_reducible assumption | omega) (by intro j hj; unfold upd; by_cases e : j = g5; (rw [if_pos e, e]; first | exact (zp_t ⟨by assumption, by omega⟩).symm | exact (zp_f (fun q => by have h9 := q.2; omega)).symm | exact (zp_f (fun q => absurd q.1 (by first | with_reducible assumption | assumption))).symm); (rw [if_neg e]; exact hlk j (by first | with_reducible assumption | omega))) hP hD hS (lv_sub hl [0, 1, 2, 3] rfl)
            · have c_12 : smF ft st tn kd mn cx cy le9.toInt g5 := zp_1 c_12
              refine lv_aload_n hx hb dX10_few_48 rfl (lv_at hl 1 rfl) ?_
              refine lv_iload_n hx hb dX10_few_49 rfl (lv_at hl 0 rfl) ?_
              obtain ⟨hPc, hDc, hFc, hI1⟩ := zi_part (cx := [_, _, _]) hP hD hS hA [0, 3, 4] rfl rfl
              refine zcall (st1 := [.int (nI (cntP (gtF ft st tn kd mn tw cx cy g5) ft)), .int (nI g5), .ref lv]) (va_runV (As := [.int (nI g5)]) (rest := [.int (nI g5), .ref lv]) ⟨hx, hb, hml, hown, hts⟩ (k_rankInTown l dC dI cI cZ cF H.size x sh lw ro bq bp dq dp lv sl sd ul su (nI dn) fa ft FA g5 L f kd st tn mn cx cy rk wd tw pa pb gb it own fe cl (la dn) (fun _ => 0) (fun _ => Value.null) (by first | with_reducible assumption | omega) (by first | with_reducible assumption | omega) (hG.1) (hG.2.1) (hFA9) (hok) ((by (first | with_reducible assumption | assumption) : smF ft st tn kd mn cx cy le9.toInt g5).1.2.1) ((by (first | with_reducible assumption | assumption) : smF ft st tn kd mn cx cy le9.toInt g5).1.2.2) ((by (first | with_reducible assumption | assumption) : smF ft st tn kd mn cx cy le9.toInt g5).2.1)) (csV_125 hts rfl rfl ⟨Nat.le_of_ble_eq_true rfl, Nat.le_of_ble_eq_true rfl⟩) (zPV2 (q0 := 0) (ci := 8) hPc hDc hK3 hXN rfl rfl) rfl rfl hl.1 rfl (lv_room (Nat.le_of_ble_eq_true rfl)) dX10_few_50 ⟨Nat.zero_le _, Nat.zero_le _⟩) hS hFc hFc rfl (fun t H locs ht hB hk1 hS => ?_)
              obtain ⟨hP1, hD1⟩ := hB
              rw [ht] at hP1
              replace hP := z0 hP hD hk1 hP1 hI1
              clear hk1 hPc hDc hFc hP1 hD1 ht hI1
              refine lv_iload_n hx hb dX10_few_53 rfl (lv_at hl 3 rfl) ?_
              have b9_15 : zlt ((cntP (gtF ft st tn kd mn tw cx cy g5) ft)) := show (cntP (gtF ft st tn kd mn tw cx cy g5) ft) < 2147483648 by omega
              refine lv_icmp_lt (tgt := 61) hx hb dX10_few_54 rfl (fun c_14 => ?_) (fun c_14 => ?_)
              · have c_14 : ((cntP (gtF ft st tn kd mn tw cx cy g5) ft : Nat) : Int) < mv9.toInt := zc_lt (nI_toInt b9_15) rfl c_14
                refine lv_iconst (v := 0) hx hb dX10_few_61 rfl ?_
                have b9_16 : g5 < 200 := by omega
                refine z_zast hx hb hK hP hD hS 2 1 rfl rfl (e := g5) (x := 0) rfl b9_16 (Nat.le_of_ble_eq_true rfl) (by decide) dX10_few_62 (fun H locs hP hD hS => ?_)
                obtain ⟨hP, hD⟩ := zre (W2 := ([_, _, (oa lv cZ 200 (upd LVk g5 0)), _, _] ++ va_pl L f)) hP hD rfl
                refine lv_iinc (v := nI (g5 + 1)) (lv' := [(3, .int (nI (g5 + 1))), (0, .ref x), (1, .int le9), (2, .int mv9)]) hx hb dX10_few_63 hl (k := 0) rfl (nI_add g5 1) (Nat.le_of_ble_eq_true rfl) rfl (fun ls hl => ?_)
                refine lv_goto (tgt := 23) hx hb dX10_few_66 rfl ?_
                exact ih_23 (g5 + 1) (upd LVk g5 0) H locs ls (by first | with_reducible assumption | omega) (by first | with_reducible assumption | omega) (by intro j hj; unfold upd; by_cases e : j = g5; (rw [if_pos e, e]; first | exact (zp_t ⟨by assumption, by omega⟩).symm | exact (zp_f (fun q => by have h9 := q.2; omega)).symm | exact (zp_f (fun q => absurd q.1 (by first | with_reducible assumption | assumption))).symm); (rw [if_neg e]; exact hlk j (by first | with_reducible assumption | omega))) hP hD hS (lv_sub hl [0, 1, 2, 3] rfl)
              · have c_14 : mv9.toInt ≤ ((cntP (gtF ft st tn kd mn tw cx cy g5) ft : Nat) : Int) := zc_nlt (nI_toInt b9_15) rfl c_14
                refine lv_iconst (v := 1) hx hb dX10_few_57 rfl ?_
                refine lv_goto (tgt := 62) hx hb dX10_few_58 rfl ?_
                have b9_17 : g5 < 200 := by omega
                refine z_zast hx hb hK hP hD hS 2 1 rfl rfl (e := g5) (x := 1) rfl b9_17 (Nat.le_of_ble_eq_true rfl) (by decide) dX10_few_62 (fun H locs hP hD hS => ?_)
                obtain ⟨hP, hD⟩ := zre (W2 := ([_, _, (oa lv cZ 200 (upd LVk g5 1)), _, _] ++ va_pl L f)) hP hD rfl
                refine lv_iinc (v := nI (g5 + 1)) (lv' := [(3, .int (nI (g5 + 1))), (0, .ref x), (1, .int le9), (2, .int mv9)]) hx hb dX10_few_63 hl (k := 0) rfl (nI_add g5 1) (Nat.le_of_ble_eq_true rfl) rfl (fun ls hl => ?_)
                refine lv_goto (tgt := 23) hx hb dX10_few_66 rfl ?_
                exact ih_23 (g5 + 1) (upd LVk g5 1) H locs ls (by first | with_reducible assumption | omega) (by first | with_reducible assumption | omega) (by intro j hj; unfold upd; by_cases e : j = g5; (rw [if_pos e, e]; first | exact (zp_t ⟨by assumption, by omega⟩).symm | exact (zp_f (fun q => by have h9 := q.2; omega)).symm | exact (zp_f (fun q => absurd q.1 (by first | with_reducible assumption | assumption))).symm); (rw [if_neg e]; exact hlk j (by first | with_reducible assumption | omega))) hP hD hS (lv_sub hl [0, 1, 2, 3] rfl)
      exact hl_23 _ 0 LV H locs ls (Nat.lt_succ_self _) (by first | with_reducible assumption | omega) (by intro j hj; omega) hP hD hS (lv_sub hl [0, 1, 2, 3] rfl)
    · have c_2 : ¬ ((0 : Int32).toInt ≤ mv9.toInt ∧ mv9.toInt ≤ (200 : Int32).toInt) := zp_0 c_2
      exfalso; omega
end
section
theorem vwA_l {cI : ClassId} {L : List Nat} {f : Nat → va_E} {FA : Nat → Option Nat} {rk wd tw pa pb kd st gb it tn mn cx cy : Nat → Int32} {i : Nat} (h : vwA cI L f FA rk wd tw pa pb kd st gb it tn mn cx cy i) (ht : (tn i).toInt = 0) :
    ∃ (fe lk lo : Nat) (we : Int32) (fm : Value) (r rx ry cap : Nat) (X Y : Nat → Int32) (rg : Int32), FA i = some fe ∧ (fe ∈ L ∧ f fe = .inr (1, [.int (rk i), .int (wd i), .int (tw i), .int (pa i), .int (pb i), .ref lo, .ref lk, fm])) ∧ (lk ∈ L ∧ f lk = .inr (4, [.int (kd i), .int (st i), .ref r, .int (gb i), .int (it i), .int we])) ∧ rwA cI L f r rx ry (nN (mn i)) cap X Y rg ∧ rwR kd mn cx cy i cap X Y rg := by
  rcases vwA_2 h with g | g
  · exact absurd ht g.1
  · exact g.2
end
section
set_option maxHeartbeats 4000000 in
set_option maxRecDepth 100000 in
theorem k_told_x (l : Launch) (dC : Nat → ClassId) (dI : Nat → Nat → Nat) (cI cZ cF : ClassId) (sz : Nat) (x : Nat) (sh : Nat) (lw : Nat) (ro : Nat) (bq : Nat) (bp : Nat) (dq : Nat) (dp : Nat) (lv : Nat) (sl : Nat) (sd : Int32) (ul : Int32) (su : Int32) (ds : Int32) (fa : Nat) (ft : Nat) (FA : Nat → Option Nat) (v : Int32) (w : Int32) (h200 : ft ≤ 200) (hv : ¬ (0 ≤ v.toInt ∧ v.toInt < ((ft : Nat) : Int))) : zM l yX10_told cX10_told 4 (some .int) ({ frames := 1, cells := 0, slots := 0, locals := 21 } : Room) [.ref x, .int v, .int w] (dC, dI) (zTy cI cZ cF) [(oc8 x (.ref sh) (.ref lw) (.ref ro) (.ref bq) (.ref bp) (.ref dq) (.ref dp) (.ref lv) (.ref sl) ds sd ul su), (oc7 sh (.ref fa) (nI ft)), (oq fa cF 200 FA)] sz (some (.int (-1))) (fun A t => zPD (dC, dI) classes A [(oc8 x (.ref sh) (.ref lw) (.ref ro) (.ref bq) (.ref bp) (.ref dq) (.ref dp) (.ref lv) (.ref sl) ds sd ul su), (oc7 sh (.ref fa) (nI ft)), (oq fa cF 200 FA)] t.heap) 0 0 := by
  refine zIn (own := "ScaleShop") (loc := [(0, .ref x), (1, .int v), (2, .int w)]) rfl rfl rfl rfl (fun p e s m below meth c hx hb hr hts hown hlocks hml hnm9 A hA hS hP hD hK hXN Q9 hQ9 ls hl => ?_)
  refine lv_aload_n hx hb dX10_told_0 rfl (lv_at hl 0 rfl) ?_
  refine va_get (D := (dC, dI)) (ci := 8) (v := .ref sh) (C := RX10) (T := TX10) (N := 13) hx hb hts inX10 hown hK hP 0 rfl rfl 0 (Nat.le_of_ble_eq_true rfl) (hts _ mw_309) (fun _ h9 => h9) rfl dX10_told_1 ?_
  refine lv_iload_n hx hb dX10_told_4 rfl (lv_at hl 1 rfl) ?_
  obtain ⟨hPc, hDc, hFc, hI1⟩ := zi_sub (wc := [_, _]) hP hD hS hA [1, 2] rfl rfl
  refine zcall (st1 := [.null]) (va_runV (As := [.int v]) (rest := []) ⟨hx, hb, hml, hown, hts⟩ (k_Sheet_find_n l dC dI cI cZ cF s.heap.size sh fa ft FA v (by first | with_reducible assumption | omega) (by first | with_reducible assumption | assumption)) (csV_94 hts rfl rfl ⟨Nat.le_of_ble_eq_true rfl, Nat.le_of_ble_eq_true rfl⟩) (zPV2 (q0 := 0) (ci := 7) hPc hDc hK hXN rfl rfl) rfl rfl hl.1 rfl (lv_room (Nat.le_of_ble_eq_true rfl)) dX10_told_5 ⟨Nat.le_of_ble_eq_true rfl, Nat.le_of_ble_eq_true rfl⟩) hS hFc hFc rfl (fun t H locs ht hB hk1 hS => ?_)
  obtain ⟨hP1, hD1⟩ := hB
  rw [ht] at hP1
  replace hP := z0 hP hD hk1 hP1 hI1
  clear hk1 hPc hDc hFc hP1 hD1 ht hI1
  refine lv_astore_nN (lv' := [(3, .null), (0, .ref x), (1, .int v), (2, .int w)]) hx hb dX10_told_8 rfl hl (Nat.le_of_ble_eq_true rfl) rfl (fun ls hl => ?_)
  refine lv_aload_nN hx hb dX10_told_9 rfl (lv_at hl 0 rfl) ?_
  refine lv_ifnonnullN hx hb dX10_told_10 ?_
  refine lv_iconst (v := (-1)) hx hb dX10_told_13 rfl ?_
  obtain ⟨hP9, hD9⟩ := zu_sub (wc := [_, _, _]) hP hD [true, true, true] rfl rfl
  rw [hQ9]
  exact W.iret (v := (-1)) hx hb hr (fun t ht hW => ⟨⟨rfl, by rw [ht]; exact hP9, hD9⟩, hS.F ht⟩) hS.2.2 dX10_told_14
end
section
/-! what is asked: sound rows, inside -/
theorem snd_n {kd : Int} {n : Nat} {X Y C D : Nat → Int32} {rg : Int32} (hr : rg.toInt = if 5 ≤ kd then 1 else 0) (hc : ∀ k, k < n → X k = C k ∧ Y k = D k) (hf : (if kd = 0 then 1 else if kd < 5 then 2 else 3) ≤ n) (h1 : kd = 0 → n ≤ 1) (h : (∀ i, i < edg n rg → eFr n X Y rg i (i + 1)) ∧ (¬ kd = 6 ∨ ∀ k, k < n → eRt n X Y k)) : mSm kd n C D := by
  by_cases e : kd = 0
  · refine ⟨fun _ => ?_, fun g => absurd e g⟩
    rw [if_pos e] at hf
    have := h1 e
    omega
  · refine mSm_cg hc ((snd_iff hr e ?_).mp h)
    rw [if_neg e] at hf
    unfold mnc
    by_cases e2 : kd < 5
    · rw [if_pos e2] at hf; split <;> omega
    · rw [if_neg e2] at hf; split <;> omega
end
section
/-! the class's candidates for the distance are the reference's -/
theorem eO_cov {k : Int} {n : Nat} (h : okK k n) : ∀ j, j < n → ∃ i, i < eO k n ∧ (j = i ∨ j = nxt n i) := by
  intro j hj
  unfold eO
  rcases h with ⟨h0, h1⟩ | ⟨h0, h2⟩
  · rw [if_pos h0]; exact ⟨0, by omega, Or.inl (by omega)⟩
  · rw [if_neg h0]
    by_cases h5 : 5 ≤ k
    · rw [if_pos h5]; exact ⟨j, hj, Or.inl rfl⟩
    · rw [if_neg h5]
      rcases Nat.lt_or_ge j (n - 1) with q | q
      · exact ⟨j, q, Or.inl rfl⟩
      · refine ⟨j - 1, by omega, Or.inr ?_⟩
        unfold nxt
        rw [if_pos (by omega)]
        omega
theorem bt_dc {n m e1 e2 : Nat} {X Y U V : Nat → Int32} (h1 : e1 ≤ n) (h2 : e2 ≤ m) (c1 : ∀ j, j < n → ∃ i, i < e1 ∧ (j = i ∨ j = nxt n i)) (c2 : ∀ j, j < m → ∃ i, i < e2 ∧ (j = i ∨ j = nxt m i)) (A B : Int) : btP n X Y e1 m U V e2 A B ↔ dcP n X Y m U V e2 e1 0 A B := by
  constructor
  · intro h
    rcases h with (h | ⟨j, hj, k, hk, ha, hb⟩) | ⟨j, hj, k, hk, ha, hb⟩
    · exact h.elim
    · obtain ⟨i, hi, e⟩ := c1 j hj
      refine ⟨i, k, Or.inl ⟨hi, hk⟩, ?_⟩
      rcases e with e | e
      · rw [e] at ha hb; exact Or.inr (Or.inr (Or.inl ⟨ha, hb⟩))
      · rw [e] at ha hb; exact Or.inr (Or.inr (Or.inr ⟨ha, hb⟩))
    · obtain ⟨i, hi, e⟩ := c2 j hj
      refine ⟨k, i, Or.inl ⟨hk, hi⟩, ?_⟩
      rcases e with e | e
      · rw [e] at ha hb; exact Or.inl ⟨ha, hb⟩
      · rw [e] at ha hb; exact Or.inr (Or.inl ⟨ha, hb⟩)
  · intro h
    obtain ⟨i, k, hik, h⟩ := h
    have hi : i < e1 ∧ k < e2 := by omega
    rcases h with h | h | h | h
    · exact Or.inr ⟨k, by omega, i, hi.1, h⟩
    · exact Or.inr ⟨nxt m k, nxt_lt (by omega), i, hi.1, h⟩
    · exact Or.inl (Or.inr ⟨i, by omega, k, hi.2, h⟩)
    · exact Or.inl (Or.inr ⟨nxt n i, nxt_lt (by omega), k, hi.2, h⟩)
theorem IM_eq {P : Int → Int → Prop} {u d U D : Int} (h : IM P u d) (g : IM P U D) (hd : 1 ≤ d) (hD : 1 ≤ D) : u * D = U * d := by
  rcases h with ⟨h1, _, _⟩ | ⟨_, h2, h3⟩
  · omega
  · rcases g with ⟨g1, _, _⟩ | ⟨_, g2, g3⟩
    · omega
    · exact Int.le_antisymm (h3 U D g2) (g3 u d h2)
theorem IM_lt {u d U D c : Int} (e : u * D = U * d) (hd : 1 ≤ d) (hD : 1 ≤ D) (h : c * d < u) : c * D < U := by
  refine Int.not_le.mp fun g => ?_
  have h1 : U * d ≤ c * D * d := Int.mul_le_mul_of_nonneg_right g (by omega)
  have h2 : c * d * D < u * D := Int.mul_lt_mul_of_pos_right h (by omega)
  rw [e, Int.mul_assoc, Int.mul_comm d D, ← Int.mul_assoc] at h2
  omega
theorem IM_gap {P : Int → Int → Prop} {u d U D c : Int} (h : IM P u d) (g : IM P U D) (hd : 1 ≤ d) (hD : 1 ≤ D) : (c * d < u ↔ c * D < U) :=
  ⟨IM_lt (IM_eq h g hd hD) hd hD, IM_lt (IM_eq g h hD hd) hD hd⟩
end
section
/-! two features leave in one step -/
theorem t8_ne {p q : Nat} (h : p ≠ q) : 8 * p ≠ 8 * q ∧ 8 * p + 1 ≠ 8 * q ∧ 8 * p + 2 ≠ 8 * q ∧ 8 * p + 3 ≠ 8 * q := by omega
section
variable {cI cO : ClassId} {L L1 : List Nat} {f f1 : Nat → va_E} {own own1 : Nat → Nat} {e0 ea n9 : Nat} {FA : Nat → Option Nat} {fe cl nw md sp : Nat → Nat} {la : Nat → Nat → Nat} {fm : Nat → Value} {SA : Nat → Option Nat} {bs dn T ft fN : Nat} {FT : Nat → Nat} {V : Nat → Nat → Nat → Int32} {VX VY : Nat → Nat → Int32} {tn rk wd tw pa pb wh of9 we kd st gb it mn cx cy kd1 st1 gb1 it1 stm gbm itm : Nat → Int32}
variable {gh gh1 : Nat → Nat → Int32}
theorem M_lv {q nq : Nat} {fv : Value} {lo5 lx5 ly5 ln5 : Nat} {LX5 LY5 : Nat → Int32} {we5 r5 rx5 ry5 cap5 : Nat} {X5 Y5 : Nat → Int32} {kq5 sq5 gq5 iq5 : Int32}
    (hG : shG cI cO L f e0 FA ea n9 own fe cl la nw md sp fm SA bs dn dn ft ft FT V VX VY tn rk wd tw pa pb wh of9 we kd st gb it mn cx cy) (hM : mdA dn ft FT la nw md fm V kd st gb it) (hm : md q = 0) (hq : q < ft) (hqd : q < FT dn) (hs : ¬ (st q).toInt = 0) (hs1 : ¬ (st1 q).toInt = 0) (ht : (tn q).toInt = 0)
    (hc : fcA cI L f own q (8 * q + 2) (8 * q + 3) (fe q) (nw q) (cl q) fv (rk q) (wd q) (tw q) (pa q) (pb q) (kd q) (st q) (gb q) (it q) (nN (mn q)) (cF40 cx q) (cF40 cy q) lo5 lx5 ly5 ln5 LX5 LY5 we5 r5 rx5 ry5 cap5 X5 Y5) (hk : kpT (fun g => g ≠ 8 * q) L f own L1 f1 own1)
    (h1 : ce L1 f1 own1 (8 * q) (fe q) (.inr (1, [.int (rk q), .int (wd q), .int (tw q), .int (pa q), .int (pb q), .ref lo5, .ref nq, .ref (nw q)]))) (h2 : ce L1 f1 own1 (8 * q + 4) nq (.inr (4, [.int kq5, .int sq5, .ref r5, .int gq5, .int iq5, .int (nI we5)])))
    (ho : othS q kd st gb it mn cx cy kd1 st1 gb1 it1 mn cx cy) (hk5 : kd1 q = kq5) (hst5 : st1 q = sq5) (hgb5 : gb1 q = gq5) (hit5 : it1 q = iq5) (hkr5 : rgK kq5.toInt = rgK (kd q).toInt) (hkb5 : (1 ≤ kq5.toInt ∧ kq5.toInt ≤ 5) → (1 ≤ (kd q).toInt ∧ (kd q).toInt ≤ 5)) (hO : loG cI L f own fe nw md la bs dn dn ft ft FT V gh) :
    shG cI cO L1 f1 e0 FA ea n9 own1 fe cl la (upN nw q nq) (upN md q 2) sp (upN fm q (.ref (la dn q))) SA bs dn dn ft ft FT V VX VY tn rk wd tw pa pb wh of9 we kd1 st1 gb1 it1 mn cx cy ∧ mdA dn ft FT la (upN nw q nq) (upN md q 2) (upN fm q (.ref (la dn q))) V kd1 st1 gb1 it1 ∧ loG cI L1 f1 own1 fe (upN nw q nq) (upN md q 2) la bs dn dn ft ft FT V gh := by
  obtain ⟨⟨a1, a2, a3, a7⟩, b1, b2, b3, b4, b5⟩ := hc
  have hla : nw q = la dn q := ((hM q hq).1 hm).2.1
  have hV := ((hM q hq).1 hm).2.2 hqd
  have hfe : feG cI L1 f1 own1 q (fe q) nq (cl q) (.ref (la dn q)) (rk q) (wd q) (tw q) (pa q) (pb q) := ⟨lo5, lx5, ly5, ln5, LX5, LY5, by rw [← hla]; exact h1, rwG_kp hk (show 8 * q + 1 ≠ 8 * q by omega) a7, b1⟩
  have hlk : lkG cI L1 f1 own1 (glM 2 q) (grM 2 q) nq (cl q) (kd1 q) (st1 q) (gb1 q) (it1 q) (tn q) (nN (mn q)) (cF40 cx q) (cF40 cy q) := by
    have hs2 : ¬ sq5.toInt = 0 := by rw [← hst5]; exact hs1
    rw [hk5, hst5, hgb5, hit5]
    refine ⟨we5, .ref r5, h2, b2.2.2, fun g => (b5 (hkb5 g)).1, fun g => absurd ht g, fun _ => ⟨r5, rx5, ry5, cap5, X5, Y5, rfl, ?_, b2.1, b2.2.1, fun g => absurd g hs2, b4, fun g => (b5 (hkb5 g)).2⟩⟩
    rw [hkr5]; exact rwG_kp hk (show 8 * q + 3 ≠ 8 * q by omega) a3
  have hres := M_new (m := 2) (nq := nq) hG hM (kpT_wk hk (fun g hg => hg.1)) hfe hlk ho (by decide) hq hqd (by rw [hV.2.1]; exact hs) hs1
  have hl0 : loQ cI L f own q (fe q) ln5 LX5 LY5 := ⟨_, _, _, _, _, _, _, lo5, lx5, ly5, cl q, a1, a7, by omega⟩
  have hw0 : weQ L f own (glM (md q) q) (nw q) we5 := by rw [hm]; exact ⟨b2.2.2, _, _, _, _, _, a2⟩
  have hl1 : loQ cI L1 f1 own1 q (fe q) ln5 LX5 LY5 := ⟨_, _, _, _, _, _, _, lo5, lx5, ly5, cl q, h1, rwG_kp hk (show 8 * q + 1 ≠ 8 * q by omega) a7, by omega⟩
  have hw1 : weQ L1 f1 own1 (glM 2 q) nq we5 := ⟨b2.2.2, _, _, _, _, _, h2⟩
  have hat := lo_at hO (Nat.le_refl _) hq a1 a7 (by omega) a2 b2.2.2
  exact ⟨hres.1, hres.2, loN (m := 2) (nq := nq) hO (kpT_wk hk (fun g hg => hg.1)) hl0 hw0 hl1 hw1 hat.1 (fun _ _ => ⟨rfl, rfl⟩) ⟨Nat.le_refl _, hat.2⟩ (fun _ _ _ => rfl) hq⟩
theorem lv_mid {q n1 a : Nat} {E0 E N : va_E} (hn : n1 ∉ L) (h : ce L f own (8 * q) a E0) : ∃ (Lm : List Nat) (gm : Nat → va_E), kpT (fun g => g ≠ 8 * q) L f own Lm gm (ow own n1 (8 * q + 4)) ∧ ce Lm gm (ow own n1 (8 * q + 4)) (8 * q) a E ∧ ce Lm gm (ow own n1 (8 * q + 4)) (8 * q + 4) n1 N ∧ ∀ b, b ∈ Lm → b ≠ n1 → b ≠ a → b ∈ L ∧ ¬ own b = 8 * q ∧ gm b = f b := by
  have ha : a ≠ n1 := fun e => hn (by rw [← e]; exact h.1)
  refine ⟨n1 :: L.filter (fun b => decide (¬ own b = 8 * q) || decide (b = a)), upN (upN f a E) n1 N, fun g b e hg hb => ?_, ⟨List.mem_cons_of_mem _ (List.mem_filter.mpr ⟨h.1, by simp⟩), by rw [upN_o ha, upN_at], by rw [ow_o ha]; exact h.2.2⟩, ⟨List.mem_cons_self .., upN_at, ow_at⟩, fun b hb h1 h2 => ?_⟩
  · have hb1 : b ≠ n1 := fun e => hn (by rw [← e]; exact hb.1)
    have hb0 : ¬ own b = 8 * q := fun e => hg (by rw [← hb.2.2]; exact e)
    have hb2 : b ≠ a := fun e => hb0 (by rw [e]; exact h.2.2)
    exact ⟨List.mem_cons_of_mem _ (List.mem_filter.mpr ⟨hb.1, by simp [hb0]⟩), by rw [upN_o hb1, upN_o hb2]; exact hb.2.1, by rw [ow_o hb1]; exact hb.2.2⟩
  · obtain ⟨m1, m2⟩ := List.mem_filter.mp ((List.mem_cons.mp hb).resolve_left h1)
    exact ⟨m1, by simpa [h2] using m2, by rw [upN_o h1, upN_o h2]⟩
set_option maxHeartbeats 4000000 in
theorem M_lv2 {q p n1 n2 : Nat} {fv fw : Value} {Xw : va_W} {lo5 lx5 ly5 ln5 : Nat} {LX5 LY5 : Nat → Int32} {we5 r5 rx5 ry5 cap5 : Nat} {X5 Y5 : Nat → Int32} {kq5 sq5 gq5 iq5 : Int32} {lo6 lx6 ly6 ln6 : Nat} {LX6 LY6 : Nat → Int32} {we6 r6 rx6 ry6 cap6 : Nat} {X6 Y6 : Nat → Int32} {kq6 sq6 gq6 iq6 : Int32}
    (hG : shG cI cO L f e0 FA ea n9 own fe cl la nw md sp fm SA bs dn dn ft ft FT V VX VY tn rk wd tw pa pb wh of9 we kd st gb it mn cx cy) (hM : mdA dn ft FT la nw md fm V kd st gb it) (hpq : p ≠ q) (hm5 : md q = 0) (hm6 : md p = 0) (hq : q < ft) (hp : p < ft) (hqd : q < FT dn) (hpd : p < FT dn) (hs5 : ¬ (st q).toInt = 0) (hs6 : ¬ (st p).toInt = 0) (hs15 : ¬ (stm q).toInt = 0) (hs16 : ¬ (st1 p).toInt = 0) (ht5 : (tn q).toInt = 0) (ht6 : (tn p).toInt = 0)
    (hc5 : fcA cI L f own q (8 * q + 2) (8 * q + 3) (fe q) (nw q) (cl q) fv (rk q) (wd q) (tw q) (pa q) (pb q) (kd q) (st q) (gb q) (it q) (nN (mn q)) (cF40 cx q) (cF40 cy q) lo5 lx5 ly5 ln5 LX5 LY5 we5 r5 rx5 ry5 cap5 X5 Y5)
    (hc6 : fcA cI L f own p (8 * p + 2) (8 * p + 3) (fe p) (nw p) (cl p) fw (rk p) (wd p) (tw p) (pa p) (pb p) (kd p) (st p) (gb p) (it p) (nN (mn p)) (cF40 cx p) (cF40 cy p) lo6 lx6 ly6 ln6 LX6 LY6 we6 r6 rx6 ry6 cap6 X6 Y6)
    (hpin : pinD L f Xw [(fe q, .inr (1, [.int (rk q), .int (wd q), .int (tw q), .int (pa q), .int (pb q), .ref lo5, .ref n1, .ref (nw q)])), (nw q, .inr (4, [.int (kd q), .int (st q), .ref r5, .int (gb q), .int (it q), .int (nI we5)])), (r5, .inr (6, [.ref rx5, .ref ry5, .int (nI (nN (mn q))), .int (rgK (kd q).toInt)])), (rx5, .inl (cI, cap5, .inl X5)), (ry5, .inl (cI, cap5, .inl Y5)), (lo5, .inr (6, [.ref lx5, .ref ly5, .int (nI ln5), .int 0])), (lx5, .inl (cI, cl q, .inl LX5)), (ly5, .inl (cI, cl q, .inl LY5)), (fe p, .inr (1, [.int (rk p), .int (wd p), .int (tw p), .int (pa p), .int (pb p), .ref lo6, .ref n2, .ref (nw p)])), (nw p, .inr (4, [.int (kd p), .int (st p), .ref r6, .int (gb p), .int (it p), .int (nI we6)])), (r6, .inr (6, [.ref rx6, .ref ry6, .int (nI (nN (mn p))), .int (rgK (kd p).toInt)])), (rx6, .inl (cI, cap6, .inl X6)), (ry6, .inl (cI, cap6, .inl Y6)), (lo6, .inr (6, [.ref lx6, .ref ly6, .int (nI ln6), .int 0])), (lx6, .inl (cI, cl p, .inl LX6)), (ly6, .inl (cI, cl p, .inl LY6))] [(n1, .inr (4, [.int kq5, .int sq5, .ref r5, .int gq5, .int iq5, .int (nI we5)])), (n2, .inr (4, [.int kq6, .int sq6, .ref r6, .int gq6, .int iq6, .int (nI we6)]))] [(fe q, .inr (1, [.int (rk q), .int (wd q), .int (tw q), .int (pa q), .int (pb q), .ref lo5, .ref n1, .ref (nw q)])), (nw q, .inr (4, [.int (kd q), .int (st q), .ref r5, .int (gb q), .int (it q), .int (nI we5)])), (r5, .inr (6, [.ref rx5, .ref ry5, .int (nI (nN (mn q))), .int (rgK (kd q).toInt)])), (rx5, .inl (cI, cap5, .inl X5)), (ry5, .inl (cI, cap5, .inl Y5)), (lo5, .inr (6, [.ref lx5, .ref ly5, .int (nI ln5), .int 0])), (lx5, .inl (cI, cl q, .inl LX5)), (ly5, .inl (cI, cl q, .inl LY5)), (fe p, .inr (1, [.int (rk p), .int (wd p), .int (tw p), .int (pa p), .int (pb p), .ref lo6, .ref n2, .ref (nw p)])), (nw p, .inr (4, [.int (kd p), .int (st p), .ref r6, .int (gb p), .int (it p), .int (nI we6)])), (r6, .inr (6, [.ref rx6, .ref ry6, .int (nI (nN (mn p))), .int (rgK (kd p).toInt)])), (rx6, .inl (cI, cap6, .inl X6)), (ry6, .inl (cI, cap6, .inl Y6)), (lo6, .inr (6, [.ref lx6, .ref ly6, .int (nI ln6), .int 0])), (lx6, .inl (cI, cl p, .inl LX6)), (ly6, .inl (cI, cl p, .inl LY6)), (n1, .inr (4, [.int kq5, .int sq5, .ref r5, .int gq5, .int iq5, .int (nI we5)])), (n2, .inr (4, [.int kq6, .int sq6, .ref r6, .int gq6, .int iq6, .int (nI we6)]))] L1 f1)
    (ho5 : othS q kd st gb it mn cx cy kd stm gbm itm mn cx cy) (hk5 : kd q = kq5) (hst5 : stm q = sq5) (hgb5 : gbm q = gq5) (hit5 : itm q = iq5) (hkr5 : rgK kq5.toInt = rgK (kd q).toInt) (hkb5 : (1 ≤ kq5.toInt ∧ kq5.toInt ≤ 5) → (1 ≤ (kd q).toInt ∧ (kd q).toInt ≤ 5))
    (ho6 : othS p kd stm gbm itm mn cx cy kd st1 gb1 it1 mn cx cy) (hk6 : kd p = kq6) (hst6 : st1 p = sq6) (hgb6 : gb1 p = gq6) (hit6 : it1 p = iq6) (hkr6 : rgK kq6.toInt = rgK (kd p).toInt) (hkb6 : (1 ≤ kq6.toInt ∧ kq6.toInt ≤ 5) → (1 ≤ (kd p).toInt ∧ (kd p).toInt ≤ 5)) (hO : loG cI L f own fe nw md la bs dn dn ft ft FT V gh) :
    ∃ (own1 nw1 md1 : Nat → Nat) (fm1 : Nat → Value), shG cI cO L1 f1 e0 FA ea n9 own1 fe cl la nw1 md1 sp fm1 SA bs dn dn ft ft FT V VX VY tn rk wd tw pa pb wh of9 we kd st1 gb1 it1 mn cx cy ∧ mdA dn ft FT la nw1 md1 fm1 V kd st1 gb1 it1 ∧ md1 = upN (upN md q 2) p 2 ∧ loG cI L1 f1 own1 fe nw1 md1 la bs dn dn ft ft FT V gh := by
  obtain ⟨hfr, hkp, hce, hsx, hpw⟩ := hpin
  have hn1 : n1 ∉ L := hfr _ (List.mem_cons_self ..)
  have hn2 : n2 ∉ L := hfr _ (List.mem_cons_of_mem _ (List.mem_cons_self ..))
  have h12 : n1 ≠ n2 := pwN hpw (i := 16) (j := 17) rfl rfl (by decide)
  have a1 := hc5.1.1
  have c1 := hc6.1.1
  obtain ⟨Lm, gm, k1, k2, k3, k4⟩ := lv_mid (E := .inr (1, [.int (rk q), .int (wd q), .int (tw q), .int (pa q), .int (pb q), .ref lo5, .ref n1, .ref (nw q)])) (N := .inr (4, [.int kq5, .int sq5, .ref r5, .int gq5, .int iq5, .int (nI we5)])) hn1 a1
  obtain ⟨hG2, hM2, hO2⟩ := M_lv (q := q) (nq := n1) (kd1 := kd) hG hM hm5 hq hqd hs5 hs15 ht5 hc5 k1 k2 k3 ho5 hk5 hst5 hgb5 hit5 hkr5 hkb5 hO
  have hoo : ∀ a, a ∈ L → ow (ow own n1 (8 * q + 4)) n2 (8 * p + 4) a = own a := ow_L (ow_L (fun _ _ => rfl) hn1) hn2
  have hof : ow (ow own n1 (8 * q + 4)) n2 (8 * p + 4) n1 = 8 * q + 4 := by rw [ow_o h12]; exact ow_at
  obtain ⟨⟨_, a2, ⟨a3, a4, a5, a6⟩, ⟨a7, a8, a9, a10⟩⟩, _⟩ := hc5
  have hc6' := hc6
  obtain ⟨⟨_, c2, ⟨c3, c4, c5, c6⟩, ⟨c7, c8, c9, c10⟩⟩, crest⟩ := hc6
  have hkA := hkp own (ow (ow own n1 (8 * q + 4)) n2 (8 * p + 4)) (fun g => g ≠ 8 * q ∧ g ≠ 8 * p) hoo ⟨fun _ h => absurd a1.2.2 h.1, fun _ _ => a2.2.1, fun _ _ => a3.2.1, fun _ _ => a4.2.1, fun _ _ => a5.2.1, fun _ _ => a7.2.1, fun _ _ => a8.2.1, fun _ _ => a9.2.1, fun _ h => absurd c1.2.2 h.2, fun _ _ => c2.2.1, fun _ _ => c3.2.1, fun _ _ => c4.2.1, fun _ _ => c5.2.1, fun _ _ => c7.2.1, fun _ _ => c8.2.1, fun _ _ => c9.2.1, trivial⟩
  have hk2 : kpT (fun g => g ≠ 8 * p) Lm gm (ow own n1 (8 * q + 4)) L1 f1 (ow (ow own n1 (8 * q + 4)) n2 (8 * p + 4)) := by
    intro g a e hg ha
    by_cases e1 : a = n1
    · rw [e1] at ha ⊢
      have he9 := k3.2.1.symm.trans ha.2.1
      have hg9 := k3.2.2.symm.trans ha.2.2
      subst he9
      subst hg9
      exact hce _ 16 _ _ _ rfl hof
    · by_cases e2 : a = fe q
      · rw [e2] at ha ⊢
        have he9 := k2.2.1.symm.trans ha.2.1
        have hg9 := k2.2.2.symm.trans ha.2.2
        subst he9
        subst hg9
        exact hce _ 0 _ _ _ rfl (by rw [hoo _ a1.1]; exact a1.2.2)
      · obtain ⟨m1, m2, m3⟩ := k4 a ha.1 e1 e2
        have ho : own a = g := by have h9 := ha.2.2; rw [ow_o e1] at h9; exact h9
        exact hkA g a e ⟨by rw [← ho]; exact m2, hg⟩ ⟨m1, by rw [← m3]; exact ha.2.1, ho⟩
  have hnwp : upN nw q n1 p = nw p := upN_o hpq
  obtain ⟨o1, o2, o3, o4, _⟩ := ho5 p hpq
  have hc7 : fcA cI Lm gm (ow own n1 (8 * q + 4)) p (8 * p + 2) (8 * p + 3) (fe p) (upN nw q n1 p) (cl p) fw (rk p) (wd p) (tw p) (pa p) (pb p) (kd p) (stm p) (gbm p) (itm p) (nN (mn p)) (cF40 cx p) (cF40 cy p) lo6 lx6 ly6 ln6 LX6 LY6 we6 r6 rx6 ry6 cap6 X6 Y6 := by
    rw [hnwp, o2, o3, o4]
    exact ⟨⟨k1 _ _ _ (t8_ne hpq).1 c1, k1 _ _ _ (t8_ne hpq).2.2.1 c2, rwG_kp k1 (t8_ne hpq).2.2.2 ⟨c3, c4, c5, c6⟩, rwG_kp k1 (t8_ne hpq).2.1 ⟨c7, c8, c9, c10⟩⟩, crest⟩
  obtain ⟨hG3, hM3, hO3⟩ := M_lv (q := p) (nq := n2) (kd1 := kd) hG2 hM2 (by rw [upN_o hpq]; exact hm6) hp hpd (by rw [o2]; exact hs6) hs16 ht6 hc7 hk2 (by rw [hnwp]; exact hce _ 8 _ _ _ rfl (by rw [hoo _ c1.1]; exact c1.2.2)) (hce _ 17 _ _ _ rfl ow_at) ho6 hk6 hst6 hgb6 hit6 hkr6 hkb6 hO2
  exact ⟨_, _, _, _, hG3, hM3, rfl, hO3⟩
end
end
section
/-! JOIN by the class -/
theorem pw_ap {A B : va_W} {own : Nat → Nat} {p : Nat} (hA : A.Pairwise (fun p q => p.1 ≠ q.1)) (hB : B.Pairwise (fun p q => p.1 ≠ q.1)) (h1 : ∀ c ∈ A, own c.1 / 8 ≠ p) (h2 : ∀ r, r ≠ p → ∀ c ∈ B, own c.1 / 8 ≠ r) : (A ++ B).Pairwise (fun p q => p.1 ≠ q.1) :=
  List.pairwise_append.mpr ⟨hA, hB, fun a ha b hb e => h1 a ha (Classical.byContradiction fun g => h2 (own a.1 / 8) g b hb (by rw [e]))⟩
theorem pls4 {P Q : Nat → Int32} {a b c d : Int32} (hp : P 0 = a ∧ P 1 = b ∧ P 2 = b ∧ P 3 = a) (hq : Q 0 = c ∧ Q 1 = c ∧ Q 2 = d ∧ Q 3 = d) (ha : pl a) (hb : pl b) (hc : pl c) (hd : pl d) : pls 4 P Q := by
  intro j hj
  rcases (show j = 0 ∨ j = 1 ∨ j = 2 ∨ j = 3 by omega) with rfl | rfl | rfl | rfl
  · rw [hp.1, hq.1]; exact ⟨ha, hc⟩
  · rw [hp.2.1, hq.2.1]; exact ⟨hb, hc⟩
  · rw [hp.2.2.1, hq.2.2.1]; exact ⟨hb, hd⟩
  · rw [hp.2.2.2, hq.2.2.2]; exact ⟨ha, hd⟩
theorem jbox {cx cy : Nat → Int32} {f n g m : Nat} {X Y U V : Nat → Int32} (hc : ∀ j, j < n → X j = cF40 cx f j ∧ Y j = cF40 cy f j) (hd : ∀ j, j < m → U j = cF40 cx g j ∧ V j = cF40 cy g j) (hn : 1 ≤ n) :
    iI (mnI (mnI (X 0).toInt X n) U m) = jlo cx f n g m ∧ iI (mxI (mxI (X 0).toInt X n) U m) = jhi cx f n g m ∧ iI (mnI (mnI (Y 0).toInt Y n) V m) = jlo cy f n g m ∧ iI (mxI (mxI (Y 0).toInt Y n) V m) = jhi cy f n g m := by
  have a1 := mnI_cg (z := (X 0).toInt) (fun j hj => (hc j hj).1) n (Nat.le_refl _)
  have a2 := mnI_cg (z := (Y 0).toInt) (fun j hj => (hc j hj).2) n (Nat.le_refl _)
  have b1 : ∀ z, mnI z U m = mnI z (cF40 cx g) m ∧ mxI z U m = mxI z (cF40 cx g) m := fun z => mnI_cg (z := z) (fun j hj => (hd j hj).1) m (Nat.le_refl _)
  have b2 : ∀ z, mnI z V m = mnI z (cF40 cy g) m ∧ mxI z V m = mxI z (cF40 cy g) m := fun z => mnI_cg (z := z) (fun j hj => (hd j hj).2) m (Nat.le_refl _)
  rw [a1.1, a1.2, a2.1, a2.2, (hc 0 hn).1, (hc 0 hn).2]
  unfold jlo jhi
  rw [(b1 _).1, (b1 _).2, (b2 _).1, (b2 _).2]
  exact ⟨rfl, rfl, rfl, rfl⟩
theorem eO_lq {k : Int} {n : Nat} (h : okK k n) : eO k n ≤ n := by
  unfold eO
  rcases h with h | h
  · rw [if_pos h.1]; omega
  · rw [if_neg h.1]; split <;> omega
theorem dcP_cg {n m e i : Nat} {X Y C D U V P Q : Nat → Int32} (hc : ∀ j, j < n → X j = C j ∧ Y j = D j) (hd : ∀ j, j < m → U j = P j ∧ V j = Q j) (hi : i ≤ n) (he : e ≤ m) {A B : Int} (h : dcP n X Y m U V e i 0 A B) : dcP n C D m P Q e i 0 A B := by
  obtain ⟨i1, k1, g, s⟩ := h
  refine ⟨i1, k1, g, ?_⟩
  rw [dcS_cg hc hd (by omega) (by omega)] at s
  exact s
theorem IM_cq {P Q : Int → Int → Prop} {u d : Int} (h : ∀ A B, P A B ↔ Q A B) (g : IM P u d) : IM Q u d := by
  rcases g with ⟨a, b, c⟩ | ⟨a, b, c⟩
  · exact Or.inl ⟨a, b, fun U D h9 => c U D ((h U D).mpr h9)⟩
  · exact Or.inr ⟨a, (h _ _).mp b, fun U D h9 => c U D ((h U D).mpr h9)⟩
/-- the class's least distance is the reference's -/
theorem bt_IM {k1 k2 : Int} {n m : Nat} {X Y C D U V P Q : Nat → Int32} {zu zd : Int} (hc : ∀ j, j < n → X j = C j ∧ Y j = D j) (hd : ∀ j, j < m → U j = P j ∧ V j = Q j) (o1 : okK k1 n) (o2 : okK k2 m) (him : IM (btP n X Y (prt n (rgK k1)) m U V (prt m (rgK k2))) zu zd) : IM (dcP n C D m P Q (eO k2 m) (eO k1 n) 0) zu zd := by
  have e1 := eO_lq o1
  have e2 := eO_lq o2
  rw [prt_eO (rgK_t k1) o1, prt_eO (rgK_t k2) o2] at him
  refine IM_cq (fun A B => (bt_dc e1 e2 (eO_cov o1) (eO_cov o2) A B).trans ⟨fun h => dcP_cg hc hd e1 e2 h, fun h => dcP_cg (fun j hj => ⟨(hc j hj).1.symm, (hc j hj).2.symm⟩) (fun j hj => ⟨(hd j hj).1.symm, (hd j hj).2.symm⟩) e1 e2 h⟩) him
theorem jfar_iff {k1 k2 g : Int} {n m : Nat} {X Y C D U V P Q : Nat → Int32} {zu zd : Int} (hc : ∀ j, j < n → X j = C j ∧ Y j = D j) (hd : ∀ j, j < m → U j = P j ∧ V j = Q j) (o1 : okK k1 n) (o2 : okK k2 m) (him : IM (btP n X Y (prt n (rgK k1)) m U V (prt m (rgK k2))) zu zd) (hz : 0 ≤ zu ∧ 1 ≤ zd) (hnt : ¬ mtF k1 n C D k2 m P Q) :
    g * g * zd < zu ↔ (¬ mtF k1 n C D k2 m P Q ∧ ∀ u d : Nat, 1 ≤ d → IM (dcP n C D m P Q (eO k2 m) (eO k1 n) 0) ((u : Nat) : Int) ((d : Nat) : Int) → g * g * ((d : Nat) : Int) < ((u : Nat) : Int)) := by
  have him2 := bt_IM hc hd o1 o2 him
  constructor
  · intro h
    exact ⟨hnt, fun u d hd1 hI => (IM_gap him2 hI hz.2 (by omega)).mp h⟩
  · intro h
    have e1 : ((zu.toNat : Nat) : Int) = zu := Int.toNat_of_nonneg hz.1
    have e2 : ((zd.toNat : Nat) : Int) = zd := Int.toNat_of_nonneg (by omega)
    have h9 := h.2 zu.toNat zd.toNat (by omega) (by rw [e1, e2]; exact him2)
    rw [e1, e2] at h9
    exact h9
theorem jtch_iff {k1 k2 : Int} {n m : Nat} {X Y C D U V P Q : Nat → Int32} (hn : 1 ≤ n) (hm : 1 ≤ m) (hc : ∀ j, j < n → X j = C j ∧ Y j = D j) (hd : ∀ j, j < m → U j = P j ∧ V j = Q j) (o1 : okK k1 n) (o2 : okK k2 m) : (∃ i, i < prt n (rgK k1) ∧ ∃ j, j < prt m (rgK k2) ∧ eMt n X Y i m U V j) ↔ mtF k1 n C D k2 m P Q :=
  (tch_mt o1 o2).trans (mtF_cg hn hm hc hd)
theorem gg_0 {g : Int} : 0 ≤ g * g := by
  rcases Int.le_total 0 g with h | h
  · exact Int.mul_nonneg h h
  · exact Int.mul_nonneg_of_nonpos_of_nonpos h h
section
variable {cI cO : ClassId} {L L1 : List Nat} {f f1 : Nat → va_E} {own : Nat → Nat} {e0 ea n9 : Nat} {FA : Nat → Option Nat} {fe cl nw md sp : Nat → Nat} {la : Nat → Nat → Nat} {fm : Nat → Value} {SA : Nat → Option Nat} {bs dn ft fN : Nat} {FT : Nat → Nat} {V : Nat → Nat → Nat → Int32} {VX VY : Nat → Nat → Int32} {tn rk wd tw pa pb wh of9 we kd st gb it mn cx cy cx1 cy1 : Nat → Int32}
theorem sh_vw2 {A B : va_W} {q p : Nat} (hA : ∀ r, r ≠ q → ∀ c ∈ A, own c.1 / 8 ≠ r) (hB : ∀ r, r ≠ p → ∀ c ∈ B, own c.1 / 8 ≠ r) (hF : FeA cI L f own fN fe nw cl fm rk wd tw pa pb) (hN : NwA cI L f own ft nw cl md kd st gb it tn mn cx cy) (hFA : ∀ q, q < ft → FA q = some (fe q)) (hf : ft ≤ fN) : ∀ r, r < ft → r ≠ q → r ≠ p → vwO cI (outPl L (A ++ B)) f FA kd st tn mn cx cy r :=
  fun r hr h1 h2 => sh_vw hF hN hFA hf hr (fun c hc => (List.mem_append.mp hc).elim (hA r h1 c) (hB r h2 c))
theorem and9 {A B C : Prop} (h : A ∧ B) (c : C) : A ∧ B ∧ C := ⟨h.1, h.2, c⟩
theorem J_made {gh : Nat → Nat → Int32} {Xw : va_W} {fq nq lo lx ly r rx ry : Nat} {k2 k3 k4 k5 k6 : Int32} {X7 Y7 : Nat → Int32} (h : shG cI cO L f e0 FA ea n9 own fe cl la nw md sp fm SA bs dn dn ft ft FT V VX VY tn rk wd tw pa pb wh of9 we kd st gb it mn cx cy) (hM : mdA dn ft FT la nw md fm V kd st gb it) (hft : ft = FT dn) (h200 : ft < 200) (hmd : md ft = 0)
    (hp : pinD L f Xw [] [(fq, .inr (1, [.int k2, .int k3, .int k4, .int k5, .int k6, .ref lo, .ref nq, .null])), (nq, .inr (4, [.int 6, .int 1, .ref r, .int 0, .int (-1), .int 0])), (r, .inr (6, [.ref rx, .ref ry, .int (nI 4), .int 1])), (rx, .inl (cI, 4, .inl X7)), (ry, .inl (cI, 4, .inl Y7)), (lo, .inr (6, [.ref lx, .ref ly, .int (nI 0), .int 0])), (lx, .inl (cI, 1, .inl (fun _ => 0))), (ly, .inl (cI, 1, .inl (fun _ => 0)))] [(fq, .inr (1, [.int k2, .int k3, .int k4, .int k5, .int k6, .ref lo, .ref nq, .null])), (nq, .inr (4, [.int 6, .int 1, .ref r, .int 0, .int (-1), .int 0])), (r, .inr (6, [.ref rx, .ref ry, .int (nI 4), .int 1])), (rx, .inl (cI, 4, .inl X7)), (ry, .inl (cI, 4, .inl Y7)), (lo, .inr (6, [.ref lx, .ref ly, .int (nI 0), .int 0])), (lx, .inl (cI, 1, .inl (fun _ => 0))), (ly, .inl (cI, 1, .inl (fun _ => 0)))] L1 f1) (hX : ∀ k, k < 4 → X7 k = cF40 cx1 ft k ∧ Y7 k = cF40 cy1 ft k) (ho : ∀ p, p ≠ ft → ∀ k, k < 40 → cF40 cx1 p k = cF40 cx p k ∧ cF40 cy1 p k = cF40 cy p k) (hO : loG cI L f own fe nw md la bs dn dn ft ft FT V gh) :
    ∃ o : Nat → Nat, shG cI cO L1 f1 e0 (va_up FA ft (some fq)) ea n9 o (upN fe ft fq) (upN cl ft 1) (fun t => upN (la t) ft nq) (upN nw ft nq) md sp (upN fm ft .null) SA bs dn dn (ft + 1) (ft + 1) FT V VX VY (upd tn ft 0) (upd rk ft k2) (upd wd ft k3) (upd tw ft k4) (upd pa ft k5) (upd pb ft k6) wh of9 we (upd kd ft 6) (upd st ft 1) (upd gb ft 0) (upd it ft (-1)) (upd mn ft 4) cx1 cy1 ∧ mdA dn (ft + 1) FT (fun t => upN (la t) ft nq) (upN nw ft nq) md (upN fm ft .null) V (upd kd ft 6) (upd st ft 1) (upd gb ft 0) (upd it ft (-1)) ∧ loG cI L1 f1 o (upN fe ft fq) (upN nw ft nq) md (fun t => upN (la t) ft nq) bs dn dn (ft + 1) (ft + 1) FT V (gZ gh ft) := by
  obtain ⟨hfr, hkp, hce, hsx, hpw⟩ := hp
  obtain ⟨o, how, of0, of1, ⟨of2, of3, of4⟩, of5, of6, of7⟩ := F_own (own := own) (t := ft) (hfr _ (List.mem_of_getElem? (i := 0) rfl)) (hfr _ (List.mem_of_getElem? (i := 1) rfl)) (hfr _ (List.mem_of_getElem? (i := 2) rfl)) (hfr _ (List.mem_of_getElem? (i := 3) rfl)) (hfr _ (List.mem_of_getElem? (i := 4) rfl)) (hfr _ (List.mem_of_getElem? (i := 5) rfl)) (hfr _ (List.mem_of_getElem? (i := 6) rfl)) (hfr _ (List.mem_of_getElem? (i := 7) rfl)) (pwN hpw (i := 1) (j := 0) rfl rfl (by decide)) (pwN hpw (i := 2) (j := 0) rfl rfl (by decide)) (pwN hpw (i := 3) (j := 0) rfl rfl (by decide)) (pwN hpw (i := 4) (j := 0) rfl rfl (by decide)) (pwN hpw (i := 5) (j := 0) rfl rfl (by decide)) (pwN hpw (i := 6) (j := 0) rfl rfl (by decide)) (pwN hpw (i := 7) (j := 0) rfl rfl (by decide)) (pwN hpw (i := 2) (j := 1) rfl rfl (by decide)) (pwN hpw (i := 3) (j := 1) rfl rfl (by decide)) (pwN hpw (i := 4) (j := 1) rfl rfl (by decide)) (pwN hpw (i := 5) (j := 1) rfl rfl (by decide)) (pwN hpw (i := 6) (j := 1) rfl rfl (by decide)) (pwN hpw (i := 7) (j := 1) rfl rfl (by decide)) (fun h => h.elim (pwN hpw (i := 5) (j := 2) rfl rfl (by decide)) (fun h => h.elim (pwN hpw (i := 5) (j := 3) rfl rfl (by decide)) (pwN hpw (i := 5) (j := 4) rfl rfl (by decide)))) (fun h => h.elim (pwN hpw (i := 6) (j := 2) rfl rfl (by decide)) (fun h => h.elim (pwN hpw (i := 6) (j := 3) rfl rfl (by decide)) (pwN hpw (i := 6) (j := 4) rfl rfl (by decide)))) (fun h => h.elim (pwN hpw (i := 7) (j := 2) rfl rfl (by decide)) (fun h => h.elim (pwN hpw (i := 7) (j := 3) rfl rfl (by decide)) (pwN hpw (i := 7) (j := 4) rfl rfl (by decide))))
  have x34 := pwN hpw (i := 3) (j := 4) rfl rfl (by decide)
  have x67 := pwN hpw (i := 6) (j := 7) rfl rfl (by decide)
  have hk2 := hkp own o (fun _ => True) how trivial
  have g0 := hce o 0 _ _ _ rfl of0
  have g1 := hce o 1 _ _ _ rfl of1
  have g2 := hce o 2 _ _ _ rfl of2
  have g3 := hce o 3 _ _ _ rfl of3
  have g4 := hce o 4 _ _ _ rfl of4
  have g5 := hce o 5 _ _ _ rfl of5
  have g6 := hce o 6 _ _ _ rfl of6
  have g7 := hce o 7 _ _ _ rfl of7
  clear hfr hkp hce hsx hpw
  have nN4 : nN (4 : Int32) = 4 := by decide
  have hr6 : rgK (6 : Int32).toInt = 1 := by decide
  refine ⟨o, and9 (M_made (fq := fq) (nq := nq) (c := 1) h hM hft h200 hk2 ?_ ?_ (fun p hp => ⟨if_neg hp, if_neg hp, if_neg hp, if_neg hp, if_neg hp, ho p hp⟩) (fun p hp => ⟨if_neg hp, if_neg hp, if_neg hp, if_neg hp, if_neg hp, if_neg hp⟩) hmd) (lo_M hO hk2 (fun t t1 t2 => h.2.2.2.2.2.1.2.2.2.1 t t1 t2) hmd ⟨_, _, _, _, _, _, _, lo, lx, ly, 1, g0, ⟨g5, g6, g7, x67⟩, Nat.zero_le _⟩ ⟨Nat.zero_le _, _, _, _, _, _, g1⟩ gZ_5 (fun p hp => gZ_o hp))⟩
  · rw [up_at, up_at, up_at, up_at, up_at]
    exact ⟨lo, lx, ly, 0, _, _, g0, ⟨g5, g6, g7, x67⟩, by decide⟩
  · rw [up_at, up_at, up_at, up_at, up_at, up_at, nN4]
    exact ⟨0, .ref r, g1, Nat.zero_le _, fun g => absurd g.2 (by decide), fun g => absurd rfl g, fun _ => ⟨r, rx, ry, 4, X7, Y7, rfl, by rw [hr6]; exact ⟨g2, g3, g4, x34⟩, Nat.le_refl _, by decide, fun g => absurd g (by decide), hX, fun g => absurd g.2 (by decide)⟩⟩
end
end
section
/-! a number that may be none of a feature -/
theorem v_c {v : Int32} {ft : Nat} (h : ft ≤ 200) : (¬ (0 ≤ v.toInt ∧ v.toInt < ((ft : Nat) : Int))) ∨ ∃ q, q < ft ∧ v = nI q := by
  by_cases e : 0 ≤ v.toInt ∧ v.toInt < ((ft : Nat) : Int)
  · refine Or.inr ⟨v.toInt.toNat, by omega, Int32.toInt_inj.mp ?_⟩
    rw [nI_toInt (by omega)]
    omega
  · exact Or.inl e
theorem nI_inj9 {a b : Nat} (ha : a ≤ 200) (hb : b ≤ 200) (h : nI a = nI b) : a = b := by
  have e := congrArg Int32.toInt h
  rw [nI_toInt (by omega), nI_toInt (by omega)] at e
  omega
theorem nI_bad {v : Int32} {ft q : Nat} (h200 : ft ≤ 200) (h : ¬ (0 ≤ v.toInt ∧ v.toInt < ((ft : Nat) : Int))) (hq : q < ft) (e : v = nI q) : False := by
  rw [e, nI_toInt (by omega)] at h
  omega
theorem eMt_self {n i : Nat} {X Y : Nat → Int32} : eMt n X Y i n X Y i := by
  unfold eMt mtC
  have c1 : ∀ a b c d : Int, cr a b c d a b = 0 := fun a b c d => by unfold cr; simp
  have c2 : ∀ a b c d : Int, cr a b c d c d = 0 := fun a b c d => by unfold cr; rw [Int.mul_comm (c - a)]; exact Int.sub_self _
  simp only [c1, c2]
  omega
end
section
/-! pairs of features as numbers -/
theorem zn_d200 {p : Nat} (h : p ≤ 100000) : nI p / 200 = nI (p / 200) := by
  refine Int32.toInt_inj.mp ?_
  have e : ((p : Nat) : Int) / 200 = ((p / 200 : Nat) : Int) := by omega
  rw [Int32.toInt_div, nI_toInt (by omega), nI_toInt (by omega), show (200 : Int32).toInt = 200 by decide, Int.tdiv_eq_ediv_of_nonneg (by omega), e]
  exact fb_bmod (by omega) (by omega)
theorem zn_r200 {p : Nat} (h : p ≤ 100000) : nI p - nI p / 200 * 200 = nI (p % 200) := by
  rw [zn_d200 h, show (200 : Int32) = nI 200 from rfl, pk_mul, pk_sub (by omega)]
  exact zn_eq (by omega)
def prC (z : Int32) : Prop := z = -1 ∨ ∃ p, (p ≤ 40200 ∧ p / 200 < p % 200) ∧ z = nI p
theorem prC_get {z : Int32} (h : prC z) (hz : ¬ z.toInt = -1) : ∃ p, (p ≤ 40200 ∧ p / 200 < p % 200) ∧ z = nI p := by
  rcases h with h | h
  · exact absurd (by rw [h]; decide) hz
  · exact h
/-! the greatest of all distances of what went -/
/-- a fraction is the greatest of a set of them, and of 0 -/
def XM (Q : Int → Int → Prop) (u d : Int) : Prop := 1 ≤ d ∧ 0 ≤ u ∧ (Q u d ∨ (u = 0 ∧ d = 1)) ∧ ∀ U D, Q U D → U * d ≤ u * D
/-- the distances of places from a row's first e parts -/
def fxQ (S : Int32 → Int32 → Prop) (n : Nat) (X Y : Nat → Int32) (e : Nat) (U D : Int) : Prop := ∃ x y, S x y ∧ 1 ≤ D ∧ IM (ofP (fun _ _ => False) n X Y x.toInt y.toInt e) U D
theorem XM_0 {S : Int32 → Int32 → Prop} {n : Nat} {X Y : Nat → Int32} {e : Nat} (h : ∀ x y, ¬ S x y) : XM (fxQ S n X Y e) 0 1 :=
  ⟨Int.le_refl _, Int.le_refl _, Or.inr ⟨rfl, rfl⟩, fun U D ⟨x, y, hs, _⟩ => absurd hs (h x y)⟩
theorem XM_cg {P Q : Int → Int → Prop} {u d : Int} (h : ∀ U D, P U D ↔ Q U D) (g : XM P u d) : XM Q u d :=
  ⟨g.1, g.2.1, g.2.2.1.imp (h u d).mp id, fun U D q => g.2.2.2 U D ((h U D).mpr q)⟩
theorem fxQ_cg {S S1 : Int32 → Int32 → Prop} {n : Nat} {X Y : Nat → Int32} {e : Nat} {u d : Int} (h : ∀ x y, S x y ↔ S1 x y) (g : XM (fxQ S n X Y e) u d) : XM (fxQ S1 n X Y e) u d :=
  XM_cg (fun U D => ⟨fun ⟨x, y, hs, r⟩ => ⟨x, y, (h x y).mp hs, r⟩, fun ⟨x, y, hs, r⟩ => ⟨x, y, (h x y).mpr hs, r⟩⟩) g
theorem ml_tr {a b c d e f : Int} (hb : 1 ≤ b) (h1 : a * d ≤ c * b) (h2 : c * f ≤ e * d) (hd : 1 ≤ d) (hf : 1 ≤ f) : a * f ≤ e * b := by
  have x1 : a * d * f ≤ c * b * f := Int.mul_le_mul_of_nonneg_right h1 (by omega)
  have x2 : c * f * b ≤ e * d * b := Int.mul_le_mul_of_nonneg_right h2 (by omega)
  have x3 : a * f * d ≤ e * b * d := by
    have e1 : a * f * d = a * d * f := by ac_rfl
    have e2 : c * b * f = c * f * b := by ac_rfl
    have e3 : e * d * b = e * b * d := by ac_rfl
    omega
  exact Int.le_of_mul_le_mul_right x3 (by omega)
/-- one place more -/
theorem XM_s {S : Int32 → Int32 → Prop} {n : Nat} {X Y : Nat → Int32} {e : Nat} {u d U D : Int} {x y : Int32} (h : XM (fxQ S n X Y e) u d) (hI : IM (ofP (fun _ _ => False) n X Y x.toInt y.toInt e) U D) (hD : 1 ≤ D) (hU : 0 ≤ U) :
    (u * D < U * d → XM (fxQ (fun a b => S a b ∨ (a = x ∧ b = y)) n X Y e) U D) ∧ (¬ u * D < U * d → XM (fxQ (fun a b => S a b ∨ (a = x ∧ b = y)) n X Y e) u d) := by
  obtain ⟨h1, h2, h3, h4⟩ := h
  refine ⟨fun g => ⟨hD, hU, Or.inl ⟨x, y, Or.inr ⟨rfl, rfl⟩, hD, hI⟩, fun A B q => ?_⟩, fun g => ⟨h1, h2, h3.imp (fun ⟨a, b, hs, r⟩ => ⟨a, b, Or.inl hs, r⟩) id, fun A B q => ?_⟩⟩
  · obtain ⟨a, b, hs, hB, hI2⟩ := q
    rcases hs with hs | ⟨ea, eb⟩
    · exact ml_tr hB (h4 A B ⟨a, b, hs, hB, hI2⟩) (Int.le_of_lt g) h1 hD
    · rw [ea, eb] at hI2
      exact Int.le_of_eq (IM_eq hI2 hI hB hD)
  · obtain ⟨a, b, hs, hB, hI2⟩ := q
    rcases hs with hs | ⟨ea, eb⟩
    · exact h4 A B ⟨a, b, hs, hB, hI2⟩
    · rw [ea, eb] at hI2
      exact ml_tr hB (Int.le_of_eq (IM_eq hI2 hI hB hD)) (by omega) hD h1
theorem XM_eq {Q : Int → Int → Prop} {u d U D : Int} (h : XM Q u d) (g : XM Q U D) : u * D = U * d := by
  obtain ⟨h1, h2, h3, h4⟩ := h
  obtain ⟨g1, g2, g3, g4⟩ := g
  refine Int.le_antisymm ?_ ?_
  · rcases h3 with h3 | ⟨e1, e2⟩
    · exact g4 u d h3
    · rw [e1, e2]; omega
  · rcases g3 with g3 | ⟨e1, e2⟩
    · exact h4 U D g3
    · rw [e1, e2]; omega
/-- the corners that went, the first i of them -/
def fS (LX LY : Nat → Int32) (i : Nat) (x y : Int32) : Prop := ∃ k, k < i ∧ LX k = x ∧ LY k = y
theorem fS_s {LX LY : Nat → Int32} {i : Nat} {x y : Int32} : (fS LX LY i x y ∨ (x = LX i ∧ y = LY i)) ↔ fS LX LY (i + 1) x y := by
  constructor
  · rintro (⟨k, h1, h2⟩ | ⟨h1, h2⟩)
    · exact ⟨k, by omega, h2⟩
    · exact ⟨i, by omega, h1.symm, h2.symm⟩
  · rintro ⟨k, h1, h2, h3⟩
    rcases Nat.lt_or_ge k i with q | q
    · exact Or.inl ⟨k, q, h2, h3⟩
    · rw [show k = i by omega] at h2 h3
      exact Or.inr ⟨h2.symm, h3.symm⟩
/-- the reference's: those of feature f, by steps that are done -/
def fT (la lb lc ld : Nat → Int32) (f dn i : Nat) (x y : Int32) : Prop := ∃ k, k < i ∧ la k = nI f ∧ (ld k).toInt ≤ ((dn : Nat) : Int) ∧ lb k = x ∧ lc k = y
theorem fT_y {la lb lc ld : Nat → Int32} {f dn i : Nat} {x y : Int32} (h1 : la i = nI f) (h2 : (ld i).toInt ≤ ((dn : Nat) : Int)) : (fT la lb lc ld f dn i x y ∨ (x = lb i ∧ y = lc i)) ↔ fT la lb lc ld f dn (i + 1) x y := by
  constructor
  · rintro (⟨k, g1, g2⟩ | ⟨g1, g2⟩)
    · exact ⟨k, by omega, g2⟩
    · exact ⟨i, by omega, h1, h2, g1.symm, g2.symm⟩
  · rintro ⟨k, g1, g2, g3, g4, g5⟩
    rcases Nat.lt_or_ge k i with q | q
    · exact Or.inl ⟨k, q, g2, g3, g4, g5⟩
    · rw [show k = i by omega] at g4 g5
      exact Or.inr ⟨g4.symm, g5.symm⟩
theorem fT_n {la lb lc ld : Nat → Int32} {f dn i : Nat} {x y : Int32} (h : ¬ (la i = nI f ∧ (ld i).toInt ≤ ((dn : Nat) : Int))) : fT la lb lc ld f dn i x y ↔ fT la lb lc ld f dn (i + 1) x y := by
  constructor
  · rintro ⟨k, g1, g2⟩
    exact ⟨k, by omega, g2⟩
  · rintro ⟨k, g1, g2, g3, g4⟩
    rcases Nat.lt_or_ge k i with q | q
    · exact ⟨k, q, g2, g3, g4⟩
    · rw [show k = i by omega] at g2 g3
      exact absurd ⟨g2, g3⟩ h
theorem ofP_cg9 {n e : Nat} {X Y A B : Nat → Int32} (h : ∀ j, j < n → X j = A j ∧ Y j = B j) (he : e ≤ n) {x y : Int} (U D : Int) : ofP (fun _ _ => False) n X Y x y e U D ↔ ofP (fun _ _ => False) n A B x y e U D := by
  have k1 : ∀ k, k < e → (X k = A k ∧ Y k = B k) ∧ (X (nxt n k) = A (nxt n k) ∧ Y (nxt n k) = B (nxt n k)) := fun k hk => ⟨h k (by omega), h _ (nxt_lt (by omega))⟩
  constructor
  · rintro (g | ⟨k, hk, g1, g2⟩)
    · exact g.elim
    · obtain ⟨⟨a1, a2⟩, a3, a4⟩ := k1 k hk
      exact Or.inr ⟨k, hk, by rw [← a1, ← a2, ← a3, ← a4]; exact g1, by rw [← a1, ← a2, ← a3, ← a4]; exact g2⟩
  · rintro (g | ⟨k, hk, g1, g2⟩)
    · exact g.elim
    · obtain ⟨⟨a1, a2⟩, a3, a4⟩ := k1 k hk
      exact Or.inr ⟨k, hk, by rw [a1, a2, a3, a4]; exact g1, by rw [a1, a2, a3, a4]; exact g2⟩
theorem XM_rw {S S1 : Int32 → Int32 → Prop} {n e e1 : Nat} {X Y A B : Nat → Int32} {u d : Int} (hS : ∀ x y, S x y ↔ S1 x y) (h : ∀ j, j < n → X j = A j ∧ Y j = B j) (he : e ≤ n) (e2 : e = e1) (g : XM (fxQ S n X Y e) u d) : XM (fxQ S1 n A B e1) u d := by
  subst e2
  exact XM_cg (fun U D => ⟨fun ⟨x, y, hs, h1, h2⟩ => ⟨x, y, (hS x y).mp hs, h1, IM_cg (ofP_cg9 h he) h2⟩, fun ⟨x, y, hs, h1, h2⟩ => ⟨x, y, (hS x y).mpr hs, h1, IM_cg (fun U D => (ofP_cg9 h he U D).symm) h2⟩⟩) g
theorem fS_g {LX LY : Nat → Int32} {w q : Nat} {g : Nat → Nat → Int32} (h : gE LX LY w g q) (hw : nN (g 5 q) = w) (x y : Int32) : fS LX LY w x y ↔ fS (fun i => g (i + 6) q) (fun i => g (i + 50) q) (nN (g 5 q)) x y := by
  rw [hw]
  constructor
  · rintro ⟨k, h1, h2, h3⟩
    exact ⟨k, h1, (h.2 k h1).1.symm.trans h2, (h.2 k h1).2.symm.trans h3⟩
  · rintro ⟨k, h1, h2, h3⟩
    exact ⟨k, h1, (h.2 k h1).1.trans h2, (h.2 k h1).2.trans h3⟩
end
section
/-! CHOOSE by the class: the roads in their order, the groups of their ends -/
theorem cntP_cg {P Q : Nat → Prop} : ∀ {n : Nat}, (∀ q, q < n → (P q ↔ Q q)) → cntP P n = cntP Q n := by
  intro n
  induction n with
  | zero => intro _; rfl
  | succ n ih =>
    intro h
    have e := ih (fun q hq => h q (by omega))
    by_cases p : P n
    · rw [cntP_y p, cntP_y ((h n (by omega)).mp p), e]
    · rw [cntP_n p, cntP_n (fun q => p ((h n (by omega)).mpr q)), e]
theorem cntP_ins {P : Nat → Prop} {a : Nat} : ∀ {n : Nat}, a < n → ¬ P a → cntP (fun q => P q ∨ q = a) n = cntP P n + 1 := by
  intro n
  induction n with
  | zero => intro h; exact absurd h (Nat.not_lt_zero _)
  | succ n ih =>
    intro ha hn
    by_cases e : a = n
    · have e2 : cntP (fun q => P q ∨ q = a) n = cntP P n := cntP_cg (fun q hq => ⟨fun h => h.resolve_right (by omega), Or.inl⟩)
      rw [cntP_y (P := fun q => P q ∨ q = a) (Or.inr e.symm), cntP_n (by rw [← e]; exact hn), e2]
    · have e2 := ih (by omega) hn
      by_cases p : P n
      · rw [cntP_y (P := fun q => P q ∨ q = a) (Or.inl p), cntP_y p, e2]
      · rw [cntP_n (P := fun q => P q ∨ q = a) (fun h => h.elim p (fun g => e g.symm)), cntP_n p, e2]
def rdG (rd : Nat → Nat) (M : Nat → Prop) (i q : Nat) : Prop := (∃ k, k < i ∧ rd k = q) ∧ M q
section
variable {rd : Nat → Nat} {M : Nat → Prop} {i n ft : Nat} {x : Int32} {a : Nat → Int32}
theorem rdG_s (h : M (rd i)) : ∀ q, rdG rd M (i + 1) q ↔ (rdG rd M i q ∨ q = rd i) := by
  intro q
  constructor
  · rintro ⟨⟨k, hk, e⟩, m⟩
    rcases Nat.lt_or_ge k i with g | g
    · exact Or.inl ⟨⟨k, g, e⟩, m⟩
    · exact Or.inr (by rw [← e, show k = i by omega])
  · rintro (⟨⟨k, hk, e⟩, m⟩ | e)
    · exact ⟨⟨k, by omega, e⟩, m⟩
    · exact ⟨⟨i, by omega, e.symm⟩, by rw [e]; exact h⟩
theorem rdG_n (h : ¬ M (rd i)) : rdG rd M i = rdG rd M (i + 1) := by
  funext q
  apply propext
  constructor
  · rintro ⟨⟨k, hk, e⟩, m⟩
    exact ⟨⟨k, by omega, e⟩, m⟩
  · rintro ⟨⟨k, hk, e⟩, m⟩
    rcases Nat.lt_or_ge k i with g | g
    · exact ⟨⟨k, g, e⟩, m⟩
    · exact absurd (by rw [show i = k by omega, e]; exact m) h
theorem rdG_f (hf : ∀ k, k < i → rd k ≠ rd i) : ¬ rdG rd M i (rd i) := fun ⟨⟨k, hk, e⟩, _⟩ => hf k hk e
theorem gnG_y (h : M (rd i)) (hi : rd i < ft) : upd (gnA (rdG rd M i) ft x a) (rd i) x = gnA (rdG rd M (i + 1)) ft x a := by
  funext q
  unfold upd gnA
  by_cases e : q = rd i
  · rw [if_pos e, if_pos ⟨by omega, (rdG_s h q).mpr (Or.inr e)⟩]
  · rw [if_neg e]
    by_cases p : q < ft ∧ rdG rd M i q
    · rw [if_pos p, if_pos ⟨p.1, (rdG_s h q).mpr (Or.inl p.2)⟩]
    · rw [if_neg p, if_neg (fun g => p ⟨g.1, ((rdG_s h q).mp g.2).resolve_right e⟩)]
theorem gnG_0 : gnA (rdG rd M 0) ft x a = a := by
  funext q
  unfold gnA
  rw [if_neg (fun h => by obtain ⟨_, ⟨k, hk, _⟩, _⟩ := h; omega)]
theorem gnG_o {q : Nat} (hf : ¬ rdG rd M i q) : gnA (rdG rd M i) ft x a q = a q := by
  unfold gnA
  rw [if_neg (fun h => hf h.2)]
theorem gnG_e (h : ∀ q, q < ft → M q → ∃ k, k < n ∧ rd k = q) : gnA (rdG rd M n) ft x a = gnA M ft x a := by
  funext q
  unfold gnA
  by_cases p : q < ft ∧ M q
  · rw [if_pos p, if_pos ⟨p.1, h q p.1 p.2, p.2⟩]
  · rw [if_neg p, if_neg (fun g => p ⟨g.1, g.2.2⟩)]
theorem cnG_0 : cntP (rdG rd M 0) ft = 0 := by
  have h : ∀ n, cntP (rdG rd M 0) n = 0 := by
    intro n
    induction n with
    | zero => rfl
    | succ n ih => rw [cntP_n (fun h => by obtain ⟨⟨k, hk, _⟩, _⟩ := h; omega), ih]
  exact h ft
theorem cnG_y (h : M (rd i)) (hi : rd i < ft) (hf : ∀ k, k < i → rd k ≠ rd i) : cntP (rdG rd M (i + 1)) ft = cntP (rdG rd M i) ft + 1 := by
  rw [← cntP_ins hi (rdG_f hf)]
  exact cntP_cg (fun q _ => rdG_s h q)
theorem cnG_e (h : ∀ q, q < ft → M q → ∃ k, k < n ∧ rd k = q) : cntP (rdG rd M n) ft = cntP M ft := cntP_cg (fun q hq => ⟨fun g => g.2, fun g => ⟨h q hq g, g⟩⟩)
end
/-- the roads among the first g, the lightest first -/
def rdS (R : Nat → Prop) (T : Nat → Nat) (g n : Nat) (rd : Nat → Nat) : Prop := (∀ k, k < n → R (rd k) ∧ rd k < g) ∧ (∀ q, q < g → R q → ∃ k, k < n ∧ rd k = q) ∧ (∀ j k, j < k → k < n → bef T (rd j) (rd k))
def insN (rd : Nat → Nat) (p g k : Nat) : Nat := if k < p then rd k else if k = p then g else rd (k - 1)
section
variable {R : Nat → Prop} {T : Nat → Nat} {g n p k i ft : Nat} {rd : Nat → Nat}
theorem insN_lt (h : k < p) : insN rd p g k = rd k := if_pos h
theorem insN_at : insN rd p g p = g := by unfold insN; rw [if_neg (by omega), if_pos rfl]
theorem insN_gt (h : p < k) : insN rd p g k = rd (k - 1) := by unfold insN; rw [if_neg (by omega), if_neg (by omega)]
theorem insN_c (rd : Nat → Nat) (p g k : Nat) : (k < p ∧ insN rd p g k = rd k) ∨ (k = p ∧ insN rd p g k = g) ∨ (p < k ∧ insN rd p g k = rd (k - 1)) := by
  rcases Nat.lt_trichotomy k p with h | h | h
  · exact Or.inl ⟨h, insN_lt h⟩
  · subst h; exact Or.inr (Or.inl ⟨rfl, insN_at⟩)
  · exact Or.inr (Or.inr ⟨h, insN_gt h⟩)
theorem rdS_0 : rdS R T 0 0 rd := ⟨fun k hk => absurd hk (Nat.not_lt_zero _), fun q hq => absurd hq (Nat.not_lt_zero _), fun j k _ hk => absurd hk (Nat.not_lt_zero _)⟩
theorem rdS_skip (h : rdS R T g n rd) (hR : ¬ R g) : rdS R T (g + 1) n rd :=
  ⟨fun k hk => ⟨(h.1 k hk).1, by have := (h.1 k hk).2; omega⟩, fun q hq r => h.2.1 q (by have : q ≠ g := fun e => hR (by rw [← e]; exact r); omega) r, h.2.2⟩
theorem rdS_ins (h : rdS R T g n rd) (hR : R g) (hp : p ≤ n) (h1 : ∀ k, k < p → T (rd k) ≤ T g) (h2 : ∀ k, p ≤ k → k < n → T g < T (rd k)) : rdS R T (g + 1) (n + 1) (insN rd p g) := by
  refine ⟨fun k hk => ?_, fun q hq r => ?_, fun j k hjk hk => ?_⟩
  · rcases insN_c rd p g k with ⟨a, e⟩ | ⟨a, e⟩ | ⟨a, e⟩
    · rw [e]; have := h.1 k (by omega); exact ⟨this.1, by omega⟩
    · rw [e]; exact ⟨hR, by omega⟩
    · rw [e]; have := h.1 (k - 1) (by omega); exact ⟨this.1, by omega⟩
  · by_cases e : q = g
    · exact ⟨p, by omega, by rw [insN_at, e]⟩
    · obtain ⟨k, hk, e2⟩ := h.2.1 q (by omega) r
      rcases Nat.lt_or_ge k p with a | a
      · exact ⟨k, by omega, by rw [insN_lt a, e2]⟩
      · exact ⟨k + 1, by omega, by rw [insN_gt (by omega), Nat.add_sub_cancel, e2]⟩
  · rcases insN_c rd p g j with ⟨a, e⟩ | ⟨a, e⟩ | ⟨a, e⟩
    · rcases insN_c rd p g k with ⟨b, e2⟩ | ⟨b, e2⟩ | ⟨b, e2⟩
      · rw [e, e2]; exact h.2.2 j k hjk (by omega)
      · rw [e, e2]; have b1 := h1 j a; have b2 := (h.1 j (by omega)).2; unfold bef; omega
      · rw [e, e2]; exact h.2.2 j (k - 1) (by omega) (by omega)
    · rcases insN_c rd p g k with ⟨b, e2⟩ | ⟨b, e2⟩ | ⟨b, e2⟩
      · omega
      · omega
      · rw [e, e2]; exact Or.inl (h2 (k - 1) (by omega) (by omega))
    · rcases insN_c rd p g k with ⟨b, e2⟩ | ⟨b, e2⟩ | ⟨b, e2⟩
      · omega
      · omega
      · rw [e, e2]; exact h.2.2 (j - 1) (k - 1) (by omega) (by omega)
theorem rdS_f (h : rdS R T ft n rd) (hi : i < n) : ∀ k, k < i → rd k ≠ rd i := fun k hk e => by
  have := h.2.2 k i hk hi
  rw [e] at this
  unfold bef at this
  omega
theorem rdS_D (h : rdS R T ft n rd) (hR : ∀ q, R q → q < ft) (hi : i < n) : ∀ q, (∃ k, k < i ∧ rd k = q) ↔ (R q ∧ bef T q (rd i)) := by
  intro q
  constructor
  · rintro ⟨k, hk, e⟩
    subst e
    exact ⟨(h.1 k (by omega)).1, h.2.2 k i hk hi⟩
  · rintro ⟨r, b⟩
    obtain ⟨k, hk, e⟩ := h.2.1 q (hR q r) r
    refine ⟨k, ?_, e⟩
    rcases Nat.lt_trichotomy k i with c | c | c
    · exact c
    · subst c; subst e; unfold bef at b; omega
    · have d := h.2.2 i k c hk
      subst e
      unfold bef at b d
      omega
theorem rdS_so (h : rdS R T ft n rd) : ∀ j k, j ≤ k → k < n → T (rd j) ≤ T (rd k) := by
  intro j k hjk hk
  rcases Nat.lt_or_ge j k with c | c
  · have d := h.2.2 j k c hk
    unfold bef at d
    omega
  · rw [show j = k by omega]; exact Nat.le_refl _
end
/-- each end's group is the first end that lies there -/
def grI (P : Nat → Int32 × Int32) (G : Nat → Int32) (m : Nat) : Prop := ∀ j, j < m → ∃ k, k ≤ j ∧ G j = nI k ∧ P k = P j ∧ ∀ i, i < k → ¬ P i = P j
theorem grI_chI {b e P : Nat → Int32 × Int32} {G : Nat → Int32} {m : Nat} (hm : m < 1000) (h : grI P G m) : chI (fun _ => False) b e P G m := by
  have eq : ∀ {p r : Int32 × Int32}, chE (fun _ => False) b e p r → p = r := fun a => a (fun p r => p = r) (fun _ => rfl) (fun _ h => h.elim) (fun _ _ g => g.symm) (fun _ _ _ g1 g2 => g1.trans g2)
  refine ⟨fun i hi j hj => ⟨fun g => ?_, fun g => ?_⟩, fun i hi => ?_, fun q h => h.elim⟩
  · obtain ⟨k, k1, k2, k3, k4⟩ := h i hi
    obtain ⟨l, l1, l2, l3, l4⟩ := h j hj
    rw [k2, l2] at g
    have e9 := nI_ij (by omega) (by omega) g
    subst e9
    rw [k3.symm.trans l3]
    exact .rf _
  · have e9 := eq g
    obtain ⟨k, k1, k2, k3, k4⟩ := h i hi
    obtain ⟨l, l1, l2, l3, l4⟩ := h j hj
    rw [k2, l2]
    rcases Nat.lt_trichotomy k l with q | q | q
    · exact absurd (k3.trans e9) (l4 k q)
    · rw [q]
    · exact absurd (l3.trans e9.symm) (k4 l q)
  · obtain ⟨k, k1, k2, _⟩ := h i hi
    exact ⟨k, by omega, k2⟩
theorem grI_s {EX EY G : Nat → Int32} {m k : Nat} {px py : Int32} (h : grI (fun i => (EX i, EY i)) G m) (hk : k ≤ m) (hp : (upd EX m px k).toInt = px.toInt ∧ (upd EY m py k).toInt = py.toInt) (hn : ∀ i, i < k → ¬ ((upd EX m px i).toInt = px.toInt ∧ (upd EY m py i).toInt = py.toInt)) : grI (fun i => (upd EX m px i, upd EY m py i)) (upd G m (nI k)) (m + 1) := by
  intro j hj
  have o : ∀ i, i < m → upd EX m px i = EX i ∧ upd EY m py i = EY i := fun i hi => ⟨if_neg (by omega), if_neg (by omega)⟩
  rcases Nat.lt_or_ge j m with g | g
  · obtain ⟨l, l1, l2, l3, l4⟩ := h j g
    refine ⟨l, l1, by rw [show upd G m (nI k) j = G j from if_neg (by omega)]; exact l2, ?_, fun i hi => ?_⟩
    · show (upd EX m px l, upd EY m py l) = (upd EX m px j, upd EY m py j)
      rw [(o l (by omega)).1, (o l (by omega)).2, (o j g).1, (o j g).2]; exact l3
    · show ¬ (upd EX m px i, upd EY m py i) = (upd EX m px j, upd EY m py j)
      rw [(o i (by omega)).1, (o i (by omega)).2, (o j g).1, (o j g).2]; exact l4 i hi
  · obtain rfl : j = m := by omega
    refine ⟨k, hk, up_at _ _ _, ?_, fun i hi q => hn i hi ?_⟩
    · show (upd EX j px k, upd EY j py k) = (upd EX j px j, upd EY j py j)
      rw [up_at, up_at]; exact ptE hp.1 hp.2
    · have q : (upd EX j px i, upd EY j py i) = (upd EX j px j, upd EY j py j) := q
      rw [up_at, up_at] at q
      rw [(Prod.mk.inj q).1, (Prod.mk.inj q).2]; exact ⟨rfl, rfl⟩
/-- one road more was looked at -/
theorem chO_s {b e P : Nat → Int32 × Int32} {gr gs : Nat → Int32} {pc i : Nat} {rd : Nat → Nat} (h : chI (fun q => ∃ k, k < i ∧ rd k = q) b e P gr pc) (hi : 2 * i + 1 < pc) (e0 : P (2 * i) = b (rd i)) (e1 : P (2 * i + 1) = e (rd i)) (hs : ∀ k, k < pc → gs k = if gr k = gr (2 * i + 1) then gr (2 * i) else gr k) : chI (fun q => ∃ k, k < i + 1 ∧ rd k = q) b e P gs pc := by
  refine chI_cg (chI_un h (by omega) hi e0 e1 hs) (fun q => ⟨?_, ?_⟩) (fun i hi => ⟨rfl, rfl⟩)
  · rintro ⟨k, hk, e9⟩
    rcases Nat.lt_or_ge k i with g | g
    · exact Or.inl ⟨k, g, e9⟩
    · exact Or.inr (by rw [← e9, show k = i by omega])
  · rintro (⟨k, hk, e9⟩ | e9)
    · exact ⟨k, by omega, e9⟩
    · exact ⟨i, by omega, e9.symm⟩
theorem chO_0 {b e P : Nat → Int32 × Int32} {gr : Nat → Int32} {pc : Nat} {rd : Nat → Nat} (h : chI (fun _ => False) b e P gr pc) : chI (fun q => ∃ k, k < 0 ∧ rd k = q) b e P gr pc :=
  chI_cg h (fun q => ⟨fun ⟨k, hk, _⟩ => absurd hk (Nat.not_lt_zero _), fun g => g.elim⟩) (fun i hi => ⟨rfl, rfl⟩)
theorem unG_n {g2 gb : Nat → Int32} {A B : Int32} {k : Nat} (h : ∀ j, j < k → g2 j = if gb j = B then A else gb j) (h2 : g2 k = gb k) (e : ¬ (g2 k).toInt = B.toInt) : ∀ j, j < k + 1 → g2 j = if gb j = B then A else gb j := by
  intro j hj
  rcases Nat.lt_or_ge j k with q | q
  · exact h j q
  · obtain rfl : j = k := by omega
    rw [if_neg (by rw [← h2]; exact fun g => e (by rw [g])), h2]
theorem vup_o {f : Nat → Option Nat} {k j : Nat} {v : Option Nat} (h : j ≠ k) : va_up f k v j = f j := by unfold va_up; rw [if_neg h]
/-- a feature's cell, whatever it holds -/
def feC (L : List Nat) (f : Nat → va_E) (a : Nat) : Prop := ∃ v1 v2 v3 v4 v5 v6 v7 v8 : Value, a ∈ L ∧ f a = .inr (1, [v1, v2, v3, v4, v5, v6, v7, v8])
theorem ins_s {RA RAk : Nat → Option Nat} {WT WTk : Nat → Int32} {wt : Nat → Nat} {n j w a : Nat} (h1 : ∀ k, k < j + 1 → RAk k = RA k ∧ WTk k = WT k) (h2 : ∀ k, j + 1 ≤ k → k < n → RAk (k + 1) = RA k ∧ WTk (k + 1) = WT k ∧ w < wt k) (ha : RAk j = some a) (hw : WTk j = nI (wt j)) (hl : w < wt j) :
    (∀ k, k < j → va_up RAk (j + 1) (some a) k = RA k ∧ upd WTk (j + 1) (nI (wt j)) k = WT k) ∧ ∀ k, j ≤ k → k < n → va_up RAk (j + 1) (some a) (k + 1) = RA k ∧ upd WTk (j + 1) (nI (wt j)) (k + 1) = WT k ∧ w < wt k := by
  refine ⟨fun k hk => ⟨(vup_o (by omega)).trans (h1 k (by omega)).1, (if_neg (by omega)).trans (h1 k (by omega)).2⟩, fun k hk hn => ?_⟩
  rcases Nat.lt_or_ge j k with g | g
  · have := h2 k (by omega) hn
    exact ⟨(vup_o (by omega)).trans this.1, (if_neg (by omega)).trans this.2.1, this.2.2⟩
  · obtain rfl : k = j := by omega
    exact ⟨up_atN.trans (ha.symm.trans (h1 k (by omega)).1), (up_at _ _ _).trans (hw.symm.trans (h1 k (by omega)).2), hl⟩
theorem ins_e {RA RAk : Nat → Option Nat} {WT WTk : Nat → Int32} {wt : Nat → Nat} {n p w q : Nat} (h1 : ∀ k, k < p → RAk k = RA k ∧ WTk k = WT k) (h2 : ∀ k, p ≤ k → k < n → RAk (k + 1) = RA k ∧ WTk (k + 1) = WT k ∧ w < wt k) (hl : ∀ k, k < p → wt k ≤ w) :
    (∀ k, k < p → va_up RAk p (some q) k = RA k ∧ upd WTk p (nI w) k = WT k ∧ wt k ≤ w) ∧ (va_up RAk p (some q) p = some q ∧ upd WTk p (nI w) p = nI w) ∧ ∀ k, p ≤ k → k < n → va_up RAk p (some q) (k + 1) = RA k ∧ upd WTk p (nI w) (k + 1) = WT k ∧ w < wt k := by
  refine ⟨fun k hk => ⟨(vup_o (by omega)).trans (h1 k hk).1, (if_neg (by omega)).trans (h1 k hk).2, hl k hk⟩, ⟨up_atN, up_at _ _ _⟩, fun k hk hn => ?_⟩
  have := h2 k hk hn
  exact ⟨(vup_o (by omega)).trans this.1, (if_neg (by omega)).trans this.2.1, this.2.2⟩
theorem chW_i {rk : Int32} {l : Nat} (h : 0 ≤ rk.toInt ∧ rk.toInt ≤ 9) : (rk + 1) * nI l = nI ((rk.toInt.toNat + 1) * l) := by
  have e : rk = nI rk.toInt.toNat := Int32.toInt_inj.mp (by rw [nI_toInt (by omega)]; omega)
  have e2 : rk + 1 = nI (rk.toInt.toNat + 1) := by
    conv => lhs; rw [e]
    exact nI_add _ 1
  rw [e2, pk_mul]
theorem upo9 {m : Nat → Int32} {k j : Nat} {x : Int32} (h : j ≠ k) : upd m k x j = m j := if_neg h
theorem chL_e {mn cx cy : Nat → Int32} {q : Nat} (h : 1 ≤ nN (mn q)) : (cF40 cx q (nN (mn q) - 1), cF40 cy q (nN (mn q) - 1)) = chL mn cx cy q := by
  show (cx (40 * q + (nN (mn q) - 1)), cy (40 * q + (nN (mn q) - 1))) = (cx (40 * q + nN (mn q) - 1), cy (40 * q + nN (mn q) - 1))
  rw [show 40 * q + (nN (mn q) - 1) = 40 * q + nN (mn q) - 1 by omega]
theorem feC_F {cI : ClassId} {L : List Nat} {f : Nat → va_E} {own fe nw cl : Nat → Nat} {fm : Nat → Value} {fN q : Nat} {rk wd tw pa pb : Nat → Int32} (h : FeA cI L f own fN fe nw cl fm rk wd tw pa pb) (hq : q < fN) : feC L f (fe q) := by
  obtain ⟨lo, lx, ly, ln, LX, LY, h1, _⟩ := h q hq
  exact ⟨_, _, _, _, _, _, _, _, ce_pl h1⟩
theorem unG_s {gr : Nat → Int32} {A B : Int32} (h : A.toInt = B.toInt) (k : Nat) : gr k = if gr k = B then A else gr k := by
  by_cases e : gr k = B
  · rw [if_pos e, e, Int32.toInt_inj.mp h]
  · rw [if_neg e]
end
section
set_option maxHeartbeats 4000000 in
set_option maxRecDepth 100000 in
theorem k_unite (l : Launch) (dC : Nat → ClassId) (dI : Nat → Nat → Nat) (cI cZ cF : ClassId) (sz : Nat) (cO : ClassId) (e0 : Nat) (mi : Nat) (x : Nat) (sh : Nat) (lw : Nat) (ro : Nat) (bq : Nat) (bp : Nat) (dq : Nat) (dp : Nat) (lv : Nat) (sl : Nat) (sd : Int32) (ul : Int32) (su : Int32) (ea : Nat) (mc9 : Int32) (fa : Nat) (FA : Nat → Option Nat) (bs : Nat) (dn : Nat) (T : Nat) (ft : Nat) (FT : Nat → Nat) (V : Nat → Nat → Nat → Int32) (VX : Nat → Nat → Int32) (VY : Nat → Nat → Int32) (tn : Nat → Int32) (rk : Nat → Int32) (wd : Nat → Int32) (tw : Nat → Int32) (pa : Nat → Int32) (pb : Nat → Int32) (wh : Nat → Int32) (of9 : Nat → Int32) (we : Nat → Int32) (kd : Nat → Int32) (st : Nat → Int32) (gb : Nat → Int32) (it : Nat → Int32) (mn : Nat → Int32) (cx : Nat → Int32) (cy : Nat → Int32) (T9 : List Nat) (f : Nat → va_E) (L : List Nat) (f0 : Nat) (g0 : Nat) (own : Nat → Nat) (fe : Nat → Nat) (cl : Nat → Nat) (la : Nat → Nat → Nat) (sp : Nat → Nat) (SA : Nat → Option Nat) (lo5 : Nat) (lx5 : Nat) (ly5 : Nat) (ln5 : Nat) (LX5 : Nat → Int32) (LY5 : Nat → Int32) (we5 : Nat) (r5 : Nat) (rx5 : Nat) (ry5 : Nat) (cap5 : Nat) (X5 : Nat → Int32) (Y5 : Nat → Int32) (lo6 : Nat) (lx6 : Nat) (ly6 : Nat) (ln6 : Nat) (LX6 : Nat → Int32) (LY6 : Nat → Int32) (we6 : Nat) (r6 : Nat) (rx6 : Nat) (ry6 : Nat) (cap6 : Nat) (X6 : Nat → Int32) (Y6 : Nat → Int32) (dr : Nat) (tg : Nat) (wy : Nat) (br : Nat) (bo : Nat) (aa : Nat) (dx : Nat) (dy : Nat) (cd : Nat) (P : Nat → Int32) (Q : Nat → Int32) (z1 : Int32) (z2 : Int32) (z3 : Int32) (z4 : Int32) (hG9 : shG cI cO L f e0 FA ea T own fe cl la (la dn) (fun _ => 0) sp (fun _ => .null) SA bs dn T ft (FT T) FT V VX VY tn rk wd tw pa pb wh of9 we kd st gb it mn cx cy) (hH9 : HiD dn ft V VX VY kd st gb it tn mn cx cy) (hft9 : ft = FT dn) (hO9 : loG cI L f own fe (la dn) (fun _ => 0) la bs dn T ft (FT T) FT V (V dn)) (hc5 : fcA cI L f own f0 (8 * f0 + 2) (8 * f0 + 3) (fe f0) (la dn f0) (cl f0) .null (rk f0) (wd f0) (tw f0) (pa f0) (pb f0) (kd f0) (st f0) (gb f0) (it f0) (nN (mn f0)) (cF40 cx f0) (cF40 cy f0) lo5 lx5 ly5 ln5 LX5 LY5 we5 r5 rx5 ry5 cap5 X5 Y5) (hc6 : fcA cI L f own g0 (8 * g0 + 2) (8 * g0 + 3) (fe g0) (la dn g0) (cl g0) .null (rk g0) (wd g0) (tw g0) (pa g0) (pb g0) (kd g0) (st g0) (gb g0) (it g0) (nN (mn g0)) (cF40 cx g0) (cF40 cy g0) lo6 lx6 ly6 ln6 LX6 LY6 we6 r6 rx6 ry6 cap6 X6 Y6) (hT_0 : outPl L [(oc1 (fe f0) (rk f0) (wd f0) (tw f0) (pa f0) (pb f0) (.ref lo5) (.ref (la dn f0)) .null), (oc4 (la dn f0) (kd f0) (st f0) (.ref r5) (gb f0) (it f0) (nI we5)), (oc6 r5 (.ref rx5) (.ref ry5) (nI (nN (mn f0))) (rgK (kd f0).toInt)), (oa rx5 cI cap5 X5), (oa ry5 cI cap5 Y5), (oc6 lo5 (.ref lx5) (.ref ly5) (nI ln5) 0), (oa lx5 cI (cl f0) LX5), (oa ly5 cI (cl f0) LY5), (oc1 (fe g0) (rk g0) (wd g0) (tw g0) (pa g0) (pb g0) (.ref lo6) (.ref (la dn g0)) .null), (oc4 (la dn g0) (kd g0) (st g0) (.ref r6) (gb g0) (it g0) (nI we6)), (oc6 r6 (.ref rx6) (.ref ry6) (nI (nN (mn g0))) (rgK (kd g0).toInt)), (oa rx6 cI cap6 X6), (oa ry6 cI cap6 Y6), (oc6 lo6 (.ref lx6) (.ref ly6) (nI ln6) 0), (oa lx6 cI (cl g0) LX6), (oa ly6 cI (cl g0) LY6)] = T9) (hf0 : f0 < ft) (htn : (tn f0).toInt = 0) (hst : (st f0).toInt = 1) (hg0 : g0 < ft) (htg : (tn g0).toInt = 0) (hsg : (st g0).toInt = 1) (hgf : g0 ≠ f0) (hlt : ft < 200) (hd5 : dn + 1 ≤ 512) (hcd : 4 ≤ cd ∧ cd ≤ 1000) (hp0 : P 0 = z1 ∧ P 1 = z3 ∧ P 2 = z3 ∧ P 3 = z1) (hq0 : Q 0 = z2 ∧ Q 1 = z2 ∧ Q 2 = z4 ∧ Q 3 = z4) : zML l yX10_unite cX10_unite 7 (some .int) ({ frames := 8, cells := ft + 13, slots := 4 * ft + 860, locals := 182 } : Room) [.ref x, .ref (fe f0), .ref (fe g0), .int (nI f0), .int (nI g0)] (dC, dI) (zTyO cI cZ cF cO) e0 mi ([(oc8 x (.ref sh) (.ref lw) (.ref ro) (.ref bq) (.ref bp) (.ref dq) (.ref dp) (.ref lv) (.ref sl) (nI dn) sd ul su), (oc10 sl mc9 (.ref ea) (nI T)), (oc3 lw (.ref dr) (.ref tg) (.ref wy) (.ref br) (.ref bo) (.ref aa)), (oc6 dr (.ref dx) (.ref dy) (nI 4) 1), (oa dx cI cd P), (oa dy cI cd Q), (oc1 (fe f0) (rk f0) (wd f0) (tw f0) (pa f0) (pb f0) (.ref lo5) (.ref (la dn f0)) .null), (oc4 (la dn f0) (kd f0) (st f0) (.ref r5) (gb f0) (it f0) (nI we5)), (oc6 r5 (.ref rx5) (.ref ry5) (nI (nN (mn f0))) (rgK (kd f0).toInt)), (oa rx5 cI cap5 X5), (oa ry5 cI cap5 Y5), (oc6 lo5 (.ref lx5) (.ref ly5) (nI ln5) 0), (oa lx5 cI (cl f0) LX5), (oa ly5 cI (cl f0) LY5), (oc1 (fe g0) (rk g0) (wd g0) (tw g0) (pa g0) (pb g0) (.ref lo6) (.ref (la dn g0)) .null), (oc4 (la dn g0) (kd g0) (st g0) (.ref r6) (gb g0) (it g0) (nI we6)), (oc6 r6 (.ref rx6) (.ref ry6) (nI (nN (mn g0))) (rgK (kd g0).toInt)), (oa rx6 cI cap6 X6), (oa ry6 cI cap6 Y6), (oc6 lo6 (.ref lx6) (.ref ly6) (nI ln6) 0), (oa lx6 cI (cl g0) LX6), (oa ly6 cI (cl g0) LY6), (oc7 sh (.ref fa) (nI ft)), (oq fa cF 200 FA)] ++ va_pl T9 f) sz (some (.int (nI ft))) (fun A t => ∃ (mc1 : Int32), ∃ (L1 : List Nat), ∃ (f1 : Nat → va_E), ∃ (ea1 : Nat), ∃ (fe7 : Nat), (shB cI cO L1 f1 e0 (va_up FA ft (some fe7)) ea1 bs (dn + 1) (dn + 1) (ft + 1) (upN FT (dn + 1) (ft + 1)) (upN V (dn + 1) (vC (gZ (V dn) ft) (upd kd ft 6) (upd (upd (upd st f0 2) g0 2) ft 1) (upd (upd (upd gb f0 (nI (dn + 1))) g0 (nI (dn + 1))) ft 0) (upd (upd (upd it f0 (nI ft)) g0 (nI ft)) ft (-1)) (upd mn ft 4))) (upN VX (dn + 1) (bxX ft z1 z3 4 cx)) (upN VY (dn + 1) (bxY ft z2 z4 4 cy)) (upd tn ft 0) (upd rk ft (rk f0)) (upd wd ft (wd f0)) (upd tw ft (tw f0)) (upd pa ft (nI f0)) (upd pb ft (nI g0)) (upd wh (dn + 1) (6 : Int32)) (upd of9 (dn + 1) (nI f0)) (upd we (dn + 1) (2 : Int32)) (upd kd ft 6) (upd (upd (upd st f0 2) g0 2) ft 1) (upd (upd (upd gb f0 (nI (dn + 1))) g0 (nI (dn + 1))) ft 0) (upd (upd (upd it f0 (nI ft)) g0 (nI ft)) ft (-1)) (upd mn ft 4) (bxX ft z1 z3 4 cx) (bxY ft z2 z4 4 cy)) ∧ zPD (dC, dI) classes A ([(oc8 x (.ref sh) (.ref lw) (.ref ro) (.ref bq) (.ref bp) (.ref dq) (.ref dp) (.ref lv) (.ref sl) (nI (dn + 1)) sd ul 0), (oc10 sl mc1 (.ref ea1) (nI (dn + 1))), (oc3 lw (.ref dr) (.ref tg) (.ref wy) (.ref br) (.ref bo) (.ref aa)), (oc6 dr (.ref dx) (.ref dy) (nI 4) 1), (oa dx cI cd P), (oa dy cI cd Q), (oc7 sh (.ref fa) (nI (ft + 1))), (oq fa cF 200 (va_up FA ft (some fe7)))] ++ va_pl L1 f1) t.heap) (ft + 13) (4 * ft + 860) := by
  refine zInL (own := "ScaleShop") (loc := [(0, .ref x), (1, .ref (fe f0)), (2, .ref (fe g0)), (3, .int (nI f0)), (4, .int (nI g0))]) rfl rfl rfl rfl (fun p e s m below meth c hx hb hr hts hown hlocks hml hnm9 A hA hS hP hD hK hXL hXN hK3 Q9 hQ9 ls hl => ?_)
  obtain ⟨hG, hM, hdT, hT5, hO⟩ := M_0 hG9 hH9 hft9 hO9
  have h200 : ft ≤ 200 := hG.2.2.2.2.2.1.2.2.2.2.2
  have hFA9 := hG.2.2.2.2.2.2
  refine va_new (ci := 1) (fs := [.int 0, .int 0, .int 0, .int 0, .int 0, .null, .null, .null]) (C := RX2) (T := TX2) (N := 8) hx hb hts inX2 tyX2 tyX2_ok hown (hts _ mw_364) (hts _ mw_365) (hts _ mw_111) hK hP hD hS hA rfl dfX2 (show 1 ≤ ft + 13 by omega) (show 8 ≤ 4 * ft + 860 by omega) dX10_unite_0 (fun fe7 H hP hD hS => ?_)
  have hP := va_P.swap hP
  have hD := va_D.swap hD
  obtain ⟨hP, hD⟩ := zre (W2 := ([_, _, _, _, _, _, _, _, _, _, _, _, _, _, _, _, _, _, _, _, _, _, _, _, (oc1 fe7 0 0 0 0 0 .null .null .null)] ++ va_pl T9 f)) hP hD rfl
  refine lv_dup hx hb dX10_unite_3 rfl ?_
  refine lv_bipush (v := 6) hx hb dX10_unite_4 rfl ?_
  refine lv_aload_n hx hb dX10_unite_6 rfl (lv_at hl 1 rfl) ?_
  refine va_get (D := (dC, dI)) (ci := 1) (v := .int (rk f0)) (C := RX2) (T := TX2) (N := 8) hx hb hts inX2 hown hK hP 6 rfl rfl 0 (Nat.le_of_ble_eq_true rfl) (hts _ mw_417) (fun _ h9 => h9) rfl dX10_unite_7 ?_
  refine lv_aload_n hx hb dX10_unite_10 rfl (lv_at hl 1 rfl) ?_
  refine va_get (D := (dC, dI)) (ci := 1) (v := .int (wd f0)) (C := RX2) (T := TX2) (N := 8) hx hb hts inX2 hown hK hP 6 rfl rfl 1 (Nat.le_of_ble_eq_true rfl) (hts _ mw_419) (fun _ h9 => h9) rfl dX10_unite_11 ?_
  refine lv_aload_n hx hb dX10_unite_14 rfl (lv_at hl 1 rfl) ?_
  refine va_get (D := (dC, dI)) (ci := 1) (v := .int (tw f0)) (C := RX2) (T := TX2) (N := 8) hx hb hts inX2 hown hK hP 6 rfl rfl 2 (Nat.le_of_ble_eq_true rfl) (hts _ mw_421) (fun _ h9 => h9) rfl dX10_unite_15 ?_
  obtain ⟨hPc, hDc, hFc⟩ := zo_sub (wc := [_]) hP hD hS hA [24] rfl rfl
  refine zcall (st1 := [.ref fe7]) (va_runI (As := [.int 6, .int (rk f0), .int (wd f0), .int (tw f0)]) (rest := [.ref fe7]) ⟨hx, hb, hml, hown, hts⟩ (k_Feature_init l dC dI cI cZ cF H.size fe7 1 6 (rk f0) (wd f0) (tw f0) (Or.inr ⟨by decide, rfl⟩)) (cwI 4 hts (zz_gC mc_yX2_init) rfl rfl rfl (hts _ mw_111) (hts _ mw_366) (hts _ mw_367) rfl (by decide +kernel) ⟨Nat.le_of_ble_eq_true rfl, Nat.le_of_ble_eq_true rfl⟩) (zPS2 hPc hDc hK3 hXN) rfl rfl hl.1 rfl (lv_room (Nat.le_of_ble_eq_true rfl)) dX10_unite_18 ⟨show (1 + 4) ≤ ft + 13 by omega, show (8 + (2 * 1 + 10)) ≤ 4 * ft + 860 by omega⟩) hS hFc hFc rfl (fun t H locs ht hB hk1 hS => ?_)
  obtain ⟨lo7, lx7, ly7, lk7, hP1, hD1⟩ := hB
  rw [ht] at hP1
  obtain ⟨hP, hD⟩ := znQ (W2 := [_, _, _, _, _, _, _, _, _, _, _, _, _, _, _, _, _, _, _, _, _, _, _, _, (oc1 fe7 (rk f0) (wd f0) (tw f0) (-1) (-1) (.ref lo7) (.ref lk7) .null), (oc6 lo7 (.ref lx7) (.ref ly7) (nI 0) 0), (oa lx7 cI 1 (fun _ => 0)), (oa ly7 cI 1 (fun _ => 0)), (oc4 lk7 6 0 .null 0 (-1) 0)]) hP hD hk1 hFc hP1 hD1 [24] zl_85 zl_86 [24, 25, 26, 27, 28] (by decide +kernel) rfl rfl rfl rfl rfl
  clear hk1 hPc hDc hFc hP1 hD1 ht
  refine lv_astore (lv' := [(5, .ref fe7), (0, .ref x), (1, .ref (fe f0)), (2, .ref (fe g0)), (3, .int (nI f0)), (4, .int (nI g0))]) hx hb dX10_unite_21 hl (Nat.le_of_ble_eq_true rfl) rfl (fun ls hl => ?_)
  refine lv_aload hx hb dX10_unite_23 (lv_at hl 0 rfl) ?_
  refine va_get (D := (dC, dI)) (ci := 1) (v := .ref lk7) (C := RX2) (T := TX2) (N := 8) hx hb hts inX2 hown hK hP 24 rfl rfl 6 (Nat.le_of_ble_eq_true rfl) (hts _ mw_433) (fun _ h9 => h9) rfl dX10_unite_25 ?_
  refine lv_aload_n hx hb dX10_unite_28 rfl (lv_at hl 1 rfl) ?_
  refine va_get (D := (dC, dI)) (ci := 8) (v := .ref lw) (C := RX10) (T := TX10) (N := 13) hx hb hts inX10 hown hK hP 0 rfl rfl 1 (Nat.le_of_ble_eq_true rfl) (hts _ mw_310) (fun _ h9 => h9) rfl dX10_unite_29 ?_
  refine va_get (D := (dC, dI)) (ci := 3) (v := .ref dr) (C := RX4) (T := TX4) (N := 6) hx hb hts inX4 hown hK hP 2 rfl rfl 0 (Nat.le_of_ble_eq_true rfl) (hts _ mw_220) (fun _ h9 => h9) rfl dX10_unite_32 ?_
  obtain ⟨hPc, hDc, hFc⟩ := zo_sub (wc := [_, _, _]) hP hD hS hA [3, 4, 5] rfl rfl
  refine zcalle (va_runV (As := []) (rest := [.ref lk7]) ⟨hx, hb, hml, hown, hts⟩ (k_Row_copy l dC dI cI cZ cF H.size dr dx dy 4 cd P Q 1 (by first | with_reducible assumption | omega) (by first | with_reducible assumption | omega) (Or.inr rfl)) (csV_126 hts rfl rfl ⟨Nat.le_of_ble_eq_true rfl, Nat.le_of_ble_eq_true rfl⟩) (zPV2 (q0 := 0) (ci := 6) hPc hDc hK3 hXN rfl rfl) rfl rfl hl.1 rfl (lv_room (Nat.le_of_ble_eq_true rfl)) dX10_unite_35 ⟨show ((1 + 4) + 3) ≤ ft + 13 by omega, show ((8 + (2 * 1 + 10)) + (2 * 4 + 4)) ≤ 4 * ft + 860 by omega⟩) hS hFc hFc (fun v9 t H locs ht hB hk1 hS => ?_)
  obtain ⟨r7, rx7, ry7, X7, Y7, rfl, hall7, hP1, hD1⟩ := hB
  refine W.eq (g2 := F0 m 38 ls [.ref r7, .ref lk7]) rfl ?_
  rw [ht] at hP1
  obtain ⟨hP, hD⟩ := znQ (W2 := [_, _, _, _, _, _, _, _, _, _, _, _, _, _, _, _, _, _, _, _, _, _, _, _, _, _, (oc6 dr (.ref dx) (.ref dy) (nI 4) 1), (oa dx cI cd P), (oa dy cI cd Q), (oc6 r7 (.ref rx7) (.ref ry7) (nI 4) 1), (oa rx7 cI 4 X7), (oa ry7 cI 4 Y7)]) hP hD hk1 hFc hP1 hD1 [3, 4, 5] zl_87 zl_88 [26, 27, 28, 29, 30, 31] (by decide +kernel) rfl rfl rfl rfl rfl
  clear hk1 hPc hDc hFc hP1 hD1 ht
  refine va_put (D := (dC, dI)) (ci := 4) (v := .ref r7) (ty := .object "ScaleShop$Row") (C := RX5) (T := TX5) (N := 6) hx hb hts inX5 tyX5 tyX5_ok nmX5 hown hK hP hD hS 25 rfl rfl 2 (by decide) (hts _ mw_391) (fun _ h9 => h9) rfl (by decide +kernel) rfl rfl (Nat.le_of_ble_eq_true rfl) dX10_unite_38 (fun H locs hP hD hS => ?_)
  obtain ⟨hP, hD⟩ := zre (W2 := ([_, _, _, _, _, _, _, _, _, _, _, _, _, _, _, _, _, _, _, _, _, _, _, _, _, (oc4 lk7 6 0 (.ref r7) 0 (-1) 0), _, _, _, _, _, _] ++ va_pl T9 f)) hP hD rfl
  refine lv_aload hx hb dX10_unite_41 (lv_at hl 0 rfl) ?_
  refine va_get (D := (dC, dI)) (ci := 1) (v := .ref lk7) (C := RX2) (T := TX2) (N := 8) hx hb hts inX2 hown hK hP 21 rfl rfl 6 (Nat.le_of_ble_eq_true rfl) (hts _ mw_433) (fun _ h9 => h9) rfl dX10_unite_43 ?_
  refine lv_iconst (v := 1) hx hb dX10_unite_46 rfl ?_
  refine va_put (D := (dC, dI)) (ci := 4) (v := .int 1) (ty := .int) (C := RX5) (T := TX5) (N := 6) hx hb hts inX5 tyX5 tyX5_ok nmX5 hown hK hP hD hS 25 rfl rfl 1 (by decide) (hts _ mw_385) (fun _ h9 => h9) rfl (by decide +kernel) rfl rfl (Nat.le_of_ble_eq_true rfl) dX10_unite_47 (fun H locs hP hD hS => ?_)
  obtain ⟨hP, hD⟩ := zre (W2 := ([_, _, _, _, _, _, _, _, _, _, _, _, _, _, _, _, _, _, _, _, _, _, _, _, _, (oc4 lk7 6 1 (.ref r7) 0 (-1) 0), _, _, _, _, _, _] ++ va_pl T9 f)) hP hD rfl
  refine lv_aload hx hb dX10_unite_50 (lv_at hl 0 rfl) ?_
  refine lv_iload_n hx hb dX10_unite_52 rfl (lv_at hl 4 rfl) ?_
  refine va_put (D := (dC, dI)) (ci := 1) (v := .int (nI f0)) (ty := .int) (C := RX2) (T := TX2) (N := 8) hx hb hts inX2 tyX2 tyX2_ok nmX2 hown hK hP hD hS 21 rfl rfl 3 (by decide) (hts _ mw_423) (fun _ h9 => h9) rfl (by decide +kernel) rfl rfl (Nat.le_of_ble_eq_true rfl) dX10_unite_53 (fun H locs hP hD hS => ?_)
  obtain ⟨hP, hD⟩ := zre (W2 := ([_, _, _, _, _, _, _, _, _, _, _, _, _, _, _, _, _, _, _, _, _, (oc1 fe7 (rk f0) (wd f0) (tw f0) (nI f0) (-1) (.ref lo7) (.ref lk7) .null), _, _, _, _, _, _, _, _, _, _] ++ va_pl T9 f)) hP hD rfl
  refine lv_aload hx hb dX10_unite_56 (lv_at hl 0 rfl) ?_
  refine lv_iload hx hb dX10_unite_58 (lv_at hl 5 rfl) ?_
  refine va_put (D := (dC, dI)) (ci := 1) (v := .int (nI g0)) (ty := .int) (C := RX2) (T := TX2) (N := 8) hx hb hts inX2 tyX2 tyX2_ok nmX2 hown hK hP hD hS 21 rfl rfl 4 (by decide) (hts _ mw_425) (fun _ h9 => h9) rfl (by decide +kernel) rfl rfl (Nat.le_of_ble_eq_true rfl) dX10_unite_60 (fun H locs hP hD hS => ?_)
  obtain ⟨hP, hD⟩ := zre (W2 := ([_, _, _, _, _, _, _, _, _, _, _, _, _, _, _, _, _, _, _, _, _, (oc1 fe7 (rk f0) (wd f0) (tw f0) (nI f0) (nI g0) (.ref lo7) (.ref lk7) .null), _, _, _, _, _, _, _, _, _, _] ++ va_pl T9 f)) hP hD rfl
  refine lv_aload_n hx hb dX10_unite_63 rfl (lv_at hl 2 rfl) ?_
  refine lv_aload_n hx hb dX10_unite_64 rfl (lv_at hl 1 rfl) ?_
  refine va_get (D := (dC, dI)) (ci := 8) (v := .int (nI dn)) (C := RX10) (T := TX10) (N := 13) hx hb hts inX10 hown hK hP 0 rfl rfl 9 (Nat.le_of_ble_eq_true rfl) (hts _ mw_318) (fun _ h9 => h9) rfl dX10_unite_65 ?_
  refine lv_iconst (v := 1) hx hb dX10_unite_68 rfl ?_
  refine lv_iadd hx hb dX10_unite_69 ?_
  refine zz_i (v := nI (dn + 1)) (nI_add dn 1) ?_
  obtain ⟨hPc, hDc, hFc⟩ := zo_sub (wc := [_, _]) hP hD hS hA [3, 4] rfl rfl
  refine zcall (st1 := []) (va_runV (As := [.int (nI (dn + 1))]) (rest := []) ⟨hx, hb, hml, hown, hts⟩ (k_Feature_leave_r l dC dI cI cZ cF H.size (fe f0) lo5 (rk f0) (wd f0) (tw f0) (pa f0) (pb f0) (la dn f0) (kd f0) (st f0) (gb f0) (it f0) (nI we5) r5 (nI (dn + 1)) ) (csV_100 hts rfl rfl ⟨Nat.le_of_ble_eq_true rfl, Nat.le_of_ble_eq_true rfl⟩) (zPV2 (q0 := 0) (ci := 1) hPc hDc hK3 hXN rfl rfl) rfl rfl hl.1 rfl (lv_room (Nat.le_of_ble_eq_true rfl)) dX10_unite_70 ⟨show (((1 + 4) + 3) + 1) ≤ ft + 13 by omega, show (((8 + (2 * 1 + 10)) + (2 * 4 + 4)) + 6) ≤ 4 * ft + 860 by omega⟩) hS hFc hFc rfl (fun t H locs ht hB hk1 hS => ?_)
  obtain ⟨q7, hP1, hD1⟩ := hB
  rw [ht] at hP1
  obtain ⟨hP, hD⟩ := znQ (W2 := (_ :: _ :: _ :: _ :: _ :: _ :: _ :: _ :: _ :: _ :: _ :: _ :: _ :: _ :: _ :: _ :: _ :: _ :: _ :: _ :: _ :: _ :: _ :: _ :: _ :: _ :: _ :: _ :: _ :: _ :: (oc1 (fe f0) (rk f0) (wd f0) (tw f0) (pa f0) (pb f0) (.ref lo5) (.ref q7) (.ref (la dn f0))) :: (oc4 (la dn f0) (kd f0) (st f0) (.ref r5) (gb f0) (it f0) (nI we5)) :: (oc4 q7 (kd f0) 2 (.ref r5) (nI (dn + 1)) (it f0) (nI we5)) :: [])) hP hD hk1 hFc hP1 hD1 [3, 4] zl_89 zl_90 [30, 31, 32] (by decide +kernel) rfl rfl rfl rfl rfl
  clear hk1 hPc hDc hFc hP1 hD1 ht
  refine lv_aload_n hx hb dX10_unite_73 rfl (lv_at hl 3 rfl) ?_
  refine lv_aload_n hx hb dX10_unite_74 rfl (lv_at hl 1 rfl) ?_
  refine va_get (D := (dC, dI)) (ci := 8) (v := .int (nI dn)) (C := RX10) (T := TX10) (N := 13) hx hb hts inX10 hown hK hP 0 rfl rfl 9 (Nat.le_of_ble_eq_true rfl) (hts _ mw_318) (fun _ h9 => h9) rfl dX10_unite_75 ?_
  refine lv_iconst (v := 1) hx hb dX10_unite_78 rfl ?_
  refine lv_iadd hx hb dX10_unite_79 ?_
  refine zz_i (v := nI (dn + 1)) (nI_add dn 1) ?_
  obtain ⟨hPc, hDc, hFc⟩ := zo_sub (wc := [_, _]) hP hD hS hA [9, 10] rfl rfl
  refine zcall (st1 := []) (va_runV (As := [.int (nI (dn + 1))]) (rest := []) ⟨hx, hb, hml, hown, hts⟩ (k_Feature_leave_r l dC dI cI cZ cF H.size (fe g0) lo6 (rk g0) (wd g0) (tw g0) (pa g0) (pb g0) (la dn g0) (kd g0) (st g0) (gb g0) (it g0) (nI we6) r6 (nI (dn + 1)) ) (csV_100 hts rfl rfl ⟨Nat.le_of_ble_eq_true rfl, Nat.le_of_ble_eq_true rfl⟩) (zPV2 (q0 := 0) (ci := 1) hPc hDc hK3 hXN rfl rfl) rfl rfl hl.1 rfl (lv_room (Nat.le_of_ble_eq_true rfl)) dX10_unite_80 ⟨show ((((1 + 4) + 3) + 1) + 1) ≤ ft + 13 by omega, show ((((8 + (2 * 1 + 10)) + (2 * 4 + 4)) + 6) + 6) ≤ 4 * ft + 860 by omega⟩) hS hFc hFc rfl (fun t H locs ht hB hk1 hS => ?_)
  obtain ⟨q8, hP1, hD1⟩ := hB
  rw [ht] at hP1
  obtain ⟨hP, hD⟩ := znQ (W2 := (_ :: _ :: _ :: _ :: _ :: _ :: _ :: _ :: _ :: _ :: _ :: _ :: _ :: _ :: _ :: _ :: _ :: _ :: _ :: _ :: _ :: _ :: _ :: _ :: _ :: _ :: _ :: _ :: _ :: _ :: _ :: (oc1 (fe g0) (rk g0) (wd g0) (tw g0) (pa g0) (pb g0) (.ref lo6) (.ref q8) (.ref (la dn g0))) :: (oc4 (la dn g0) (kd g0) (st g0) (.ref r6) (gb g0) (it g0) (nI we6)) :: (oc4 q8 (kd g0) 2 (.ref r6) (nI (dn + 1)) (it g0) (nI we6)) :: [])) hP hD hk1 hFc hP1 hD1 [9, 10] zl_91 zl_92 [31, 32, 33] (by decide +kernel) rfl rfl rfl rfl rfl
  clear hk1 hPc hDc hFc hP1 hD1 ht
  refine lv_aload_n hx hb dX10_unite_83 rfl (lv_at hl 1 rfl) ?_
  refine va_get (D := (dC, dI)) (ci := 8) (v := .ref sh) (C := RX10) (T := TX10) (N := 13) hx hb hts inX10 hown hK hP 0 rfl rfl 0 (Nat.le_of_ble_eq_true rfl) (hts _ mw_309) (fun _ h9 => h9) rfl dX10_unite_84 ?_
  refine lv_aload hx hb dX10_unite_87 (lv_at hl 0 rfl) ?_
  obtain ⟨hPc, hDc, hFc⟩ := zo_sub (wc := [_, _, _]) hP hD hS hA [15, 16, 17] rfl rfl
  refine zcall (st1 := [.int (nI ft)]) (va_runV (As := [.ref fe7]) (rest := []) ⟨hx, hb, hml, hown, hts⟩ (k_Sheet_add l dC dI cI cZ cF H.size sh fa ft FA fe7 lo7 (rk f0) (wd f0) (tw f0) (nI f0) (nI g0) lk7 (by first | with_reducible assumption | omega)) (csV_106 hts rfl rfl ⟨Nat.le_of_ble_eq_true rfl, Nat.le_of_ble_eq_true rfl⟩) (zPV2 (q0 := 0) (ci := 7) hPc hDc hK3 hXN rfl rfl) rfl rfl hl.1 rfl (lv_room (Nat.le_of_ble_eq_true rfl)) dX10_unite_89 ⟨show ((((1 + 4) + 3) + 1) + 1) ≤ ft + 13 by omega, show ((((8 + (2 * 1 + 10)) + (2 * 4 + 4)) + 6) + 6) ≤ 4 * ft + 860 by omega⟩) hS hFc hFc rfl (fun t H locs ht hB hk1 hS => ?_)
  obtain ⟨hP1, hD1⟩ := hB
  rw [ht] at hP1
  obtain ⟨hP, hD⟩ := znQ (W2 := (_ :: _ :: _ :: _ :: _ :: _ :: _ :: _ :: _ :: _ :: _ :: _ :: _ :: _ :: _ :: (oc7 sh (.ref fa) (nI (ft + 1))) :: (oq fa cF 200 (va_up FA ft (some fe7))) :: _ :: _ :: _ :: _ :: _ :: _ :: _ :: _ :: _ :: _ :: _ :: _ :: _ :: _ :: _ :: _ :: _ :: [])) hP hD hk1 hFc hP1 hD1 [15, 16, 17] zl_93 zl_93 [15, 16, 17] (by decide +kernel) rfl rfl rfl rfl rfl
  clear hk1 hPc hDc hFc hP1 hD1 ht
  refine lv_istore (lv' := [(6, .int (nI ft)), (5, .ref fe7), (0, .ref x), (1, .ref (fe f0)), (2, .ref (fe g0)), (3, .int (nI f0)), (4, .int (nI g0))]) hx hb dX10_unite_92 hl (Nat.le_of_ble_eq_true rfl) rfl (fun ls hl => ?_)
  refine lv_aload_n hx hb dX10_unite_94 rfl (lv_at hl 3 rfl) ?_
  refine va_get (D := (dC, dI)) (ci := 1) (v := .ref q7) (C := RX2) (T := TX2) (N := 8) hx hb hts inX2 hown hK hP 28 rfl rfl 6 (Nat.le_of_ble_eq_true rfl) (hts _ mw_433) (fun _ h9 => h9) rfl dX10_unite_95 ?_
  refine lv_iload hx hb dX10_unite_98 (lv_at hl 0 rfl) ?_
  refine va_put (D := (dC, dI)) (ci := 4) (v := .int (nI ft)) (ty := .int) (C := RX5) (T := TX5) (N := 6) hx hb hts inX5 tyX5 tyX5_ok nmX5 hown hK hP hD hS 30 rfl rfl 4 (by decide) (hts _ mw_398) (fun _ h9 => h9) rfl (by decide +kernel) rfl rfl (Nat.le_of_ble_eq_true rfl) dX10_unite_100 (fun H locs hP hD hS => ?_)
  obtain ⟨hP, hD⟩ := zre (W2 := ((_ :: _ :: _ :: _ :: _ :: _ :: _ :: _ :: _ :: _ :: _ :: _ :: _ :: _ :: _ :: _ :: _ :: _ :: _ :: _ :: _ :: _ :: _ :: _ :: _ :: _ :: _ :: _ :: _ :: _ :: (oc4 q7 (kd f0) 2 (.ref r5) (nI (dn + 1)) (nI ft) (nI we5)) :: _ :: _ :: _ :: []) ++ va_pl T9 f)) hP hD rfl
  refine lv_aload_n hx hb dX10_unite_103 rfl (lv_at hl 4 rfl) ?_
  refine va_get (D := (dC, dI)) (ci := 1) (v := .ref q8) (C := RX2) (T := TX2) (N := 8) hx hb hts inX2 hown hK hP 31 rfl rfl 6 (Nat.le_of_ble_eq_true rfl) (hts _ mw_433) (fun _ h9 => h9) rfl dX10_unite_104 ?_
  refine lv_iload hx hb dX10_unite_107 (lv_at hl 0 rfl) ?_
  refine va_put (D := (dC, dI)) (ci := 4) (v := .int (nI ft)) (ty := .int) (C := RX5) (T := TX5) (N := 6) hx hb hts inX5 tyX5 tyX5_ok nmX5 hown hK hP hD hS 33 rfl rfl 4 (by decide) (hts _ mw_398) (fun _ h9 => h9) rfl (by decide +kernel) rfl rfl (Nat.le_of_ble_eq_true rfl) dX10_unite_109 (fun H locs hP hD hS => ?_)
  obtain ⟨hP, hD⟩ := zre (W2 := ((_ :: _ :: _ :: _ :: _ :: _ :: _ :: _ :: _ :: _ :: _ :: _ :: _ :: _ :: _ :: _ :: _ :: _ :: _ :: _ :: _ :: _ :: _ :: _ :: _ :: _ :: _ :: _ :: _ :: _ :: _ :: _ :: _ :: (oc4 q8 (kd g0) 2 (.ref r6) (nI (dn + 1)) (nI ft) (nI we6)) :: []) ++ va_pl T9 f)) hP hD rfl
  obtain ⟨hP, hD⟩ := zq_part (cx := (_ :: _ :: _ :: _ :: _ :: _ :: _ :: _ :: _ :: _ :: _ :: _ :: _ :: _ :: _ :: _ :: _ :: _ :: _ :: _ :: _ :: _ :: _ :: _ :: _ :: _ :: _ :: _ :: _ :: _ :: _ :: _ :: _ :: _ :: [])) hP hD (0 :: 1 :: 2 :: 15 :: 16 :: 17 :: 18 :: 19 :: 20 :: 21 :: 22 :: 23 :: 24 :: 25 :: 26 :: 27 :: 28 :: 29 :: 3 :: 4 :: 5 :: 6 :: 7 :: 8 :: 31 :: 32 :: 9 :: 10 :: 11 :: 12 :: 13 :: 14 :: 30 :: 33 :: []) rfl rfl
  obtain ⟨Lp0, fp0, hP, hD, hpin_0⟩ := pl_pn (X := [_, _, _, _, _, _, _, _, _, _, _, _, _, _, _, _]) (old := [_, _, _, _, _, _, _, _, _, _, _, _, _, _, _, _]) (new := [_, _]) (cs1 := [_, _, _, _, _, _, _, _, _, _, _, _, _, _, _, _, _, _]) (L := L) (cs := [(oc1 (fe f0) (rk f0) (wd f0) (tw f0) (pa f0) (pb f0) (.ref lo5) (.ref (la dn f0)) .null), (oc4 (la dn f0) (kd f0) (st f0) (.ref r5) (gb f0) (it f0) (nI we5)), (oc6 r5 (.ref rx5) (.ref ry5) (nI (nN (mn f0))) (rgK (kd f0).toInt)), (oa rx5 cI cap5 X5), (oa ry5 cI cap5 Y5), (oc6 lo5 (.ref lx5) (.ref ly5) (nI ln5) 0), (oa lx5 cI (cl f0) LX5), (oa ly5 cI (cl f0) LY5), (oc1 (fe g0) (rk g0) (wd g0) (tw g0) (pa g0) (pb g0) (.ref lo6) (.ref (la dn g0)) .null), (oc4 (la dn g0) (kd g0) (st g0) (.ref r6) (gb g0) (it g0) (nI we6)), (oc6 r6 (.ref rx6) (.ref ry6) (nI (nN (mn g0))) (rgK (kd g0).toInt)), (oa rx6 cI cap6 X6), (oa ry6 cI cap6 Y6), (oc6 lo6 (.ref lx6) (.ref ly6) (nI ln6) 0), (oa lx6 cI (cl g0) LX6), (oa ly6 cI (cl g0) LY6)]) hT_0 hP hD rfl rfl rfl
  obtain ⟨hfr_0, hkp_0, hce_0, hsx_0, hpw_0⟩ := id hpin_0
  obtain ⟨own1, nw1, md1, fm1, hG1, hM1, hmd1, hO1⟩ := M_lv2 (q := f0) (p := g0) (stm := upd st f0 2) (gbm := upd gb f0 (nI (dn + 1))) (itm := upd it f0 (nI ft)) (st1 := upd (upd st f0 2) g0 2) (gb1 := upd (upd gb f0 (nI (dn + 1))) g0 (nI (dn + 1))) (it1 := upd (upd it f0 (nI ft)) g0 (nI ft)) hG hM hgf rfl rfl hf0 hg0 (by rw [← hft9]; exact hf0) (by rw [← hft9]; exact hg0) (by omega) (by omega) (by rw [up_at]; decide) (by rw [up_at]; decide) htn htg hc5 hc6 hpin_0 (fun p hp => ⟨rfl, if_neg hp, if_neg hp, if_neg hp, rfl, fun k _ => ⟨rfl, rfl⟩⟩) rfl (up_at _ _ _) (up_at _ _ _) (up_at _ _ _) rfl (fun g => g) (fun p hp => ⟨rfl, if_neg hp, if_neg hp, if_neg hp, rfl, fun k _ => ⟨rfl, rfl⟩⟩) rfl (up_at _ _ _) (up_at _ _ _) (up_at _ _ _) rfl (fun g => g) hO
  obtain ⟨hP, hD⟩ := zq_part (cx := [_, _, _, _, _, _, _, _, _, _, _, _, _, _, _, _]) hP hD [0, 1, 2, 3, 4, 10, 11, 12, 5, 9, 13, 14, 15, 6, 7, 8] rfl rfl
  obtain ⟨Lp1, fp1, hP, hD, hpin_1⟩ := pl_pn (X := [_, _, _, _, _, _, _, _]) (old := []) (new := [_, _, _, _, _, _, _, _]) (cs1 := [_, _, _, _, _, _, _, _]) (L := Lp0) (cs := []) outPl_nil hP hD rfl rfl rfl
  obtain ⟨hfr_1, hkp_1, hce_1, hsx_1, hpw_1⟩ := id hpin_1
  obtain ⟨own2, hG2, hM2, hO2⟩ := J_made (cx1 := bxX ft z1 z3 4 cx) (cy1 := bxY ft z2 z4 4 cy) hG1 hM1 hft9 hlt (by rw [hmd1, upN_o (by omega), upN_o (by omega)]) hpin_1 (fun k hk => by have e9 := bx_f (f := ft) (cx := cx) (cy := cy) (P := P) (Q := Q) ⟨hp0.1, hq0.1⟩ ⟨hp0.2.1, hq0.2.1⟩ ⟨hp0.2.2.1, hq0.2.2.1⟩ ⟨hp0.2.2.2, hq0.2.2.2⟩ k hk; rw [(hall7 k hk).1, (hall7 k hk).2]; exact ⟨e9.1.symm, e9.2.symm⟩) (fun p hp k hk => ⟨bxX_o (by omega), bxY_o (by omega)⟩) hO1
  refine lv_aload_n hx hb dX10_unite_112 rfl (lv_at hl 2 rfl) ?_
  refine lv_bipush (v := 6) hx hb dX10_unite_113 rfl ?_
  refine lv_iload_n hx hb dX10_unite_115 rfl (lv_at hl 5 rfl) ?_
  refine lv_iconst (v := 2) hx hb dX10_unite_116 rfl ?_
  refine lv_aload hx hb dX10_unite_117 (lv_at hl 1 rfl) ?_
  obtain ⟨hPc, hDc, hFc⟩ := zo_part (cx := [_, _, _, _]) hP hD hS hA [0, 1, 3, 4] (by decide +kernel) rfl
  refine zcall (st1 := [.int 1]) (va_runV (As := [.int 6, .int (nI f0), .int 2, .ref fe7]) (rest := []) ⟨hx, hb, hml, hown, hts⟩ (k_book_m l dC dI cI cZ cF H.size cO e0 mi x sh lw ro bq bp dq dp lv sl sd ul su sl ea T mc9 fa (va_up FA ft (some fe7)) own2 (upN fe ft fe7) (upN cl ft 1) (fun t => upN (la t) ft lk7) (upN nw1 ft lk7) md1 sp (upN fm1 ft Value.null) SA bs dn (ft + 1) FT V VX VY (gZ (V dn) ft) (upd tn ft 0) (upd rk ft (rk f0)) (upd wd ft (wd f0)) (upd tw ft (tw f0)) (upd pa ft (nI f0)) (upd pb ft (nI g0)) wh of9 we (upd kd ft 6) (upd (upd (upd st f0 2) g0 2) ft 1) (upd (upd (upd gb f0 (nI (dn + 1))) g0 (nI (dn + 1))) ft 0) (upd (upd (upd it f0 (nI ft)) g0 (nI ft)) ft (-1)) (upd mn ft 4) (bxX ft z1 z3 4 cx) (bxY ft z2 z4 4 cy) 6 (nI f0) 2 fe7 Lp1 fp1 (hG2) (hM2) (hO2) (hdT) (hT5) (by first | with_reducible assumption | omega) (fun q h1 h2 => by rw [show q = ft by omega, up_at]; decide) (⟨by rw [← hft9], by rw [← hft9, upN_at]⟩)) (csV_101 hts rfl rfl ⟨Nat.le_of_ble_eq_true rfl, Nat.le_of_ble_eq_true rfl⟩) (zPVL (q0 := 0) (ci := 8) hPc hDc hK hXL hS hFc rfl rfl) rfl rfl hl.1 rfl (lv_room (Nat.le_of_ble_eq_true rfl)) dX10_unite_119 ⟨show (((((1 + 4) + 3) + 1) + 1) + ((ft + 1) + 2)) ≤ ft + 13 by omega, show (((((8 + (2 * 1 + 10)) + (2 * 4 + 4)) + 6) + 6) + (4 * (ft + 1) + 805)) ≤ 4 * ft + 860 by omega⟩) hS hFc hFc rfl (fun t H locs ht hB hk1 hS => ?_)
  obtain ⟨mc6, L6, f6, ea6, hB6, hP1, hD1⟩ := hB
  rw [ht] at hP1
  obtain ⟨hP, hD⟩ := znP (W2 := [(oc8 x (.ref sh) (.ref lw) (.ref ro) (.ref bq) (.ref bp) (.ref dq) (.ref dp) (.ref lv) (.ref sl) (nI (dn + 1)) sd ul 0), (oc10 sl mc6 (.ref ea6) (nI (dn + 1))), _, _, _, _, _, _]) hP hD hk1 hFc hP1 hD1 [0, 1, 3, 4] zl_94 zl_94 [0, 1, 3, 4] (by decide +kernel) rfl rfl rfl rfl rfl
  clear hk1 hPc hDc hFc hP1 hD1 ht
  refine lv_pop hx hb dX10_unite_122 rfl ?_
  refine lv_iload hx hb dX10_unite_123 (lv_at hl 0 rfl) ?_
  obtain ⟨hP9, hD9⟩ := zq_part (cx := [_, _, _, _, _, _, _, _]) hP hD [0, 1, 2, 5, 6, 7, 3, 4] rfl rfl
  refine W.widen (k := ft + 13) (n := 4 * ft + 860) (by omega) (by omega) ?_
  rw [hQ9]
  exact W.iret (v := nI ft) hx hb hr (fun t ht hW => ⟨⟨rfl, mc6, L6, f6, ea6, fe7, (hB6), by rw [ht]; exact hP9, hD9⟩, hS.F ht⟩) hS.2.2 dX10_unite_125
end
section
set_option maxHeartbeats 4000000 in
set_option maxRecDepth 100000 in
theorem k_join_n (l : Launch) (dC : Nat → ClassId) (dI : Nat → Nat → Nat) (cI cZ cF : ClassId) (sz : Nat) (cO : ClassId) (e0 : Nat) (mi : Nat) (x : Nat) (sh : Nat) (lw : Nat) (ro : Nat) (bq : Nat) (bp : Nat) (dq : Nat) (dp : Nat) (lv : Nat) (sl : Nat) (sd : Int32) (ul : Int32) (su : Int32) (ea : Nat) (mc9 : Int32) (fa : Nat) (FA : Nat → Option Nat) (bs : Nat) (dn : Nat) (T : Nat) (ft : Nat) (FT : Nat → Nat) (V : Nat → Nat → Nat → Int32) (VX : Nat → Nat → Int32) (VY : Nat → Nat → Int32) (tn : Nat → Int32) (rk : Nat → Int32) (wd : Nat → Int32) (tw : Nat → Int32) (pa : Nat → Int32) (pb : Nat → Int32) (wh : Nat → Int32) (of9 : Nat → Int32) (we : Nat → Int32) (kd : Nat → Int32) (st : Nat → Int32) (gb : Nat → Int32) (it : Nat → Int32) (mn : Nat → Int32) (cx : Nat → Int32) (cy : Nat → Int32) (L : List Nat) (f : Nat → va_E) (f0 : Nat) (g0 : Nat) (dr : Nat) (tg : Nat) (wy : Nat) (br : Nat) (bo : Nat) (aa : Nat) (dx : Nat) (dy : Nat) (nd : Nat) (cd : Nat) (P : Nat → Int32) (Q : Nat → Int32) (rd : Int32) (c1 : Int32) (c2 : Int32) (c3 : Int32) (c4 : Int32) (y1 : Int64) (y2 : Int64) (gp9 : Int32) (z1 : Int32) (z2 : Int32) (z3 : Int32) (z4 : Int32) (hB : shB cI cO L f e0 FA ea bs dn T ft FT V VX VY tn rk wd tw pa pb wh of9 we kd st gb it mn cx cy) (hf0 : f0 < ft) (htn : (tn f0).toInt = 0) (hg0 : g0 < ft) (htg : (tn g0).toInt = 0) (hgf : g0 ≠ f0) (hst : (st f0).toInt = 1) (hsg : (st g0).toInt = 1) (hk6 : (kd f0).toInt = 6) (hkg : (kd g0).toInt = 6) (hgp : 0 ≤ gp9.toInt ∧ gp9.toInt ≤ 1000) (hwf : ∀ q, lvF ft st tn q → wfM mn cx cy q) (hkn : okN ft st tn kd mn) (hcd : 40 ≤ cd ∧ cd ≤ 1000) (hz1 : z1 = jlo cx f0 (nN (mn f0)) g0 (nN (mn g0))) (hz2 : z2 = jlo cy f0 (nN (mn f0)) g0 (nN (mn g0))) (hz3 : z3 = jhi cx f0 (nN (mn f0)) g0 (nN (mn g0))) (hz4 : z4 = jhi cy f0 (nN (mn f0)) g0 (nN (mn g0))) (hbad : ¬ (¬ (¬ mtF (kd f0).toInt (nN (mn f0)) (cF40 cx f0) (cF40 cy f0) (kd g0).toInt (nN (mn g0)) (cF40 cx g0) (cF40 cy g0) ∧ ∀ u d : Nat, 1 ≤ d → IM (dcP (nN (mn f0)) (cF40 cx f0) (cF40 cy f0) (nN (mn g0)) (cF40 cx g0) (cF40 cy g0) (eO (kd g0).toInt (nN (mn g0))) (eO (kd f0).toInt (nN (mn f0))) 0) ((u : Nat) : Int) ((d : Nat) : Int) → gp9.toInt * gp9.toInt * ((d : Nat) : Int) < ((u : Nat) : Int)) ∧ jFr ft st tn (upd kd 200 6) (upd mn 200 4) (bxX 200 z1 z3 4 cx) (bxY 200 z2 z4 4 cy) f0 g0 ft ∧ ft < 200)) : zML l yX10_join cX10_join 8 (some .int) ({ frames := 4, cells := 0, slots := 0, locals := 104 } : Room) [.ref x, .int (nI f0), .int (nI g0), .int gp9] (dC, dI) (zTyO cI cZ cF cO) e0 mi ([(oc8 x (.ref sh) (.ref lw) (.ref ro) (.ref bq) (.ref bp) (.ref dq) (.ref dp) (.ref lv) (.ref sl) (nI dn) sd ul su), (oc10 sl mc9 (.ref ea) (nI T)), (oc3 lw (.ref dr) (.ref tg) (.ref wy) (.ref br) (.ref bo) (.ref aa)), (oc6 dr (.ref dx) (.ref dy) (nI nd) rd), (oa dx cI cd P), (oa dy cI cd Q), (oc0 bq c1 c2 c3 c4), (oc2 dq y1 y2), (oc7 sh (.ref fa) (nI ft)), (oq fa cF 200 FA)] ++ va_pl L f) sz (some (.int (-1))) (fun A t => ∃ (ul1 : Int32), ∃ (su1 : Int32), ∃ (nd1 : Nat), ∃ (P1 : Nat → Int32), ∃ (Q1 : Nat → Int32), ∃ (rd1 : Int32), ∃ (c5 : Int32), ∃ (c6 : Int32), ∃ (c7 : Int32), ∃ (c8 : Int32), ∃ (y5 : Int64), ∃ (y6 : Int64), zPD (dC, dI) classes A ([(oc8 x (.ref sh) (.ref lw) (.ref ro) (.ref bq) (.ref bp) (.ref dq) (.ref dp) (.ref lv) (.ref sl) (nI dn) sd ul1 su1), (oc10 sl mc9 (.ref ea) (nI T)), (oc3 lw (.ref dr) (.ref tg) (.ref wy) (.ref br) (.ref bo) (.ref aa)), (oc6 dr (.ref dx) (.ref dy) (nI nd1) rd1), (oa dx cI cd P1), (oa dy cI cd Q1), (oc0 bq c5 c6 c7 c8), (oc2 dq y5 y6), (oc7 sh (.ref fa) (nI ft)), (oq fa cF 200 FA)] ++ va_pl L f) t.heap) 0 0 := by
  refine zInL (own := "ScaleShop") (loc := [(0, .ref x), (1, .int (nI f0)), (2, .int (nI g0)), (3, .int gp9)]) rfl rfl rfl rfl (fun p e s m below meth c hx hb hr hts hown hlocks hml hnm9 A hA hS hP hD hK hXL hXN hK3 Q9 hQ9 ls hl => ?_)
  obtain ⟨own, fe, cl, la, sp, SA, hG9, hH9, hft9, hO9⟩ := hB
  obtain ⟨hG, hM, hdT, hT5, hO⟩ := M_0 hG9 hH9 hft9 hO9
  have h200 : ft ≤ 200 := hG.2.2.2.2.2.1.2.2.2.2.2
  have hFA9 := hG.2.2.2.2.2.2
  refine ex13 (sh_fc hG.1 hG.2.1 (Nat.le_refl _) hf0 htn) (fun lo5 lx5 ly5 ln5 LX5 LY5 we5 r5 rx5 ry5 cap5 X5 Y5 hc5 => ?_)
  have hc5 := fc_0 hc5
  have hb5 := hc5.2.2.1
  have hb6 := hc5.2.1
  have hat9 := lo_at hO (Nat.le_refl _) hf0 hc5.1.1 hc5.1.2.2.2 (by omega) hc5.1.2.1 hb5.2.2
  refine ex13 (sh_fc hG.1 hG.2.1 (Nat.le_refl _) hg0 htg) (fun lo6 lx6 ly6 ln6 LX6 LY6 we6 r6 rx6 ry6 cap6 X6 Y6 hc6 => ?_)
  have hc6 := fc_0 hc6
  have hb7 := hc6.2.2.1
  have hb8 := hc6.2.1
  have e_0 : (0 : Int32).toInt = 0 := (by decide)
  have e_1000 : (1000 : Int32).toInt = 1000 := (by decide)
  have hlv : lvF ft st tn f0 := ⟨hf0, hst, htn⟩
  have hlg : lvF ft st tn g0 := ⟨hg0, hsg, htg⟩
  have hwf0 := hwf f0 hlv
  have hwfg := hwf g0 hlg
  have hw1 := hwf0.2.1
  have hw2 := hwfg.2.1
  have hkn0 := hkn f0 hlv
  have hkng := hkn g0 hlg
  have hX5 := hc5.2.2.2.2.1
  have hX6 := hc6.2.2.2.2.1
  have hp5 := (pls_cg hX5).mpr hwf0.2.2
  have hp6 := (pls_cg hX6).mpr hwfg.2.2
  have hgg := gg_0 (g := gp9.toInt)
  have hti := jtch_iff hw1.1 hw2.1 hX5 hX6 hkn0 hkng
  have hc9_1 : inPl L f [(oc1 (fe f0) (rk f0) (wd f0) (tw f0) (pa f0) (pb f0) (.ref lo5) (.ref (la dn f0)) .null), (oc4 (la dn f0) (kd f0) (st f0) (.ref r5) (gb f0) (it f0) (nI we5)), (oc6 r5 (.ref rx5) (.ref ry5) (nI (nN (mn f0))) (rgK (kd f0).toInt)), (oa rx5 cI cap5 X5), (oa ry5 cI cap5 Y5), (oc6 lo5 (.ref lx5) (.ref ly5) (nI ln5) 0), (oa lx5 cI (cl f0) LX5), (oa ly5 cI (cl f0) LY5), (oc1 (fe g0) (rk g0) (wd g0) (tw g0) (pa g0) (pb g0) (.ref lo6) (.ref (la dn g0)) .null), (oc4 (la dn g0) (kd g0) (st g0) (.ref r6) (gb g0) (it g0) (nI we6)), (oc6 r6 (.ref rx6) (.ref ry6) (nI (nN (mn g0))) (rgK (kd g0).toInt)), (oa rx6 cI cap6 X6), (oa ry6 cI cap6 Y6), (oc6 lo6 (.ref lx6) (.ref ly6) (nI ln6) 0), (oa lx6 cI (cl g0) LX6), (oa ly6 cI (cl g0) LY6)] := ⟨ce_pl hc5.1.1, ce_pl hc5.1.2.1, ce_pl hc5.1.2.2.1.1, ce_pl hc5.1.2.2.1.2.1, ce_pl hc5.1.2.2.1.2.2.1, ce_pl hc5.1.2.2.2.1, ce_pl hc5.1.2.2.2.2.1, ce_pl hc5.1.2.2.2.2.2.1, ce_pl hc6.1.1, ce_pl hc6.1.2.1, ce_pl hc6.1.2.2.1.1, ce_pl hc6.1.2.2.1.2.1, ce_pl hc6.1.2.2.1.2.2.1, ce_pl hc6.1.2.2.2.1, ce_pl hc6.1.2.2.2.2.1, ce_pl hc6.1.2.2.2.2.2.1, trivial⟩
  have hD0_1 := hD
  obtain ⟨T_1, hT_1, hP, hD⟩ := pl_oT hP hD hc9_1 (pw_ap (own := own) (p := g0) (A := [(oc1 (fe f0) (rk f0) (wd f0) (tw f0) (pa f0) (pb f0) (.ref lo5) (.ref (la dn f0)) .null), (oc4 (la dn f0) (kd f0) (st f0) (.ref r5) (gb f0) (it f0) (nI we5)), (oc6 r5 (.ref rx5) (.ref ry5) (nI (nN (mn f0))) (rgK (kd f0).toInt)), (oa rx5 cI cap5 X5), (oa ry5 cI cap5 Y5), (oc6 lo5 (.ref lx5) (.ref ly5) (nI ln5) 0), (oa lx5 cI (cl f0) LX5), (oa ly5 cI (cl f0) LY5)]) (B := [(oc1 (fe g0) (rk g0) (wd g0) (tw g0) (pa g0) (pb g0) (.ref lo6) (.ref (la dn g0)) .null), (oc4 (la dn g0) (kd g0) (st g0) (.ref r6) (gb g0) (it g0) (nI we6)), (oc6 r6 (.ref rx6) (.ref ry6) (nI (nN (mn g0))) (rgK (kd g0).toInt)), (oa rx6 cI cap6 X6), (oa ry6 cI cap6 Y6), (oc6 lo6 (.ref lx6) (.ref ly6) (nI ln6) 0), (oa lx6 cI (cl g0) LX6), (oa ly6 cI (cl g0) LY6)]) (pw8 hc5 (by omega)) (pw8 hc6 (by omega)) (fc_ne hc5 (by omega) (by omega) hgf) (fun r hr => fc_ne hc6 (by omega) (by omega) hr))
  obtain ⟨hP, hD⟩ := zre (W2 := ([_, _, _, _, _, _, _, _, _, _, _, _, _, _, _, _, _, _, _, _, _, _, _, _, _, _] ++ va_pl T_1 f)) hP hD rfl
  refine lv_aload_n hx hb dX10_join_0 rfl (lv_at hl 0 rfl) ?_
  refine va_get (D := (dC, dI)) (ci := 8) (v := .ref sh) (C := RX10) (T := TX10) (N := 13) hx hb hts inX10 hown hK hP 0 rfl rfl 0 (Nat.le_of_ble_eq_true rfl) (hts _ mw_309) (fun _ h9 => h9) rfl dX10_join_1 ?_
  refine lv_iload_n hx hb dX10_join_4 rfl (lv_at hl 1 rfl) ?_
  obtain ⟨hPc, hDc, hFc, hI1⟩ := zi_sub (wc := [_, _]) hP hD hS hA [8, 9] rfl rfl
  refine zcall (st1 := [.ref (fe f0)]) (va_runV (As := [.int (nI f0)]) (rest := []) ⟨hx, hb, hml, hown, hts⟩ (k_Sheet_find l dC dI cI cZ cF s.heap.size sh fa ft FA f0 (fe f0) (by first | with_reducible assumption | omega) (by first | with_reducible assumption | omega) (hFA9 f0 (by first | with_reducible assumption | omega))) (csV_94 hts rfl rfl ⟨Nat.le_of_ble_eq_true rfl, Nat.le_of_ble_eq_true rfl⟩) (zPV2 (q0 := 0) (ci := 7) hPc hDc hK3 hXN rfl rfl) rfl rfl hl.1 rfl (lv_room (Nat.le_of_ble_eq_true rfl)) dX10_join_5 ⟨Nat.le_of_ble_eq_true rfl, Nat.le_of_ble_eq_true rfl⟩) hS hFc hFc rfl (fun t H locs ht hB hk1 hS => ?_)
  obtain ⟨hP1, hD1⟩ := hB
  rw [ht] at hP1
  replace hP := z0 hP hD hk1 hP1 hI1
  clear hk1 hPc hDc hFc hP1 hD1 ht hI1
  refine lv_astore (lv' := [(4, .ref (fe f0)), (0, .ref x), (1, .int (nI f0)), (2, .int (nI g0)), (3, .int gp9)]) hx hb dX10_join_8 hl (Nat.le_of_ble_eq_true rfl) rfl (fun ls hl => ?_)
  refine lv_aload_n hx hb dX10_join_10 rfl (lv_at hl 1 rfl) ?_
  refine va_get (D := (dC, dI)) (ci := 8) (v := .ref sh) (C := RX10) (T := TX10) (N := 13) hx hb hts inX10 hown hK hP 0 rfl rfl 0 (Nat.le_of_ble_eq_true rfl) (hts _ mw_309) (fun _ h9 => h9) rfl dX10_join_11 ?_
  refine lv_iload_n hx hb dX10_join_14 rfl (lv_at hl 3 rfl) ?_
  obtain ⟨hPc, hDc, hFc, hI1⟩ := zi_sub (wc := [_, _]) hP hD hS hA [8, 9] rfl rfl
  refine zcall (st1 := [.ref (fe g0)]) (va_runV (As := [.int (nI g0)]) (rest := []) ⟨hx, hb, hml, hown, hts⟩ (k_Sheet_find l dC dI cI cZ cF H.size sh fa ft FA g0 (fe g0) (by first | with_reducible assumption | omega) (by first | with_reducible assumption | omega) (hFA9 g0 (by first | with_reducible assumption | omega))) (csV_94 hts rfl rfl ⟨Nat.le_of_ble_eq_true rfl, Nat.le_of_ble_eq_true rfl⟩) (zPV2 (q0 := 0) (ci := 7) hPc hDc hK3 hXN rfl rfl) rfl rfl hl.1 rfl (lv_room (Nat.le_of_ble_eq_true rfl)) dX10_join_15 ⟨Nat.le_of_ble_eq_true rfl, Nat.le_of_ble_eq_true rfl⟩) hS hFc hFc rfl (fun t H locs ht hB hk1 hS => ?_)
  obtain ⟨hP1, hD1⟩ := hB
  rw [ht] at hP1
  replace hP := z0 hP hD hk1 hP1 hI1
  clear hk1 hPc hDc hFc hP1 hD1 ht hI1
  refine lv_astore (lv' := [(5, .ref (fe g0)), (4, .ref (fe f0)), (0, .ref x), (1, .int (nI f0)), (2, .int (nI g0)), (3, .int gp9)]) hx hb dX10_join_18 hl (Nat.le_of_ble_eq_true rfl) rfl (fun ls hl => ?_)
  refine lv_aload hx hb dX10_join_20 (lv_at hl 1 rfl) ?_
  refine lv_ifnull hx hb dX10_join_22 ?_
  refine lv_aload hx hb dX10_join_25 (lv_at hl 0 rfl) ?_
  refine lv_ifnonnull (tgt := 36) hx hb dX10_join_27 rfl ?_
  refine lv_aload hx hb dX10_join_36 (lv_at hl 1 rfl) ?_
  refine va_get (D := (dC, dI)) (ci := 1) (v := .ref (la dn f0)) (C := RX2) (T := TX2) (N := 8) hx hb hts inX2 hown hK hP 10 rfl rfl 6 (Nat.le_of_ble_eq_true rfl) (hts _ mw_433) (fun _ h9 => h9) rfl dX10_join_38 ?_
  refine va_get (D := (dC, dI)) (ci := 4) (v := .int (st f0)) (C := RX5) (T := TX5) (N := 6) hx hb hts inX5 hown hK hP 11 rfl rfl 1 (Nat.le_of_ble_eq_true rfl) (hts _ mw_385) (fun _ h9 => h9) rfl dX10_join_41 ?_
  refine lv_iconst (v := 1) hx hb dX10_join_44 rfl ?_
  refine lv_icmp_ne (tgt := 60) hx hb dX10_join_45 rfl (fun c_1 => ?_) (fun c_1 => ?_)
  · have c_1 : ¬ (st f0).toInt = 1 := zc_ne rfl rfl c_1
    exfalso; omega
  · have c_1 : (st f0).toInt = 1 := zc_eq rfl rfl c_1
    refine lv_aload hx hb dX10_join_48 (lv_at hl 0 rfl) ?_
    refine va_get (D := (dC, dI)) (ci := 1) (v := .ref (la dn g0)) (C := RX2) (T := TX2) (N := 8) hx hb hts inX2 hown hK hP 18 rfl rfl 6 (Nat.le_of_ble_eq_true rfl) (hts _ mw_433) (fun _ h9 => h9) rfl dX10_join_50 ?_
    refine va_get (D := (dC, dI)) (ci := 4) (v := .int (st g0)) (C := RX5) (T := TX5) (N := 6) hx hb hts inX5 hown hK hP 19 rfl rfl 1 (Nat.le_of_ble_eq_true rfl) (hts _ mw_385) (fun _ h9 => h9) rfl dX10_join_53 ?_
    refine lv_iconst (v := 1) hx hb dX10_join_56 rfl ?_
    refine lv_icmp_eq (tgt := 66) hx hb dX10_join_57 rfl (fun c_2 => ?_) (fun c_2 => ?_)
    · have c_2 : (st g0).toInt = 1 := zc_eq rfl rfl c_2
      refine lv_aload hx hb dX10_join_66 (lv_at hl 1 rfl) ?_
      refine va_get (D := (dC, dI)) (ci := 1) (v := .ref (la dn f0)) (C := RX2) (T := TX2) (N := 8) hx hb hts inX2 hown hK hP 10 rfl rfl 6 (Nat.le_of_ble_eq_true rfl) (hts _ mw_433) (fun _ h9 => h9) rfl dX10_join_68 ?_
      refine va_get (D := (dC, dI)) (ci := 4) (v := .int (kd f0)) (C := RX5) (T := TX5) (N := 6) hx hb hts inX5 hown hK hP 11 rfl rfl 0 (Nat.le_of_ble_eq_true rfl) (hts _ mw_381) (fun _ h9 => h9) rfl dX10_join_71 ?_
      refine lv_bipush (v := 6) hx hb dX10_join_74 rfl ?_
      refine lv_icmp_ne (tgt := 92) hx hb dX10_join_76 rfl (fun c_3 => ?_) (fun c_3 => ?_)
      · have c_3 : ¬ (kd f0).toInt = 6 := zc_ne rfl rfl c_3
        exfalso; omega
      · have c_3 : (kd f0).toInt = 6 := zc_eq rfl rfl c_3
        refine lv_aload hx hb dX10_join_79 (lv_at hl 0 rfl) ?_
        refine va_get (D := (dC, dI)) (ci := 1) (v := .ref (la dn g0)) (C := RX2) (T := TX2) (N := 8) hx hb hts inX2 hown hK hP 18 rfl rfl 6 (Nat.le_of_ble_eq_true rfl) (hts _ mw_433) (fun _ h9 => h9) rfl dX10_join_81 ?_
        refine va_get (D := (dC, dI)) (ci := 4) (v := .int (kd g0)) (C := RX5) (T := TX5) (N := 6) hx hb hts inX5 hown hK hP 19 rfl rfl 0 (Nat.le_of_ble_eq_true rfl) (hts _ mw_381) (fun _ h9 => h9) rfl dX10_join_84 ?_
        refine lv_bipush (v := 6) hx hb dX10_join_87 rfl ?_
        refine lv_icmp_eq (tgt := 98) hx hb dX10_join_89 rfl (fun c_4 => ?_) (fun c_4 => ?_)
        · have c_4 : (kd g0).toInt = 6 := zc_eq rfl rfl c_4
          refine lv_iload_n hx hb dX10_join_98 rfl (lv_at hl 5 rfl) ?_
          refine lv_iconst (v := 0) hx hb dX10_join_99 rfl ?_
          refine lv_sipush (v := 1000) hx hb dX10_join_100 rfl ?_
          obtain ⟨hPc, hDc, hFc, hI1⟩ := zi_sub (wc := []) hP hD hS hA [] rfl rfl
          refine zcall (st1 := [.int (pI ((0 : Int32).toInt ≤ gp9.toInt ∧ gp9.toInt ≤ (1000 : Int32).toInt))]) (va_runS (As := [.int gp9, .int 0, .int 1000]) (rest := []) ⟨hx, hb, hml, hown, hts⟩ (k_isWithin l dC dI cI cZ cF H.size gp9 0 1000 ) (csS_14 hts rfl rfl ⟨Nat.le_of_ble_eq_true rfl, Nat.le_of_ble_eq_true rfl⟩) (zPS2 hPc hDc hK3 hXN) rfl rfl hl.1 rfl (lv_room (Nat.le_of_ble_eq_true rfl)) dX10_join_103 ⟨Nat.le_of_ble_eq_true rfl, Nat.le_of_ble_eq_true rfl⟩) hS hFc hFc rfl (fun t H locs ht hB hk1 hS => ?_)
          obtain ⟨hP1, hD1⟩ := hB
          rw [ht] at hP1
          replace hP := z0 hP hD hk1 hP1 hI1
          clear hk1 hPc hDc hFc hP1 hD1 ht hI1
          refine lv_if_ne (tgt := 115) hx hb dX10_join_106 rfl (fun c_5 => ?_) (fun c_5 => ?_)
          · have c_5 : (0 : Int32).toInt ≤ gp9.toInt ∧ gp9.toInt ≤ (1000 : Int32).toInt := zp_1 c_5
            refine lv_aload hx hb dX10_join_115 (lv_at hl 1 rfl) ?_
            refine va_get (D := (dC, dI)) (ci := 1) (v := .ref (la dn f0)) (C := RX2) (T := TX2) (N := 8) hx hb hts inX2 hown hK hP 10 rfl rfl 6 (Nat.le_of_ble_eq_true rfl) (hts _ mw_433) (fun _ h9 => h9) rfl dX10_join_117 ?_
            refine va_get (D := (dC, dI)) (ci := 4) (v := .ref r5) (C := RX5) (T := TX5) (N := 6) hx hb hts inX5 hown hK hP 11 rfl rfl 2 (Nat.le_of_ble_eq_true rfl) (hts _ mw_391) (fun _ h9 => h9) rfl dX10_join_120 ?_
            refine lv_astore (lv' := [(6, .ref r5), (5, .ref (fe g0)), (4, .ref (fe f0)), (0, .ref x), (1, .int (nI f0)), (2, .int (nI g0)), (3, .int gp9)]) hx hb dX10_join_123 hl (Nat.le_of_ble_eq_true rfl) rfl (fun ls hl => ?_)
            refine lv_aload hx hb dX10_join_125 (lv_at hl 1 rfl) ?_
            refine va_get (D := (dC, dI)) (ci := 1) (v := .ref (la dn g0)) (C := RX2) (T := TX2) (N := 8) hx hb hts inX2 hown hK hP 18 rfl rfl 6 (Nat.le_of_ble_eq_true rfl) (hts _ mw_433) (fun _ h9 => h9) rfl dX10_join_127 ?_
            refine va_get (D := (dC, dI)) (ci := 4) (v := .ref r6) (C := RX5) (T := TX5) (N := 6) hx hb hts inX5 hown hK hP 19 rfl rfl 2 (Nat.le_of_ble_eq_true rfl) (hts _ mw_391) (fun _ h9 => h9) rfl dX10_join_130 ?_
            refine lv_astore (lv' := [(7, .ref r6), (6, .ref r5), (5, .ref (fe g0)), (4, .ref (fe f0)), (0, .ref x), (1, .int (nI f0)), (2, .int (nI g0)), (3, .int gp9)]) hx hb dX10_join_133 hl (Nat.le_of_ble_eq_true rfl) rfl (fun ls hl => ?_)
            refine lv_aload hx hb dX10_join_135 (lv_at hl 1 rfl) ?_
            refine lv_ifnull hx hb dX10_join_137 ?_
            refine lv_aload hx hb dX10_join_140 (lv_at hl 0 rfl) ?_
            refine lv_ifnonnull (tgt := 151) hx hb dX10_join_142 rfl ?_
            by_cases htc : ∃ i, i < prt (nN (mn f0)) (rgK (kd f0).toInt) ∧ ∃ j, j < prt (nN (mn g0)) (rgK (kd g0).toInt) ∧ eMt (nN (mn f0)) X5 Y5 i (nN (mn g0)) X6 Y6 j
            · skip
              refine lv_aload_n hx hb dX10_join_151 rfl (lv_at hl 4 rfl) ?_
              refine va_get (D := (dC, dI)) (ci := 8) (v := .ref dq) (C := RX10) (T := TX10) (N := 13) hx hb hts inX10 hown hK hP 0 rfl rfl 5 (Nat.le_of_ble_eq_true rfl) (hts _ mw_314) (fun _ h9 => h9) rfl dX10_join_152 ?_
              refine lv_aload hx hb dX10_join_155 (lv_at hl 1 rfl) ?_
              refine lv_aload hx hb dX10_join_157 (lv_at hl 0 rfl) ?_
              obtain ⟨hPc, hDc, hFc⟩ := zo_sub (wc := [_, _, _, _, _, _, _]) hP hD hS hA [7, 12, 13, 14, 20, 21, 22] (by decide +kernel) rfl
              refine zcall (st1 := []) (va_runV (As := [.ref r5, .ref r6]) (rest := []) ⟨hx, hb, hml, hown, hts⟩ (k_Fr_between_m l dC dI cI cZ cF H.size dq y1 y2 r5 rx5 ry5 (nN (mn f0)) cap5 X5 Y5 (rgK (kd f0).toInt) r6 rx6 ry6 (nN (mn g0)) cap6 X6 Y6 (rgK (kd g0).toInt) (by first | with_reducible assumption | omega) (by first | with_reducible assumption | omega) (hp5) (by first | with_reducible assumption | omega) (by first | with_reducible assumption | omega) (hp6) (htc)) (csV_127 hts rfl rfl ⟨Nat.le_of_ble_eq_true rfl, Nat.le_of_ble_eq_true rfl⟩) (zPV2 (q0 := 0) (ci := 2) hPc hDc hK3 hXN rfl rfl) rfl rfl hl.1 rfl (lv_room (Nat.le_of_ble_eq_true rfl)) dX10_join_159 ⟨Nat.le_of_ble_eq_true rfl, Nat.le_of_ble_eq_true rfl⟩) hS hFc hFc rfl (fun t H locs ht hB hk1 hS => ?_)
              obtain ⟨hP1, hD1⟩ := hB
              rw [ht] at hP1
              obtain ⟨hP, hD⟩ := znQ (W2 := [_, _, _, _, _, _, _, (oc2 dq (jI 0) (jI 1)), _, _, _, _, _, _, _, _, _, _, _, _, _, _, _, _, _, _]) hP hD hk1 hFc hP1 hD1 [7, 12, 13, 14, 20, 21, 22] zl_95 zl_95 [7, 12, 13, 14, 20, 21, 22] (by decide +kernel) rfl rfl rfl rfl rfl
              clear hk1 hPc hDc hFc hP1 hD1 ht
              have hfar9 : gp9.toInt * gp9.toInt * 1 < 0 ↔ (¬ mtF (kd f0).toInt (nN (mn f0)) (cF40 cx f0) (cF40 cy f0) (kd g0).toInt (nN (mn g0)) (cF40 cx g0) (cF40 cy g0) ∧ ∀ u d : Nat, 1 ≤ d → IM (dcP (nN (mn f0)) (cF40 cx f0) (cF40 cy f0) (nN (mn g0)) (cF40 cx g0) (cF40 cy g0) (eO (kd g0).toInt (nN (mn g0))) (eO (kd f0).toInt (nN (mn f0))) 0) ((u : Nat) : Int) ((d : Nat) : Int) → gp9.toInt * gp9.toInt * ((d : Nat) : Int) < ((u : Nat) : Int)) := ⟨fun h => by omega, fun h => absurd (hti.mp htc) h.1⟩
              refine lv_aload_n hx hb dX10_join_162 rfl (lv_at hl 4 rfl) ?_
              refine va_get (D := (dC, dI)) (ci := 8) (v := .ref dq) (C := RX10) (T := TX10) (N := 13) hx hb hts inX10 hown hK hP 0 rfl rfl 5 (Nat.le_of_ble_eq_true rfl) (hts _ mw_314) (fun _ h9 => h9) rfl dX10_join_163 ?_
              refine lv_iload_n hx hb dX10_join_166 rfl (lv_at hl 7 rfl) ?_
              obtain ⟨hPc, hDc, hFc, hI1⟩ := zi_sub (wc := [_]) hP hD hS hA [7] rfl rfl
              refine zcall (st1 := [.int (pI (gp9.toInt * gp9.toInt * 1 < 0))]) (va_runV (As := [.int gp9]) (rest := []) ⟨hx, hb, hml, hown, hts⟩ (k_Fr_isOver l dC dI cI cZ cF H.size dq 0 1 gp9 (by first | with_reducible assumption | omega) (by first | with_reducible assumption | omega) (hgp)) (csV_128 hts rfl rfl ⟨Nat.le_of_ble_eq_true rfl, Nat.le_of_ble_eq_true rfl⟩) (zPV2 (q0 := 0) (ci := 2) hPc hDc hK3 hXN rfl rfl) rfl rfl hl.1 rfl (lv_room (Nat.le_of_ble_eq_true rfl)) dX10_join_167 ⟨Nat.le_of_ble_eq_true rfl, Nat.le_of_ble_eq_true rfl⟩) hS hFc hFc rfl (fun t H locs ht hB hk1 hS => ?_)
              obtain ⟨hP1, hD1⟩ := hB
              rw [ht] at hP1
              replace hP := z0 hP hD hk1 hP1 hI1
              clear hk1 hPc hDc hFc hP1 hD1 ht hI1
              refine lv_if_eq (tgt := 179) hx hb dX10_join_170 rfl (fun c_6 => ?_) (fun c_6 => ?_)
              · have c_6 : ¬ (gp9.toInt * gp9.toInt * 1 < 0) := zp_0 c_6
                refine lv_aload_n hx hb dX10_join_179 rfl (lv_at hl 4 rfl) ?_
                refine va_get (D := (dC, dI)) (ci := 8) (v := .ref bq) (C := RX10) (T := TX10) (N := 13) hx hb hts inX10 hown hK hP 0 rfl rfl 3 (Nat.le_of_ble_eq_true rfl) (hts _ mw_312) (fun _ h9 => h9) rfl dX10_join_180 ?_
                refine lv_aload hx hb dX10_join_183 (lv_at hl 1 rfl) ?_
                obtain ⟨hPc, hDc, hFc⟩ := zo_sub (wc := [_, _, _, _]) hP hD hS hA [6, 12, 13, 14] (by decide +kernel) rfl
                refine zcall (st1 := []) (va_runV (As := [.ref r5]) (rest := []) ⟨hx, hb, hml, hown, hts⟩ (k_Box_cover l dC dI cI cZ cF H.size bq c1 c2 c3 c4 r5 rx5 ry5 (nN (mn f0)) cap5 X5 Y5 (rgK (kd f0).toInt) (by first | with_reducible assumption | omega) (by first | with_reducible assumption | omega) ((pls_nr hp5).1) ((pls_nr hp5).2) (by first | with_reducible assumption | omega)) (csV_129 hts rfl rfl ⟨Nat.le_of_ble_eq_true rfl, Nat.le_of_ble_eq_true rfl⟩) (zPV2 (q0 := 0) (ci := 0) hPc hDc hK3 hXN rfl rfl) rfl rfl hl.1 rfl (lv_room (Nat.le_of_ble_eq_true rfl)) dX10_join_185 ⟨Nat.le_of_ble_eq_true rfl, Nat.le_of_ble_eq_true rfl⟩) hS hFc hFc rfl (fun t H locs ht hB hk1 hS => ?_)
                obtain ⟨hP1, hD1⟩ := hB
                rw [ht] at hP1
                obtain ⟨hP, hD⟩ := znQ (W2 := [_, _, _, _, _, _, (oc0 bq (iI (mnI (X5 0).toInt X5 (nN (mn f0)))) (iI (mnI (Y5 0).toInt Y5 (nN (mn f0)))) (iI (mxI (X5 0).toInt X5 (nN (mn f0)))) (iI (mxI (Y5 0).toInt Y5 (nN (mn f0))))), _, _, _, _, _, _, _, _, _, _, _, _, _, _, _, _, _, _, _]) hP hD hk1 hFc hP1 hD1 [6, 12, 13, 14] zl_96 zl_96 [6, 12, 13, 14] (by decide +kernel) rfl rfl rfl rfl rfl
                clear hk1 hPc hDc hFc hP1 hD1 ht
                refine lv_aload_n hx hb dX10_join_188 rfl (lv_at hl 4 rfl) ?_
                refine va_get (D := (dC, dI)) (ci := 8) (v := .ref bq) (C := RX10) (T := TX10) (N := 13) hx hb hts inX10 hown hK hP 0 rfl rfl 3 (Nat.le_of_ble_eq_true rfl) (hts _ mw_312) (fun _ h9 => h9) rfl dX10_join_189 ?_
                refine lv_aload hx hb dX10_join_192 (lv_at hl 0 rfl) ?_
                obtain ⟨hPc, hDc, hFc⟩ := zo_sub (wc := [_, _, _, _]) hP hD hS hA [6, 20, 21, 22] (by decide +kernel) rfl
                refine zcall (st1 := []) (va_runV (As := [.ref r6]) (rest := []) ⟨hx, hb, hml, hown, hts⟩ (k_Box_stretch l dC dI cI cZ cF H.size bq (mnI (X5 0).toInt X5 (nN (mn f0))) (mnI (Y5 0).toInt Y5 (nN (mn f0))) (mxI (X5 0).toInt X5 (nN (mn f0))) (mxI (Y5 0).toInt Y5 (nN (mn f0))) r6 rx6 ry6 (nN (mn g0)) cap6 X6 Y6 (rgK (kd g0).toInt) (⟨mnB ((pls_nr hp5).1 0 (by first | with_reducible assumption | omega)) (pls_nr hp5).1 _ (Nat.le_refl _), mnB ((pls_nr hp5).2 0 (by first | with_reducible assumption | omega)) (pls_nr hp5).2 _ (Nat.le_refl _), mxB ((pls_nr hp5).1 0 (by first | with_reducible assumption | omega)) (pls_nr hp5).1 _ (Nat.le_refl _), mxB ((pls_nr hp5).2 0 (by first | with_reducible assumption | omega)) (pls_nr hp5).2 _ (Nat.le_refl _)⟩) (by first | with_reducible assumption | omega) (by first | with_reducible assumption | omega) ((pls_nr hp6).1) ((pls_nr hp6).2)) (csV_130 hts rfl rfl ⟨Nat.le_of_ble_eq_true rfl, Nat.le_of_ble_eq_true rfl⟩) (zPV2 (q0 := 0) (ci := 0) hPc hDc hK3 hXN rfl rfl) rfl rfl hl.1 rfl (lv_room (Nat.le_of_ble_eq_true rfl)) dX10_join_194 ⟨Nat.le_of_ble_eq_true rfl, Nat.le_of_ble_eq_true rfl⟩) hS hFc hFc rfl (fun t H locs ht hB hk1 hS => ?_)
                obtain ⟨hP1, hD1⟩ := hB
                rw [ht] at hP1
                obtain ⟨hP, hD⟩ := znQ (W2 := [_, _, _, _, _, _, (oc0 bq (iI (mnI (mnI (X5 0).toInt X5 (nN (mn f0))) X6 (nN (mn g0)))) (iI (mnI (mnI (Y5 0).toInt Y5 (nN (mn f0))) Y6 (nN (mn g0)))) (iI (mxI (mxI (X5 0).toInt X5 (nN (mn f0))) X6 (nN (mn g0)))) (iI (mxI (mxI (Y5 0).toInt Y5 (nN (mn f0))) Y6 (nN (mn g0))))), _, _, _, _, _, _, _, _, _, _, _, _, _, _, _, _, _, _, _]) hP hD hk1 hFc hP1 hD1 [6, 20, 21, 22] zl_97 zl_97 [6, 20, 21, 22] (by decide +kernel) rfl rfl rfl rfl rfl
                clear hk1 hPc hDc hFc hP1 hD1 ht
                refine lv_aload_n hx hb dX10_join_197 rfl (lv_at hl 4 rfl) ?_
                refine va_get (D := (dC, dI)) (ci := 8) (v := .ref lw) (C := RX10) (T := TX10) (N := 13) hx hb hts inX10 hown hK hP 0 rfl rfl 1 (Nat.le_of_ble_eq_true rfl) (hts _ mw_310) (fun _ h9 => h9) rfl dX10_join_198 ?_
                refine va_get (D := (dC, dI)) (ci := 3) (v := .ref dr) (C := RX4) (T := TX4) (N := 6) hx hb hts inX4 hown hK hP 2 rfl rfl 0 (Nat.le_of_ble_eq_true rfl) (hts _ mw_220) (fun _ h9 => h9) rfl dX10_join_201 ?_
                refine lv_aload_n hx hb dX10_join_204 rfl (lv_at hl 4 rfl) ?_
                refine va_get (D := (dC, dI)) (ci := 8) (v := .ref bq) (C := RX10) (T := TX10) (N := 13) hx hb hts inX10 hown hK hP 0 rfl rfl 3 (Nat.le_of_ble_eq_true rfl) (hts _ mw_312) (fun _ h9 => h9) rfl dX10_join_205 ?_
                obtain ⟨hPc, hDc, hFc⟩ := zo_sub (wc := [_, _, _, _]) hP hD hS hA [3, 4, 5, 6] (by decide +kernel) rfl
                refine zcall (st1 := []) (va_runV (As := [.ref bq]) (rest := []) ⟨hx, hb, hml, hown, hts⟩ (k_Row_boxFrom l dC dI cI cZ cF H.size dr dx dy nd cd P Q rd bq (iI (mnI (mnI (X5 0).toInt X5 (nN (mn f0))) X6 (nN (mn g0)))) (iI (mnI (mnI (Y5 0).toInt Y5 (nN (mn f0))) Y6 (nN (mn g0)))) (iI (mxI (mxI (X5 0).toInt X5 (nN (mn f0))) X6 (nN (mn g0)))) (iI (mxI (mxI (Y5 0).toInt Y5 (nN (mn f0))) Y6 (nN (mn g0)))) (by first | with_reducible assumption | omega) (by first | with_reducible assumption | omega)) (csV_131 hts rfl rfl ⟨Nat.le_of_ble_eq_true rfl, Nat.le_of_ble_eq_true rfl⟩) (zPV2 (q0 := 0) (ci := 6) hPc hDc hK3 hXN rfl rfl) rfl rfl hl.1 rfl (lv_room (Nat.le_of_ble_eq_true rfl)) dX10_join_208 ⟨Nat.le_of_ble_eq_true rfl, Nat.le_of_ble_eq_true rfl⟩) hS hFc hFc rfl (fun t H locs ht hB hk1 hS => ?_)
                obtain ⟨hP1, hD1⟩ := hB
                rw [ht] at hP1
                obtain ⟨hP, hD⟩ := znQ (W2 := [_, _, _, (oc6 dr (.ref dx) (.ref dy) (nI 4) 1), (oa dx cI cd (upd (upd (upd (upd P 0 (iI (mnI (mnI (X5 0).toInt X5 (nN (mn f0))) X6 (nN (mn g0))))) 1 (iI (mxI (mxI (X5 0).toInt X5 (nN (mn f0))) X6 (nN (mn g0))))) 2 (iI (mxI (mxI (X5 0).toInt X5 (nN (mn f0))) X6 (nN (mn g0))))) 3 (iI (mnI (mnI (X5 0).toInt X5 (nN (mn f0))) X6 (nN (mn g0)))))), (oa dy cI cd (upd (upd (upd (upd Q 0 (iI (mnI (mnI (Y5 0).toInt Y5 (nN (mn f0))) Y6 (nN (mn g0))))) 1 (iI (mnI (mnI (Y5 0).toInt Y5 (nN (mn f0))) Y6 (nN (mn g0))))) 2 (iI (mxI (mxI (Y5 0).toInt Y5 (nN (mn f0))) Y6 (nN (mn g0))))) 3 (iI (mxI (mxI (Y5 0).toInt Y5 (nN (mn f0))) Y6 (nN (mn g0)))))), _, _, _, _, _, _, _, _, _, _, _, _, _, _, _, _, _, _, _, _]) hP hD hk1 hFc hP1 hD1 [3, 4, 5, 6] zl_98 zl_98 [3, 4, 5, 6] (by decide +kernel) rfl rfl rfl rfl rfl
                clear hk1 hPc hDc hFc hP1 hD1 ht
                obtain ⟨P7, hP7⟩ : ∃ z9 : Nat → Int32, z9 = upd (upd (upd (upd P 0 (iI (mnI (mnI (X5 0).toInt X5 (nN (mn f0))) X6 (nN (mn g0))))) 1 (iI (mxI (mxI (X5 0).toInt X5 (nN (mn f0))) X6 (nN (mn g0))))) 2 (iI (mxI (mxI (X5 0).toInt X5 (nN (mn f0))) X6 (nN (mn g0))))) 3 (iI (mnI (mnI (X5 0).toInt X5 (nN (mn f0))) X6 (nN (mn g0)))) := ⟨_, rfl⟩
                rw [← hP7] at hP hD
                obtain ⟨Q7, hQ7⟩ : ∃ z9 : Nat → Int32, z9 = upd (upd (upd (upd Q 0 (iI (mnI (mnI (Y5 0).toInt Y5 (nN (mn f0))) Y6 (nN (mn g0))))) 1 (iI (mnI (mnI (Y5 0).toInt Y5 (nN (mn f0))) Y6 (nN (mn g0))))) 2 (iI (mxI (mxI (Y5 0).toInt Y5 (nN (mn f0))) Y6 (nN (mn g0))))) 3 (iI (mxI (mxI (Y5 0).toInt Y5 (nN (mn f0))) Y6 (nN (mn g0)))) := ⟨_, rfl⟩
                rw [← hQ7] at hP hD
                obtain ⟨hP, hD⟩ := zre (W2 := ([_, _, _, _, _, _, _, _, _, _, _, _, _, _, _, _, _, _, _, _, _, _, _, _, _, _] ++ va_pl T_1 f)) hP hD rfl
                have hjb := jbox hX5 hX6 hw1.1
                have hp0 : P7 0 = z1 ∧ P7 1 = z3 ∧ P7 2 = z3 ∧ P7 3 = z1 := (by rw [hP7, hjb.1, hjb.2.1, ← hz1, ← hz3]; exact bx_4)
                have hq0 : Q7 0 = z2 ∧ Q7 1 = z2 ∧ Q7 2 = z4 ∧ Q7 3 = z4 := (by rw [hQ7, hjb.2.2.1, hjb.2.2.2, ← hz2, ← hz4]; exact bx_5)
                have hjp : pl z1 ∧ pl z3 ∧ pl z2 ∧ pl z4 := (by rw [hz1, hz2, hz3, hz4]; exact jpl hwf0.2.2 hw1.1 hwfg.2.2)
                have hpd7 : pls 4 P7 Q7 := pls4 hp0 hq0 hjp.1 hjp.2.1 hjp.2.2.1 hjp.2.2.2
                have hfre := free_iff (f := f0) (g := g0) h200 ⟨hp0.1, hq0.1⟩ ⟨hp0.2.1, hq0.2.1⟩ ⟨hp0.2.2.1, hq0.2.2.1⟩ ⟨hp0.2.2.2, hq0.2.2.2⟩ hwf hkn
                rw [show rgK 6 = (1 : Int32) by decide] at hfre
                refine lv_aload_n hx hb dX10_join_211 rfl (lv_at hl 4 rfl) ?_
                refine va_get (D := (dC, dI)) (ci := 8) (v := .ref lw) (C := RX10) (T := TX10) (N := 13) hx hb hts inX10 hown hK hP 0 rfl rfl 1 (Nat.le_of_ble_eq_true rfl) (hts _ mw_310) (fun _ h9 => h9) rfl dX10_join_212 ?_
                refine lv_aload_n hx hb dX10_join_215 rfl (lv_at hl 4 rfl) ?_
                refine va_get (D := (dC, dI)) (ci := 8) (v := .ref sh) (C := RX10) (T := TX10) (N := 13) hx hb hts inX10 hown hK hP 0 rfl rfl 0 (Nat.le_of_ble_eq_true rfl) (hts _ mw_309) (fun _ h9 => h9) rfl dX10_join_216 ?_
                refine lv_aload hx hb dX10_join_219 (lv_at hl 3 rfl) ?_
                refine lv_aload hx hb dX10_join_221 (lv_at hl 2 rfl) ?_
                obtain ⟨hPc, hDc, hFc, hI1⟩ := zi_part (cx := [_, _, _, _, _, _, _, _, _, _]) hP hD hS hA [2, 3, 4, 5, 8, 9, 10, 11, 18, 19] (by decide +kernel) rfl
                refine zcall (st1 := [.int (pI (∀ q, q < ft → (q ≠ f0 → q ≠ g0 → lvF ft st tn q → ¬ tch 4 P7 Q7 (1 : Int32) (nN (mn q)) (cF40 cx q) (cF40 cy q) (rgK (kd q).toInt) ∧ ¬ inF 5 4 P7 Q7 (cF40 cx q 0).toInt (cF40 cy q 0).toInt)))]) (va_runV (As := [.ref sh, .ref (fe f0), .ref (fe g0)]) (rest := []) ⟨hx, hb, hml, hown, hts⟩ (k_Law_isFreeFor_2 l dC dI cI cZ cF H.size lw dr tg wy br bo aa dx dy 4 cd P7 Q7 1 sh fa ft FA (fe f0) lo5 (rk f0) (wd f0) (tw f0) (pa f0) (pb f0) (la dn f0) (kd f0) (st f0) (gb f0) (it f0) (nI we5) r5 f0 (.null) (fe g0) lo6 (la dn g0) r6 g0 (rk g0) (wd g0) (tw g0) (pa g0) (pb g0) (kd g0) (st g0) (gb g0) (it g0) (nI we6) (.null) T_1 f kd st tn mn cx cy (by first | with_reducible assumption | omega) (by first | with_reducible assumption | omega) (hFA9 f0 (by first | with_reducible assumption | omega)) (hst) (by first | with_reducible assumption | omega) (hFA9 g0 (by first | with_reducible assumption | omega)) (hsg) (by rw [← hT_1]; exact sh_vw2 (q := f0) (p := g0) (A := [(oc1 (fe f0) (rk f0) (wd f0) (tw f0) (pa f0) (pb f0) (.ref lo5) (.ref (la dn f0)) .null), (oc4 (la dn f0) (kd f0) (st f0) (.ref r5) (gb f0) (it f0) (nI we5)), (oc6 r5 (.ref rx5) (.ref ry5) (nI (nN (mn f0))) (rgK (kd f0).toInt)), (oa rx5 cI cap5 X5), (oa ry5 cI cap5 Y5), (oc6 lo5 (.ref lx5) (.ref ly5) (nI ln5) 0), (oa lx5 cI (cl f0) LX5), (oa ly5 cI (cl f0) LY5)]) (B := [(oc1 (fe g0) (rk g0) (wd g0) (tw g0) (pa g0) (pb g0) (.ref lo6) (.ref (la dn g0)) .null), (oc4 (la dn g0) (kd g0) (st g0) (.ref r6) (gb g0) (it g0) (nI we6)), (oc6 r6 (.ref rx6) (.ref ry6) (nI (nN (mn g0))) (rgK (kd g0).toInt)), (oa rx6 cI cap6 X6), (oa ry6 cI cap6 Y6), (oc6 lo6 (.ref lx6) (.ref ly6) (nI ln6) 0), (oa lx6 cI (cl g0) LX6), (oa ly6 cI (cl g0) LY6)]) (fun r hr => fc_ne hc5 (by first | with_reducible assumption | omega) (by first | with_reducible assumption | omega) hr) (fun r hr => fc_ne hc6 (by first | with_reducible assumption | omega) (by first | with_reducible assumption | omega) hr) hG.1 hG.2.1 hFA9 (Nat.le_refl _)) (hwf) (hkn) (by first | with_reducible assumption | omega) (by first | with_reducible assumption | omega) (hpd7)) (csV_132 hts rfl rfl ⟨Nat.le_of_ble_eq_true rfl, Nat.le_of_ble_eq_true rfl⟩) (zPV2 (q0 := 0) (ci := 3) hPc hDc hK3 hXN rfl rfl) rfl rfl hl.1 rfl (lv_room (Nat.le_of_ble_eq_true rfl)) dX10_join_223 ⟨Nat.le_of_ble_eq_true rfl, Nat.le_of_ble_eq_true rfl⟩) hS hFc hFc rfl (fun t H locs ht hB hk1 hS => ?_)
                obtain ⟨hP1, hD1⟩ := hB
                rw [ht] at hP1
                replace hP := z0 hP hD hk1 hP1 hI1
                clear hk1 hPc hDc hFc hP1 hD1 ht hI1
                refine lv_if_ne (tgt := 236) hx hb dX10_join_226 rfl (fun c_7 => ?_) (fun c_7 => ?_)
                · have c_7 : ∀ q, q < ft → (q ≠ f0 → q ≠ g0 → lvF ft st tn q → ¬ tch 4 P7 Q7 (1 : Int32) (nN (mn q)) (cF40 cx q) (cF40 cy q) (rgK (kd q).toInt) ∧ ¬ inF 5 4 P7 Q7 (cF40 cx q 0).toInt (cF40 cy q 0).toInt) := zp_1 c_7
                  refine lv_aload_n hx hb dX10_join_236 rfl (lv_at hl 4 rfl) ?_
                  refine va_get (D := (dC, dI)) (ci := 8) (v := .ref sh) (C := RX10) (T := TX10) (N := 13) hx hb hts inX10 hown hK hP 0 rfl rfl 0 (Nat.le_of_ble_eq_true rfl) (hts _ mw_309) (fun _ h9 => h9) rfl dX10_join_237 ?_
                  obtain ⟨hPc, hDc, hFc, hI1⟩ := zi_sub (wc := [_, _]) hP hD hS hA [8, 9] rfl rfl
                  refine zcall (st1 := [.int (pI (ft = 200))]) (va_runV (As := []) (rest := []) ⟨hx, hb, hml, hown, hts⟩ (k_Sheet_isFull l dC dI cI cZ cF H.size sh fa ft FA (by first | with_reducible assumption | omega)) (csV_105 hts rfl rfl ⟨Nat.le_of_ble_eq_true rfl, Nat.le_of_ble_eq_true rfl⟩) (zPV2 (q0 := 0) (ci := 7) hPc hDc hK3 hXN rfl rfl) rfl rfl hl.1 rfl (lv_room (Nat.le_of_ble_eq_true rfl)) dX10_join_240 ⟨Nat.le_of_ble_eq_true rfl, Nat.le_of_ble_eq_true rfl⟩) hS hFc hFc rfl (fun t H locs ht hB hk1 hS => ?_)
                  obtain ⟨hP1, hD1⟩ := hB
                  rw [ht] at hP1
                  replace hP := z0 hP hD hk1 hP1 hI1
                  clear hk1 hPc hDc hFc hP1 hD1 ht hI1
                  refine lv_if_ne (tgt := 253) hx hb dX10_join_243 rfl (fun c_8 => ?_) (fun c_8 => ?_)
                  · have c_8 : ft = 200 := zp_1 c_8
                    refine lv_aload_n hx hb dX10_join_253 rfl (lv_at hl 4 rfl) ?_
                    refine lv_bipush (v := 8) hx hb dX10_join_254 rfl ?_
                    obtain ⟨hPc, hDc, hFc⟩ := zo_sub (wc := [_]) hP hD hS hA [0] rfl rfl
                    refine zcall (st1 := [.int (-1)]) (va_runV (As := [.int 8]) (rest := []) ⟨hx, hb, hml, hown, hts⟩ (k_refuse_8 l dC dI cI cZ cF H.size x sh lw ro bq bp dq dp lv sl sd ul su (nI dn) ) (csV_95 hts rfl rfl ⟨Nat.le_of_ble_eq_true rfl, Nat.le_of_ble_eq_true rfl⟩) (zPV2 (q0 := 0) (ci := 8) hPc hDc hK3 hXN rfl rfl) rfl rfl hl.1 rfl (lv_room (Nat.le_of_ble_eq_true rfl)) dX10_join_256 ⟨Nat.le_of_ble_eq_true rfl, Nat.le_of_ble_eq_true rfl⟩) hS hFc hFc rfl (fun t H locs ht hB hk1 hS => ?_)
                    obtain ⟨hP1, hD1⟩ := hB
                    rw [ht] at hP1
                    obtain ⟨hP, hD⟩ := znQ (W2 := [(oc8 x (.ref sh) (.ref lw) (.ref ro) (.ref bq) (.ref bp) (.ref dq) (.ref dp) (.ref lv) (.ref sl) (nI dn) sd ul 8), _, _, _, _, _, _, _, _, _, _, _, _, _, _, _, _, _, _, _, _, _, _, _, _, _]) hP hD hk1 hFc hP1 hD1 [0] zl_99 zl_99 [0] (by decide +kernel) rfl rfl rfl rfl rfl
                    clear hk1 hPc hDc hFc hP1 hD1 ht
                    obtain ⟨hP, hD⟩ := pl_bk (X := [_, _, _, _, _, _, _, _, _, _]) hT_1 hP rfl hc9_1 hD0_1 rfl
                    obtain ⟨hP9, hD9⟩ := zu_part (cx := [_, _, _, _, _, _, _, _, _, _]) hP hD [true, true, true, true, true, true, true, true, true, true] rfl rfl
                    rw [hQ9]
                    exact W.iret (v := (-1)) hx hb hr (fun t ht hW => ⟨⟨rfl, ul, 8, 4, P7, Q7, 1, (iI (mnI (mnI (X5 0).toInt X5 (nN (mn f0))) X6 (nN (mn g0)))), (iI (mnI (mnI (Y5 0).toInt Y5 (nN (mn f0))) Y6 (nN (mn g0)))), (iI (mxI (mxI (X5 0).toInt X5 (nN (mn f0))) X6 (nN (mn g0)))), (iI (mxI (mxI (Y5 0).toInt Y5 (nN (mn f0))) Y6 (nN (mn g0)))), (jI 0), (jI 1), by rw [ht]; exact hP9, hD9⟩, hS.F ht⟩) hS.2.2 dX10_join_259
                  · have c_8 : ¬ (ft = 200) := zp_0 c_8
                    refine lv_aload hx hb dX10_join_246 (lv_at hl 3 rfl) ?_
                    refine lv_aload hx hb dX10_join_248 (lv_at hl 2 rfl) ?_
                    refine z_acmpne (rx := (fe f0)) (ry := (fe g0)) (tgt := 260) hx hb dX10_join_250 (by decide) (fun c_9 => ?_) (fun c_9 => ?_)
                    · have c_9 : ¬ (fe f0) = (fe g0) := c_9
                      exact absurd ⟨fun h => absurd (hfar9.mpr h) (by first | with_reducible assumption | assumption), hfre.mp (by first | with_reducible assumption | assumption), by omega⟩ hbad
                    · have c_9 : (fe f0) = (fe g0) := c_9
                      refine lv_aload_n hx hb dX10_join_253 rfl (lv_at hl 4 rfl) ?_
                      refine lv_bipush (v := 8) hx hb dX10_join_254 rfl ?_
                      obtain ⟨hPc, hDc, hFc⟩ := zo_sub (wc := [_]) hP hD hS hA [0] rfl rfl
                      refine zcall (st1 := [.int (-1)]) (va_runV (As := [.int 8]) (rest := []) ⟨hx, hb, hml, hown, hts⟩ (k_refuse_8 l dC dI cI cZ cF H.size x sh lw ro bq bp dq dp lv sl sd ul su (nI dn) ) (csV_95 hts rfl rfl ⟨Nat.le_of_ble_eq_true rfl, Nat.le_of_ble_eq_true rfl⟩) (zPV2 (q0 := 0) (ci := 8) hPc hDc hK3 hXN rfl rfl) rfl rfl hl.1 rfl (lv_room (Nat.le_of_ble_eq_true rfl)) dX10_join_256 ⟨Nat.le_of_ble_eq_true rfl, Nat.le_of_ble_eq_true rfl⟩) hS hFc hFc rfl (fun t H locs ht hB hk1 hS => ?_)
                      obtain ⟨hP1, hD1⟩ := hB
                      rw [ht] at hP1
                      obtain ⟨hP, hD⟩ := znQ (W2 := [(oc8 x (.ref sh) (.ref lw) (.ref ro) (.ref bq) (.ref bp) (.ref dq) (.ref dp) (.ref lv) (.ref sl) (nI dn) sd ul 8), _, _, _, _, _, _, _, _, _, _, _, _, _, _, _, _, _, _, _, _, _, _, _, _, _]) hP hD hk1 hFc hP1 hD1 [0] zl_99 zl_99 [0] (by decide +kernel) rfl rfl rfl rfl rfl
                      clear hk1 hPc hDc hFc hP1 hD1 ht
                      obtain ⟨hP, hD⟩ := pl_bk (X := [_, _, _, _, _, _, _, _, _, _]) hT_1 hP rfl hc9_1 hD0_1 rfl
                      obtain ⟨hP9, hD9⟩ := zu_part (cx := [_, _, _, _, _, _, _, _, _, _]) hP hD [true, true, true, true, true, true, true, true, true, true] rfl rfl
                      rw [hQ9]
                      exact W.iret (v := (-1)) hx hb hr (fun t ht hW => ⟨⟨rfl, ul, 8, 4, P7, Q7, 1, (iI (mnI (mnI (X5 0).toInt X5 (nN (mn f0))) X6 (nN (mn g0)))), (iI (mnI (mnI (Y5 0).toInt Y5 (nN (mn f0))) Y6 (nN (mn g0)))), (iI (mxI (mxI (X5 0).toInt X5 (nN (mn f0))) X6 (nN (mn g0)))), (iI (mxI (mxI (Y5 0).toInt Y5 (nN (mn f0))) Y6 (nN (mn g0)))), (jI 0), (jI 1), by rw [ht]; exact hP9, hD9⟩, hS.F ht⟩) hS.2.2 dX10_join_259
                · have c_7 : ¬ (∀ q, q < ft → (q ≠ f0 → q ≠ g0 → lvF ft st tn q → ¬ tch 4 P7 Q7 (1 : Int32) (nN (mn q)) (cF40 cx q) (cF40 cy q) (rgK (kd q).toInt) ∧ ¬ inF 5 4 P7 Q7 (cF40 cx q 0).toInt (cF40 cy q 0).toInt)) := zp_0 c_7
                  refine lv_aload_n hx hb dX10_join_229 rfl (lv_at hl 4 rfl) ?_
                  refine lv_bipush (v := 7) hx hb dX10_join_230 rfl ?_
                  obtain ⟨hPc, hDc, hFc⟩ := zo_sub (wc := [_]) hP hD hS hA [0] rfl rfl
                  refine zcall (st1 := [.int (-1)]) (va_runV (As := [.int 7]) (rest := []) ⟨hx, hb, hml, hown, hts⟩ (k_refuse_7 l dC dI cI cZ cF H.size x sh lw ro bq bp dq dp lv sl sd ul su (nI dn) ) (csV_95 hts rfl rfl ⟨Nat.le_of_ble_eq_true rfl, Nat.le_of_ble_eq_true rfl⟩) (zPV2 (q0 := 0) (ci := 8) hPc hDc hK3 hXN rfl rfl) rfl rfl hl.1 rfl (lv_room (Nat.le_of_ble_eq_true rfl)) dX10_join_232 ⟨Nat.le_of_ble_eq_true rfl, Nat.le_of_ble_eq_true rfl⟩) hS hFc hFc rfl (fun t H locs ht hB hk1 hS => ?_)
                  obtain ⟨hP1, hD1⟩ := hB
                  rw [ht] at hP1
                  obtain ⟨hP, hD⟩ := znQ (W2 := [(oc8 x (.ref sh) (.ref lw) (.ref ro) (.ref bq) (.ref bp) (.ref dq) (.ref dp) (.ref lv) (.ref sl) (nI dn) sd (ul + 1) 7), _, _, _, _, _, _, _, _, _, _, _, _, _, _, _, _, _, _, _, _, _, _, _, _, _]) hP hD hk1 hFc hP1 hD1 [0] zl_99 zl_99 [0] (by decide +kernel) rfl rfl rfl rfl rfl
                  clear hk1 hPc hDc hFc hP1 hD1 ht
                  obtain ⟨hP, hD⟩ := pl_bk (X := [_, _, _, _, _, _, _, _, _, _]) hT_1 hP rfl hc9_1 hD0_1 rfl
                  obtain ⟨hP9, hD9⟩ := zu_part (cx := [_, _, _, _, _, _, _, _, _, _]) hP hD [true, true, true, true, true, true, true, true, true, true] rfl rfl
                  rw [hQ9]
                  exact W.iret (v := (-1)) hx hb hr (fun t ht hW => ⟨⟨rfl, (ul + 1), 7, 4, P7, Q7, 1, (iI (mnI (mnI (X5 0).toInt X5 (nN (mn f0))) X6 (nN (mn g0)))), (iI (mnI (mnI (Y5 0).toInt Y5 (nN (mn f0))) Y6 (nN (mn g0)))), (iI (mxI (mxI (X5 0).toInt X5 (nN (mn f0))) X6 (nN (mn g0)))), (iI (mxI (mxI (Y5 0).toInt Y5 (nN (mn f0))) Y6 (nN (mn g0)))), (jI 0), (jI 1), by rw [ht]; exact hP9, hD9⟩, hS.F ht⟩) hS.2.2 dX10_join_235
              · have c_6 : gp9.toInt * gp9.toInt * 1 < 0 := zp_1 c_6
                refine lv_aload_n hx hb dX10_join_173 rfl (lv_at hl 4 rfl) ?_
                refine lv_iconst (v := 4) hx hb dX10_join_174 rfl ?_
                obtain ⟨hPc, hDc, hFc⟩ := zo_sub (wc := [_]) hP hD hS hA [0] rfl rfl
                refine zcall (st1 := [.int (-1)]) (va_runV (As := [.int 4]) (rest := []) ⟨hx, hb, hml, hown, hts⟩ (k_refuse_4 l dC dI cI cZ cF H.size x sh lw ro bq bp dq dp lv sl sd ul su (nI dn) ) (csV_95 hts rfl rfl ⟨Nat.le_of_ble_eq_true rfl, Nat.le_of_ble_eq_true rfl⟩) (zPV2 (q0 := 0) (ci := 8) hPc hDc hK3 hXN rfl rfl) rfl rfl hl.1 rfl (lv_room (Nat.le_of_ble_eq_true rfl)) dX10_join_175 ⟨Nat.le_of_ble_eq_true rfl, Nat.le_of_ble_eq_true rfl⟩) hS hFc hFc rfl (fun t H locs ht hB hk1 hS => ?_)
                obtain ⟨hP1, hD1⟩ := hB
                rw [ht] at hP1
                obtain ⟨hP, hD⟩ := znQ (W2 := [(oc8 x (.ref sh) (.ref lw) (.ref ro) (.ref bq) (.ref bp) (.ref dq) (.ref dp) (.ref lv) (.ref sl) (nI dn) sd ul 4), _, _, _, _, _, _, _, _, _, _, _, _, _, _, _, _, _, _, _, _, _, _, _, _, _]) hP hD hk1 hFc hP1 hD1 [0] zl_99 zl_99 [0] (by decide +kernel) rfl rfl rfl rfl rfl
                clear hk1 hPc hDc hFc hP1 hD1 ht
                obtain ⟨hP, hD⟩ := pl_bk (X := [_, _, _, _, _, _, _, _, _, _]) hT_1 hP rfl hc9_1 hD0_1 rfl
                obtain ⟨hP9, hD9⟩ := zu_part (cx := [_, _, _, _, _, _, _, _, _, _]) hP hD [true, true, true, true, true, true, true, true, true, true] rfl rfl
                rw [hQ9]
                exact W.iret (v := (-1)) hx hb hr (fun t ht hW => ⟨⟨rfl, ul, 4, nd, P, Q, rd, c1, c2, c3, c4, (jI 0), (jI 1), by rw [ht]; exact hP9, hD9⟩, hS.F ht⟩) hS.2.2 dX10_join_178
            · skip
              refine lv_aload_n hx hb dX10_join_151 rfl (lv_at hl 4 rfl) ?_
              refine va_get (D := (dC, dI)) (ci := 8) (v := .ref dq) (C := RX10) (T := TX10) (N := 13) hx hb hts inX10 hown hK hP 0 rfl rfl 5 (Nat.le_of_ble_eq_true rfl) (hts _ mw_314) (fun _ h9 => h9) rfl dX10_join_152 ?_
              refine lv_aload hx hb dX10_join_155 (lv_at hl 1 rfl) ?_
              refine lv_aload hx hb dX10_join_157 (lv_at hl 0 rfl) ?_
              obtain ⟨hPc, hDc, hFc⟩ := zo_sub (wc := [_, _, _, _, _, _, _]) hP hD hS hA [7, 12, 13, 14, 20, 21, 22] (by decide +kernel) rfl
              refine zcall (st1 := []) (va_runV (As := [.ref r5, .ref r6]) (rest := []) ⟨hx, hb, hml, hown, hts⟩ (k_Fr_between_n l dC dI cI cZ cF H.size dq y1 y2 r5 rx5 ry5 (nN (mn f0)) cap5 X5 Y5 (rgK (kd f0).toInt) r6 rx6 ry6 (nN (mn g0)) cap6 X6 Y6 (rgK (kd g0).toInt) (by first | with_reducible assumption | omega) (by first | with_reducible assumption | omega) (hp5) (by first | with_reducible assumption | omega) (by first | with_reducible assumption | omega) (hp6) (htc) (by first | with_reducible assumption | omega) (by first | with_reducible assumption | omega) (by rw [prt_eO (rgK_t _) hkn0]; unfold eO; split; omega; split <;> omega) (by rw [prt_eO (rgK_t _) hkng]; unfold eO; split; omega; split <;> omega)) (csV_127 hts rfl rfl ⟨Nat.le_of_ble_eq_true rfl, Nat.le_of_ble_eq_true rfl⟩) (zPV2 (q0 := 0) (ci := 2) hPc hDc hK3 hXN rfl rfl) rfl rfl hl.1 rfl (lv_room (Nat.le_of_ble_eq_true rfl)) dX10_join_159 ⟨Nat.le_of_ble_eq_true rfl, Nat.le_of_ble_eq_true rfl⟩) hS hFc hFc rfl (fun t H locs ht hB hk1 hS => ?_)
              obtain ⟨zu7, zd7, him7, hzb7, hP1, hD1⟩ := hB
              rw [ht] at hP1
              obtain ⟨hP, hD⟩ := znQ (W2 := [_, _, _, _, _, _, _, (oc2 dq (jI zu7) (jI zd7)), _, _, _, _, _, _, _, _, _, _, _, _, _, _, _, _, _, _]) hP hD hk1 hFc hP1 hD1 [7, 12, 13, 14, 20, 21, 22] zl_95 zl_95 [7, 12, 13, 14, 20, 21, 22] (by decide +kernel) rfl rfl rfl rfl rfl
              clear hk1 hPc hDc hFc hP1 hD1 ht
              have hfar9 : gp9.toInt * gp9.toInt * zd7 < zu7 ↔ (¬ mtF (kd f0).toInt (nN (mn f0)) (cF40 cx f0) (cF40 cy f0) (kd g0).toInt (nN (mn g0)) (cF40 cx g0) (cF40 cy g0) ∧ ∀ u d : Nat, 1 ≤ d → IM (dcP (nN (mn f0)) (cF40 cx f0) (cF40 cy f0) (nN (mn g0)) (cF40 cx g0) (cF40 cy g0) (eO (kd g0).toInt (nN (mn g0))) (eO (kd f0).toInt (nN (mn f0))) 0) ((u : Nat) : Int) ((d : Nat) : Int) → gp9.toInt * gp9.toInt * ((d : Nat) : Int) < ((u : Nat) : Int)) := jfar_iff hX5 hX6 hkn0 hkng him7 (by omega) (fun h => htc (hti.mpr h))
              refine lv_aload_n hx hb dX10_join_162 rfl (lv_at hl 4 rfl) ?_
              refine va_get (D := (dC, dI)) (ci := 8) (v := .ref dq) (C := RX10) (T := TX10) (N := 13) hx hb hts inX10 hown hK hP 0 rfl rfl 5 (Nat.le_of_ble_eq_true rfl) (hts _ mw_314) (fun _ h9 => h9) rfl dX10_join_163 ?_
              refine lv_iload_n hx hb dX10_join_166 rfl (lv_at hl 7 rfl) ?_
              obtain ⟨hPc, hDc, hFc, hI1⟩ := zi_sub (wc := [_]) hP hD hS hA [7] rfl rfl
              refine zcall (st1 := [.int (pI (gp9.toInt * gp9.toInt * zd7 < zu7))]) (va_runV (As := [.int gp9]) (rest := []) ⟨hx, hb, hml, hown, hts⟩ (k_Fr_isOver l dC dI cI cZ cF H.size dq zu7 zd7 gp9 (by first | with_reducible assumption | omega) (by first | with_reducible assumption | omega) (hgp)) (csV_128 hts rfl rfl ⟨Nat.le_of_ble_eq_true rfl, Nat.le_of_ble_eq_true rfl⟩) (zPV2 (q0 := 0) (ci := 2) hPc hDc hK3 hXN rfl rfl) rfl rfl hl.1 rfl (lv_room (Nat.le_of_ble_eq_true rfl)) dX10_join_167 ⟨Nat.le_of_ble_eq_true rfl, Nat.le_of_ble_eq_true rfl⟩) hS hFc hFc rfl (fun t H locs ht hB hk1 hS => ?_)
              obtain ⟨hP1, hD1⟩ := hB
              rw [ht] at hP1
              replace hP := z0 hP hD hk1 hP1 hI1
              clear hk1 hPc hDc hFc hP1 hD1 ht hI1
              refine lv_if_eq (tgt := 179) hx hb dX10_join_170 rfl (fun c_10 => ?_) (fun c_10 => ?_)
              · have c_10 : ¬ (gp9.toInt * gp9.toInt * zd7 < zu7) := zp_0 c_10
                refine lv_aload_n hx hb dX10_join_179 rfl (lv_at hl 4 rfl) ?_
                refine va_get (D := (dC, dI)) (ci := 8) (v := .ref bq) (C := RX10) (T := TX10) (N := 13) hx hb hts inX10 hown hK hP 0 rfl rfl 3 (Nat.le_of_ble_eq_true rfl) (hts _ mw_312) (fun _ h9 => h9) rfl dX10_join_180 ?_
                refine lv_aload hx hb dX10_join_183 (lv_at hl 1 rfl) ?_
                obtain ⟨hPc, hDc, hFc⟩ := zo_sub (wc := [_, _, _, _]) hP hD hS hA [6, 12, 13, 14] (by decide +kernel) rfl
                refine zcall (st1 := []) (va_runV (As := [.ref r5]) (rest := []) ⟨hx, hb, hml, hown, hts⟩ (k_Box_cover l dC dI cI cZ cF H.size bq c1 c2 c3 c4 r5 rx5 ry5 (nN (mn f0)) cap5 X5 Y5 (rgK (kd f0).toInt) (by first | with_reducible assumption | omega) (by first | with_reducible assumption | omega) ((pls_nr hp5).1) ((pls_nr hp5).2) (by first | with_reducible assumption | omega)) (csV_129 hts rfl rfl ⟨Nat.le_of_ble_eq_true rfl, Nat.le_of_ble_eq_true rfl⟩) (zPV2 (q0 := 0) (ci := 0) hPc hDc hK3 hXN rfl rfl) rfl rfl hl.1 rfl (lv_room (Nat.le_of_ble_eq_true rfl)) dX10_join_185 ⟨Nat.le_of_ble_eq_true rfl, Nat.le_of_ble_eq_true rfl⟩) hS hFc hFc rfl (fun t H locs ht hB hk1 hS => ?_)
                obtain ⟨hP1, hD1⟩ := hB
                rw [ht] at hP1
                obtain ⟨hP, hD⟩ := znQ (W2 := [_, _, _, _, _, _, (oc0 bq (iI (mnI (X5 0).toInt X5 (nN (mn f0)))) (iI (mnI (Y5 0).toInt Y5 (nN (mn f0)))) (iI (mxI (X5 0).toInt X5 (nN (mn f0)))) (iI (mxI (Y5 0).toInt Y5 (nN (mn f0))))), _, _, _, _, _, _, _, _, _, _, _, _, _, _, _, _, _, _, _]) hP hD hk1 hFc hP1 hD1 [6, 12, 13, 14] zl_96 zl_96 [6, 12, 13, 14] (by decide +kernel) rfl rfl rfl rfl rfl
                clear hk1 hPc hDc hFc hP1 hD1 ht
                refine lv_aload_n hx hb dX10_join_188 rfl (lv_at hl 4 rfl) ?_
                refine va_get (D := (dC, dI)) (ci := 8) (v := .ref bq) (C := RX10) (T := TX10) (N := 13) hx hb hts inX10 hown hK hP 0 rfl rfl 3 (Nat.le_of_ble_eq_true rfl) (hts _ mw_312) (fun _ h9 => h9) rfl dX10_join_189 ?_
                refine lv_aload hx hb dX10_join_192 (lv_at hl 0 rfl) ?_
                obtain ⟨hPc, hDc, hFc⟩ := zo_sub (wc := [_, _, _, _]) hP hD hS hA [6, 20, 21, 22] (by decide +kernel) rfl
                refine zcall (st1 := []) (va_runV (As := [.ref r6]) (rest := []) ⟨hx, hb, hml, hown, hts⟩ (k_Box_stretch l dC dI cI cZ cF H.size bq (mnI (X5 0).toInt X5 (nN (mn f0))) (mnI (Y5 0).toInt Y5 (nN (mn f0))) (mxI (X5 0).toInt X5 (nN (mn f0))) (mxI (Y5 0).toInt Y5 (nN (mn f0))) r6 rx6 ry6 (nN (mn g0)) cap6 X6 Y6 (rgK (kd g0).toInt) (⟨mnB ((pls_nr hp5).1 0 (by first | with_reducible assumption | omega)) (pls_nr hp5).1 _ (Nat.le_refl _), mnB ((pls_nr hp5).2 0 (by first | with_reducible assumption | omega)) (pls_nr hp5).2 _ (Nat.le_refl _), mxB ((pls_nr hp5).1 0 (by first | with_reducible assumption | omega)) (pls_nr hp5).1 _ (Nat.le_refl _), mxB ((pls_nr hp5).2 0 (by first | with_reducible assumption | omega)) (pls_nr hp5).2 _ (Nat.le_refl _)⟩) (by first | with_reducible assumption | omega) (by first | with_reducible assumption | omega) ((pls_nr hp6).1) ((pls_nr hp6).2)) (csV_130 hts rfl rfl ⟨Nat.le_of_ble_eq_true rfl, Nat.le_of_ble_eq_true rfl⟩) (zPV2 (q0 := 0) (ci := 0) hPc hDc hK3 hXN rfl rfl) rfl rfl hl.1 rfl (lv_room (Nat.le_of_ble_eq_true rfl)) dX10_join_194 ⟨Nat.le_of_ble_eq_true rfl, Nat.le_of_ble_eq_true rfl⟩) hS hFc hFc rfl (fun t H locs ht hB hk1 hS => ?_)
                obtain ⟨hP1, hD1⟩ := hB
                rw [ht] at hP1
                obtain ⟨hP, hD⟩ := znQ (W2 := [_, _, _, _, _, _, (oc0 bq (iI (mnI (mnI (X5 0).toInt X5 (nN (mn f0))) X6 (nN (mn g0)))) (iI (mnI (mnI (Y5 0).toInt Y5 (nN (mn f0))) Y6 (nN (mn g0)))) (iI (mxI (mxI (X5 0).toInt X5 (nN (mn f0))) X6 (nN (mn g0)))) (iI (mxI (mxI (Y5 0).toInt Y5 (nN (mn f0))) Y6 (nN (mn g0))))), _, _, _, _, _, _, _, _, _, _, _, _, _, _, _, _, _, _, _]) hP hD hk1 hFc hP1 hD1 [6, 20, 21, 22] zl_97 zl_97 [6, 20, 21, 22] (by decide +kernel) rfl rfl rfl rfl rfl
                clear hk1 hPc hDc hFc hP1 hD1 ht
                refine lv_aload_n hx hb dX10_join_197 rfl (lv_at hl 4 rfl) ?_
                refine va_get (D := (dC, dI)) (ci := 8) (v := .ref lw) (C := RX10) (T := TX10) (N := 13) hx hb hts inX10 hown hK hP 0 rfl rfl 1 (Nat.le_of_ble_eq_true rfl) (hts _ mw_310) (fun _ h9 => h9) rfl dX10_join_198 ?_
                refine va_get (D := (dC, dI)) (ci := 3) (v := .ref dr) (C := RX4) (T := TX4) (N := 6) hx hb hts inX4 hown hK hP 2 rfl rfl 0 (Nat.le_of_ble_eq_true rfl) (hts _ mw_220) (fun _ h9 => h9) rfl dX10_join_201 ?_
                refine lv_aload_n hx hb dX10_join_204 rfl (lv_at hl 4 rfl) ?_
                refine va_get (D := (dC, dI)) (ci := 8) (v := .ref bq) (C := RX10) (T := TX10) (N := 13) hx hb hts inX10 hown hK hP 0 rfl rfl 3 (Nat.le_of_ble_eq_true rfl) (hts _ mw_312) (fun _ h9 => h9) rfl dX10_join_205 ?_
                obtain ⟨hPc, hDc, hFc⟩ := zo_sub (wc := [_, _, _, _]) hP hD hS hA [3, 4, 5, 6] (by decide +kernel) rfl
                refine zcall (st1 := []) (va_runV (As := [.ref bq]) (rest := []) ⟨hx, hb, hml, hown, hts⟩ (k_Row_boxFrom l dC dI cI cZ cF H.size dr dx dy nd cd P Q rd bq (iI (mnI (mnI (X5 0).toInt X5 (nN (mn f0))) X6 (nN (mn g0)))) (iI (mnI (mnI (Y5 0).toInt Y5 (nN (mn f0))) Y6 (nN (mn g0)))) (iI (mxI (mxI (X5 0).toInt X5 (nN (mn f0))) X6 (nN (mn g0)))) (iI (mxI (mxI (Y5 0).toInt Y5 (nN (mn f0))) Y6 (nN (mn g0)))) (by first | with_reducible assumption | omega) (by first | with_reducible assumption | omega)) (csV_131 hts rfl rfl ⟨Nat.le_of_ble_eq_true rfl, Nat.le_of_ble_eq_true rfl⟩) (zPV2 (q0 := 0) (ci := 6) hPc hDc hK3 hXN rfl rfl) rfl rfl hl.1 rfl (lv_room (Nat.le_of_ble_eq_true rfl)) dX10_join_208 ⟨Nat.le_of_ble_eq_true rfl, Nat.le_of_ble_eq_true rfl⟩) hS hFc hFc rfl (fun t H locs ht hB hk1 hS => ?_)
                obtain ⟨hP1, hD1⟩ := hB
                rw [ht] at hP1
                obtain ⟨hP, hD⟩ := znQ (W2 := [_, _, _, (oc6 dr (.ref dx) (.ref dy) (nI 4) 1), (oa dx cI cd (upd (upd (upd (upd P 0 (iI (mnI (mnI (X5 0).toInt X5 (nN (mn f0))) X6 (nN (mn g0))))) 1 (iI (mxI (mxI (X5 0).toInt X5 (nN (mn f0))) X6 (nN (mn g0))))) 2 (iI (mxI (mxI (X5 0).toInt X5 (nN (mn f0))) X6 (nN (mn g0))))) 3 (iI (mnI (mnI (X5 0).toInt X5 (nN (mn f0))) X6 (nN (mn g0)))))), (oa dy cI cd (upd (upd (upd (upd Q 0 (iI (mnI (mnI (Y5 0).toInt Y5 (nN (mn f0))) Y6 (nN (mn g0))))) 1 (iI (mnI (mnI (Y5 0).toInt Y5 (nN (mn f0))) Y6 (nN (mn g0))))) 2 (iI (mxI (mxI (Y5 0).toInt Y5 (nN (mn f0))) Y6 (nN (mn g0))))) 3 (iI (mxI (mxI (Y5 0).toInt Y5 (nN (mn f0))) Y6 (nN (mn g0)))))), _, _, _, _, _, _, _, _, _, _, _, _, _, _, _, _, _, _, _, _]) hP hD hk1 hFc hP1 hD1 [3, 4, 5, 6] zl_98 zl_98 [3, 4, 5, 6] (by decide +kernel) rfl rfl rfl rfl rfl
                clear hk1 hPc hDc hFc hP1 hD1 ht
                obtain ⟨P7, hP7⟩ : ∃ z9 : Nat → Int32, z9 = upd (upd (upd (upd P 0 (iI (mnI (mnI (X5 0).toInt X5 (nN (mn f0))) X6 (nN (mn g0))))) 1 (iI (mxI (mxI (X5 0).toInt X5 (nN (mn f0))) X6 (nN (mn g0))))) 2 (iI (mxI (mxI (X5 0).toInt X5 (nN (mn f0))) X6 (nN (mn g0))))) 3 (iI (mnI (mnI (X5 0).toInt X5 (nN (mn f0))) X6 (nN (mn g0)))) := ⟨_, rfl⟩
                rw [← hP7] at hP hD
                obtain ⟨Q7, hQ7⟩ : ∃ z9 : Nat → Int32, z9 = upd (upd (upd (upd Q 0 (iI (mnI (mnI (Y5 0).toInt Y5 (nN (mn f0))) Y6 (nN (mn g0))))) 1 (iI (mnI (mnI (Y5 0).toInt Y5 (nN (mn f0))) Y6 (nN (mn g0))))) 2 (iI (mxI (mxI (Y5 0).toInt Y5 (nN (mn f0))) Y6 (nN (mn g0))))) 3 (iI (mxI (mxI (Y5 0).toInt Y5 (nN (mn f0))) Y6 (nN (mn g0)))) := ⟨_, rfl⟩
                rw [← hQ7] at hP hD
                obtain ⟨hP, hD⟩ := zre (W2 := ([_, _, _, _, _, _, _, _, _, _, _, _, _, _, _, _, _, _, _, _, _, _, _, _, _, _] ++ va_pl T_1 f)) hP hD rfl
                have hjb := jbox hX5 hX6 hw1.1
                have hp0 : P7 0 = z1 ∧ P7 1 = z3 ∧ P7 2 = z3 ∧ P7 3 = z1 := (by rw [hP7, hjb.1, hjb.2.1, ← hz1, ← hz3]; exact bx_4)
                have hq0 : Q7 0 = z2 ∧ Q7 1 = z2 ∧ Q7 2 = z4 ∧ Q7 3 = z4 := (by rw [hQ7, hjb.2.2.1, hjb.2.2.2, ← hz2, ← hz4]; exact bx_5)
                have hjp : pl z1 ∧ pl z3 ∧ pl z2 ∧ pl z4 := (by rw [hz1, hz2, hz3, hz4]; exact jpl hwf0.2.2 hw1.1 hwfg.2.2)
                have hpd7 : pls 4 P7 Q7 := pls4 hp0 hq0 hjp.1 hjp.2.1 hjp.2.2.1 hjp.2.2.2
                have hfre := free_iff (f := f0) (g := g0) h200 ⟨hp0.1, hq0.1⟩ ⟨hp0.2.1, hq0.2.1⟩ ⟨hp0.2.2.1, hq0.2.2.1⟩ ⟨hp0.2.2.2, hq0.2.2.2⟩ hwf hkn
                rw [show rgK 6 = (1 : Int32) by decide] at hfre
                refine lv_aload_n hx hb dX10_join_211 rfl (lv_at hl 4 rfl) ?_
                refine va_get (D := (dC, dI)) (ci := 8) (v := .ref lw) (C := RX10) (T := TX10) (N := 13) hx hb hts inX10 hown hK hP 0 rfl rfl 1 (Nat.le_of_ble_eq_true rfl) (hts _ mw_310) (fun _ h9 => h9) rfl dX10_join_212 ?_
                refine lv_aload_n hx hb dX10_join_215 rfl (lv_at hl 4 rfl) ?_
                refine va_get (D := (dC, dI)) (ci := 8) (v := .ref sh) (C := RX10) (T := TX10) (N := 13) hx hb hts inX10 hown hK hP 0 rfl rfl 0 (Nat.le_of_ble_eq_true rfl) (hts _ mw_309) (fun _ h9 => h9) rfl dX10_join_216 ?_
                refine lv_aload hx hb dX10_join_219 (lv_at hl 3 rfl) ?_
                refine lv_aload hx hb dX10_join_221 (lv_at hl 2 rfl) ?_
                obtain ⟨hPc, hDc, hFc, hI1⟩ := zi_part (cx := [_, _, _, _, _, _, _, _, _, _]) hP hD hS hA [2, 3, 4, 5, 8, 9, 10, 11, 18, 19] (by decide +kernel) rfl
                refine zcall (st1 := [.int (pI (∀ q, q < ft → (q ≠ f0 → q ≠ g0 → lvF ft st tn q → ¬ tch 4 P7 Q7 (1 : Int32) (nN (mn q)) (cF40 cx q) (cF40 cy q) (rgK (kd q).toInt) ∧ ¬ inF 5 4 P7 Q7 (cF40 cx q 0).toInt (cF40 cy q 0).toInt)))]) (va_runV (As := [.ref sh, .ref (fe f0), .ref (fe g0)]) (rest := []) ⟨hx, hb, hml, hown, hts⟩ (k_Law_isFreeFor_2 l dC dI cI cZ cF H.size lw dr tg wy br bo aa dx dy 4 cd P7 Q7 1 sh fa ft FA (fe f0) lo5 (rk f0) (wd f0) (tw f0) (pa f0) (pb f0) (la dn f0) (kd f0) (st f0) (gb f0) (it f0) (nI we5) r5 f0 (.null) (fe g0) lo6 (la dn g0) r6 g0 (rk g0) (wd g0) (tw g0) (pa g0) (pb g0) (kd g0) (st g0) (gb g0) (it g0) (nI we6) (.null) T_1 f kd st tn mn cx cy (by first | with_reducible assumption | omega) (by first | with_reducible assumption | omega) (hFA9 f0 (by first | with_reducible assumption | omega)) (hst) (by first | with_reducible assumption | omega) (hFA9 g0 (by first | with_reducible assumption | omega)) (hsg) (by rw [← hT_1]; exact sh_vw2 (q := f0) (p := g0) (A := [(oc1 (fe f0) (rk f0) (wd f0) (tw f0) (pa f0) (pb f0) (.ref lo5) (.ref (la dn f0)) .null), (oc4 (la dn f0) (kd f0) (st f0) (.ref r5) (gb f0) (it f0) (nI we5)), (oc6 r5 (.ref rx5) (.ref ry5) (nI (nN (mn f0))) (rgK (kd f0).toInt)), (oa rx5 cI cap5 X5), (oa ry5 cI cap5 Y5), (oc6 lo5 (.ref lx5) (.ref ly5) (nI ln5) 0), (oa lx5 cI (cl f0) LX5), (oa ly5 cI (cl f0) LY5)]) (B := [(oc1 (fe g0) (rk g0) (wd g0) (tw g0) (pa g0) (pb g0) (.ref lo6) (.ref (la dn g0)) .null), (oc4 (la dn g0) (kd g0) (st g0) (.ref r6) (gb g0) (it g0) (nI we6)), (oc6 r6 (.ref rx6) (.ref ry6) (nI (nN (mn g0))) (rgK (kd g0).toInt)), (oa rx6 cI cap6 X6), (oa ry6 cI cap6 Y6), (oc6 lo6 (.ref lx6) (.ref ly6) (nI ln6) 0), (oa lx6 cI (cl g0) LX6), (oa ly6 cI (cl g0) LY6)]) (fun r hr => fc_ne hc5 (by first | with_reducible assumption | omega) (by first | with_reducible assumption | omega) hr) (fun r hr => fc_ne hc6 (by first | with_reducible assumption | omega) (by first | with_reducible assumption | omega) hr) hG.1 hG.2.1 hFA9 (Nat.le_refl _)) (hwf) (hkn) (by first | with_reducible assumption | omega) (by first | with_reducible assumption | omega) (hpd7)) (csV_132 hts rfl rfl ⟨Nat.le_of_ble_eq_true rfl, Nat.le_of_ble_eq_true rfl⟩) (zPV2 (q0 := 0) (ci := 3) hPc hDc hK3 hXN rfl rfl) rfl rfl hl.1 rfl (lv_room (Nat.le_of_ble_eq_true rfl)) dX10_join_223 ⟨Nat.le_of_ble_eq_true rfl, Nat.le_of_ble_eq_true rfl⟩) hS hFc hFc rfl (fun t H locs ht hB hk1 hS => ?_)
                obtain ⟨hP1, hD1⟩ := hB
                rw [ht] at hP1
                replace hP := z0 hP hD hk1 hP1 hI1
                clear hk1 hPc hDc hFc hP1 hD1 ht hI1
                refine lv_if_ne (tgt := 236) hx hb dX10_join_226 rfl (fun c_11 => ?_) (fun c_11 => ?_)
                · have c_11 : ∀ q, q < ft → (q ≠ f0 → q ≠ g0 → lvF ft st tn q → ¬ tch 4 P7 Q7 (1 : Int32) (nN (mn q)) (cF40 cx q) (cF40 cy q) (rgK (kd q).toInt) ∧ ¬ inF 5 4 P7 Q7 (cF40 cx q 0).toInt (cF40 cy q 0).toInt) := zp_1 c_11
                  refine lv_aload_n hx hb dX10_join_236 rfl (lv_at hl 4 rfl) ?_
                  refine va_get (D := (dC, dI)) (ci := 8) (v := .ref sh) (C := RX10) (T := TX10) (N := 13) hx hb hts inX10 hown hK hP 0 rfl rfl 0 (Nat.le_of_ble_eq_true rfl) (hts _ mw_309) (fun _ h9 => h9) rfl dX10_join_237 ?_
                  obtain ⟨hPc, hDc, hFc, hI1⟩ := zi_sub (wc := [_, _]) hP hD hS hA [8, 9] rfl rfl
                  refine zcall (st1 := [.int (pI (ft = 200))]) (va_runV (As := []) (rest := []) ⟨hx, hb, hml, hown, hts⟩ (k_Sheet_isFull l dC dI cI cZ cF H.size sh fa ft FA (by first | with_reducible assumption | omega)) (csV_105 hts rfl rfl ⟨Nat.le_of_ble_eq_true rfl, Nat.le_of_ble_eq_true rfl⟩) (zPV2 (q0 := 0) (ci := 7) hPc hDc hK3 hXN rfl rfl) rfl rfl hl.1 rfl (lv_room (Nat.le_of_ble_eq_true rfl)) dX10_join_240 ⟨Nat.le_of_ble_eq_true rfl, Nat.le_of_ble_eq_true rfl⟩) hS hFc hFc rfl (fun t H locs ht hB hk1 hS => ?_)
                  obtain ⟨hP1, hD1⟩ := hB
                  rw [ht] at hP1
                  replace hP := z0 hP hD hk1 hP1 hI1
                  clear hk1 hPc hDc hFc hP1 hD1 ht hI1
                  refine lv_if_ne (tgt := 253) hx hb dX10_join_243 rfl (fun c_12 => ?_) (fun c_12 => ?_)
                  · have c_12 : ft = 200 := zp_1 c_12
                    refine lv_aload_n hx hb dX10_join_253 rfl (lv_at hl 4 rfl) ?_
                    refine lv_bipush (v := 8) hx hb dX10_join_254 rfl ?_
                    obtain ⟨hPc, hDc, hFc⟩ := zo_sub (wc := [_]) hP hD hS hA [0] rfl rfl
                    refine zcall (st1 := [.int (-1)]) (va_runV (As := [.int 8]) (rest := []) ⟨hx, hb, hml, hown, hts⟩ (k_refuse_8 l dC dI cI cZ cF H.size x sh lw ro bq bp dq dp lv sl sd ul su (nI dn) ) (csV_95 hts rfl rfl ⟨Nat.le_of_ble_eq_true rfl, Nat.le_of_ble_eq_true rfl⟩) (zPV2 (q0 := 0) (ci := 8) hPc hDc hK3 hXN rfl rfl) rfl rfl hl.1 rfl (lv_room (Nat.le_of_ble_eq_true rfl)) dX10_join_256 ⟨Nat.le_of_ble_eq_true rfl, Nat.le_of_ble_eq_true rfl⟩) hS hFc hFc rfl (fun t H locs ht hB hk1 hS => ?_)
                    obtain ⟨hP1, hD1⟩ := hB
                    rw [ht] at hP1
                    obtain ⟨hP, hD⟩ := znQ (W2 := [(oc8 x (.ref sh) (.ref lw) (.ref ro) (.ref bq) (.ref bp) (.ref dq) (.ref dp) (.ref lv) (.ref sl) (nI dn) sd ul 8), _, _, _, _, _, _, _, _, _, _, _, _, _, _, _, _, _, _, _, _, _, _, _, _, _]) hP hD hk1 hFc hP1 hD1 [0] zl_99 zl_99 [0] (by decide +kernel) rfl rfl rfl rfl rfl
                    clear hk1 hPc hDc hFc hP1 hD1 ht
                    obtain ⟨hP, hD⟩ := pl_bk (X := [_, _, _, _, _, _, _, _, _, _]) hT_1 hP rfl hc9_1 hD0_1 rfl
                    obtain ⟨hP9, hD9⟩ := zu_part (cx := [_, _, _, _, _, _, _, _, _, _]) hP hD [true, true, true, true, true, true, true, true, true, true] rfl rfl
                    rw [hQ9]
                    exact W.iret (v := (-1)) hx hb hr (fun t ht hW => ⟨⟨rfl, ul, 8, 4, P7, Q7, 1, (iI (mnI (mnI (X5 0).toInt X5 (nN (mn f0))) X6 (nN (mn g0)))), (iI (mnI (mnI (Y5 0).toInt Y5 (nN (mn f0))) Y6 (nN (mn g0)))), (iI (mxI (mxI (X5 0).toInt X5 (nN (mn f0))) X6 (nN (mn g0)))), (iI (mxI (mxI (Y5 0).toInt Y5 (nN (mn f0))) Y6 (nN (mn g0)))), (jI zu7), (jI zd7), by rw [ht]; exact hP9, hD9⟩, hS.F ht⟩) hS.2.2 dX10_join_259
                  · have c_12 : ¬ (ft = 200) := zp_0 c_12
                    refine lv_aload hx hb dX10_join_246 (lv_at hl 3 rfl) ?_
                    refine lv_aload hx hb dX10_join_248 (lv_at hl 2 rfl) ?_
                    refine z_acmpne (rx := (fe f0)) (ry := (fe g0)) (tgt := 260) hx hb dX10_join_250 (by decide) (fun c_13 => ?_) (fun c_13 => ?_)
                    · have c_13 : ¬ (fe f0) = (fe g0) := c_13
                      exact absurd ⟨fun h => absurd (hfar9.mpr h) (by first | with_reducible assumption | assumption), hfre.mp (by first | with_reducible assumption | assumption), by omega⟩ hbad
                    · have c_13 : (fe f0) = (fe g0) := c_13
                      refine lv_aload_n hx hb dX10_join_253 rfl (lv_at hl 4 rfl) ?_
                      refine lv_bipush (v := 8) hx hb dX10_join_254 rfl ?_
                      obtain ⟨hPc, hDc, hFc⟩ := zo_sub (wc := [_]) hP hD hS hA [0] rfl rfl
                      refine zcall (st1 := [.int (-1)]) (va_runV (As := [.int 8]) (rest := []) ⟨hx, hb, hml, hown, hts⟩ (k_refuse_8 l dC dI cI cZ cF H.size x sh lw ro bq bp dq dp lv sl sd ul su (nI dn) ) (csV_95 hts rfl rfl ⟨Nat.le_of_ble_eq_true rfl, Nat.le_of_ble_eq_true rfl⟩) (zPV2 (q0 := 0) (ci := 8) hPc hDc hK3 hXN rfl rfl) rfl rfl hl.1 rfl (lv_room (Nat.le_of_ble_eq_true rfl)) dX10_join_256 ⟨Nat.le_of_ble_eq_true rfl, Nat.le_of_ble_eq_true rfl⟩) hS hFc hFc rfl (fun t H locs ht hB hk1 hS => ?_)
                      obtain ⟨hP1, hD1⟩ := hB
                      rw [ht] at hP1
                      obtain ⟨hP, hD⟩ := znQ (W2 := [(oc8 x (.ref sh) (.ref lw) (.ref ro) (.ref bq) (.ref bp) (.ref dq) (.ref dp) (.ref lv) (.ref sl) (nI dn) sd ul 8), _, _, _, _, _, _, _, _, _, _, _, _, _, _, _, _, _, _, _, _, _, _, _, _, _]) hP hD hk1 hFc hP1 hD1 [0] zl_99 zl_99 [0] (by decide +kernel) rfl rfl rfl rfl rfl
                      clear hk1 hPc hDc hFc hP1 hD1 ht
                      obtain ⟨hP, hD⟩ := pl_bk (X := [_, _, _, _, _, _, _, _, _, _]) hT_1 hP rfl hc9_1 hD0_1 rfl
                      obtain ⟨hP9, hD9⟩ := zu_part (cx := [_, _, _, _, _, _, _, _, _, _]) hP hD [true, true, true, true, true, true, true, true, true, true] rfl rfl
                      rw [hQ9]
                      exact W.iret (v := (-1)) hx hb hr (fun t ht hW => ⟨⟨rfl, ul, 8, 4, P7, Q7, 1, (iI (mnI (mnI (X5 0).toInt X5 (nN (mn f0))) X6 (nN (mn g0)))), (iI (mnI (mnI (Y5 0).toInt Y5 (nN (mn f0))) Y6 (nN (mn g0)))), (iI (mxI (mxI (X5 0).toInt X5 (nN (mn f0))) X6 (nN (mn g0)))), (iI (mxI (mxI (Y5 0).toInt Y5 (nN (mn f0))) Y6 (nN (mn g0)))), (jI zu7), (jI zd7), by rw [ht]; exact hP9, hD9⟩, hS.F ht⟩) hS.2.2 dX10_join_259
                · have c_11 : ¬ (∀ q, q < ft → (q ≠ f0 → q ≠ g0 → lvF ft st tn q → ¬ tch 4 P7 Q7 (1 : Int32) (nN (mn q)) (cF40 cx q) (cF40 cy q) (rgK (kd q).toInt) ∧ ¬ inF 5 4 P7 Q7 (cF40 cx q 0).toInt (cF40 cy q 0).toInt)) := zp_0 c_11
                  refine lv_aload_n hx hb dX10_join_229 rfl (lv_at hl 4 rfl) ?_
                  refine lv_bipush (v := 7) hx hb dX10_join_230 rfl ?_
                  obtain ⟨hPc, hDc, hFc⟩ := zo_sub (wc := [_]) hP hD hS hA [0] rfl rfl
                  refine zcall (st1 := [.int (-1)]) (va_runV (As := [.int 7]) (rest := []) ⟨hx, hb, hml, hown, hts⟩ (k_refuse_7 l dC dI cI cZ cF H.size x sh lw ro bq bp dq dp lv sl sd ul su (nI dn) ) (csV_95 hts rfl rfl ⟨Nat.le_of_ble_eq_true rfl, Nat.le_of_ble_eq_true rfl⟩) (zPV2 (q0 := 0) (ci := 8) hPc hDc hK3 hXN rfl rfl) rfl rfl hl.1 rfl (lv_room (Nat.le_of_ble_eq_true rfl)) dX10_join_232 ⟨Nat.le_of_ble_eq_true rfl, Nat.le_of_ble_eq_true rfl⟩) hS hFc hFc rfl (fun t H locs ht hB hk1 hS => ?_)
                  obtain ⟨hP1, hD1⟩ := hB
                  rw [ht] at hP1
                  obtain ⟨hP, hD⟩ := znQ (W2 := [(oc8 x (.ref sh) (.ref lw) (.ref ro) (.ref bq) (.ref bp) (.ref dq) (.ref dp) (.ref lv) (.ref sl) (nI dn) sd (ul + 1) 7), _, _, _, _, _, _, _, _, _, _, _, _, _, _, _, _, _, _, _, _, _, _, _, _, _]) hP hD hk1 hFc hP1 hD1 [0] zl_99 zl_99 [0] (by decide +kernel) rfl rfl rfl rfl rfl
                  clear hk1 hPc hDc hFc hP1 hD1 ht
                  obtain ⟨hP, hD⟩ := pl_bk (X := [_, _, _, _, _, _, _, _, _, _]) hT_1 hP rfl hc9_1 hD0_1 rfl
                  obtain ⟨hP9, hD9⟩ := zu_part (cx := [_, _, _, _, _, _, _, _, _, _]) hP hD [true, true, true, true, true, true, true, true, true, true] rfl rfl
                  rw [hQ9]
                  exact W.iret (v := (-1)) hx hb hr (fun t ht hW => ⟨⟨rfl, (ul + 1), 7, 4, P7, Q7, 1, (iI (mnI (mnI (X5 0).toInt X5 (nN (mn f0))) X6 (nN (mn g0)))), (iI (mnI (mnI (Y5 0).toInt Y5 (nN (mn f0))) Y6 (nN (mn g0)))), (iI (mxI (mxI (X5 0).toInt X5 (nN (mn f0))) X6 (nN (mn g0)))), (iI (mxI (mxI (Y5 0).toInt Y5 (nN (mn f0))) Y6 (nN (mn g0)))), (jI zu7), (jI zd7), by rw [ht]; exact hP9, hD9⟩, hS.F ht⟩) hS.2.2 dX10_join_235
              · have c_10 : gp9.toInt * gp9.toInt * zd7 < zu7 := zp_1 c_10
                refine lv_aload_n hx hb dX10_join_173 rfl (lv_at hl 4 rfl) ?_
                refine lv_iconst (v := 4) hx hb dX10_join_174 rfl ?_
                obtain ⟨hPc, hDc, hFc⟩ := zo_sub (wc := [_]) hP hD hS hA [0] rfl rfl
                refine zcall (st1 := [.int (-1)]) (va_runV (As := [.int 4]) (rest := []) ⟨hx, hb, hml, hown, hts⟩ (k_refuse_4 l dC dI cI cZ cF H.size x sh lw ro bq bp dq dp lv sl sd ul su (nI dn) ) (csV_95 hts rfl rfl ⟨Nat.le_of_ble_eq_true rfl, Nat.le_of_ble_eq_true rfl⟩) (zPV2 (q0 := 0) (ci := 8) hPc hDc hK3 hXN rfl rfl) rfl rfl hl.1 rfl (lv_room (Nat.le_of_ble_eq_true rfl)) dX10_join_175 ⟨Nat.le_of_ble_eq_true rfl, Nat.le_of_ble_eq_true rfl⟩) hS hFc hFc rfl (fun t H locs ht hB hk1 hS => ?_)
                obtain ⟨hP1, hD1⟩ := hB
                rw [ht] at hP1
                obtain ⟨hP, hD⟩ := znQ (W2 := [(oc8 x (.ref sh) (.ref lw) (.ref ro) (.ref bq) (.ref bp) (.ref dq) (.ref dp) (.ref lv) (.ref sl) (nI dn) sd ul 4), _, _, _, _, _, _, _, _, _, _, _, _, _, _, _, _, _, _, _, _, _, _, _, _, _]) hP hD hk1 hFc hP1 hD1 [0] zl_99 zl_99 [0] (by decide +kernel) rfl rfl rfl rfl rfl
                clear hk1 hPc hDc hFc hP1 hD1 ht
                obtain ⟨hP, hD⟩ := pl_bk (X := [_, _, _, _, _, _, _, _, _, _]) hT_1 hP rfl hc9_1 hD0_1 rfl
                obtain ⟨hP9, hD9⟩ := zu_part (cx := [_, _, _, _, _, _, _, _, _, _]) hP hD [true, true, true, true, true, true, true, true, true, true] rfl rfl
                rw [hQ9]
                exact W.iret (v := (-1)) hx hb hr (fun t ht hW => ⟨⟨rfl, ul, 4, nd, P, Q, rd, c1, c2, c3, c4, (jI zu7), (jI zd7), by rw [ht]; exact hP9, hD9⟩, hS.F ht⟩) hS.2.2 dX10_join_178
          · have c_5 : ¬ ((0 : Int32).toInt ≤ gp9.toInt ∧ gp9.toInt ≤ (1000 : Int32).toInt) := zp_0 c_5
            exfalso; omega
        · have c_4 : ¬ (kd g0).toInt = 6 := zc_ne rfl rfl c_4
          exfalso; omega
    · have c_2 : ¬ (st g0).toInt = 1 := zc_ne rfl rfl c_2
      exfalso; omega
set_option maxHeartbeats 4000000 in
set_option maxRecDepth 100000 in
theorem k_join_y (l : Launch) (dC : Nat → ClassId) (dI : Nat → Nat → Nat) (cI cZ cF : ClassId) (sz : Nat) (cO : ClassId) (e0 : Nat) (mi : Nat) (x : Nat) (sh : Nat) (lw : Nat) (ro : Nat) (bq : Nat) (bp : Nat) (dq : Nat) (dp : Nat) (lv : Nat) (sl : Nat) (sd : Int32) (ul : Int32) (su : Int32) (ea : Nat) (mc9 : Int32) (fa : Nat) (FA : Nat → Option Nat) (bs : Nat) (dn : Nat) (T : Nat) (ft : Nat) (FT : Nat → Nat) (V : Nat → Nat → Nat → Int32) (VX : Nat → Nat → Int32) (VY : Nat → Nat → Int32) (tn : Nat → Int32) (rk : Nat → Int32) (wd : Nat → Int32) (tw : Nat → Int32) (pa : Nat → Int32) (pb : Nat → Int32) (wh : Nat → Int32) (of9 : Nat → Int32) (we : Nat → Int32) (kd : Nat → Int32) (st : Nat → Int32) (gb : Nat → Int32) (it : Nat → Int32) (mn : Nat → Int32) (cx : Nat → Int32) (cy : Nat → Int32) (L : List Nat) (f : Nat → va_E) (f0 : Nat) (g0 : Nat) (dr : Nat) (tg : Nat) (wy : Nat) (br : Nat) (bo : Nat) (aa : Nat) (dx : Nat) (dy : Nat) (nd : Nat) (cd : Nat) (P : Nat → Int32) (Q : Nat → Int32) (rd : Int32) (c1 : Int32) (c2 : Int32) (c3 : Int32) (c4 : Int32) (y1 : Int64) (y2 : Int64) (gp9 : Int32) (z1 : Int32) (z2 : Int32) (z3 : Int32) (z4 : Int32) (hB : shB cI cO L f e0 FA ea bs dn T ft FT V VX VY tn rk wd tw pa pb wh of9 we kd st gb it mn cx cy) (hd5 : dn + 1 ≤ 512) (hf0 : f0 < ft) (htn : (tn f0).toInt = 0) (hg0 : g0 < ft) (htg : (tn g0).toInt = 0) (hgf : g0 ≠ f0) (hst : (st f0).toInt = 1) (hsg : (st g0).toInt = 1) (hk6 : (kd f0).toInt = 6) (hkg : (kd g0).toInt = 6) (hgp : 0 ≤ gp9.toInt ∧ gp9.toInt ≤ 1000) (hwf : ∀ q, lvF ft st tn q → wfM mn cx cy q) (hkn : okN ft st tn kd mn) (hcd : 40 ≤ cd ∧ cd ≤ 1000) (hz1 : z1 = jlo cx f0 (nN (mn f0)) g0 (nN (mn g0))) (hz2 : z2 = jlo cy f0 (nN (mn f0)) g0 (nN (mn g0))) (hz3 : z3 = jhi cx f0 (nN (mn f0)) g0 (nN (mn g0))) (hz4 : z4 = jhi cy f0 (nN (mn f0)) g0 (nN (mn g0))) (hnf : ¬ (¬ mtF (kd f0).toInt (nN (mn f0)) (cF40 cx f0) (cF40 cy f0) (kd g0).toInt (nN (mn g0)) (cF40 cx g0) (cF40 cy g0) ∧ ∀ u d : Nat, 1 ≤ d → IM (dcP (nN (mn f0)) (cF40 cx f0) (cF40 cy f0) (nN (mn g0)) (cF40 cx g0) (cF40 cy g0) (eO (kd g0).toInt (nN (mn g0))) (eO (kd f0).toInt (nN (mn f0))) 0) ((u : Nat) : Int) ((d : Nat) : Int) → gp9.toInt * gp9.toInt * ((d : Nat) : Int) < ((u : Nat) : Int))) (hfree : jFr ft st tn (upd kd 200 6) (upd mn 200 4) (bxX 200 z1 z3 4 cx) (bxY 200 z2 z4 4 cy) f0 g0 ft) (hlt : ft < 200) : zML l yX10_join cX10_join 8 (some .int) ({ frames := 9, cells := ft + 13, slots := 4 * ft + 860, locals := 208 } : Room) [.ref x, .int (nI f0), .int (nI g0), .int gp9] (dC, dI) (zTyO cI cZ cF cO) e0 mi ([(oc8 x (.ref sh) (.ref lw) (.ref ro) (.ref bq) (.ref bp) (.ref dq) (.ref dp) (.ref lv) (.ref sl) (nI dn) sd ul su), (oc10 sl mc9 (.ref ea) (nI T)), (oc3 lw (.ref dr) (.ref tg) (.ref wy) (.ref br) (.ref bo) (.ref aa)), (oc6 dr (.ref dx) (.ref dy) (nI nd) rd), (oa dx cI cd P), (oa dy cI cd Q), (oc0 bq c1 c2 c3 c4), (oc2 dq y1 y2), (oc7 sh (.ref fa) (nI ft)), (oq fa cF 200 FA)] ++ va_pl L f) sz (some (.int (nI ft))) (fun A t => ∃ (mc1 : Int32), ∃ (L1 : List Nat), ∃ (f1 : Nat → va_E), ∃ (ea1 : Nat), ∃ (nd1 : Nat), ∃ (P1 : Nat → Int32), ∃ (Q1 : Nat → Int32), ∃ (rd1 : Int32), ∃ (c5 : Int32), ∃ (c6 : Int32), ∃ (c7 : Int32), ∃ (c8 : Int32), ∃ (y5 : Int64), ∃ (y6 : Int64), ∃ (fe7 : Nat), (shB cI cO L1 f1 e0 (va_up FA ft (some fe7)) ea1 bs (dn + 1) (dn + 1) (ft + 1) (upN FT (dn + 1) (ft + 1)) (upN V (dn + 1) (vC (gZ (V dn) ft) (upd kd ft 6) (upd (upd (upd st f0 2) g0 2) ft 1) (upd (upd (upd gb f0 (nI (dn + 1))) g0 (nI (dn + 1))) ft 0) (upd (upd (upd it f0 (nI ft)) g0 (nI ft)) ft (-1)) (upd mn ft 4))) (upN VX (dn + 1) (bxX ft z1 z3 4 cx)) (upN VY (dn + 1) (bxY ft z2 z4 4 cy)) (upd tn ft 0) (upd rk ft (rk f0)) (upd wd ft (wd f0)) (upd tw ft (tw f0)) (upd pa ft (nI f0)) (upd pb ft (nI g0)) (upd wh (dn + 1) (6 : Int32)) (upd of9 (dn + 1) (nI f0)) (upd we (dn + 1) (2 : Int32)) (upd kd ft 6) (upd (upd (upd st f0 2) g0 2) ft 1) (upd (upd (upd gb f0 (nI (dn + 1))) g0 (nI (dn + 1))) ft 0) (upd (upd (upd it f0 (nI ft)) g0 (nI ft)) ft (-1)) (upd mn ft 4) (bxX ft z1 z3 4 cx) (bxY ft z2 z4 4 cy)) ∧ zPD (dC, dI) classes A ([(oc8 x (.ref sh) (.ref lw) (.ref ro) (.ref bq) (.ref bp) (.ref dq) (.ref dp) (.ref lv) (.ref sl) (nI (dn + 1)) sd ul 0), (oc10 sl mc1 (.ref ea1) (nI (dn + 1))), (oc3 lw (.ref dr) (.ref tg) (.ref wy) (.ref br) (.ref bo) (.ref aa)), (oc6 dr (.ref dx) (.ref dy) (nI nd1) rd1), (oa dx cI cd P1), (oa dy cI cd Q1), (oc0 bq c5 c6 c7 c8), (oc2 dq y5 y6), (oc7 sh (.ref fa) (nI (ft + 1))), (oq fa cF 200 (va_up FA ft (some fe7)))] ++ va_pl L1 f1) t.heap) (ft + 13) (4 * ft + 860) := by
  refine zInL (own := "ScaleShop") (loc := [(0, .ref x), (1, .int (nI f0)), (2, .int (nI g0)), (3, .int gp9)]) rfl rfl rfl rfl (fun p e s m below meth c hx hb hr hts hown hlocks hml hnm9 A hA hS hP hD hK hXL hXN hK3 Q9 hQ9 ls hl => ?_)
  obtain ⟨own, fe, cl, la, sp, SA, hG9, hH9, hft9, hO9⟩ := hB
  obtain ⟨hG, hM, hdT, hT5, hO⟩ := M_0 hG9 hH9 hft9 hO9
  have h200 : ft ≤ 200 := hG.2.2.2.2.2.1.2.2.2.2.2
  have hFA9 := hG.2.2.2.2.2.2
  refine ex13 (sh_fc hG.1 hG.2.1 (Nat.le_refl _) hf0 htn) (fun lo5 lx5 ly5 ln5 LX5 LY5 we5 r5 rx5 ry5 cap5 X5 Y5 hc5 => ?_)
  have hc5 := fc_0 hc5
  have hb5 := hc5.2.2.1
  have hb6 := hc5.2.1
  have hat9 := lo_at hO (Nat.le_refl _) hf0 hc5.1.1 hc5.1.2.2.2 (by omega) hc5.1.2.1 hb5.2.2
  refine ex13 (sh_fc hG.1 hG.2.1 (Nat.le_refl _) hg0 htg) (fun lo6 lx6 ly6 ln6 LX6 LY6 we6 r6 rx6 ry6 cap6 X6 Y6 hc6 => ?_)
  have hc6 := fc_0 hc6
  have hb7 := hc6.2.2.1
  have hb8 := hc6.2.1
  have e_0 : (0 : Int32).toInt = 0 := (by decide)
  have e_1000 : (1000 : Int32).toInt = 1000 := (by decide)
  have hlv : lvF ft st tn f0 := ⟨hf0, hst, htn⟩
  have hlg : lvF ft st tn g0 := ⟨hg0, hsg, htg⟩
  have hwf0 := hwf f0 hlv
  have hwfg := hwf g0 hlg
  have hw1 := hwf0.2.1
  have hw2 := hwfg.2.1
  have hkn0 := hkn f0 hlv
  have hkng := hkn g0 hlg
  have hX5 := hc5.2.2.2.2.1
  have hX6 := hc6.2.2.2.2.1
  have hp5 := (pls_cg hX5).mpr hwf0.2.2
  have hp6 := (pls_cg hX6).mpr hwfg.2.2
  have hgg := gg_0 (g := gp9.toInt)
  have hti := jtch_iff hw1.1 hw2.1 hX5 hX6 hkn0 hkng
  have hc9_1 : inPl L f [(oc1 (fe f0) (rk f0) (wd f0) (tw f0) (pa f0) (pb f0) (.ref lo5) (.ref (la dn f0)) .null), (oc4 (la dn f0) (kd f0) (st f0) (.ref r5) (gb f0) (it f0) (nI we5)), (oc6 r5 (.ref rx5) (.ref ry5) (nI (nN (mn f0))) (rgK (kd f0).toInt)), (oa rx5 cI cap5 X5), (oa ry5 cI cap5 Y5), (oc6 lo5 (.ref lx5) (.ref ly5) (nI ln5) 0), (oa lx5 cI (cl f0) LX5), (oa ly5 cI (cl f0) LY5), (oc1 (fe g0) (rk g0) (wd g0) (tw g0) (pa g0) (pb g0) (.ref lo6) (.ref (la dn g0)) .null), (oc4 (la dn g0) (kd g0) (st g0) (.ref r6) (gb g0) (it g0) (nI we6)), (oc6 r6 (.ref rx6) (.ref ry6) (nI (nN (mn g0))) (rgK (kd g0).toInt)), (oa rx6 cI cap6 X6), (oa ry6 cI cap6 Y6), (oc6 lo6 (.ref lx6) (.ref ly6) (nI ln6) 0), (oa lx6 cI (cl g0) LX6), (oa ly6 cI (cl g0) LY6)] := ⟨ce_pl hc5.1.1, ce_pl hc5.1.2.1, ce_pl hc5.1.2.2.1.1, ce_pl hc5.1.2.2.1.2.1, ce_pl hc5.1.2.2.1.2.2.1, ce_pl hc5.1.2.2.2.1, ce_pl hc5.1.2.2.2.2.1, ce_pl hc5.1.2.2.2.2.2.1, ce_pl hc6.1.1, ce_pl hc6.1.2.1, ce_pl hc6.1.2.2.1.1, ce_pl hc6.1.2.2.1.2.1, ce_pl hc6.1.2.2.1.2.2.1, ce_pl hc6.1.2.2.2.1, ce_pl hc6.1.2.2.2.2.1, ce_pl hc6.1.2.2.2.2.2.1, trivial⟩
  have hD0_1 := hD
  obtain ⟨T_1, hT_1, hP, hD⟩ := pl_oT hP hD hc9_1 (pw_ap (own := own) (p := g0) (A := [(oc1 (fe f0) (rk f0) (wd f0) (tw f0) (pa f0) (pb f0) (.ref lo5) (.ref (la dn f0)) .null), (oc4 (la dn f0) (kd f0) (st f0) (.ref r5) (gb f0) (it f0) (nI we5)), (oc6 r5 (.ref rx5) (.ref ry5) (nI (nN (mn f0))) (rgK (kd f0).toInt)), (oa rx5 cI cap5 X5), (oa ry5 cI cap5 Y5), (oc6 lo5 (.ref lx5) (.ref ly5) (nI ln5) 0), (oa lx5 cI (cl f0) LX5), (oa ly5 cI (cl f0) LY5)]) (B := [(oc1 (fe g0) (rk g0) (wd g0) (tw g0) (pa g0) (pb g0) (.ref lo6) (.ref (la dn g0)) .null), (oc4 (la dn g0) (kd g0) (st g0) (.ref r6) (gb g0) (it g0) (nI we6)), (oc6 r6 (.ref rx6) (.ref ry6) (nI (nN (mn g0))) (rgK (kd g0).toInt)), (oa rx6 cI cap6 X6), (oa ry6 cI cap6 Y6), (oc6 lo6 (.ref lx6) (.ref ly6) (nI ln6) 0), (oa lx6 cI (cl g0) LX6), (oa ly6 cI (cl g0) LY6)]) (pw8 hc5 (by omega)) (pw8 hc6 (by omega)) (fc_ne hc5 (by omega) (by omega) hgf) (fun r hr => fc_ne hc6 (by omega) (by omega) hr))
  obtain ⟨hP, hD⟩ := zre (W2 := ([_, _, _, _, _, _, _, _, _, _, _, _, _, _, _, _, _, _, _, _, _, _, _, _, _, _] ++ va_pl T_1 f)) hP hD rfl
  refine lv_aload_n hx hb dX10_join_0 rfl (lv_at hl 0 rfl) ?_
  refine va_get (D := (dC, dI)) (ci := 8) (v := .ref sh) (C := RX10) (T := TX10) (N := 13) hx hb hts inX10 hown hK hP 0 rfl rfl 0 (Nat.le_of_ble_eq_true rfl) (hts _ mw_309) (fun _ h9 => h9) rfl dX10_join_1 ?_
  refine lv_iload_n hx hb dX10_join_4 rfl (lv_at hl 1 rfl) ?_
  obtain ⟨hPc, hDc, hFc, hI1⟩ := zi_sub (wc := [_, _]) hP hD hS hA [8, 9] rfl rfl
  refine zcall (st1 := [.ref (fe f0)]) (va_runV (As := [.int (nI f0)]) (rest := []) ⟨hx, hb, hml, hown, hts⟩ (k_Sheet_find l dC dI cI cZ cF s.heap.size sh fa ft FA f0 (fe f0) (by first | with_reducible assumption | omega) (by first | with_reducible assumption | omega) (hFA9 f0 (by first | with_reducible assumption | omega))) (csV_94 hts rfl rfl ⟨Nat.le_of_ble_eq_true rfl, Nat.le_of_ble_eq_true rfl⟩) (zPV2 (q0 := 0) (ci := 7) hPc hDc hK3 hXN rfl rfl) rfl rfl hl.1 rfl (lv_room (Nat.le_of_ble_eq_true rfl)) dX10_join_5 ⟨Nat.zero_le _, Nat.zero_le _⟩) hS hFc hFc rfl (fun t H locs ht hB hk1 hS => ?_)
  obtain ⟨hP1, hD1⟩ := hB
  rw [ht] at hP1
  replace hP := z0 hP hD hk1 hP1 hI1
  clear hk1 hPc hDc hFc hP1 hD1 ht hI1
  refine lv_astore (lv' := [(4, .ref (fe f0)), (0, .ref x), (1, .int (nI f0)), (2, .int (nI g0)), (3, .int gp9)]) hx hb dX10_join_8 hl (Nat.le_of_ble_eq_true rfl) rfl (fun ls hl => ?_)
  refine lv_aload_n hx hb dX10_join_10 rfl (lv_at hl 1 rfl) ?_
  refine va_get (D := (dC, dI)) (ci := 8) (v := .ref sh) (C := RX10) (T := TX10) (N := 13) hx hb hts inX10 hown hK hP 0 rfl rfl 0 (Nat.le_of_ble_eq_true rfl) (hts _ mw_309) (fun _ h9 => h9) rfl dX10_join_11 ?_
  refine lv_iload_n hx hb dX10_join_14 rfl (lv_at hl 3 rfl) ?_
  obtain ⟨hPc, hDc, hFc, hI1⟩ := zi_sub (wc := [_, _]) hP hD hS hA [8, 9] rfl rfl
  refine zcall (st1 := [.ref (fe g0)]) (va_runV (As := [.int (nI g0)]) (rest := []) ⟨hx, hb, hml, hown, hts⟩ (k_Sheet_find l dC dI cI cZ cF H.size sh fa ft FA g0 (fe g0) (by first | with_reducible assumption | omega) (by first | with_reducible assumption | omega) (hFA9 g0 (by first | with_reducible assumption | omega))) (csV_94 hts rfl rfl ⟨Nat.le_of_ble_eq_true rfl, Nat.le_of_ble_eq_true rfl⟩) (zPV2 (q0 := 0) (ci := 7) hPc hDc hK3 hXN rfl rfl) rfl rfl hl.1 rfl (lv_room (Nat.le_of_ble_eq_true rfl)) dX10_join_15 ⟨Nat.zero_le _, Nat.zero_le _⟩) hS hFc hFc rfl (fun t H locs ht hB hk1 hS => ?_)
  obtain ⟨hP1, hD1⟩ := hB
  rw [ht] at hP1
  replace hP := z0 hP hD hk1 hP1 hI1
  clear hk1 hPc hDc hFc hP1 hD1 ht hI1
  refine lv_astore (lv' := [(5, .ref (fe g0)), (4, .ref (fe f0)), (0, .ref x), (1, .int (nI f0)), (2, .int (nI g0)), (3, .int gp9)]) hx hb dX10_join_18 hl (Nat.le_of_ble_eq_true rfl) rfl (fun ls hl => ?_)
  refine lv_aload hx hb dX10_join_20 (lv_at hl 1 rfl) ?_
  refine lv_ifnull hx hb dX10_join_22 ?_
  refine lv_aload hx hb dX10_join_25 (lv_at hl 0 rfl) ?_
  refine lv_ifnonnull (tgt := 36) hx hb dX10_join_27 rfl ?_
  refine lv_aload hx hb dX10_join_36 (lv_at hl 1 rfl) ?_
  refine va_get (D := (dC, dI)) (ci := 1) (v := .ref (la dn f0)) (C := RX2) (T := TX2) (N := 8) hx hb hts inX2 hown hK hP 10 rfl rfl 6 (Nat.le_of_ble_eq_true rfl) (hts _ mw_433) (fun _ h9 => h9) rfl dX10_join_38 ?_
  refine va_get (D := (dC, dI)) (ci := 4) (v := .int (st f0)) (C := RX5) (T := TX5) (N := 6) hx hb hts inX5 hown hK hP 11 rfl rfl 1 (Nat.le_of_ble_eq_true rfl) (hts _ mw_385) (fun _ h9 => h9) rfl dX10_join_41 ?_
  refine lv_iconst (v := 1) hx hb dX10_join_44 rfl ?_
  refine lv_icmp_ne (tgt := 60) hx hb dX10_join_45 rfl (fun c_1 => ?_) (fun c_1 => ?_)
  · have c_1 : ¬ (st f0).toInt = 1 := zc_ne rfl rfl c_1
    exfalso; omega
  · have c_1 : (st f0).toInt = 1 := zc_eq rfl rfl c_1
    refine lv_aload hx hb dX10_join_48 (lv_at hl 0 rfl) ?_
    refine va_get (D := (dC, dI)) (ci := 1) (v := .ref (la dn g0)) (C := RX2) (T := TX2) (N := 8) hx hb hts inX2 hown hK hP 18 rfl rfl 6 (Nat.le_of_ble_eq_true rfl) (hts _ mw_433) (fun _ h9 => h9) rfl dX10_join_50 ?_
    refine va_get (D := (dC, dI)) (ci := 4) (v := .int (st g0)) (C := RX5) (T := TX5) (N := 6) hx hb hts inX5 hown hK hP 19 rfl rfl 1 (Nat.le_of_ble_eq_true rfl) (hts _ mw_385) (fun _ h9 => h9) rfl dX10_join_53 ?_
    refine lv_iconst (v := 1) hx hb dX10_join_56 rfl ?_
    refine lv_icmp_eq (tgt := 66) hx hb dX10_join_57 rfl (fun c_2 => ?_) (fun c_2 => ?_)
    · have c_2 : (st g0).toInt = 1 := zc_eq rfl rfl c_2
      refine lv_aload hx hb dX10_join_66 (lv_at hl 1 rfl) ?_
      refine va_get (D := (dC, dI)) (ci := 1) (v := .ref (la dn f0)) (C := RX2) (T := TX2) (N := 8) hx hb hts inX2 hown hK hP 10 rfl rfl 6 (Nat.le_of_ble_eq_true rfl) (hts _ mw_433) (fun _ h9 => h9) rfl dX10_join_68 ?_
      refine va_get (D := (dC, dI)) (ci := 4) (v := .int (kd f0)) (C := RX5) (T := TX5) (N := 6) hx hb hts inX5 hown hK hP 11 rfl rfl 0 (Nat.le_of_ble_eq_true rfl) (hts _ mw_381) (fun _ h9 => h9) rfl dX10_join_71 ?_
      refine lv_bipush (v := 6) hx hb dX10_join_74 rfl ?_
      refine lv_icmp_ne (tgt := 92) hx hb dX10_join_76 rfl (fun c_3 => ?_) (fun c_3 => ?_)
      · have c_3 : ¬ (kd f0).toInt = 6 := zc_ne rfl rfl c_3
        exfalso; omega
      · have c_3 : (kd f0).toInt = 6 := zc_eq rfl rfl c_3
        refine lv_aload hx hb dX10_join_79 (lv_at hl 0 rfl) ?_
        refine va_get (D := (dC, dI)) (ci := 1) (v := .ref (la dn g0)) (C := RX2) (T := TX2) (N := 8) hx hb hts inX2 hown hK hP 18 rfl rfl 6 (Nat.le_of_ble_eq_true rfl) (hts _ mw_433) (fun _ h9 => h9) rfl dX10_join_81 ?_
        refine va_get (D := (dC, dI)) (ci := 4) (v := .int (kd g0)) (C := RX5) (T := TX5) (N := 6) hx hb hts inX5 hown hK hP 19 rfl rfl 0 (Nat.le_of_ble_eq_true rfl) (hts _ mw_381) (fun _ h9 => h9) rfl dX10_join_84 ?_
        refine lv_bipush (v := 6) hx hb dX10_join_87 rfl ?_
        refine lv_icmp_eq (tgt := 98) hx hb dX10_join_89 rfl (fun c_4 => ?_) (fun c_4 => ?_)
        · have c_4 : (kd g0).toInt = 6 := zc_eq rfl rfl c_4
          refine lv_iload_n hx hb dX10_join_98 rfl (lv_at hl 5 rfl) ?_
          refine lv_iconst (v := 0) hx hb dX10_join_99 rfl ?_
          refine lv_sipush (v := 1000) hx hb dX10_join_100 rfl ?_
          obtain ⟨hPc, hDc, hFc, hI1⟩ := zi_sub (wc := []) hP hD hS hA [] rfl rfl
          refine zcall (st1 := [.int (pI ((0 : Int32).toInt ≤ gp9.toInt ∧ gp9.toInt ≤ (1000 : Int32).toInt))]) (va_runS (As := [.int gp9, .int 0, .int 1000]) (rest := []) ⟨hx, hb, hml, hown, hts⟩ (k_isWithin l dC dI cI cZ cF H.size gp9 0 1000 ) (csS_14 hts rfl rfl ⟨Nat.le_of_ble_eq_true rfl, Nat.le_of_ble_eq_true rfl⟩) (zPS2 hPc hDc hK3 hXN) rfl rfl hl.1 rfl (lv_room (Nat.le_of_ble_eq_true rfl)) dX10_join_103 ⟨Nat.zero_le _, Nat.zero_le _⟩) hS hFc hFc rfl (fun t H locs ht hB hk1 hS => ?_)
          obtain ⟨hP1, hD1⟩ := hB
          rw [ht] at hP1
          replace hP := z0 hP hD hk1 hP1 hI1
          clear hk1 hPc hDc hFc hP1 hD1 ht hI1
          refine lv_if_ne (tgt := 115) hx hb dX10_join_106 rfl (fun c_5 => ?_) (fun c_5 => ?_)
          · have c_5 : (0 : Int32).toInt ≤ gp9.toInt ∧ gp9.toInt ≤ (1000 : Int32).toInt := zp_1 c_5
            refine lv_aload hx hb dX10_join_115 (lv_at hl 1 rfl) ?_
            refine va_get (D := (dC, dI)) (ci := 1) (v := .ref (la dn f0)) (C := RX2) (T := TX2) (N := 8) hx hb hts inX2 hown hK hP 10 rfl rfl 6 (Nat.le_of_ble_eq_true rfl) (hts _ mw_433) (fun _ h9 => h9) rfl dX10_join_117 ?_
            refine va_get (D := (dC, dI)) (ci := 4) (v := .ref r5) (C := RX5) (T := TX5) (N := 6) hx hb hts inX5 hown hK hP 11 rfl rfl 2 (Nat.le_of_ble_eq_true rfl) (hts _ mw_391) (fun _ h9 => h9) rfl dX10_join_120 ?_
            refine lv_astore (lv' := [(6, .ref r5), (5, .ref (fe g0)), (4, .ref (fe f0)), (0, .ref x), (1, .int (nI f0)), (2, .int (nI g0)), (3, .int gp9)]) hx hb dX10_join_123 hl (Nat.le_of_ble_eq_true rfl) rfl (fun ls hl => ?_)
            refine lv_aload hx hb dX10_join_125 (lv_at hl 1 rfl) ?_
            refine va_get (D := (dC, dI)) (ci := 1) (v := .ref (la dn g0)) (C := RX2) (T := TX2) (N := 8) hx hb hts inX2 hown hK hP 18 rfl rfl 6 (Nat.le_of_ble_eq_true rfl) (hts _ mw_433) (fun _ h9 => h9) rfl dX10_join_127 ?_
            refine va_get (D := (dC, dI)) (ci := 4) (v := .ref r6) (C := RX5) (T := TX5) (N := 6) hx hb hts inX5 hown hK hP 19 rfl rfl 2 (Nat.le_of_ble_eq_true rfl) (hts _ mw_391) (fun _ h9 => h9) rfl dX10_join_130 ?_
            refine lv_astore (lv' := [(7, .ref r6), (6, .ref r5), (5, .ref (fe g0)), (4, .ref (fe f0)), (0, .ref x), (1, .int (nI f0)), (2, .int (nI g0)), (3, .int gp9)]) hx hb dX10_join_133 hl (Nat.le_of_ble_eq_true rfl) rfl (fun ls hl => ?_)
            refine lv_aload hx hb dX10_join_135 (lv_at hl 1 rfl) ?_
            refine lv_ifnull hx hb dX10_join_137 ?_
            refine lv_aload hx hb dX10_join_140 (lv_at hl 0 rfl) ?_
            refine lv_ifnonnull (tgt := 151) hx hb dX10_join_142 rfl ?_
            by_cases htc : ∃ i, i < prt (nN (mn f0)) (rgK (kd f0).toInt) ∧ ∃ j, j < prt (nN (mn g0)) (rgK (kd g0).toInt) ∧ eMt (nN (mn f0)) X5 Y5 i (nN (mn g0)) X6 Y6 j
            · skip
              refine lv_aload_n hx hb dX10_join_151 rfl (lv_at hl 4 rfl) ?_
              refine va_get (D := (dC, dI)) (ci := 8) (v := .ref dq) (C := RX10) (T := TX10) (N := 13) hx hb hts inX10 hown hK hP 0 rfl rfl 5 (Nat.le_of_ble_eq_true rfl) (hts _ mw_314) (fun _ h9 => h9) rfl dX10_join_152 ?_
              refine lv_aload hx hb dX10_join_155 (lv_at hl 1 rfl) ?_
              refine lv_aload hx hb dX10_join_157 (lv_at hl 0 rfl) ?_
              obtain ⟨hPc, hDc, hFc⟩ := zo_sub (wc := [_, _, _, _, _, _, _]) hP hD hS hA [7, 12, 13, 14, 20, 21, 22] (by decide +kernel) rfl
              refine zcall (st1 := []) (va_runV (As := [.ref r5, .ref r6]) (rest := []) ⟨hx, hb, hml, hown, hts⟩ (k_Fr_between_m l dC dI cI cZ cF H.size dq y1 y2 r5 rx5 ry5 (nN (mn f0)) cap5 X5 Y5 (rgK (kd f0).toInt) r6 rx6 ry6 (nN (mn g0)) cap6 X6 Y6 (rgK (kd g0).toInt) (by first | with_reducible assumption | omega) (by first | with_reducible assumption | omega) (hp5) (by first | with_reducible assumption | omega) (by first | with_reducible assumption | omega) (hp6) (htc)) (csV_127 hts rfl rfl ⟨Nat.le_of_ble_eq_true rfl, Nat.le_of_ble_eq_true rfl⟩) (zPV2 (q0 := 0) (ci := 2) hPc hDc hK3 hXN rfl rfl) rfl rfl hl.1 rfl (lv_room (Nat.le_of_ble_eq_true rfl)) dX10_join_159 ⟨Nat.zero_le _, Nat.zero_le _⟩) hS hFc hFc rfl (fun t H locs ht hB hk1 hS => ?_)
              obtain ⟨hP1, hD1⟩ := hB
              rw [ht] at hP1
              obtain ⟨hP, hD⟩ := znQ (W2 := [_, _, _, _, _, _, _, (oc2 dq (jI 0) (jI 1)), _, _, _, _, _, _, _, _, _, _, _, _, _, _, _, _, _, _]) hP hD hk1 hFc hP1 hD1 [7, 12, 13, 14, 20, 21, 22] zl_95 zl_95 [7, 12, 13, 14, 20, 21, 22] (by decide +kernel) rfl rfl rfl rfl rfl
              clear hk1 hPc hDc hFc hP1 hD1 ht
              have hfar9 : gp9.toInt * gp9.toInt * 1 < 0 ↔ (¬ mtF (kd f0).toInt (nN (mn f0)) (cF40 cx f0) (cF40 cy f0) (kd g0).toInt (nN (mn g0)) (cF40 cx g0) (cF40 cy g0) ∧ ∀ u d : Nat, 1 ≤ d → IM (dcP (nN (mn f0)) (cF40 cx f0) (cF40 cy f0) (nN (mn g0)) (cF40 cx g0) (cF40 cy g0) (eO (kd g0).toInt (nN (mn g0))) (eO (kd f0).toInt (nN (mn f0))) 0) ((u : Nat) : Int) ((d : Nat) : Int) → gp9.toInt * gp9.toInt * ((d : Nat) : Int) < ((u : Nat) : Int)) := ⟨fun h => by omega, fun h => absurd (hti.mp htc) h.1⟩
              refine lv_aload_n hx hb dX10_join_162 rfl (lv_at hl 4 rfl) ?_
              refine va_get (D := (dC, dI)) (ci := 8) (v := .ref dq) (C := RX10) (T := TX10) (N := 13) hx hb hts inX10 hown hK hP 0 rfl rfl 5 (Nat.le_of_ble_eq_true rfl) (hts _ mw_314) (fun _ h9 => h9) rfl dX10_join_163 ?_
              refine lv_iload_n hx hb dX10_join_166 rfl (lv_at hl 7 rfl) ?_
              obtain ⟨hPc, hDc, hFc, hI1⟩ := zi_sub (wc := [_]) hP hD hS hA [7] rfl rfl
              refine zcall (st1 := [.int (pI (gp9.toInt * gp9.toInt * 1 < 0))]) (va_runV (As := [.int gp9]) (rest := []) ⟨hx, hb, hml, hown, hts⟩ (k_Fr_isOver l dC dI cI cZ cF H.size dq 0 1 gp9 (by first | with_reducible assumption | omega) (by first | with_reducible assumption | omega) (hgp)) (csV_128 hts rfl rfl ⟨Nat.le_of_ble_eq_true rfl, Nat.le_of_ble_eq_true rfl⟩) (zPV2 (q0 := 0) (ci := 2) hPc hDc hK3 hXN rfl rfl) rfl rfl hl.1 rfl (lv_room (Nat.le_of_ble_eq_true rfl)) dX10_join_167 ⟨Nat.zero_le _, Nat.zero_le _⟩) hS hFc hFc rfl (fun t H locs ht hB hk1 hS => ?_)
              obtain ⟨hP1, hD1⟩ := hB
              rw [ht] at hP1
              replace hP := z0 hP hD hk1 hP1 hI1
              clear hk1 hPc hDc hFc hP1 hD1 ht hI1
              refine lv_if_eq (tgt := 179) hx hb dX10_join_170 rfl (fun c_6 => ?_) (fun c_6 => ?_)
              · have c_6 : ¬ (gp9.toInt * gp9.toInt * 1 < 0) := zp_0 c_6
                refine lv_aload_n hx hb dX10_join_179 rfl (lv_at hl 4 rfl) ?_
                refine va_get (D := (dC, dI)) (ci := 8) (v := .ref bq) (C := RX10) (T := TX10) (N := 13) hx hb hts inX10 hown hK hP 0 rfl rfl 3 (Nat.le_of_ble_eq_true rfl) (hts _ mw_312) (fun _ h9 => h9) rfl dX10_join_180 ?_
                refine lv_aload hx hb dX10_join_183 (lv_at hl 1 rfl) ?_
                obtain ⟨hPc, hDc, hFc⟩ := zo_sub (wc := [_, _, _, _]) hP hD hS hA [6, 12, 13, 14] (by decide +kernel) rfl
                refine zcall (st1 := []) (va_runV (As := [.ref r5]) (rest := []) ⟨hx, hb, hml, hown, hts⟩ (k_Box_cover l dC dI cI cZ cF H.size bq c1 c2 c3 c4 r5 rx5 ry5 (nN (mn f0)) cap5 X5 Y5 (rgK (kd f0).toInt) (by first | with_reducible assumption | omega) (by first | with_reducible assumption | omega) ((pls_nr hp5).1) ((pls_nr hp5).2) (by first | with_reducible assumption | omega)) (csV_129 hts rfl rfl ⟨Nat.le_of_ble_eq_true rfl, Nat.le_of_ble_eq_true rfl⟩) (zPV2 (q0 := 0) (ci := 0) hPc hDc hK3 hXN rfl rfl) rfl rfl hl.1 rfl (lv_room (Nat.le_of_ble_eq_true rfl)) dX10_join_185 ⟨Nat.zero_le _, Nat.zero_le _⟩) hS hFc hFc rfl (fun t H locs ht hB hk1 hS => ?_)
                obtain ⟨hP1, hD1⟩ := hB
                rw [ht] at hP1
                obtain ⟨hP, hD⟩ := znQ (W2 := [_, _, _, _, _, _, (oc0 bq (iI (mnI (X5 0).toInt X5 (nN (mn f0)))) (iI (mnI (Y5 0).toInt Y5 (nN (mn f0)))) (iI (mxI (X5 0).toInt X5 (nN (mn f0)))) (iI (mxI (Y5 0).toInt Y5 (nN (mn f0))))), _, _, _, _, _, _, _, _, _, _, _, _, _, _, _, _, _, _, _]) hP hD hk1 hFc hP1 hD1 [6, 12, 13, 14] zl_96 zl_96 [6, 12, 13, 14] (by decide +kernel) rfl rfl rfl rfl rfl
                clear hk1 hPc hDc hFc hP1 hD1 ht
                refine lv_aload_n hx hb dX10_join_188 rfl (lv_at hl 4 rfl) ?_
                refine va_get (D := (dC, dI)) (ci := 8) (v := .ref bq) (C := RX10) (T := TX10) (N := 13) hx hb hts inX10 hown hK hP 0 rfl rfl 3 (Nat.le_of_ble_eq_true rfl) (hts _ mw_312) (fun _ h9 => h9) rfl dX10_join_189 ?_
                refine lv_aload hx hb dX10_join_192 (lv_at hl 0 rfl) ?_
                obtain ⟨hPc, hDc, hFc⟩ := zo_sub (wc := [_, _, _, _]) hP hD hS hA [6, 20, 21, 22] (by decide +kernel) rfl
                refine zcall (st1 := []) (va_runV (As := [.ref r6]) (rest := []) ⟨hx, hb, hml, hown, hts⟩ (k_Box_stretch l dC dI cI cZ cF H.size bq (mnI (X5 0).toInt X5 (nN (mn f0))) (mnI (Y5 0).toInt Y5 (nN (mn f0))) (mxI (X5 0).toInt X5 (nN (mn f0))) (mxI (Y5 0).toInt Y5 (nN (mn f0))) r6 rx6 ry6 (nN (mn g0)) cap6 X6 Y6 (rgK (kd g0).toInt) (⟨mnB ((pls_nr hp5).1 0 (by first | with_reducible assumption | omega)) (pls_nr hp5).1 _ (Nat.le_refl _), mnB ((pls_nr hp5).2 0 (by first | with_reducible assumption | omega)) (pls_nr hp5).2 _ (Nat.le_refl _), mxB ((pls_nr hp5).1 0 (by first | with_reducible assumption | omega)) (pls_nr hp5).1 _ (Nat.le_refl _), mxB ((pls_nr hp5).2 0 (by first | with_reducible assumption | omega)) (pls_nr hp5).2 _ (Nat.le_refl _)⟩) (by first | with_reducible assumption | omega) (by first | with_reducible assumption | omega) ((pls_nr hp6).1) ((pls_nr hp6).2)) (csV_130 hts rfl rfl ⟨Nat.le_of_ble_eq_true rfl, Nat.le_of_ble_eq_true rfl⟩) (zPV2 (q0 := 0) (ci := 0) hPc hDc hK3 hXN rfl rfl) rfl rfl hl.1 rfl (lv_room (Nat.le_of_ble_eq_true rfl)) dX10_join_194 ⟨Nat.zero_le _, Nat.zero_le _⟩) hS hFc hFc rfl (fun t H locs ht hB hk1 hS => ?_)
                obtain ⟨hP1, hD1⟩ := hB
                rw [ht] at hP1
                obtain ⟨hP, hD⟩ := znQ (W2 := [_, _, _, _, _, _, (oc0 bq (iI (mnI (mnI (X5 0).toInt X5 (nN (mn f0))) X6 (nN (mn g0)))) (iI (mnI (mnI (Y5 0).toInt Y5 (nN (mn f0))) Y6 (nN (mn g0)))) (iI (mxI (mxI (X5 0).toInt X5 (nN (mn f0))) X6 (nN (mn g0)))) (iI (mxI (mxI (Y5 0).toInt Y5 (nN (mn f0))) Y6 (nN (mn g0))))), _, _, _, _, _, _, _, _, _, _, _, _, _, _, _, _, _, _, _]) hP hD hk1 hFc hP1 hD1 [6, 20, 21, 22] zl_97 zl_97 [6, 20, 21, 22] (by decide +kernel) rfl rfl rfl rfl rfl
                clear hk1 hPc hDc hFc hP1 hD1 ht
                refine lv_aload_n hx hb dX10_join_197 rfl (lv_at hl 4 rfl) ?_
                refine va_get (D := (dC, dI)) (ci := 8) (v := .ref lw) (C := RX10) (T := TX10) (N := 13) hx hb hts inX10 hown hK hP 0 rfl rfl 1 (Nat.le_of_ble_eq_true rfl) (hts _ mw_310) (fun _ h9 => h9) rfl dX10_join_198 ?_
                refine va_get (D := (dC, dI)) (ci := 3) (v := .ref dr) (C := RX4) (T := TX4) (N := 6) hx hb hts inX4 hown hK hP 2 rfl rfl 0 (Nat.le_of_ble_eq_true rfl) (hts _ mw_220) (fun _ h9 => h9) rfl dX10_join_201 ?_
                refine lv_aload_n hx hb dX10_join_204 rfl (lv_at hl 4 rfl) ?_
                refine va_get (D := (dC, dI)) (ci := 8) (v := .ref bq) (C := RX10) (T := TX10) (N := 13) hx hb hts inX10 hown hK hP 0 rfl rfl 3 (Nat.le_of_ble_eq_true rfl) (hts _ mw_312) (fun _ h9 => h9) rfl dX10_join_205 ?_
                obtain ⟨hPc, hDc, hFc⟩ := zo_sub (wc := [_, _, _, _]) hP hD hS hA [3, 4, 5, 6] (by decide +kernel) rfl
                refine zcall (st1 := []) (va_runV (As := [.ref bq]) (rest := []) ⟨hx, hb, hml, hown, hts⟩ (k_Row_boxFrom l dC dI cI cZ cF H.size dr dx dy nd cd P Q rd bq (iI (mnI (mnI (X5 0).toInt X5 (nN (mn f0))) X6 (nN (mn g0)))) (iI (mnI (mnI (Y5 0).toInt Y5 (nN (mn f0))) Y6 (nN (mn g0)))) (iI (mxI (mxI (X5 0).toInt X5 (nN (mn f0))) X6 (nN (mn g0)))) (iI (mxI (mxI (Y5 0).toInt Y5 (nN (mn f0))) Y6 (nN (mn g0)))) (by first | with_reducible assumption | omega) (by first | with_reducible assumption | omega)) (csV_131 hts rfl rfl ⟨Nat.le_of_ble_eq_true rfl, Nat.le_of_ble_eq_true rfl⟩) (zPV2 (q0 := 0) (ci := 6) hPc hDc hK3 hXN rfl rfl) rfl rfl hl.1 rfl (lv_room (Nat.le_of_ble_eq_true rfl)) dX10_join_208 ⟨Nat.zero_le _, Nat.zero_le _⟩) hS hFc hFc rfl (fun t H locs ht hB hk1 hS => ?_)
                obtain ⟨hP1, hD1⟩ := hB
                rw [ht] at hP1
                obtain ⟨hP, hD⟩ := znQ (W2 := [_, _, _, (oc6 dr (.ref dx) (.ref dy) (nI 4) 1), (oa dx cI cd (upd (upd (upd (upd P 0 (iI (mnI (mnI (X5 0).toInt X5 (nN (mn f0))) X6 (nN (mn g0))))) 1 (iI (mxI (mxI (X5 0).toInt X5 (nN (mn f0))) X6 (nN (mn g0))))) 2 (iI (mxI (mxI (X5 0).toInt X5 (nN (mn f0))) X6 (nN (mn g0))))) 3 (iI (mnI (mnI (X5 0).toInt X5 (nN (mn f0))) X6 (nN (mn g0)))))), (oa dy cI cd (upd (upd (upd (upd Q 0 (iI (mnI (mnI (Y5 0).toInt Y5 (nN (mn f0))) Y6 (nN (mn g0))))) 1 (iI (mnI (mnI (Y5 0).toInt Y5 (nN (mn f0))) Y6 (nN (mn g0))))) 2 (iI (mxI (mxI (Y5 0).toInt Y5 (nN (mn f0))) Y6 (nN (mn g0))))) 3 (iI (mxI (mxI (Y5 0).toInt Y5 (nN (mn f0))) Y6 (nN (mn g0)))))), _, _, _, _, _, _, _, _, _, _, _, _, _, _, _, _, _, _, _, _]) hP hD hk1 hFc hP1 hD1 [3, 4, 5, 6] zl_98 zl_98 [3, 4, 5, 6] (by decide +kernel) rfl rfl rfl rfl rfl
                clear hk1 hPc hDc hFc hP1 hD1 ht
                obtain ⟨P7, hP7⟩ : ∃ z9 : Nat → Int32, z9 = upd (upd (upd (upd P 0 (iI (mnI (mnI (X5 0).toInt X5 (nN (mn f0))) X6 (nN (mn g0))))) 1 (iI (mxI (mxI (X5 0).toInt X5 (nN (mn f0))) X6 (nN (mn g0))))) 2 (iI (mxI (mxI (X5 0).toInt X5 (nN (mn f0))) X6 (nN (mn g0))))) 3 (iI (mnI (mnI (X5 0).toInt X5 (nN (mn f0))) X6 (nN (mn g0)))) := ⟨_, rfl⟩
                rw [← hP7] at hP hD
                obtain ⟨Q7, hQ7⟩ : ∃ z9 : Nat → Int32, z9 = upd (upd (upd (upd Q 0 (iI (mnI (mnI (Y5 0).toInt Y5 (nN (mn f0))) Y6 (nN (mn g0))))) 1 (iI (mnI (mnI (Y5 0).toInt Y5 (nN (mn f0))) Y6 (nN (mn g0))))) 2 (iI (mxI (mxI (Y5 0).toInt Y5 (nN (mn f0))) Y6 (nN (mn g0))))) 3 (iI (mxI (mxI (Y5 0).toInt Y5 (nN (mn f0))) Y6 (nN (mn g0)))) := ⟨_, rfl⟩
                rw [← hQ7] at hP hD
                obtain ⟨hP, hD⟩ := zre (W2 := ([_, _, _, _, _, _, _, _, _, _, _, _, _, _, _, _, _, _, _, _, _, _, _, _, _, _] ++ va_pl T_1 f)) hP hD rfl
                have hjb := jbox hX5 hX6 hw1.1
                have hp0 : P7 0 = z1 ∧ P7 1 = z3 ∧ P7 2 = z3 ∧ P7 3 = z1 := (by rw [hP7, hjb.1, hjb.2.1, ← hz1, ← hz3]; exact bx_4)
                have hq0 : Q7 0 = z2 ∧ Q7 1 = z2 ∧ Q7 2 = z4 ∧ Q7 3 = z4 := (by rw [hQ7, hjb.2.2.1, hjb.2.2.2, ← hz2, ← hz4]; exact bx_5)
                have hjp : pl z1 ∧ pl z3 ∧ pl z2 ∧ pl z4 := (by rw [hz1, hz2, hz3, hz4]; exact jpl hwf0.2.2 hw1.1 hwfg.2.2)
                have hpd7 : pls 4 P7 Q7 := pls4 hp0 hq0 hjp.1 hjp.2.1 hjp.2.2.1 hjp.2.2.2
                have hfre := free_iff (f := f0) (g := g0) h200 ⟨hp0.1, hq0.1⟩ ⟨hp0.2.1, hq0.2.1⟩ ⟨hp0.2.2.1, hq0.2.2.1⟩ ⟨hp0.2.2.2, hq0.2.2.2⟩ hwf hkn
                rw [show rgK 6 = (1 : Int32) by decide] at hfre
                refine lv_aload_n hx hb dX10_join_211 rfl (lv_at hl 4 rfl) ?_
                refine va_get (D := (dC, dI)) (ci := 8) (v := .ref lw) (C := RX10) (T := TX10) (N := 13) hx hb hts inX10 hown hK hP 0 rfl rfl 1 (Nat.le_of_ble_eq_true rfl) (hts _ mw_310) (fun _ h9 => h9) rfl dX10_join_212 ?_
                refine lv_aload_n hx hb dX10_join_215 rfl (lv_at hl 4 rfl) ?_
                refine va_get (D := (dC, dI)) (ci := 8) (v := .ref sh) (C := RX10) (T := TX10) (N := 13) hx hb hts inX10 hown hK hP 0 rfl rfl 0 (Nat.le_of_ble_eq_true rfl) (hts _ mw_309) (fun _ h9 => h9) rfl dX10_join_216 ?_
                refine lv_aload hx hb dX10_join_219 (lv_at hl 3 rfl) ?_
                refine lv_aload hx hb dX10_join_221 (lv_at hl 2 rfl) ?_
                obtain ⟨hPc, hDc, hFc, hI1⟩ := zi_part (cx := [_, _, _, _, _, _, _, _, _, _]) hP hD hS hA [2, 3, 4, 5, 8, 9, 10, 11, 18, 19] (by decide +kernel) rfl
                refine zcall (st1 := [.int (pI (∀ q, q < ft → (q ≠ f0 → q ≠ g0 → lvF ft st tn q → ¬ tch 4 P7 Q7 (1 : Int32) (nN (mn q)) (cF40 cx q) (cF40 cy q) (rgK (kd q).toInt) ∧ ¬ inF 5 4 P7 Q7 (cF40 cx q 0).toInt (cF40 cy q 0).toInt)))]) (va_runV (As := [.ref sh, .ref (fe f0), .ref (fe g0)]) (rest := []) ⟨hx, hb, hml, hown, hts⟩ (k_Law_isFreeFor_2 l dC dI cI cZ cF H.size lw dr tg wy br bo aa dx dy 4 cd P7 Q7 1 sh fa ft FA (fe f0) lo5 (rk f0) (wd f0) (tw f0) (pa f0) (pb f0) (la dn f0) (kd f0) (st f0) (gb f0) (it f0) (nI we5) r5 f0 (.null) (fe g0) lo6 (la dn g0) r6 g0 (rk g0) (wd g0) (tw g0) (pa g0) (pb g0) (kd g0) (st g0) (gb g0) (it g0) (nI we6) (.null) T_1 f kd st tn mn cx cy (by first | with_reducible assumption | omega) (by first | with_reducible assumption | omega) (hFA9 f0 (by first | with_reducible assumption | omega)) (hst) (by first | with_reducible assumption | omega) (hFA9 g0 (by first | with_reducible assumption | omega)) (hsg) (by rw [← hT_1]; exact sh_vw2 (q := f0) (p := g0) (A := [(oc1 (fe f0) (rk f0) (wd f0) (tw f0) (pa f0) (pb f0) (.ref lo5) (.ref (la dn f0)) .null), (oc4 (la dn f0) (kd f0) (st f0) (.ref r5) (gb f0) (it f0) (nI we5)), (oc6 r5 (.ref rx5) (.ref ry5) (nI (nN (mn f0))) (rgK (kd f0).toInt)), (oa rx5 cI cap5 X5), (oa ry5 cI cap5 Y5), (oc6 lo5 (.ref lx5) (.ref ly5) (nI ln5) 0), (oa lx5 cI (cl f0) LX5), (oa ly5 cI (cl f0) LY5)]) (B := [(oc1 (fe g0) (rk g0) (wd g0) (tw g0) (pa g0) (pb g0) (.ref lo6) (.ref (la dn g0)) .null), (oc4 (la dn g0) (kd g0) (st g0) (.ref r6) (gb g0) (it g0) (nI we6)), (oc6 r6 (.ref rx6) (.ref ry6) (nI (nN (mn g0))) (rgK (kd g0).toInt)), (oa rx6 cI cap6 X6), (oa ry6 cI cap6 Y6), (oc6 lo6 (.ref lx6) (.ref ly6) (nI ln6) 0), (oa lx6 cI (cl g0) LX6), (oa ly6 cI (cl g0) LY6)]) (fun r hr => fc_ne hc5 (by first | with_reducible assumption | omega) (by first | with_reducible assumption | omega) hr) (fun r hr => fc_ne hc6 (by first | with_reducible assumption | omega) (by first | with_reducible assumption | omega) hr) hG.1 hG.2.1 hFA9 (Nat.le_refl _)) (hwf) (hkn) (by first | with_reducible assumption | omega) (by first | with_reducible assumption | omega) (hpd7)) (csV_132 hts rfl rfl ⟨Nat.le_of_ble_eq_true rfl, Nat.le_of_ble_eq_true rfl⟩) (zPV2 (q0 := 0) (ci := 3) hPc hDc hK3 hXN rfl rfl) rfl rfl hl.1 rfl (lv_room (Nat.le_of_ble_eq_true rfl)) dX10_join_223 ⟨Nat.zero_le _, Nat.zero_le _⟩) hS hFc hFc rfl (fun t H locs ht hB hk1 hS => ?_)
                obtain ⟨hP1, hD1⟩ := hB
                rw [ht] at hP1
                replace hP := z0 hP hD hk1 hP1 hI1
                clear hk1 hPc hDc hFc hP1 hD1 ht hI1
                refine lv_if_ne (tgt := 236) hx hb dX10_join_226 rfl (fun c_7 => ?_) (fun c_7 => ?_)
                · have c_7 : ∀ q, q < ft → (q ≠ f0 → q ≠ g0 → lvF ft st tn q → ¬ tch 4 P7 Q7 (1 : Int32) (nN (mn q)) (cF40 cx q) (cF40 cy q) (rgK (kd q).toInt) ∧ ¬ inF 5 4 P7 Q7 (cF40 cx q 0).toInt (cF40 cy q 0).toInt) := zp_1 c_7
                  refine lv_aload_n hx hb dX10_join_236 rfl (lv_at hl 4 rfl) ?_
                  refine va_get (D := (dC, dI)) (ci := 8) (v := .ref sh) (C := RX10) (T := TX10) (N := 13) hx hb hts inX10 hown hK hP 0 rfl rfl 0 (Nat.le_of_ble_eq_true rfl) (hts _ mw_309) (fun _ h9 => h9) rfl dX10_join_237 ?_
                  obtain ⟨hPc, hDc, hFc, hI1⟩ := zi_sub (wc := [_, _]) hP hD hS hA [8, 9] rfl rfl
                  refine zcall (st1 := [.int (pI (ft = 200))]) (va_runV (As := []) (rest := []) ⟨hx, hb, hml, hown, hts⟩ (k_Sheet_isFull l dC dI cI cZ cF H.size sh fa ft FA (by first | with_reducible assumption | omega)) (csV_105 hts rfl rfl ⟨Nat.le_of_ble_eq_true rfl, Nat.le_of_ble_eq_true rfl⟩) (zPV2 (q0 := 0) (ci := 7) hPc hDc hK3 hXN rfl rfl) rfl rfl hl.1 rfl (lv_room (Nat.le_of_ble_eq_true rfl)) dX10_join_240 ⟨Nat.zero_le _, Nat.zero_le _⟩) hS hFc hFc rfl (fun t H locs ht hB hk1 hS => ?_)
                  obtain ⟨hP1, hD1⟩ := hB
                  rw [ht] at hP1
                  replace hP := z0 hP hD hk1 hP1 hI1
                  clear hk1 hPc hDc hFc hP1 hD1 ht hI1
                  refine lv_if_ne (tgt := 253) hx hb dX10_join_243 rfl (fun c_8 => ?_) (fun c_8 => ?_)
                  · have c_8 : ft = 200 := zp_1 c_8
                    exfalso; omega
                  · have c_8 : ¬ (ft = 200) := zp_0 c_8
                    refine lv_aload hx hb dX10_join_246 (lv_at hl 3 rfl) ?_
                    refine lv_aload hx hb dX10_join_248 (lv_at hl 2 rfl) ?_
                    refine z_acmpne (rx := (fe f0)) (ry := (fe g0)) (tgt := 260) hx hb dX10_join_250 (by decide) (fun c_9 => ?_) (fun c_9 => ?_)
                    · have c_9 : ¬ (fe f0) = (fe g0) := c_9
                      refine lv_aload_n hx hb dX10_join_260 rfl (lv_at hl 4 rfl) ?_
                      refine lv_aload hx hb dX10_join_261 (lv_at hl 3 rfl) ?_
                      refine lv_aload hx hb dX10_join_263 (lv_at hl 2 rfl) ?_
                      refine lv_iload_n hx hb dX10_join_265 rfl (lv_at hl 5 rfl) ?_
                      refine lv_iload_n hx hb dX10_join_266 rfl (lv_at hl 6 rfl) ?_
                      obtain ⟨hPc, hDc, hFc⟩ := zo_part (cx := [_, _, _, _, _, _, _, _, _, _, _, _, _, _, _, _, _, _, _, _, _, _, _, _]) hP hD hS hA [0, 1, 2, 3, 4, 5, 10, 11, 12, 13, 14, 15, 16, 17, 18, 19, 20, 21, 22, 23, 24, 25, 8, 9] (by decide +kernel) rfl
                      refine zcall (st1 := [.int (nI ft)]) (va_runV (As := [.ref (fe f0), .ref (fe g0), .int (nI f0), .int (nI g0)]) (rest := []) ⟨hx, hb, hml, hown, hts⟩ (k_unite l dC dI cI cZ cF H.size cO e0 mi x sh lw ro bq bp dq dp lv sl sd ul su ea mc9 fa FA bs dn T ft FT V VX VY tn rk wd tw pa pb wh of9 we kd st gb it mn cx cy T_1 f L f0 g0 own fe cl la sp SA lo5 lx5 ly5 ln5 LX5 LY5 we5 r5 rx5 ry5 cap5 X5 Y5 lo6 lx6 ly6 ln6 LX6 LY6 we6 r6 rx6 ry6 cap6 X6 Y6 dr tg wy br bo aa dx dy cd P7 Q7 z1 z2 z3 z4 (hG9) (hH9) (hft9) (hO9) (hc5) (hc6) (hT_1) (hf0) (htn) (hst) (hg0) (htg) (hsg) (hgf) (hlt) (by first | with_reducible assumption | omega) (by first | with_reducible assumption | omega) (hp0) (hq0)) (csV_133 hts rfl rfl ⟨Nat.le_of_ble_eq_true rfl, Nat.le_of_ble_eq_true rfl⟩) (zPVL (q0 := 0) (ci := 8) hPc hDc hK hXL hS hFc rfl rfl) rfl rfl hl.1 rfl (lv_room (Nat.le_of_ble_eq_true rfl)) dX10_join_267 ⟨show (0 + (ft + 13)) ≤ ft + 13 by omega, show (0 + (4 * ft + 860)) ≤ 4 * ft + 860 by omega⟩) hS hFc hFc rfl (fun t H locs ht hB hk1 hS => ?_)
                      obtain ⟨mc6, L6, f6, ea6, fe7, hB6, hP1, hD1⟩ := hB
                      rw [ht] at hP1
                      obtain ⟨hP, hD⟩ := znP (W2 := [_, _, (oc8 x (.ref sh) (.ref lw) (.ref ro) (.ref bq) (.ref bp) (.ref dq) (.ref dp) (.ref lv) (.ref sl) (nI (dn + 1)) sd ul 0), (oc10 sl mc6 (.ref ea6) (nI (dn + 1))), (oc3 lw (.ref dr) (.ref tg) (.ref wy) (.ref br) (.ref bo) (.ref aa)), (oc6 dr (.ref dx) (.ref dy) (nI 4) 1), (oa dx cI cd P7), (oa dy cI cd Q7), (oc7 sh (.ref fa) (nI (ft + 1))), (oq fa cF 200 (va_up FA ft (some fe7)))]) hP hD hk1 hFc hP1 hD1 zl_100 zl_101 zl_102 zl_103 (by decide +kernel) rfl rfl rfl rfl rfl
                      clear hk1 hPc hDc hFc hP1 hD1 ht
                      obtain ⟨hP9, hD9⟩ := zq_part (cx := [_, _, _, _, _, _, _, _, _, _]) hP hD [2, 3, 4, 5, 6, 7, 0, 1, 8, 9] rfl rfl
                      refine W.widen (k := ft + 13) (n := 4 * ft + 860) (by omega) (by omega) ?_
                      rw [hQ9]
                      exact W.iret (v := nI ft) hx hb hr (fun t ht hW => ⟨⟨rfl, mc6, L6, f6, ea6, 4, P7, Q7, 1, (iI (mnI (mnI (X5 0).toInt X5 (nN (mn f0))) X6 (nN (mn g0)))), (iI (mnI (mnI (Y5 0).toInt Y5 (nN (mn f0))) Y6 (nN (mn g0)))), (iI (mxI (mxI (X5 0).toInt X5 (nN (mn f0))) X6 (nN (mn g0)))), (iI (mxI (mxI (Y5 0).toInt Y5 (nN (mn f0))) Y6 (nN (mn g0)))), (jI 0), (jI 1), fe7, (hB6), by rw [ht]; exact hP9, hD9⟩, hS.F ht⟩) hS.2.2 dX10_join_270
                    · have c_9 : (fe f0) = (fe g0) := c_9
                      exfalso; exact absurd (by first | with_reducible assumption | assumption) (ce_ne hc5.1.1 hc6.1.1 (by omega))
                · have c_7 : ¬ (∀ q, q < ft → (q ≠ f0 → q ≠ g0 → lvF ft st tn q → ¬ tch 4 P7 Q7 (1 : Int32) (nN (mn q)) (cF40 cx q) (cF40 cy q) (rgK (kd q).toInt) ∧ ¬ inF 5 4 P7 Q7 (cF40 cx q 0).toInt (cF40 cy q 0).toInt)) := zp_0 c_7
                  exfalso; exact absurd (hfre.mpr hfree) (by first | with_reducible assumption | assumption)
              · have c_6 : gp9.toInt * gp9.toInt * 1 < 0 := zp_1 c_6
                exfalso; exact hnf (hfar9.mp (by first | with_reducible assumption | assumption))
            · skip
              refine lv_aload_n hx hb dX10_join_151 rfl (lv_at hl 4 rfl) ?_
              refine va_get (D := (dC, dI)) (ci := 8) (v := .ref dq) (C := RX10) (T := TX10) (N := 13) hx hb hts inX10 hown hK hP 0 rfl rfl 5 (Nat.le_of_ble_eq_true rfl) (hts _ mw_314) (fun _ h9 => h9) rfl dX10_join_152 ?_
              refine lv_aload hx hb dX10_join_155 (lv_at hl 1 rfl) ?_
              refine lv_aload hx hb dX10_join_157 (lv_at hl 0 rfl) ?_
              obtain ⟨hPc, hDc, hFc⟩ := zo_sub (wc := [_, _, _, _, _, _, _]) hP hD hS hA [7, 12, 13, 14, 20, 21, 22] (by decide +kernel) rfl
              refine zcall (st1 := []) (va_runV (As := [.ref r5, .ref r6]) (rest := []) ⟨hx, hb, hml, hown, hts⟩ (k_Fr_between_n l dC dI cI cZ cF H.size dq y1 y2 r5 rx5 ry5 (nN (mn f0)) cap5 X5 Y5 (rgK (kd f0).toInt) r6 rx6 ry6 (nN (mn g0)) cap6 X6 Y6 (rgK (kd g0).toInt) (by first | with_reducible assumption | omega) (by first | with_reducible assumption | omega) (hp5) (by first | with_reducible assumption | omega) (by first | with_reducible assumption | omega) (hp6) (htc) (by first | with_reducible assumption | omega) (by first | with_reducible assumption | omega) (by rw [prt_eO (rgK_t _) hkn0]; unfold eO; split; omega; split <;> omega) (by rw [prt_eO (rgK_t _) hkng]; unfold eO; split; omega; split <;> omega)) (csV_127 hts rfl rfl ⟨Nat.le_of_ble_eq_true rfl, Nat.le_of_ble_eq_true rfl⟩) (zPV2 (q0 := 0) (ci := 2) hPc hDc hK3 hXN rfl rfl) rfl rfl hl.1 rfl (lv_room (Nat.le_of_ble_eq_true rfl)) dX10_join_159 ⟨Nat.zero_le _, Nat.zero_le _⟩) hS hFc hFc rfl (fun t H locs ht hB hk1 hS => ?_)
              obtain ⟨zu7, zd7, him7, hzb7, hP1, hD1⟩ := hB
              rw [ht] at hP1
              obtain ⟨hP, hD⟩ := znQ (W2 := [_, _, _, _, _, _, _, (oc2 dq (jI zu7) (jI zd7)), _, _, _, _, _, _, _, _, _, _, _, _, _, _, _, _, _, _]) hP hD hk1 hFc hP1 hD1 [7, 12, 13, 14, 20, 21, 22] zl_95 zl_95 [7, 12, 13, 14, 20, 21, 22] (by decide +kernel) rfl rfl rfl rfl rfl
              clear hk1 hPc hDc hFc hP1 hD1 ht
              have hfar9 : gp9.toInt * gp9.toInt * zd7 < zu7 ↔ (¬ mtF (kd f0).toInt (nN (mn f0)) (cF40 cx f0) (cF40 cy f0) (kd g0).toInt (nN (mn g0)) (cF40 cx g0) (cF40 cy g0) ∧ ∀ u d : Nat, 1 ≤ d → IM (dcP (nN (mn f0)) (cF40 cx f0) (cF40 cy f0) (nN (mn g0)) (cF40 cx g0) (cF40 cy g0) (eO (kd g0).toInt (nN (mn g0))) (eO (kd f0).toInt (nN (mn f0))) 0) ((u : Nat) : Int) ((d : Nat) : Int) → gp9.toInt * gp9.toInt * ((d : Nat) : Int) < ((u : Nat) : Int)) := jfar_iff hX5 hX6 hkn0 hkng him7 (by omega) (fun h => htc (hti.mpr h))
              refine lv_aload_n hx hb dX10_join_162 rfl (lv_at hl 4 rfl) ?_
              refine va_get (D := (dC, dI)) (ci := 8) (v := .ref dq) (C := RX10) (T := TX10) (N := 13) hx hb hts inX10 hown hK hP 0 rfl rfl 5 (Nat.le_of_ble_eq_true rfl) (hts _ mw_314) (fun _ h9 => h9) rfl dX10_join_163 ?_
              refine lv_iload_n hx hb dX10_join_166 rfl (lv_at hl 7 rfl) ?_
              obtain ⟨hPc, hDc, hFc, hI1⟩ := zi_sub (wc := [_]) hP hD hS hA [7] rfl rfl
              refine zcall (st1 := [.int (pI (gp9.toInt * gp9.toInt * zd7 < zu7))]) (va_runV (As := [.int gp9]) (rest := []) ⟨hx, hb, hml, hown, hts⟩ (k_Fr_isOver l dC dI cI cZ cF H.size dq zu7 zd7 gp9 (by first | with_reducible assumption | omega) (by first | with_reducible assumption | omega) (hgp)) (csV_128 hts rfl rfl ⟨Nat.le_of_ble_eq_true rfl, Nat.le_of_ble_eq_true rfl⟩) (zPV2 (q0 := 0) (ci := 2) hPc hDc hK3 hXN rfl rfl) rfl rfl hl.1 rfl (lv_room (Nat.le_of_ble_eq_true rfl)) dX10_join_167 ⟨Nat.zero_le _, Nat.zero_le _⟩) hS hFc hFc rfl (fun t H locs ht hB hk1 hS => ?_)
              obtain ⟨hP1, hD1⟩ := hB
              rw [ht] at hP1
              replace hP := z0 hP hD hk1 hP1 hI1
              clear hk1 hPc hDc hFc hP1 hD1 ht hI1
              refine lv_if_eq (tgt := 179) hx hb dX10_join_170 rfl (fun c_10 => ?_) (fun c_10 => ?_)
              · have c_10 : ¬ (gp9.toInt * gp9.toInt * zd7 < zu7) := zp_0 c_10
                refine lv_aload_n hx hb dX10_join_179 rfl (lv_at hl 4 rfl) ?_
                refine va_get (D := (dC, dI)) (ci := 8) (v := .ref bq) (C := RX10) (T := TX10) (N := 13) hx hb hts inX10 hown hK hP 0 rfl rfl 3 (Nat.le_of_ble_eq_true rfl) (hts _ mw_312) (fun _ h9 => h9) rfl dX10_join_180 ?_
                refine lv_aload hx hb dX10_join_183 (lv_at hl 1 rfl) ?_
                obtain ⟨hPc, hDc, hFc⟩ := zo_sub (wc := [_, _, _, _]) hP hD hS hA [6, 12, 13, 14] (by decide +kernel) rfl
                refine zcall (st1 := []) (va_runV (As := [.ref r5]) (rest := []) ⟨hx, hb, hml, hown, hts⟩ (k_Box_cover l dC dI cI cZ cF H.size bq c1 c2 c3 c4 r5 rx5 ry5 (nN (mn f0)) cap5 X5 Y5 (rgK (kd f0).toInt) (by first | with_reducible assumption | omega) (by first | with_reducible assumption | omega) ((pls_nr hp5).1) ((pls_nr hp5).2) (by first | with_reducible assumption | omega)) (csV_129 hts rfl rfl ⟨Nat.le_of_ble_eq_true rfl, Nat.le_of_ble_eq_true rfl⟩) (zPV2 (q0 := 0) (ci := 0) hPc hDc hK3 hXN rfl rfl) rfl rfl hl.1 rfl (lv_room (Nat.le_of_ble_eq_true rfl)) dX10_join_185 ⟨Nat.zero_le _, Nat.zero_le _⟩) hS hFc hFc rfl (fun t H locs ht hB hk1 hS => ?_)
                obtain ⟨hP1, hD1⟩ := hB
                rw [ht] at hP1
                obtain ⟨hP, hD⟩ := znQ (W2 := [_, _, _, _, _, _, (oc0 bq (iI (mnI (X5 0).toInt X5 (nN (mn f0)))) (iI (mnI (Y5 0).toInt Y5 (nN (mn f0)))) (iI (mxI (X5 0).toInt X5 (nN (mn f0)))) (iI (mxI (Y5 0).toInt Y5 (nN (mn f0))))), _, _, _, _, _, _, _, _, _, _, _, _, _, _, _, _, _, _, _]) hP hD hk1 hFc hP1 hD1 [6, 12, 13, 14] zl_96 zl_96 [6, 12, 13, 14] (by decide +kernel) rfl rfl rfl rfl rfl
                clear hk1 hPc hDc hFc hP1 hD1 ht
                refine lv_aload_n hx hb dX10_join_188 rfl (lv_at hl 4 rfl) ?_
                refine va_get (D := (dC, dI)) (ci := 8) (v := .ref bq) (C := RX10) (T := TX10) (N := 13) hx hb hts inX10 hown hK hP 0 rfl rfl 3 (Nat.le_of_ble_eq_true rfl) (hts _ mw_312) (fun _ h9 => h9) rfl dX10_join_189 ?_
                refine lv_aload hx hb dX10_join_192 (lv_at hl 0 rfl) ?_
                obtain ⟨hPc, hDc, hFc⟩ := zo_sub (wc := [_, _, _, _]) hP hD hS hA [6, 20, 21, 22] (by decide +kernel) rfl
                refine zcall (st1 := []) (va_runV (As := [.ref r6]) (rest := []) ⟨hx, hb, hml, hown, hts⟩ (k_Box_stretch l dC dI cI cZ cF H.size bq (mnI (X5 0).toInt X5 (nN (mn f0))) (mnI (Y5 0).toInt Y5 (nN (mn f0))) (mxI (X5 0).toInt X5 (nN (mn f0))) (mxI (Y5 0).toInt Y5 (nN (mn f0))) r6 rx6 ry6 (nN (mn g0)) cap6 X6 Y6 (rgK (kd g0).toInt) (⟨mnB ((pls_nr hp5).1 0 (by first | with_reducible assumption | omega)) (pls_nr hp5).1 _ (Nat.le_refl _), mnB ((pls_nr hp5).2 0 (by first | with_reducible assumption | omega)) (pls_nr hp5).2 _ (Nat.le_refl _), mxB ((pls_nr hp5).1 0 (by first | with_reducible assumption | omega)) (pls_nr hp5).1 _ (Nat.le_refl _), mxB ((pls_nr hp5).2 0 (by first | with_reducible assumption | omega)) (pls_nr hp5).2 _ (Nat.le_refl _)⟩) (by first | with_reducible assumption | omega) (by first | with_reducible assumption | omega) ((pls_nr hp6).1) ((pls_nr hp6).2)) (csV_130 hts rfl rfl ⟨Nat.le_of_ble_eq_true rfl, Nat.le_of_ble_eq_true rfl⟩) (zPV2 (q0 := 0) (ci := 0) hPc hDc hK3 hXN rfl rfl) rfl rfl hl.1 rfl (lv_room (Nat.le_of_ble_eq_true rfl)) dX10_join_194 ⟨Nat.zero_le _, Nat.zero_le _⟩) hS hFc hFc rfl (fun t H locs ht hB hk1 hS => ?_)
                obtain ⟨hP1, hD1⟩ := hB
                rw [ht] at hP1
                obtain ⟨hP, hD⟩ := znQ (W2 := [_, _, _, _, _, _, (oc0 bq (iI (mnI (mnI (X5 0).toInt X5 (nN (mn f0))) X6 (nN (mn g0)))) (iI (mnI (mnI (Y5 0).toInt Y5 (nN (mn f0))) Y6 (nN (mn g0)))) (iI (mxI (mxI (X5 0).toInt X5 (nN (mn f0))) X6 (nN (mn g0)))) (iI (mxI (mxI (Y5 0).toInt Y5 (nN (mn f0))) Y6 (nN (mn g0))))), _, _, _, _, _, _, _, _, _, _, _, _, _, _, _, _, _, _, _]) hP hD hk1 hFc hP1 hD1 [6, 20, 21, 22] zl_97 zl_97 [6, 20, 21, 22] (by decide +kernel) rfl rfl rfl rfl rfl
                clear hk1 hPc hDc hFc hP1 hD1 ht
                refine lv_aload_n hx hb dX10_join_197 rfl (lv_at hl 4 rfl) ?_
                refine va_get (D := (dC, dI)) (ci := 8) (v := .ref lw) (C := RX10) (T := TX10) (N := 13) hx hb hts inX10 hown hK hP 0 rfl rfl 1 (Nat.le_of_ble_eq_true rfl) (hts _ mw_310) (fun _ h9 => h9) rfl dX10_join_198 ?_
                refine va_get (D := (dC, dI)) (ci := 3) (v := .ref dr) (C := RX4) (T := TX4) (N := 6) hx hb hts inX4 hown hK hP 2 rfl rfl 0 (Nat.le_of_ble_eq_true rfl) (hts _ mw_220) (fun _ h9 => h9) rfl dX10_join_201 ?_
                refine lv_aload_n hx hb dX10_join_204 rfl (lv_at hl 4 rfl) ?_
                refine va_get (D := (dC, dI)) (ci := 8) (v := .ref bq) (C := RX10) (T := TX10) (N := 13) hx hb hts inX10 hown hK hP 0 rfl rfl 3 (Nat.le_of_ble_eq_true rfl) (hts _ mw_312) (fun _ h9 => h9) rfl dX10_join_205 ?_
                obtain ⟨hPc, hDc, hFc⟩ := zo_sub (wc := [_, _, _, _]) hP hD hS hA [3, 4, 5, 6] (by decide +kernel) rfl
                refine zcall (st1 := []) (va_runV (As := [.ref bq]) (rest := []) ⟨hx, hb, hml, hown, hts⟩ (k_Row_boxFrom l dC dI cI cZ cF H.size dr dx dy nd cd P Q rd bq (iI (mnI (mnI (X5 0).toInt X5 (nN (mn f0))) X6 (nN (mn g0)))) (iI (mnI (mnI (Y5 0).toInt Y5 (nN (mn f0))) Y6 (nN (mn g0)))) (iI (mxI (mxI (X5 0).toInt X5 (nN (mn f0))) X6 (nN (mn g0)))) (iI (mxI (mxI (Y5 0).toInt Y5 (nN (mn f0))) Y6 (nN (mn g0)))) (by first | with_reducible assumption | omega) (by first | with_reducible assumption | omega)) (csV_131 hts rfl rfl ⟨Nat.le_of_ble_eq_true rfl, Nat.le_of_ble_eq_true rfl⟩) (zPV2 (q0 := 0) (ci := 6) hPc hDc hK3 hXN rfl rfl) rfl rfl hl.1 rfl (lv_room (Nat.le_of_ble_eq_true rfl)) dX10_join_208 ⟨Nat.zero_le _, Nat.zero_le _⟩) hS hFc hFc rfl (fun t H locs ht hB hk1 hS => ?_)
                obtain ⟨hP1, hD1⟩ := hB
                rw [ht] at hP1
                obtain ⟨hP, hD⟩ := znQ (W2 := [_, _, _, (oc6 dr (.ref dx) (.ref dy) (nI 4) 1), (oa dx cI cd (upd (upd (upd (upd P 0 (iI (mnI (mnI (X5 0).toInt X5 (nN (mn f0))) X6 (nN (mn g0))))) 1 (iI (mxI (mxI (X5 0).toInt X5 (nN (mn f0))) X6 (nN (mn g0))))) 2 (iI (mxI (mxI (X5 0).toInt X5 (nN (mn f0))) X6 (nN (mn g0))))) 3 (iI (mnI (mnI (X5 0).toInt X5 (nN (mn f0))) X6 (nN (mn g0)))))), (oa dy cI cd (upd (upd (upd (upd Q 0 (iI (mnI (mnI (Y5 0).toInt Y5 (nN (mn f0))) Y6 (nN (mn g0))))) 1 (iI (mnI (mnI (Y5 0).toInt Y5 (nN (mn f0))) Y6 (nN (mn g0))))) 2 (iI (mxI (mxI (Y5 0).toInt Y5 (nN (mn f0))) Y6 (nN (mn g0))))) 3 (iI (mxI (mxI (Y5 0).toInt Y5 (nN (mn f0))) Y6 (nN (mn g0)))))), _, _, _, _, _, _, _, _, _, _, _, _, _, _, _, _, _, _, _, _]) hP hD hk1 hFc hP1 hD1 [3, 4, 5, 6] zl_98 zl_98 [3, 4, 5, 6] (by decide +kernel) rfl rfl rfl rfl rfl
                clear hk1 hPc hDc hFc hP1 hD1 ht
                obtain ⟨P7, hP7⟩ : ∃ z9 : Nat → Int32, z9 = upd (upd (upd (upd P 0 (iI (mnI (mnI (X5 0).toInt X5 (nN (mn f0))) X6 (nN (mn g0))))) 1 (iI (mxI (mxI (X5 0).toInt X5 (nN (mn f0))) X6 (nN (mn g0))))) 2 (iI (mxI (mxI (X5 0).toInt X5 (nN (mn f0))) X6 (nN (mn g0))))) 3 (iI (mnI (mnI (X5 0).toInt X5 (nN (mn f0))) X6 (nN (mn g0)))) := ⟨_, rfl⟩
                rw [← hP7] at hP hD
                obtain ⟨Q7, hQ7⟩ : ∃ z9 : Nat → Int32, z9 = upd (upd (upd (upd Q 0 (iI (mnI (mnI (Y5 0).toInt Y5 (nN (mn f0))) Y6 (nN (mn g0))))) 1 (iI (mnI (mnI (Y5 0).toInt Y5 (nN (mn f0))) Y6 (nN (mn g0))))) 2 (iI (mxI (mxI (Y5 0).toInt Y5 (nN (mn f0))) Y6 (nN (mn g0))))) 3 (iI (mxI (mxI (Y5 0).toInt Y5 (nN (mn f0))) Y6 (nN (mn g0)))) := ⟨_, rfl⟩
                rw [← hQ7] at hP hD
                obtain ⟨hP, hD⟩ := zre (W2 := ([_, _, _, _, _, _, _, _, _, _, _, _, _, _, _, _, _, _, _, _, _, _, _, _, _, _] ++ va_pl T_1 f)) hP hD rfl
                have hjb := jbox hX5 hX6 hw1.1
                have hp0 : P7 0 = z1 ∧ P7 1 = z3 ∧ P7 2 = z3 ∧ P7 3 = z1 := (by rw [hP7, hjb.1, hjb.2.1, ← hz1, ← hz3]; exact bx_4)
                have hq0 : Q7 0 = z2 ∧ Q7 1 = z2 ∧ Q7 2 = z4 ∧ Q7 3 = z4 := (by rw [hQ7, hjb.2.2.1, hjb.2.2.2, ← hz2, ← hz4]; exact bx_5)
                have hjp : pl z1 ∧ pl z3 ∧ pl z2 ∧ pl z4 := (by rw [hz1, hz2, hz3, hz4]; exact jpl hwf0.2.2 hw1.1 hwfg.2.2)
                have hpd7 : pls 4 P7 Q7 := pls4 hp0 hq0 hjp.1 hjp.2.1 hjp.2.2.1 hjp.2.2.2
                have hfre := free_iff (f := f0) (g := g0) h200 ⟨hp0.1, hq0.1⟩ ⟨hp0.2.1, hq0.2.1⟩ ⟨hp0.2.2.1, hq0.2.2.1⟩ ⟨hp0.2.2.2, hq0.2.2.2⟩ hwf hkn
                rw [show rgK 6 = (1 : Int32) by decide] at hfre
                refine lv_aload_n hx hb dX10_join_211 rfl (lv_at hl 4 rfl) ?_
                refine va_get (D := (dC, dI)) (ci := 8) (v := .ref lw) (C := RX10) (T := TX10) (N := 13) hx hb hts inX10 hown hK hP 0 rfl rfl 1 (Nat.le_of_ble_eq_true rfl) (hts _ mw_310) (fun _ h9 => h9) rfl dX10_join_212 ?_
                refine lv_aload_n hx hb dX10_join_215 rfl (lv_at hl 4 rfl) ?_
                refine va_get (D := (dC, dI)) (ci := 8) (v := .ref sh) (C := RX10) (T := TX10) (N := 13) hx hb hts inX10 hown hK hP 0 rfl rfl 0 (Nat.le_of_ble_eq_true rfl) (hts _ mw_309) (fun _ h9 => h9) rfl dX10_join_216 ?_
                refine lv_aload hx hb dX10_join_219 (lv_at hl 3 rfl) ?_
                refine lv_aload hx hb dX10_join_221 (lv_at hl 2 rfl) ?_
                obtain ⟨hPc, hDc, hFc, hI1⟩ := zi_part (cx := [_, _, _, _, _, _, _, _, _, _]) hP hD hS hA [2, 3, 4, 5, 8, 9, 10, 11, 18, 19] (by decide +kernel) rfl
                refine zcall (st1 := [.int (pI (∀ q, q < ft → (q ≠ f0 → q ≠ g0 → lvF ft st tn q → ¬ tch 4 P7 Q7 (1 : Int32) (nN (mn q)) (cF40 cx q) (cF40 cy q) (rgK (kd q).toInt) ∧ ¬ inF 5 4 P7 Q7 (cF40 cx q 0).toInt (cF40 cy q 0).toInt)))]) (va_runV (As := [.ref sh, .ref (fe f0), .ref (fe g0)]) (rest := []) ⟨hx, hb, hml, hown, hts⟩ (k_Law_isFreeFor_2 l dC dI cI cZ cF H.size lw dr tg wy br bo aa dx dy 4 cd P7 Q7 1 sh fa ft FA (fe f0) lo5 (rk f0) (wd f0) (tw f0) (pa f0) (pb f0) (la dn f0) (kd f0) (st f0) (gb f0) (it f0) (nI we5) r5 f0 (.null) (fe g0) lo6 (la dn g0) r6 g0 (rk g0) (wd g0) (tw g0) (pa g0) (pb g0) (kd g0) (st g0) (gb g0) (it g0) (nI we6) (.null) T_1 f kd st tn mn cx cy (by first | with_reducible assumption | omega) (by first | with_reducible assumption | omega) (hFA9 f0 (by first | with_reducible assumption | omega)) (hst) (by first | with_reducible assumption | omega) (hFA9 g0 (by first | with_reducible assumption | omega)) (hsg) (by rw [← hT_1]; exact sh_vw2 (q := f0) (p := g0) (A := [(oc1 (fe f0) (rk f0) (wd f0) (tw f0) (pa f0) (pb f0) (.ref lo5) (.ref (la dn f0)) .null), (oc4 (la dn f0) (kd f0) (st f0) (.ref r5) (gb f0) (it f0) (nI we5)), (oc6 r5 (.ref rx5) (.ref ry5) (nI (nN (mn f0))) (rgK (kd f0).toInt)), (oa rx5 cI cap5 X5), (oa ry5 cI cap5 Y5), (oc6 lo5 (.ref lx5) (.ref ly5) (nI ln5) 0), (oa lx5 cI (cl f0) LX5), (oa ly5 cI (cl f0) LY5)]) (B := [(oc1 (fe g0) (rk g0) (wd g0) (tw g0) (pa g0) (pb g0) (.ref lo6) (.ref (la dn g0)) .null), (oc4 (la dn g0) (kd g0) (st g0) (.ref r6) (gb g0) (it g0) (nI we6)), (oc6 r6 (.ref rx6) (.ref ry6) (nI (nN (mn g0))) (rgK (kd g0).toInt)), (oa rx6 cI cap6 X6), (oa ry6 cI cap6 Y6), (oc6 lo6 (.ref lx6) (.ref ly6) (nI ln6) 0), (oa lx6 cI (cl g0) LX6), (oa ly6 cI (cl g0) LY6)]) (fun r hr => fc_ne hc5 (by first | with_reducible assumption | omega) (by first | with_reducible assumption | omega) hr) (fun r hr => fc_ne hc6 (by first | with_reducible assumption | omega) (by first | with_reducible assumption | omega) hr) hG.1 hG.2.1 hFA9 (Nat.le_refl _)) (hwf) (hkn) (by first | with_reducible assumption | omega) (by first | with_reducible assumption | omega) (hpd7)) (csV_132 hts rfl rfl ⟨Nat.le_of_ble_eq_true rfl, Nat.le_of_ble_eq_true rfl⟩) (zPV2 (q0 := 0) (ci := 3) hPc hDc hK3 hXN rfl rfl) rfl rfl hl.1 rfl (lv_room (Nat.le_of_ble_eq_true rfl)) dX10_join_223 ⟨Nat.zero_le _, Nat.zero_le _⟩) hS hFc hFc rfl (fun t H locs ht hB hk1 hS => ?_)
                obtain ⟨hP1, hD1⟩ := hB
                rw [ht] at hP1
                replace hP := z0 hP hD hk1 hP1 hI1
                clear hk1 hPc hDc hFc hP1 hD1 ht hI1
                refine lv_if_ne (tgt := 236) hx hb dX10_join_226 rfl (fun c_11 => ?_) (fun c_11 => ?_)
                · have c_11 : ∀ q, q < ft → (q ≠ f0 → q ≠ g0 → lvF ft st tn q → ¬ tch 4 P7 Q7 (1 : Int32) (nN (mn q)) (cF40 cx q) (cF40 cy q) (rgK (kd q).toInt) ∧ ¬ inF 5 4 P7 Q7 (cF40 cx q 0).toInt (cF40 cy q 0).toInt) := zp_1 c_11
                  refine lv_aload_n hx hb dX10_join_236 rfl (lv_at hl 4 rfl) ?_
                  refine va_get (D := (dC, dI)) (ci := 8) (v := .ref sh) (C := RX10) (T := TX10) (N := 13) hx hb hts inX10 hown hK hP 0 rfl rfl 0 (Nat.le_of_ble_eq_true rfl) (hts _ mw_309) (fun _ h9 => h9) rfl dX10_join_237 ?_
                  obtain ⟨hPc, hDc, hFc, hI1⟩ := zi_sub (wc := [_, _]) hP hD hS hA [8, 9] rfl rfl
                  refine zcall (st1 := [.int (pI (ft = 200))]) (va_runV (As := []) (rest := []) ⟨hx, hb, hml, hown, hts⟩ (k_Sheet_isFull l dC dI cI cZ cF H.size sh fa ft FA (by first | with_reducible assumption | omega)) (csV_105 hts rfl rfl ⟨Nat.le_of_ble_eq_true rfl, Nat.le_of_ble_eq_true rfl⟩) (zPV2 (q0 := 0) (ci := 7) hPc hDc hK3 hXN rfl rfl) rfl rfl hl.1 rfl (lv_room (Nat.le_of_ble_eq_true rfl)) dX10_join_240 ⟨Nat.zero_le _, Nat.zero_le _⟩) hS hFc hFc rfl (fun t H locs ht hB hk1 hS => ?_)
                  obtain ⟨hP1, hD1⟩ := hB
                  rw [ht] at hP1
                  replace hP := z0 hP hD hk1 hP1 hI1
                  clear hk1 hPc hDc hFc hP1 hD1 ht hI1
                  refine lv_if_ne (tgt := 253) hx hb dX10_join_243 rfl (fun c_12 => ?_) (fun c_12 => ?_)
                  · have c_12 : ft = 200 := zp_1 c_12
                    exfalso; omega
                  · have c_12 : ¬ (ft = 200) := zp_0 c_12
                    refine lv_aload hx hb dX10_join_246 (lv_at hl 3 rfl) ?_
                    refine lv_aload hx hb dX10_join_248 (lv_at hl 2 rfl) ?_
                    refine z_acmpne (rx := (fe f0)) (ry := (fe g0)) (tgt := 260) hx hb dX10_join_250 (by decide) (fun c_13 => ?_) (fun c_13 => ?_)
                    · have c_13 : ¬ (fe f0) = (fe g0) := c_13
                      refine lv_aload_n hx hb dX10_join_260 rfl (lv_at hl 4 rfl) ?_
                      refine lv_aload hx hb dX10_join_261 (lv_at hl 3 rfl) ?_
                      refine lv_aload hx hb dX10_join_263 (lv_at hl 2 rfl) ?_
                      refine lv_iload_n hx hb dX10_join_265 rfl (lv_at hl 5 rfl) ?_
                      refine lv_iload_n hx hb dX10_join_266 rfl (lv_at hl 6 rfl) ?_
                      obtain ⟨hPc, hDc, hFc⟩ := zo_part (cx := [_, _, _, _, _, _, _, _, _, _, _, _, _, _, _, _, _, _, _, _, _, _, _, _]) hP hD hS hA [0, 1, 2, 3, 4, 5, 10, 11, 12, 13, 14, 15, 16, 17, 18, 19, 20, 21, 22, 23, 24, 25, 8, 9] (by decide +kernel) rfl
                      refine zcall (st1 := [.int (nI ft)]) (va_runV (As := [.ref (fe f0), .ref (fe g0), .int (nI f0), .int (nI g0)]) (rest := []) ⟨hx, hb, hml, hown, hts⟩ (k_unite l dC dI cI cZ cF H.size cO e0 mi x sh lw ro bq bp dq dp lv sl sd ul su ea mc9 fa FA bs dn T ft FT V VX VY tn rk wd tw pa pb wh of9 we kd st gb it mn cx cy T_1 f L f0 g0 own fe cl la sp SA lo5 lx5 ly5 ln5 LX5 LY5 we5 r5 rx5 ry5 cap5 X5 Y5 lo6 lx6 ly6 ln6 LX6 LY6 we6 r6 rx6 ry6 cap6 X6 Y6 dr tg wy br bo aa dx dy cd P7 Q7 z1 z2 z3 z4 (hG9) (hH9) (hft9) (hO9) (hc5) (hc6) (hT_1) (hf0) (htn) (hst) (hg0) (htg) (hsg) (hgf) (hlt) (by first | with_reducible assumption | omega) (by first | with_reducible assumption | omega) (hp0) (hq0)) (csV_133 hts rfl rfl ⟨Nat.le_of_ble_eq_true rfl, Nat.le_of_ble_eq_true rfl⟩) (zPVL (q0 := 0) (ci := 8) hPc hDc hK hXL hS hFc rfl rfl) rfl rfl hl.1 rfl (lv_room (Nat.le_of_ble_eq_true rfl)) dX10_join_267 ⟨show (0 + (ft + 13)) ≤ ft + 13 by omega, show (0 + (4 * ft + 860)) ≤ 4 * ft + 860 by omega⟩) hS hFc hFc rfl (fun t H locs ht hB hk1 hS => ?_)
                      obtain ⟨mc6, L6, f6, ea6, fe7, hB6, hP1, hD1⟩ := hB
                      rw [ht] at hP1
                      obtain ⟨hP, hD⟩ := znP (W2 := [_, _, (oc8 x (.ref sh) (.ref lw) (.ref ro) (.ref bq) (.ref bp) (.ref dq) (.ref dp) (.ref lv) (.ref sl) (nI (dn + 1)) sd ul 0), (oc10 sl mc6 (.ref ea6) (nI (dn + 1))), (oc3 lw (.ref dr) (.ref tg) (.ref wy) (.ref br) (.ref bo) (.ref aa)), (oc6 dr (.ref dx) (.ref dy) (nI 4) 1), (oa dx cI cd P7), (oa dy cI cd Q7), (oc7 sh (.ref fa) (nI (ft + 1))), (oq fa cF 200 (va_up FA ft (some fe7)))]) hP hD hk1 hFc hP1 hD1 zl_100 zl_101 zl_102 zl_103 (by decide +kernel) rfl rfl rfl rfl rfl
                      clear hk1 hPc hDc hFc hP1 hD1 ht
                      obtain ⟨hP9, hD9⟩ := zq_part (cx := [_, _, _, _, _, _, _, _, _, _]) hP hD [2, 3, 4, 5, 6, 7, 0, 1, 8, 9] rfl rfl
                      refine W.widen (k := ft + 13) (n := 4 * ft + 860) (by omega) (by omega) ?_
                      rw [hQ9]
                      exact W.iret (v := nI ft) hx hb hr (fun t ht hW => ⟨⟨rfl, mc6, L6, f6, ea6, 4, P7, Q7, 1, (iI (mnI (mnI (X5 0).toInt X5 (nN (mn f0))) X6 (nN (mn g0)))), (iI (mnI (mnI (Y5 0).toInt Y5 (nN (mn f0))) Y6 (nN (mn g0)))), (iI (mxI (mxI (X5 0).toInt X5 (nN (mn f0))) X6 (nN (mn g0)))), (iI (mxI (mxI (Y5 0).toInt Y5 (nN (mn f0))) Y6 (nN (mn g0)))), (jI zu7), (jI zd7), fe7, (hB6), by rw [ht]; exact hP9, hD9⟩, hS.F ht⟩) hS.2.2 dX10_join_270
                    · have c_13 : (fe f0) = (fe g0) := c_13
                      exfalso; exact absurd (by first | with_reducible assumption | assumption) (ce_ne hc5.1.1 hc6.1.1 (by omega))
                · have c_11 : ¬ (∀ q, q < ft → (q ≠ f0 → q ≠ g0 → lvF ft st tn q → ¬ tch 4 P7 Q7 (1 : Int32) (nN (mn q)) (cF40 cx q) (cF40 cy q) (rgK (kd q).toInt) ∧ ¬ inF 5 4 P7 Q7 (cF40 cx q 0).toInt (cF40 cy q 0).toInt)) := zp_0 c_11
                  exfalso; exact absurd (hfre.mpr hfree) (by first | with_reducible assumption | assumption)
              · have c_10 : gp9.toInt * gp9.toInt * zd7 < zu7 := zp_1 c_10
                exfalso; exact hnf (hfar9.mp (by first | with_reducible assumption | assumption))
          · have c_5 : ¬ ((0 : Int32).toInt ≤ gp9.toInt ∧ gp9.toInt ≤ (1000 : Int32).toInt) := zp_0 c_5
            exfalso; omega
        · have c_4 : ¬ (kd g0).toInt = 6 := zc_ne rfl rfl c_4
          exfalso; omega
    · have c_2 : ¬ (st g0).toInt = 1 := zc_ne rfl rfl c_2
      exfalso; omega
end
section
set_option maxHeartbeats 4000000 in
set_option maxRecDepth 100000 in
theorem k_Row_touches_self (l : Launch) (dC : Nat → ClassId) (dI : Nat → Nat → Nat) (cI cZ cF : ClassId) (sz : Nat) (r : Nat) (rx : Nat) (ry : Nat) (n : Nat) (cap : Nat) (X : Nat → Int32) (Y : Nat → Int32) (rg : Int32) (hn : n ≤ cap) (hcap : cap ≤ 1000) (hp : pls n X Y) (hpn : 1 ≤ prt n rg) : zM l yX7_touches cX7_touches 6 (some .boolean) ({ frames := 2, cells := 0, slots := 0, locals := 40 } : Room) [.ref r, .ref r] (dC, dI) (zTy cI cZ cF) [(oc6 r (.ref rx) (.ref ry) (nI n) rg), (oa rx cI cap X), (oa ry cI cap Y)] sz (some (.int 1)) (fun A t => zPD (dC, dI) classes A [(oc6 r (.ref rx) (.ref ry) (nI n) rg), (oa rx cI cap X), (oa ry cI cap Y)] t.heap) 0 0 := by
  refine zIn (own := "ScaleShop$Row") (loc := [(0, .ref r), (1, .ref r)]) rfl rfl rfl rfl (fun p e s m below meth c hx hb hr hts hown hlocks hml hnm9 A hA hS hP hD hK hXN Q9 hQ9 ls hl => ?_)
  have hpr := prt_le n rg
  refine lv_aload_n hx hb dX7_touches_0 rfl (lv_at hl 0 rfl) ?_
  obtain ⟨hPc, hDc, hFc, hI1⟩ := zi_sub (wc := [_, _, _]) hP hD hS hA [0, 1, 2] rfl rfl
  refine zcall (st1 := [.int (nI (prt n rg))]) (va_runV (As := []) (rest := []) ⟨hx, hb, hml, hown, hts⟩ (k_Row_parts l dC dI cI cZ cF s.heap.size r rx ry n cap X Y rg (by first | with_reducible assumption | omega) (by first | with_reducible assumption | omega)) (csV_2 hts rfl rfl ⟨Nat.le_of_ble_eq_true rfl, Nat.le_of_ble_eq_true rfl⟩) (zPV2 (q0 := 0) (ci := 6) hPc hDc hK hXN rfl rfl) rfl rfl hl.1 rfl (lv_room (Nat.le_of_ble_eq_true rfl)) dX7_touches_1 ⟨Nat.le_of_ble_eq_true rfl, Nat.le_of_ble_eq_true rfl⟩) hS hFc hFc rfl (fun t H locs ht hB hk1 hS => ?_)
  obtain ⟨hP1, hD1⟩ := hB
  rw [ht] at hP1
  replace hP := z0 hP hD hk1 hP1 hI1
  clear hk1 hPc hDc hFc hP1 hD1 ht hI1
  refine lv_istore_n (lv' := [(2, .int (nI (prt n rg))), (0, .ref r), (1, .ref r)]) hx hb dX7_touches_4 rfl hl (Nat.le_of_ble_eq_true rfl) rfl (fun ls hl => ?_)
  refine lv_aload_n hx hb dX7_touches_5 rfl (lv_at hl 2 rfl) ?_
  obtain ⟨hPc, hDc, hFc, hI1⟩ := zi_sub (wc := [_, _, _]) hP hD hS hA [0, 1, 2] rfl rfl
  refine zcall (st1 := [.int (nI (prt n rg))]) (va_runV (As := []) (rest := []) ⟨hx, hb, hml, hown, hts⟩ (k_Row_parts l dC dI cI cZ cF H.size r rx ry n cap X Y rg (by first | with_reducible assumption | omega) (by first | with_reducible assumption | omega)) (csV_2 hts rfl rfl ⟨Nat.le_of_ble_eq_true rfl, Nat.le_of_ble_eq_true rfl⟩) (zPV2 (q0 := 0) (ci := 6) hPc hDc hK hXN rfl rfl) rfl rfl hl.1 rfl (lv_room (Nat.le_of_ble_eq_true rfl)) dX7_touches_6 ⟨Nat.le_of_ble_eq_true rfl, Nat.le_of_ble_eq_true rfl⟩) hS hFc hFc rfl (fun t H locs ht hB hk1 hS => ?_)
  obtain ⟨hP1, hD1⟩ := hB
  rw [ht] at hP1
  replace hP := z0 hP hD hk1 hP1 hI1
  clear hk1 hPc hDc hFc hP1 hD1 ht hI1
  refine lv_istore_n (lv' := [(3, .int (nI (prt n rg))), (2, .int (nI (prt n rg))), (0, .ref r), (1, .ref r)]) hx hb dX7_touches_9 rfl hl (Nat.le_of_ble_eq_true rfl) rfl (fun ls hl => ?_)
  refine lv_iconst (v := 0) hx hb dX7_touches_10 rfl ?_
  refine lv_istore (lv' := [(4, .int 0), (3, .int (nI (prt n rg))), (2, .int (nI (prt n rg))), (0, .ref r), (1, .ref r)]) hx hb dX7_touches_11 hl (Nat.le_of_ble_eq_true rfl) rfl (fun ls hl => ?_)
  refine lv_iload hx hb dX7_touches_13 (lv_at hl 0 rfl) ?_
  refine lv_iload_n hx hb dX7_touches_15 rfl (lv_at hl 2 rfl) ?_
  have b9_2 : zlt ((prt n rg)) := show (prt n rg) < 2147483648 by omega
  refine lv_icmp_ge (tgt := 54) hx hb dX7_touches_16 rfl (fun c_1 => ?_) (fun c_1 => ?_)
  · have c_1 : ((prt n rg : Nat) : Int) ≤ 0 := zc_le (nI_toInt b9_2) rfl c_1
    exfalso; omega
  · have c_1 : 0 < ((prt n rg : Nat) : Int) := zc_nle (nI_toInt b9_2) rfl c_1
    refine lv_iconst (v := 0) hx hb dX7_touches_19 rfl ?_
    refine lv_istore (lv' := [(5, .int 0), (4, .int 0), (3, .int (nI (prt n rg))), (2, .int (nI (prt n rg))), (0, .ref r), (1, .ref r)]) hx hb dX7_touches_20 hl (Nat.le_of_ble_eq_true rfl) rfl (fun ls hl => ?_)
    refine lv_iload hx hb dX7_touches_22 (lv_at hl 0 rfl) ?_
    refine lv_iload_n hx hb dX7_touches_24 rfl (lv_at hl 2 rfl) ?_
    refine lv_icmp_ge (tgt := 48) hx hb dX7_touches_25 rfl (fun c_3 => ?_) (fun c_3 => ?_)
    · have c_3 : ((prt n rg : Nat) : Int) ≤ 0 := zc_le (nI_toInt b9_2) rfl c_3
      exfalso; omega
    · have c_3 : 0 < ((prt n rg : Nat) : Int) := zc_nle (nI_toInt b9_2) rfl c_3
      refine lv_aload_n hx hb dX7_touches_28 rfl (lv_at hl 4 rfl) ?_
      refine lv_iload hx hb dX7_touches_29 (lv_at hl 1 rfl) ?_
      refine lv_aload_n hx hb dX7_touches_31 rfl (lv_at hl 5 rfl) ?_
      refine lv_iload hx hb dX7_touches_32 (lv_at hl 0 rfl) ?_
      obtain ⟨hPc, hDc, hFc, hI1⟩ := zi_sub (wc := [_, _, _]) hP hD hS hA [0, 1, 2] rfl rfl
      refine zcall (st1 := [.int (pI (eMt n X Y 0 n X Y 0))]) (va_runV (As := [.int 0, .ref r, .int 0]) (rest := []) ⟨hx, hb, hml, hown, hts⟩ (k_Row_partsMeet_self l dC dI cI cZ cF H.size r rx ry n cap X Y rg 0 0 (by first | with_reducible assumption | omega) (by first | with_reducible assumption | omega) (by first | with_reducible assumption | assumption) (by first | with_reducible assumption | omega) (by first | with_reducible assumption | omega)) (csV_4 hts rfl rfl ⟨Nat.le_of_ble_eq_true rfl, Nat.le_of_ble_eq_true rfl⟩) (zPV2 (q0 := 0) (ci := 6) hPc hDc hK hXN rfl rfl) rfl rfl hl.1 rfl (lv_room (Nat.le_of_ble_eq_true rfl)) dX7_touches_34 ⟨Nat.le_of_ble_eq_true rfl, Nat.le_of_ble_eq_true rfl⟩) hS hFc hFc rfl (fun t H locs ht hB hk1 hS => ?_)
      obtain ⟨hP1, hD1⟩ := hB
      rw [ht] at hP1
      replace hP := z0 hP hD hk1 hP1 hI1
      clear hk1 hPc hDc hFc hP1 hD1 ht hI1
      refine lv_if_eq (tgt := 42) hx hb dX7_touches_37 rfl (fun c_4 => ?_) (fun c_4 => ?_)
      · have c_4 : ¬ (eMt n X Y 0 n X Y 0) := zp_0 c_4
        exfalso; exact absurd eMt_self (by first | with_reducible assumption | assumption)
      · have c_4 : eMt n X Y 0 n X Y 0 := zp_1 c_4
        refine lv_iconst (v := 1) hx hb dX7_touches_40 rfl ?_
        obtain ⟨hP9, hD9⟩ := zu_sub (wc := [_, _, _]) hP hD [true, true, true] rfl rfl
        rw [hQ9]
        exact W.zret (ty := .boolean) (v := 1) hx hb hr (rfl) (fun t ht hW => ⟨⟨rfl, by rw [ht]; exact hP9, hD9⟩, hS.F ht⟩) hS.2.2 dX7_touches_41
set_option maxHeartbeats 4000000 in
set_option maxRecDepth 100000 in
theorem k_Fr_between_self (l : Launch) (dC : Nat → ClassId) (dI : Nat → Nat → Nat) (cI cZ cF : ClassId) (sz : Nat) (fr : Nat) (y1 : Int64) (y2 : Int64) (r : Nat) (rx : Nat) (ry : Nat) (n : Nat) (cap : Nat) (X : Nat → Int32) (Y : Nat → Int32) (rg : Int32) (hn : n ≤ cap) (hcap : cap ≤ 1000) (hp : pls n X Y) (hpn : 1 ≤ prt n rg) : zM l yX3_between cX3_between 4 none ({ frames := 3, cells := 0, slots := 0, locals := 65 } : Room) [.ref fr, .ref r, .ref r] (dC, dI) (zTy cI cZ cF) [(oc2 fr y1 y2), (oc6 r (.ref rx) (.ref ry) (nI n) rg), (oa rx cI cap X), (oa ry cI cap Y)] sz none (fun A t => zPD (dC, dI) classes A [(oc2 fr (jI 0) (jI 1)), (oc6 r (.ref rx) (.ref ry) (nI n) rg), (oa rx cI cap X), (oa ry cI cap Y)] t.heap) 0 0 := by
  refine zIn (own := "ScaleShop$Fraction") (loc := [(0, .ref fr), (1, .ref r), (2, .ref r)]) rfl rfl rfl rfl (fun p e s m below meth c hx hb hr hts hown hlocks hml hnm9 A hA hS hP hD hK hXN Q9 hQ9 ls hl => ?_)
  refine lv_aload_n hx hb dX3_between_0 rfl (lv_at hl 1 rfl) ?_
  refine lv_aload_n hx hb dX3_between_1 rfl (lv_at hl 2 rfl) ?_
  obtain ⟨hPc, hDc, hFc, hI1⟩ := zi_sub (wc := [_, _, _]) hP hD hS hA [1, 2, 3] rfl rfl
  refine zcall (st1 := [.int 1]) (va_runV (As := [.ref r]) (rest := []) ⟨hx, hb, hml, hown, hts⟩ (k_Row_touches_self l dC dI cI cZ cF s.heap.size r rx ry n cap X Y rg (by first | with_reducible assumption | omega) (by first | with_reducible assumption | omega) (by first | with_reducible assumption | assumption) (by first | with_reducible assumption | assumption)) (csV_25 hts rfl rfl ⟨Nat.le_of_ble_eq_true rfl, Nat.le_of_ble_eq_true rfl⟩) (zPV2 (q0 := 0) (ci := 6) hPc hDc hK hXN rfl rfl) rfl rfl hl.1 rfl (lv_room (Nat.le_of_ble_eq_true rfl)) dX3_between_2 ⟨Nat.le_of_ble_eq_true rfl, Nat.le_of_ble_eq_true rfl⟩) hS hFc hFc rfl (fun t H locs ht hB hk1 hS => ?_)
  obtain ⟨hP1, hD1⟩ := hB
  rw [ht] at hP1
  replace hP := z0 hP hD hk1 hP1 hI1
  clear hk1 hPc hDc hFc hP1 hD1 ht hI1
  refine lv_if_eq (tgt := 15) hx hb dX3_between_5 rfl (fun c_1 => ?_) (fun c_1 => ?_)
  · exact absurd c_1 (by decide)
  · refine lv_aload_n hx hb dX3_between_8 rfl (lv_at hl 0 rfl) ?_
    refine lv_lconst (v := 0) hx hb dX3_between_9 rfl ?_
    refine zz_l (v := jI 0) (jI_0) ?_
    refine lv_lconst (v := 1) hx hb dX3_between_10 rfl ?_
    refine zz_l (v := jI 1) (jI_1) ?_
    obtain ⟨hPc, hDc, hFc⟩ := zo_sub (wc := [_]) hP hD hS hA [0] rfl rfl
    refine zcall (st1 := []) (va_runV (As := [.long (jI 0), .long (jI 1)]) (rest := []) ⟨hx, hb, hml, hown, hts⟩ (k_Fr_become l dC dI cI cZ cF H.size fr y1 y2 (jI 0) (jI 1) ) (csV_19 hts rfl rfl ⟨Nat.le_of_ble_eq_true rfl, Nat.le_of_ble_eq_true rfl⟩) (zPV2 (q0 := 0) (ci := 2) hPc hDc hK hXN rfl rfl) rfl rfl hl.1 rfl (lv_room (Nat.le_of_ble_eq_true rfl)) dX3_between_11 ⟨Nat.le_of_ble_eq_true rfl, Nat.le_of_ble_eq_true rfl⟩) hS hFc hFc rfl (fun t H locs ht hB hk1 hS => ?_)
    obtain ⟨hP1, hD1⟩ := hB
    rw [ht] at hP1
    obtain ⟨hP, hD⟩ := zn (W2 := [(oc2 fr (jI 0) (jI 1)), _, _, _]) hP hD hk1 hFc hP1 hD1 [0] [false, true, true, true] [false, true, true, true] [0] (by decide +kernel) rfl rfl rfl rfl rfl
    clear hk1 hPc hDc hFc hP1 hD1 ht
    obtain ⟨hP9, hD9⟩ := zu_sub (wc := [_, _, _, _]) hP hD [true, true, true, true] rfl rfl
    rw [hQ9]
    exact W.vret hx hb hr (fun t ht hW => ⟨⟨rfl, by rw [ht]; exact hP9, hD9⟩, hS.F ht⟩) hS.2.2 dX3_between_14
set_option maxHeartbeats 4000000 in
set_option maxRecDepth 100000 in
theorem k_join_x (l : Launch) (dC : Nat → ClassId) (dI : Nat → Nat → Nat) (cI cZ cF : ClassId) (sz : Nat) (x : Nat) (sh : Nat) (lw : Nat) (ro : Nat) (bq : Nat) (bp : Nat) (dq : Nat) (dp : Nat) (lv : Nat) (sl : Nat) (sd : Int32) (ul : Int32) (su : Int32) (ds : Int32) (fa : Nat) (ft : Nat) (FA : Nat → Option Nat) (v : Int32) (w : Int32) (gp9 : Int32) (h200 : ft ≤ 200) (hFx : ∀ q, q < ft → ∃ a, FA q = some a) (hbad : ¬ (0 ≤ v.toInt ∧ v.toInt < ((ft : Nat) : Int)) ∨ ¬ (0 ≤ w.toInt ∧ w.toInt < ((ft : Nat) : Int))) : zM l yX10_join cX10_join 8 (some .int) ({ frames := 1, cells := 0, slots := 0, locals := 21 } : Room) [.ref x, .int v, .int w, .int gp9] (dC, dI) (zTy cI cZ cF) [(oc8 x (.ref sh) (.ref lw) (.ref ro) (.ref bq) (.ref bp) (.ref dq) (.ref dp) (.ref lv) (.ref sl) ds sd ul su), (oc7 sh (.ref fa) (nI ft)), (oq fa cF 200 FA)] sz (some (.int (-1))) (fun A t => ∃ (ul1 : Int32), ∃ (su1 : Int32), zPD (dC, dI) classes A [(oc8 x (.ref sh) (.ref lw) (.ref ro) (.ref bq) (.ref bp) (.ref dq) (.ref dp) (.ref lv) (.ref sl) ds sd ul1 su1), (oc7 sh (.ref fa) (nI ft)), (oq fa cF 200 FA)] t.heap) 0 0 := by
  refine zIn (own := "ScaleShop") (loc := [(0, .ref x), (1, .int v), (2, .int w), (3, .int gp9)]) rfl rfl rfl rfl (fun p e s m below meth c hx hb hr hts hown hlocks hml hnm9 A hA hS hP hD hK hXN Q9 hQ9 ls hl => ?_)
  rcases v_c (v := v) (ft := ft) h200 with hb2 | ⟨f0, hq2, rfl⟩
  · skip
    refine lv_aload_n hx hb dX10_join_0 rfl (lv_at hl 0 rfl) ?_
    refine va_get (D := (dC, dI)) (ci := 8) (v := .ref sh) (C := RX10) (T := TX10) (N := 13) hx hb hts inX10 hown hK hP 0 rfl rfl 0 (Nat.le_of_ble_eq_true rfl) (hts _ mw_309) (fun _ h9 => h9) rfl dX10_join_1 ?_
    refine lv_iload_n hx hb dX10_join_4 rfl (lv_at hl 1 rfl) ?_
    obtain ⟨hPc, hDc, hFc, hI1⟩ := zi_sub (wc := [_, _]) hP hD hS hA [1, 2] rfl rfl
    refine zcall (st1 := [.null]) (va_runV (As := [.int v]) (rest := []) ⟨hx, hb, hml, hown, hts⟩ (k_Sheet_find_n l dC dI cI cZ cF s.heap.size sh fa ft FA v (by first | with_reducible assumption | omega) (hb2)) (csV_94 hts rfl rfl ⟨Nat.le_of_ble_eq_true rfl, Nat.le_of_ble_eq_true rfl⟩) (zPV2 (q0 := 0) (ci := 7) hPc hDc hK hXN rfl rfl) rfl rfl hl.1 rfl (lv_room (Nat.le_of_ble_eq_true rfl)) dX10_join_5 ⟨Nat.le_of_ble_eq_true rfl, Nat.le_of_ble_eq_true rfl⟩) hS hFc hFc rfl (fun t H locs ht hB hk1 hS => ?_)
    obtain ⟨hP1, hD1⟩ := hB
    rw [ht] at hP1
    replace hP := z0 hP hD hk1 hP1 hI1
    clear hk1 hPc hDc hFc hP1 hD1 ht hI1
    refine lv_astoreN (lv' := [(4, .null), (0, .ref x), (1, .int v), (2, .int w), (3, .int gp9)]) hx hb dX10_join_8 hl (Nat.le_of_ble_eq_true rfl) rfl (fun ls hl => ?_)
    rcases v_c (v := w) (ft := ft) h200 with hb3 | ⟨g0, hq3, rfl⟩
    · skip
      refine lv_aload_n hx hb dX10_join_10 rfl (lv_at hl 1 rfl) ?_
      refine va_get (D := (dC, dI)) (ci := 8) (v := .ref sh) (C := RX10) (T := TX10) (N := 13) hx hb hts inX10 hown hK hP 0 rfl rfl 0 (Nat.le_of_ble_eq_true rfl) (hts _ mw_309) (fun _ h9 => h9) rfl dX10_join_11 ?_
      refine lv_iload_n hx hb dX10_join_14 rfl (lv_at hl 3 rfl) ?_
      obtain ⟨hPc, hDc, hFc, hI1⟩ := zi_sub (wc := [_, _]) hP hD hS hA [1, 2] rfl rfl
      refine zcall (st1 := [.null]) (va_runV (As := [.int w]) (rest := []) ⟨hx, hb, hml, hown, hts⟩ (k_Sheet_find_n l dC dI cI cZ cF H.size sh fa ft FA w (by first | with_reducible assumption | omega) (hb3)) (csV_94 hts rfl rfl ⟨Nat.le_of_ble_eq_true rfl, Nat.le_of_ble_eq_true rfl⟩) (zPV2 (q0 := 0) (ci := 7) hPc hDc hK hXN rfl rfl) rfl rfl hl.1 rfl (lv_room (Nat.le_of_ble_eq_true rfl)) dX10_join_15 ⟨Nat.le_of_ble_eq_true rfl, Nat.le_of_ble_eq_true rfl⟩) hS hFc hFc rfl (fun t H locs ht hB hk1 hS => ?_)
      obtain ⟨hP1, hD1⟩ := hB
      rw [ht] at hP1
      replace hP := z0 hP hD hk1 hP1 hI1
      clear hk1 hPc hDc hFc hP1 hD1 ht hI1
      refine lv_astoreN (lv' := [(5, .null), (4, .null), (0, .ref x), (1, .int v), (2, .int w), (3, .int gp9)]) hx hb dX10_join_18 hl (Nat.le_of_ble_eq_true rfl) rfl (fun ls hl => ?_)
      refine lv_aloadN hx hb dX10_join_20 (lv_at hl 1 rfl) ?_
      refine lv_ifnullN (tgt := 30) hx hb dX10_join_22 rfl ?_
      refine lv_aload_n hx hb dX10_join_30 rfl (lv_at hl 2 rfl) ?_
      refine lv_iconst (v := 1) hx hb dX10_join_31 rfl ?_
      obtain ⟨hPc, hDc, hFc⟩ := zo_sub (wc := [_]) hP hD hS hA [0] rfl rfl
      refine zcall (st1 := [.int (-1)]) (va_runV (As := [.int 1]) (rest := []) ⟨hx, hb, hml, hown, hts⟩ (k_refuse_1 l dC dI cI cZ cF H.size x sh lw ro bq bp dq dp lv sl sd ul su ds ) (csV_95 hts rfl rfl ⟨Nat.le_of_ble_eq_true rfl, Nat.le_of_ble_eq_true rfl⟩) (zPV2 (q0 := 0) (ci := 8) hPc hDc hK hXN rfl rfl) rfl rfl hl.1 rfl (lv_room (Nat.le_of_ble_eq_true rfl)) dX10_join_32 ⟨Nat.le_of_ble_eq_true rfl, Nat.le_of_ble_eq_true rfl⟩) hS hFc hFc rfl (fun t H locs ht hB hk1 hS => ?_)
      obtain ⟨hP1, hD1⟩ := hB
      rw [ht] at hP1
      obtain ⟨hP, hD⟩ := zn (W2 := [(oc8 x (.ref sh) (.ref lw) (.ref ro) (.ref bq) (.ref bp) (.ref dq) (.ref dp) (.ref lv) (.ref sl) ds sd ul 1), _, _]) hP hD hk1 hFc hP1 hD1 [0] [false, true, true] [false, true, true] [0] (by decide +kernel) rfl rfl rfl rfl rfl
      clear hk1 hPc hDc hFc hP1 hD1 ht
      obtain ⟨hP9, hD9⟩ := zu_sub (wc := [_, _, _]) hP hD [true, true, true] rfl rfl
      rw [hQ9]
      exact W.iret (v := (-1)) hx hb hr (fun t ht hW => ⟨⟨rfl, ul, 1, by rw [ht]; exact hP9, hD9⟩, hS.F ht⟩) hS.2.2 dX10_join_35
    · skip
      obtain ⟨fe3, hFA3⟩ := hFx g0 hq3
      refine lv_aload_n hx hb dX10_join_10 rfl (lv_at hl 1 rfl) ?_
      refine va_get (D := (dC, dI)) (ci := 8) (v := .ref sh) (C := RX10) (T := TX10) (N := 13) hx hb hts inX10 hown hK hP 0 rfl rfl 0 (Nat.le_of_ble_eq_true rfl) (hts _ mw_309) (fun _ h9 => h9) rfl dX10_join_11 ?_
      refine lv_iload_n hx hb dX10_join_14 rfl (lv_at hl 3 rfl) ?_
      obtain ⟨hPc, hDc, hFc, hI1⟩ := zi_sub (wc := [_, _]) hP hD hS hA [1, 2] rfl rfl
      refine zcall (st1 := [.ref fe3]) (va_runV (As := [.int (nI g0)]) (rest := []) ⟨hx, hb, hml, hown, hts⟩ (k_Sheet_find l dC dI cI cZ cF H.size sh fa ft FA g0 fe3 (by first | with_reducible assumption | omega) (by first | with_reducible assumption | omega) (hFA3)) (csV_94 hts rfl rfl ⟨Nat.le_of_ble_eq_true rfl, Nat.le_of_ble_eq_true rfl⟩) (zPV2 (q0 := 0) (ci := 7) hPc hDc hK hXN rfl rfl) rfl rfl hl.1 rfl (lv_room (Nat.le_of_ble_eq_true rfl)) dX10_join_15 ⟨Nat.le_of_ble_eq_true rfl, Nat.le_of_ble_eq_true rfl⟩) hS hFc hFc rfl (fun t H locs ht hB hk1 hS => ?_)
      obtain ⟨hP1, hD1⟩ := hB
      rw [ht] at hP1
      replace hP := z0 hP hD hk1 hP1 hI1
      clear hk1 hPc hDc hFc hP1 hD1 ht hI1
      refine lv_astore (lv' := [(5, .ref fe3), (4, .null), (0, .ref x), (1, .int v), (2, .int (nI g0)), (3, .int gp9)]) hx hb dX10_join_18 hl (Nat.le_of_ble_eq_true rfl) rfl (fun ls hl => ?_)
      refine lv_aloadN hx hb dX10_join_20 (lv_at hl 1 rfl) ?_
      refine lv_ifnullN (tgt := 30) hx hb dX10_join_22 rfl ?_
      refine lv_aload_n hx hb dX10_join_30 rfl (lv_at hl 2 rfl) ?_
      refine lv_iconst (v := 1) hx hb dX10_join_31 rfl ?_
      obtain ⟨hPc, hDc, hFc⟩ := zo_sub (wc := [_]) hP hD hS hA [0] rfl rfl
      refine zcall (st1 := [.int (-1)]) (va_runV (As := [.int 1]) (rest := []) ⟨hx, hb, hml, hown, hts⟩ (k_refuse_1 l dC dI cI cZ cF H.size x sh lw ro bq bp dq dp lv sl sd ul su ds ) (csV_95 hts rfl rfl ⟨Nat.le_of_ble_eq_true rfl, Nat.le_of_ble_eq_true rfl⟩) (zPV2 (q0 := 0) (ci := 8) hPc hDc hK hXN rfl rfl) rfl rfl hl.1 rfl (lv_room (Nat.le_of_ble_eq_true rfl)) dX10_join_32 ⟨Nat.le_of_ble_eq_true rfl, Nat.le_of_ble_eq_true rfl⟩) hS hFc hFc rfl (fun t H locs ht hB hk1 hS => ?_)
      obtain ⟨hP1, hD1⟩ := hB
      rw [ht] at hP1
      obtain ⟨hP, hD⟩ := zn (W2 := [(oc8 x (.ref sh) (.ref lw) (.ref ro) (.ref bq) (.ref bp) (.ref dq) (.ref dp) (.ref lv) (.ref sl) ds sd ul 1), _, _]) hP hD hk1 hFc hP1 hD1 [0] [false, true, true] [false, true, true] [0] (by decide +kernel) rfl rfl rfl rfl rfl
      clear hk1 hPc hDc hFc hP1 hD1 ht
      obtain ⟨hP9, hD9⟩ := zu_sub (wc := [_, _, _]) hP hD [true, true, true] rfl rfl
      rw [hQ9]
      exact W.iret (v := (-1)) hx hb hr (fun t ht hW => ⟨⟨rfl, ul, 1, by rw [ht]; exact hP9, hD9⟩, hS.F ht⟩) hS.2.2 dX10_join_35
  · skip
    obtain ⟨fe2, hFA2⟩ := hFx f0 hq2
    refine lv_aload_n hx hb dX10_join_0 rfl (lv_at hl 0 rfl) ?_
    refine va_get (D := (dC, dI)) (ci := 8) (v := .ref sh) (C := RX10) (T := TX10) (N := 13) hx hb hts inX10 hown hK hP 0 rfl rfl 0 (Nat.le_of_ble_eq_true rfl) (hts _ mw_309) (fun _ h9 => h9) rfl dX10_join_1 ?_
    refine lv_iload_n hx hb dX10_join_4 rfl (lv_at hl 1 rfl) ?_
    obtain ⟨hPc, hDc, hFc, hI1⟩ := zi_sub (wc := [_, _]) hP hD hS hA [1, 2] rfl rfl
    refine zcall (st1 := [.ref fe2]) (va_runV (As := [.int (nI f0)]) (rest := []) ⟨hx, hb, hml, hown, hts⟩ (k_Sheet_find l dC dI cI cZ cF s.heap.size sh fa ft FA f0 fe2 (by first | with_reducible assumption | omega) (by first | with_reducible assumption | omega) (hFA2)) (csV_94 hts rfl rfl ⟨Nat.le_of_ble_eq_true rfl, Nat.le_of_ble_eq_true rfl⟩) (zPV2 (q0 := 0) (ci := 7) hPc hDc hK hXN rfl rfl) rfl rfl hl.1 rfl (lv_room (Nat.le_of_ble_eq_true rfl)) dX10_join_5 ⟨Nat.le_of_ble_eq_true rfl, Nat.le_of_ble_eq_true rfl⟩) hS hFc hFc rfl (fun t H locs ht hB hk1 hS => ?_)
    obtain ⟨hP1, hD1⟩ := hB
    rw [ht] at hP1
    replace hP := z0 hP hD hk1 hP1 hI1
    clear hk1 hPc hDc hFc hP1 hD1 ht hI1
    refine lv_astore (lv' := [(4, .ref fe2), (0, .ref x), (1, .int (nI f0)), (2, .int w), (3, .int gp9)]) hx hb dX10_join_8 hl (Nat.le_of_ble_eq_true rfl) rfl (fun ls hl => ?_)
    rcases v_c (v := w) (ft := ft) h200 with hb3 | ⟨g0, hq3, rfl⟩
    · skip
      refine lv_aload_n hx hb dX10_join_10 rfl (lv_at hl 1 rfl) ?_
      refine va_get (D := (dC, dI)) (ci := 8) (v := .ref sh) (C := RX10) (T := TX10) (N := 13) hx hb hts inX10 hown hK hP 0 rfl rfl 0 (Nat.le_of_ble_eq_true rfl) (hts _ mw_309) (fun _ h9 => h9) rfl dX10_join_11 ?_
      refine lv_iload_n hx hb dX10_join_14 rfl (lv_at hl 3 rfl) ?_
      obtain ⟨hPc, hDc, hFc, hI1⟩ := zi_sub (wc := [_, _]) hP hD hS hA [1, 2] rfl rfl
      refine zcall (st1 := [.null]) (va_runV (As := [.int w]) (rest := []) ⟨hx, hb, hml, hown, hts⟩ (k_Sheet_find_n l dC dI cI cZ cF H.size sh fa ft FA w (by first | with_reducible assumption | omega) (hb3)) (csV_94 hts rfl rfl ⟨Nat.le_of_ble_eq_true rfl, Nat.le_of_ble_eq_true rfl⟩) (zPV2 (q0 := 0) (ci := 7) hPc hDc hK hXN rfl rfl) rfl rfl hl.1 rfl (lv_room (Nat.le_of_ble_eq_true rfl)) dX10_join_15 ⟨Nat.le_of_ble_eq_true rfl, Nat.le_of_ble_eq_true rfl⟩) hS hFc hFc rfl (fun t H locs ht hB hk1 hS => ?_)
      obtain ⟨hP1, hD1⟩ := hB
      rw [ht] at hP1
      replace hP := z0 hP hD hk1 hP1 hI1
      clear hk1 hPc hDc hFc hP1 hD1 ht hI1
      refine lv_astoreN (lv' := [(5, .null), (4, .ref fe2), (0, .ref x), (1, .int (nI f0)), (2, .int w), (3, .int gp9)]) hx hb dX10_join_18 hl (Nat.le_of_ble_eq_true rfl) rfl (fun ls hl => ?_)
      refine lv_aload hx hb dX10_join_20 (lv_at hl 1 rfl) ?_
      refine lv_ifnull hx hb dX10_join_22 ?_
      refine lv_aloadN hx hb dX10_join_25 (lv_at hl 0 rfl) ?_
      refine lv_ifnonnullN hx hb dX10_join_27 ?_
      refine lv_aload_n hx hb dX10_join_30 rfl (lv_at hl 2 rfl) ?_
      refine lv_iconst (v := 1) hx hb dX10_join_31 rfl ?_
      obtain ⟨hPc, hDc, hFc⟩ := zo_sub (wc := [_]) hP hD hS hA [0] rfl rfl
      refine zcall (st1 := [.int (-1)]) (va_runV (As := [.int 1]) (rest := []) ⟨hx, hb, hml, hown, hts⟩ (k_refuse_1 l dC dI cI cZ cF H.size x sh lw ro bq bp dq dp lv sl sd ul su ds ) (csV_95 hts rfl rfl ⟨Nat.le_of_ble_eq_true rfl, Nat.le_of_ble_eq_true rfl⟩) (zPV2 (q0 := 0) (ci := 8) hPc hDc hK hXN rfl rfl) rfl rfl hl.1 rfl (lv_room (Nat.le_of_ble_eq_true rfl)) dX10_join_32 ⟨Nat.le_of_ble_eq_true rfl, Nat.le_of_ble_eq_true rfl⟩) hS hFc hFc rfl (fun t H locs ht hB hk1 hS => ?_)
      obtain ⟨hP1, hD1⟩ := hB
      rw [ht] at hP1
      obtain ⟨hP, hD⟩ := zn (W2 := [(oc8 x (.ref sh) (.ref lw) (.ref ro) (.ref bq) (.ref bp) (.ref dq) (.ref dp) (.ref lv) (.ref sl) ds sd ul 1), _, _]) hP hD hk1 hFc hP1 hD1 [0] [false, true, true] [false, true, true] [0] (by decide +kernel) rfl rfl rfl rfl rfl
      clear hk1 hPc hDc hFc hP1 hD1 ht
      obtain ⟨hP9, hD9⟩ := zu_sub (wc := [_, _, _]) hP hD [true, true, true] rfl rfl
      rw [hQ9]
      exact W.iret (v := (-1)) hx hb hr (fun t ht hW => ⟨⟨rfl, ul, 1, by rw [ht]; exact hP9, hD9⟩, hS.F ht⟩) hS.2.2 dX10_join_35
    · skip
      obtain ⟨fe3, hFA3⟩ := hFx g0 hq3
      refine lv_aload_n hx hb dX10_join_10 rfl (lv_at hl 1 rfl) ?_
      refine va_get (D := (dC, dI)) (ci := 8) (v := .ref sh) (C := RX10) (T := TX10) (N := 13) hx hb hts inX10 hown hK hP 0 rfl rfl 0 (Nat.le_of_ble_eq_true rfl) (hts _ mw_309) (fun _ h9 => h9) rfl dX10_join_11 ?_
      refine lv_iload_n hx hb dX10_join_14 rfl (lv_at hl 3 rfl) ?_
      obtain ⟨hPc, hDc, hFc, hI1⟩ := zi_sub (wc := [_, _]) hP hD hS hA [1, 2] rfl rfl
      refine zcall (st1 := [.ref fe3]) (va_runV (As := [.int (nI g0)]) (rest := []) ⟨hx, hb, hml, hown, hts⟩ (k_Sheet_find l dC dI cI cZ cF H.size sh fa ft FA g0 fe3 (by first | with_reducible assumption | omega) (by first | with_reducible assumption | omega) (hFA3)) (csV_94 hts rfl rfl ⟨Nat.le_of_ble_eq_true rfl, Nat.le_of_ble_eq_true rfl⟩) (zPV2 (q0 := 0) (ci := 7) hPc hDc hK hXN rfl rfl) rfl rfl hl.1 rfl (lv_room (Nat.le_of_ble_eq_true rfl)) dX10_join_15 ⟨Nat.le_of_ble_eq_true rfl, Nat.le_of_ble_eq_true rfl⟩) hS hFc hFc rfl (fun t H locs ht hB hk1 hS => ?_)
      obtain ⟨hP1, hD1⟩ := hB
      rw [ht] at hP1
      replace hP := z0 hP hD hk1 hP1 hI1
      clear hk1 hPc hDc hFc hP1 hD1 ht hI1
      refine lv_astore (lv' := [(5, .ref fe3), (4, .ref fe2), (0, .ref x), (1, .int (nI f0)), (2, .int (nI g0)), (3, .int gp9)]) hx hb dX10_join_18 hl (Nat.le_of_ble_eq_true rfl) rfl (fun ls hl => ?_)
      refine lv_aload hx hb dX10_join_20 (lv_at hl 1 rfl) ?_
      refine lv_ifnull hx hb dX10_join_22 ?_
      refine lv_aload hx hb dX10_join_25 (lv_at hl 0 rfl) ?_
      refine lv_ifnonnull (tgt := 36) hx hb dX10_join_27 rfl ?_
      exfalso; rcases hbad with h9 | h9; (rw [nI_toInt (by omega)] at h9; omega); (rw [nI_toInt (by omega)] at h9; omega)
set_option maxHeartbeats 4000000 in
set_option maxRecDepth 100000 in
theorem k_join_r (l : Launch) (dC : Nat → ClassId) (dI : Nat → Nat → Nat) (cI cZ cF : ClassId) (sz : Nat) (x : Nat) (sh : Nat) (lw : Nat) (ro : Nat) (bq : Nat) (bp : Nat) (dq : Nat) (dp : Nat) (lv : Nat) (sl : Nat) (sd : Int32) (ul : Int32) (su : Int32) (ds : Int32) (fa : Nat) (ft : Nat) (FA : Nat → Option Nat) (f0 : Nat) (g0 : Nat) (L : List Nat) (f : Nat → va_E) (kd : Nat → Int32) (st : Nat → Int32) (tn : Nat → Int32) (mn : Nat → Int32) (cx : Nat → Int32) (cy : Nat → Int32) (rk : Nat → Int32) (wd : Nat → Int32) (tw : Nat → Int32) (pa : Nat → Int32) (pb : Nat → Int32) (gb : Nat → Int32) (it : Nat → Int32) (gp9 : Int32) (h200 : ft ≤ 200) (hf0 : f0 < ft) (hg0 : g0 < ft) (hva : ∀ q, q < ft → vwA cI L f FA rk wd tw pa pb kd st gb it tn mn cx cy q) (hbad : ¬ (((st f0).toInt = 1 ∧ (st g0).toInt = 1) ∧ ((kd f0).toInt = 6 ∧ (kd g0).toInt = 6) ∧ (0 ≤ gp9.toInt ∧ gp9.toInt ≤ 1000) ∧ ((tn f0).toInt = 0 ∧ (tn g0).toInt = 0))) : zM l yX10_join cX10_join 8 (some .int) ({ frames := 1, cells := 0, slots := 0, locals := 22 } : Room) [.ref x, .int (nI f0), .int (nI g0), .int gp9] (dC, dI) (zTy cI cZ cF) ([(oc8 x (.ref sh) (.ref lw) (.ref ro) (.ref bq) (.ref bp) (.ref dq) (.ref dp) (.ref lv) (.ref sl) ds sd ul su), (oc7 sh (.ref fa) (nI ft)), (oq fa cF 200 FA)] ++ va_pl L f) sz (some (.int (-1))) (fun A t => ∃ (ul1 : Int32), ∃ (su1 : Int32), zPD (dC, dI) classes A ([(oc8 x (.ref sh) (.ref lw) (.ref ro) (.ref bq) (.ref bp) (.ref dq) (.ref dp) (.ref lv) (.ref sl) ds sd ul1 su1), (oc7 sh (.ref fa) (nI ft)), (oq fa cF 200 FA)] ++ va_pl L f) t.heap) 0 0 := by
  refine zIn (own := "ScaleShop") (loc := [(0, .ref x), (1, .int (nI f0)), (2, .int (nI g0)), (3, .int gp9)]) rfl rfl rfl rfl (fun p e s m below meth c hx hb hr hts hown hlocks hml hnm9 A hA hS hP hD hK hXN Q9 hQ9 ls hl => ?_)
  have e_0 : (0 : Int32).toInt = 0 := (by decide)
  have e_1000 : (1000 : Int32).toInt = 1000 := (by decide)
  rcases vwA_2 (hva f0 (by omega)) with ⟨ht2, fe2, lk2, lo2, we2, fm2, hFA2, hfe2, hlk2⟩ | ⟨ht2, fe2, lk2, lo2, we2, fm2, r2, rx2, ry2, cap2, U2, V2, rg2, hFA2, hfe2, hlk2, ⟨hr2, hrx2, hry2, hne2⟩, hrr2⟩
  · skip
    refine lv_aload_n hx hb dX10_join_0 rfl (lv_at hl 0 rfl) ?_
    refine va_get (D := (dC, dI)) (ci := 8) (v := .ref sh) (C := RX10) (T := TX10) (N := 13) hx hb hts inX10 hown hK hP 0 rfl rfl 0 (Nat.le_of_ble_eq_true rfl) (hts _ mw_309) (fun _ h9 => h9) rfl dX10_join_1 ?_
    refine lv_iload_n hx hb dX10_join_4 rfl (lv_at hl 1 rfl) ?_
    obtain ⟨hPc, hDc, hFc, hI1⟩ := zi_sub (wc := [_, _]) hP hD hS hA [1, 2] rfl rfl
    refine zcall (st1 := [.ref fe2]) (va_runV (As := [.int (nI f0)]) (rest := []) ⟨hx, hb, hml, hown, hts⟩ (k_Sheet_find l dC dI cI cZ cF s.heap.size sh fa ft FA f0 fe2 (by first | with_reducible assumption | omega) (by first | with_reducible assumption | omega) (hFA2)) (csV_94 hts rfl rfl ⟨Nat.le_of_ble_eq_true rfl, Nat.le_of_ble_eq_true rfl⟩) (zPV2 (q0 := 0) (ci := 7) hPc hDc hK hXN rfl rfl) rfl rfl hl.1 rfl (lv_room (Nat.le_of_ble_eq_true rfl)) dX10_join_5 ⟨Nat.le_of_ble_eq_true rfl, Nat.le_of_ble_eq_true rfl⟩) hS hFc hFc rfl (fun t H locs ht hB hk1 hS => ?_)
    obtain ⟨hP1, hD1⟩ := hB
    rw [ht] at hP1
    replace hP := z0 hP hD hk1 hP1 hI1
    clear hk1 hPc hDc hFc hP1 hD1 ht hI1
    refine lv_astore (lv' := [(4, .ref fe2), (0, .ref x), (1, .int (nI f0)), (2, .int (nI g0)), (3, .int gp9)]) hx hb dX10_join_8 hl (Nat.le_of_ble_eq_true rfl) rfl (fun ls hl => ?_)
    rcases vwA_2 (hva g0 (by omega)) with ⟨ht3, fe3, lk3, lo3, we3, fm3, hFA3, hfe3, hlk3⟩ | ⟨ht3, fe3, lk3, lo3, we3, fm3, r3, rx3, ry3, cap3, U3, V3, rg3, hFA3, hfe3, hlk3, ⟨hr3, hrx3, hry3, hne3⟩, hrr3⟩
    · skip
      refine lv_aload_n hx hb dX10_join_10 rfl (lv_at hl 1 rfl) ?_
      refine va_get (D := (dC, dI)) (ci := 8) (v := .ref sh) (C := RX10) (T := TX10) (N := 13) hx hb hts inX10 hown hK hP 0 rfl rfl 0 (Nat.le_of_ble_eq_true rfl) (hts _ mw_309) (fun _ h9 => h9) rfl dX10_join_11 ?_
      refine lv_iload_n hx hb dX10_join_14 rfl (lv_at hl 3 rfl) ?_
      obtain ⟨hPc, hDc, hFc, hI1⟩ := zi_sub (wc := [_, _]) hP hD hS hA [1, 2] rfl rfl
      refine zcall (st1 := [.ref fe3]) (va_runV (As := [.int (nI g0)]) (rest := []) ⟨hx, hb, hml, hown, hts⟩ (k_Sheet_find l dC dI cI cZ cF H.size sh fa ft FA g0 fe3 (by first | with_reducible assumption | omega) (by first | with_reducible assumption | omega) (hFA3)) (csV_94 hts rfl rfl ⟨Nat.le_of_ble_eq_true rfl, Nat.le_of_ble_eq_true rfl⟩) (zPV2 (q0 := 0) (ci := 7) hPc hDc hK hXN rfl rfl) rfl rfl hl.1 rfl (lv_room (Nat.le_of_ble_eq_true rfl)) dX10_join_15 ⟨Nat.le_of_ble_eq_true rfl, Nat.le_of_ble_eq_true rfl⟩) hS hFc hFc rfl (fun t H locs ht hB hk1 hS => ?_)
      obtain ⟨hP1, hD1⟩ := hB
      rw [ht] at hP1
      replace hP := z0 hP hD hk1 hP1 hI1
      clear hk1 hPc hDc hFc hP1 hD1 ht hI1
      refine lv_astore (lv' := [(5, .ref fe3), (4, .ref fe2), (0, .ref x), (1, .int (nI f0)), (2, .int (nI g0)), (3, .int gp9)]) hx hb dX10_join_18 hl (Nat.le_of_ble_eq_true rfl) rfl (fun ls hl => ?_)
      refine lv_aload hx hb dX10_join_20 (lv_at hl 1 rfl) ?_
      refine lv_ifnull hx hb dX10_join_22 ?_
      refine lv_aload hx hb dX10_join_25 (lv_at hl 0 rfl) ?_
      refine lv_ifnonnull (tgt := 36) hx hb dX10_join_27 rfl ?_
      have hc9_1 : inPl L f [(oc1 fe2 (rk f0) (wd f0) (tw f0) (pa f0) (pb f0) (.ref lo2) (.ref lk2) fm2), (oc4 lk2 (kd f0) (st f0) .null (gb f0) (it f0) we2)] := ⟨hfe2, hlk2, trivial⟩
      have hD0_1 := hD
      obtain ⟨T_1, hT_1, hP, hD⟩ := pl_oT hP hD hc9_1 (pwF hfe2.2 hlk2.2)
      obtain ⟨hP, hD⟩ := zre (W2 := ([_, _, _, _, _] ++ va_pl T_1 f)) hP hD rfl
      refine lv_aload hx hb dX10_join_36 (lv_at hl 1 rfl) ?_
      refine va_get (D := (dC, dI)) (ci := 1) (v := .ref lk2) (C := RX2) (T := TX2) (N := 8) hx hb hts inX2 hown hK hP 3 rfl rfl 6 (Nat.le_of_ble_eq_true rfl) (hts _ mw_433) (fun _ h9 => h9) rfl dX10_join_38 ?_
      refine va_get (D := (dC, dI)) (ci := 4) (v := .int (st f0)) (C := RX5) (T := TX5) (N := 6) hx hb hts inX5 hown hK hP 4 rfl rfl 1 (Nat.le_of_ble_eq_true rfl) (hts _ mw_385) (fun _ h9 => h9) rfl dX10_join_41 ?_
      refine lv_iconst (v := 1) hx hb dX10_join_44 rfl ?_
      refine lv_icmp_ne (tgt := 60) hx hb dX10_join_45 rfl (fun c_1 => ?_) (fun c_1 => ?_)
      · have c_1 : ¬ (st f0).toInt = 1 := zc_ne rfl rfl c_1
        obtain ⟨hP, hD⟩ := pl_bk (X := [_, _, _]) hT_1 hP rfl hc9_1 hD0_1 rfl
        refine lv_aload_n hx hb dX10_join_60 rfl (lv_at hl 2 rfl) ?_
        refine lv_iconst (v := 2) hx hb dX10_join_61 rfl ?_
        obtain ⟨hPc, hDc, hFc⟩ := zo_sub (wc := [_]) hP hD hS hA [0] rfl rfl
        refine zcall (st1 := [.int (-1)]) (va_runV (As := [.int 2]) (rest := []) ⟨hx, hb, hml, hown, hts⟩ (k_refuse_2 l dC dI cI cZ cF H.size x sh lw ro bq bp dq dp lv sl sd ul su ds ) (csV_95 hts rfl rfl ⟨Nat.le_of_ble_eq_true rfl, Nat.le_of_ble_eq_true rfl⟩) (zPV2 (q0 := 0) (ci := 8) hPc hDc hK hXN rfl rfl) rfl rfl hl.1 rfl (lv_room (Nat.le_of_ble_eq_true rfl)) dX10_join_62 ⟨Nat.le_of_ble_eq_true rfl, Nat.le_of_ble_eq_true rfl⟩) hS hFc hFc rfl (fun t H locs ht hB hk1 hS => ?_)
        obtain ⟨hP1, hD1⟩ := hB
        rw [ht] at hP1
        obtain ⟨hP, hD⟩ := znQ (W2 := [(oc8 x (.ref sh) (.ref lw) (.ref ro) (.ref bq) (.ref bp) (.ref dq) (.ref dp) (.ref lv) (.ref sl) ds sd ul 2), _, _]) hP hD hk1 hFc hP1 hD1 [0] [false, true, true] [false, true, true] [0] (by decide +kernel) rfl rfl rfl rfl rfl
        clear hk1 hPc hDc hFc hP1 hD1 ht
        obtain ⟨hP9, hD9⟩ := zu_part (cx := [_, _, _]) hP hD [true, true, true] rfl rfl
        rw [hQ9]
        exact W.iret (v := (-1)) hx hb hr (fun t ht hW => ⟨⟨rfl, ul, 2, by rw [ht]; exact hP9, hD9⟩, hS.F ht⟩) hS.2.2 dX10_join_65
      · have c_1 : (st f0).toInt = 1 := zc_eq rfl rfl c_1
        obtain ⟨hP, hD⟩ := pl_bk (X := [_, _, _]) hT_1 hP rfl hc9_1 hD0_1 rfl
        have hc9_2 : inPl L f [(oc1 fe3 (rk g0) (wd g0) (tw g0) (pa g0) (pb g0) (.ref lo3) (.ref lk3) fm3), (oc4 lk3 (kd g0) (st g0) .null (gb g0) (it g0) we3)] := ⟨hfe3, hlk3, trivial⟩
        have hD0_2 := hD
        obtain ⟨T_2, hT_2, hP, hD⟩ := pl_oT hP hD hc9_2 (pwF hfe3.2 hlk3.2)
        obtain ⟨hP, hD⟩ := zre (W2 := ([_, _, _, _, _] ++ va_pl T_2 f)) hP hD rfl
        refine lv_aload hx hb dX10_join_48 (lv_at hl 0 rfl) ?_
        refine va_get (D := (dC, dI)) (ci := 1) (v := .ref lk3) (C := RX2) (T := TX2) (N := 8) hx hb hts inX2 hown hK hP 3 rfl rfl 6 (Nat.le_of_ble_eq_true rfl) (hts _ mw_433) (fun _ h9 => h9) rfl dX10_join_50 ?_
        refine va_get (D := (dC, dI)) (ci := 4) (v := .int (st g0)) (C := RX5) (T := TX5) (N := 6) hx hb hts inX5 hown hK hP 4 rfl rfl 1 (Nat.le_of_ble_eq_true rfl) (hts _ mw_385) (fun _ h9 => h9) rfl dX10_join_53 ?_
        refine lv_iconst (v := 1) hx hb dX10_join_56 rfl ?_
        refine lv_icmp_eq (tgt := 66) hx hb dX10_join_57 rfl (fun c_2 => ?_) (fun c_2 => ?_)
        · have c_2 : (st g0).toInt = 1 := zc_eq rfl rfl c_2
          obtain ⟨hP, hD⟩ := pl_bk (X := [_, _, _]) hT_2 hP rfl hc9_2 hD0_2 rfl
          have hc9_3 : inPl L f [(oc1 fe2 (rk f0) (wd f0) (tw f0) (pa f0) (pb f0) (.ref lo2) (.ref lk2) fm2), (oc4 lk2 (kd f0) (st f0) .null (gb f0) (it f0) we2)] := ⟨hfe2, hlk2, trivial⟩
          have hD0_3 := hD
          obtain ⟨T_3, hT_3, hP, hD⟩ := pl_oT hP hD hc9_3 (pwF hfe2.2 hlk2.2)
          obtain ⟨hP, hD⟩ := zre (W2 := ([_, _, _, _, _] ++ va_pl T_3 f)) hP hD rfl
          refine lv_aload hx hb dX10_join_66 (lv_at hl 1 rfl) ?_
          refine va_get (D := (dC, dI)) (ci := 1) (v := .ref lk2) (C := RX2) (T := TX2) (N := 8) hx hb hts inX2 hown hK hP 3 rfl rfl 6 (Nat.le_of_ble_eq_true rfl) (hts _ mw_433) (fun _ h9 => h9) rfl dX10_join_68 ?_
          refine va_get (D := (dC, dI)) (ci := 4) (v := .int (kd f0)) (C := RX5) (T := TX5) (N := 6) hx hb hts inX5 hown hK hP 4 rfl rfl 0 (Nat.le_of_ble_eq_true rfl) (hts _ mw_381) (fun _ h9 => h9) rfl dX10_join_71 ?_
          refine lv_bipush (v := 6) hx hb dX10_join_74 rfl ?_
          refine lv_icmp_ne (tgt := 92) hx hb dX10_join_76 rfl (fun c_3 => ?_) (fun c_3 => ?_)
          · have c_3 : ¬ (kd f0).toInt = 6 := zc_ne rfl rfl c_3
            obtain ⟨hP, hD⟩ := pl_bk (X := [_, _, _]) hT_3 hP rfl hc9_3 hD0_3 rfl
            refine lv_aload_n hx hb dX10_join_92 rfl (lv_at hl 2 rfl) ?_
            refine lv_iconst (v := 3) hx hb dX10_join_93 rfl ?_
            obtain ⟨hPc, hDc, hFc⟩ := zo_sub (wc := [_]) hP hD hS hA [0] rfl rfl
            refine zcall (st1 := [.int (-1)]) (va_runV (As := [.int 3]) (rest := []) ⟨hx, hb, hml, hown, hts⟩ (k_refuse_3 l dC dI cI cZ cF H.size x sh lw ro bq bp dq dp lv sl sd ul su ds ) (csV_95 hts rfl rfl ⟨Nat.le_of_ble_eq_true rfl, Nat.le_of_ble_eq_true rfl⟩) (zPV2 (q0 := 0) (ci := 8) hPc hDc hK hXN rfl rfl) rfl rfl hl.1 rfl (lv_room (Nat.le_of_ble_eq_true rfl)) dX10_join_94 ⟨Nat.le_of_ble_eq_true rfl, Nat.le_of_ble_eq_true rfl⟩) hS hFc hFc rfl (fun t H locs ht hB hk1 hS => ?_)
            obtain ⟨hP1, hD1⟩ := hB
            rw [ht] at hP1
            obtain ⟨hP, hD⟩ := znQ (W2 := [(oc8 x (.ref sh) (.ref lw) (.ref ro) (.ref bq) (.ref bp) (.ref dq) (.ref dp) (.ref lv) (.ref sl) ds sd ul 3), _, _]) hP hD hk1 hFc hP1 hD1 [0] [false, true, true] [false, true, true] [0] (by decide +kernel) rfl rfl rfl rfl rfl
            clear hk1 hPc hDc hFc hP1 hD1 ht
            obtain ⟨hP9, hD9⟩ := zu_part (cx := [_, _, _]) hP hD [true, true, true] rfl rfl
            rw [hQ9]
            exact W.iret (v := (-1)) hx hb hr (fun t ht hW => ⟨⟨rfl, ul, 3, by rw [ht]; exact hP9, hD9⟩, hS.F ht⟩) hS.2.2 dX10_join_97
          · have c_3 : (kd f0).toInt = 6 := zc_eq rfl rfl c_3
            obtain ⟨hP, hD⟩ := pl_bk (X := [_, _, _]) hT_3 hP rfl hc9_3 hD0_3 rfl
            have hc9_4 : inPl L f [(oc1 fe3 (rk g0) (wd g0) (tw g0) (pa g0) (pb g0) (.ref lo3) (.ref lk3) fm3), (oc4 lk3 (kd g0) (st g0) .null (gb g0) (it g0) we3)] := ⟨hfe3, hlk3, trivial⟩
            have hD0_4 := hD
            obtain ⟨T_4, hT_4, hP, hD⟩ := pl_oT hP hD hc9_4 (pwF hfe3.2 hlk3.2)
            obtain ⟨hP, hD⟩ := zre (W2 := ([_, _, _, _, _] ++ va_pl T_4 f)) hP hD rfl
            refine lv_aload hx hb dX10_join_79 (lv_at hl 0 rfl) ?_
            refine va_get (D := (dC, dI)) (ci := 1) (v := .ref lk3) (C := RX2) (T := TX2) (N := 8) hx hb hts inX2 hown hK hP 3 rfl rfl 6 (Nat.le_of_ble_eq_true rfl) (hts _ mw_433) (fun _ h9 => h9) rfl dX10_join_81 ?_
            refine va_get (D := (dC, dI)) (ci := 4) (v := .int (kd g0)) (C := RX5) (T := TX5) (N := 6) hx hb hts inX5 hown hK hP 4 rfl rfl 0 (Nat.le_of_ble_eq_true rfl) (hts _ mw_381) (fun _ h9 => h9) rfl dX10_join_84 ?_
            refine lv_bipush (v := 6) hx hb dX10_join_87 rfl ?_
            refine lv_icmp_eq (tgt := 98) hx hb dX10_join_89 rfl (fun c_4 => ?_) (fun c_4 => ?_)
            · have c_4 : (kd g0).toInt = 6 := zc_eq rfl rfl c_4
              obtain ⟨hP, hD⟩ := pl_bk (X := [_, _, _]) hT_4 hP rfl hc9_4 hD0_4 rfl
              refine lv_iload_n hx hb dX10_join_98 rfl (lv_at hl 5 rfl) ?_
              refine lv_iconst (v := 0) hx hb dX10_join_99 rfl ?_
              refine lv_sipush (v := 1000) hx hb dX10_join_100 rfl ?_
              obtain ⟨hPc, hDc, hFc, hI1⟩ := zi_sub (wc := []) hP hD hS hA [] rfl rfl
              refine zcall (st1 := [.int (pI ((0 : Int32).toInt ≤ gp9.toInt ∧ gp9.toInt ≤ (1000 : Int32).toInt))]) (va_runS (As := [.int gp9, .int 0, .int 1000]) (rest := []) ⟨hx, hb, hml, hown, hts⟩ (k_isWithin l dC dI cI cZ cF H.size gp9 0 1000 ) (csS_14 hts rfl rfl ⟨Nat.le_of_ble_eq_true rfl, Nat.le_of_ble_eq_true rfl⟩) (zPS2 hPc hDc hK hXN) rfl rfl hl.1 rfl (lv_room (Nat.le_of_ble_eq_true rfl)) dX10_join_103 ⟨Nat.le_of_ble_eq_true rfl, Nat.le_of_ble_eq_true rfl⟩) hS hFc hFc rfl (fun t H locs ht hB hk1 hS => ?_)
              obtain ⟨hP1, hD1⟩ := hB
              rw [ht] at hP1
              replace hP := z0 hP hD hk1 hP1 hI1
              clear hk1 hPc hDc hFc hP1 hD1 ht hI1
              refine lv_if_ne (tgt := 115) hx hb dX10_join_106 rfl (fun c_5 => ?_) (fun c_5 => ?_)
              · have c_5 : (0 : Int32).toInt ≤ gp9.toInt ∧ gp9.toInt ≤ (1000 : Int32).toInt := zp_1 c_5
                have hc9_5 : inPl L f [(oc1 fe2 (rk f0) (wd f0) (tw f0) (pa f0) (pb f0) (.ref lo2) (.ref lk2) fm2), (oc4 lk2 (kd f0) (st f0) .null (gb f0) (it f0) we2)] := ⟨hfe2, hlk2, trivial⟩
                have hD0_5 := hD
                obtain ⟨T_5, hT_5, hP, hD⟩ := pl_oT hP hD hc9_5 (pwF hfe2.2 hlk2.2)
                obtain ⟨hP, hD⟩ := zre (W2 := ([_, _, _, _, _] ++ va_pl T_5 f)) hP hD rfl
                refine lv_aload hx hb dX10_join_115 (lv_at hl 1 rfl) ?_
                refine va_get (D := (dC, dI)) (ci := 1) (v := .ref lk2) (C := RX2) (T := TX2) (N := 8) hx hb hts inX2 hown hK hP 3 rfl rfl 6 (Nat.le_of_ble_eq_true rfl) (hts _ mw_433) (fun _ h9 => h9) rfl dX10_join_117 ?_
                refine va_get (D := (dC, dI)) (ci := 4) (v := .null) (C := RX5) (T := TX5) (N := 6) hx hb hts inX5 hown hK hP 4 rfl rfl 2 (Nat.le_of_ble_eq_true rfl) (hts _ mw_391) (fun _ h9 => h9) rfl dX10_join_120 ?_
                refine lv_astoreN (lv' := [(6, .null), (5, .ref fe3), (4, .ref fe2), (0, .ref x), (1, .int (nI f0)), (2, .int (nI g0)), (3, .int gp9)]) hx hb dX10_join_123 hl (Nat.le_of_ble_eq_true rfl) rfl (fun ls hl => ?_)
                obtain ⟨hP, hD⟩ := pl_bk (X := [_, _, _]) hT_5 hP rfl hc9_5 hD0_5 rfl
                have hc9_6 : inPl L f [(oc1 fe3 (rk g0) (wd g0) (tw g0) (pa g0) (pb g0) (.ref lo3) (.ref lk3) fm3), (oc4 lk3 (kd g0) (st g0) .null (gb g0) (it g0) we3)] := ⟨hfe3, hlk3, trivial⟩
                have hD0_6 := hD
                obtain ⟨T_6, hT_6, hP, hD⟩ := pl_oT hP hD hc9_6 (pwF hfe3.2 hlk3.2)
                obtain ⟨hP, hD⟩ := zre (W2 := ([_, _, _, _, _] ++ va_pl T_6 f)) hP hD rfl
                refine lv_aload hx hb dX10_join_125 (lv_at hl 1 rfl) ?_
                refine va_get (D := (dC, dI)) (ci := 1) (v := .ref lk3) (C := RX2) (T := TX2) (N := 8) hx hb hts inX2 hown hK hP 3 rfl rfl 6 (Nat.le_of_ble_eq_true rfl) (hts _ mw_433) (fun _ h9 => h9) rfl dX10_join_127 ?_
                refine va_get (D := (dC, dI)) (ci := 4) (v := .null) (C := RX5) (T := TX5) (N := 6) hx hb hts inX5 hown hK hP 4 rfl rfl 2 (Nat.le_of_ble_eq_true rfl) (hts _ mw_391) (fun _ h9 => h9) rfl dX10_join_130 ?_
                refine lv_astoreN (lv' := [(7, .null), (6, .null), (5, .ref fe3), (4, .ref fe2), (0, .ref x), (1, .int (nI f0)), (2, .int (nI g0)), (3, .int gp9)]) hx hb dX10_join_133 hl (Nat.le_of_ble_eq_true rfl) rfl (fun ls hl => ?_)
                obtain ⟨hP, hD⟩ := pl_bk (X := [_, _, _]) hT_6 hP rfl hc9_6 hD0_6 rfl
                refine lv_aloadN hx hb dX10_join_135 (lv_at hl 1 rfl) ?_
                refine lv_ifnullN (tgt := 145) hx hb dX10_join_137 rfl ?_
                refine lv_aload_n hx hb dX10_join_145 rfl (lv_at hl 4 rfl) ?_
                refine lv_iconst (v := 5) hx hb dX10_join_146 rfl ?_
                obtain ⟨hPc, hDc, hFc⟩ := zo_sub (wc := [_]) hP hD hS hA [0] rfl rfl
                refine zcall (st1 := [.int (-1)]) (va_runV (As := [.int 5]) (rest := []) ⟨hx, hb, hml, hown, hts⟩ (k_refuse_5 l dC dI cI cZ cF H.size x sh lw ro bq bp dq dp lv sl sd ul su ds ) (csV_95 hts rfl rfl ⟨Nat.le_of_ble_eq_true rfl, Nat.le_of_ble_eq_true rfl⟩) (zPV2 (q0 := 0) (ci := 8) hPc hDc hK hXN rfl rfl) rfl rfl hl.1 rfl (lv_room (Nat.le_of_ble_eq_true rfl)) dX10_join_147 ⟨Nat.le_of_ble_eq_true rfl, Nat.le_of_ble_eq_true rfl⟩) hS hFc hFc rfl (fun t H locs ht hB hk1 hS => ?_)
                obtain ⟨hP1, hD1⟩ := hB
                rw [ht] at hP1
                obtain ⟨hP, hD⟩ := znQ (W2 := [(oc8 x (.ref sh) (.ref lw) (.ref ro) (.ref bq) (.ref bp) (.ref dq) (.ref dp) (.ref lv) (.ref sl) ds sd ul 5), _, _]) hP hD hk1 hFc hP1 hD1 [0] [false, true, true] [false, true, true] [0] (by decide +kernel) rfl rfl rfl rfl rfl
                clear hk1 hPc hDc hFc hP1 hD1 ht
                obtain ⟨hP9, hD9⟩ := zu_part (cx := [_, _, _]) hP hD [true, true, true] rfl rfl
                rw [hQ9]
                exact W.iret (v := (-1)) hx hb hr (fun t ht hW => ⟨⟨rfl, ul, 5, by rw [ht]; exact hP9, hD9⟩, hS.F ht⟩) hS.2.2 dX10_join_150
              · have c_5 : ¬ ((0 : Int32).toInt ≤ gp9.toInt ∧ gp9.toInt ≤ (1000 : Int32).toInt) := zp_0 c_5
                refine lv_aload_n hx hb dX10_join_109 rfl (lv_at hl 2 rfl) ?_
                refine lv_iconst (v := 4) hx hb dX10_join_110 rfl ?_
                obtain ⟨hPc, hDc, hFc⟩ := zo_sub (wc := [_]) hP hD hS hA [0] rfl rfl
                refine zcall (st1 := [.int (-1)]) (va_runV (As := [.int 4]) (rest := []) ⟨hx, hb, hml, hown, hts⟩ (k_refuse_4 l dC dI cI cZ cF H.size x sh lw ro bq bp dq dp lv sl sd ul su ds ) (csV_95 hts rfl rfl ⟨Nat.le_of_ble_eq_true rfl, Nat.le_of_ble_eq_true rfl⟩) (zPV2 (q0 := 0) (ci := 8) hPc hDc hK hXN rfl rfl) rfl rfl hl.1 rfl (lv_room (Nat.le_of_ble_eq_true rfl)) dX10_join_111 ⟨Nat.le_of_ble_eq_true rfl, Nat.le_of_ble_eq_true rfl⟩) hS hFc hFc rfl (fun t H locs ht hB hk1 hS => ?_)
                obtain ⟨hP1, hD1⟩ := hB
                rw [ht] at hP1
                obtain ⟨hP, hD⟩ := znQ (W2 := [(oc8 x (.ref sh) (.ref lw) (.ref ro) (.ref bq) (.ref bp) (.ref dq) (.ref dp) (.ref lv) (.ref sl) ds sd ul 4), _, _]) hP hD hk1 hFc hP1 hD1 [0] [false, true, true] [false, true, true] [0] (by decide +kernel) rfl rfl rfl rfl rfl
                clear hk1 hPc hDc hFc hP1 hD1 ht
                obtain ⟨hP9, hD9⟩ := zu_part (cx := [_, _, _]) hP hD [true, true, true] rfl rfl
                rw [hQ9]
                exact W.iret (v := (-1)) hx hb hr (fun t ht hW => ⟨⟨rfl, ul, 4, by rw [ht]; exact hP9, hD9⟩, hS.F ht⟩) hS.2.2 dX10_join_114
            · have c_4 : ¬ (kd g0).toInt = 6 := zc_ne rfl rfl c_4
              obtain ⟨hP, hD⟩ := pl_bk (X := [_, _, _]) hT_4 hP rfl hc9_4 hD0_4 rfl
              refine lv_aload_n hx hb dX10_join_92 rfl (lv_at hl 2 rfl) ?_
              refine lv_iconst (v := 3) hx hb dX10_join_93 rfl ?_
              obtain ⟨hPc, hDc, hFc⟩ := zo_sub (wc := [_]) hP hD hS hA [0] rfl rfl
              refine zcall (st1 := [.int (-1)]) (va_runV (As := [.int 3]) (rest := []) ⟨hx, hb, hml, hown, hts⟩ (k_refuse_3 l dC dI cI cZ cF H.size x sh lw ro bq bp dq dp lv sl sd ul su ds ) (csV_95 hts rfl rfl ⟨Nat.le_of_ble_eq_true rfl, Nat.le_of_ble_eq_true rfl⟩) (zPV2 (q0 := 0) (ci := 8) hPc hDc hK hXN rfl rfl) rfl rfl hl.1 rfl (lv_room (Nat.le_of_ble_eq_true rfl)) dX10_join_94 ⟨Nat.le_of_ble_eq_true rfl, Nat.le_of_ble_eq_true rfl⟩) hS hFc hFc rfl (fun t H locs ht hB hk1 hS => ?_)
              obtain ⟨hP1, hD1⟩ := hB
              rw [ht] at hP1
              obtain ⟨hP, hD⟩ := znQ (W2 := [(oc8 x (.ref sh) (.ref lw) (.ref ro) (.ref bq) (.ref bp) (.ref dq) (.ref dp) (.ref lv) (.ref sl) ds sd ul 3), _, _]) hP hD hk1 hFc hP1 hD1 [0] [false, true, true] [false, true, true] [0] (by decide +kernel) rfl rfl rfl rfl rfl
              clear hk1 hPc hDc hFc hP1 hD1 ht
              obtain ⟨hP9, hD9⟩ := zu_part (cx := [_, _, _]) hP hD [true, true, true] rfl rfl
              rw [hQ9]
              exact W.iret (v := (-1)) hx hb hr (fun t ht hW => ⟨⟨rfl, ul, 3, by rw [ht]; exact hP9, hD9⟩, hS.F ht⟩) hS.2.2 dX10_join_97
        · have c_2 : ¬ (st g0).toInt = 1 := zc_ne rfl rfl c_2
          obtain ⟨hP, hD⟩ := pl_bk (X := [_, _, _]) hT_2 hP rfl hc9_2 hD0_2 rfl
          refine lv_aload_n hx hb dX10_join_60 rfl (lv_at hl 2 rfl) ?_
          refine lv_iconst (v := 2) hx hb dX10_join_61 rfl ?_
          obtain ⟨hPc, hDc, hFc⟩ := zo_sub (wc := [_]) hP hD hS hA [0] rfl rfl
          refine zcall (st1 := [.int (-1)]) (va_runV (As := [.int 2]) (rest := []) ⟨hx, hb, hml, hown, hts⟩ (k_refuse_2 l dC dI cI cZ cF H.size x sh lw ro bq bp dq dp lv sl sd ul su ds ) (csV_95 hts rfl rfl ⟨Nat.le_of_ble_eq_true rfl, Nat.le_of_ble_eq_true rfl⟩) (zPV2 (q0 := 0) (ci := 8) hPc hDc hK hXN rfl rfl) rfl rfl hl.1 rfl (lv_room (Nat.le_of_ble_eq_true rfl)) dX10_join_62 ⟨Nat.le_of_ble_eq_true rfl, Nat.le_of_ble_eq_true rfl⟩) hS hFc hFc rfl (fun t H locs ht hB hk1 hS => ?_)
          obtain ⟨hP1, hD1⟩ := hB
          rw [ht] at hP1
          obtain ⟨hP, hD⟩ := znQ (W2 := [(oc8 x (.ref sh) (.ref lw) (.ref ro) (.ref bq) (.ref bp) (.ref dq) (.ref dp) (.ref lv) (.ref sl) ds sd ul 2), _, _]) hP hD hk1 hFc hP1 hD1 [0] [false, true, true] [false, true, true] [0] (by decide +kernel) rfl rfl rfl rfl rfl
          clear hk1 hPc hDc hFc hP1 hD1 ht
          obtain ⟨hP9, hD9⟩ := zu_part (cx := [_, _, _]) hP hD [true, true, true] rfl rfl
          rw [hQ9]
          exact W.iret (v := (-1)) hx hb hr (fun t ht hW => ⟨⟨rfl, ul, 2, by rw [ht]; exact hP9, hD9⟩, hS.F ht⟩) hS.2.2 dX10_join_65
    · skip
      refine lv_aload_n hx hb dX10_join_10 rfl (lv_at hl 1 rfl) ?_
      refine va_get (D := (dC, dI)) (ci := 8) (v := .ref sh) (C := RX10) (T := TX10) (N := 13) hx hb hts inX10 hown hK hP 0 rfl rfl 0 (Nat.le_of_ble_eq_true rfl) (hts _ mw_309) (fun _ h9 => h9) rfl dX10_join_11 ?_
      refine lv_iload_n hx hb dX10_join_14 rfl (lv_at hl 3 rfl) ?_
      obtain ⟨hPc, hDc, hFc, hI1⟩ := zi_sub (wc := [_, _]) hP hD hS hA [1, 2] rfl rfl
      refine zcall (st1 := [.ref fe3]) (va_runV (As := [.int (nI g0)]) (rest := []) ⟨hx, hb, hml, hown, hts⟩ (k_Sheet_find l dC dI cI cZ cF H.size sh fa ft FA g0 fe3 (by first | with_reducible assumption | omega) (by first | with_reducible assumption | omega) (hFA3)) (csV_94 hts rfl rfl ⟨Nat.le_of_ble_eq_true rfl, Nat.le_of_ble_eq_true rfl⟩) (zPV2 (q0 := 0) (ci := 7) hPc hDc hK hXN rfl rfl) rfl rfl hl.1 rfl (lv_room (Nat.le_of_ble_eq_true rfl)) dX10_join_15 ⟨Nat.le_of_ble_eq_true rfl, Nat.le_of_ble_eq_true rfl⟩) hS hFc hFc rfl (fun t H locs ht hB hk1 hS => ?_)
      obtain ⟨hP1, hD1⟩ := hB
      rw [ht] at hP1
      replace hP := z0 hP hD hk1 hP1 hI1
      clear hk1 hPc hDc hFc hP1 hD1 ht hI1
      refine lv_astore (lv' := [(5, .ref fe3), (4, .ref fe2), (0, .ref x), (1, .int (nI f0)), (2, .int (nI g0)), (3, .int gp9)]) hx hb dX10_join_18 hl (Nat.le_of_ble_eq_true rfl) rfl (fun ls hl => ?_)
      refine lv_aload hx hb dX10_join_20 (lv_at hl 1 rfl) ?_
      refine lv_ifnull hx hb dX10_join_22 ?_
      refine lv_aload hx hb dX10_join_25 (lv_at hl 0 rfl) ?_
      refine lv_ifnonnull (tgt := 36) hx hb dX10_join_27 rfl ?_
      have hc9_1 : inPl L f [(oc1 fe2 (rk f0) (wd f0) (tw f0) (pa f0) (pb f0) (.ref lo2) (.ref lk2) fm2), (oc4 lk2 (kd f0) (st f0) .null (gb f0) (it f0) we2)] := ⟨hfe2, hlk2, trivial⟩
      have hD0_1 := hD
      obtain ⟨T_1, hT_1, hP, hD⟩ := pl_oT hP hD hc9_1 (pwF hfe2.2 hlk2.2)
      obtain ⟨hP, hD⟩ := zre (W2 := ([_, _, _, _, _] ++ va_pl T_1 f)) hP hD rfl
      refine lv_aload hx hb dX10_join_36 (lv_at hl 1 rfl) ?_
      refine va_get (D := (dC, dI)) (ci := 1) (v := .ref lk2) (C := RX2) (T := TX2) (N := 8) hx hb hts inX2 hown hK hP 3 rfl rfl 6 (Nat.le_of_ble_eq_true rfl) (hts _ mw_433) (fun _ h9 => h9) rfl dX10_join_38 ?_
      refine va_get (D := (dC, dI)) (ci := 4) (v := .int (st f0)) (C := RX5) (T := TX5) (N := 6) hx hb hts inX5 hown hK hP 4 rfl rfl 1 (Nat.le_of_ble_eq_true rfl) (hts _ mw_385) (fun _ h9 => h9) rfl dX10_join_41 ?_
      refine lv_iconst (v := 1) hx hb dX10_join_44 rfl ?_
      refine lv_icmp_ne (tgt := 60) hx hb dX10_join_45 rfl (fun c_6 => ?_) (fun c_6 => ?_)
      · have c_6 : ¬ (st f0).toInt = 1 := zc_ne rfl rfl c_6
        obtain ⟨hP, hD⟩ := pl_bk (X := [_, _, _]) hT_1 hP rfl hc9_1 hD0_1 rfl
        refine lv_aload_n hx hb dX10_join_60 rfl (lv_at hl 2 rfl) ?_
        refine lv_iconst (v := 2) hx hb dX10_join_61 rfl ?_
        obtain ⟨hPc, hDc, hFc⟩ := zo_sub (wc := [_]) hP hD hS hA [0] rfl rfl
        refine zcall (st1 := [.int (-1)]) (va_runV (As := [.int 2]) (rest := []) ⟨hx, hb, hml, hown, hts⟩ (k_refuse_2 l dC dI cI cZ cF H.size x sh lw ro bq bp dq dp lv sl sd ul su ds ) (csV_95 hts rfl rfl ⟨Nat.le_of_ble_eq_true rfl, Nat.le_of_ble_eq_true rfl⟩) (zPV2 (q0 := 0) (ci := 8) hPc hDc hK hXN rfl rfl) rfl rfl hl.1 rfl (lv_room (Nat.le_of_ble_eq_true rfl)) dX10_join_62 ⟨Nat.le_of_ble_eq_true rfl, Nat.le_of_ble_eq_true rfl⟩) hS hFc hFc rfl (fun t H locs ht hB hk1 hS => ?_)
        obtain ⟨hP1, hD1⟩ := hB
        rw [ht] at hP1
        obtain ⟨hP, hD⟩ := znQ (W2 := [(oc8 x (.ref sh) (.ref lw) (.ref ro) (.ref bq) (.ref bp) (.ref dq) (.ref dp) (.ref lv) (.ref sl) ds sd ul 2), _, _]) hP hD hk1 hFc hP1 hD1 [0] [false, true, true] [false, true, true] [0] (by decide +kernel) rfl rfl rfl rfl rfl
        clear hk1 hPc hDc hFc hP1 hD1 ht
        obtain ⟨hP9, hD9⟩ := zu_part (cx := [_, _, _]) hP hD [true, true, true] rfl rfl
        rw [hQ9]
        exact W.iret (v := (-1)) hx hb hr (fun t ht hW => ⟨⟨rfl, ul, 2, by rw [ht]; exact hP9, hD9⟩, hS.F ht⟩) hS.2.2 dX10_join_65
      · have c_6 : (st f0).toInt = 1 := zc_eq rfl rfl c_6
        obtain ⟨hP, hD⟩ := pl_bk (X := [_, _, _]) hT_1 hP rfl hc9_1 hD0_1 rfl
        have hc9_2 : inPl L f [(oc1 fe3 (rk g0) (wd g0) (tw g0) (pa g0) (pb g0) (.ref lo3) (.ref lk3) fm3), (oc4 lk3 (kd g0) (st g0) (.ref r3) (gb g0) (it g0) we3)] := ⟨hfe3, hlk3, trivial⟩
        have hD0_2 := hD
        obtain ⟨T_2, hT_2, hP, hD⟩ := pl_oT hP hD hc9_2 (pwF hfe3.2 hlk3.2)
        obtain ⟨hP, hD⟩ := zre (W2 := ([_, _, _, _, _] ++ va_pl T_2 f)) hP hD rfl
        refine lv_aload hx hb dX10_join_48 (lv_at hl 0 rfl) ?_
        refine va_get (D := (dC, dI)) (ci := 1) (v := .ref lk3) (C := RX2) (T := TX2) (N := 8) hx hb hts inX2 hown hK hP 3 rfl rfl 6 (Nat.le_of_ble_eq_true rfl) (hts _ mw_433) (fun _ h9 => h9) rfl dX10_join_50 ?_
        refine va_get (D := (dC, dI)) (ci := 4) (v := .int (st g0)) (C := RX5) (T := TX5) (N := 6) hx hb hts inX5 hown hK hP 4 rfl rfl 1 (Nat.le_of_ble_eq_true rfl) (hts _ mw_385) (fun _ h9 => h9) rfl dX10_join_53 ?_
        refine lv_iconst (v := 1) hx hb dX10_join_56 rfl ?_
        refine lv_icmp_eq (tgt := 66) hx hb dX10_join_57 rfl (fun c_7 => ?_) (fun c_7 => ?_)
        · have c_7 : (st g0).toInt = 1 := zc_eq rfl rfl c_7
          obtain ⟨hP, hD⟩ := pl_bk (X := [_, _, _]) hT_2 hP rfl hc9_2 hD0_2 rfl
          have hc9_3 : inPl L f [(oc1 fe2 (rk f0) (wd f0) (tw f0) (pa f0) (pb f0) (.ref lo2) (.ref lk2) fm2), (oc4 lk2 (kd f0) (st f0) .null (gb f0) (it f0) we2)] := ⟨hfe2, hlk2, trivial⟩
          have hD0_3 := hD
          obtain ⟨T_3, hT_3, hP, hD⟩ := pl_oT hP hD hc9_3 (pwF hfe2.2 hlk2.2)
          obtain ⟨hP, hD⟩ := zre (W2 := ([_, _, _, _, _] ++ va_pl T_3 f)) hP hD rfl
          refine lv_aload hx hb dX10_join_66 (lv_at hl 1 rfl) ?_
          refine va_get (D := (dC, dI)) (ci := 1) (v := .ref lk2) (C := RX2) (T := TX2) (N := 8) hx hb hts inX2 hown hK hP 3 rfl rfl 6 (Nat.le_of_ble_eq_true rfl) (hts _ mw_433) (fun _ h9 => h9) rfl dX10_join_68 ?_
          refine va_get (D := (dC, dI)) (ci := 4) (v := .int (kd f0)) (C := RX5) (T := TX5) (N := 6) hx hb hts inX5 hown hK hP 4 rfl rfl 0 (Nat.le_of_ble_eq_true rfl) (hts _ mw_381) (fun _ h9 => h9) rfl dX10_join_71 ?_
          refine lv_bipush (v := 6) hx hb dX10_join_74 rfl ?_
          refine lv_icmp_ne (tgt := 92) hx hb dX10_join_76 rfl (fun c_8 => ?_) (fun c_8 => ?_)
          · have c_8 : ¬ (kd f0).toInt = 6 := zc_ne rfl rfl c_8
            obtain ⟨hP, hD⟩ := pl_bk (X := [_, _, _]) hT_3 hP rfl hc9_3 hD0_3 rfl
            refine lv_aload_n hx hb dX10_join_92 rfl (lv_at hl 2 rfl) ?_
            refine lv_iconst (v := 3) hx hb dX10_join_93 rfl ?_
            obtain ⟨hPc, hDc, hFc⟩ := zo_sub (wc := [_]) hP hD hS hA [0] rfl rfl
            refine zcall (st1 := [.int (-1)]) (va_runV (As := [.int 3]) (rest := []) ⟨hx, hb, hml, hown, hts⟩ (k_refuse_3 l dC dI cI cZ cF H.size x sh lw ro bq bp dq dp lv sl sd ul su ds ) (csV_95 hts rfl rfl ⟨Nat.le_of_ble_eq_true rfl, Nat.le_of_ble_eq_true rfl⟩) (zPV2 (q0 := 0) (ci := 8) hPc hDc hK hXN rfl rfl) rfl rfl hl.1 rfl (lv_room (Nat.le_of_ble_eq_true rfl)) dX10_join_94 ⟨Nat.le_of_ble_eq_true rfl, Nat.le_of_ble_eq_true rfl⟩) hS hFc hFc rfl (fun t H locs ht hB hk1 hS => ?_)
            obtain ⟨hP1, hD1⟩ := hB
            rw [ht] at hP1
            obtain ⟨hP, hD⟩ := znQ (W2 := [(oc8 x (.ref sh) (.ref lw) (.ref ro) (.ref bq) (.ref bp) (.ref dq) (.ref dp) (.ref lv) (.ref sl) ds sd ul 3), _, _]) hP hD hk1 hFc hP1 hD1 [0] [false, true, true] [false, true, true] [0] (by decide +kernel) rfl rfl rfl rfl rfl
            clear hk1 hPc hDc hFc hP1 hD1 ht
            obtain ⟨hP9, hD9⟩ := zu_part (cx := [_, _, _]) hP hD [true, true, true] rfl rfl
            rw [hQ9]
            exact W.iret (v := (-1)) hx hb hr (fun t ht hW => ⟨⟨rfl, ul, 3, by rw [ht]; exact hP9, hD9⟩, hS.F ht⟩) hS.2.2 dX10_join_97
          · have c_8 : (kd f0).toInt = 6 := zc_eq rfl rfl c_8
            obtain ⟨hP, hD⟩ := pl_bk (X := [_, _, _]) hT_3 hP rfl hc9_3 hD0_3 rfl
            have hc9_4 : inPl L f [(oc1 fe3 (rk g0) (wd g0) (tw g0) (pa g0) (pb g0) (.ref lo3) (.ref lk3) fm3), (oc4 lk3 (kd g0) (st g0) (.ref r3) (gb g0) (it g0) we3)] := ⟨hfe3, hlk3, trivial⟩
            have hD0_4 := hD
            obtain ⟨T_4, hT_4, hP, hD⟩ := pl_oT hP hD hc9_4 (pwF hfe3.2 hlk3.2)
            obtain ⟨hP, hD⟩ := zre (W2 := ([_, _, _, _, _] ++ va_pl T_4 f)) hP hD rfl
            refine lv_aload hx hb dX10_join_79 (lv_at hl 0 rfl) ?_
            refine va_get (D := (dC, dI)) (ci := 1) (v := .ref lk3) (C := RX2) (T := TX2) (N := 8) hx hb hts inX2 hown hK hP 3 rfl rfl 6 (Nat.le_of_ble_eq_true rfl) (hts _ mw_433) (fun _ h9 => h9) rfl dX10_join_81 ?_
            refine va_get (D := (dC, dI)) (ci := 4) (v := .int (kd g0)) (C := RX5) (T := TX5) (N := 6) hx hb hts inX5 hown hK hP 4 rfl rfl 0 (Nat.le_of_ble_eq_true rfl) (hts _ mw_381) (fun _ h9 => h9) rfl dX10_join_84 ?_
            refine lv_bipush (v := 6) hx hb dX10_join_87 rfl ?_
            refine lv_icmp_eq (tgt := 98) hx hb dX10_join_89 rfl (fun c_9 => ?_) (fun c_9 => ?_)
            · have c_9 : (kd g0).toInt = 6 := zc_eq rfl rfl c_9
              obtain ⟨hP, hD⟩ := pl_bk (X := [_, _, _]) hT_4 hP rfl hc9_4 hD0_4 rfl
              refine lv_iload_n hx hb dX10_join_98 rfl (lv_at hl 5 rfl) ?_
              refine lv_iconst (v := 0) hx hb dX10_join_99 rfl ?_
              refine lv_sipush (v := 1000) hx hb dX10_join_100 rfl ?_
              obtain ⟨hPc, hDc, hFc, hI1⟩ := zi_sub (wc := []) hP hD hS hA [] rfl rfl
              refine zcall (st1 := [.int (pI ((0 : Int32).toInt ≤ gp9.toInt ∧ gp9.toInt ≤ (1000 : Int32).toInt))]) (va_runS (As := [.int gp9, .int 0, .int 1000]) (rest := []) ⟨hx, hb, hml, hown, hts⟩ (k_isWithin l dC dI cI cZ cF H.size gp9 0 1000 ) (csS_14 hts rfl rfl ⟨Nat.le_of_ble_eq_true rfl, Nat.le_of_ble_eq_true rfl⟩) (zPS2 hPc hDc hK hXN) rfl rfl hl.1 rfl (lv_room (Nat.le_of_ble_eq_true rfl)) dX10_join_103 ⟨Nat.le_of_ble_eq_true rfl, Nat.le_of_ble_eq_true rfl⟩) hS hFc hFc rfl (fun t H locs ht hB hk1 hS => ?_)
              obtain ⟨hP1, hD1⟩ := hB
              rw [ht] at hP1
              replace hP := z0 hP hD hk1 hP1 hI1
              clear hk1 hPc hDc hFc hP1 hD1 ht hI1
              refine lv_if_ne (tgt := 115) hx hb dX10_join_106 rfl (fun c_10 => ?_) (fun c_10 => ?_)
              · have c_10 : (0 : Int32).toInt ≤ gp9.toInt ∧ gp9.toInt ≤ (1000 : Int32).toInt := zp_1 c_10
                have hc9_5 : inPl L f [(oc1 fe2 (rk f0) (wd f0) (tw f0) (pa f0) (pb f0) (.ref lo2) (.ref lk2) fm2), (oc4 lk2 (kd f0) (st f0) .null (gb f0) (it f0) we2)] := ⟨hfe2, hlk2, trivial⟩
                have hD0_5 := hD
                obtain ⟨T_5, hT_5, hP, hD⟩ := pl_oT hP hD hc9_5 (pwF hfe2.2 hlk2.2)
                obtain ⟨hP, hD⟩ := zre (W2 := ([_, _, _, _, _] ++ va_pl T_5 f)) hP hD rfl
                refine lv_aload hx hb dX10_join_115 (lv_at hl 1 rfl) ?_
                refine va_get (D := (dC, dI)) (ci := 1) (v := .ref lk2) (C := RX2) (T := TX2) (N := 8) hx hb hts inX2 hown hK hP 3 rfl rfl 6 (Nat.le_of_ble_eq_true rfl) (hts _ mw_433) (fun _ h9 => h9) rfl dX10_join_117 ?_
                refine va_get (D := (dC, dI)) (ci := 4) (v := .null) (C := RX5) (T := TX5) (N := 6) hx hb hts inX5 hown hK hP 4 rfl rfl 2 (Nat.le_of_ble_eq_true rfl) (hts _ mw_391) (fun _ h9 => h9) rfl dX10_join_120 ?_
                refine lv_astoreN (lv' := [(6, .null), (5, .ref fe3), (4, .ref fe2), (0, .ref x), (1, .int (nI f0)), (2, .int (nI g0)), (3, .int gp9)]) hx hb dX10_join_123 hl (Nat.le_of_ble_eq_true rfl) rfl (fun ls hl => ?_)
                obtain ⟨hP, hD⟩ := pl_bk (X := [_, _, _]) hT_5 hP rfl hc9_5 hD0_5 rfl
                have hc9_6 : inPl L f [(oc1 fe3 (rk g0) (wd g0) (tw g0) (pa g0) (pb g0) (.ref lo3) (.ref lk3) fm3), (oc4 lk3 (kd g0) (st g0) (.ref r3) (gb g0) (it g0) we3)] := ⟨hfe3, hlk3, trivial⟩
                have hD0_6 := hD
                obtain ⟨T_6, hT_6, hP, hD⟩ := pl_oT hP hD hc9_6 (pwF hfe3.2 hlk3.2)
                obtain ⟨hP, hD⟩ := zre (W2 := ([_, _, _, _, _] ++ va_pl T_6 f)) hP hD rfl
                refine lv_aload hx hb dX10_join_125 (lv_at hl 1 rfl) ?_
                refine va_get (D := (dC, dI)) (ci := 1) (v := .ref lk3) (C := RX2) (T := TX2) (N := 8) hx hb hts inX2 hown hK hP 3 rfl rfl 6 (Nat.le_of_ble_eq_true rfl) (hts _ mw_433) (fun _ h9 => h9) rfl dX10_join_127 ?_
                refine va_get (D := (dC, dI)) (ci := 4) (v := .ref r3) (C := RX5) (T := TX5) (N := 6) hx hb hts inX5 hown hK hP 4 rfl rfl 2 (Nat.le_of_ble_eq_true rfl) (hts _ mw_391) (fun _ h9 => h9) rfl dX10_join_130 ?_
                refine lv_astore (lv' := [(7, .ref r3), (6, .null), (5, .ref fe3), (4, .ref fe2), (0, .ref x), (1, .int (nI f0)), (2, .int (nI g0)), (3, .int gp9)]) hx hb dX10_join_133 hl (Nat.le_of_ble_eq_true rfl) rfl (fun ls hl => ?_)
                obtain ⟨hP, hD⟩ := pl_bk (X := [_, _, _]) hT_6 hP rfl hc9_6 hD0_6 rfl
                refine lv_aloadN hx hb dX10_join_135 (lv_at hl 1 rfl) ?_
                refine lv_ifnullN (tgt := 145) hx hb dX10_join_137 rfl ?_
                refine lv_aload_n hx hb dX10_join_145 rfl (lv_at hl 4 rfl) ?_
                refine lv_iconst (v := 5) hx hb dX10_join_146 rfl ?_
                obtain ⟨hPc, hDc, hFc⟩ := zo_sub (wc := [_]) hP hD hS hA [0] rfl rfl
                refine zcall (st1 := [.int (-1)]) (va_runV (As := [.int 5]) (rest := []) ⟨hx, hb, hml, hown, hts⟩ (k_refuse_5 l dC dI cI cZ cF H.size x sh lw ro bq bp dq dp lv sl sd ul su ds ) (csV_95 hts rfl rfl ⟨Nat.le_of_ble_eq_true rfl, Nat.le_of_ble_eq_true rfl⟩) (zPV2 (q0 := 0) (ci := 8) hPc hDc hK hXN rfl rfl) rfl rfl hl.1 rfl (lv_room (Nat.le_of_ble_eq_true rfl)) dX10_join_147 ⟨Nat.le_of_ble_eq_true rfl, Nat.le_of_ble_eq_true rfl⟩) hS hFc hFc rfl (fun t H locs ht hB hk1 hS => ?_)
                obtain ⟨hP1, hD1⟩ := hB
                rw [ht] at hP1
                obtain ⟨hP, hD⟩ := znQ (W2 := [(oc8 x (.ref sh) (.ref lw) (.ref ro) (.ref bq) (.ref bp) (.ref dq) (.ref dp) (.ref lv) (.ref sl) ds sd ul 5), _, _]) hP hD hk1 hFc hP1 hD1 [0] [false, true, true] [false, true, true] [0] (by decide +kernel) rfl rfl rfl rfl rfl
                clear hk1 hPc hDc hFc hP1 hD1 ht
                obtain ⟨hP9, hD9⟩ := zu_part (cx := [_, _, _]) hP hD [true, true, true] rfl rfl
                rw [hQ9]
                exact W.iret (v := (-1)) hx hb hr (fun t ht hW => ⟨⟨rfl, ul, 5, by rw [ht]; exact hP9, hD9⟩, hS.F ht⟩) hS.2.2 dX10_join_150
              · have c_10 : ¬ ((0 : Int32).toInt ≤ gp9.toInt ∧ gp9.toInt ≤ (1000 : Int32).toInt) := zp_0 c_10
                refine lv_aload_n hx hb dX10_join_109 rfl (lv_at hl 2 rfl) ?_
                refine lv_iconst (v := 4) hx hb dX10_join_110 rfl ?_
                obtain ⟨hPc, hDc, hFc⟩ := zo_sub (wc := [_]) hP hD hS hA [0] rfl rfl
                refine zcall (st1 := [.int (-1)]) (va_runV (As := [.int 4]) (rest := []) ⟨hx, hb, hml, hown, hts⟩ (k_refuse_4 l dC dI cI cZ cF H.size x sh lw ro bq bp dq dp lv sl sd ul su ds ) (csV_95 hts rfl rfl ⟨Nat.le_of_ble_eq_true rfl, Nat.le_of_ble_eq_true rfl⟩) (zPV2 (q0 := 0) (ci := 8) hPc hDc hK hXN rfl rfl) rfl rfl hl.1 rfl (lv_room (Nat.le_of_ble_eq_true rfl)) dX10_join_111 ⟨Nat.le_of_ble_eq_true rfl, Nat.le_of_ble_eq_true rfl⟩) hS hFc hFc rfl (fun t H locs ht hB hk1 hS => ?_)
                obtain ⟨hP1, hD1⟩ := hB
                rw [ht] at hP1
                obtain ⟨hP, hD⟩ := znQ (W2 := [(oc8 x (.ref sh) (.ref lw) (.ref ro) (.ref bq) (.ref bp) (.ref dq) (.ref dp) (.ref lv) (.ref sl) ds sd ul 4), _, _]) hP hD hk1 hFc hP1 hD1 [0] [false, true, true] [false, true, true] [0] (by decide +kernel) rfl rfl rfl rfl rfl
                clear hk1 hPc hDc hFc hP1 hD1 ht
                obtain ⟨hP9, hD9⟩ := zu_part (cx := [_, _, _]) hP hD [true, true, true] rfl rfl
                rw [hQ9]
                exact W.iret (v := (-1)) hx hb hr (fun t ht hW => ⟨⟨rfl, ul, 4, by rw [ht]; exact hP9, hD9⟩, hS.F ht⟩) hS.2.2 dX10_join_114
            · have c_9 : ¬ (kd g0).toInt = 6 := zc_ne rfl rfl c_9
              obtain ⟨hP, hD⟩ := pl_bk (X := [_, _, _]) hT_4 hP rfl hc9_4 hD0_4 rfl
              refine lv_aload_n hx hb dX10_join_92 rfl (lv_at hl 2 rfl) ?_
              refine lv_iconst (v := 3) hx hb dX10_join_93 rfl ?_
              obtain ⟨hPc, hDc, hFc⟩ := zo_sub (wc := [_]) hP hD hS hA [0] rfl rfl
              refine zcall (st1 := [.int (-1)]) (va_runV (As := [.int 3]) (rest := []) ⟨hx, hb, hml, hown, hts⟩ (k_refuse_3 l dC dI cI cZ cF H.size x sh lw ro bq bp dq dp lv sl sd ul su ds ) (csV_95 hts rfl rfl ⟨Nat.le_of_ble_eq_true rfl, Nat.le_of_ble_eq_true rfl⟩) (zPV2 (q0 := 0) (ci := 8) hPc hDc hK hXN rfl rfl) rfl rfl hl.1 rfl (lv_room (Nat.le_of_ble_eq_true rfl)) dX10_join_94 ⟨Nat.le_of_ble_eq_true rfl, Nat.le_of_ble_eq_true rfl⟩) hS hFc hFc rfl (fun t H locs ht hB hk1 hS => ?_)
              obtain ⟨hP1, hD1⟩ := hB
              rw [ht] at hP1
              obtain ⟨hP, hD⟩ := znQ (W2 := [(oc8 x (.ref sh) (.ref lw) (.ref ro) (.ref bq) (.ref bp) (.ref dq) (.ref dp) (.ref lv) (.ref sl) ds sd ul 3), _, _]) hP hD hk1 hFc hP1 hD1 [0] [false, true, true] [false, true, true] [0] (by decide +kernel) rfl rfl rfl rfl rfl
              clear hk1 hPc hDc hFc hP1 hD1 ht
              obtain ⟨hP9, hD9⟩ := zu_part (cx := [_, _, _]) hP hD [true, true, true] rfl rfl
              rw [hQ9]
              exact W.iret (v := (-1)) hx hb hr (fun t ht hW => ⟨⟨rfl, ul, 3, by rw [ht]; exact hP9, hD9⟩, hS.F ht⟩) hS.2.2 dX10_join_97
        · have c_7 : ¬ (st g0).toInt = 1 := zc_ne rfl rfl c_7
          obtain ⟨hP, hD⟩ := pl_bk (X := [_, _, _]) hT_2 hP rfl hc9_2 hD0_2 rfl
          refine lv_aload_n hx hb dX10_join_60 rfl (lv_at hl 2 rfl) ?_
          refine lv_iconst (v := 2) hx hb dX10_join_61 rfl ?_
          obtain ⟨hPc, hDc, hFc⟩ := zo_sub (wc := [_]) hP hD hS hA [0] rfl rfl
          refine zcall (st1 := [.int (-1)]) (va_runV (As := [.int 2]) (rest := []) ⟨hx, hb, hml, hown, hts⟩ (k_refuse_2 l dC dI cI cZ cF H.size x sh lw ro bq bp dq dp lv sl sd ul su ds ) (csV_95 hts rfl rfl ⟨Nat.le_of_ble_eq_true rfl, Nat.le_of_ble_eq_true rfl⟩) (zPV2 (q0 := 0) (ci := 8) hPc hDc hK hXN rfl rfl) rfl rfl hl.1 rfl (lv_room (Nat.le_of_ble_eq_true rfl)) dX10_join_62 ⟨Nat.le_of_ble_eq_true rfl, Nat.le_of_ble_eq_true rfl⟩) hS hFc hFc rfl (fun t H locs ht hB hk1 hS => ?_)
          obtain ⟨hP1, hD1⟩ := hB
          rw [ht] at hP1
          obtain ⟨hP, hD⟩ := znQ (W2 := [(oc8 x (.ref sh) (.ref lw) (.ref ro) (.ref bq) (.ref bp) (.ref dq) (.ref dp) (.ref lv) (.ref sl) ds sd ul 2), _, _]) hP hD hk1 hFc hP1 hD1 [0] [false, true, true] [false, true, true] [0] (by decide +kernel) rfl rfl rfl rfl rfl
          clear hk1 hPc hDc hFc hP1 hD1 ht
          obtain ⟨hP9, hD9⟩ := zu_part (cx := [_, _, _]) hP hD [true, true, true] rfl rfl
          rw [hQ9]
          exact W.iret (v := (-1)) hx hb hr (fun t ht hW => ⟨⟨rfl, ul, 2, by rw [ht]; exact hP9, hD9⟩, hS.F ht⟩) hS.2.2 dX10_join_65
  · skip
    refine lv_aload_n hx hb dX10_join_0 rfl (lv_at hl 0 rfl) ?_
    refine va_get (D := (dC, dI)) (ci := 8) (v := .ref sh) (C := RX10) (T := TX10) (N := 13) hx hb hts inX10 hown hK hP 0 rfl rfl 0 (Nat.le_of_ble_eq_true rfl) (hts _ mw_309) (fun _ h9 => h9) rfl dX10_join_1 ?_
    refine lv_iload_n hx hb dX10_join_4 rfl (lv_at hl 1 rfl) ?_
    obtain ⟨hPc, hDc, hFc, hI1⟩ := zi_sub (wc := [_, _]) hP hD hS hA [1, 2] rfl rfl
    refine zcall (st1 := [.ref fe2]) (va_runV (As := [.int (nI f0)]) (rest := []) ⟨hx, hb, hml, hown, hts⟩ (k_Sheet_find l dC dI cI cZ cF s.heap.size sh fa ft FA f0 fe2 (by first | with_reducible assumption | omega) (by first | with_reducible assumption | omega) (hFA2)) (csV_94 hts rfl rfl ⟨Nat.le_of_ble_eq_true rfl, Nat.le_of_ble_eq_true rfl⟩) (zPV2 (q0 := 0) (ci := 7) hPc hDc hK hXN rfl rfl) rfl rfl hl.1 rfl (lv_room (Nat.le_of_ble_eq_true rfl)) dX10_join_5 ⟨Nat.le_of_ble_eq_true rfl, Nat.le_of_ble_eq_true rfl⟩) hS hFc hFc rfl (fun t H locs ht hB hk1 hS => ?_)
    obtain ⟨hP1, hD1⟩ := hB
    rw [ht] at hP1
    replace hP := z0 hP hD hk1 hP1 hI1
    clear hk1 hPc hDc hFc hP1 hD1 ht hI1
    refine lv_astore (lv' := [(4, .ref fe2), (0, .ref x), (1, .int (nI f0)), (2, .int (nI g0)), (3, .int gp9)]) hx hb dX10_join_8 hl (Nat.le_of_ble_eq_true rfl) rfl (fun ls hl => ?_)
    rcases vwA_2 (hva g0 (by omega)) with ⟨ht3, fe3, lk3, lo3, we3, fm3, hFA3, hfe3, hlk3⟩ | ⟨ht3, fe3, lk3, lo3, we3, fm3, r3, rx3, ry3, cap3, U3, V3, rg3, hFA3, hfe3, hlk3, ⟨hr3, hrx3, hry3, hne3⟩, hrr3⟩
    · skip
      refine lv_aload_n hx hb dX10_join_10 rfl (lv_at hl 1 rfl) ?_
      refine va_get (D := (dC, dI)) (ci := 8) (v := .ref sh) (C := RX10) (T := TX10) (N := 13) hx hb hts inX10 hown hK hP 0 rfl rfl 0 (Nat.le_of_ble_eq_true rfl) (hts _ mw_309) (fun _ h9 => h9) rfl dX10_join_11 ?_
      refine lv_iload_n hx hb dX10_join_14 rfl (lv_at hl 3 rfl) ?_
      obtain ⟨hPc, hDc, hFc, hI1⟩ := zi_sub (wc := [_, _]) hP hD hS hA [1, 2] rfl rfl
      refine zcall (st1 := [.ref fe3]) (va_runV (As := [.int (nI g0)]) (rest := []) ⟨hx, hb, hml, hown, hts⟩ (k_Sheet_find l dC dI cI cZ cF H.size sh fa ft FA g0 fe3 (by first | with_reducible assumption | omega) (by first | with_reducible assumption | omega) (hFA3)) (csV_94 hts rfl rfl ⟨Nat.le_of_ble_eq_true rfl, Nat.le_of_ble_eq_true rfl⟩) (zPV2 (q0 := 0) (ci := 7) hPc hDc hK hXN rfl rfl) rfl rfl hl.1 rfl (lv_room (Nat.le_of_ble_eq_true rfl)) dX10_join_15 ⟨Nat.le_of_ble_eq_true rfl, Nat.le_of_ble_eq_true rfl⟩) hS hFc hFc rfl (fun t H locs ht hB hk1 hS => ?_)
      obtain ⟨hP1, hD1⟩ := hB
      rw [ht] at hP1
      replace hP := z0 hP hD hk1 hP1 hI1
      clear hk1 hPc hDc hFc hP1 hD1 ht hI1
      refine lv_astore (lv' := [(5, .ref fe3), (4, .ref fe2), (0, .ref x), (1, .int (nI f0)), (2, .int (nI g0)), (3, .int gp9)]) hx hb dX10_join_18 hl (Nat.le_of_ble_eq_true rfl) rfl (fun ls hl => ?_)
      refine lv_aload hx hb dX10_join_20 (lv_at hl 1 rfl) ?_
      refine lv_ifnull hx hb dX10_join_22 ?_
      refine lv_aload hx hb dX10_join_25 (lv_at hl 0 rfl) ?_
      refine lv_ifnonnull (tgt := 36) hx hb dX10_join_27 rfl ?_
      have hc9_1 : inPl L f [(oc1 fe2 (rk f0) (wd f0) (tw f0) (pa f0) (pb f0) (.ref lo2) (.ref lk2) fm2), (oc4 lk2 (kd f0) (st f0) (.ref r2) (gb f0) (it f0) we2)] := ⟨hfe2, hlk2, trivial⟩
      have hD0_1 := hD
      obtain ⟨T_1, hT_1, hP, hD⟩ := pl_oT hP hD hc9_1 (pwF hfe2.2 hlk2.2)
      obtain ⟨hP, hD⟩ := zre (W2 := ([_, _, _, _, _] ++ va_pl T_1 f)) hP hD rfl
      refine lv_aload hx hb dX10_join_36 (lv_at hl 1 rfl) ?_
      refine va_get (D := (dC, dI)) (ci := 1) (v := .ref lk2) (C := RX2) (T := TX2) (N := 8) hx hb hts inX2 hown hK hP 3 rfl rfl 6 (Nat.le_of_ble_eq_true rfl) (hts _ mw_433) (fun _ h9 => h9) rfl dX10_join_38 ?_
      refine va_get (D := (dC, dI)) (ci := 4) (v := .int (st f0)) (C := RX5) (T := TX5) (N := 6) hx hb hts inX5 hown hK hP 4 rfl rfl 1 (Nat.le_of_ble_eq_true rfl) (hts _ mw_385) (fun _ h9 => h9) rfl dX10_join_41 ?_
      refine lv_iconst (v := 1) hx hb dX10_join_44 rfl ?_
      refine lv_icmp_ne (tgt := 60) hx hb dX10_join_45 rfl (fun c_11 => ?_) (fun c_11 => ?_)
      · have c_11 : ¬ (st f0).toInt = 1 := zc_ne rfl rfl c_11
        obtain ⟨hP, hD⟩ := pl_bk (X := [_, _, _]) hT_1 hP rfl hc9_1 hD0_1 rfl
        refine lv_aload_n hx hb dX10_join_60 rfl (lv_at hl 2 rfl) ?_
        refine lv_iconst (v := 2) hx hb dX10_join_61 rfl ?_
        obtain ⟨hPc, hDc, hFc⟩ := zo_sub (wc := [_]) hP hD hS hA [0] rfl rfl
        refine zcall (st1 := [.int (-1)]) (va_runV (As := [.int 2]) (rest := []) ⟨hx, hb, hml, hown, hts⟩ (k_refuse_2 l dC dI cI cZ cF H.size x sh lw ro bq bp dq dp lv sl sd ul su ds ) (csV_95 hts rfl rfl ⟨Nat.le_of_ble_eq_true rfl, Nat.le_of_ble_eq_true rfl⟩) (zPV2 (q0 := 0) (ci := 8) hPc hDc hK hXN rfl rfl) rfl rfl hl.1 rfl (lv_room (Nat.le_of_ble_eq_true rfl)) dX10_join_62 ⟨Nat.le_of_ble_eq_true rfl, Nat.le_of_ble_eq_true rfl⟩) hS hFc hFc rfl (fun t H locs ht hB hk1 hS => ?_)
        obtain ⟨hP1, hD1⟩ := hB
        rw [ht] at hP1
        obtain ⟨hP, hD⟩ := znQ (W2 := [(oc8 x (.ref sh) (.ref lw) (.ref ro) (.ref bq) (.ref bp) (.ref dq) (.ref dp) (.ref lv) (.ref sl) ds sd ul 2), _, _]) hP hD hk1 hFc hP1 hD1 [0] [false, true, true] [false, true, true] [0] (by decide +kernel) rfl rfl rfl rfl rfl
        clear hk1 hPc hDc hFc hP1 hD1 ht
        obtain ⟨hP9, hD9⟩ := zu_part (cx := [_, _, _]) hP hD [true, true, true] rfl rfl
        rw [hQ9]
        exact W.iret (v := (-1)) hx hb hr (fun t ht hW => ⟨⟨rfl, ul, 2, by rw [ht]; exact hP9, hD9⟩, hS.F ht⟩) hS.2.2 dX10_join_65
      · have c_11 : (st f0).toInt = 1 := zc_eq rfl rfl c_11
        obtain ⟨hP, hD⟩ := pl_bk (X := [_, _, _]) hT_1 hP rfl hc9_1 hD0_1 rfl
        have hc9_2 : inPl L f [(oc1 fe3 (rk g0) (wd g0) (tw g0) (pa g0) (pb g0) (.ref lo3) (.ref lk3) fm3), (oc4 lk3 (kd g0) (st g0) .null (gb g0) (it g0) we3)] := ⟨hfe3, hlk3, trivial⟩
        have hD0_2 := hD
        obtain ⟨T_2, hT_2, hP, hD⟩ := pl_oT hP hD hc9_2 (pwF hfe3.2 hlk3.2)
        obtain ⟨hP, hD⟩ := zre (W2 := ([_, _, _, _, _] ++ va_pl T_2 f)) hP hD rfl
        refine lv_aload hx hb dX10_join_48 (lv_at hl 0 rfl) ?_
        refine va_get (D := (dC, dI)) (ci := 1) (v := .ref lk3) (C := RX2) (T := TX2) (N := 8) hx hb hts inX2 hown hK hP 3 rfl rfl 6 (Nat.le_of_ble_eq_true rfl) (hts _ mw_433) (fun _ h9 => h9) rfl dX10_join_50 ?_
        refine va_get (D := (dC, dI)) (ci := 4) (v := .int (st g0)) (C := RX5) (T := TX5) (N := 6) hx hb hts inX5 hown hK hP 4 rfl rfl 1 (Nat.le_of_ble_eq_true rfl) (hts _ mw_385) (fun _ h9 => h9) rfl dX10_join_53 ?_
        refine lv_iconst (v := 1) hx hb dX10_join_56 rfl ?_
        refine lv_icmp_eq (tgt := 66) hx hb dX10_join_57 rfl (fun c_12 => ?_) (fun c_12 => ?_)
        · have c_12 : (st g0).toInt = 1 := zc_eq rfl rfl c_12
          obtain ⟨hP, hD⟩ := pl_bk (X := [_, _, _]) hT_2 hP rfl hc9_2 hD0_2 rfl
          have hc9_3 : inPl L f [(oc1 fe2 (rk f0) (wd f0) (tw f0) (pa f0) (pb f0) (.ref lo2) (.ref lk2) fm2), (oc4 lk2 (kd f0) (st f0) (.ref r2) (gb f0) (it f0) we2)] := ⟨hfe2, hlk2, trivial⟩
          have hD0_3 := hD
          obtain ⟨T_3, hT_3, hP, hD⟩ := pl_oT hP hD hc9_3 (pwF hfe2.2 hlk2.2)
          obtain ⟨hP, hD⟩ := zre (W2 := ([_, _, _, _, _] ++ va_pl T_3 f)) hP hD rfl
          refine lv_aload hx hb dX10_join_66 (lv_at hl 1 rfl) ?_
          refine va_get (D := (dC, dI)) (ci := 1) (v := .ref lk2) (C := RX2) (T := TX2) (N := 8) hx hb hts inX2 hown hK hP 3 rfl rfl 6 (Nat.le_of_ble_eq_true rfl) (hts _ mw_433) (fun _ h9 => h9) rfl dX10_join_68 ?_
          refine va_get (D := (dC, dI)) (ci := 4) (v := .int (kd f0)) (C := RX5) (T := TX5) (N := 6) hx hb hts inX5 hown hK hP 4 rfl rfl 0 (Nat.le_of_ble_eq_true rfl) (hts _ mw_381) (fun _ h9 => h9) rfl dX10_join_71 ?_
          refine lv_bipush (v := 6) hx hb dX10_join_74 rfl ?_
          refine lv_icmp_ne (tgt := 92) hx hb dX10_join_76 rfl (fun c_13 => ?_) (fun c_13 => ?_)
          · have c_13 : ¬ (kd f0).toInt = 6 := zc_ne rfl rfl c_13
            obtain ⟨hP, hD⟩ := pl_bk (X := [_, _, _]) hT_3 hP rfl hc9_3 hD0_3 rfl
            refine lv_aload_n hx hb dX10_join_92 rfl (lv_at hl 2 rfl) ?_
            refine lv_iconst (v := 3) hx hb dX10_join_93 rfl ?_
            obtain ⟨hPc, hDc, hFc⟩ := zo_sub (wc := [_]) hP hD hS hA [0] rfl rfl
            refine zcall (st1 := [.int (-1)]) (va_runV (As := [.int 3]) (rest := []) ⟨hx, hb, hml, hown, hts⟩ (k_refuse_3 l dC dI cI cZ cF H.size x sh lw ro bq bp dq dp lv sl sd ul su ds ) (csV_95 hts rfl rfl ⟨Nat.le_of_ble_eq_true rfl, Nat.le_of_ble_eq_true rfl⟩) (zPV2 (q0 := 0) (ci := 8) hPc hDc hK hXN rfl rfl) rfl rfl hl.1 rfl (lv_room (Nat.le_of_ble_eq_true rfl)) dX10_join_94 ⟨Nat.le_of_ble_eq_true rfl, Nat.le_of_ble_eq_true rfl⟩) hS hFc hFc rfl (fun t H locs ht hB hk1 hS => ?_)
            obtain ⟨hP1, hD1⟩ := hB
            rw [ht] at hP1
            obtain ⟨hP, hD⟩ := znQ (W2 := [(oc8 x (.ref sh) (.ref lw) (.ref ro) (.ref bq) (.ref bp) (.ref dq) (.ref dp) (.ref lv) (.ref sl) ds sd ul 3), _, _]) hP hD hk1 hFc hP1 hD1 [0] [false, true, true] [false, true, true] [0] (by decide +kernel) rfl rfl rfl rfl rfl
            clear hk1 hPc hDc hFc hP1 hD1 ht
            obtain ⟨hP9, hD9⟩ := zu_part (cx := [_, _, _]) hP hD [true, true, true] rfl rfl
            rw [hQ9]
            exact W.iret (v := (-1)) hx hb hr (fun t ht hW => ⟨⟨rfl, ul, 3, by rw [ht]; exact hP9, hD9⟩, hS.F ht⟩) hS.2.2 dX10_join_97
          · have c_13 : (kd f0).toInt = 6 := zc_eq rfl rfl c_13
            obtain ⟨hP, hD⟩ := pl_bk (X := [_, _, _]) hT_3 hP rfl hc9_3 hD0_3 rfl
            have hc9_4 : inPl L f [(oc1 fe3 (rk g0) (wd g0) (tw g0) (pa g0) (pb g0) (.ref lo3) (.ref lk3) fm3), (oc4 lk3 (kd g0) (st g0) .null (gb g0) (it g0) we3)] := ⟨hfe3, hlk3, trivial⟩
            have hD0_4 := hD
            obtain ⟨T_4, hT_4, hP, hD⟩ := pl_oT hP hD hc9_4 (pwF hfe3.2 hlk3.2)
            obtain ⟨hP, hD⟩ := zre (W2 := ([_, _, _, _, _] ++ va_pl T_4 f)) hP hD rfl
            refine lv_aload hx hb dX10_join_79 (lv_at hl 0 rfl) ?_
            refine va_get (D := (dC, dI)) (ci := 1) (v := .ref lk3) (C := RX2) (T := TX2) (N := 8) hx hb hts inX2 hown hK hP 3 rfl rfl 6 (Nat.le_of_ble_eq_true rfl) (hts _ mw_433) (fun _ h9 => h9) rfl dX10_join_81 ?_
            refine va_get (D := (dC, dI)) (ci := 4) (v := .int (kd g0)) (C := RX5) (T := TX5) (N := 6) hx hb hts inX5 hown hK hP 4 rfl rfl 0 (Nat.le_of_ble_eq_true rfl) (hts _ mw_381) (fun _ h9 => h9) rfl dX10_join_84 ?_
            refine lv_bipush (v := 6) hx hb dX10_join_87 rfl ?_
            refine lv_icmp_eq (tgt := 98) hx hb dX10_join_89 rfl (fun c_14 => ?_) (fun c_14 => ?_)
            · have c_14 : (kd g0).toInt = 6 := zc_eq rfl rfl c_14
              obtain ⟨hP, hD⟩ := pl_bk (X := [_, _, _]) hT_4 hP rfl hc9_4 hD0_4 rfl
              refine lv_iload_n hx hb dX10_join_98 rfl (lv_at hl 5 rfl) ?_
              refine lv_iconst (v := 0) hx hb dX10_join_99 rfl ?_
              refine lv_sipush (v := 1000) hx hb dX10_join_100 rfl ?_
              obtain ⟨hPc, hDc, hFc, hI1⟩ := zi_sub (wc := []) hP hD hS hA [] rfl rfl
              refine zcall (st1 := [.int (pI ((0 : Int32).toInt ≤ gp9.toInt ∧ gp9.toInt ≤ (1000 : Int32).toInt))]) (va_runS (As := [.int gp9, .int 0, .int 1000]) (rest := []) ⟨hx, hb, hml, hown, hts⟩ (k_isWithin l dC dI cI cZ cF H.size gp9 0 1000 ) (csS_14 hts rfl rfl ⟨Nat.le_of_ble_eq_true rfl, Nat.le_of_ble_eq_true rfl⟩) (zPS2 hPc hDc hK hXN) rfl rfl hl.1 rfl (lv_room (Nat.le_of_ble_eq_true rfl)) dX10_join_103 ⟨Nat.le_of_ble_eq_true rfl, Nat.le_of_ble_eq_true rfl⟩) hS hFc hFc rfl (fun t H locs ht hB hk1 hS => ?_)
              obtain ⟨hP1, hD1⟩ := hB
              rw [ht] at hP1
              replace hP := z0 hP hD hk1 hP1 hI1
              clear hk1 hPc hDc hFc hP1 hD1 ht hI1
              refine lv_if_ne (tgt := 115) hx hb dX10_join_106 rfl (fun c_15 => ?_) (fun c_15 => ?_)
              · have c_15 : (0 : Int32).toInt ≤ gp9.toInt ∧ gp9.toInt ≤ (1000 : Int32).toInt := zp_1 c_15
                have hc9_5 : inPl L f [(oc1 fe2 (rk f0) (wd f0) (tw f0) (pa f0) (pb f0) (.ref lo2) (.ref lk2) fm2), (oc4 lk2 (kd f0) (st f0) (.ref r2) (gb f0) (it f0) we2)] := ⟨hfe2, hlk2, trivial⟩
                have hD0_5 := hD
                obtain ⟨T_5, hT_5, hP, hD⟩ := pl_oT hP hD hc9_5 (pwF hfe2.2 hlk2.2)
                obtain ⟨hP, hD⟩ := zre (W2 := ([_, _, _, _, _] ++ va_pl T_5 f)) hP hD rfl
                refine lv_aload hx hb dX10_join_115 (lv_at hl 1 rfl) ?_
                refine va_get (D := (dC, dI)) (ci := 1) (v := .ref lk2) (C := RX2) (T := TX2) (N := 8) hx hb hts inX2 hown hK hP 3 rfl rfl 6 (Nat.le_of_ble_eq_true rfl) (hts _ mw_433) (fun _ h9 => h9) rfl dX10_join_117 ?_
                refine va_get (D := (dC, dI)) (ci := 4) (v := .ref r2) (C := RX5) (T := TX5) (N := 6) hx hb hts inX5 hown hK hP 4 rfl rfl 2 (Nat.le_of_ble_eq_true rfl) (hts _ mw_391) (fun _ h9 => h9) rfl dX10_join_120 ?_
                refine lv_astore (lv' := [(6, .ref r2), (5, .ref fe3), (4, .ref fe2), (0, .ref x), (1, .int (nI f0)), (2, .int (nI g0)), (3, .int gp9)]) hx hb dX10_join_123 hl (Nat.le_of_ble_eq_true rfl) rfl (fun ls hl => ?_)
                obtain ⟨hP, hD⟩ := pl_bk (X := [_, _, _]) hT_5 hP rfl hc9_5 hD0_5 rfl
                have hc9_6 : inPl L f [(oc1 fe3 (rk g0) (wd g0) (tw g0) (pa g0) (pb g0) (.ref lo3) (.ref lk3) fm3), (oc4 lk3 (kd g0) (st g0) .null (gb g0) (it g0) we3)] := ⟨hfe3, hlk3, trivial⟩
                have hD0_6 := hD
                obtain ⟨T_6, hT_6, hP, hD⟩ := pl_oT hP hD hc9_6 (pwF hfe3.2 hlk3.2)
                obtain ⟨hP, hD⟩ := zre (W2 := ([_, _, _, _, _] ++ va_pl T_6 f)) hP hD rfl
                refine lv_aload hx hb dX10_join_125 (lv_at hl 1 rfl) ?_
                refine va_get (D := (dC, dI)) (ci := 1) (v := .ref lk3) (C := RX2) (T := TX2) (N := 8) hx hb hts inX2 hown hK hP 3 rfl rfl 6 (Nat.le_of_ble_eq_true rfl) (hts _ mw_433) (fun _ h9 => h9) rfl dX10_join_127 ?_
                refine va_get (D := (dC, dI)) (ci := 4) (v := .null) (C := RX5) (T := TX5) (N := 6) hx hb hts inX5 hown hK hP 4 rfl rfl 2 (Nat.le_of_ble_eq_true rfl) (hts _ mw_391) (fun _ h9 => h9) rfl dX10_join_130 ?_
                refine lv_astoreN (lv' := [(7, .null), (6, .ref r2), (5, .ref fe3), (4, .ref fe2), (0, .ref x), (1, .int (nI f0)), (2, .int (nI g0)), (3, .int gp9)]) hx hb dX10_join_133 hl (Nat.le_of_ble_eq_true rfl) rfl (fun ls hl => ?_)
                obtain ⟨hP, hD⟩ := pl_bk (X := [_, _, _]) hT_6 hP rfl hc9_6 hD0_6 rfl
                refine lv_aload hx hb dX10_join_135 (lv_at hl 1 rfl) ?_
                refine lv_ifnull hx hb dX10_join_137 ?_
                refine lv_aloadN hx hb dX10_join_140 (lv_at hl 0 rfl) ?_
                refine lv_ifnonnullN hx hb dX10_join_142 ?_
                refine lv_aload_n hx hb dX10_join_145 rfl (lv_at hl 4 rfl) ?_
                refine lv_iconst (v := 5) hx hb dX10_join_146 rfl ?_
                obtain ⟨hPc, hDc, hFc⟩ := zo_sub (wc := [_]) hP hD hS hA [0] rfl rfl
                refine zcall (st1 := [.int (-1)]) (va_runV (As := [.int 5]) (rest := []) ⟨hx, hb, hml, hown, hts⟩ (k_refuse_5 l dC dI cI cZ cF H.size x sh lw ro bq bp dq dp lv sl sd ul su ds ) (csV_95 hts rfl rfl ⟨Nat.le_of_ble_eq_true rfl, Nat.le_of_ble_eq_true rfl⟩) (zPV2 (q0 := 0) (ci := 8) hPc hDc hK hXN rfl rfl) rfl rfl hl.1 rfl (lv_room (Nat.le_of_ble_eq_true rfl)) dX10_join_147 ⟨Nat.le_of_ble_eq_true rfl, Nat.le_of_ble_eq_true rfl⟩) hS hFc hFc rfl (fun t H locs ht hB hk1 hS => ?_)
                obtain ⟨hP1, hD1⟩ := hB
                rw [ht] at hP1
                obtain ⟨hP, hD⟩ := znQ (W2 := [(oc8 x (.ref sh) (.ref lw) (.ref ro) (.ref bq) (.ref bp) (.ref dq) (.ref dp) (.ref lv) (.ref sl) ds sd ul 5), _, _]) hP hD hk1 hFc hP1 hD1 [0] [false, true, true] [false, true, true] [0] (by decide +kernel) rfl rfl rfl rfl rfl
                clear hk1 hPc hDc hFc hP1 hD1 ht
                obtain ⟨hP9, hD9⟩ := zu_part (cx := [_, _, _]) hP hD [true, true, true] rfl rfl
                rw [hQ9]
                exact W.iret (v := (-1)) hx hb hr (fun t ht hW => ⟨⟨rfl, ul, 5, by rw [ht]; exact hP9, hD9⟩, hS.F ht⟩) hS.2.2 dX10_join_150
              · have c_15 : ¬ ((0 : Int32).toInt ≤ gp9.toInt ∧ gp9.toInt ≤ (1000 : Int32).toInt) := zp_0 c_15
                refine lv_aload_n hx hb dX10_join_109 rfl (lv_at hl 2 rfl) ?_
                refine lv_iconst (v := 4) hx hb dX10_join_110 rfl ?_
                obtain ⟨hPc, hDc, hFc⟩ := zo_sub (wc := [_]) hP hD hS hA [0] rfl rfl
                refine zcall (st1 := [.int (-1)]) (va_runV (As := [.int 4]) (rest := []) ⟨hx, hb, hml, hown, hts⟩ (k_refuse_4 l dC dI cI cZ cF H.size x sh lw ro bq bp dq dp lv sl sd ul su ds ) (csV_95 hts rfl rfl ⟨Nat.le_of_ble_eq_true rfl, Nat.le_of_ble_eq_true rfl⟩) (zPV2 (q0 := 0) (ci := 8) hPc hDc hK hXN rfl rfl) rfl rfl hl.1 rfl (lv_room (Nat.le_of_ble_eq_true rfl)) dX10_join_111 ⟨Nat.le_of_ble_eq_true rfl, Nat.le_of_ble_eq_true rfl⟩) hS hFc hFc rfl (fun t H locs ht hB hk1 hS => ?_)
                obtain ⟨hP1, hD1⟩ := hB
                rw [ht] at hP1
                obtain ⟨hP, hD⟩ := znQ (W2 := [(oc8 x (.ref sh) (.ref lw) (.ref ro) (.ref bq) (.ref bp) (.ref dq) (.ref dp) (.ref lv) (.ref sl) ds sd ul 4), _, _]) hP hD hk1 hFc hP1 hD1 [0] [false, true, true] [false, true, true] [0] (by decide +kernel) rfl rfl rfl rfl rfl
                clear hk1 hPc hDc hFc hP1 hD1 ht
                obtain ⟨hP9, hD9⟩ := zu_part (cx := [_, _, _]) hP hD [true, true, true] rfl rfl
                rw [hQ9]
                exact W.iret (v := (-1)) hx hb hr (fun t ht hW => ⟨⟨rfl, ul, 4, by rw [ht]; exact hP9, hD9⟩, hS.F ht⟩) hS.2.2 dX10_join_114
            · have c_14 : ¬ (kd g0).toInt = 6 := zc_ne rfl rfl c_14
              obtain ⟨hP, hD⟩ := pl_bk (X := [_, _, _]) hT_4 hP rfl hc9_4 hD0_4 rfl
              refine lv_aload_n hx hb dX10_join_92 rfl (lv_at hl 2 rfl) ?_
              refine lv_iconst (v := 3) hx hb dX10_join_93 rfl ?_
              obtain ⟨hPc, hDc, hFc⟩ := zo_sub (wc := [_]) hP hD hS hA [0] rfl rfl
              refine zcall (st1 := [.int (-1)]) (va_runV (As := [.int 3]) (rest := []) ⟨hx, hb, hml, hown, hts⟩ (k_refuse_3 l dC dI cI cZ cF H.size x sh lw ro bq bp dq dp lv sl sd ul su ds ) (csV_95 hts rfl rfl ⟨Nat.le_of_ble_eq_true rfl, Nat.le_of_ble_eq_true rfl⟩) (zPV2 (q0 := 0) (ci := 8) hPc hDc hK hXN rfl rfl) rfl rfl hl.1 rfl (lv_room (Nat.le_of_ble_eq_true rfl)) dX10_join_94 ⟨Nat.le_of_ble_eq_true rfl, Nat.le_of_ble_eq_true rfl⟩) hS hFc hFc rfl (fun t H locs ht hB hk1 hS => ?_)
              obtain ⟨hP1, hD1⟩ := hB
              rw [ht] at hP1
              obtain ⟨hP, hD⟩ := znQ (W2 := [(oc8 x (.ref sh) (.ref lw) (.ref ro) (.ref bq) (.ref bp) (.ref dq) (.ref dp) (.ref lv) (.ref sl) ds sd ul 3), _, _]) hP hD hk1 hFc hP1 hD1 [0] [false, true, true] [false, true, true] [0] (by decide +kernel) rfl rfl rfl rfl rfl
              clear hk1 hPc hDc hFc hP1 hD1 ht
              obtain ⟨hP9, hD9⟩ := zu_part (cx := [_, _, _]) hP hD [true, true, true] rfl rfl
              rw [hQ9]
              exact W.iret (v := (-1)) hx hb hr (fun t ht hW => ⟨⟨rfl, ul, 3, by rw [ht]; exact hP9, hD9⟩, hS.F ht⟩) hS.2.2 dX10_join_97
        · have c_12 : ¬ (st g0).toInt = 1 := zc_ne rfl rfl c_12
          obtain ⟨hP, hD⟩ := pl_bk (X := [_, _, _]) hT_2 hP rfl hc9_2 hD0_2 rfl
          refine lv_aload_n hx hb dX10_join_60 rfl (lv_at hl 2 rfl) ?_
          refine lv_iconst (v := 2) hx hb dX10_join_61 rfl ?_
          obtain ⟨hPc, hDc, hFc⟩ := zo_sub (wc := [_]) hP hD hS hA [0] rfl rfl
          refine zcall (st1 := [.int (-1)]) (va_runV (As := [.int 2]) (rest := []) ⟨hx, hb, hml, hown, hts⟩ (k_refuse_2 l dC dI cI cZ cF H.size x sh lw ro bq bp dq dp lv sl sd ul su ds ) (csV_95 hts rfl rfl ⟨Nat.le_of_ble_eq_true rfl, Nat.le_of_ble_eq_true rfl⟩) (zPV2 (q0 := 0) (ci := 8) hPc hDc hK hXN rfl rfl) rfl rfl hl.1 rfl (lv_room (Nat.le_of_ble_eq_true rfl)) dX10_join_62 ⟨Nat.le_of_ble_eq_true rfl, Nat.le_of_ble_eq_true rfl⟩) hS hFc hFc rfl (fun t H locs ht hB hk1 hS => ?_)
          obtain ⟨hP1, hD1⟩ := hB
          rw [ht] at hP1
          obtain ⟨hP, hD⟩ := znQ (W2 := [(oc8 x (.ref sh) (.ref lw) (.ref ro) (.ref bq) (.ref bp) (.ref dq) (.ref dp) (.ref lv) (.ref sl) ds sd ul 2), _, _]) hP hD hk1 hFc hP1 hD1 [0] [false, true, true] [false, true, true] [0] (by decide +kernel) rfl rfl rfl rfl rfl
          clear hk1 hPc hDc hFc hP1 hD1 ht
          obtain ⟨hP9, hD9⟩ := zu_part (cx := [_, _, _]) hP hD [true, true, true] rfl rfl
          rw [hQ9]
          exact W.iret (v := (-1)) hx hb hr (fun t ht hW => ⟨⟨rfl, ul, 2, by rw [ht]; exact hP9, hD9⟩, hS.F ht⟩) hS.2.2 dX10_join_65
    · skip
      refine lv_aload_n hx hb dX10_join_10 rfl (lv_at hl 1 rfl) ?_
      refine va_get (D := (dC, dI)) (ci := 8) (v := .ref sh) (C := RX10) (T := TX10) (N := 13) hx hb hts inX10 hown hK hP 0 rfl rfl 0 (Nat.le_of_ble_eq_true rfl) (hts _ mw_309) (fun _ h9 => h9) rfl dX10_join_11 ?_
      refine lv_iload_n hx hb dX10_join_14 rfl (lv_at hl 3 rfl) ?_
      obtain ⟨hPc, hDc, hFc, hI1⟩ := zi_sub (wc := [_, _]) hP hD hS hA [1, 2] rfl rfl
      refine zcall (st1 := [.ref fe3]) (va_runV (As := [.int (nI g0)]) (rest := []) ⟨hx, hb, hml, hown, hts⟩ (k_Sheet_find l dC dI cI cZ cF H.size sh fa ft FA g0 fe3 (by first | with_reducible assumption | omega) (by first | with_reducible assumption | omega) (hFA3)) (csV_94 hts rfl rfl ⟨Nat.le_of_ble_eq_true rfl, Nat.le_of_ble_eq_true rfl⟩) (zPV2 (q0 := 0) (ci := 7) hPc hDc hK hXN rfl rfl) rfl rfl hl.1 rfl (lv_room (Nat.le_of_ble_eq_true rfl)) dX10_join_15 ⟨Nat.le_of_ble_eq_true rfl, Nat.le_of_ble_eq_true rfl⟩) hS hFc hFc rfl (fun t H locs ht hB hk1 hS => ?_)
      obtain ⟨hP1, hD1⟩ := hB
      rw [ht] at hP1
      replace hP := z0 hP hD hk1 hP1 hI1
      clear hk1 hPc hDc hFc hP1 hD1 ht hI1
      refine lv_astore (lv' := [(5, .ref fe3), (4, .ref fe2), (0, .ref x), (1, .int (nI f0)), (2, .int (nI g0)), (3, .int gp9)]) hx hb dX10_join_18 hl (Nat.le_of_ble_eq_true rfl) rfl (fun ls hl => ?_)
      refine lv_aload hx hb dX10_join_20 (lv_at hl 1 rfl) ?_
      refine lv_ifnull hx hb dX10_join_22 ?_
      refine lv_aload hx hb dX10_join_25 (lv_at hl 0 rfl) ?_
      refine lv_ifnonnull (tgt := 36) hx hb dX10_join_27 rfl ?_
      have hc9_1 : inPl L f [(oc1 fe2 (rk f0) (wd f0) (tw f0) (pa f0) (pb f0) (.ref lo2) (.ref lk2) fm2), (oc4 lk2 (kd f0) (st f0) (.ref r2) (gb f0) (it f0) we2)] := ⟨hfe2, hlk2, trivial⟩
      have hD0_1 := hD
      obtain ⟨T_1, hT_1, hP, hD⟩ := pl_oT hP hD hc9_1 (pwF hfe2.2 hlk2.2)
      obtain ⟨hP, hD⟩ := zre (W2 := ([_, _, _, _, _] ++ va_pl T_1 f)) hP hD rfl
      refine lv_aload hx hb dX10_join_36 (lv_at hl 1 rfl) ?_
      refine va_get (D := (dC, dI)) (ci := 1) (v := .ref lk2) (C := RX2) (T := TX2) (N := 8) hx hb hts inX2 hown hK hP 3 rfl rfl 6 (Nat.le_of_ble_eq_true rfl) (hts _ mw_433) (fun _ h9 => h9) rfl dX10_join_38 ?_
      refine va_get (D := (dC, dI)) (ci := 4) (v := .int (st f0)) (C := RX5) (T := TX5) (N := 6) hx hb hts inX5 hown hK hP 4 rfl rfl 1 (Nat.le_of_ble_eq_true rfl) (hts _ mw_385) (fun _ h9 => h9) rfl dX10_join_41 ?_
      refine lv_iconst (v := 1) hx hb dX10_join_44 rfl ?_
      refine lv_icmp_ne (tgt := 60) hx hb dX10_join_45 rfl (fun c_16 => ?_) (fun c_16 => ?_)
      · have c_16 : ¬ (st f0).toInt = 1 := zc_ne rfl rfl c_16
        obtain ⟨hP, hD⟩ := pl_bk (X := [_, _, _]) hT_1 hP rfl hc9_1 hD0_1 rfl
        refine lv_aload_n hx hb dX10_join_60 rfl (lv_at hl 2 rfl) ?_
        refine lv_iconst (v := 2) hx hb dX10_join_61 rfl ?_
        obtain ⟨hPc, hDc, hFc⟩ := zo_sub (wc := [_]) hP hD hS hA [0] rfl rfl
        refine zcall (st1 := [.int (-1)]) (va_runV (As := [.int 2]) (rest := []) ⟨hx, hb, hml, hown, hts⟩ (k_refuse_2 l dC dI cI cZ cF H.size x sh lw ro bq bp dq dp lv sl sd ul su ds ) (csV_95 hts rfl rfl ⟨Nat.le_of_ble_eq_true rfl, Nat.le_of_ble_eq_true rfl⟩) (zPV2 (q0 := 0) (ci := 8) hPc hDc hK hXN rfl rfl) rfl rfl hl.1 rfl (lv_room (Nat.le_of_ble_eq_true rfl)) dX10_join_62 ⟨Nat.le_of_ble_eq_true rfl, Nat.le_of_ble_eq_true rfl⟩) hS hFc hFc rfl (fun t H locs ht hB hk1 hS => ?_)
        obtain ⟨hP1, hD1⟩ := hB
        rw [ht] at hP1
        obtain ⟨hP, hD⟩ := znQ (W2 := [(oc8 x (.ref sh) (.ref lw) (.ref ro) (.ref bq) (.ref bp) (.ref dq) (.ref dp) (.ref lv) (.ref sl) ds sd ul 2), _, _]) hP hD hk1 hFc hP1 hD1 [0] [false, true, true] [false, true, true] [0] (by decide +kernel) rfl rfl rfl rfl rfl
        clear hk1 hPc hDc hFc hP1 hD1 ht
        obtain ⟨hP9, hD9⟩ := zu_part (cx := [_, _, _]) hP hD [true, true, true] rfl rfl
        rw [hQ9]
        exact W.iret (v := (-1)) hx hb hr (fun t ht hW => ⟨⟨rfl, ul, 2, by rw [ht]; exact hP9, hD9⟩, hS.F ht⟩) hS.2.2 dX10_join_65
      · have c_16 : (st f0).toInt = 1 := zc_eq rfl rfl c_16
        obtain ⟨hP, hD⟩ := pl_bk (X := [_, _, _]) hT_1 hP rfl hc9_1 hD0_1 rfl
        have hc9_2 : inPl L f [(oc1 fe3 (rk g0) (wd g0) (tw g0) (pa g0) (pb g0) (.ref lo3) (.ref lk3) fm3), (oc4 lk3 (kd g0) (st g0) (.ref r3) (gb g0) (it g0) we3)] := ⟨hfe3, hlk3, trivial⟩
        have hD0_2 := hD
        obtain ⟨T_2, hT_2, hP, hD⟩ := pl_oT hP hD hc9_2 (pwF hfe3.2 hlk3.2)
        obtain ⟨hP, hD⟩ := zre (W2 := ([_, _, _, _, _] ++ va_pl T_2 f)) hP hD rfl
        refine lv_aload hx hb dX10_join_48 (lv_at hl 0 rfl) ?_
        refine va_get (D := (dC, dI)) (ci := 1) (v := .ref lk3) (C := RX2) (T := TX2) (N := 8) hx hb hts inX2 hown hK hP 3 rfl rfl 6 (Nat.le_of_ble_eq_true rfl) (hts _ mw_433) (fun _ h9 => h9) rfl dX10_join_50 ?_
        refine va_get (D := (dC, dI)) (ci := 4) (v := .int (st g0)) (C := RX5) (T := TX5) (N := 6) hx hb hts inX5 hown hK hP 4 rfl rfl 1 (Nat.le_of_ble_eq_true rfl) (hts _ mw_385) (fun _ h9 => h9) rfl dX10_join_53 ?_
        refine lv_iconst (v := 1) hx hb dX10_join_56 rfl ?_
        refine lv_icmp_eq (tgt := 66) hx hb dX10_join_57 rfl (fun c_17 => ?_) (fun c_17 => ?_)
        · have c_17 : (st g0).toInt = 1 := zc_eq rfl rfl c_17
          obtain ⟨hP, hD⟩ := pl_bk (X := [_, _, _]) hT_2 hP rfl hc9_2 hD0_2 rfl
          have hc9_3 : inPl L f [(oc1 fe2 (rk f0) (wd f0) (tw f0) (pa f0) (pb f0) (.ref lo2) (.ref lk2) fm2), (oc4 lk2 (kd f0) (st f0) (.ref r2) (gb f0) (it f0) we2)] := ⟨hfe2, hlk2, trivial⟩
          have hD0_3 := hD
          obtain ⟨T_3, hT_3, hP, hD⟩ := pl_oT hP hD hc9_3 (pwF hfe2.2 hlk2.2)
          obtain ⟨hP, hD⟩ := zre (W2 := ([_, _, _, _, _] ++ va_pl T_3 f)) hP hD rfl
          refine lv_aload hx hb dX10_join_66 (lv_at hl 1 rfl) ?_
          refine va_get (D := (dC, dI)) (ci := 1) (v := .ref lk2) (C := RX2) (T := TX2) (N := 8) hx hb hts inX2 hown hK hP 3 rfl rfl 6 (Nat.le_of_ble_eq_true rfl) (hts _ mw_433) (fun _ h9 => h9) rfl dX10_join_68 ?_
          refine va_get (D := (dC, dI)) (ci := 4) (v := .int (kd f0)) (C := RX5) (T := TX5) (N := 6) hx hb hts inX5 hown hK hP 4 rfl rfl 0 (Nat.le_of_ble_eq_true rfl) (hts _ mw_381) (fun _ h9 => h9) rfl dX10_join_71 ?_
          refine lv_bipush (v := 6) hx hb dX10_join_74 rfl ?_
          refine lv_icmp_ne (tgt := 92) hx hb dX10_join_76 rfl (fun c_18 => ?_) (fun c_18 => ?_)
          · have c_18 : ¬ (kd f0).toInt = 6 := zc_ne rfl rfl c_18
            obtain ⟨hP, hD⟩ := pl_bk (X := [_, _, _]) hT_3 hP rfl hc9_3 hD0_3 rfl
            refine lv_aload_n hx hb dX10_join_92 rfl (lv_at hl 2 rfl) ?_
            refine lv_iconst (v := 3) hx hb dX10_join_93 rfl ?_
            obtain ⟨hPc, hDc, hFc⟩ := zo_sub (wc := [_]) hP hD hS hA [0] rfl rfl
            refine zcall (st1 := [.int (-1)]) (va_runV (As := [.int 3]) (rest := []) ⟨hx, hb, hml, hown, hts⟩ (k_refuse_3 l dC dI cI cZ cF H.size x sh lw ro bq bp dq dp lv sl sd ul su ds ) (csV_95 hts rfl rfl ⟨Nat.le_of_ble_eq_true rfl, Nat.le_of_ble_eq_true rfl⟩) (zPV2 (q0 := 0) (ci := 8) hPc hDc hK hXN rfl rfl) rfl rfl hl.1 rfl (lv_room (Nat.le_of_ble_eq_true rfl)) dX10_join_94 ⟨Nat.le_of_ble_eq_true rfl, Nat.le_of_ble_eq_true rfl⟩) hS hFc hFc rfl (fun t H locs ht hB hk1 hS => ?_)
            obtain ⟨hP1, hD1⟩ := hB
            rw [ht] at hP1
            obtain ⟨hP, hD⟩ := znQ (W2 := [(oc8 x (.ref sh) (.ref lw) (.ref ro) (.ref bq) (.ref bp) (.ref dq) (.ref dp) (.ref lv) (.ref sl) ds sd ul 3), _, _]) hP hD hk1 hFc hP1 hD1 [0] [false, true, true] [false, true, true] [0] (by decide +kernel) rfl rfl rfl rfl rfl
            clear hk1 hPc hDc hFc hP1 hD1 ht
            obtain ⟨hP9, hD9⟩ := zu_part (cx := [_, _, _]) hP hD [true, true, true] rfl rfl
            rw [hQ9]
            exact W.iret (v := (-1)) hx hb hr (fun t ht hW => ⟨⟨rfl, ul, 3, by rw [ht]; exact hP9, hD9⟩, hS.F ht⟩) hS.2.2 dX10_join_97
          · have c_18 : (kd f0).toInt = 6 := zc_eq rfl rfl c_18
            obtain ⟨hP, hD⟩ := pl_bk (X := [_, _, _]) hT_3 hP rfl hc9_3 hD0_3 rfl
            have hc9_4 : inPl L f [(oc1 fe3 (rk g0) (wd g0) (tw g0) (pa g0) (pb g0) (.ref lo3) (.ref lk3) fm3), (oc4 lk3 (kd g0) (st g0) (.ref r3) (gb g0) (it g0) we3)] := ⟨hfe3, hlk3, trivial⟩
            have hD0_4 := hD
            obtain ⟨T_4, hT_4, hP, hD⟩ := pl_oT hP hD hc9_4 (pwF hfe3.2 hlk3.2)
            obtain ⟨hP, hD⟩ := zre (W2 := ([_, _, _, _, _] ++ va_pl T_4 f)) hP hD rfl
            refine lv_aload hx hb dX10_join_79 (lv_at hl 0 rfl) ?_
            refine va_get (D := (dC, dI)) (ci := 1) (v := .ref lk3) (C := RX2) (T := TX2) (N := 8) hx hb hts inX2 hown hK hP 3 rfl rfl 6 (Nat.le_of_ble_eq_true rfl) (hts _ mw_433) (fun _ h9 => h9) rfl dX10_join_81 ?_
            refine va_get (D := (dC, dI)) (ci := 4) (v := .int (kd g0)) (C := RX5) (T := TX5) (N := 6) hx hb hts inX5 hown hK hP 4 rfl rfl 0 (Nat.le_of_ble_eq_true rfl) (hts _ mw_381) (fun _ h9 => h9) rfl dX10_join_84 ?_
            refine lv_bipush (v := 6) hx hb dX10_join_87 rfl ?_
            refine lv_icmp_eq (tgt := 98) hx hb dX10_join_89 rfl (fun c_19 => ?_) (fun c_19 => ?_)
            · have c_19 : (kd g0).toInt = 6 := zc_eq rfl rfl c_19
              obtain ⟨hP, hD⟩ := pl_bk (X := [_, _, _]) hT_4 hP rfl hc9_4 hD0_4 rfl
              refine lv_iload_n hx hb dX10_join_98 rfl (lv_at hl 5 rfl) ?_
              refine lv_iconst (v := 0) hx hb dX10_join_99 rfl ?_
              refine lv_sipush (v := 1000) hx hb dX10_join_100 rfl ?_
              obtain ⟨hPc, hDc, hFc, hI1⟩ := zi_sub (wc := []) hP hD hS hA [] rfl rfl
              refine zcall (st1 := [.int (pI ((0 : Int32).toInt ≤ gp9.toInt ∧ gp9.toInt ≤ (1000 : Int32).toInt))]) (va_runS (As := [.int gp9, .int 0, .int 1000]) (rest := []) ⟨hx, hb, hml, hown, hts⟩ (k_isWithin l dC dI cI cZ cF H.size gp9 0 1000 ) (csS_14 hts rfl rfl ⟨Nat.le_of_ble_eq_true rfl, Nat.le_of_ble_eq_true rfl⟩) (zPS2 hPc hDc hK hXN) rfl rfl hl.1 rfl (lv_room (Nat.le_of_ble_eq_true rfl)) dX10_join_103 ⟨Nat.le_of_ble_eq_true rfl, Nat.le_of_ble_eq_true rfl⟩) hS hFc hFc rfl (fun t H locs ht hB hk1 hS => ?_)
              obtain ⟨hP1, hD1⟩ := hB
              rw [ht] at hP1
              replace hP := z0 hP hD hk1 hP1 hI1
              clear hk1 hPc hDc hFc hP1 hD1 ht hI1
              refine lv_if_ne (tgt := 115) hx hb dX10_join_106 rfl (fun c_20 => ?_) (fun c_20 => ?_)
              · have c_20 : (0 : Int32).toInt ≤ gp9.toInt ∧ gp9.toInt ≤ (1000 : Int32).toInt := zp_1 c_20
                have hc9_5 : inPl L f [(oc1 fe2 (rk f0) (wd f0) (tw f0) (pa f0) (pb f0) (.ref lo2) (.ref lk2) fm2), (oc4 lk2 (kd f0) (st f0) (.ref r2) (gb f0) (it f0) we2)] := ⟨hfe2, hlk2, trivial⟩
                have hD0_5 := hD
                obtain ⟨T_5, hT_5, hP, hD⟩ := pl_oT hP hD hc9_5 (pwF hfe2.2 hlk2.2)
                obtain ⟨hP, hD⟩ := zre (W2 := ([_, _, _, _, _] ++ va_pl T_5 f)) hP hD rfl
                refine lv_aload hx hb dX10_join_115 (lv_at hl 1 rfl) ?_
                refine va_get (D := (dC, dI)) (ci := 1) (v := .ref lk2) (C := RX2) (T := TX2) (N := 8) hx hb hts inX2 hown hK hP 3 rfl rfl 6 (Nat.le_of_ble_eq_true rfl) (hts _ mw_433) (fun _ h9 => h9) rfl dX10_join_117 ?_
                refine va_get (D := (dC, dI)) (ci := 4) (v := .ref r2) (C := RX5) (T := TX5) (N := 6) hx hb hts inX5 hown hK hP 4 rfl rfl 2 (Nat.le_of_ble_eq_true rfl) (hts _ mw_391) (fun _ h9 => h9) rfl dX10_join_120 ?_
                refine lv_astore (lv' := [(6, .ref r2), (5, .ref fe3), (4, .ref fe2), (0, .ref x), (1, .int (nI f0)), (2, .int (nI g0)), (3, .int gp9)]) hx hb dX10_join_123 hl (Nat.le_of_ble_eq_true rfl) rfl (fun ls hl => ?_)
                obtain ⟨hP, hD⟩ := pl_bk (X := [_, _, _]) hT_5 hP rfl hc9_5 hD0_5 rfl
                have hc9_6 : inPl L f [(oc1 fe3 (rk g0) (wd g0) (tw g0) (pa g0) (pb g0) (.ref lo3) (.ref lk3) fm3), (oc4 lk3 (kd g0) (st g0) (.ref r3) (gb g0) (it g0) we3)] := ⟨hfe3, hlk3, trivial⟩
                have hD0_6 := hD
                obtain ⟨T_6, hT_6, hP, hD⟩ := pl_oT hP hD hc9_6 (pwF hfe3.2 hlk3.2)
                obtain ⟨hP, hD⟩ := zre (W2 := ([_, _, _, _, _] ++ va_pl T_6 f)) hP hD rfl
                refine lv_aload hx hb dX10_join_125 (lv_at hl 1 rfl) ?_
                refine va_get (D := (dC, dI)) (ci := 1) (v := .ref lk3) (C := RX2) (T := TX2) (N := 8) hx hb hts inX2 hown hK hP 3 rfl rfl 6 (Nat.le_of_ble_eq_true rfl) (hts _ mw_433) (fun _ h9 => h9) rfl dX10_join_127 ?_
                refine va_get (D := (dC, dI)) (ci := 4) (v := .ref r3) (C := RX5) (T := TX5) (N := 6) hx hb hts inX5 hown hK hP 4 rfl rfl 2 (Nat.le_of_ble_eq_true rfl) (hts _ mw_391) (fun _ h9 => h9) rfl dX10_join_130 ?_
                refine lv_astore (lv' := [(7, .ref r3), (6, .ref r2), (5, .ref fe3), (4, .ref fe2), (0, .ref x), (1, .int (nI f0)), (2, .int (nI g0)), (3, .int gp9)]) hx hb dX10_join_133 hl (Nat.le_of_ble_eq_true rfl) rfl (fun ls hl => ?_)
                obtain ⟨hP, hD⟩ := pl_bk (X := [_, _, _]) hT_6 hP rfl hc9_6 hD0_6 rfl
                refine lv_aload hx hb dX10_join_135 (lv_at hl 1 rfl) ?_
                refine lv_ifnull hx hb dX10_join_137 ?_
                refine lv_aload hx hb dX10_join_140 (lv_at hl 0 rfl) ?_
                refine lv_ifnonnull (tgt := 151) hx hb dX10_join_142 rfl ?_
                exfalso; omega
              · have c_20 : ¬ ((0 : Int32).toInt ≤ gp9.toInt ∧ gp9.toInt ≤ (1000 : Int32).toInt) := zp_0 c_20
                refine lv_aload_n hx hb dX10_join_109 rfl (lv_at hl 2 rfl) ?_
                refine lv_iconst (v := 4) hx hb dX10_join_110 rfl ?_
                obtain ⟨hPc, hDc, hFc⟩ := zo_sub (wc := [_]) hP hD hS hA [0] rfl rfl
                refine zcall (st1 := [.int (-1)]) (va_runV (As := [.int 4]) (rest := []) ⟨hx, hb, hml, hown, hts⟩ (k_refuse_4 l dC dI cI cZ cF H.size x sh lw ro bq bp dq dp lv sl sd ul su ds ) (csV_95 hts rfl rfl ⟨Nat.le_of_ble_eq_true rfl, Nat.le_of_ble_eq_true rfl⟩) (zPV2 (q0 := 0) (ci := 8) hPc hDc hK hXN rfl rfl) rfl rfl hl.1 rfl (lv_room (Nat.le_of_ble_eq_true rfl)) dX10_join_111 ⟨Nat.le_of_ble_eq_true rfl, Nat.le_of_ble_eq_true rfl⟩) hS hFc hFc rfl (fun t H locs ht hB hk1 hS => ?_)
                obtain ⟨hP1, hD1⟩ := hB
                rw [ht] at hP1
                obtain ⟨hP, hD⟩ := znQ (W2 := [(oc8 x (.ref sh) (.ref lw) (.ref ro) (.ref bq) (.ref bp) (.ref dq) (.ref dp) (.ref lv) (.ref sl) ds sd ul 4), _, _]) hP hD hk1 hFc hP1 hD1 [0] [false, true, true] [false, true, true] [0] (by decide +kernel) rfl rfl rfl rfl rfl
                clear hk1 hPc hDc hFc hP1 hD1 ht
                obtain ⟨hP9, hD9⟩ := zu_part (cx := [_, _, _]) hP hD [true, true, true] rfl rfl
                rw [hQ9]
                exact W.iret (v := (-1)) hx hb hr (fun t ht hW => ⟨⟨rfl, ul, 4, by rw [ht]; exact hP9, hD9⟩, hS.F ht⟩) hS.2.2 dX10_join_114
            · have c_19 : ¬ (kd g0).toInt = 6 := zc_ne rfl rfl c_19
              obtain ⟨hP, hD⟩ := pl_bk (X := [_, _, _]) hT_4 hP rfl hc9_4 hD0_4 rfl
              refine lv_aload_n hx hb dX10_join_92 rfl (lv_at hl 2 rfl) ?_
              refine lv_iconst (v := 3) hx hb dX10_join_93 rfl ?_
              obtain ⟨hPc, hDc, hFc⟩ := zo_sub (wc := [_]) hP hD hS hA [0] rfl rfl
              refine zcall (st1 := [.int (-1)]) (va_runV (As := [.int 3]) (rest := []) ⟨hx, hb, hml, hown, hts⟩ (k_refuse_3 l dC dI cI cZ cF H.size x sh lw ro bq bp dq dp lv sl sd ul su ds ) (csV_95 hts rfl rfl ⟨Nat.le_of_ble_eq_true rfl, Nat.le_of_ble_eq_true rfl⟩) (zPV2 (q0 := 0) (ci := 8) hPc hDc hK hXN rfl rfl) rfl rfl hl.1 rfl (lv_room (Nat.le_of_ble_eq_true rfl)) dX10_join_94 ⟨Nat.le_of_ble_eq_true rfl, Nat.le_of_ble_eq_true rfl⟩) hS hFc hFc rfl (fun t H locs ht hB hk1 hS => ?_)
              obtain ⟨hP1, hD1⟩ := hB
              rw [ht] at hP1
              obtain ⟨hP, hD⟩ := znQ (W2 := [(oc8 x (.ref sh) (.ref lw) (.ref ro) (.ref bq) (.ref bp) (.ref dq) (.ref dp) (.ref lv) (.ref sl) ds sd ul 3), _, _]) hP hD hk1 hFc hP1 hD1 [0] [false, true, true] [false, true, true] [0] (by decide +kernel) rfl rfl rfl rfl rfl
              clear hk1 hPc hDc hFc hP1 hD1 ht
              obtain ⟨hP9, hD9⟩ := zu_part (cx := [_, _, _]) hP hD [true, true, true] rfl rfl
              rw [hQ9]
              exact W.iret (v := (-1)) hx hb hr (fun t ht hW => ⟨⟨rfl, ul, 3, by rw [ht]; exact hP9, hD9⟩, hS.F ht⟩) hS.2.2 dX10_join_97
        · have c_17 : ¬ (st g0).toInt = 1 := zc_ne rfl rfl c_17
          obtain ⟨hP, hD⟩ := pl_bk (X := [_, _, _]) hT_2 hP rfl hc9_2 hD0_2 rfl
          refine lv_aload_n hx hb dX10_join_60 rfl (lv_at hl 2 rfl) ?_
          refine lv_iconst (v := 2) hx hb dX10_join_61 rfl ?_
          obtain ⟨hPc, hDc, hFc⟩ := zo_sub (wc := [_]) hP hD hS hA [0] rfl rfl
          refine zcall (st1 := [.int (-1)]) (va_runV (As := [.int 2]) (rest := []) ⟨hx, hb, hml, hown, hts⟩ (k_refuse_2 l dC dI cI cZ cF H.size x sh lw ro bq bp dq dp lv sl sd ul su ds ) (csV_95 hts rfl rfl ⟨Nat.le_of_ble_eq_true rfl, Nat.le_of_ble_eq_true rfl⟩) (zPV2 (q0 := 0) (ci := 8) hPc hDc hK hXN rfl rfl) rfl rfl hl.1 rfl (lv_room (Nat.le_of_ble_eq_true rfl)) dX10_join_62 ⟨Nat.le_of_ble_eq_true rfl, Nat.le_of_ble_eq_true rfl⟩) hS hFc hFc rfl (fun t H locs ht hB hk1 hS => ?_)
          obtain ⟨hP1, hD1⟩ := hB
          rw [ht] at hP1
          obtain ⟨hP, hD⟩ := znQ (W2 := [(oc8 x (.ref sh) (.ref lw) (.ref ro) (.ref bq) (.ref bp) (.ref dq) (.ref dp) (.ref lv) (.ref sl) ds sd ul 2), _, _]) hP hD hk1 hFc hP1 hD1 [0] [false, true, true] [false, true, true] [0] (by decide +kernel) rfl rfl rfl rfl rfl
          clear hk1 hPc hDc hFc hP1 hD1 ht
          obtain ⟨hP9, hD9⟩ := zu_part (cx := [_, _, _]) hP hD [true, true, true] rfl rfl
          rw [hQ9]
          exact W.iret (v := (-1)) hx hb hr (fun t ht hW => ⟨⟨rfl, ul, 2, by rw [ht]; exact hP9, hD9⟩, hS.F ht⟩) hS.2.2 dX10_join_65
set_option maxHeartbeats 4000000 in
set_option maxRecDepth 100000 in
theorem k_join_s (l : Launch) (dC : Nat → ClassId) (dI : Nat → Nat → Nat) (cI cZ cF : ClassId) (sz : Nat) (cO : ClassId) (e0 : Nat) (mi : Nat) (x : Nat) (sh : Nat) (lw : Nat) (ro : Nat) (bq : Nat) (bp : Nat) (dq : Nat) (dp : Nat) (lv : Nat) (sl : Nat) (sd : Int32) (ul : Int32) (su : Int32) (ea : Nat) (mc9 : Int32) (fa : Nat) (FA : Nat → Option Nat) (bs : Nat) (dn : Nat) (T : Nat) (ft : Nat) (FT : Nat → Nat) (V : Nat → Nat → Nat → Int32) (VX : Nat → Nat → Int32) (VY : Nat → Nat → Int32) (tn : Nat → Int32) (rk : Nat → Int32) (wd : Nat → Int32) (tw : Nat → Int32) (pa : Nat → Int32) (pb : Nat → Int32) (wh : Nat → Int32) (of9 : Nat → Int32) (we : Nat → Int32) (kd : Nat → Int32) (st : Nat → Int32) (gb : Nat → Int32) (it : Nat → Int32) (mn : Nat → Int32) (cx : Nat → Int32) (cy : Nat → Int32) (L : List Nat) (f : Nat → va_E) (f0 : Nat) (dr : Nat) (tg : Nat) (wy : Nat) (br : Nat) (bo : Nat) (aa : Nat) (dx : Nat) (dy : Nat) (nd : Nat) (cd : Nat) (P : Nat → Int32) (Q : Nat → Int32) (rd : Int32) (c1 : Int32) (c2 : Int32) (c3 : Int32) (c4 : Int32) (y1 : Int64) (y2 : Int64) (gp9 : Int32) (hB : shB cI cO L f e0 FA ea bs dn T ft FT V VX VY tn rk wd tw pa pb wh of9 we kd st gb it mn cx cy) (hf0 : f0 < ft) (htn : (tn f0).toInt = 0) (hst : (st f0).toInt = 1) (hk6 : (kd f0).toInt = 6) (hgp : 0 ≤ gp9.toInt ∧ gp9.toInt ≤ 1000) (hwf : ∀ q, lvF ft st tn q → wfM mn cx cy q) (hkn : okN ft st tn kd mn) (hcd : 40 ≤ cd ∧ cd ≤ 1000) : zML l yX10_join cX10_join 8 (some .int) ({ frames := 4, cells := 0, slots := 0, locals := 90 } : Room) [.ref x, .int (nI f0), .int (nI f0), .int gp9] (dC, dI) (zTyO cI cZ cF cO) e0 mi ([(oc8 x (.ref sh) (.ref lw) (.ref ro) (.ref bq) (.ref bp) (.ref dq) (.ref dp) (.ref lv) (.ref sl) (nI dn) sd ul su), (oc10 sl mc9 (.ref ea) (nI T)), (oc3 lw (.ref dr) (.ref tg) (.ref wy) (.ref br) (.ref bo) (.ref aa)), (oc6 dr (.ref dx) (.ref dy) (nI nd) rd), (oa dx cI cd P), (oa dy cI cd Q), (oc0 bq c1 c2 c3 c4), (oc2 dq y1 y2), (oc7 sh (.ref fa) (nI ft)), (oq fa cF 200 FA)] ++ va_pl L f) sz (some (.int (-1))) (fun A t => ∃ (ul1 : Int32), ∃ (su1 : Int32), ∃ (nd1 : Nat), ∃ (P1 : Nat → Int32), ∃ (Q1 : Nat → Int32), ∃ (rd1 : Int32), ∃ (c5 : Int32), ∃ (c6 : Int32), ∃ (c7 : Int32), ∃ (c8 : Int32), ∃ (y5 : Int64), ∃ (y6 : Int64), zPD (dC, dI) classes A ([(oc8 x (.ref sh) (.ref lw) (.ref ro) (.ref bq) (.ref bp) (.ref dq) (.ref dp) (.ref lv) (.ref sl) (nI dn) sd ul1 su1), (oc10 sl mc9 (.ref ea) (nI T)), (oc3 lw (.ref dr) (.ref tg) (.ref wy) (.ref br) (.ref bo) (.ref aa)), (oc6 dr (.ref dx) (.ref dy) (nI nd1) rd1), (oa dx cI cd P1), (oa dy cI cd Q1), (oc0 bq c5 c6 c7 c8), (oc2 dq y5 y6), (oc7 sh (.ref fa) (nI ft)), (oq fa cF 200 FA)] ++ va_pl L f) t.heap) 0 0 := by
  refine zInL (own := "ScaleShop") (loc := [(0, .ref x), (1, .int (nI f0)), (2, .int (nI f0)), (3, .int gp9)]) rfl rfl rfl rfl (fun p e s m below meth c hx hb hr hts hown hlocks hml hnm9 A hA hS hP hD hK hXL hXN hK3 Q9 hQ9 ls hl => ?_)
  obtain ⟨own, fe, cl, la, sp, SA, hG9, hH9, hft9, hO9⟩ := hB
  obtain ⟨hG, hM, hdT, hT5, hO⟩ := M_0 hG9 hH9 hft9 hO9
  have h200 : ft ≤ 200 := hG.2.2.2.2.2.1.2.2.2.2.2
  have hFA9 := hG.2.2.2.2.2.2
  refine ex13 (sh_fc hG.1 hG.2.1 (Nat.le_refl _) hf0 htn) (fun lo5 lx5 ly5 ln5 LX5 LY5 we5 r5 rx5 ry5 cap5 X5 Y5 hc5 => ?_)
  have hc5 := fc_0 hc5
  have hb5 := hc5.2.2.1
  have hb6 := hc5.2.1
  have hat9 := lo_at hO (Nat.le_refl _) hf0 hc5.1.1 hc5.1.2.2.2 (by omega) hc5.1.2.1 hb5.2.2
  have e_0 : (0 : Int32).toInt = 0 := (by decide)
  have e_1000 : (1000 : Int32).toInt = 1000 := (by decide)
  have hlv : lvF ft st tn f0 := ⟨hf0, hst, htn⟩
  have hwf0 := hwf f0 hlv
  have hw1 := hwf0.2.1
  have hkn0 := hkn f0 hlv
  have hX5 := hc5.2.2.2.2.1
  have hp5 := (pls_cg hX5).mpr hwf0.2.2
  have hgg := gg_0 (g := gp9.toInt)
  have hc9_1 : inPl L f [(oc1 (fe f0) (rk f0) (wd f0) (tw f0) (pa f0) (pb f0) (.ref lo5) (.ref (la dn f0)) .null), (oc4 (la dn f0) (kd f0) (st f0) (.ref r5) (gb f0) (it f0) (nI we5)), (oc6 r5 (.ref rx5) (.ref ry5) (nI (nN (mn f0))) (rgK (kd f0).toInt)), (oa rx5 cI cap5 X5), (oa ry5 cI cap5 Y5), (oc6 lo5 (.ref lx5) (.ref ly5) (nI ln5) 0), (oa lx5 cI (cl f0) LX5), (oa ly5 cI (cl f0) LY5)] := ⟨ce_pl hc5.1.1, ce_pl hc5.1.2.1, ce_pl hc5.1.2.2.1.1, ce_pl hc5.1.2.2.1.2.1, ce_pl hc5.1.2.2.1.2.2.1, ce_pl hc5.1.2.2.2.1, ce_pl hc5.1.2.2.2.2.1, ce_pl hc5.1.2.2.2.2.2.1, trivial⟩
  have hD0_1 := hD
  obtain ⟨T_1, hT_1, hP, hD⟩ := pl_oT hP hD hc9_1 (pw8 hc5 (by omega))
  obtain ⟨hP, hD⟩ := zre (W2 := ([_, _, _, _, _, _, _, _, _, _, _, _, _, _, _, _, _, _] ++ va_pl T_1 f)) hP hD rfl
  refine lv_aload_n hx hb dX10_join_0 rfl (lv_at hl 0 rfl) ?_
  refine va_get (D := (dC, dI)) (ci := 8) (v := .ref sh) (C := RX10) (T := TX10) (N := 13) hx hb hts inX10 hown hK hP 0 rfl rfl 0 (Nat.le_of_ble_eq_true rfl) (hts _ mw_309) (fun _ h9 => h9) rfl dX10_join_1 ?_
  refine lv_iload_n hx hb dX10_join_4 rfl (lv_at hl 1 rfl) ?_
  obtain ⟨hPc, hDc, hFc, hI1⟩ := zi_sub (wc := [_, _]) hP hD hS hA [8, 9] rfl rfl
  refine zcall (st1 := [.ref (fe f0)]) (va_runV (As := [.int (nI f0)]) (rest := []) ⟨hx, hb, hml, hown, hts⟩ (k_Sheet_find l dC dI cI cZ cF s.heap.size sh fa ft FA f0 (fe f0) (by first | with_reducible assumption | omega) (by first | with_reducible assumption | omega) (hFA9 f0 (by first | with_reducible assumption | omega))) (csV_94 hts rfl rfl ⟨Nat.le_of_ble_eq_true rfl, Nat.le_of_ble_eq_true rfl⟩) (zPV2 (q0 := 0) (ci := 7) hPc hDc hK3 hXN rfl rfl) rfl rfl hl.1 rfl (lv_room (Nat.le_of_ble_eq_true rfl)) dX10_join_5 ⟨Nat.le_of_ble_eq_true rfl, Nat.le_of_ble_eq_true rfl⟩) hS hFc hFc rfl (fun t H locs ht hB hk1 hS => ?_)
  obtain ⟨hP1, hD1⟩ := hB
  rw [ht] at hP1
  replace hP := z0 hP hD hk1 hP1 hI1
  clear hk1 hPc hDc hFc hP1 hD1 ht hI1
  refine lv_astore (lv' := [(4, .ref (fe f0)), (0, .ref x), (1, .int (nI f0)), (2, .int (nI f0)), (3, .int gp9)]) hx hb dX10_join_8 hl (Nat.le_of_ble_eq_true rfl) rfl (fun ls hl => ?_)
  refine lv_aload_n hx hb dX10_join_10 rfl (lv_at hl 1 rfl) ?_
  refine va_get (D := (dC, dI)) (ci := 8) (v := .ref sh) (C := RX10) (T := TX10) (N := 13) hx hb hts inX10 hown hK hP 0 rfl rfl 0 (Nat.le_of_ble_eq_true rfl) (hts _ mw_309) (fun _ h9 => h9) rfl dX10_join_11 ?_
  refine lv_iload_n hx hb dX10_join_14 rfl (lv_at hl 3 rfl) ?_
  obtain ⟨hPc, hDc, hFc, hI1⟩ := zi_sub (wc := [_, _]) hP hD hS hA [8, 9] rfl rfl
  refine zcall (st1 := [.ref (fe f0)]) (va_runV (As := [.int (nI f0)]) (rest := []) ⟨hx, hb, hml, hown, hts⟩ (k_Sheet_find l dC dI cI cZ cF H.size sh fa ft FA f0 (fe f0) (by first | with_reducible assumption | omega) (by first | with_reducible assumption | omega) (hFA9 f0 (by first | with_reducible assumption | omega))) (csV_94 hts rfl rfl ⟨Nat.le_of_ble_eq_true rfl, Nat.le_of_ble_eq_true rfl⟩) (zPV2 (q0 := 0) (ci := 7) hPc hDc hK3 hXN rfl rfl) rfl rfl hl.1 rfl (lv_room (Nat.le_of_ble_eq_true rfl)) dX10_join_15 ⟨Nat.le_of_ble_eq_true rfl, Nat.le_of_ble_eq_true rfl⟩) hS hFc hFc rfl (fun t H locs ht hB hk1 hS => ?_)
  obtain ⟨hP1, hD1⟩ := hB
  rw [ht] at hP1
  replace hP := z0 hP hD hk1 hP1 hI1
  clear hk1 hPc hDc hFc hP1 hD1 ht hI1
  refine lv_astore (lv' := [(5, .ref (fe f0)), (4, .ref (fe f0)), (0, .ref x), (1, .int (nI f0)), (2, .int (nI f0)), (3, .int gp9)]) hx hb dX10_join_18 hl (Nat.le_of_ble_eq_true rfl) rfl (fun ls hl => ?_)
  refine lv_aload hx hb dX10_join_20 (lv_at hl 1 rfl) ?_
  refine lv_ifnull hx hb dX10_join_22 ?_
  refine lv_aload hx hb dX10_join_25 (lv_at hl 0 rfl) ?_
  refine lv_ifnonnull (tgt := 36) hx hb dX10_join_27 rfl ?_
  refine lv_aload hx hb dX10_join_36 (lv_at hl 1 rfl) ?_
  refine va_get (D := (dC, dI)) (ci := 1) (v := .ref (la dn f0)) (C := RX2) (T := TX2) (N := 8) hx hb hts inX2 hown hK hP 10 rfl rfl 6 (Nat.le_of_ble_eq_true rfl) (hts _ mw_433) (fun _ h9 => h9) rfl dX10_join_38 ?_
  refine va_get (D := (dC, dI)) (ci := 4) (v := .int (st f0)) (C := RX5) (T := TX5) (N := 6) hx hb hts inX5 hown hK hP 11 rfl rfl 1 (Nat.le_of_ble_eq_true rfl) (hts _ mw_385) (fun _ h9 => h9) rfl dX10_join_41 ?_
  refine lv_iconst (v := 1) hx hb dX10_join_44 rfl ?_
  refine lv_icmp_ne (tgt := 60) hx hb dX10_join_45 rfl (fun c_1 => ?_) (fun c_1 => ?_)
  · have c_1 : ¬ (st f0).toInt = 1 := zc_ne rfl rfl c_1
    exfalso; omega
  · have c_1 : (st f0).toInt = 1 := zc_eq rfl rfl c_1
    refine lv_aload hx hb dX10_join_48 (lv_at hl 0 rfl) ?_
    refine va_get (D := (dC, dI)) (ci := 1) (v := .ref (la dn f0)) (C := RX2) (T := TX2) (N := 8) hx hb hts inX2 hown hK hP 10 rfl rfl 6 (Nat.le_of_ble_eq_true rfl) (hts _ mw_433) (fun _ h9 => h9) rfl dX10_join_50 ?_
    refine va_get (D := (dC, dI)) (ci := 4) (v := .int (st f0)) (C := RX5) (T := TX5) (N := 6) hx hb hts inX5 hown hK hP 11 rfl rfl 1 (Nat.le_of_ble_eq_true rfl) (hts _ mw_385) (fun _ h9 => h9) rfl dX10_join_53 ?_
    refine lv_iconst (v := 1) hx hb dX10_join_56 rfl ?_
    refine lv_icmp_eq (tgt := 66) hx hb dX10_join_57 rfl (fun c_2 => ?_) (fun c_2 => ?_)
    · have c_2 : (st f0).toInt = 1 := zc_eq rfl rfl c_2
      refine lv_aload hx hb dX10_join_66 (lv_at hl 1 rfl) ?_
      refine va_get (D := (dC, dI)) (ci := 1) (v := .ref (la dn f0)) (C := RX2) (T := TX2) (N := 8) hx hb hts inX2 hown hK hP 10 rfl rfl 6 (Nat.le_of_ble_eq_true rfl) (hts _ mw_433) (fun _ h9 => h9) rfl dX10_join_68 ?_
      refine va_get (D := (dC, dI)) (ci := 4) (v := .int (kd f0)) (C := RX5) (T := TX5) (N := 6) hx hb hts inX5 hown hK hP 11 rfl rfl 0 (Nat.le_of_ble_eq_true rfl) (hts _ mw_381) (fun _ h9 => h9) rfl dX10_join_71 ?_
      refine lv_bipush (v := 6) hx hb dX10_join_74 rfl ?_
      refine lv_icmp_ne (tgt := 92) hx hb dX10_join_76 rfl (fun c_3 => ?_) (fun c_3 => ?_)
      · have c_3 : ¬ (kd f0).toInt = 6 := zc_ne rfl rfl c_3
        exfalso; omega
      · have c_3 : (kd f0).toInt = 6 := zc_eq rfl rfl c_3
        refine lv_aload hx hb dX10_join_79 (lv_at hl 0 rfl) ?_
        refine va_get (D := (dC, dI)) (ci := 1) (v := .ref (la dn f0)) (C := RX2) (T := TX2) (N := 8) hx hb hts inX2 hown hK hP 10 rfl rfl 6 (Nat.le_of_ble_eq_true rfl) (hts _ mw_433) (fun _ h9 => h9) rfl dX10_join_81 ?_
        refine va_get (D := (dC, dI)) (ci := 4) (v := .int (kd f0)) (C := RX5) (T := TX5) (N := 6) hx hb hts inX5 hown hK hP 11 rfl rfl 0 (Nat.le_of_ble_eq_true rfl) (hts _ mw_381) (fun _ h9 => h9) rfl dX10_join_84 ?_
        refine lv_bipush (v := 6) hx hb dX10_join_87 rfl ?_
        refine lv_icmp_eq (tgt := 98) hx hb dX10_join_89 rfl (fun c_4 => ?_) (fun c_4 => ?_)
        · have c_4 : (kd f0).toInt = 6 := zc_eq rfl rfl c_4
          refine lv_iload_n hx hb dX10_join_98 rfl (lv_at hl 5 rfl) ?_
          refine lv_iconst (v := 0) hx hb dX10_join_99 rfl ?_
          refine lv_sipush (v := 1000) hx hb dX10_join_100 rfl ?_
          obtain ⟨hPc, hDc, hFc, hI1⟩ := zi_sub (wc := []) hP hD hS hA [] rfl rfl
          refine zcall (st1 := [.int (pI ((0 : Int32).toInt ≤ gp9.toInt ∧ gp9.toInt ≤ (1000 : Int32).toInt))]) (va_runS (As := [.int gp9, .int 0, .int 1000]) (rest := []) ⟨hx, hb, hml, hown, hts⟩ (k_isWithin l dC dI cI cZ cF H.size gp9 0 1000 ) (csS_14 hts rfl rfl ⟨Nat.le_of_ble_eq_true rfl, Nat.le_of_ble_eq_true rfl⟩) (zPS2 hPc hDc hK3 hXN) rfl rfl hl.1 rfl (lv_room (Nat.le_of_ble_eq_true rfl)) dX10_join_103 ⟨Nat.le_of_ble_eq_true rfl, Nat.le_of_ble_eq_true rfl⟩) hS hFc hFc rfl (fun t H locs ht hB hk1 hS => ?_)
          obtain ⟨hP1, hD1⟩ := hB
          rw [ht] at hP1
          replace hP := z0 hP hD hk1 hP1 hI1
          clear hk1 hPc hDc hFc hP1 hD1 ht hI1
          refine lv_if_ne (tgt := 115) hx hb dX10_join_106 rfl (fun c_5 => ?_) (fun c_5 => ?_)
          · have c_5 : (0 : Int32).toInt ≤ gp9.toInt ∧ gp9.toInt ≤ (1000 : Int32).toInt := zp_1 c_5
            refine lv_aload hx hb dX10_join_115 (lv_at hl 1 rfl) ?_
            refine va_get (D := (dC, dI)) (ci := 1) (v := .ref (la dn f0)) (C := RX2) (T := TX2) (N := 8) hx hb hts inX2 hown hK hP 10 rfl rfl 6 (Nat.le_of_ble_eq_true rfl) (hts _ mw_433) (fun _ h9 => h9) rfl dX10_join_117 ?_
            refine va_get (D := (dC, dI)) (ci := 4) (v := .ref r5) (C := RX5) (T := TX5) (N := 6) hx hb hts inX5 hown hK hP 11 rfl rfl 2 (Nat.le_of_ble_eq_true rfl) (hts _ mw_391) (fun _ h9 => h9) rfl dX10_join_120 ?_
            refine lv_astore (lv' := [(6, .ref r5), (5, .ref (fe f0)), (4, .ref (fe f0)), (0, .ref x), (1, .int (nI f0)), (2, .int (nI f0)), (3, .int gp9)]) hx hb dX10_join_123 hl (Nat.le_of_ble_eq_true rfl) rfl (fun ls hl => ?_)
            refine lv_aload hx hb dX10_join_125 (lv_at hl 1 rfl) ?_
            refine va_get (D := (dC, dI)) (ci := 1) (v := .ref (la dn f0)) (C := RX2) (T := TX2) (N := 8) hx hb hts inX2 hown hK hP 10 rfl rfl 6 (Nat.le_of_ble_eq_true rfl) (hts _ mw_433) (fun _ h9 => h9) rfl dX10_join_127 ?_
            refine va_get (D := (dC, dI)) (ci := 4) (v := .ref r5) (C := RX5) (T := TX5) (N := 6) hx hb hts inX5 hown hK hP 11 rfl rfl 2 (Nat.le_of_ble_eq_true rfl) (hts _ mw_391) (fun _ h9 => h9) rfl dX10_join_130 ?_
            refine lv_astore (lv' := [(7, .ref r5), (6, .ref r5), (5, .ref (fe f0)), (4, .ref (fe f0)), (0, .ref x), (1, .int (nI f0)), (2, .int (nI f0)), (3, .int gp9)]) hx hb dX10_join_133 hl (Nat.le_of_ble_eq_true rfl) rfl (fun ls hl => ?_)
            refine lv_aload hx hb dX10_join_135 (lv_at hl 1 rfl) ?_
            refine lv_ifnull hx hb dX10_join_137 ?_
            refine lv_aload hx hb dX10_join_140 (lv_at hl 0 rfl) ?_
            refine lv_ifnonnull (tgt := 151) hx hb dX10_join_142 rfl ?_
            refine lv_aload_n hx hb dX10_join_151 rfl (lv_at hl 4 rfl) ?_
            refine va_get (D := (dC, dI)) (ci := 8) (v := .ref dq) (C := RX10) (T := TX10) (N := 13) hx hb hts inX10 hown hK hP 0 rfl rfl 5 (Nat.le_of_ble_eq_true rfl) (hts _ mw_314) (fun _ h9 => h9) rfl dX10_join_152 ?_
            refine lv_aload hx hb dX10_join_155 (lv_at hl 1 rfl) ?_
            refine lv_aload hx hb dX10_join_157 (lv_at hl 0 rfl) ?_
            obtain ⟨hPc, hDc, hFc⟩ := zo_sub (wc := [_, _, _, _]) hP hD hS hA [7, 12, 13, 14] (by decide +kernel) rfl
            refine zcall (st1 := []) (va_runV (As := [.ref r5, .ref r5]) (rest := []) ⟨hx, hb, hml, hown, hts⟩ (k_Fr_between_self l dC dI cI cZ cF H.size dq y1 y2 r5 rx5 ry5 (nN (mn f0)) cap5 X5 Y5 (rgK (kd f0).toInt) (by first | with_reducible assumption | omega) (by first | with_reducible assumption | omega) (hp5) (by rw [prt_eO (rgK_t _) hkn0]; unfold eO; split; omega; split <;> omega)) (csV_127 hts rfl rfl ⟨Nat.le_of_ble_eq_true rfl, Nat.le_of_ble_eq_true rfl⟩) (zPV2 (q0 := 0) (ci := 2) hPc hDc hK3 hXN rfl rfl) rfl rfl hl.1 rfl (lv_room (Nat.le_of_ble_eq_true rfl)) dX10_join_159 ⟨Nat.le_of_ble_eq_true rfl, Nat.le_of_ble_eq_true rfl⟩) hS hFc hFc rfl (fun t H locs ht hB hk1 hS => ?_)
            obtain ⟨hP1, hD1⟩ := hB
            rw [ht] at hP1
            obtain ⟨hP, hD⟩ := znQ (W2 := [_, _, _, _, _, _, _, (oc2 dq (jI 0) (jI 1)), _, _, _, _, _, _, _, _, _, _]) hP hD hk1 hFc hP1 hD1 [7, 12, 13, 14] zl_104 zl_104 [7, 12, 13, 14] (by decide +kernel) rfl rfl rfl rfl rfl
            clear hk1 hPc hDc hFc hP1 hD1 ht
            refine lv_aload_n hx hb dX10_join_162 rfl (lv_at hl 4 rfl) ?_
            refine va_get (D := (dC, dI)) (ci := 8) (v := .ref dq) (C := RX10) (T := TX10) (N := 13) hx hb hts inX10 hown hK hP 0 rfl rfl 5 (Nat.le_of_ble_eq_true rfl) (hts _ mw_314) (fun _ h9 => h9) rfl dX10_join_163 ?_
            refine lv_iload_n hx hb dX10_join_166 rfl (lv_at hl 7 rfl) ?_
            obtain ⟨hPc, hDc, hFc, hI1⟩ := zi_sub (wc := [_]) hP hD hS hA [7] rfl rfl
            refine zcall (st1 := [.int (pI (gp9.toInt * gp9.toInt * 1 < 0))]) (va_runV (As := [.int gp9]) (rest := []) ⟨hx, hb, hml, hown, hts⟩ (k_Fr_isOver l dC dI cI cZ cF H.size dq 0 1 gp9 (by first | with_reducible assumption | omega) (by first | with_reducible assumption | omega) (hgp)) (csV_128 hts rfl rfl ⟨Nat.le_of_ble_eq_true rfl, Nat.le_of_ble_eq_true rfl⟩) (zPV2 (q0 := 0) (ci := 2) hPc hDc hK3 hXN rfl rfl) rfl rfl hl.1 rfl (lv_room (Nat.le_of_ble_eq_true rfl)) dX10_join_167 ⟨Nat.le_of_ble_eq_true rfl, Nat.le_of_ble_eq_true rfl⟩) hS hFc hFc rfl (fun t H locs ht hB hk1 hS => ?_)
            obtain ⟨hP1, hD1⟩ := hB
            rw [ht] at hP1
            replace hP := z0 hP hD hk1 hP1 hI1
            clear hk1 hPc hDc hFc hP1 hD1 ht hI1
            refine lv_if_eq (tgt := 179) hx hb dX10_join_170 rfl (fun c_6 => ?_) (fun c_6 => ?_)
            · have c_6 : ¬ (gp9.toInt * gp9.toInt * 1 < 0) := zp_0 c_6
              refine lv_aload_n hx hb dX10_join_179 rfl (lv_at hl 4 rfl) ?_
              refine va_get (D := (dC, dI)) (ci := 8) (v := .ref bq) (C := RX10) (T := TX10) (N := 13) hx hb hts inX10 hown hK hP 0 rfl rfl 3 (Nat.le_of_ble_eq_true rfl) (hts _ mw_312) (fun _ h9 => h9) rfl dX10_join_180 ?_
              refine lv_aload hx hb dX10_join_183 (lv_at hl 1 rfl) ?_
              obtain ⟨hPc, hDc, hFc⟩ := zo_sub (wc := [_, _, _, _]) hP hD hS hA [6, 12, 13, 14] (by decide +kernel) rfl
              refine zcall (st1 := []) (va_runV (As := [.ref r5]) (rest := []) ⟨hx, hb, hml, hown, hts⟩ (k_Box_cover l dC dI cI cZ cF H.size bq c1 c2 c3 c4 r5 rx5 ry5 (nN (mn f0)) cap5 X5 Y5 (rgK (kd f0).toInt) (by first | with_reducible assumption | omega) (by first | with_reducible assumption | omega) ((pls_nr hp5).1) ((pls_nr hp5).2) (by first | with_reducible assumption | omega)) (csV_129 hts rfl rfl ⟨Nat.le_of_ble_eq_true rfl, Nat.le_of_ble_eq_true rfl⟩) (zPV2 (q0 := 0) (ci := 0) hPc hDc hK3 hXN rfl rfl) rfl rfl hl.1 rfl (lv_room (Nat.le_of_ble_eq_true rfl)) dX10_join_185 ⟨Nat.le_of_ble_eq_true rfl, Nat.le_of_ble_eq_true rfl⟩) hS hFc hFc rfl (fun t H locs ht hB hk1 hS => ?_)
              obtain ⟨hP1, hD1⟩ := hB
              rw [ht] at hP1
              obtain ⟨hP, hD⟩ := znQ (W2 := [_, _, _, _, _, _, (oc0 bq (iI (mnI (X5 0).toInt X5 (nN (mn f0)))) (iI (mnI (Y5 0).toInt Y5 (nN (mn f0)))) (iI (mxI (X5 0).toInt X5 (nN (mn f0)))) (iI (mxI (Y5 0).toInt Y5 (nN (mn f0))))), _, _, _, _, _, _, _, _, _, _, _]) hP hD hk1 hFc hP1 hD1 [6, 12, 13, 14] zl_105 zl_105 [6, 12, 13, 14] (by decide +kernel) rfl rfl rfl rfl rfl
              clear hk1 hPc hDc hFc hP1 hD1 ht
              refine lv_aload_n hx hb dX10_join_188 rfl (lv_at hl 4 rfl) ?_
              refine va_get (D := (dC, dI)) (ci := 8) (v := .ref bq) (C := RX10) (T := TX10) (N := 13) hx hb hts inX10 hown hK hP 0 rfl rfl 3 (Nat.le_of_ble_eq_true rfl) (hts _ mw_312) (fun _ h9 => h9) rfl dX10_join_189 ?_
              refine lv_aload hx hb dX10_join_192 (lv_at hl 0 rfl) ?_
              obtain ⟨hPc, hDc, hFc⟩ := zo_sub (wc := [_, _, _, _]) hP hD hS hA [6, 12, 13, 14] (by decide +kernel) rfl
              refine zcall (st1 := []) (va_runV (As := [.ref r5]) (rest := []) ⟨hx, hb, hml, hown, hts⟩ (k_Box_stretch l dC dI cI cZ cF H.size bq (mnI (X5 0).toInt X5 (nN (mn f0))) (mnI (Y5 0).toInt Y5 (nN (mn f0))) (mxI (X5 0).toInt X5 (nN (mn f0))) (mxI (Y5 0).toInt Y5 (nN (mn f0))) r5 rx5 ry5 (nN (mn f0)) cap5 X5 Y5 (rgK (kd f0).toInt) (⟨mnB ((pls_nr hp5).1 0 (by first | with_reducible assumption | omega)) (pls_nr hp5).1 _ (Nat.le_refl _), mnB ((pls_nr hp5).2 0 (by first | with_reducible assumption | omega)) (pls_nr hp5).2 _ (Nat.le_refl _), mxB ((pls_nr hp5).1 0 (by first | with_reducible assumption | omega)) (pls_nr hp5).1 _ (Nat.le_refl _), mxB ((pls_nr hp5).2 0 (by first | with_reducible assumption | omega)) (pls_nr hp5).2 _ (Nat.le_refl _)⟩) (by first | with_reducible assumption | omega) (by first | with_reducible assumption | omega) ((pls_nr hp5).1) ((pls_nr hp5).2)) (csV_130 hts rfl rfl ⟨Nat.le_of_ble_eq_true rfl, Nat.le_of_ble_eq_true rfl⟩) (zPV2 (q0 := 0) (ci := 0) hPc hDc hK3 hXN rfl rfl) rfl rfl hl.1 rfl (lv_room (Nat.le_of_ble_eq_true rfl)) dX10_join_194 ⟨Nat.le_of_ble_eq_true rfl, Nat.le_of_ble_eq_true rfl⟩) hS hFc hFc rfl (fun t H locs ht hB hk1 hS => ?_)
              obtain ⟨hP1, hD1⟩ := hB
              rw [ht] at hP1
              obtain ⟨hP, hD⟩ := znQ (W2 := [_, _, _, _, _, _, (oc0 bq (iI (mnI (mnI (X5 0).toInt X5 (nN (mn f0))) X5 (nN (mn f0)))) (iI (mnI (mnI (Y5 0).toInt Y5 (nN (mn f0))) Y5 (nN (mn f0)))) (iI (mxI (mxI (X5 0).toInt X5 (nN (mn f0))) X5 (nN (mn f0)))) (iI (mxI (mxI (Y5 0).toInt Y5 (nN (mn f0))) Y5 (nN (mn f0))))), _, _, _, _, _, _, _, _, _, _, _]) hP hD hk1 hFc hP1 hD1 [6, 12, 13, 14] zl_105 zl_105 [6, 12, 13, 14] (by decide +kernel) rfl rfl rfl rfl rfl
              clear hk1 hPc hDc hFc hP1 hD1 ht
              refine lv_aload_n hx hb dX10_join_197 rfl (lv_at hl 4 rfl) ?_
              refine va_get (D := (dC, dI)) (ci := 8) (v := .ref lw) (C := RX10) (T := TX10) (N := 13) hx hb hts inX10 hown hK hP 0 rfl rfl 1 (Nat.le_of_ble_eq_true rfl) (hts _ mw_310) (fun _ h9 => h9) rfl dX10_join_198 ?_
              refine va_get (D := (dC, dI)) (ci := 3) (v := .ref dr) (C := RX4) (T := TX4) (N := 6) hx hb hts inX4 hown hK hP 2 rfl rfl 0 (Nat.le_of_ble_eq_true rfl) (hts _ mw_220) (fun _ h9 => h9) rfl dX10_join_201 ?_
              refine lv_aload_n hx hb dX10_join_204 rfl (lv_at hl 4 rfl) ?_
              refine va_get (D := (dC, dI)) (ci := 8) (v := .ref bq) (C := RX10) (T := TX10) (N := 13) hx hb hts inX10 hown hK hP 0 rfl rfl 3 (Nat.le_of_ble_eq_true rfl) (hts _ mw_312) (fun _ h9 => h9) rfl dX10_join_205 ?_
              obtain ⟨hPc, hDc, hFc⟩ := zo_sub (wc := [_, _, _, _]) hP hD hS hA [3, 4, 5, 6] (by decide +kernel) rfl
              refine zcall (st1 := []) (va_runV (As := [.ref bq]) (rest := []) ⟨hx, hb, hml, hown, hts⟩ (k_Row_boxFrom l dC dI cI cZ cF H.size dr dx dy nd cd P Q rd bq (iI (mnI (mnI (X5 0).toInt X5 (nN (mn f0))) X5 (nN (mn f0)))) (iI (mnI (mnI (Y5 0).toInt Y5 (nN (mn f0))) Y5 (nN (mn f0)))) (iI (mxI (mxI (X5 0).toInt X5 (nN (mn f0))) X5 (nN (mn f0)))) (iI (mxI (mxI (Y5 0).toInt Y5 (nN (mn f0))) Y5 (nN (mn f0)))) (by first | with_reducible assumption | omega) (by first | with_reducible assumption | omega)) (csV_131 hts rfl rfl ⟨Nat.le_of_ble_eq_true rfl, Nat.le_of_ble_eq_true rfl⟩) (zPV2 (q0 := 0) (ci := 6) hPc hDc hK3 hXN rfl rfl) rfl rfl hl.1 rfl (lv_room (Nat.le_of_ble_eq_true rfl)) dX10_join_208 ⟨Nat.le_of_ble_eq_true rfl, Nat.le_of_ble_eq_true rfl⟩) hS hFc hFc rfl (fun t H locs ht hB hk1 hS => ?_)
              obtain ⟨hP1, hD1⟩ := hB
              rw [ht] at hP1
              obtain ⟨hP, hD⟩ := znQ (W2 := [_, _, _, (oc6 dr (.ref dx) (.ref dy) (nI 4) 1), (oa dx cI cd (upd (upd (upd (upd P 0 (iI (mnI (mnI (X5 0).toInt X5 (nN (mn f0))) X5 (nN (mn f0))))) 1 (iI (mxI (mxI (X5 0).toInt X5 (nN (mn f0))) X5 (nN (mn f0))))) 2 (iI (mxI (mxI (X5 0).toInt X5 (nN (mn f0))) X5 (nN (mn f0))))) 3 (iI (mnI (mnI (X5 0).toInt X5 (nN (mn f0))) X5 (nN (mn f0)))))), (oa dy cI cd (upd (upd (upd (upd Q 0 (iI (mnI (mnI (Y5 0).toInt Y5 (nN (mn f0))) Y5 (nN (mn f0))))) 1 (iI (mnI (mnI (Y5 0).toInt Y5 (nN (mn f0))) Y5 (nN (mn f0))))) 2 (iI (mxI (mxI (Y5 0).toInt Y5 (nN (mn f0))) Y5 (nN (mn f0))))) 3 (iI (mxI (mxI (Y5 0).toInt Y5 (nN (mn f0))) Y5 (nN (mn f0)))))), _, _, _, _, _, _, _, _, _, _, _, _]) hP hD hk1 hFc hP1 hD1 [3, 4, 5, 6] zl_106 zl_106 [3, 4, 5, 6] (by decide +kernel) rfl rfl rfl rfl rfl
              clear hk1 hPc hDc hFc hP1 hD1 ht
              obtain ⟨P7, hP7⟩ : ∃ z9 : Nat → Int32, z9 = upd (upd (upd (upd P 0 (iI (mnI (mnI (X5 0).toInt X5 (nN (mn f0))) X5 (nN (mn f0))))) 1 (iI (mxI (mxI (X5 0).toInt X5 (nN (mn f0))) X5 (nN (mn f0))))) 2 (iI (mxI (mxI (X5 0).toInt X5 (nN (mn f0))) X5 (nN (mn f0))))) 3 (iI (mnI (mnI (X5 0).toInt X5 (nN (mn f0))) X5 (nN (mn f0)))) := ⟨_, rfl⟩
              rw [← hP7] at hP hD
              obtain ⟨Q7, hQ7⟩ : ∃ z9 : Nat → Int32, z9 = upd (upd (upd (upd Q 0 (iI (mnI (mnI (Y5 0).toInt Y5 (nN (mn f0))) Y5 (nN (mn f0))))) 1 (iI (mnI (mnI (Y5 0).toInt Y5 (nN (mn f0))) Y5 (nN (mn f0))))) 2 (iI (mxI (mxI (Y5 0).toInt Y5 (nN (mn f0))) Y5 (nN (mn f0))))) 3 (iI (mxI (mxI (Y5 0).toInt Y5 (nN (mn f0))) Y5 (nN (mn f0)))) := ⟨_, rfl⟩
              rw [← hQ7] at hP hD
              obtain ⟨hP, hD⟩ := zre (W2 := ([_, _, _, _, _, _, _, _, _, _, _, _, _, _, _, _, _, _] ++ va_pl T_1 f)) hP hD rfl
              have hjb := jbox (cx := cx) (cy := cy) (f := f0) (g := f0) hX5 hX5 hw1.1
              have hjp := jpl (cx := cx) (cy := cy) (f := f0) (n := nN (mn f0)) (g := f0) (m := nN (mn f0)) hwf0.2.2 hw1.1 hwf0.2.2
              have hpd7 : pls 4 P7 Q7 := pls4 (by rw [hP7, hjb.1, hjb.2.1]; exact bx_4) (by rw [hQ7, hjb.2.2.1, hjb.2.2.2]; exact bx_5) hjp.1 hjp.2.1 hjp.2.2.1 hjp.2.2.2
              refine lv_aload_n hx hb dX10_join_211 rfl (lv_at hl 4 rfl) ?_
              refine va_get (D := (dC, dI)) (ci := 8) (v := .ref lw) (C := RX10) (T := TX10) (N := 13) hx hb hts inX10 hown hK hP 0 rfl rfl 1 (Nat.le_of_ble_eq_true rfl) (hts _ mw_310) (fun _ h9 => h9) rfl dX10_join_212 ?_
              refine lv_aload_n hx hb dX10_join_215 rfl (lv_at hl 4 rfl) ?_
              refine va_get (D := (dC, dI)) (ci := 8) (v := .ref sh) (C := RX10) (T := TX10) (N := 13) hx hb hts inX10 hown hK hP 0 rfl rfl 0 (Nat.le_of_ble_eq_true rfl) (hts _ mw_309) (fun _ h9 => h9) rfl dX10_join_216 ?_
              refine lv_aload hx hb dX10_join_219 (lv_at hl 3 rfl) ?_
              refine lv_aload hx hb dX10_join_221 (lv_at hl 2 rfl) ?_
              obtain ⟨hPc, hDc, hFc, hI1⟩ := zi_part (cx := [_, _, _, _, _, _, _, _]) hP hD hS hA [2, 3, 4, 5, 8, 9, 10, 11] (by decide +kernel) rfl
              refine zcall (st1 := [.int (pI (∀ q, q < ft → (q ≠ f0 → lvF ft st tn q → ¬ tch 4 P7 Q7 (1 : Int32) (nN (mn q)) (cF40 cx q) (cF40 cy q) (rgK (kd q).toInt) ∧ ¬ inF 5 4 P7 Q7 (cF40 cx q 0).toInt (cF40 cy q 0).toInt)))]) (va_runV (As := [.ref sh, .ref (fe f0), .ref (fe f0)]) (rest := []) ⟨hx, hb, hml, hown, hts⟩ (k_Law_isFreeFor_1 l dC dI cI cZ cF H.size lw dr tg wy br bo aa dx dy 4 cd P7 Q7 1 sh fa ft FA (fe f0) lo5 (rk f0) (wd f0) (tw f0) (pa f0) (pb f0) (la dn f0) (kd f0) (st f0) (gb f0) (it f0) (nI we5) r5 f0 (.null) T_1 f kd st tn mn cx cy (by first | with_reducible assumption | omega) (by first | with_reducible assumption | omega) (hFA9 f0 (by first | with_reducible assumption | omega)) (hst) (by rw [← hT_1]; exact fc_vw hc5 (by first | with_reducible assumption | omega) (by first | with_reducible assumption | omega) hG.1 hG.2.1 hFA9 (Nat.le_refl _)) (hwf) (hkn) (by first | with_reducible assumption | omega) (by first | with_reducible assumption | omega) (hpd7)) (csV_132 hts rfl rfl ⟨Nat.le_of_ble_eq_true rfl, Nat.le_of_ble_eq_true rfl⟩) (zPV2 (q0 := 0) (ci := 3) hPc hDc hK3 hXN rfl rfl) rfl rfl hl.1 rfl (lv_room (Nat.le_of_ble_eq_true rfl)) dX10_join_223 ⟨Nat.le_of_ble_eq_true rfl, Nat.le_of_ble_eq_true rfl⟩) hS hFc hFc rfl (fun t H locs ht hB hk1 hS => ?_)
              obtain ⟨hP1, hD1⟩ := hB
              rw [ht] at hP1
              replace hP := z0 hP hD hk1 hP1 hI1
              clear hk1 hPc hDc hFc hP1 hD1 ht hI1
              refine lv_if_ne (tgt := 236) hx hb dX10_join_226 rfl (fun c_7 => ?_) (fun c_7 => ?_)
              · have c_7 : ∀ q, q < ft → (q ≠ f0 → lvF ft st tn q → ¬ tch 4 P7 Q7 (1 : Int32) (nN (mn q)) (cF40 cx q) (cF40 cy q) (rgK (kd q).toInt) ∧ ¬ inF 5 4 P7 Q7 (cF40 cx q 0).toInt (cF40 cy q 0).toInt) := zp_1 c_7
                refine lv_aload_n hx hb dX10_join_236 rfl (lv_at hl 4 rfl) ?_
                refine va_get (D := (dC, dI)) (ci := 8) (v := .ref sh) (C := RX10) (T := TX10) (N := 13) hx hb hts inX10 hown hK hP 0 rfl rfl 0 (Nat.le_of_ble_eq_true rfl) (hts _ mw_309) (fun _ h9 => h9) rfl dX10_join_237 ?_
                obtain ⟨hPc, hDc, hFc, hI1⟩ := zi_sub (wc := [_, _]) hP hD hS hA [8, 9] rfl rfl
                refine zcall (st1 := [.int (pI (ft = 200))]) (va_runV (As := []) (rest := []) ⟨hx, hb, hml, hown, hts⟩ (k_Sheet_isFull l dC dI cI cZ cF H.size sh fa ft FA (by first | with_reducible assumption | omega)) (csV_105 hts rfl rfl ⟨Nat.le_of_ble_eq_true rfl, Nat.le_of_ble_eq_true rfl⟩) (zPV2 (q0 := 0) (ci := 7) hPc hDc hK3 hXN rfl rfl) rfl rfl hl.1 rfl (lv_room (Nat.le_of_ble_eq_true rfl)) dX10_join_240 ⟨Nat.le_of_ble_eq_true rfl, Nat.le_of_ble_eq_true rfl⟩) hS hFc hFc rfl (fun t H locs ht hB hk1 hS => ?_)
                obtain ⟨hP1, hD1⟩ := hB
                rw [ht] at hP1
                replace hP := z0 hP hD hk1 hP1 hI1
                clear hk1 hPc hDc hFc hP1 hD1 ht hI1
                refine lv_if_ne (tgt := 253) hx hb dX10_join_243 rfl (fun c_8 => ?_) (fun c_8 => ?_)
                · have c_8 : ft = 200 := zp_1 c_8
                  refine lv_aload_n hx hb dX10_join_253 rfl (lv_at hl 4 rfl) ?_
                  refine lv_bipush (v := 8) hx hb dX10_join_254 rfl ?_
                  obtain ⟨hPc, hDc, hFc⟩ := zo_sub (wc := [_]) hP hD hS hA [0] rfl rfl
                  refine zcall (st1 := [.int (-1)]) (va_runV (As := [.int 8]) (rest := []) ⟨hx, hb, hml, hown, hts⟩ (k_refuse_8 l dC dI cI cZ cF H.size x sh lw ro bq bp dq dp lv sl sd ul su (nI dn) ) (csV_95 hts rfl rfl ⟨Nat.le_of_ble_eq_true rfl, Nat.le_of_ble_eq_true rfl⟩) (zPV2 (q0 := 0) (ci := 8) hPc hDc hK3 hXN rfl rfl) rfl rfl hl.1 rfl (lv_room (Nat.le_of_ble_eq_true rfl)) dX10_join_256 ⟨Nat.le_of_ble_eq_true rfl, Nat.le_of_ble_eq_true rfl⟩) hS hFc hFc rfl (fun t H locs ht hB hk1 hS => ?_)
                  obtain ⟨hP1, hD1⟩ := hB
                  rw [ht] at hP1
                  obtain ⟨hP, hD⟩ := znQ (W2 := [(oc8 x (.ref sh) (.ref lw) (.ref ro) (.ref bq) (.ref bp) (.ref dq) (.ref dp) (.ref lv) (.ref sl) (nI dn) sd ul 8), _, _, _, _, _, _, _, _, _, _, _, _, _, _, _, _, _]) hP hD hk1 hFc hP1 hD1 [0] zl_107 zl_107 [0] (by decide +kernel) rfl rfl rfl rfl rfl
                  clear hk1 hPc hDc hFc hP1 hD1 ht
                  obtain ⟨hP, hD⟩ := pl_bk (X := [_, _, _, _, _, _, _, _, _, _]) hT_1 hP rfl hc9_1 hD0_1 rfl
                  obtain ⟨hP9, hD9⟩ := zu_part (cx := [_, _, _, _, _, _, _, _, _, _]) hP hD [true, true, true, true, true, true, true, true, true, true] rfl rfl
                  rw [hQ9]
                  exact W.iret (v := (-1)) hx hb hr (fun t ht hW => ⟨⟨rfl, ul, 8, 4, P7, Q7, 1, (iI (mnI (mnI (X5 0).toInt X5 (nN (mn f0))) X5 (nN (mn f0)))), (iI (mnI (mnI (Y5 0).toInt Y5 (nN (mn f0))) Y5 (nN (mn f0)))), (iI (mxI (mxI (X5 0).toInt X5 (nN (mn f0))) X5 (nN (mn f0)))), (iI (mxI (mxI (Y5 0).toInt Y5 (nN (mn f0))) Y5 (nN (mn f0)))), (jI 0), (jI 1), by rw [ht]; exact hP9, hD9⟩, hS.F ht⟩) hS.2.2 dX10_join_259
                · have c_8 : ¬ (ft = 200) := zp_0 c_8
                  refine lv_aload hx hb dX10_join_246 (lv_at hl 3 rfl) ?_
                  refine lv_aload hx hb dX10_join_248 (lv_at hl 2 rfl) ?_
                  refine z_acmpne (rx := (fe f0)) (ry := (fe f0)) (tgt := 260) hx hb dX10_join_250 (by decide) (fun c_9 => ?_) (fun c_9 => ?_)
                  · have c_9 : ¬ (fe f0) = (fe f0) := c_9
                    exact absurd rfl c_9
                  · have c_9 : (fe f0) = (fe f0) := c_9
                    refine lv_aload_n hx hb dX10_join_253 rfl (lv_at hl 4 rfl) ?_
                    refine lv_bipush (v := 8) hx hb dX10_join_254 rfl ?_
                    obtain ⟨hPc, hDc, hFc⟩ := zo_sub (wc := [_]) hP hD hS hA [0] rfl rfl
                    refine zcall (st1 := [.int (-1)]) (va_runV (As := [.int 8]) (rest := []) ⟨hx, hb, hml, hown, hts⟩ (k_refuse_8 l dC dI cI cZ cF H.size x sh lw ro bq bp dq dp lv sl sd ul su (nI dn) ) (csV_95 hts rfl rfl ⟨Nat.le_of_ble_eq_true rfl, Nat.le_of_ble_eq_true rfl⟩) (zPV2 (q0 := 0) (ci := 8) hPc hDc hK3 hXN rfl rfl) rfl rfl hl.1 rfl (lv_room (Nat.le_of_ble_eq_true rfl)) dX10_join_256 ⟨Nat.le_of_ble_eq_true rfl, Nat.le_of_ble_eq_true rfl⟩) hS hFc hFc rfl (fun t H locs ht hB hk1 hS => ?_)
                    obtain ⟨hP1, hD1⟩ := hB
                    rw [ht] at hP1
                    obtain ⟨hP, hD⟩ := znQ (W2 := [(oc8 x (.ref sh) (.ref lw) (.ref ro) (.ref bq) (.ref bp) (.ref dq) (.ref dp) (.ref lv) (.ref sl) (nI dn) sd ul 8), _, _, _, _, _, _, _, _, _, _, _, _, _, _, _, _, _]) hP hD hk1 hFc hP1 hD1 [0] zl_107 zl_107 [0] (by decide +kernel) rfl rfl rfl rfl rfl
                    clear hk1 hPc hDc hFc hP1 hD1 ht
                    obtain ⟨hP, hD⟩ := pl_bk (X := [_, _, _, _, _, _, _, _, _, _]) hT_1 hP rfl hc9_1 hD0_1 rfl
                    obtain ⟨hP9, hD9⟩ := zu_part (cx := [_, _, _, _, _, _, _, _, _, _]) hP hD [true, true, true, true, true, true, true, true, true, true] rfl rfl
                    rw [hQ9]
                    exact W.iret (v := (-1)) hx hb hr (fun t ht hW => ⟨⟨rfl, ul, 8, 4, P7, Q7, 1, (iI (mnI (mnI (X5 0).toInt X5 (nN (mn f0))) X5 (nN (mn f0)))), (iI (mnI (mnI (Y5 0).toInt Y5 (nN (mn f0))) Y5 (nN (mn f0)))), (iI (mxI (mxI (X5 0).toInt X5 (nN (mn f0))) X5 (nN (mn f0)))), (iI (mxI (mxI (Y5 0).toInt Y5 (nN (mn f0))) Y5 (nN (mn f0)))), (jI 0), (jI 1), by rw [ht]; exact hP9, hD9⟩, hS.F ht⟩) hS.2.2 dX10_join_259
              · have c_7 : ¬ (∀ q, q < ft → (q ≠ f0 → lvF ft st tn q → ¬ tch 4 P7 Q7 (1 : Int32) (nN (mn q)) (cF40 cx q) (cF40 cy q) (rgK (kd q).toInt) ∧ ¬ inF 5 4 P7 Q7 (cF40 cx q 0).toInt (cF40 cy q 0).toInt)) := zp_0 c_7
                refine lv_aload_n hx hb dX10_join_229 rfl (lv_at hl 4 rfl) ?_
                refine lv_bipush (v := 7) hx hb dX10_join_230 rfl ?_
                obtain ⟨hPc, hDc, hFc⟩ := zo_sub (wc := [_]) hP hD hS hA [0] rfl rfl
                refine zcall (st1 := [.int (-1)]) (va_runV (As := [.int 7]) (rest := []) ⟨hx, hb, hml, hown, hts⟩ (k_refuse_7 l dC dI cI cZ cF H.size x sh lw ro bq bp dq dp lv sl sd ul su (nI dn) ) (csV_95 hts rfl rfl ⟨Nat.le_of_ble_eq_true rfl, Nat.le_of_ble_eq_true rfl⟩) (zPV2 (q0 := 0) (ci := 8) hPc hDc hK3 hXN rfl rfl) rfl rfl hl.1 rfl (lv_room (Nat.le_of_ble_eq_true rfl)) dX10_join_232 ⟨Nat.le_of_ble_eq_true rfl, Nat.le_of_ble_eq_true rfl⟩) hS hFc hFc rfl (fun t H locs ht hB hk1 hS => ?_)
                obtain ⟨hP1, hD1⟩ := hB
                rw [ht] at hP1
                obtain ⟨hP, hD⟩ := znQ (W2 := [(oc8 x (.ref sh) (.ref lw) (.ref ro) (.ref bq) (.ref bp) (.ref dq) (.ref dp) (.ref lv) (.ref sl) (nI dn) sd (ul + 1) 7), _, _, _, _, _, _, _, _, _, _, _, _, _, _, _, _, _]) hP hD hk1 hFc hP1 hD1 [0] zl_107 zl_107 [0] (by decide +kernel) rfl rfl rfl rfl rfl
                clear hk1 hPc hDc hFc hP1 hD1 ht
                obtain ⟨hP, hD⟩ := pl_bk (X := [_, _, _, _, _, _, _, _, _, _]) hT_1 hP rfl hc9_1 hD0_1 rfl
                obtain ⟨hP9, hD9⟩ := zu_part (cx := [_, _, _, _, _, _, _, _, _, _]) hP hD [true, true, true, true, true, true, true, true, true, true] rfl rfl
                rw [hQ9]
                exact W.iret (v := (-1)) hx hb hr (fun t ht hW => ⟨⟨rfl, (ul + 1), 7, 4, P7, Q7, 1, (iI (mnI (mnI (X5 0).toInt X5 (nN (mn f0))) X5 (nN (mn f0)))), (iI (mnI (mnI (Y5 0).toInt Y5 (nN (mn f0))) Y5 (nN (mn f0)))), (iI (mxI (mxI (X5 0).toInt X5 (nN (mn f0))) X5 (nN (mn f0)))), (iI (mxI (mxI (Y5 0).toInt Y5 (nN (mn f0))) Y5 (nN (mn f0)))), (jI 0), (jI 1), by rw [ht]; exact hP9, hD9⟩, hS.F ht⟩) hS.2.2 dX10_join_235
            · have c_6 : gp9.toInt * gp9.toInt * 1 < 0 := zp_1 c_6
              refine lv_aload_n hx hb dX10_join_173 rfl (lv_at hl 4 rfl) ?_
              refine lv_iconst (v := 4) hx hb dX10_join_174 rfl ?_
              obtain ⟨hPc, hDc, hFc⟩ := zo_sub (wc := [_]) hP hD hS hA [0] rfl rfl
              refine zcall (st1 := [.int (-1)]) (va_runV (As := [.int 4]) (rest := []) ⟨hx, hb, hml, hown, hts⟩ (k_refuse_4 l dC dI cI cZ cF H.size x sh lw ro bq bp dq dp lv sl sd ul su (nI dn) ) (csV_95 hts rfl rfl ⟨Nat.le_of_ble_eq_true rfl, Nat.le_of_ble_eq_true rfl⟩) (zPV2 (q0 := 0) (ci := 8) hPc hDc hK3 hXN rfl rfl) rfl rfl hl.1 rfl (lv_room (Nat.le_of_ble_eq_true rfl)) dX10_join_175 ⟨Nat.le_of_ble_eq_true rfl, Nat.le_of_ble_eq_true rfl⟩) hS hFc hFc rfl (fun t H locs ht hB hk1 hS => ?_)
              obtain ⟨hP1, hD1⟩ := hB
              rw [ht] at hP1
              obtain ⟨hP, hD⟩ := znQ (W2 := [(oc8 x (.ref sh) (.ref lw) (.ref ro) (.ref bq) (.ref bp) (.ref dq) (.ref dp) (.ref lv) (.ref sl) (nI dn) sd ul 4), _, _, _, _, _, _, _, _, _, _, _, _, _, _, _, _, _]) hP hD hk1 hFc hP1 hD1 [0] zl_107 zl_107 [0] (by decide +kernel) rfl rfl rfl rfl rfl
              clear hk1 hPc hDc hFc hP1 hD1 ht
              obtain ⟨hP, hD⟩ := pl_bk (X := [_, _, _, _, _, _, _, _, _, _]) hT_1 hP rfl hc9_1 hD0_1 rfl
              obtain ⟨hP9, hD9⟩ := zu_part (cx := [_, _, _, _, _, _, _, _, _, _]) hP hD [true, true, true, true, true, true, true, true, true, true] rfl rfl
              rw [hQ9]
              exact W.iret (v := (-1)) hx hb hr (fun t ht hW => ⟨⟨rfl, ul, 4, nd, P, Q, rd, c1, c2, c3, c4, (jI 0), (jI 1), by rw [ht]; exact hP9, hD9⟩, hS.F ht⟩) hS.2.2 dX10_join_178
          · have c_5 : ¬ ((0 : Int32).toInt ≤ gp9.toInt ∧ gp9.toInt ≤ (1000 : Int32).toInt) := zp_0 c_5
            exfalso; omega
        · have c_4 : ¬ (kd f0).toInt = 6 := zc_ne rfl rfl c_4
          exfalso; omega
    · have c_2 : ¬ (st f0).toInt = 1 := zc_ne rfl rfl c_2
      exfalso; omega
end
