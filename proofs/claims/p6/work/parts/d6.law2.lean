section
set_option maxHeartbeats 4000000 in
set_option maxRecDepth 100000 in
theorem k_Law_isSweptByCut (l : Launch) (dC : Nat → ClassId) (dI : Nat → Nat → Nat) (cI cZ cF : ClassId) (sz : Nat) (lw : Nat) (dr : Nat) (tg : Nat) (wy : Nat) (br : Nat) (bo : Nat) (aa : Nat) (tx : Nat) (ty : Nat) (nt : Nat) (TX : Nat → Int32) (TY : Nat → Int32) (rt : Int32) (r : Nat) (rx : Nat) (ry : Nat) (n : Nat) (cap : Nat) (X : Nat → Int32) (Y : Nat → Int32) (rg : Int32) (u : Nat) (ux : Nat) (uy : Nat) (m2 : Nat) (cap2 : Nat) (U : Nat → Int32) (V : Nat → Int32) (rh : Int32) (k : Nat) (hn : n ≤ cap) (hcap : cap ≤ 1000) (hp : pls n X Y) (hm : m2 ≤ cap2) (hcap2 : cap2 ≤ 1000) (hq : pls m2 U V) (hk : k < n) : zM l yX4_isSweptByCut cX4_isSweptByCut 6 (some .boolean) ({ frames := 2, cells := 0, slots := 0, locals := 55 } : Room) [.ref lw, .ref r, .ref u, .int (nI k)] (dC, dI) (zTy cI cZ cF) [(oc3 lw (.ref dr) (.ref tg) (.ref wy) (.ref br) (.ref bo) (.ref aa)), (oc6 tg (.ref tx) (.ref ty) (nI nt) rt), (oa tx cI 3 TX), (oa ty cI 3 TY), (oc6 r (.ref rx) (.ref ry) (nI n) rg), (oa rx cI cap X), (oa ry cI cap Y), (oc6 u (.ref ux) (.ref uy) (nI m2) rh), (oa ux cI cap2 U), (oa uy cI cap2 V)] sz (some (.int (pI (∃ j, j < m2 ∧ swC n X Y k (U j).toInt (V j).toInt)))) (fun A t => ∃ (nt1 : Nat), ∃ (TX1 : Nat → Int32), ∃ (TY1 : Nat → Int32), ∃ (rt1 : Int32), zPD (dC, dI) classes A [(oc3 lw (.ref dr) (.ref tg) (.ref wy) (.ref br) (.ref bo) (.ref aa)), (oc6 tg (.ref tx) (.ref ty) (nI nt1) rt1), (oa tx cI 3 TX1), (oa ty cI 3 TY1), (oc6 r (.ref rx) (.ref ry) (nI n) rg), (oa rx cI cap X), (oa ry cI cap Y), (oc6 u (.ref ux) (.ref uy) (nI m2) rh), (oa ux cI cap2 U), (oa uy cI cap2 V)] t.heap) 0 0 := by
  refine zIn (own := "ScaleShop$Law") (loc := [(0, .ref lw), (1, .ref r), (2, .ref u), (3, .int (nI k))]) rfl rfl rfl rfl (fun p e s m below meth c hx hb hr hts hown hlocks hml hnm9 A hA hS hP hD hK hXN Q9 hQ9 ls hl => ?_)
  have hpv := prv_lt (n := n) (i := k) hk
  have hnx := nxt_lt (n := n) (i := k) (by omega)
  refine lv_aload_n hx hb dX4_isSweptByCut_0 rfl (lv_at hl 1 rfl) ?_
  refine lv_iload_n hx hb dX4_isSweptByCut_1 rfl (lv_at hl 3 rfl) ?_
  obtain ⟨hPc, hDc, hFc⟩ := zo_sub (wc := [_, _, _]) hP hD hS hA [4, 5, 6] rfl rfl
  refine zcall (st1 := [.int (nI (prv n k))]) (va_runV (As := [.int (nI k)]) (rest := []) ⟨hx, hb, hml, hown, hts⟩ (k_Row_previous l dC dI cI cZ cF s.heap.size r rx ry n cap X Y rg k (by first | with_reducible assumption | omega) (by first | with_reducible assumption | omega) (by first | with_reducible assumption | omega)) (csV_48 hts rfl rfl ⟨Nat.le_of_ble_eq_true rfl, Nat.le_of_ble_eq_true rfl⟩) (zPV2 (q0 := 0) (ci := 6) hPc hDc hK hXN rfl rfl) rfl rfl hl.1 rfl (lv_room (Nat.le_of_ble_eq_true rfl)) dX4_isSweptByCut_2 ⟨Nat.le_of_ble_eq_true rfl, Nat.le_of_ble_eq_true rfl⟩) hS hFc hFc rfl (fun t H locs ht hB hk1 hS => ?_)
  obtain ⟨hP1, hD1⟩ := hB
  rw [ht] at hP1
  obtain ⟨hP, hD⟩ := zn (W2 := [_, _, _, _, _, _, _, _, _, _]) hP hD hk1 hFc hP1 hD1 [4, 5, 6] [true, true, true, true, false, false, false, true, true, true] [true, true, true, true, false, false, false, true, true, true] [4, 5, 6] (by decide +kernel) rfl rfl rfl rfl rfl
  clear hk1 hPc hDc hFc hP1 hD1 ht
  refine lv_istore (lv' := [(4, .int (nI (prv n k))), (0, .ref lw), (1, .ref r), (2, .ref u), (3, .int (nI k))]) hx hb dX4_isSweptByCut_5 hl (Nat.le_of_ble_eq_true rfl) rfl (fun ls hl => ?_)
  refine lv_aload_n hx hb dX4_isSweptByCut_7 rfl (lv_at hl 2 rfl) ?_
  refine lv_iload_n hx hb dX4_isSweptByCut_8 rfl (lv_at hl 4 rfl) ?_
  obtain ⟨hPc, hDc, hFc⟩ := zo_sub (wc := [_, _, _]) hP hD hS hA [4, 5, 6] rfl rfl
  refine zcall (st1 := [.int (nI (nxt n k))]) (va_runV (As := [.int (nI k)]) (rest := []) ⟨hx, hb, hml, hown, hts⟩ (k_Row_next l dC dI cI cZ cF H.size r rx ry n cap X Y rg k (by first | with_reducible assumption | omega) (by first | with_reducible assumption | omega) (by first | with_reducible assumption | omega)) (csV_44 hts rfl rfl ⟨Nat.le_of_ble_eq_true rfl, Nat.le_of_ble_eq_true rfl⟩) (zPV2 (q0 := 0) (ci := 6) hPc hDc hK hXN rfl rfl) rfl rfl hl.1 rfl (lv_room (Nat.le_of_ble_eq_true rfl)) dX4_isSweptByCut_9 ⟨Nat.le_of_ble_eq_true rfl, Nat.le_of_ble_eq_true rfl⟩) hS hFc hFc rfl (fun t H locs ht hB hk1 hS => ?_)
  obtain ⟨hP1, hD1⟩ := hB
  rw [ht] at hP1
  obtain ⟨hP, hD⟩ := zn (W2 := [_, _, _, _, _, _, _, _, _, _]) hP hD hk1 hFc hP1 hD1 [4, 5, 6] [true, true, true, true, false, false, false, true, true, true] [true, true, true, true, false, false, false, true, true, true] [4, 5, 6] (by decide +kernel) rfl rfl rfl rfl rfl
  clear hk1 hPc hDc hFc hP1 hD1 ht
  refine lv_istore (lv' := [(5, .int (nI (nxt n k))), (4, .int (nI (prv n k))), (0, .ref lw), (1, .ref r), (2, .ref u), (3, .int (nI k))]) hx hb dX4_isSweptByCut_12 hl (Nat.le_of_ble_eq_true rfl) rfl (fun ls hl => ?_)
  refine lv_aload_n hx hb dX4_isSweptByCut_14 rfl (lv_at hl 2 rfl) ?_
  refine lv_aload_n hx hb dX4_isSweptByCut_15 rfl (lv_at hl 3 rfl) ?_
  refine lv_iload hx hb dX4_isSweptByCut_16 (lv_at hl 1 rfl) ?_
  refine lv_aload_n hx hb dX4_isSweptByCut_18 rfl (lv_at hl 3 rfl) ?_
  refine lv_iload_n hx hb dX4_isSweptByCut_19 rfl (lv_at hl 5 rfl) ?_
  refine lv_aload_n hx hb dX4_isSweptByCut_20 rfl (lv_at hl 3 rfl) ?_
  refine lv_iload hx hb dX4_isSweptByCut_21 (lv_at hl 0 rfl) ?_
  obtain ⟨hPc, hDc, hFc⟩ := zo_sub (wc := [_, _, _, _, _, _, _]) hP hD hS hA [0, 1, 2, 3, 4, 5, 6] (by decide +kernel) rfl
  refine zcall (st1 := []) (va_runV (As := [.ref r, .int (nI (prv n k)), .ref r, .int (nI k), .ref r, .int (nI (nxt n k))]) (rest := []) ⟨hx, hb, hml, hown, hts⟩ (k_Law_setTriangle_ooo l dC dI cI cZ cF H.size lw dr tg wy br bo aa tx ty nt TX TY rt r rx ry n cap X Y rg (prv n k) k (nxt n k) (by first | with_reducible assumption | omega) (by first | with_reducible assumption | omega) (by first | with_reducible assumption | omega) (by first | with_reducible assumption | omega) (by first | with_reducible assumption | omega)) (csV_49 hts rfl rfl ⟨Nat.le_of_ble_eq_true rfl, Nat.le_of_ble_eq_true rfl⟩) (zPV2 (q0 := 0) (ci := 3) hPc hDc hK hXN rfl rfl) rfl rfl hl.1 rfl (lv_room (Nat.le_of_ble_eq_true rfl)) dX4_isSweptByCut_23 ⟨Nat.le_of_ble_eq_true rfl, Nat.le_of_ble_eq_true rfl⟩) hS hFc hFc rfl (fun t H locs ht hB hk1 hS => ?_)
  obtain ⟨hP1, hD1⟩ := hB
  rw [ht] at hP1
  obtain ⟨hP, hD⟩ := zn (W2 := [_, (oc6 tg (.ref tx) (.ref ty) (nI 3) 1), (oa tx cI 3 (upd (upd (upd TX 0 (X (prv n k))) 1 (X k)) 2 (X (nxt n k)))), (oa ty cI 3 (upd (upd (upd TY 0 (Y (prv n k))) 1 (Y k)) 2 (Y (nxt n k)))), _, _, _, _, _, _]) hP hD hk1 hFc hP1 hD1 [0, 1, 2, 3, 4, 5, 6] [false, false, false, false, false, false, false, true, true, true] [false, false, false, false, false, false, false, true, true, true] [0, 1, 2, 3, 4, 5, 6] (by decide +kernel) rfl rfl rfl rfl rfl
  clear hk1 hPc hDc hFc hP1 hD1 ht
  refine lv_aload_n hx hb dX4_isSweptByCut_26 rfl (lv_at hl 2 rfl) ?_
  refine lv_aload_n hx hb dX4_isSweptByCut_27 rfl (lv_at hl 4 rfl) ?_
  refine lv_aload_n hx hb dX4_isSweptByCut_28 rfl (lv_at hl 3 rfl) ?_
  refine lv_iload hx hb dX4_isSweptByCut_29 (lv_at hl 1 rfl) ?_
  refine lv_aload_n hx hb dX4_isSweptByCut_31 rfl (lv_at hl 3 rfl) ?_
  refine lv_iload hx hb dX4_isSweptByCut_32 (lv_at hl 0 rfl) ?_
  obtain ⟨hPc, hDc, hFc⟩ := zo_sub (wc := [_, _, _, _, _, _, _, _, _, _]) hP hD hS hA [0, 1, 2, 3, 7, 8, 9, 4, 5, 6] (by decide +kernel) rfl
  refine zcall (st1 := [.int (pI (∃ j7, j7 < m2 ∧ ¬ ((X (prv n k)).toInt = (U j7).toInt ∧ (Y (prv n k)).toInt = (V j7).toInt) ∧ ¬ ((X (nxt n k)).toInt = (U j7).toInt ∧ (Y (nxt n k)).toInt = (V j7).toInt) ∧ ¬ (whr 3 (upd (upd (upd TX 0 (X (prv n k))) 1 (X k)) 2 (X (nxt n k))) (upd (upd (upd TY 0 (Y (prv n k))) 1 (Y k)) 2 (Y (nxt n k))) (U j7).toInt (V j7).toInt).toInt = 0))]) (va_runV (As := [.ref u, .ref r, .int (nI (prv n k)), .ref r, .int (nI (nxt n k))]) (rest := []) ⟨hx, hb, hml, hown, hts⟩ (k_Law_holdsCorner_rr l dC dI cI cZ cF H.size lw dr tg wy br bo aa tx ty (upd (upd (upd TX 0 (X (prv n k))) 1 (X k)) 2 (X (nxt n k))) (upd (upd (upd TY 0 (Y (prv n k))) 1 (Y k)) 2 (Y (nxt n k))) u ux uy m2 cap2 U V rh r rx ry n cap X Y rg (prv n k) (nxt n k) (by first | with_reducible assumption | omega) (by first | with_reducible assumption | omega) (by first | with_reducible assumption | omega) (by first | with_reducible assumption | omega) (hq) (tr3_pl (hp _ hpv).1 (hp _ hpv).2 (hp _ hk).1 (hp _ hk).2 (hp _ hnx).1 (hp _ hnx).2) (by first | with_reducible assumption | omega) (by first | with_reducible assumption | omega)) (csV_50 hts rfl rfl ⟨Nat.le_of_ble_eq_true rfl, Nat.le_of_ble_eq_true rfl⟩) (zPV2 (q0 := 0) (ci := 3) hPc hDc hK hXN rfl rfl) rfl rfl hl.1 rfl (lv_room (Nat.le_of_ble_eq_true rfl)) dX4_isSweptByCut_34 ⟨Nat.le_of_ble_eq_true rfl, Nat.le_of_ble_eq_true rfl⟩) hS hFc hFc rfl (fun t H locs ht hB hk1 hS => ?_)
  obtain ⟨hP1, hD1⟩ := hB
  rw [ht] at hP1
  obtain ⟨hP, hD⟩ := zn (W2 := [_, _, _, _, _, _, _, _, _, _]) hP hD hk1 hFc hP1 hD1 [0, 1, 2, 3, 7, 8, 9, 4, 5, 6] [] [false, false, false, false, false, false, false, false, false, false] [0, 1, 2, 3, 7, 8, 9, 4, 5, 6] (by decide +kernel) rfl rfl rfl rfl rfl
  clear hk1 hPc hDc hFc hP1 hD1 ht
  obtain ⟨hP9, hD9⟩ := zu_sub (wc := [_, _, _, _, _, _, _, _, _, _]) hP hD [true, true, true, true, true, true, true, true, true, true] rfl rfl
  rw [hQ9]
  exact W.zret (ty := .boolean) (v := pI (∃ j7, j7 < m2 ∧ ¬ ((X (prv n k)).toInt = (U j7).toInt ∧ (Y (prv n k)).toInt = (V j7).toInt) ∧ ¬ ((X (nxt n k)).toInt = (U j7).toInt ∧ (Y (nxt n k)).toInt = (V j7).toInt) ∧ ¬ (whr 3 (upd (upd (upd TX 0 (X (prv n k))) 1 (X k)) 2 (X (nxt n k))) (upd (upd (upd TY 0 (Y (prv n k))) 1 (Y k)) 2 (Y (nxt n k))) (U j7).toInt (V j7).toInt).toInt = 0)) hx hb hr (zp_nar _) (fun t ht hW => ⟨⟨congrArg (fun z => Outcome.returned (some (Value.int z))) (show (pI (∃ j7, j7 < m2 ∧ ¬ ((X (prv n k)).toInt = (U j7).toInt ∧ (Y (prv n k)).toInt = (V j7).toInt) ∧ ¬ ((X (nxt n k)).toInt = (U j7).toInt ∧ (Y (nxt n k)).toInt = (V j7).toInt) ∧ ¬ (whr 3 (upd (upd (upd TX 0 (X (prv n k))) 1 (X k)) 2 (X (nxt n k))) (upd (upd (upd TY 0 (Y (prv n k))) 1 (Y k)) 2 (Y (nxt n k))) (U j7).toInt (V j7).toInt).toInt = 0) : Int32) = pI (∃ j, j < m2 ∧ swC n X Y k (U j).toInt (V j).toInt) from zp_iff (exists_congr fun j => and_congr_right fun _ => and_congr_right fun _ => and_congr_right fun _ => wtR_e)), 3, (upd (upd (upd TX 0 (X (prv n k))) 1 (X k)) 2 (X (nxt n k))), (upd (upd (upd TY 0 (Y (prv n k))) 1 (Y k)) 2 (Y (nxt n k))), 1, by rw [ht]; exact hP9, hD9⟩, hS.F ht⟩) hS.2.2 dX4_isSweptByCut_37
set_option maxHeartbeats 4000000 in
set_option maxRecDepth 100000 in
theorem k_Law_isSweptByMove (l : Launch) (dC : Nat → ClassId) (dI : Nat → Nat → Nat) (cI cZ cF : ClassId) (sz : Nat) (lw : Nat) (dr : Nat) (tg : Nat) (wy : Nat) (br : Nat) (bo : Nat) (aa : Nat) (tx : Nat) (ty : Nat) (nt : Nat) (TX : Nat → Int32) (TY : Nat → Int32) (rt : Int32) (dx : Nat) (dy : Nat) (nd : Nat) (cd : Nat) (P : Nat → Int32) (Q : Nat → Int32) (rd : Int32) (r : Nat) (rx : Nat) (ry : Nat) (n : Nat) (cap : Nat) (X : Nat → Int32) (Y : Nat → Int32) (rg : Int32) (u : Nat) (ux : Nat) (uy : Nat) (m2 : Nat) (cap2 : Nat) (U : Nat → Int32) (V : Nat → Int32) (rh : Int32) (hnd : nd ≤ cd) (hcd : cd ≤ 1000) (hpd : pls nd P Q) (hn : n ≤ cap) (hcap : cap ≤ 1000) (hp : pls n X Y) (hm : m2 ≤ cap2) (hcap2 : cap2 ≤ 1000) (hq : pls m2 U V) (hdn : nd = n) : zM l yX4_isSweptByMove cX4_isSweptByMove 7 (some .boolean) ({ frames := 2, cells := 0, slots := 0, locals := 55 } : Room) [.ref lw, .ref r, .ref u] (dC, dI) (zTy cI cZ cF) [(oc3 lw (.ref dr) (.ref tg) (.ref wy) (.ref br) (.ref bo) (.ref aa)), (oc6 tg (.ref tx) (.ref ty) (nI nt) rt), (oa tx cI 3 TX), (oa ty cI 3 TY), (oc6 dr (.ref dx) (.ref dy) (nI nd) rd), (oa dx cI cd P), (oa dy cI cd Q), (oc6 r (.ref rx) (.ref ry) (nI n) rg), (oa rx cI cap X), (oa ry cI cap Y), (oc6 u (.ref ux) (.ref uy) (nI m2) rh), (oa ux cI cap2 U), (oa uy cI cap2 V)] sz (some (.int (pI (∃ i, i < edg n rg ∧ ∃ k, k < m2 ∧ swR n X Y P Q (U k).toInt (V k).toInt i)))) (fun A t => ∃ (nt1 : Nat), ∃ (TX1 : Nat → Int32), ∃ (TY1 : Nat → Int32), ∃ (rt1 : Int32), zPD (dC, dI) classes A [(oc3 lw (.ref dr) (.ref tg) (.ref wy) (.ref br) (.ref bo) (.ref aa)), (oc6 tg (.ref tx) (.ref ty) (nI nt1) rt1), (oa tx cI 3 TX1), (oa ty cI 3 TY1), (oc6 dr (.ref dx) (.ref dy) (nI nd) rd), (oa dx cI cd P), (oa dy cI cd Q), (oc6 r (.ref rx) (.ref ry) (nI n) rg), (oa rx cI cap X), (oa ry cI cap Y), (oc6 u (.ref ux) (.ref uy) (nI m2) rh), (oa ux cI cap2 U), (oa uy cI cap2 V)] t.heap) 0 0 := by
  refine zIn (own := "ScaleShop$Law") (loc := [(0, .ref lw), (1, .ref r), (2, .ref u)]) rfl rfl rfl rfl (fun p e s m below meth c hx hb hr hts hown hlocks hml hnm9 A hA hS hP hD hK hXN Q9 hQ9 ls hl => ?_)
  have hle := edg_le n rg
  refine lv_iconst (v := 0) hx hb dX4_isSweptByMove_0 rfl ?_
  refine lv_istore_n (lv' := [(3, .int 0), (0, .ref lw), (1, .ref r), (2, .ref u)]) hx hb dX4_isSweptByMove_1 rfl hl (Nat.le_of_ble_eq_true rfl) rfl (fun ls hl => ?_)
  have hl_2 : ∀ (n9 : Nat) (i : Nat) (nt1 : Nat) (TX1 : Nat → Int32) (TY1 : Nat → Int32) (rt1 : Int32) (H : Heap) (locs : List Loc) (ls : Array Slot), edg n rg - i < n9 → (i ≤ edg n rg) → (∀ j, j < i → ∀ k, k < m2 → ¬ swR n X Y P Q (U k).toInt (V k).toInt j) → va_P (dC, dI) classes [(oc3 lw (.ref dr) (.ref tg) (.ref wy) (.ref br) (.ref bo) (.ref aa)), (oc6 tg (.ref tx) (.ref ty) (nI nt1) rt1), (oa tx cI 3 TX1), (oa ty cI 3 TY1), (oc6 dr (.ref dx) (.ref dy) (nI nd) rd), (oa dx cI cd P), (oa dy cI cd Q), (oc6 r (.ref rx) (.ref ry) (nI n) rg), (oa rx cI cap X), (oa ry cI cap Y), (oc6 u (.ref ux) (.ref uy) (nI m2) rh), (oa ux cI cap2 U), (oa uy cI cap2 V)] H → va_D A [(oc3 lw (.ref dr) (.ref tg) (.ref wy) (.ref br) (.ref bo) (.ref aa)), (oc6 tg (.ref tx) (.ref ty) (nI nt1) rt1), (oa tx cI 3 TX1), (oa ty cI 3 TY1), (oc6 dr (.ref dx) (.ref dy) (nI nd) rd), (oa dx cI cd P), (oa dy cI cd Q), (oc6 r (.ref rx) (.ref ry) (nI n) rg), (oa rx cI cap X), (oa ry cI cap Y), (oc6 u (.ref ux) (.ref uy) (nI m2) rh), (oa ux cI cap2 U), (oa uy cI cap2 V)] → va_S A s.heap H locs → lv_has ls 7 [(3, .int (nI i)), (0, .ref lw), (1, .ref r), (2, .ref u)] → W p l e ({ frames := 2, cells := 0, slots := 0, locals := 55 } : Room) s m ([.ref lw, .ref r, .ref u] : List Value).toArray below meth c H locs 0 0 Q9 (F0 m 2 ls []) := by
    intro n9
    induction n9 with
    | zero => intro i nt1 TX1 TY1 rt1 H locs ls hm; exact absurd hm (Nat.not_lt_zero _)
    | succ n9 ih_2 =>
      intro i nt1 TX1 TY1 rt1 H locs ls hm hi hno hP hD hS hl
      refine lv_iload_n hx hb dX4_isSweptByMove_2 rfl (lv_at hl 0 rfl) ?_
      refine lv_aload_n hx hb dX4_isSweptByMove_3 rfl (lv_at hl 2 rfl) ?_
      obtain ⟨hPc, hDc, hFc⟩ := zo_sub (wc := [_, _, _]) hP hD hS hA [7, 8, 9] rfl rfl
      refine zcall (st1 := [.int (nI (edg n rg)), .int (nI i)]) (va_runV (As := []) (rest := [.int (nI i)]) ⟨hx, hb, hml, hown, hts⟩ (k_Row_edges l dC dI cI cZ cF H.size r rx ry n cap X Y rg (by first | with_reducible assumption | omega) (by first | with_reducible assumption | omega)) (csV_51 hts rfl rfl ⟨Nat.le_of_ble_eq_true rfl, Nat.le_of_ble_eq_true rfl⟩) (zPV2 (q0 := 0) (ci := 6) hPc hDc hK hXN rfl rfl) rfl rfl hl.1 rfl (lv_room (Nat.le_of_ble_eq_true rfl)) dX4_isSweptByMove_4 ⟨Nat.le_of_ble_eq_true rfl, Nat.le_of_ble_eq_true rfl⟩) hS hFc hFc rfl (fun t H locs ht hB hk1 hS => ?_)
      obtain ⟨hP1, hD1⟩ := hB
      rw [ht] at hP1
      obtain ⟨hP, hD⟩ := zn (W2 := [_, _, _, _, _, _, _, _, _, _, _, _, _]) hP hD hk1 hFc hP1 hD1 [7, 8, 9] [true, true, true, true, true, true, true, false, false, false, true, true, true] [true, true, true, true, true, true, true, false, false, false, true, true, true] [7, 8, 9] (by decide +kernel) rfl rfl rfl rfl rfl
      clear hk1 hPc hDc hFc hP1 hD1 ht
      have b9_2 : i < 2147483648 := by omega
      have b9_3 : (edg n rg) < 2147483648 := by omega
      refine lv_icmp_ge (tgt := 165) hx hb dX4_isSweptByMove_7 rfl (fun c_1 => ?_) (fun c_1 => ?_)
      · have c_1 : ((edg n rg : Nat) : Int) ≤ ((i : Nat) : Int) := zc_le (nI_toInt b9_3) (nI_toInt b9_2) c_1
        refine lv_iconst (v := 0) hx hb dX4_isSweptByMove_165 rfl ?_
        obtain ⟨hP9, hD9⟩ := zu_sub (wc := [_, _, _, _, _, _, _, _, _, _, _, _, _]) hP hD [true, true, true, true, true, true, true, true, true, true, true, true, true] rfl rfl
        rw [hQ9]
        exact W.zret (ty := .boolean) (v := 0) hx hb hr (rfl) (fun t ht hW => ⟨⟨congrArg (fun z => Outcome.returned (some (Value.int z))) (show (0 : Int32) = pI (∃ i, i < edg n rg ∧ ∃ k, k < m2 ∧ swR n X Y P Q (U k).toInt (V k).toInt i) from (zp_f (fun ⟨j, hj, k, hk, h⟩ => hno j (by omega) k hk h)).symm), nt1, TX1, TY1, rt1, by rw [ht]; exact hP9, hD9⟩, hS.F ht⟩) hS.2.2 dX4_isSweptByMove_166
      · have c_1 : ((i : Nat) : Int) < ((edg n rg : Nat) : Int) := zc_nle (nI_toInt b9_3) (nI_toInt b9_2) c_1
        have hin : i < n := (by omega)
        have hnx := nxt_lt (n := n) (i := i) (by omega)
        have hid9 : i < nd := (by omega)
        have hnd9 : nxt n i < nd := (by omega)
        refine lv_aload_n hx hb dX4_isSweptByMove_10 rfl (lv_at hl 2 rfl) ?_
        refine lv_iload_n hx hb dX4_isSweptByMove_11 rfl (lv_at hl 0 rfl) ?_
        obtain ⟨hPc, hDc, hFc⟩ := zo_sub (wc := [_, _, _]) hP hD hS hA [7, 8, 9] rfl rfl
        refine zcall (st1 := [.int (nI (nxt n i))]) (va_runV (As := [.int (nI i)]) (rest := []) ⟨hx, hb, hml, hown, hts⟩ (k_Row_next l dC dI cI cZ cF H.size r rx ry n cap X Y rg i (by first | with_reducible assumption | omega) (by first | with_reducible assumption | omega) (by first | with_reducible assumption | omega)) (csV_44 hts rfl rfl ⟨Nat.le_of_ble_eq_true rfl, Nat.le_of_ble_eq_true rfl⟩) (zPV2 (q0 := 0) (ci := 6) hPc hDc hK hXN rfl rfl) rfl rfl hl.1 rfl (lv_room (Nat.le_of_ble_eq_true rfl)) dX4_isSweptByMove_12 ⟨Nat.le_of_ble_eq_true rfl, Nat.le_of_ble_eq_true rfl⟩) hS hFc hFc rfl (fun t H locs ht hB hk1 hS => ?_)
        obtain ⟨hP1, hD1⟩ := hB
        rw [ht] at hP1
        obtain ⟨hP, hD⟩ := zn (W2 := [_, _, _, _, _, _, _, _, _, _, _, _, _]) hP hD hk1 hFc hP1 hD1 [7, 8, 9] [true, true, true, true, true, true, true, false, false, false, true, true, true] [true, true, true, true, true, true, true, false, false, false, true, true, true] [7, 8, 9] (by decide +kernel) rfl rfl rfl rfl rfl
        clear hk1 hPc hDc hFc hP1 hD1 ht
        refine lv_istore (lv' := [(4, .int (nI (nxt n i))), (3, .int (nI i)), (0, .ref lw), (1, .ref r), (2, .ref u)]) hx hb dX4_isSweptByMove_15 hl (Nat.le_of_ble_eq_true rfl) rfl (fun ls hl => ?_)
        refine lv_aload_n hx hb dX4_isSweptByMove_17 rfl (lv_at hl 2 rfl) ?_
        refine va_get (D := (dC, dI)) (ci := 3) (v := .ref dr) (C := RX4) (T := TX4) (N := 6) hx hb hts inX4 hown hK hP 0 rfl rfl 0 (Nat.le_of_ble_eq_true rfl) (hts _ mw_219) (fun _ h9 => h9) rfl dX4_isSweptByMove_18 ?_
        refine lv_iload_n hx hb dX4_isSweptByMove_21 rfl (lv_at hl 1 rfl) ?_
        refine lv_aload_n hx hb dX4_isSweptByMove_22 rfl (lv_at hl 3 rfl) ?_
        refine va_get (D := (dC, dI)) (ci := 6) (v := .ref rx) (C := RX7) (T := TX7) (N := 4) hx hb hts inX7 hown hK hP 7 rfl rfl 0 (Nat.le_of_ble_eq_true rfl) (hts _ mw_163) (fun _ h9 => h9) rfl dX4_isSweptByMove_23 ?_
        refine lv_iload_n hx hb dX4_isSweptByMove_26 rfl (lv_at hl 1 rfl) ?_
        have b9_4 : i < cap := by omega
        have b9_5 : cap < 2147483648 := by omega
        refine z_iald hx hb hK hP 8 0 rfl rfl (e := i) rfl b9_4 b9_5 dX4_isSweptByMove_27 ?_
        refine lv_aload_n hx hb dX4_isSweptByMove_28 rfl (lv_at hl 3 rfl) ?_
        refine va_get (D := (dC, dI)) (ci := 6) (v := .ref ry) (C := RX7) (T := TX7) (N := 4) hx hb hts inX7 hown hK hP 7 rfl rfl 1 (Nat.le_of_ble_eq_true rfl) (hts _ mw_170) (fun _ h9 => h9) rfl dX4_isSweptByMove_29 ?_
        refine lv_iload_n hx hb dX4_isSweptByMove_32 rfl (lv_at hl 1 rfl) ?_
        refine z_iald hx hb hK hP 9 0 rfl rfl (e := i) rfl b9_4 b9_5 dX4_isSweptByMove_33 ?_
        obtain ⟨hPc, hDc, hFc⟩ := zo_sub (wc := [_, _, _]) hP hD hS hA [4, 5, 6] rfl rfl
        refine zcall (st1 := [.int (pI ((P i).toInt = (X i).toInt ∧ (Q i).toInt = (Y i).toInt))]) (va_runV (As := [.int (nI i), .int (X i), .int (Y i)]) (rest := []) ⟨hx, hb, hml, hown, hts⟩ (k_Row_isCorner l dC dI cI cZ cF H.size dr dx dy nd cd P Q rd i (X i) (Y i) (by first | with_reducible assumption | omega) (by first | with_reducible assumption | omega) (by first | with_reducible assumption | omega)) (csV_47 hts rfl rfl ⟨Nat.le_of_ble_eq_true rfl, Nat.le_of_ble_eq_true rfl⟩) (zPV2 (q0 := 0) (ci := 6) hPc hDc hK hXN rfl rfl) rfl rfl hl.1 rfl (lv_room (Nat.le_of_ble_eq_true rfl)) dX4_isSweptByMove_34 ⟨Nat.le_of_ble_eq_true rfl, Nat.le_of_ble_eq_true rfl⟩) hS hFc hFc rfl (fun t H locs ht hB hk1 hS => ?_)
        obtain ⟨hP1, hD1⟩ := hB
        rw [ht] at hP1
        obtain ⟨hP, hD⟩ := zn (W2 := [_, _, _, _, _, _, _, _, _, _, _, _, _]) hP hD hk1 hFc hP1 hD1 [4, 5, 6] [true, true, true, true, false, false, false, true, true, true, true, true, true] [true, true, true, true, false, false, false, true, true, true, true, true, true] [4, 5, 6] (by decide +kernel) rfl rfl rfl rfl rfl
        clear hk1 hPc hDc hFc hP1 hD1 ht
        refine lv_if_eq (tgt := 44) hx hb dX4_isSweptByMove_37 rfl (fun c_6 => ?_) (fun c_6 => ?_)
        · have c_6 : ¬ ((P i).toInt = (X i).toInt ∧ (Q i).toInt = (Y i).toInt) := zp_0 c_6
          refine lv_null hx hb dX4_isSweptByMove_44 ?_
          refine lv_astoreN (lv' := [(5, .null), (4, .int (nI (nxt n i))), (3, .int (nI i)), (0, .ref lw), (1, .ref r), (2, .ref u)]) hx hb dX4_isSweptByMove_45 hl (Nat.le_of_ble_eq_true rfl) rfl (fun ls hl => ?_)
          refine lv_aload_n hx hb dX4_isSweptByMove_47 rfl (lv_at hl 3 rfl) ?_
          refine va_get (D := (dC, dI)) (ci := 3) (v := .ref dr) (C := RX4) (T := TX4) (N := 6) hx hb hts inX4 hown hK hP 0 rfl rfl 0 (Nat.le_of_ble_eq_true rfl) (hts _ mw_219) (fun _ h9 => h9) rfl dX4_isSweptByMove_48 ?_
          refine lv_iload hx hb dX4_isSweptByMove_51 (lv_at hl 1 rfl) ?_
          refine lv_aload_n hx hb dX4_isSweptByMove_53 rfl (lv_at hl 4 rfl) ?_
          refine va_get (D := (dC, dI)) (ci := 6) (v := .ref rx) (C := RX7) (T := TX7) (N := 4) hx hb hts inX7 hown hK hP 7 rfl rfl 0 (Nat.le_of_ble_eq_true rfl) (hts _ mw_163) (fun _ h9 => h9) rfl dX4_isSweptByMove_54 ?_
          refine lv_iload hx hb dX4_isSweptByMove_57 (lv_at hl 1 rfl) ?_
          have b9_7 : nxt n i < cap := by omega
          refine z_iald hx hb hK hP 8 0 rfl rfl (e := nxt n i) rfl b9_7 b9_5 dX4_isSweptByMove_59 ?_
          refine lv_aload_n hx hb dX4_isSweptByMove_60 rfl (lv_at hl 4 rfl) ?_
          refine va_get (D := (dC, dI)) (ci := 6) (v := .ref ry) (C := RX7) (T := TX7) (N := 4) hx hb hts inX7 hown hK hP 7 rfl rfl 1 (Nat.le_of_ble_eq_true rfl) (hts _ mw_170) (fun _ h9 => h9) rfl dX4_isSweptByMove_61 ?_
          refine lv_iload hx hb dX4_isSweptByMove_64 (lv_at hl 1 rfl) ?_
          refine z_iald hx hb hK hP 9 0 rfl rfl (e := nxt n i) rfl b9_7 b9_5 dX4_isSweptByMove_66 ?_
          obtain ⟨hPc, hDc, hFc⟩ := zo_sub (wc := [_, _, _]) hP hD hS hA [4, 5, 6] rfl rfl
          refine zcall (st1 := [.int (pI ((P (nxt n i)).toInt = (X (nxt n i)).toInt ∧ (Q (nxt n i)).toInt = (Y (nxt n i)).toInt))]) (va_runV (As := [.int (nI (nxt n i)), .int (X (nxt n i)), .int (Y (nxt n i))]) (rest := []) ⟨hx, hb, hml, hown, hts⟩ (k_Row_isCorner l dC dI cI cZ cF H.size dr dx dy nd cd P Q rd (nxt n i) (X (nxt n i)) (Y (nxt n i)) (by first | with_reducible assumption | omega) (by first | with_reducible assumption | omega) (by first | with_reducible assumption | omega)) (csV_47 hts rfl rfl ⟨Nat.le_of_ble_eq_true rfl, Nat.le_of_ble_eq_true rfl⟩) (zPV2 (q0 := 0) (ci := 6) hPc hDc hK hXN rfl rfl) rfl rfl hl.1 rfl (lv_room (Nat.le_of_ble_eq_true rfl)) dX4_isSweptByMove_67 ⟨Nat.le_of_ble_eq_true rfl, Nat.le_of_ble_eq_true rfl⟩) hS hFc hFc rfl (fun t H locs ht hB hk1 hS => ?_)
          obtain ⟨hP1, hD1⟩ := hB
          rw [ht] at hP1
          obtain ⟨hP, hD⟩ := zn (W2 := [_, _, _, _, _, _, _, _, _, _, _, _, _]) hP hD hk1 hFc hP1 hD1 [4, 5, 6] [true, true, true, true, false, false, false, true, true, true, true, true, true] [true, true, true, true, false, false, false, true, true, true, true, true, true] [4, 5, 6] (by decide +kernel) rfl rfl rfl rfl rfl
          clear hk1 hPc hDc hFc hP1 hD1 ht
          refine lv_if_eq (tgt := 77) hx hb dX4_isSweptByMove_70 rfl (fun c_8 => ?_) (fun c_8 => ?_)
          · have c_8 : ¬ ((P (nxt n i)).toInt = (X (nxt n i)).toInt ∧ (Q (nxt n i)).toInt = (Y (nxt n i)).toInt) := zp_0 c_8
            refine lv_null hx hb dX4_isSweptByMove_77 ?_
            refine lv_astoreN (lv' := [(6, .null), (5, .null), (4, .int (nI (nxt n i))), (3, .int (nI i)), (0, .ref lw), (1, .ref r), (2, .ref u)]) hx hb dX4_isSweptByMove_78 hl (Nat.le_of_ble_eq_true rfl) rfl (fun ls hl => ?_)
            refine lv_aloadN hx hb dX4_isSweptByMove_80 (lv_at hl 1 rfl) ?_
            refine lv_ifnullN (tgt := 93) hx hb dX4_isSweptByMove_82 rfl ?_
            refine lv_aload_n hx hb dX4_isSweptByMove_93 rfl (lv_at hl 4 rfl) ?_
            refine lv_aload_n hx hb dX4_isSweptByMove_94 rfl (lv_at hl 5 rfl) ?_
            refine lv_iload_n hx hb dX4_isSweptByMove_95 rfl (lv_at hl 3 rfl) ?_
            refine lv_aload_n hx hb dX4_isSweptByMove_96 rfl (lv_at hl 5 rfl) ?_
            refine lv_iload hx hb dX4_isSweptByMove_97 (lv_at hl 2 rfl) ?_
            refine lv_aload_n hx hb dX4_isSweptByMove_99 rfl (lv_at hl 4 rfl) ?_
            refine va_get (D := (dC, dI)) (ci := 3) (v := .ref dr) (C := RX4) (T := TX4) (N := 6) hx hb hts inX4 hown hK hP 0 rfl rfl 0 (Nat.le_of_ble_eq_true rfl) (hts _ mw_219) (fun _ h9 => h9) rfl dX4_isSweptByMove_100 ?_
            refine lv_iload hx hb dX4_isSweptByMove_103 (lv_at hl 2 rfl) ?_
            obtain ⟨hPc, hDc, hFc⟩ := zo_sub (wc := [_, _, _, _, _, _, _, _, _, _]) hP hD hS hA [0, 1, 2, 3, 7, 8, 9, 4, 5, 6] (by decide +kernel) rfl
            refine zcall (st1 := []) (va_runV (As := [.ref r, .int (nI i), .ref r, .int (nI (nxt n i)), .ref dr, .int (nI (nxt n i))]) (rest := []) ⟨hx, hb, hml, hown, hts⟩ (k_Law_setTriangle_ood l dC dI cI cZ cF H.size lw dr tg wy br bo aa tx ty nt1 TX1 TY1 rt1 r rx ry n cap X Y rg dx dy nd cd P Q rd i (nxt n i) (nxt n i) (by first | with_reducible assumption | omega) (by first | with_reducible assumption | omega) (by first | with_reducible assumption | omega) (by first | with_reducible assumption | omega) (by first | with_reducible assumption | omega) (by first | with_reducible assumption | omega) (by first | with_reducible assumption | omega)) (csV_49 hts rfl rfl ⟨Nat.le_of_ble_eq_true rfl, Nat.le_of_ble_eq_true rfl⟩) (zPV2 (q0 := 0) (ci := 3) hPc hDc hK hXN rfl rfl) rfl rfl hl.1 rfl (lv_room (Nat.le_of_ble_eq_true rfl)) dX4_isSweptByMove_105 ⟨Nat.le_of_ble_eq_true rfl, Nat.le_of_ble_eq_true rfl⟩) hS hFc hFc rfl (fun t H locs ht hB hk1 hS => ?_)
            obtain ⟨hP1, hD1⟩ := hB
            rw [ht] at hP1
            obtain ⟨hP, hD⟩ := zn (W2 := [_, (oc6 tg (.ref tx) (.ref ty) (nI 3) 1), (oa tx cI 3 (upd (upd (upd TX1 0 (X i)) 1 (X (nxt n i))) 2 (P (nxt n i)))), (oa ty cI 3 (upd (upd (upd TY1 0 (Y i)) 1 (Y (nxt n i))) 2 (Q (nxt n i)))), _, _, _, _, _, _, _, _, _]) hP hD hk1 hFc hP1 hD1 [0, 1, 2, 3, 7, 8, 9, 4, 5, 6] [false, false, false, false, false, false, false, false, false, false, true, true, true] [false, false, false, false, false, false, false, false, false, false, true, true, true] [0, 1, 2, 3, 7, 8, 9, 4, 5, 6] (by decide +kernel) rfl rfl rfl rfl rfl
            clear hk1 hPc hDc hFc hP1 hD1 ht
            refine lv_aload_n hx hb dX4_isSweptByMove_108 rfl (lv_at hl 4 rfl) ?_
            refine lv_aload_n hx hb dX4_isSweptByMove_109 rfl (lv_at hl 6 rfl) ?_
            refine lv_aloadN hx hb dX4_isSweptByMove_110 (lv_at hl 1 rfl) ?_
            refine lv_iload_n hx hb dX4_isSweptByMove_112 rfl (lv_at hl 3 rfl) ?_
            refine lv_aloadN hx hb dX4_isSweptByMove_113 (lv_at hl 0 rfl) ?_
            refine lv_iload hx hb dX4_isSweptByMove_115 (lv_at hl 2 rfl) ?_
            obtain ⟨hPc, hDc, hFc⟩ := zo_sub (wc := [_, _, _, _, _, _, _]) hP hD hS hA [0, 1, 2, 3, 10, 11, 12] (by decide +kernel) rfl
            refine zcall (st1 := [.int (pI (∃ j7, j7 < m2 ∧ ¬ (whr 3 (upd (upd (upd TX1 0 (X i)) 1 (X (nxt n i))) 2 (P (nxt n i))) (upd (upd (upd TY1 0 (Y i)) 1 (Y (nxt n i))) 2 (Q (nxt n i))) (U j7).toInt (V j7).toInt).toInt = 0))]) (va_runV (As := [.ref u, .null, .int (nI i), .null, .int (nI (nxt n i))]) (rest := []) ⟨hx, hb, hml, hown, hts⟩ (k_Law_holdsCorner_nn l dC dI cI cZ cF H.size lw dr tg wy br bo aa tx ty (upd (upd (upd TX1 0 (X i)) 1 (X (nxt n i))) 2 (P (nxt n i))) (upd (upd (upd TY1 0 (Y i)) 1 (Y (nxt n i))) 2 (Q (nxt n i))) u ux uy m2 cap2 U V rh i (nxt n i) (by first | with_reducible assumption | omega) (by first | with_reducible assumption | omega) (hq) (tr3_pl (hp _ hin).1 (hp _ hin).2 (hp _ hnx).1 (hp _ hnx).2 (hpd _ hnd9).1 (hpd _ hnd9).2)) (csV_50 hts rfl rfl ⟨Nat.le_of_ble_eq_true rfl, Nat.le_of_ble_eq_true rfl⟩) (zPV2 (q0 := 0) (ci := 3) hPc hDc hK hXN rfl rfl) rfl rfl hl.1 rfl (lv_room (Nat.le_of_ble_eq_true rfl)) dX4_isSweptByMove_117 ⟨Nat.le_of_ble_eq_true rfl, Nat.le_of_ble_eq_true rfl⟩) hS hFc hFc rfl (fun t H locs ht hB hk1 hS => ?_)
            obtain ⟨hP1, hD1⟩ := hB
            rw [ht] at hP1
            obtain ⟨hP, hD⟩ := zn (W2 := [_, _, _, _, _, _, _, _, _, _, _, _, _]) hP hD hk1 hFc hP1 hD1 [0, 1, 2, 3, 10, 11, 12] [false, false, false, false, true, true, true, true, true, true] [false, false, false, false, true, true, true, true, true, true, false, false, false] [0, 1, 2, 3, 10, 11, 12] (by decide +kernel) rfl rfl rfl rfl rfl
            clear hk1 hPc hDc hFc hP1 hD1 ht
            refine zz_i (v := pI (∃ k, k < m2 ∧ ¬ spr n X Y P Q i (U k).toInt (V k).toInt ∧ wtR (X i) (Y i) (X (nxt n i)) (Y (nxt n i)) (P (nxt n i)) (Q (nxt n i)) (U k).toInt (V k).toInt)) (zp_iff (sp_nn (by first | with_reducible assumption | assumption) (by first | with_reducible assumption | assumption) (fun _ => wtR_e))) ?_
            refine lv_if_eq (tgt := 125) hx hb dX4_isSweptByMove_120 rfl (fun c_9 => ?_) (fun c_9 => ?_)
            · have c_9 : ¬ (∃ k, k < m2 ∧ ¬ spr n X Y P Q i (U k).toInt (V k).toInt ∧ wtR (X i) (Y i) (X (nxt n i)) (Y (nxt n i)) (P (nxt n i)) (Q (nxt n i)) (U k).toInt (V k).toInt) := zp_0 c_9
              refine lv_aload_n hx hb dX4_isSweptByMove_125 rfl (lv_at hl 4 rfl) ?_
              refine lv_aload_n hx hb dX4_isSweptByMove_126 rfl (lv_at hl 5 rfl) ?_
              refine lv_iload_n hx hb dX4_isSweptByMove_127 rfl (lv_at hl 3 rfl) ?_
              refine lv_aload_n hx hb dX4_isSweptByMove_128 rfl (lv_at hl 4 rfl) ?_
              refine va_get (D := (dC, dI)) (ci := 3) (v := .ref dr) (C := RX4) (T := TX4) (N := 6) hx hb hts inX4 hown hK hP 0 rfl rfl 0 (Nat.le_of_ble_eq_true rfl) (hts _ mw_219) (fun _ h9 => h9) rfl dX4_isSweptByMove_129 ?_
              refine lv_iload_n hx hb dX4_isSweptByMove_132 rfl (lv_at hl 3 rfl) ?_
              refine lv_aload_n hx hb dX4_isSweptByMove_133 rfl (lv_at hl 4 rfl) ?_
              refine va_get (D := (dC, dI)) (ci := 3) (v := .ref dr) (C := RX4) (T := TX4) (N := 6) hx hb hts inX4 hown hK hP 0 rfl rfl 0 (Nat.le_of_ble_eq_true rfl) (hts _ mw_219) (fun _ h9 => h9) rfl dX4_isSweptByMove_134 ?_
              refine lv_iload hx hb dX4_isSweptByMove_137 (lv_at hl 2 rfl) ?_
              obtain ⟨hPc, hDc, hFc⟩ := zo_sub (wc := [_, _, _, _, _, _, _, _, _, _]) hP hD hS hA [0, 1, 2, 3, 7, 8, 9, 4, 5, 6] (by decide +kernel) rfl
              refine zcall (st1 := []) (va_runV (As := [.ref r, .int (nI i), .ref dr, .int (nI i), .ref dr, .int (nI (nxt n i))]) (rest := []) ⟨hx, hb, hml, hown, hts⟩ (k_Law_setTriangle_odd l dC dI cI cZ cF H.size lw dr tg wy br bo aa tx ty 3 (upd (upd (upd TX1 0 (X i)) 1 (X (nxt n i))) 2 (P (nxt n i))) (upd (upd (upd TY1 0 (Y i)) 1 (Y (nxt n i))) 2 (Q (nxt n i))) 1 r rx ry n cap X Y rg dx dy nd cd P Q rd i i (nxt n i) (by first | with_reducible assumption | omega) (by first | with_reducible assumption | omega) (by first | with_reducible assumption | omega) (by first | with_reducible assumption | omega) (by first | with_reducible assumption | omega) (by first | with_reducible assumption | omega) (by first | with_reducible assumption | omega)) (csV_49 hts rfl rfl ⟨Nat.le_of_ble_eq_true rfl, Nat.le_of_ble_eq_true rfl⟩) (zPV2 (q0 := 0) (ci := 3) hPc hDc hK hXN rfl rfl) rfl rfl hl.1 rfl (lv_room (Nat.le_of_ble_eq_true rfl)) dX4_isSweptByMove_139 ⟨Nat.le_of_ble_eq_true rfl, Nat.le_of_ble_eq_true rfl⟩) hS hFc hFc rfl (fun t H locs ht hB hk1 hS => ?_)
              obtain ⟨hP1, hD1⟩ := hB
              rw [ht] at hP1
              obtain ⟨hP, hD⟩ := zn (W2 := [_, _, (oa tx cI 3 (upd (upd (upd (upd (upd (upd TX1 0 (X i)) 1 (X (nxt n i))) 2 (P (nxt n i))) 0 (X i)) 1 (P i)) 2 (P (nxt n i)))), (oa ty cI 3 (upd (upd (upd (upd (upd (upd TY1 0 (Y i)) 1 (Y (nxt n i))) 2 (Q (nxt n i))) 0 (Y i)) 1 (Q i)) 2 (Q (nxt n i)))), _, _, _, _, _, _, _, _, _]) hP hD hk1 hFc hP1 hD1 [0, 1, 2, 3, 7, 8, 9, 4, 5, 6] [false, false, false, false, false, false, false, false, false, false, true, true, true] [false, false, false, false, false, false, false, false, false, false, true, true, true] [0, 1, 2, 3, 7, 8, 9, 4, 5, 6] (by decide +kernel) rfl rfl rfl rfl rfl
              clear hk1 hPc hDc hFc hP1 hD1 ht
              refine lv_aload_n hx hb dX4_isSweptByMove_142 rfl (lv_at hl 4 rfl) ?_
              refine lv_aload_n hx hb dX4_isSweptByMove_143 rfl (lv_at hl 6 rfl) ?_
              refine lv_aloadN hx hb dX4_isSweptByMove_144 (lv_at hl 1 rfl) ?_
              refine lv_iload_n hx hb dX4_isSweptByMove_146 rfl (lv_at hl 3 rfl) ?_
              refine lv_aloadN hx hb dX4_isSweptByMove_147 (lv_at hl 0 rfl) ?_
              refine lv_iload hx hb dX4_isSweptByMove_149 (lv_at hl 2 rfl) ?_
              obtain ⟨hPc, hDc, hFc⟩ := zo_sub (wc := [_, _, _, _, _, _, _]) hP hD hS hA [0, 1, 2, 3, 10, 11, 12] (by decide +kernel) rfl
              refine zcall (st1 := [.int (pI (∃ j7, j7 < m2 ∧ ¬ (whr 3 (upd (upd (upd (upd (upd (upd TX1 0 (X i)) 1 (X (nxt n i))) 2 (P (nxt n i))) 0 (X i)) 1 (P i)) 2 (P (nxt n i))) (upd (upd (upd (upd (upd (upd TY1 0 (Y i)) 1 (Y (nxt n i))) 2 (Q (nxt n i))) 0 (Y i)) 1 (Q i)) 2 (Q (nxt n i))) (U j7).toInt (V j7).toInt).toInt = 0))]) (va_runV (As := [.ref u, .null, .int (nI i), .null, .int (nI (nxt n i))]) (rest := []) ⟨hx, hb, hml, hown, hts⟩ (k_Law_holdsCorner_nn l dC dI cI cZ cF H.size lw dr tg wy br bo aa tx ty (upd (upd (upd (upd (upd (upd TX1 0 (X i)) 1 (X (nxt n i))) 2 (P (nxt n i))) 0 (X i)) 1 (P i)) 2 (P (nxt n i))) (upd (upd (upd (upd (upd (upd TY1 0 (Y i)) 1 (Y (nxt n i))) 2 (Q (nxt n i))) 0 (Y i)) 1 (Q i)) 2 (Q (nxt n i))) u ux uy m2 cap2 U V rh i (nxt n i) (by first | with_reducible assumption | omega) (by first | with_reducible assumption | omega) (hq) (tr3_pl (hp _ hin).1 (hp _ hin).2 (hpd _ hid9).1 (hpd _ hid9).2 (hpd _ hnd9).1 (hpd _ hnd9).2)) (csV_50 hts rfl rfl ⟨Nat.le_of_ble_eq_true rfl, Nat.le_of_ble_eq_true rfl⟩) (zPV2 (q0 := 0) (ci := 3) hPc hDc hK hXN rfl rfl) rfl rfl hl.1 rfl (lv_room (Nat.le_of_ble_eq_true rfl)) dX4_isSweptByMove_151 ⟨Nat.le_of_ble_eq_true rfl, Nat.le_of_ble_eq_true rfl⟩) hS hFc hFc rfl (fun t H locs ht hB hk1 hS => ?_)
              obtain ⟨hP1, hD1⟩ := hB
              rw [ht] at hP1
              obtain ⟨hP, hD⟩ := zn (W2 := [_, _, _, _, _, _, _, _, _, _, _, _, _]) hP hD hk1 hFc hP1 hD1 [0, 1, 2, 3, 10, 11, 12] [false, false, false, false, true, true, true, true, true, true] [false, false, false, false, true, true, true, true, true, true, false, false, false] [0, 1, 2, 3, 10, 11, 12] (by decide +kernel) rfl rfl rfl rfl rfl
              clear hk1 hPc hDc hFc hP1 hD1 ht
              refine zz_i (v := pI (∃ k, k < m2 ∧ ¬ spr n X Y P Q i (U k).toInt (V k).toInt ∧ wtR (X i) (Y i) (P i) (Q i) (P (nxt n i)) (Q (nxt n i)) (U k).toInt (V k).toInt)) (zp_iff (sp_nn (by first | with_reducible assumption | assumption) (by first | with_reducible assumption | assumption) (fun _ => wtR_e))) ?_
              refine lv_if_eq (tgt := 159) hx hb dX4_isSweptByMove_154 rfl (fun c_10 => ?_) (fun c_10 => ?_)
              · have c_10 : ¬ (∃ k, k < m2 ∧ ¬ spr n X Y P Q i (U k).toInt (V k).toInt ∧ wtR (X i) (Y i) (P i) (Q i) (P (nxt n i)) (Q (nxt n i)) (U k).toInt (V k).toInt) := zp_0 c_10
                refine lv_iinc (v := nI (i + 1)) (lv' := [(3, .int (nI (i + 1))), (6, .null), (5, .null), (4, .int (nI (nxt n i))), (0, .ref lw), (1, .ref r), (2, .ref u)]) hx hb dX4_isSweptByMove_159 hl (k := 3) rfl (nI_add i 1) (Nat.le_of_ble_eq_true rfl) rfl (fun ls hl => ?_)
                refine lv_goto (tgt := 2) hx hb dX4_isSweptByMove_162 rfl ?_
                exact ih_2 (i + 1) 3 (upd (upd (upd (upd (upd (upd TX1 0 (X i)) 1 (X (nxt n i))) 2 (P (nxt n i))) 0 (X i)) 1 (P i)) 2 (P (nxt n i))) (upd (upd (upd (upd (upd (upd TY1 0 (Y i)) 1 (Y (nxt n i))) 2 (Q (nxt n i))) 0 (Y i)) 1 (Q i)) 2 (Q (nxt n i))) 1 H locs ls (by first | with_reducible assumption | omega) (by first | with_reducible assumption | omega) (by intro j hj k hk; rcases Nat.lt_or_ge j i with h | h; exact hno j h k hk; rw [show j = i by omega]; first | exact (fun h9 => h9.2.elim (fun g => (by (first | with_reducible assumption | assumption) : ¬ (∃ k, k < m2 ∧ ¬ spr n X Y P Q i (U k).toInt (V k).toInt ∧ wtR (X i) (Y i) (X (nxt n i)) (Y (nxt n i)) (P (nxt n i)) (Q (nxt n i)) (U k).toInt (V k).toInt)) ⟨k, hk, h9.1, g⟩) (fun g => (by (first | with_reducible assumption | assumption) : ¬ (∃ k, k < m2 ∧ ¬ spr n X Y P Q i (U k).toInt (V k).toInt ∧ wtR (X i) (Y i) (P i) (Q i) (P (nxt n i)) (Q (nxt n i)) (U k).toInt (V k).toInt)) ⟨k, hk, h9.1, g⟩)) | exact (fun h9 => h9.1 (Or.inl ⟨⟨by omega, by omega⟩, ⟨by omega, by omega⟩⟩))) hP hD hS (lv_sub hl [0, 4, 5, 6] rfl)
              · have c_10 : ∃ k, k < m2 ∧ ¬ spr n X Y P Q i (U k).toInt (V k).toInt ∧ wtR (X i) (Y i) (P i) (Q i) (P (nxt n i)) (Q (nxt n i)) (U k).toInt (V k).toInt := zp_1 c_10
                refine lv_iconst (v := 1) hx hb dX4_isSweptByMove_157 rfl ?_
                obtain ⟨hP9, hD9⟩ := zu_sub (wc := [_, _, _, _, _, _, _, _, _, _, _, _, _]) hP hD [true, true, true, true, true, true, true, true, true, true, true, true, true] rfl rfl
                rw [hQ9]
                exact W.zret (ty := .boolean) (v := 1) hx hb hr (rfl) (fun t ht hW => ⟨⟨congrArg (fun z => Outcome.returned (some (Value.int z))) (show (1 : Int32) = pI (∃ i, i < edg n rg ∧ ∃ k, k < m2 ∧ swR n X Y P Q (U k).toInt (V k).toInt i) from (zp_t (by obtain ⟨k, hk, h1, h2⟩ := (by (first | with_reducible assumption | assumption) : ∃ k, k < m2 ∧ ¬ spr n X Y P Q i (U k).toInt (V k).toInt ∧ wtR (X i) (Y i) (P i) (Q i) (P (nxt n i)) (Q (nxt n i)) (U k).toInt (V k).toInt); exact ⟨i, by omega, k, hk, h1, Or.inr h2⟩)).symm), 3, (upd (upd (upd (upd (upd (upd TX1 0 (X i)) 1 (X (nxt n i))) 2 (P (nxt n i))) 0 (X i)) 1 (P i)) 2 (P (nxt n i))), (upd (upd (upd (upd (upd (upd TY1 0 (Y i)) 1 (Y (nxt n i))) 2 (Q (nxt n i))) 0 (Y i)) 1 (Q i)) 2 (Q (nxt n i))), 1, by rw [ht]; exact hP9, hD9⟩, hS.F ht⟩) hS.2.2 dX4_isSweptByMove_158
            · have c_9 : ∃ k, k < m2 ∧ ¬ spr n X Y P Q i (U k).toInt (V k).toInt ∧ wtR (X i) (Y i) (X (nxt n i)) (Y (nxt n i)) (P (nxt n i)) (Q (nxt n i)) (U k).toInt (V k).toInt := zp_1 c_9
              refine lv_iconst (v := 1) hx hb dX4_isSweptByMove_123 rfl ?_
              obtain ⟨hP9, hD9⟩ := zu_sub (wc := [_, _, _, _, _, _, _, _, _, _, _, _, _]) hP hD [true, true, true, true, true, true, true, true, true, true, true, true, true] rfl rfl
              rw [hQ9]
              exact W.zret (ty := .boolean) (v := 1) hx hb hr (rfl) (fun t ht hW => ⟨⟨congrArg (fun z => Outcome.returned (some (Value.int z))) (show (1 : Int32) = pI (∃ i, i < edg n rg ∧ ∃ k, k < m2 ∧ swR n X Y P Q (U k).toInt (V k).toInt i) from (zp_t (by obtain ⟨k, hk, h1, h2⟩ := (by (first | with_reducible assumption | assumption) : ∃ k, k < m2 ∧ ¬ spr n X Y P Q i (U k).toInt (V k).toInt ∧ wtR (X i) (Y i) (X (nxt n i)) (Y (nxt n i)) (P (nxt n i)) (Q (nxt n i)) (U k).toInt (V k).toInt); exact ⟨i, by omega, k, hk, h1, Or.inl h2⟩)).symm), 3, (upd (upd (upd TX1 0 (X i)) 1 (X (nxt n i))) 2 (P (nxt n i))), (upd (upd (upd TY1 0 (Y i)) 1 (Y (nxt n i))) 2 (Q (nxt n i))), 1, by rw [ht]; exact hP9, hD9⟩, hS.F ht⟩) hS.2.2 dX4_isSweptByMove_124
          · have c_8 : (P (nxt n i)).toInt = (X (nxt n i)).toInt ∧ (Q (nxt n i)).toInt = (Y (nxt n i)).toInt := zp_1 c_8
            refine lv_aload_n hx hb dX4_isSweptByMove_73 rfl (lv_at hl 4 rfl) ?_
            refine lv_goto (tgt := 78) hx hb dX4_isSweptByMove_74 rfl ?_
            refine lv_astore (lv' := [(6, .ref r), (5, .null), (4, .int (nI (nxt n i))), (3, .int (nI i)), (0, .ref lw), (1, .ref r), (2, .ref u)]) hx hb dX4_isSweptByMove_78 hl (Nat.le_of_ble_eq_true rfl) rfl (fun ls hl => ?_)
            refine lv_aloadN hx hb dX4_isSweptByMove_80 (lv_at hl 1 rfl) ?_
            refine lv_ifnullN (tgt := 93) hx hb dX4_isSweptByMove_82 rfl ?_
            refine lv_aload_n hx hb dX4_isSweptByMove_93 rfl (lv_at hl 4 rfl) ?_
            refine lv_aload_n hx hb dX4_isSweptByMove_94 rfl (lv_at hl 5 rfl) ?_
            refine lv_iload_n hx hb dX4_isSweptByMove_95 rfl (lv_at hl 3 rfl) ?_
            refine lv_aload_n hx hb dX4_isSweptByMove_96 rfl (lv_at hl 5 rfl) ?_
            refine lv_iload hx hb dX4_isSweptByMove_97 (lv_at hl 2 rfl) ?_
            refine lv_aload_n hx hb dX4_isSweptByMove_99 rfl (lv_at hl 4 rfl) ?_
            refine va_get (D := (dC, dI)) (ci := 3) (v := .ref dr) (C := RX4) (T := TX4) (N := 6) hx hb hts inX4 hown hK hP 0 rfl rfl 0 (Nat.le_of_ble_eq_true rfl) (hts _ mw_219) (fun _ h9 => h9) rfl dX4_isSweptByMove_100 ?_
            refine lv_iload hx hb dX4_isSweptByMove_103 (lv_at hl 2 rfl) ?_
            obtain ⟨hPc, hDc, hFc⟩ := zo_sub (wc := [_, _, _, _, _, _, _, _, _, _]) hP hD hS hA [0, 1, 2, 3, 7, 8, 9, 4, 5, 6] (by decide +kernel) rfl
            refine zcall (st1 := []) (va_runV (As := [.ref r, .int (nI i), .ref r, .int (nI (nxt n i)), .ref dr, .int (nI (nxt n i))]) (rest := []) ⟨hx, hb, hml, hown, hts⟩ (k_Law_setTriangle_ood l dC dI cI cZ cF H.size lw dr tg wy br bo aa tx ty nt1 TX1 TY1 rt1 r rx ry n cap X Y rg dx dy nd cd P Q rd i (nxt n i) (nxt n i) (by first | with_reducible assumption | omega) (by first | with_reducible assumption | omega) (by first | with_reducible assumption | omega) (by first | with_reducible assumption | omega) (by first | with_reducible assumption | omega) (by first | with_reducible assumption | omega) (by first | with_reducible assumption | omega)) (csV_49 hts rfl rfl ⟨Nat.le_of_ble_eq_true rfl, Nat.le_of_ble_eq_true rfl⟩) (zPV2 (q0 := 0) (ci := 3) hPc hDc hK hXN rfl rfl) rfl rfl hl.1 rfl (lv_room (Nat.le_of_ble_eq_true rfl)) dX4_isSweptByMove_105 ⟨Nat.le_of_ble_eq_true rfl, Nat.le_of_ble_eq_true rfl⟩) hS hFc hFc rfl (fun t H locs ht hB hk1 hS => ?_)
            obtain ⟨hP1, hD1⟩ := hB
            rw [ht] at hP1
            obtain ⟨hP, hD⟩ := zn (W2 := [_, (oc6 tg (.ref tx) (.ref ty) (nI 3) 1), (oa tx cI 3 (upd (upd (upd TX1 0 (X i)) 1 (X (nxt n i))) 2 (P (nxt n i)))), (oa ty cI 3 (upd (upd (upd TY1 0 (Y i)) 1 (Y (nxt n i))) 2 (Q (nxt n i)))), _, _, _, _, _, _, _, _, _]) hP hD hk1 hFc hP1 hD1 [0, 1, 2, 3, 7, 8, 9, 4, 5, 6] [false, false, false, false, false, false, false, false, false, false, true, true, true] [false, false, false, false, false, false, false, false, false, false, true, true, true] [0, 1, 2, 3, 7, 8, 9, 4, 5, 6] (by decide +kernel) rfl rfl rfl rfl rfl
            clear hk1 hPc hDc hFc hP1 hD1 ht
            refine lv_aload_n hx hb dX4_isSweptByMove_108 rfl (lv_at hl 4 rfl) ?_
            refine lv_aload_n hx hb dX4_isSweptByMove_109 rfl (lv_at hl 6 rfl) ?_
            refine lv_aloadN hx hb dX4_isSweptByMove_110 (lv_at hl 1 rfl) ?_
            refine lv_iload_n hx hb dX4_isSweptByMove_112 rfl (lv_at hl 3 rfl) ?_
            refine lv_aload hx hb dX4_isSweptByMove_113 (lv_at hl 0 rfl) ?_
            refine lv_iload hx hb dX4_isSweptByMove_115 (lv_at hl 2 rfl) ?_
            obtain ⟨hPc, hDc, hFc⟩ := zo_sub (wc := [_, _, _, _, _, _, _, _, _, _]) hP hD hS hA [0, 1, 2, 3, 10, 11, 12, 7, 8, 9] (by decide +kernel) rfl
            refine zcall (st1 := [.int (pI (∃ j7, j7 < m2 ∧ ¬ ((X (nxt n i)).toInt = (U j7).toInt ∧ (Y (nxt n i)).toInt = (V j7).toInt) ∧ ¬ (whr 3 (upd (upd (upd TX1 0 (X i)) 1 (X (nxt n i))) 2 (P (nxt n i))) (upd (upd (upd TY1 0 (Y i)) 1 (Y (nxt n i))) 2 (Q (nxt n i))) (U j7).toInt (V j7).toInt).toInt = 0))]) (va_runV (As := [.ref u, .null, .int (nI i), .ref r, .int (nI (nxt n i))]) (rest := []) ⟨hx, hb, hml, hown, hts⟩ (k_Law_holdsCorner_nr l dC dI cI cZ cF H.size lw dr tg wy br bo aa tx ty (upd (upd (upd TX1 0 (X i)) 1 (X (nxt n i))) 2 (P (nxt n i))) (upd (upd (upd TY1 0 (Y i)) 1 (Y (nxt n i))) 2 (Q (nxt n i))) u ux uy m2 cap2 U V rh r rx ry n cap X Y rg i (nxt n i) (by first | with_reducible assumption | omega) (by first | with_reducible assumption | omega) (by first | with_reducible assumption | omega) (by first | with_reducible assumption | omega) (hq) (tr3_pl (hp _ hin).1 (hp _ hin).2 (hp _ hnx).1 (hp _ hnx).2 (hpd _ hnd9).1 (hpd _ hnd9).2) (by first | with_reducible assumption | omega)) (csV_50 hts rfl rfl ⟨Nat.le_of_ble_eq_true rfl, Nat.le_of_ble_eq_true rfl⟩) (zPV2 (q0 := 0) (ci := 3) hPc hDc hK hXN rfl rfl) rfl rfl hl.1 rfl (lv_room (Nat.le_of_ble_eq_true rfl)) dX4_isSweptByMove_117 ⟨Nat.le_of_ble_eq_true rfl, Nat.le_of_ble_eq_true rfl⟩) hS hFc hFc rfl (fun t H locs ht hB hk1 hS => ?_)
            obtain ⟨hP1, hD1⟩ := hB
            rw [ht] at hP1
            obtain ⟨hP, hD⟩ := zn (W2 := [_, _, _, _, _, _, _, _, _, _, _, _, _]) hP hD hk1 hFc hP1 hD1 [0, 1, 2, 3, 10, 11, 12, 7, 8, 9] [false, false, false, false, true, true, true] [false, false, false, false, true, true, true, false, false, false, false, false, false] [0, 1, 2, 3, 10, 11, 12, 7, 8, 9] (by decide +kernel) rfl rfl rfl rfl rfl
            clear hk1 hPc hDc hFc hP1 hD1 ht
            refine zz_i (v := pI (∃ k, k < m2 ∧ ¬ spr n X Y P Q i (U k).toInt (V k).toInt ∧ wtR (X i) (Y i) (X (nxt n i)) (Y (nxt n i)) (P (nxt n i)) (Q (nxt n i)) (U k).toInt (V k).toInt)) (zp_iff (sp_nr (by first | with_reducible assumption | assumption) (by first | with_reducible assumption | assumption) (fun _ => wtR_e))) ?_
            refine lv_if_eq (tgt := 125) hx hb dX4_isSweptByMove_120 rfl (fun c_11 => ?_) (fun c_11 => ?_)
            · have c_11 : ¬ (∃ k, k < m2 ∧ ¬ spr n X Y P Q i (U k).toInt (V k).toInt ∧ wtR (X i) (Y i) (X (nxt n i)) (Y (nxt n i)) (P (nxt n i)) (Q (nxt n i)) (U k).toInt (V k).toInt) := zp_0 c_11
              refine lv_aload_n hx hb dX4_isSweptByMove_125 rfl (lv_at hl 4 rfl) ?_
              refine lv_aload_n hx hb dX4_isSweptByMove_126 rfl (lv_at hl 5 rfl) ?_
              refine lv_iload_n hx hb dX4_isSweptByMove_127 rfl (lv_at hl 3 rfl) ?_
              refine lv_aload_n hx hb dX4_isSweptByMove_128 rfl (lv_at hl 4 rfl) ?_
              refine va_get (D := (dC, dI)) (ci := 3) (v := .ref dr) (C := RX4) (T := TX4) (N := 6) hx hb hts inX4 hown hK hP 0 rfl rfl 0 (Nat.le_of_ble_eq_true rfl) (hts _ mw_219) (fun _ h9 => h9) rfl dX4_isSweptByMove_129 ?_
              refine lv_iload_n hx hb dX4_isSweptByMove_132 rfl (lv_at hl 3 rfl) ?_
              refine lv_aload_n hx hb dX4_isSweptByMove_133 rfl (lv_at hl 4 rfl) ?_
              refine va_get (D := (dC, dI)) (ci := 3) (v := .ref dr) (C := RX4) (T := TX4) (N := 6) hx hb hts inX4 hown hK hP 0 rfl rfl 0 (Nat.le_of_ble_eq_true rfl) (hts _ mw_219) (fun _ h9 => h9) rfl dX4_isSweptByMove_134 ?_
              refine lv_iload hx hb dX4_isSweptByMove_137 (lv_at hl 2 rfl) ?_
              obtain ⟨hPc, hDc, hFc⟩ := zo_sub (wc := [_, _, _, _, _, _, _, _, _, _]) hP hD hS hA [0, 1, 2, 3, 7, 8, 9, 4, 5, 6] (by decide +kernel) rfl
              refine zcall (st1 := []) (va_runV (As := [.ref r, .int (nI i), .ref dr, .int (nI i), .ref dr, .int (nI (nxt n i))]) (rest := []) ⟨hx, hb, hml, hown, hts⟩ (k_Law_setTriangle_odd l dC dI cI cZ cF H.size lw dr tg wy br bo aa tx ty 3 (upd (upd (upd TX1 0 (X i)) 1 (X (nxt n i))) 2 (P (nxt n i))) (upd (upd (upd TY1 0 (Y i)) 1 (Y (nxt n i))) 2 (Q (nxt n i))) 1 r rx ry n cap X Y rg dx dy nd cd P Q rd i i (nxt n i) (by first | with_reducible assumption | omega) (by first | with_reducible assumption | omega) (by first | with_reducible assumption | omega) (by first | with_reducible assumption | omega) (by first | with_reducible assumption | omega) (by first | with_reducible assumption | omega) (by first | with_reducible assumption | omega)) (csV_49 hts rfl rfl ⟨Nat.le_of_ble_eq_true rfl, Nat.le_of_ble_eq_true rfl⟩) (zPV2 (q0 := 0) (ci := 3) hPc hDc hK hXN rfl rfl) rfl rfl hl.1 rfl (lv_room (Nat.le_of_ble_eq_true rfl)) dX4_isSweptByMove_139 ⟨Nat.le_of_ble_eq_true rfl, Nat.le_of_ble_eq_true rfl⟩) hS hFc hFc rfl (fun t H locs ht hB hk1 hS => ?_)
              obtain ⟨hP1, hD1⟩ := hB
              rw [ht] at hP1
              obtain ⟨hP, hD⟩ := zn (W2 := [_, _, (oa tx cI 3 (upd (upd (upd (upd (upd (upd TX1 0 (X i)) 1 (X (nxt n i))) 2 (P (nxt n i))) 0 (X i)) 1 (P i)) 2 (P (nxt n i)))), (oa ty cI 3 (upd (upd (upd (upd (upd (upd TY1 0 (Y i)) 1 (Y (nxt n i))) 2 (Q (nxt n i))) 0 (Y i)) 1 (Q i)) 2 (Q (nxt n i)))), _, _, _, _, _, _, _, _, _]) hP hD hk1 hFc hP1 hD1 [0, 1, 2, 3, 7, 8, 9, 4, 5, 6] [false, false, false, false, false, false, false, false, false, false, true, true, true] [false, false, false, false, false, false, false, false, false, false, true, true, true] [0, 1, 2, 3, 7, 8, 9, 4, 5, 6] (by decide +kernel) rfl rfl rfl rfl rfl
              clear hk1 hPc hDc hFc hP1 hD1 ht
              refine lv_aload_n hx hb dX4_isSweptByMove_142 rfl (lv_at hl 4 rfl) ?_
              refine lv_aload_n hx hb dX4_isSweptByMove_143 rfl (lv_at hl 6 rfl) ?_
              refine lv_aloadN hx hb dX4_isSweptByMove_144 (lv_at hl 1 rfl) ?_
              refine lv_iload_n hx hb dX4_isSweptByMove_146 rfl (lv_at hl 3 rfl) ?_
              refine lv_aload hx hb dX4_isSweptByMove_147 (lv_at hl 0 rfl) ?_
              refine lv_iload hx hb dX4_isSweptByMove_149 (lv_at hl 2 rfl) ?_
              obtain ⟨hPc, hDc, hFc⟩ := zo_sub (wc := [_, _, _, _, _, _, _, _, _, _]) hP hD hS hA [0, 1, 2, 3, 10, 11, 12, 7, 8, 9] (by decide +kernel) rfl
              refine zcall (st1 := [.int (pI (∃ j7, j7 < m2 ∧ ¬ ((X (nxt n i)).toInt = (U j7).toInt ∧ (Y (nxt n i)).toInt = (V j7).toInt) ∧ ¬ (whr 3 (upd (upd (upd (upd (upd (upd TX1 0 (X i)) 1 (X (nxt n i))) 2 (P (nxt n i))) 0 (X i)) 1 (P i)) 2 (P (nxt n i))) (upd (upd (upd (upd (upd (upd TY1 0 (Y i)) 1 (Y (nxt n i))) 2 (Q (nxt n i))) 0 (Y i)) 1 (Q i)) 2 (Q (nxt n i))) (U j7).toInt (V j7).toInt).toInt = 0))]) (va_runV (As := [.ref u, .null, .int (nI i), .ref r, .int (nI (nxt n i))]) (rest := []) ⟨hx, hb, hml, hown, hts⟩ (k_Law_holdsCorner_nr l dC dI cI cZ cF H.size lw dr tg wy br bo aa tx ty (upd (upd (upd (upd (upd (upd TX1 0 (X i)) 1 (X (nxt n i))) 2 (P (nxt n i))) 0 (X i)) 1 (P i)) 2 (P (nxt n i))) (upd (upd (upd (upd (upd (upd TY1 0 (Y i)) 1 (Y (nxt n i))) 2 (Q (nxt n i))) 0 (Y i)) 1 (Q i)) 2 (Q (nxt n i))) u ux uy m2 cap2 U V rh r rx ry n cap X Y rg i (nxt n i) (by first | with_reducible assumption | omega) (by first | with_reducible assumption | omega) (by first | with_reducible assumption | omega) (by first | with_reducible assumption | omega) (hq) (tr3_pl (hp _ hin).1 (hp _ hin).2 (hpd _ hid9).1 (hpd _ hid9).2 (hpd _ hnd9).1 (hpd _ hnd9).2) (by first | with_reducible assumption | omega)) (csV_50 hts rfl rfl ⟨Nat.le_of_ble_eq_true rfl, Nat.le_of_ble_eq_true rfl⟩) (zPV2 (q0 := 0) (ci := 3) hPc hDc hK hXN rfl rfl) rfl rfl hl.1 rfl (lv_room (Nat.le_of_ble_eq_true rfl)) dX4_isSweptByMove_151 ⟨Nat.le_of_ble_eq_true rfl, Nat.le_of_ble_eq_true rfl⟩) hS hFc hFc rfl (fun t H locs ht hB hk1 hS => ?_)
              obtain ⟨hP1, hD1⟩ := hB
              rw [ht] at hP1
              obtain ⟨hP, hD⟩ := zn (W2 := [_, _, _, _, _, _, _, _, _, _, _, _, _]) hP hD hk1 hFc hP1 hD1 [0, 1, 2, 3, 10, 11, 12, 7, 8, 9] [false, false, false, false, true, true, true] [false, false, false, false, true, true, true, false, false, false, false, false, false] [0, 1, 2, 3, 10, 11, 12, 7, 8, 9] (by decide +kernel) rfl rfl rfl rfl rfl
              clear hk1 hPc hDc hFc hP1 hD1 ht
              refine zz_i (v := pI (∃ k, k < m2 ∧ ¬ spr n X Y P Q i (U k).toInt (V k).toInt ∧ wtR (X i) (Y i) (P i) (Q i) (P (nxt n i)) (Q (nxt n i)) (U k).toInt (V k).toInt)) (zp_iff (sp_nr (by first | with_reducible assumption | assumption) (by first | with_reducible assumption | assumption) (fun _ => wtR_e))) ?_
              refine lv_if_eq (tgt := 159) hx hb dX4_isSweptByMove_154 rfl (fun c_12 => ?_) (fun c_12 => ?_)
              · have c_12 : ¬ (∃ k, k < m2 ∧ ¬ spr n X Y P Q i (U k).toInt (V k).toInt ∧ wtR (X i) (Y i) (P i) (Q i) (P (nxt n i)) (Q (nxt n i)) (U k).toInt (V k).toInt) := zp_0 c_12
                refine lv_iinc (v := nI (i + 1)) (lv' := [(3, .int (nI (i + 1))), (6, .ref r), (5, .null), (4, .int (nI (nxt n i))), (0, .ref lw), (1, .ref r), (2, .ref u)]) hx hb dX4_isSweptByMove_159 hl (k := 3) rfl (nI_add i 1) (Nat.le_of_ble_eq_true rfl) rfl (fun ls hl => ?_)
                refine lv_goto (tgt := 2) hx hb dX4_isSweptByMove_162 rfl ?_
                exact ih_2 (i + 1) 3 (upd (upd (upd (upd (upd (upd TX1 0 (X i)) 1 (X (nxt n i))) 2 (P (nxt n i))) 0 (X i)) 1 (P i)) 2 (P (nxt n i))) (upd (upd (upd (upd (upd (upd TY1 0 (Y i)) 1 (Y (nxt n i))) 2 (Q (nxt n i))) 0 (Y i)) 1 (Q i)) 2 (Q (nxt n i))) 1 H locs ls (by first | with_reducible assumption | omega) (by first | with_reducible assumption | omega) (by intro j hj k hk; rcases Nat.lt_or_ge j i with h | h; exact hno j h k hk; rw [show j = i by omega]; first | exact (fun h9 => h9.2.elim (fun g => (by (first | with_reducible assumption | assumption) : ¬ (∃ k, k < m2 ∧ ¬ spr n X Y P Q i (U k).toInt (V k).toInt ∧ wtR (X i) (Y i) (X (nxt n i)) (Y (nxt n i)) (P (nxt n i)) (Q (nxt n i)) (U k).toInt (V k).toInt)) ⟨k, hk, h9.1, g⟩) (fun g => (by (first | with_reducible assumption | assumption) : ¬ (∃ k, k < m2 ∧ ¬ spr n X Y P Q i (U k).toInt (V k).toInt ∧ wtR (X i) (Y i) (P i) (Q i) (P (nxt n i)) (Q (nxt n i)) (U k).toInt (V k).toInt)) ⟨k, hk, h9.1, g⟩)) | exact (fun h9 => h9.1 (Or.inl ⟨⟨by omega, by omega⟩, ⟨by omega, by omega⟩⟩))) hP hD hS (lv_sub hl [0, 4, 5, 6] rfl)
              · have c_12 : ∃ k, k < m2 ∧ ¬ spr n X Y P Q i (U k).toInt (V k).toInt ∧ wtR (X i) (Y i) (P i) (Q i) (P (nxt n i)) (Q (nxt n i)) (U k).toInt (V k).toInt := zp_1 c_12
                refine lv_iconst (v := 1) hx hb dX4_isSweptByMove_157 rfl ?_
                obtain ⟨hP9, hD9⟩ := zu_sub (wc := [_, _, _, _, _, _, _, _, _, _, _, _, _]) hP hD [true, true, true, true, true, true, true, true, true, true, true, true, true] rfl rfl
                rw [hQ9]
                exact W.zret (ty := .boolean) (v := 1) hx hb hr (rfl) (fun t ht hW => ⟨⟨congrArg (fun z => Outcome.returned (some (Value.int z))) (show (1 : Int32) = pI (∃ i, i < edg n rg ∧ ∃ k, k < m2 ∧ swR n X Y P Q (U k).toInt (V k).toInt i) from (zp_t (by obtain ⟨k, hk, h1, h2⟩ := (by (first | with_reducible assumption | assumption) : ∃ k, k < m2 ∧ ¬ spr n X Y P Q i (U k).toInt (V k).toInt ∧ wtR (X i) (Y i) (P i) (Q i) (P (nxt n i)) (Q (nxt n i)) (U k).toInt (V k).toInt); exact ⟨i, by omega, k, hk, h1, Or.inr h2⟩)).symm), 3, (upd (upd (upd (upd (upd (upd TX1 0 (X i)) 1 (X (nxt n i))) 2 (P (nxt n i))) 0 (X i)) 1 (P i)) 2 (P (nxt n i))), (upd (upd (upd (upd (upd (upd TY1 0 (Y i)) 1 (Y (nxt n i))) 2 (Q (nxt n i))) 0 (Y i)) 1 (Q i)) 2 (Q (nxt n i))), 1, by rw [ht]; exact hP9, hD9⟩, hS.F ht⟩) hS.2.2 dX4_isSweptByMove_158
            · have c_11 : ∃ k, k < m2 ∧ ¬ spr n X Y P Q i (U k).toInt (V k).toInt ∧ wtR (X i) (Y i) (X (nxt n i)) (Y (nxt n i)) (P (nxt n i)) (Q (nxt n i)) (U k).toInt (V k).toInt := zp_1 c_11
              refine lv_iconst (v := 1) hx hb dX4_isSweptByMove_123 rfl ?_
              obtain ⟨hP9, hD9⟩ := zu_sub (wc := [_, _, _, _, _, _, _, _, _, _, _, _, _]) hP hD [true, true, true, true, true, true, true, true, true, true, true, true, true] rfl rfl
              rw [hQ9]
              exact W.zret (ty := .boolean) (v := 1) hx hb hr (rfl) (fun t ht hW => ⟨⟨congrArg (fun z => Outcome.returned (some (Value.int z))) (show (1 : Int32) = pI (∃ i, i < edg n rg ∧ ∃ k, k < m2 ∧ swR n X Y P Q (U k).toInt (V k).toInt i) from (zp_t (by obtain ⟨k, hk, h1, h2⟩ := (by (first | with_reducible assumption | assumption) : ∃ k, k < m2 ∧ ¬ spr n X Y P Q i (U k).toInt (V k).toInt ∧ wtR (X i) (Y i) (X (nxt n i)) (Y (nxt n i)) (P (nxt n i)) (Q (nxt n i)) (U k).toInt (V k).toInt); exact ⟨i, by omega, k, hk, h1, Or.inl h2⟩)).symm), 3, (upd (upd (upd TX1 0 (X i)) 1 (X (nxt n i))) 2 (P (nxt n i))), (upd (upd (upd TY1 0 (Y i)) 1 (Y (nxt n i))) 2 (Q (nxt n i))), 1, by rw [ht]; exact hP9, hD9⟩, hS.F ht⟩) hS.2.2 dX4_isSweptByMove_124
        · have c_6 : (P i).toInt = (X i).toInt ∧ (Q i).toInt = (Y i).toInt := zp_1 c_6
          refine lv_aload_n hx hb dX4_isSweptByMove_40 rfl (lv_at hl 3 rfl) ?_
          refine lv_goto (tgt := 45) hx hb dX4_isSweptByMove_41 rfl ?_
          refine lv_astore (lv' := [(5, .ref r), (4, .int (nI (nxt n i))), (3, .int (nI i)), (0, .ref lw), (1, .ref r), (2, .ref u)]) hx hb dX4_isSweptByMove_45 hl (Nat.le_of_ble_eq_true rfl) rfl (fun ls hl => ?_)
          refine lv_aload_n hx hb dX4_isSweptByMove_47 rfl (lv_at hl 3 rfl) ?_
          refine va_get (D := (dC, dI)) (ci := 3) (v := .ref dr) (C := RX4) (T := TX4) (N := 6) hx hb hts inX4 hown hK hP 0 rfl rfl 0 (Nat.le_of_ble_eq_true rfl) (hts _ mw_219) (fun _ h9 => h9) rfl dX4_isSweptByMove_48 ?_
          refine lv_iload hx hb dX4_isSweptByMove_51 (lv_at hl 1 rfl) ?_
          refine lv_aload_n hx hb dX4_isSweptByMove_53 rfl (lv_at hl 4 rfl) ?_
          refine va_get (D := (dC, dI)) (ci := 6) (v := .ref rx) (C := RX7) (T := TX7) (N := 4) hx hb hts inX7 hown hK hP 7 rfl rfl 0 (Nat.le_of_ble_eq_true rfl) (hts _ mw_163) (fun _ h9 => h9) rfl dX4_isSweptByMove_54 ?_
          refine lv_iload hx hb dX4_isSweptByMove_57 (lv_at hl 1 rfl) ?_
          have b9_13 : nxt n i < cap := by omega
          refine z_iald hx hb hK hP 8 0 rfl rfl (e := nxt n i) rfl b9_13 b9_5 dX4_isSweptByMove_59 ?_
          refine lv_aload_n hx hb dX4_isSweptByMove_60 rfl (lv_at hl 4 rfl) ?_
          refine va_get (D := (dC, dI)) (ci := 6) (v := .ref ry) (C := RX7) (T := TX7) (N := 4) hx hb hts inX7 hown hK hP 7 rfl rfl 1 (Nat.le_of_ble_eq_true rfl) (hts _ mw_170) (fun _ h9 => h9) rfl dX4_isSweptByMove_61 ?_
          refine lv_iload hx hb dX4_isSweptByMove_64 (lv_at hl 1 rfl) ?_
          refine z_iald hx hb hK hP 9 0 rfl rfl (e := nxt n i) rfl b9_13 b9_5 dX4_isSweptByMove_66 ?_
          obtain ⟨hPc, hDc, hFc⟩ := zo_sub (wc := [_, _, _]) hP hD hS hA [4, 5, 6] rfl rfl
          refine zcall (st1 := [.int (pI ((P (nxt n i)).toInt = (X (nxt n i)).toInt ∧ (Q (nxt n i)).toInt = (Y (nxt n i)).toInt))]) (va_runV (As := [.int (nI (nxt n i)), .int (X (nxt n i)), .int (Y (nxt n i))]) (rest := []) ⟨hx, hb, hml, hown, hts⟩ (k_Row_isCorner l dC dI cI cZ cF H.size dr dx dy nd cd P Q rd (nxt n i) (X (nxt n i)) (Y (nxt n i)) (by first | with_reducible assumption | omega) (by first | with_reducible assumption | omega) (by first | with_reducible assumption | omega)) (csV_47 hts rfl rfl ⟨Nat.le_of_ble_eq_true rfl, Nat.le_of_ble_eq_true rfl⟩) (zPV2 (q0 := 0) (ci := 6) hPc hDc hK hXN rfl rfl) rfl rfl hl.1 rfl (lv_room (Nat.le_of_ble_eq_true rfl)) dX4_isSweptByMove_67 ⟨Nat.le_of_ble_eq_true rfl, Nat.le_of_ble_eq_true rfl⟩) hS hFc hFc rfl (fun t H locs ht hB hk1 hS => ?_)
          obtain ⟨hP1, hD1⟩ := hB
          rw [ht] at hP1
          obtain ⟨hP, hD⟩ := zn (W2 := [_, _, _, _, _, _, _, _, _, _, _, _, _]) hP hD hk1 hFc hP1 hD1 [4, 5, 6] [true, true, true, true, false, false, false, true, true, true, true, true, true] [true, true, true, true, false, false, false, true, true, true, true, true, true] [4, 5, 6] (by decide +kernel) rfl rfl rfl rfl rfl
          clear hk1 hPc hDc hFc hP1 hD1 ht
          refine lv_if_eq (tgt := 77) hx hb dX4_isSweptByMove_70 rfl (fun c_14 => ?_) (fun c_14 => ?_)
          · have c_14 : ¬ ((P (nxt n i)).toInt = (X (nxt n i)).toInt ∧ (Q (nxt n i)).toInt = (Y (nxt n i)).toInt) := zp_0 c_14
            refine lv_null hx hb dX4_isSweptByMove_77 ?_
            refine lv_astoreN (lv' := [(6, .null), (5, .ref r), (4, .int (nI (nxt n i))), (3, .int (nI i)), (0, .ref lw), (1, .ref r), (2, .ref u)]) hx hb dX4_isSweptByMove_78 hl (Nat.le_of_ble_eq_true rfl) rfl (fun ls hl => ?_)
            refine lv_aload hx hb dX4_isSweptByMove_80 (lv_at hl 1 rfl) ?_
            refine lv_ifnull hx hb dX4_isSweptByMove_82 ?_
            refine lv_aloadN hx hb dX4_isSweptByMove_85 (lv_at hl 0 rfl) ?_
            refine lv_ifnullN (tgt := 93) hx hb dX4_isSweptByMove_87 rfl ?_
            refine lv_aload_n hx hb dX4_isSweptByMove_93 rfl (lv_at hl 4 rfl) ?_
            refine lv_aload_n hx hb dX4_isSweptByMove_94 rfl (lv_at hl 5 rfl) ?_
            refine lv_iload_n hx hb dX4_isSweptByMove_95 rfl (lv_at hl 3 rfl) ?_
            refine lv_aload_n hx hb dX4_isSweptByMove_96 rfl (lv_at hl 5 rfl) ?_
            refine lv_iload hx hb dX4_isSweptByMove_97 (lv_at hl 2 rfl) ?_
            refine lv_aload_n hx hb dX4_isSweptByMove_99 rfl (lv_at hl 4 rfl) ?_
            refine va_get (D := (dC, dI)) (ci := 3) (v := .ref dr) (C := RX4) (T := TX4) (N := 6) hx hb hts inX4 hown hK hP 0 rfl rfl 0 (Nat.le_of_ble_eq_true rfl) (hts _ mw_219) (fun _ h9 => h9) rfl dX4_isSweptByMove_100 ?_
            refine lv_iload hx hb dX4_isSweptByMove_103 (lv_at hl 2 rfl) ?_
            obtain ⟨hPc, hDc, hFc⟩ := zo_sub (wc := [_, _, _, _, _, _, _, _, _, _]) hP hD hS hA [0, 1, 2, 3, 7, 8, 9, 4, 5, 6] (by decide +kernel) rfl
            refine zcall (st1 := []) (va_runV (As := [.ref r, .int (nI i), .ref r, .int (nI (nxt n i)), .ref dr, .int (nI (nxt n i))]) (rest := []) ⟨hx, hb, hml, hown, hts⟩ (k_Law_setTriangle_ood l dC dI cI cZ cF H.size lw dr tg wy br bo aa tx ty nt1 TX1 TY1 rt1 r rx ry n cap X Y rg dx dy nd cd P Q rd i (nxt n i) (nxt n i) (by first | with_reducible assumption | omega) (by first | with_reducible assumption | omega) (by first | with_reducible assumption | omega) (by first | with_reducible assumption | omega) (by first | with_reducible assumption | omega) (by first | with_reducible assumption | omega) (by first | with_reducible assumption | omega)) (csV_49 hts rfl rfl ⟨Nat.le_of_ble_eq_true rfl, Nat.le_of_ble_eq_true rfl⟩) (zPV2 (q0 := 0) (ci := 3) hPc hDc hK hXN rfl rfl) rfl rfl hl.1 rfl (lv_room (Nat.le_of_ble_eq_true rfl)) dX4_isSweptByMove_105 ⟨Nat.le_of_ble_eq_true rfl, Nat.le_of_ble_eq_true rfl⟩) hS hFc hFc rfl (fun t H locs ht hB hk1 hS => ?_)
            obtain ⟨hP1, hD1⟩ := hB
            rw [ht] at hP1
            obtain ⟨hP, hD⟩ := zn (W2 := [_, (oc6 tg (.ref tx) (.ref ty) (nI 3) 1), (oa tx cI 3 (upd (upd (upd TX1 0 (X i)) 1 (X (nxt n i))) 2 (P (nxt n i)))), (oa ty cI 3 (upd (upd (upd TY1 0 (Y i)) 1 (Y (nxt n i))) 2 (Q (nxt n i)))), _, _, _, _, _, _, _, _, _]) hP hD hk1 hFc hP1 hD1 [0, 1, 2, 3, 7, 8, 9, 4, 5, 6] [false, false, false, false, false, false, false, false, false, false, true, true, true] [false, false, false, false, false, false, false, false, false, false, true, true, true] [0, 1, 2, 3, 7, 8, 9, 4, 5, 6] (by decide +kernel) rfl rfl rfl rfl rfl
            clear hk1 hPc hDc hFc hP1 hD1 ht
            refine lv_aload_n hx hb dX4_isSweptByMove_108 rfl (lv_at hl 4 rfl) ?_
            refine lv_aload_n hx hb dX4_isSweptByMove_109 rfl (lv_at hl 6 rfl) ?_
            refine lv_aload hx hb dX4_isSweptByMove_110 (lv_at hl 1 rfl) ?_
            refine lv_iload_n hx hb dX4_isSweptByMove_112 rfl (lv_at hl 3 rfl) ?_
            refine lv_aloadN hx hb dX4_isSweptByMove_113 (lv_at hl 0 rfl) ?_
            refine lv_iload hx hb dX4_isSweptByMove_115 (lv_at hl 2 rfl) ?_
            obtain ⟨hPc, hDc, hFc⟩ := zo_sub (wc := [_, _, _, _, _, _, _, _, _, _]) hP hD hS hA [0, 1, 2, 3, 10, 11, 12, 7, 8, 9] (by decide +kernel) rfl
            refine zcall (st1 := [.int (pI (∃ j7, j7 < m2 ∧ ¬ ((X i).toInt = (U j7).toInt ∧ (Y i).toInt = (V j7).toInt) ∧ ¬ (whr 3 (upd (upd (upd TX1 0 (X i)) 1 (X (nxt n i))) 2 (P (nxt n i))) (upd (upd (upd TY1 0 (Y i)) 1 (Y (nxt n i))) 2 (Q (nxt n i))) (U j7).toInt (V j7).toInt).toInt = 0))]) (va_runV (As := [.ref u, .ref r, .int (nI i), .null, .int (nI (nxt n i))]) (rest := []) ⟨hx, hb, hml, hown, hts⟩ (k_Law_holdsCorner_rn l dC dI cI cZ cF H.size lw dr tg wy br bo aa tx ty (upd (upd (upd TX1 0 (X i)) 1 (X (nxt n i))) 2 (P (nxt n i))) (upd (upd (upd TY1 0 (Y i)) 1 (Y (nxt n i))) 2 (Q (nxt n i))) u ux uy m2 cap2 U V rh r rx ry n cap X Y rg i (nxt n i) (by first | with_reducible assumption | omega) (by first | with_reducible assumption | omega) (by first | with_reducible assumption | omega) (by first | with_reducible assumption | omega) (hq) (tr3_pl (hp _ hin).1 (hp _ hin).2 (hp _ hnx).1 (hp _ hnx).2 (hpd _ hnd9).1 (hpd _ hnd9).2) (by first | with_reducible assumption | omega)) (csV_50 hts rfl rfl ⟨Nat.le_of_ble_eq_true rfl, Nat.le_of_ble_eq_true rfl⟩) (zPV2 (q0 := 0) (ci := 3) hPc hDc hK hXN rfl rfl) rfl rfl hl.1 rfl (lv_room (Nat.le_of_ble_eq_true rfl)) dX4_isSweptByMove_117 ⟨Nat.le_of_ble_eq_true rfl, Nat.le_of_ble_eq_true rfl⟩) hS hFc hFc rfl (fun t H locs ht hB hk1 hS => ?_)
            obtain ⟨hP1, hD1⟩ := hB
            rw [ht] at hP1
            obtain ⟨hP, hD⟩ := zn (W2 := [_, _, _, _, _, _, _, _, _, _, _, _, _]) hP hD hk1 hFc hP1 hD1 [0, 1, 2, 3, 10, 11, 12, 7, 8, 9] [false, false, false, false, true, true, true] [false, false, false, false, true, true, true, false, false, false, false, false, false] [0, 1, 2, 3, 10, 11, 12, 7, 8, 9] (by decide +kernel) rfl rfl rfl rfl rfl
            clear hk1 hPc hDc hFc hP1 hD1 ht
            refine zz_i (v := pI (∃ k, k < m2 ∧ ¬ spr n X Y P Q i (U k).toInt (V k).toInt ∧ wtR (X i) (Y i) (X (nxt n i)) (Y (nxt n i)) (P (nxt n i)) (Q (nxt n i)) (U k).toInt (V k).toInt)) (zp_iff (sp_rn (by first | with_reducible assumption | assumption) (by first | with_reducible assumption | assumption) (fun _ => wtR_e))) ?_
            refine lv_if_eq (tgt := 125) hx hb dX4_isSweptByMove_120 rfl (fun c_15 => ?_) (fun c_15 => ?_)
            · have c_15 : ¬ (∃ k, k < m2 ∧ ¬ spr n X Y P Q i (U k).toInt (V k).toInt ∧ wtR (X i) (Y i) (X (nxt n i)) (Y (nxt n i)) (P (nxt n i)) (Q (nxt n i)) (U k).toInt (V k).toInt) := zp_0 c_15
              refine lv_aload_n hx hb dX4_isSweptByMove_125 rfl (lv_at hl 4 rfl) ?_
              refine lv_aload_n hx hb dX4_isSweptByMove_126 rfl (lv_at hl 5 rfl) ?_
              refine lv_iload_n hx hb dX4_isSweptByMove_127 rfl (lv_at hl 3 rfl) ?_
              refine lv_aload_n hx hb dX4_isSweptByMove_128 rfl (lv_at hl 4 rfl) ?_
              refine va_get (D := (dC, dI)) (ci := 3) (v := .ref dr) (C := RX4) (T := TX4) (N := 6) hx hb hts inX4 hown hK hP 0 rfl rfl 0 (Nat.le_of_ble_eq_true rfl) (hts _ mw_219) (fun _ h9 => h9) rfl dX4_isSweptByMove_129 ?_
              refine lv_iload_n hx hb dX4_isSweptByMove_132 rfl (lv_at hl 3 rfl) ?_
              refine lv_aload_n hx hb dX4_isSweptByMove_133 rfl (lv_at hl 4 rfl) ?_
              refine va_get (D := (dC, dI)) (ci := 3) (v := .ref dr) (C := RX4) (T := TX4) (N := 6) hx hb hts inX4 hown hK hP 0 rfl rfl 0 (Nat.le_of_ble_eq_true rfl) (hts _ mw_219) (fun _ h9 => h9) rfl dX4_isSweptByMove_134 ?_
              refine lv_iload hx hb dX4_isSweptByMove_137 (lv_at hl 2 rfl) ?_
              obtain ⟨hPc, hDc, hFc⟩ := zo_sub (wc := [_, _, _, _, _, _, _, _, _, _]) hP hD hS hA [0, 1, 2, 3, 7, 8, 9, 4, 5, 6] (by decide +kernel) rfl
              refine zcall (st1 := []) (va_runV (As := [.ref r, .int (nI i), .ref dr, .int (nI i), .ref dr, .int (nI (nxt n i))]) (rest := []) ⟨hx, hb, hml, hown, hts⟩ (k_Law_setTriangle_odd l dC dI cI cZ cF H.size lw dr tg wy br bo aa tx ty 3 (upd (upd (upd TX1 0 (X i)) 1 (X (nxt n i))) 2 (P (nxt n i))) (upd (upd (upd TY1 0 (Y i)) 1 (Y (nxt n i))) 2 (Q (nxt n i))) 1 r rx ry n cap X Y rg dx dy nd cd P Q rd i i (nxt n i) (by first | with_reducible assumption | omega) (by first | with_reducible assumption | omega) (by first | with_reducible assumption | omega) (by first | with_reducible assumption | omega) (by first | with_reducible assumption | omega) (by first | with_reducible assumption | omega) (by first | with_reducible assumption | omega)) (csV_49 hts rfl rfl ⟨Nat.le_of_ble_eq_true rfl, Nat.le_of_ble_eq_true rfl⟩) (zPV2 (q0 := 0) (ci := 3) hPc hDc hK hXN rfl rfl) rfl rfl hl.1 rfl (lv_room (Nat.le_of_ble_eq_true rfl)) dX4_isSweptByMove_139 ⟨Nat.le_of_ble_eq_true rfl, Nat.le_of_ble_eq_true rfl⟩) hS hFc hFc rfl (fun t H locs ht hB hk1 hS => ?_)
              obtain ⟨hP1, hD1⟩ := hB
              rw [ht] at hP1
              obtain ⟨hP, hD⟩ := zn (W2 := [_, _, (oa tx cI 3 (upd (upd (upd (upd (upd (upd TX1 0 (X i)) 1 (X (nxt n i))) 2 (P (nxt n i))) 0 (X i)) 1 (P i)) 2 (P (nxt n i)))), (oa ty cI 3 (upd (upd (upd (upd (upd (upd TY1 0 (Y i)) 1 (Y (nxt n i))) 2 (Q (nxt n i))) 0 (Y i)) 1 (Q i)) 2 (Q (nxt n i)))), _, _, _, _, _, _, _, _, _]) hP hD hk1 hFc hP1 hD1 [0, 1, 2, 3, 7, 8, 9, 4, 5, 6] [false, false, false, false, false, false, false, false, false, false, true, true, true] [false, false, false, false, false, false, false, false, false, false, true, true, true] [0, 1, 2, 3, 7, 8, 9, 4, 5, 6] (by decide +kernel) rfl rfl rfl rfl rfl
              clear hk1 hPc hDc hFc hP1 hD1 ht
              refine lv_aload_n hx hb dX4_isSweptByMove_142 rfl (lv_at hl 4 rfl) ?_
              refine lv_aload_n hx hb dX4_isSweptByMove_143 rfl (lv_at hl 6 rfl) ?_
              refine lv_aload hx hb dX4_isSweptByMove_144 (lv_at hl 1 rfl) ?_
              refine lv_iload_n hx hb dX4_isSweptByMove_146 rfl (lv_at hl 3 rfl) ?_
              refine lv_aloadN hx hb dX4_isSweptByMove_147 (lv_at hl 0 rfl) ?_
              refine lv_iload hx hb dX4_isSweptByMove_149 (lv_at hl 2 rfl) ?_
              obtain ⟨hPc, hDc, hFc⟩ := zo_sub (wc := [_, _, _, _, _, _, _, _, _, _]) hP hD hS hA [0, 1, 2, 3, 10, 11, 12, 7, 8, 9] (by decide +kernel) rfl
              refine zcall (st1 := [.int (pI (∃ j7, j7 < m2 ∧ ¬ ((X i).toInt = (U j7).toInt ∧ (Y i).toInt = (V j7).toInt) ∧ ¬ (whr 3 (upd (upd (upd (upd (upd (upd TX1 0 (X i)) 1 (X (nxt n i))) 2 (P (nxt n i))) 0 (X i)) 1 (P i)) 2 (P (nxt n i))) (upd (upd (upd (upd (upd (upd TY1 0 (Y i)) 1 (Y (nxt n i))) 2 (Q (nxt n i))) 0 (Y i)) 1 (Q i)) 2 (Q (nxt n i))) (U j7).toInt (V j7).toInt).toInt = 0))]) (va_runV (As := [.ref u, .ref r, .int (nI i), .null, .int (nI (nxt n i))]) (rest := []) ⟨hx, hb, hml, hown, hts⟩ (k_Law_holdsCorner_rn l dC dI cI cZ cF H.size lw dr tg wy br bo aa tx ty (upd (upd (upd (upd (upd (upd TX1 0 (X i)) 1 (X (nxt n i))) 2 (P (nxt n i))) 0 (X i)) 1 (P i)) 2 (P (nxt n i))) (upd (upd (upd (upd (upd (upd TY1 0 (Y i)) 1 (Y (nxt n i))) 2 (Q (nxt n i))) 0 (Y i)) 1 (Q i)) 2 (Q (nxt n i))) u ux uy m2 cap2 U V rh r rx ry n cap X Y rg i (nxt n i) (by first | with_reducible assumption | omega) (by first | with_reducible assumption | omega) (by first | with_reducible assumption | omega) (by first | with_reducible assumption | omega) (hq) (tr3_pl (hp _ hin).1 (hp _ hin).2 (hpd _ hid9).1 (hpd _ hid9).2 (hpd _ hnd9).1 (hpd _ hnd9).2) (by first | with_reducible assumption | omega)) (csV_50 hts rfl rfl ⟨Nat.le_of_ble_eq_true rfl, Nat.le_of_ble_eq_true rfl⟩) (zPV2 (q0 := 0) (ci := 3) hPc hDc hK hXN rfl rfl) rfl rfl hl.1 rfl (lv_room (Nat.le_of_ble_eq_true rfl)) dX4_isSweptByMove_151 ⟨Nat.le_of_ble_eq_true rfl, Nat.le_of_ble_eq_true rfl⟩) hS hFc hFc rfl (fun t H locs ht hB hk1 hS => ?_)
              obtain ⟨hP1, hD1⟩ := hB
              rw [ht] at hP1
              obtain ⟨hP, hD⟩ := zn (W2 := [_, _, _, _, _, _, _, _, _, _, _, _, _]) hP hD hk1 hFc hP1 hD1 [0, 1, 2, 3, 10, 11, 12, 7, 8, 9] [false, false, false, false, true, true, true] [false, false, false, false, true, true, true, false, false, false, false, false, false] [0, 1, 2, 3, 10, 11, 12, 7, 8, 9] (by decide +kernel) rfl rfl rfl rfl rfl
              clear hk1 hPc hDc hFc hP1 hD1 ht
              refine zz_i (v := pI (∃ k, k < m2 ∧ ¬ spr n X Y P Q i (U k).toInt (V k).toInt ∧ wtR (X i) (Y i) (P i) (Q i) (P (nxt n i)) (Q (nxt n i)) (U k).toInt (V k).toInt)) (zp_iff (sp_rn (by first | with_reducible assumption | assumption) (by first | with_reducible assumption | assumption) (fun _ => wtR_e))) ?_
              refine lv_if_eq (tgt := 159) hx hb dX4_isSweptByMove_154 rfl (fun c_16 => ?_) (fun c_16 => ?_)
              · have c_16 : ¬ (∃ k, k < m2 ∧ ¬ spr n X Y P Q i (U k).toInt (V k).toInt ∧ wtR (X i) (Y i) (P i) (Q i) (P (nxt n i)) (Q (nxt n i)) (U k).toInt (V k).toInt) := zp_0 c_16
                refine lv_iinc (v := nI (i + 1)) (lv' := [(3, .int (nI (i + 1))), (6, .null), (5, .ref r), (4, .int (nI (nxt n i))), (0, .ref lw), (1, .ref r), (2, .ref u)]) hx hb dX4_isSweptByMove_159 hl (k := 3) rfl (nI_add i 1) (Nat.le_of_ble_eq_true rfl) rfl (fun ls hl => ?_)
                refine lv_goto (tgt := 2) hx hb dX4_isSweptByMove_162 rfl ?_
                exact ih_2 (i + 1) 3 (upd (upd (upd (upd (upd (upd TX1 0 (X i)) 1 (X (nxt n i))) 2 (P (nxt n i))) 0 (X i)) 1 (P i)) 2 (P (nxt n i))) (upd (upd (upd (upd (upd (upd TY1 0 (Y i)) 1 (Y (nxt n i))) 2 (Q (nxt n i))) 0 (Y i)) 1 (Q i)) 2 (Q (nxt n i))) 1 H locs ls (by first | with_reducible assumption | omega) (by first | with_reducible assumption | omega) (by intro j hj k hk; rcases Nat.lt_or_ge j i with h | h; exact hno j h k hk; rw [show j = i by omega]; first | exact (fun h9 => h9.2.elim (fun g => (by (first | with_reducible assumption | assumption) : ¬ (∃ k, k < m2 ∧ ¬ spr n X Y P Q i (U k).toInt (V k).toInt ∧ wtR (X i) (Y i) (X (nxt n i)) (Y (nxt n i)) (P (nxt n i)) (Q (nxt n i)) (U k).toInt (V k).toInt)) ⟨k, hk, h9.1, g⟩) (fun g => (by (first | with_reducible assumption | assumption) : ¬ (∃ k, k < m2 ∧ ¬ spr n X Y P Q i (U k).toInt (V k).toInt ∧ wtR (X i) (Y i) (P i) (Q i) (P (nxt n i)) (Q (nxt n i)) (U k).toInt (V k).toInt)) ⟨k, hk, h9.1, g⟩)) | exact (fun h9 => h9.1 (Or.inl ⟨⟨by omega, by omega⟩, ⟨by omega, by omega⟩⟩))) hP hD hS (lv_sub hl [0, 4, 5, 6] rfl)
              · have c_16 : ∃ k, k < m2 ∧ ¬ spr n X Y P Q i (U k).toInt (V k).toInt ∧ wtR (X i) (Y i) (P i) (Q i) (P (nxt n i)) (Q (nxt n i)) (U k).toInt (V k).toInt := zp_1 c_16
                refine lv_iconst (v := 1) hx hb dX4_isSweptByMove_157 rfl ?_
                obtain ⟨hP9, hD9⟩ := zu_sub (wc := [_, _, _, _, _, _, _, _, _, _, _, _, _]) hP hD [true, true, true, true, true, true, true, true, true, true, true, true, true] rfl rfl
                rw [hQ9]
                exact W.zret (ty := .boolean) (v := 1) hx hb hr (rfl) (fun t ht hW => ⟨⟨congrArg (fun z => Outcome.returned (some (Value.int z))) (show (1 : Int32) = pI (∃ i, i < edg n rg ∧ ∃ k, k < m2 ∧ swR n X Y P Q (U k).toInt (V k).toInt i) from (zp_t (by obtain ⟨k, hk, h1, h2⟩ := (by (first | with_reducible assumption | assumption) : ∃ k, k < m2 ∧ ¬ spr n X Y P Q i (U k).toInt (V k).toInt ∧ wtR (X i) (Y i) (P i) (Q i) (P (nxt n i)) (Q (nxt n i)) (U k).toInt (V k).toInt); exact ⟨i, by omega, k, hk, h1, Or.inr h2⟩)).symm), 3, (upd (upd (upd (upd (upd (upd TX1 0 (X i)) 1 (X (nxt n i))) 2 (P (nxt n i))) 0 (X i)) 1 (P i)) 2 (P (nxt n i))), (upd (upd (upd (upd (upd (upd TY1 0 (Y i)) 1 (Y (nxt n i))) 2 (Q (nxt n i))) 0 (Y i)) 1 (Q i)) 2 (Q (nxt n i))), 1, by rw [ht]; exact hP9, hD9⟩, hS.F ht⟩) hS.2.2 dX4_isSweptByMove_158
            · have c_15 : ∃ k, k < m2 ∧ ¬ spr n X Y P Q i (U k).toInt (V k).toInt ∧ wtR (X i) (Y i) (X (nxt n i)) (Y (nxt n i)) (P (nxt n i)) (Q (nxt n i)) (U k).toInt (V k).toInt := zp_1 c_15
              refine lv_iconst (v := 1) hx hb dX4_isSweptByMove_123 rfl ?_
              obtain ⟨hP9, hD9⟩ := zu_sub (wc := [_, _, _, _, _, _, _, _, _, _, _, _, _]) hP hD [true, true, true, true, true, true, true, true, true, true, true, true, true] rfl rfl
              rw [hQ9]
              exact W.zret (ty := .boolean) (v := 1) hx hb hr (rfl) (fun t ht hW => ⟨⟨congrArg (fun z => Outcome.returned (some (Value.int z))) (show (1 : Int32) = pI (∃ i, i < edg n rg ∧ ∃ k, k < m2 ∧ swR n X Y P Q (U k).toInt (V k).toInt i) from (zp_t (by obtain ⟨k, hk, h1, h2⟩ := (by (first | with_reducible assumption | assumption) : ∃ k, k < m2 ∧ ¬ spr n X Y P Q i (U k).toInt (V k).toInt ∧ wtR (X i) (Y i) (X (nxt n i)) (Y (nxt n i)) (P (nxt n i)) (Q (nxt n i)) (U k).toInt (V k).toInt); exact ⟨i, by omega, k, hk, h1, Or.inl h2⟩)).symm), 3, (upd (upd (upd TX1 0 (X i)) 1 (X (nxt n i))) 2 (P (nxt n i))), (upd (upd (upd TY1 0 (Y i)) 1 (Y (nxt n i))) 2 (Q (nxt n i))), 1, by rw [ht]; exact hP9, hD9⟩, hS.F ht⟩) hS.2.2 dX4_isSweptByMove_124
          · have c_14 : (P (nxt n i)).toInt = (X (nxt n i)).toInt ∧ (Q (nxt n i)).toInt = (Y (nxt n i)).toInt := zp_1 c_14
            refine lv_aload_n hx hb dX4_isSweptByMove_73 rfl (lv_at hl 4 rfl) ?_
            refine lv_goto (tgt := 78) hx hb dX4_isSweptByMove_74 rfl ?_
            refine lv_astore (lv' := [(6, .ref r), (5, .ref r), (4, .int (nI (nxt n i))), (3, .int (nI i)), (0, .ref lw), (1, .ref r), (2, .ref u)]) hx hb dX4_isSweptByMove_78 hl (Nat.le_of_ble_eq_true rfl) rfl (fun ls hl => ?_)
            refine lv_aload hx hb dX4_isSweptByMove_80 (lv_at hl 1 rfl) ?_
            refine lv_ifnull hx hb dX4_isSweptByMove_82 ?_
            refine lv_aload hx hb dX4_isSweptByMove_85 (lv_at hl 0 rfl) ?_
            refine lv_ifnull hx hb dX4_isSweptByMove_87 ?_
            refine lv_goto (tgt := 159) hx hb dX4_isSweptByMove_90 rfl ?_
            refine lv_iinc (v := nI (i + 1)) (lv' := [(3, .int (nI (i + 1))), (6, .ref r), (5, .ref r), (4, .int (nI (nxt n i))), (0, .ref lw), (1, .ref r), (2, .ref u)]) hx hb dX4_isSweptByMove_159 hl (k := 3) rfl (nI_add i 1) (Nat.le_of_ble_eq_true rfl) rfl (fun ls hl => ?_)
            refine lv_goto (tgt := 2) hx hb dX4_isSweptByMove_162 rfl ?_
            exact ih_2 (i + 1) nt1 TX1 TY1 rt1 H locs ls (by first | with_reducible assumption | omega) (by first | with_reducible assumption | omega) (by intro j hj k hk; rcases Nat.lt_or_ge j i with h | h; exact hno j h k hk; rw [show j = i by omega]; first | exact (fun h9 => h9.2.elim (fun g => (by (first | with_reducible assumption | assumption) : ¬ (∃ k, k < m2 ∧ ¬ spr n X Y P Q i (U k).toInt (V k).toInt ∧ wtR (X i) (Y i) (X (nxt n i)) (Y (nxt n i)) (P (nxt n i)) (Q (nxt n i)) (U k).toInt (V k).toInt)) ⟨k, hk, h9.1, g⟩) (fun g => (by (first | with_reducible assumption | assumption) : ¬ (∃ k, k < m2 ∧ ¬ spr n X Y P Q i (U k).toInt (V k).toInt ∧ wtR (X i) (Y i) (P i) (Q i) (P (nxt n i)) (Q (nxt n i)) (U k).toInt (V k).toInt)) ⟨k, hk, h9.1, g⟩)) | exact (fun h9 => h9.1 (Or.inl ⟨⟨by omega, by omega⟩, ⟨by omega, by omega⟩⟩))) hP hD hS (lv_sub hl [0, 4, 5, 6] rfl)
  exact hl_2 _ 0 nt TX TY rt s.heap [] ls (Nat.lt_succ_self _) (by first | with_reducible assumption | omega) (by intro j hj; omega) hP hD hS (lv_sub hl [0, 1, 2, 3] rfl)
set_option maxHeartbeats 4000000 in
set_option maxRecDepth 100000 in
theorem k_Law_measureReach_1 (l : Launch) (dC : Nat → ClassId) (dI : Nat → Nat → Nat) (cI cZ cF : ClassId) (sz : Nat) (lw : Nat) (dr : Nat) (tg : Nat) (wy : Nat) (br : Nat) (bo : Nat) (aa : Nat) (b1 : Int32) (b2 : Int32) (b3 : Int32) (b4 : Int32) (dx : Nat) (dy : Nat) (nd : Nat) (cd : Nat) (P : Nat → Int32) (Q : Nat → Int32) (rd : Int32) (r : Nat) (rx : Nat) (ry : Nat) (n : Nat) (cap : Nat) (X : Nat → Int32) (Y : Nat → Int32) (rg : Int32) (hnd : nd ≤ cd) (hcd : cd ≤ 1000) (hpd : pls nd P Q) (hn : n ≤ cap) (hcap : cap ≤ 1000) (hp : pls n X Y) (h1n : 1 ≤ n) : zM l yX4_measureReach cX4_measureReach 3 none ({ frames := 3, cells := 0, slots := 0, locals := 65 } : Room) [.ref lw, .ref r, .int (-1)] (dC, dI) (zTy cI cZ cF) [(oc3 lw (.ref dr) (.ref tg) (.ref wy) (.ref br) (.ref bo) (.ref aa)), (oc0 br b1 b2 b3 b4), (oc6 dr (.ref dx) (.ref dy) (nI nd) rd), (oa dx cI cd P), (oa dy cI cd Q), (oc6 r (.ref rx) (.ref ry) (nI n) rg), (oa rx cI cap X), (oa ry cI cap Y)] sz none (fun A t => zPD (dC, dI) classes A [(oc3 lw (.ref dr) (.ref tg) (.ref wy) (.ref br) (.ref bo) (.ref aa)), (oc0 br (iI (mnI (mnI (X 0).toInt X n) P nd)) (iI (mnI (mnI (Y 0).toInt Y n) Q nd)) (iI (mxI (mxI (X 0).toInt X n) P nd)) (iI (mxI (mxI (Y 0).toInt Y n) Q nd))), (oc6 dr (.ref dx) (.ref dy) (nI nd) rd), (oa dx cI cd P), (oa dy cI cd Q), (oc6 r (.ref rx) (.ref ry) (nI n) rg), (oa rx cI cap X), (oa ry cI cap Y)] t.heap) 0 0 := by
  refine zIn (own := "ScaleShop$Law") (loc := [(0, .ref lw), (1, .ref r), (2, .int (-1))]) rfl rfl rfl rfl (fun p e s m below meth c hx hb hr hts hown hlocks hml hnm9 A hA hS hP hD hK hXN Q9 hQ9 ls hl => ?_)
  refine lv_iload_n hx hb dX4_measureReach_0 rfl (lv_at hl 2 rfl) ?_
  refine lv_if_lt (tgt := 78) hx hb dX4_measureReach_1 rfl (fun c_1 => ?_) (fun c_1 => ?_)
  · refine lv_aload_n hx hb dX4_measureReach_78 rfl (lv_at hl 0 rfl) ?_
    refine va_get (D := (dC, dI)) (ci := 3) (v := .ref br) (C := RX4) (T := TX4) (N := 6) hx hb hts inX4 hown hK hP 0 rfl rfl 3 (Nat.le_of_ble_eq_true rfl) (hts _ mw_223) (fun _ h9 => h9) rfl dX4_measureReach_79 ?_
    refine lv_aload_n hx hb dX4_measureReach_82 rfl (lv_at hl 1 rfl) ?_
    obtain ⟨hPc, hDc, hFc⟩ := zo_sub (wc := [_, _, _, _]) hP hD hS hA [1, 5, 6, 7] (by decide +kernel) rfl
    refine zcall (st1 := []) (va_runV (As := [.ref r]) (rest := []) ⟨hx, hb, hml, hown, hts⟩ (k_Box_cover l dC dI cI cZ cF s.heap.size br b1 b2 b3 b4 r rx ry n cap X Y rg (by first | with_reducible assumption | omega) (by first | with_reducible assumption | omega) ((pls_nr hp).1) ((pls_nr hp).2) (by first | with_reducible assumption | omega)) (csV_52 hts rfl rfl ⟨Nat.le_of_ble_eq_true rfl, Nat.le_of_ble_eq_true rfl⟩) (zPV2 (q0 := 0) (ci := 0) hPc hDc hK hXN rfl rfl) rfl rfl hl.1 rfl (lv_room (Nat.le_of_ble_eq_true rfl)) dX4_measureReach_83 ⟨Nat.le_of_ble_eq_true rfl, Nat.le_of_ble_eq_true rfl⟩) hS hFc hFc rfl (fun t H locs ht hB hk1 hS => ?_)
    obtain ⟨hP1, hD1⟩ := hB
    rw [ht] at hP1
    obtain ⟨hP, hD⟩ := zn (W2 := [_, (oc0 br (iI (mnI (X 0).toInt X n)) (iI (mnI (Y 0).toInt Y n)) (iI (mxI (X 0).toInt X n)) (iI (mxI (Y 0).toInt Y n))), _, _, _, _, _, _]) hP hD hk1 hFc hP1 hD1 [1, 5, 6, 7] [true, false, true, true, true] [true, false, true, true, true, false, false, false] [1, 5, 6, 7] (by decide +kernel) rfl rfl rfl rfl rfl
    clear hk1 hPc hDc hFc hP1 hD1 ht
    refine lv_aload_n hx hb dX4_measureReach_86 rfl (lv_at hl 0 rfl) ?_
    refine va_get (D := (dC, dI)) (ci := 3) (v := .ref br) (C := RX4) (T := TX4) (N := 6) hx hb hts inX4 hown hK hP 0 rfl rfl 3 (Nat.le_of_ble_eq_true rfl) (hts _ mw_223) (fun _ h9 => h9) rfl dX4_measureReach_87 ?_
    refine lv_aload_n hx hb dX4_measureReach_90 rfl (lv_at hl 0 rfl) ?_
    refine va_get (D := (dC, dI)) (ci := 3) (v := .ref dr) (C := RX4) (T := TX4) (N := 6) hx hb hts inX4 hown hK hP 0 rfl rfl 0 (Nat.le_of_ble_eq_true rfl) (hts _ mw_219) (fun _ h9 => h9) rfl dX4_measureReach_91 ?_
    obtain ⟨hPc, hDc, hFc⟩ := zo_sub (wc := [_, _, _, _]) hP hD hS hA [1, 2, 3, 4] (by decide +kernel) rfl
    refine zcall (st1 := []) (va_runV (As := [.ref dr]) (rest := []) ⟨hx, hb, hml, hown, hts⟩ (k_Box_stretch l dC dI cI cZ cF H.size br (mnI (X 0).toInt X n) (mnI (Y 0).toInt Y n) (mxI (X 0).toInt X n) (mxI (Y 0).toInt Y n) dr dx dy nd cd P Q rd (⟨mnB ((pls_nr hp).1 0 (by first | with_reducible assumption | omega)) (pls_nr hp).1 n (Nat.le_refl _), mnB ((pls_nr hp).2 0 (by first | with_reducible assumption | omega)) (pls_nr hp).2 n (Nat.le_refl _), mxB ((pls_nr hp).1 0 (by first | with_reducible assumption | omega)) (pls_nr hp).1 n (Nat.le_refl _), mxB ((pls_nr hp).2 0 (by first | with_reducible assumption | omega)) (pls_nr hp).2 n (Nat.le_refl _)⟩) (by first | with_reducible assumption | omega) (by first | with_reducible assumption | omega) ((pls_nr hpd).1) ((pls_nr hpd).2)) (csV_53 hts rfl rfl ⟨Nat.le_of_ble_eq_true rfl, Nat.le_of_ble_eq_true rfl⟩) (zPV2 (q0 := 0) (ci := 0) hPc hDc hK hXN rfl rfl) rfl rfl hl.1 rfl (lv_room (Nat.le_of_ble_eq_true rfl)) dX4_measureReach_94 ⟨Nat.le_of_ble_eq_true rfl, Nat.le_of_ble_eq_true rfl⟩) hS hFc hFc rfl (fun t H locs ht hB hk1 hS => ?_)
    obtain ⟨hP1, hD1⟩ := hB
    rw [ht] at hP1
    obtain ⟨hP, hD⟩ := zn (W2 := [_, (oc0 br (iI (mnI (mnI (X 0).toInt X n) P nd)) (iI (mnI (mnI (Y 0).toInt Y n) Q nd)) (iI (mxI (mxI (X 0).toInt X n) P nd)) (iI (mxI (mxI (Y 0).toInt Y n) Q nd))), _, _, _, _, _, _]) hP hD hk1 hFc hP1 hD1 [1, 2, 3, 4] [true, false, false, false, false, true, true, true] [true, false, false, false, false, true, true, true] [1, 2, 3, 4] (by decide +kernel) rfl rfl rfl rfl rfl
    clear hk1 hPc hDc hFc hP1 hD1 ht
    obtain ⟨hP9, hD9⟩ := zu_sub (wc := [_, _, _, _, _, _, _, _]) hP hD [true, true, true, true, true, true, true, true] rfl rfl
    rw [hQ9]
    exact W.vret hx hb hr (fun t ht hW => ⟨⟨rfl, by rw [ht]; exact hP9, hD9⟩, hS.F ht⟩) hS.2.2 dX4_measureReach_97
  · exact absurd (by decide) c_1
set_option maxHeartbeats 4000000 in
set_option maxRecDepth 100000 in
theorem k_Law_measureReach_2 (l : Launch) (dC : Nat → ClassId) (dI : Nat → Nat → Nat) (cI cZ cF : ClassId) (sz : Nat) (lw : Nat) (dr : Nat) (tg : Nat) (wy : Nat) (br : Nat) (bo : Nat) (aa : Nat) (b1 : Int32) (b2 : Int32) (b3 : Int32) (b4 : Int32) (dx : Nat) (dy : Nat) (nd : Nat) (cd : Nat) (P : Nat → Int32) (Q : Nat → Int32) (rd : Int32) (r : Nat) (rx : Nat) (ry : Nat) (n : Nat) (cap : Nat) (X : Nat → Int32) (Y : Nat → Int32) (rg : Int32) (hnd : nd ≤ cd) (hcd : cd ≤ 1000) (hpd : pls nd P Q) (hn : n ≤ cap) (hcap : cap ≤ 1000) (hp : pls n X Y) (h1n : 1 ≤ n) : zM l yX4_measureReach cX4_measureReach 3 none ({ frames := 3, cells := 0, slots := 0, locals := 65 } : Room) [.ref lw, .ref r, .int (-2)] (dC, dI) (zTy cI cZ cF) [(oc3 lw (.ref dr) (.ref tg) (.ref wy) (.ref br) (.ref bo) (.ref aa)), (oc0 br b1 b2 b3 b4), (oc6 dr (.ref dx) (.ref dy) (nI nd) rd), (oa dx cI cd P), (oa dy cI cd Q), (oc6 r (.ref rx) (.ref ry) (nI n) rg), (oa rx cI cap X), (oa ry cI cap Y)] sz none (fun A t => zPD (dC, dI) classes A [(oc3 lw (.ref dr) (.ref tg) (.ref wy) (.ref br) (.ref bo) (.ref aa)), (oc0 br (iI (mnI (mnI (X 0).toInt X n) P nd)) (iI (mnI (mnI (Y 0).toInt Y n) Q nd)) (iI (mxI (mxI (X 0).toInt X n) P nd)) (iI (mxI (mxI (Y 0).toInt Y n) Q nd))), (oc6 dr (.ref dx) (.ref dy) (nI nd) rd), (oa dx cI cd P), (oa dy cI cd Q), (oc6 r (.ref rx) (.ref ry) (nI n) rg), (oa rx cI cap X), (oa ry cI cap Y)] t.heap) 0 0 := by
  refine zIn (own := "ScaleShop$Law") (loc := [(0, .ref lw), (1, .ref r), (2, .int (-2))]) rfl rfl rfl rfl (fun p e s m below meth c hx hb hr hts hown hlocks hml hnm9 A hA hS hP hD hK hXN Q9 hQ9 ls hl => ?_)
  refine lv_iload_n hx hb dX4_measureReach_0 rfl (lv_at hl 2 rfl) ?_
  refine lv_if_lt (tgt := 78) hx hb dX4_measureReach_1 rfl (fun c_1 => ?_) (fun c_1 => ?_)
  · refine lv_aload_n hx hb dX4_measureReach_78 rfl (lv_at hl 0 rfl) ?_
    refine va_get (D := (dC, dI)) (ci := 3) (v := .ref br) (C := RX4) (T := TX4) (N := 6) hx hb hts inX4 hown hK hP 0 rfl rfl 3 (Nat.le_of_ble_eq_true rfl) (hts _ mw_223) (fun _ h9 => h9) rfl dX4_measureReach_79 ?_
    refine lv_aload_n hx hb dX4_measureReach_82 rfl (lv_at hl 1 rfl) ?_
    obtain ⟨hPc, hDc, hFc⟩ := zo_sub (wc := [_, _, _, _]) hP hD hS hA [1, 5, 6, 7] (by decide +kernel) rfl
    refine zcall (st1 := []) (va_runV (As := [.ref r]) (rest := []) ⟨hx, hb, hml, hown, hts⟩ (k_Box_cover l dC dI cI cZ cF s.heap.size br b1 b2 b3 b4 r rx ry n cap X Y rg (by first | with_reducible assumption | omega) (by first | with_reducible assumption | omega) ((pls_nr hp).1) ((pls_nr hp).2) (by first | with_reducible assumption | omega)) (csV_52 hts rfl rfl ⟨Nat.le_of_ble_eq_true rfl, Nat.le_of_ble_eq_true rfl⟩) (zPV2 (q0 := 0) (ci := 0) hPc hDc hK hXN rfl rfl) rfl rfl hl.1 rfl (lv_room (Nat.le_of_ble_eq_true rfl)) dX4_measureReach_83 ⟨Nat.le_of_ble_eq_true rfl, Nat.le_of_ble_eq_true rfl⟩) hS hFc hFc rfl (fun t H locs ht hB hk1 hS => ?_)
    obtain ⟨hP1, hD1⟩ := hB
    rw [ht] at hP1
    obtain ⟨hP, hD⟩ := zn (W2 := [_, (oc0 br (iI (mnI (X 0).toInt X n)) (iI (mnI (Y 0).toInt Y n)) (iI (mxI (X 0).toInt X n)) (iI (mxI (Y 0).toInt Y n))), _, _, _, _, _, _]) hP hD hk1 hFc hP1 hD1 [1, 5, 6, 7] [true, false, true, true, true] [true, false, true, true, true, false, false, false] [1, 5, 6, 7] (by decide +kernel) rfl rfl rfl rfl rfl
    clear hk1 hPc hDc hFc hP1 hD1 ht
    refine lv_aload_n hx hb dX4_measureReach_86 rfl (lv_at hl 0 rfl) ?_
    refine va_get (D := (dC, dI)) (ci := 3) (v := .ref br) (C := RX4) (T := TX4) (N := 6) hx hb hts inX4 hown hK hP 0 rfl rfl 3 (Nat.le_of_ble_eq_true rfl) (hts _ mw_223) (fun _ h9 => h9) rfl dX4_measureReach_87 ?_
    refine lv_aload_n hx hb dX4_measureReach_90 rfl (lv_at hl 0 rfl) ?_
    refine va_get (D := (dC, dI)) (ci := 3) (v := .ref dr) (C := RX4) (T := TX4) (N := 6) hx hb hts inX4 hown hK hP 0 rfl rfl 0 (Nat.le_of_ble_eq_true rfl) (hts _ mw_219) (fun _ h9 => h9) rfl dX4_measureReach_91 ?_
    obtain ⟨hPc, hDc, hFc⟩ := zo_sub (wc := [_, _, _, _]) hP hD hS hA [1, 2, 3, 4] (by decide +kernel) rfl
    refine zcall (st1 := []) (va_runV (As := [.ref dr]) (rest := []) ⟨hx, hb, hml, hown, hts⟩ (k_Box_stretch l dC dI cI cZ cF H.size br (mnI (X 0).toInt X n) (mnI (Y 0).toInt Y n) (mxI (X 0).toInt X n) (mxI (Y 0).toInt Y n) dr dx dy nd cd P Q rd (⟨mnB ((pls_nr hp).1 0 (by first | with_reducible assumption | omega)) (pls_nr hp).1 n (Nat.le_refl _), mnB ((pls_nr hp).2 0 (by first | with_reducible assumption | omega)) (pls_nr hp).2 n (Nat.le_refl _), mxB ((pls_nr hp).1 0 (by first | with_reducible assumption | omega)) (pls_nr hp).1 n (Nat.le_refl _), mxB ((pls_nr hp).2 0 (by first | with_reducible assumption | omega)) (pls_nr hp).2 n (Nat.le_refl _)⟩) (by first | with_reducible assumption | omega) (by first | with_reducible assumption | omega) ((pls_nr hpd).1) ((pls_nr hpd).2)) (csV_53 hts rfl rfl ⟨Nat.le_of_ble_eq_true rfl, Nat.le_of_ble_eq_true rfl⟩) (zPV2 (q0 := 0) (ci := 0) hPc hDc hK hXN rfl rfl) rfl rfl hl.1 rfl (lv_room (Nat.le_of_ble_eq_true rfl)) dX4_measureReach_94 ⟨Nat.le_of_ble_eq_true rfl, Nat.le_of_ble_eq_true rfl⟩) hS hFc hFc rfl (fun t H locs ht hB hk1 hS => ?_)
    obtain ⟨hP1, hD1⟩ := hB
    rw [ht] at hP1
    obtain ⟨hP, hD⟩ := zn (W2 := [_, (oc0 br (iI (mnI (mnI (X 0).toInt X n) P nd)) (iI (mnI (mnI (Y 0).toInt Y n) Q nd)) (iI (mxI (mxI (X 0).toInt X n) P nd)) (iI (mxI (mxI (Y 0).toInt Y n) Q nd))), _, _, _, _, _, _]) hP hD hk1 hFc hP1 hD1 [1, 2, 3, 4] [true, false, false, false, false, true, true, true] [true, false, false, false, false, true, true, true] [1, 2, 3, 4] (by decide +kernel) rfl rfl rfl rfl rfl
    clear hk1 hPc hDc hFc hP1 hD1 ht
    obtain ⟨hP9, hD9⟩ := zu_sub (wc := [_, _, _, _, _, _, _, _]) hP hD [true, true, true, true, true, true, true, true] rfl rfl
    rw [hQ9]
    exact W.vret hx hb hr (fun t ht hW => ⟨⟨rfl, by rw [ht]; exact hP9, hD9⟩, hS.F ht⟩) hS.2.2 dX4_measureReach_97
  · exact absurd (by decide) c_1
set_option maxHeartbeats 4000000 in
set_option maxRecDepth 100000 in
theorem k_Law_measureReach_k (l : Launch) (dC : Nat → ClassId) (dI : Nat → Nat → Nat) (cI cZ cF : ClassId) (sz : Nat) (lw : Nat) (dr : Nat) (tg : Nat) (wy : Nat) (br : Nat) (bo : Nat) (aa : Nat) (b1 : Int32) (b2 : Int32) (b3 : Int32) (b4 : Int32) (r : Nat) (rx : Nat) (ry : Nat) (n : Nat) (cap : Nat) (X : Nat → Int32) (Y : Nat → Int32) (rg : Int32) (k : Nat) (hn : n ≤ cap) (hcap : cap ≤ 1000) (hp : pls n X Y) (hk : k < n) : zM l yX4_measureReach cX4_measureReach 3 none ({ frames := 1, cells := 0, slots := 0, locals := 22 } : Room) [.ref lw, .ref r, .int (nI k)] (dC, dI) (zTy cI cZ cF) [(oc3 lw (.ref dr) (.ref tg) (.ref wy) (.ref br) (.ref bo) (.ref aa)), (oc0 br b1 b2 b3 b4), (oc6 r (.ref rx) (.ref ry) (nI n) rg), (oa rx cI cap X), (oa ry cI cap Y)] sz none (fun A t => zPD (dC, dI) classes A [(oc3 lw (.ref dr) (.ref tg) (.ref wy) (.ref br) (.ref bo) (.ref aa)), (oc0 br (iI (min (min (X k).toInt (X (prv n k)).toInt) (X (nxt n k)).toInt)) (iI (min (min (Y k).toInt (Y (prv n k)).toInt) (Y (nxt n k)).toInt)) (iI (max (max (X k).toInt (X (prv n k)).toInt) (X (nxt n k)).toInt)) (iI (max (max (Y k).toInt (Y (prv n k)).toInt) (Y (nxt n k)).toInt))), (oc6 r (.ref rx) (.ref ry) (nI n) rg), (oa rx cI cap X), (oa ry cI cap Y)] t.heap) 0 0 := by
  refine zIn (own := "ScaleShop$Law") (loc := [(0, .ref lw), (1, .ref r), (2, .int (nI k))]) rfl rfl rfl rfl (fun p e s m below meth c hx hb hr hts hown hlocks hml hnm9 A hA hS hP hD hK hXN Q9 hQ9 ls hl => ?_)
  have hpv := prv_lt (n := n) (i := k) hk
  have hnx := nxt_lt (n := n) (i := k) (by omega)
  have a1 := (pls_nr hp).1 k hk
  have a2 := (pls_nr hp).2 k hk
  have a3 := (pls_nr hp).1 _ hpv
  have a4 := (pls_nr hp).2 _ hpv
  refine lv_iload_n hx hb dX4_measureReach_0 rfl (lv_at hl 2 rfl) ?_
  have b9_2 : k < 2147483648 := by omega
  refine lv_if_lt (tgt := 78) hx hb dX4_measureReach_1 rfl (fun c_1 => ?_) (fun c_1 => ?_)
  · have c_1 : ((k : Nat) : Int) < 0 := zc_lt (nI_toInt b9_2) rfl c_1
    exfalso; omega
  · have c_1 : 0 ≤ ((k : Nat) : Int) := zc_nlt (nI_toInt b9_2) rfl c_1
    refine lv_aload_n hx hb dX4_measureReach_4 rfl (lv_at hl 0 rfl) ?_
    refine va_get (D := (dC, dI)) (ci := 3) (v := .ref br) (C := RX4) (T := TX4) (N := 6) hx hb hts inX4 hown hK hP 0 rfl rfl 3 (Nat.le_of_ble_eq_true rfl) (hts _ mw_223) (fun _ h9 => h9) rfl dX4_measureReach_5 ?_
    refine lv_aload_n hx hb dX4_measureReach_8 rfl (lv_at hl 1 rfl) ?_
    refine va_get (D := (dC, dI)) (ci := 6) (v := .ref rx) (C := RX7) (T := TX7) (N := 4) hx hb hts inX7 hown hK hP 2 rfl rfl 0 (Nat.le_of_ble_eq_true rfl) (hts _ mw_163) (fun _ h9 => h9) rfl dX4_measureReach_9 ?_
    refine lv_iload_n hx hb dX4_measureReach_12 rfl (lv_at hl 2 rfl) ?_
    have b9_3 : k < cap := by omega
    have b9_4 : cap < 2147483648 := by omega
    refine z_iald hx hb hK hP 3 0 rfl rfl (e := k) rfl b9_3 b9_4 dX4_measureReach_13 ?_
    refine lv_aload_n hx hb dX4_measureReach_14 rfl (lv_at hl 1 rfl) ?_
    refine va_get (D := (dC, dI)) (ci := 6) (v := .ref ry) (C := RX7) (T := TX7) (N := 4) hx hb hts inX7 hown hK hP 2 rfl rfl 1 (Nat.le_of_ble_eq_true rfl) (hts _ mw_170) (fun _ h9 => h9) rfl dX4_measureReach_15 ?_
    refine lv_iload_n hx hb dX4_measureReach_18 rfl (lv_at hl 2 rfl) ?_
    refine z_iald hx hb hK hP 4 0 rfl rfl (e := k) rfl b9_3 b9_4 dX4_measureReach_19 ?_
    obtain ⟨hPc, hDc, hFc⟩ := zo_sub (wc := [_]) hP hD hS hA [1] rfl rfl
    refine zcall (st1 := []) (va_runV (As := [.int (X k), .int (Y k)]) (rest := []) ⟨hx, hb, hml, hown, hts⟩ (k_Box_begin l dC dI cI cZ cF s.heap.size br b1 b2 b3 b4 (X k) (Y k) ) (csV_54 hts rfl rfl ⟨Nat.le_of_ble_eq_true rfl, Nat.le_of_ble_eq_true rfl⟩) (zPV2 (q0 := 0) (ci := 0) hPc hDc hK hXN rfl rfl) rfl rfl hl.1 rfl (lv_room (Nat.le_of_ble_eq_true rfl)) dX4_measureReach_20 ⟨Nat.le_of_ble_eq_true rfl, Nat.le_of_ble_eq_true rfl⟩) hS hFc hFc rfl (fun t H locs ht hB hk1 hS => ?_)
    obtain ⟨hP1, hD1⟩ := hB
    rw [ht] at hP1
    obtain ⟨hP, hD⟩ := zn (W2 := [_, (oc0 br (iI (X k).toInt) (iI (Y k).toInt) (iI (X k).toInt) (iI (Y k).toInt)), _, _, _]) hP hD hk1 hFc hP1 hD1 [1] [true, false, true, true, true] [true, false, true, true, true] [1] (by decide +kernel) rfl rfl rfl rfl rfl
    clear hk1 hPc hDc hFc hP1 hD1 ht
    refine lv_aload_n hx hb dX4_measureReach_23 rfl (lv_at hl 0 rfl) ?_
    refine va_get (D := (dC, dI)) (ci := 3) (v := .ref br) (C := RX4) (T := TX4) (N := 6) hx hb hts inX4 hown hK hP 0 rfl rfl 3 (Nat.le_of_ble_eq_true rfl) (hts _ mw_223) (fun _ h9 => h9) rfl dX4_measureReach_24 ?_
    refine lv_aload_n hx hb dX4_measureReach_27 rfl (lv_at hl 1 rfl) ?_
    refine va_get (D := (dC, dI)) (ci := 6) (v := .ref rx) (C := RX7) (T := TX7) (N := 4) hx hb hts inX7 hown hK hP 2 rfl rfl 0 (Nat.le_of_ble_eq_true rfl) (hts _ mw_163) (fun _ h9 => h9) rfl dX4_measureReach_28 ?_
    refine lv_aload_n hx hb dX4_measureReach_31 rfl (lv_at hl 1 rfl) ?_
    refine lv_iload_n hx hb dX4_measureReach_32 rfl (lv_at hl 2 rfl) ?_
    obtain ⟨hPc, hDc, hFc⟩ := zo_sub (wc := [_, _, _]) hP hD hS hA [2, 3, 4] rfl rfl
    refine zcall (st1 := [.int (nI (prv n k)), .ref rx, .ref br]) (va_runV (As := [.int (nI k)]) (rest := [.ref rx, .ref br]) ⟨hx, hb, hml, hown, hts⟩ (k_Row_previous l dC dI cI cZ cF H.size r rx ry n cap X Y rg k (by first | with_reducible assumption | omega) (by first | with_reducible assumption | omega) (by first | with_reducible assumption | omega)) (csV_48 hts rfl rfl ⟨Nat.le_of_ble_eq_true rfl, Nat.le_of_ble_eq_true rfl⟩) (zPV2 (q0 := 0) (ci := 6) hPc hDc hK hXN rfl rfl) rfl rfl hl.1 rfl (lv_room (Nat.le_of_ble_eq_true rfl)) dX4_measureReach_33 ⟨Nat.le_of_ble_eq_true rfl, Nat.le_of_ble_eq_true rfl⟩) hS hFc hFc rfl (fun t H locs ht hB hk1 hS => ?_)
    obtain ⟨hP1, hD1⟩ := hB
    rw [ht] at hP1
    obtain ⟨hP, hD⟩ := zn (W2 := [_, _, _, _, _]) hP hD hk1 hFc hP1 hD1 [2, 3, 4] [true, true] [true, true, false, false, false] [2, 3, 4] (by decide +kernel) rfl rfl rfl rfl rfl
    clear hk1 hPc hDc hFc hP1 hD1 ht
    have b9_5 : prv n k < cap := by omega
    refine z_iald hx hb hK hP 3 0 rfl rfl (e := prv n k) rfl b9_5 b9_4 dX4_measureReach_36 ?_
    refine lv_aload_n hx hb dX4_measureReach_37 rfl (lv_at hl 1 rfl) ?_
    refine va_get (D := (dC, dI)) (ci := 6) (v := .ref ry) (C := RX7) (T := TX7) (N := 4) hx hb hts inX7 hown hK hP 2 rfl rfl 1 (Nat.le_of_ble_eq_true rfl) (hts _ mw_170) (fun _ h9 => h9) rfl dX4_measureReach_38 ?_
    refine lv_aload_n hx hb dX4_measureReach_41 rfl (lv_at hl 1 rfl) ?_
    refine lv_iload_n hx hb dX4_measureReach_42 rfl (lv_at hl 2 rfl) ?_
    obtain ⟨hPc, hDc, hFc⟩ := zo_sub (wc := [_, _, _]) hP hD hS hA [2, 3, 4] rfl rfl
    refine zcall (st1 := [.int (nI (prv n k)), .ref ry, .int (X (prv n k)), .ref br]) (va_runV (As := [.int (nI k)]) (rest := [.ref ry, .int (X (prv n k)), .ref br]) ⟨hx, hb, hml, hown, hts⟩ (k_Row_previous l dC dI cI cZ cF H.size r rx ry n cap X Y rg k (by first | with_reducible assumption | omega) (by first | with_reducible assumption | omega) (by first | with_reducible assumption | omega)) (csV_48 hts rfl rfl ⟨Nat.le_of_ble_eq_true rfl, Nat.le_of_ble_eq_true rfl⟩) (zPV2 (q0 := 0) (ci := 6) hPc hDc hK hXN rfl rfl) rfl rfl hl.1 rfl (lv_room (Nat.le_of_ble_eq_true rfl)) dX4_measureReach_43 ⟨Nat.le_of_ble_eq_true rfl, Nat.le_of_ble_eq_true rfl⟩) hS hFc hFc rfl (fun t H locs ht hB hk1 hS => ?_)
    obtain ⟨hP1, hD1⟩ := hB
    rw [ht] at hP1
    obtain ⟨hP, hD⟩ := zn (W2 := [_, _, _, _, _]) hP hD hk1 hFc hP1 hD1 [2, 3, 4] [true, true] [true, true, false, false, false] [2, 3, 4] (by decide +kernel) rfl rfl rfl rfl rfl
    clear hk1 hPc hDc hFc hP1 hD1 ht
    refine z_iald hx hb hK hP 4 0 rfl rfl (e := prv n k) rfl b9_5 b9_4 dX4_measureReach_46 ?_
    obtain ⟨hPc, hDc, hFc⟩ := zo_sub (wc := [_]) hP hD hS hA [1] rfl rfl
    refine zcall (st1 := []) (va_runV (As := [.int (X (prv n k)), .int (Y (prv n k))]) (rest := []) ⟨hx, hb, hml, hown, hts⟩ (k_Box_take l dC dI cI cZ cF H.size br ((X k).toInt) ((Y k).toInt) ((X k).toInt) ((Y k).toInt) (X (prv n k)) (Y (prv n k)) (⟨a1, a2, a1, a2⟩)) (csV_55 hts rfl rfl ⟨Nat.le_of_ble_eq_true rfl, Nat.le_of_ble_eq_true rfl⟩) (zPV2 (q0 := 0) (ci := 0) hPc hDc hK hXN rfl rfl) rfl rfl hl.1 rfl (lv_room (Nat.le_of_ble_eq_true rfl)) dX4_measureReach_47 ⟨Nat.le_of_ble_eq_true rfl, Nat.le_of_ble_eq_true rfl⟩) hS hFc hFc rfl (fun t H locs ht hB hk1 hS => ?_)
    obtain ⟨hP1, hD1⟩ := hB
    rw [ht] at hP1
    obtain ⟨hP, hD⟩ := zn (W2 := [_, (oc0 br (iI (min ((X k).toInt) (X (prv n k)).toInt)) (iI (min ((Y k).toInt) (Y (prv n k)).toInt)) (iI (max ((X k).toInt) (X (prv n k)).toInt)) (iI (max ((Y k).toInt) (Y (prv n k)).toInt))), _, _, _]) hP hD hk1 hFc hP1 hD1 [1] [true, false, true, true, true] [true, false, true, true, true] [1] (by decide +kernel) rfl rfl rfl rfl rfl
    clear hk1 hPc hDc hFc hP1 hD1 ht
    refine lv_aload_n hx hb dX4_measureReach_50 rfl (lv_at hl 0 rfl) ?_
    refine va_get (D := (dC, dI)) (ci := 3) (v := .ref br) (C := RX4) (T := TX4) (N := 6) hx hb hts inX4 hown hK hP 0 rfl rfl 3 (Nat.le_of_ble_eq_true rfl) (hts _ mw_223) (fun _ h9 => h9) rfl dX4_measureReach_51 ?_
    refine lv_aload_n hx hb dX4_measureReach_54 rfl (lv_at hl 1 rfl) ?_
    refine va_get (D := (dC, dI)) (ci := 6) (v := .ref rx) (C := RX7) (T := TX7) (N := 4) hx hb hts inX7 hown hK hP 2 rfl rfl 0 (Nat.le_of_ble_eq_true rfl) (hts _ mw_163) (fun _ h9 => h9) rfl dX4_measureReach_55 ?_
    refine lv_aload_n hx hb dX4_measureReach_58 rfl (lv_at hl 1 rfl) ?_
    refine lv_iload_n hx hb dX4_measureReach_59 rfl (lv_at hl 2 rfl) ?_
    obtain ⟨hPc, hDc, hFc⟩ := zo_sub (wc := [_, _, _]) hP hD hS hA [2, 3, 4] rfl rfl
    refine zcall (st1 := [.int (nI (nxt n k)), .ref rx, .ref br]) (va_runV (As := [.int (nI k)]) (rest := [.ref rx, .ref br]) ⟨hx, hb, hml, hown, hts⟩ (k_Row_next l dC dI cI cZ cF H.size r rx ry n cap X Y rg k (by first | with_reducible assumption | omega) (by first | with_reducible assumption | omega) (by first | with_reducible assumption | omega)) (csV_44 hts rfl rfl ⟨Nat.le_of_ble_eq_true rfl, Nat.le_of_ble_eq_true rfl⟩) (zPV2 (q0 := 0) (ci := 6) hPc hDc hK hXN rfl rfl) rfl rfl hl.1 rfl (lv_room (Nat.le_of_ble_eq_true rfl)) dX4_measureReach_60 ⟨Nat.le_of_ble_eq_true rfl, Nat.le_of_ble_eq_true rfl⟩) hS hFc hFc rfl (fun t H locs ht hB hk1 hS => ?_)
    obtain ⟨hP1, hD1⟩ := hB
    rw [ht] at hP1
    obtain ⟨hP, hD⟩ := zn (W2 := [_, _, _, _, _]) hP hD hk1 hFc hP1 hD1 [2, 3, 4] [true, true] [true, true, false, false, false] [2, 3, 4] (by decide +kernel) rfl rfl rfl rfl rfl
    clear hk1 hPc hDc hFc hP1 hD1 ht
    have b9_6 : nxt n k < cap := by omega
    refine z_iald hx hb hK hP 3 0 rfl rfl (e := nxt n k) rfl b9_6 b9_4 dX4_measureReach_63 ?_
    refine lv_aload_n hx hb dX4_measureReach_64 rfl (lv_at hl 1 rfl) ?_
    refine va_get (D := (dC, dI)) (ci := 6) (v := .ref ry) (C := RX7) (T := TX7) (N := 4) hx hb hts inX7 hown hK hP 2 rfl rfl 1 (Nat.le_of_ble_eq_true rfl) (hts _ mw_170) (fun _ h9 => h9) rfl dX4_measureReach_65 ?_
    refine lv_aload_n hx hb dX4_measureReach_68 rfl (lv_at hl 1 rfl) ?_
    refine lv_iload_n hx hb dX4_measureReach_69 rfl (lv_at hl 2 rfl) ?_
    obtain ⟨hPc, hDc, hFc⟩ := zo_sub (wc := [_, _, _]) hP hD hS hA [2, 3, 4] rfl rfl
    refine zcall (st1 := [.int (nI (nxt n k)), .ref ry, .int (X (nxt n k)), .ref br]) (va_runV (As := [.int (nI k)]) (rest := [.ref ry, .int (X (nxt n k)), .ref br]) ⟨hx, hb, hml, hown, hts⟩ (k_Row_next l dC dI cI cZ cF H.size r rx ry n cap X Y rg k (by first | with_reducible assumption | omega) (by first | with_reducible assumption | omega) (by first | with_reducible assumption | omega)) (csV_44 hts rfl rfl ⟨Nat.le_of_ble_eq_true rfl, Nat.le_of_ble_eq_true rfl⟩) (zPV2 (q0 := 0) (ci := 6) hPc hDc hK hXN rfl rfl) rfl rfl hl.1 rfl (lv_room (Nat.le_of_ble_eq_true rfl)) dX4_measureReach_70 ⟨Nat.le_of_ble_eq_true rfl, Nat.le_of_ble_eq_true rfl⟩) hS hFc hFc rfl (fun t H locs ht hB hk1 hS => ?_)
    obtain ⟨hP1, hD1⟩ := hB
    rw [ht] at hP1
    obtain ⟨hP, hD⟩ := zn (W2 := [_, _, _, _, _]) hP hD hk1 hFc hP1 hD1 [2, 3, 4] [true, true] [true, true, false, false, false] [2, 3, 4] (by decide +kernel) rfl rfl rfl rfl rfl
    clear hk1 hPc hDc hFc hP1 hD1 ht
    refine z_iald hx hb hK hP 4 0 rfl rfl (e := nxt n k) rfl b9_6 b9_4 dX4_measureReach_73 ?_
    obtain ⟨hPc, hDc, hFc⟩ := zo_sub (wc := [_]) hP hD hS hA [1] rfl rfl
    refine zcall (st1 := []) (va_runV (As := [.int (X (nxt n k)), .int (Y (nxt n k))]) (rest := []) ⟨hx, hb, hml, hown, hts⟩ (k_Box_take l dC dI cI cZ cF H.size br (min ((X k).toInt) (X (prv n k)).toInt) (min ((Y k).toInt) (Y (prv n k)).toInt) (max ((X k).toInt) (X (prv n k)).toInt) (max ((Y k).toInt) (Y (prv n k)).toInt) (X (nxt n k)) (Y (nxt n k)) (by unfold nr at *; omega)) (csV_55 hts rfl rfl ⟨Nat.le_of_ble_eq_true rfl, Nat.le_of_ble_eq_true rfl⟩) (zPV2 (q0 := 0) (ci := 0) hPc hDc hK hXN rfl rfl) rfl rfl hl.1 rfl (lv_room (Nat.le_of_ble_eq_true rfl)) dX4_measureReach_74 ⟨Nat.le_of_ble_eq_true rfl, Nat.le_of_ble_eq_true rfl⟩) hS hFc hFc rfl (fun t H locs ht hB hk1 hS => ?_)
    obtain ⟨hP1, hD1⟩ := hB
    rw [ht] at hP1
    obtain ⟨hP, hD⟩ := zn (W2 := [_, (oc0 br (iI (min (min ((X k).toInt) (X (prv n k)).toInt) (X (nxt n k)).toInt)) (iI (min (min ((Y k).toInt) (Y (prv n k)).toInt) (Y (nxt n k)).toInt)) (iI (max (max ((X k).toInt) (X (prv n k)).toInt) (X (nxt n k)).toInt)) (iI (max (max ((Y k).toInt) (Y (prv n k)).toInt) (Y (nxt n k)).toInt))), _, _, _]) hP hD hk1 hFc hP1 hD1 [1] [true, false, true, true, true] [true, false, true, true, true] [1] (by decide +kernel) rfl rfl rfl rfl rfl
    clear hk1 hPc hDc hFc hP1 hD1 ht
    obtain ⟨hP9, hD9⟩ := zu_sub (wc := [_, _, _, _, _]) hP hD [true, true, true, true, true] rfl rfl
    rw [hQ9]
    exact W.vret hx hb hr (fun t ht hW => ⟨⟨rfl, by rw [ht]; exact hP9, hD9⟩, hS.F ht⟩) hS.2.2 dX4_measureReach_77
set_option maxHeartbeats 4000000 in
set_option maxRecDepth 100000 in
theorem k_Law_isAsBefore_w (l : Launch) (dC : Nat → ClassId) (dI : Nat → Nat → Nat) (cI cZ cF : ClassId) (sz : Nat) (lw : Nat) (dr : Nat) (tg : Nat) (wy : Nat) (br : Nat) (bo : Nat) (aa : Nat) (tx : Nat) (ty : Nat) (nt : Nat) (TX : Nat → Int32) (TY : Nat → Int32) (rt : Int32) (wx : Nat) (wz : Nat) (nw : Nat) (WX : Nat → Int32) (WY : Nat → Int32) (rw : Int32) (dx : Nat) (dy : Nat) (nd : Nat) (cd : Nat) (P : Nat → Int32) (Q : Nat → Int32) (rd : Int32) (r : Nat) (rx : Nat) (ry : Nat) (n : Nat) (cap : Nat) (X : Nat → Int32) (Y : Nat → Int32) (rg : Int32) (u : Nat) (ux : Nat) (uy : Nat) (m2 : Nat) (cap2 : Nat) (U : Nat → Int32) (V : Nat → Int32) (rh : Int32) (hnd : nd ≤ cd) (hcd : cd ≤ 1000) (hpd : pls nd P Q) (hn : n ≤ cap) (hcap : cap ≤ 1000) (hp : pls n X Y) (hm : m2 ≤ cap2) (hcap2 : cap2 ≤ 1000) (hq : pls m2 U V) (h1m : 1 ≤ m2) (h1n : 1 ≤ n) (h1d : 1 ≤ nd) (hn1 : n = 1) : zM l yX4_isAsBefore cX4_isAsBefore 4 (some .boolean) ({ frames := 3, cells := 0, slots := 0, locals := 72 } : Room) [.ref lw, .ref r, .ref u, .int (-1)] (dC, dI) (zTy cI cZ cF) [(oc3 lw (.ref dr) (.ref tg) (.ref wy) (.ref br) (.ref bo) (.ref aa)), (oc6 tg (.ref tx) (.ref ty) (nI nt) rt), (oa tx cI 3 TX), (oa ty cI 3 TY), (oc6 wy (.ref wx) (.ref wz) (nI nw) rw), (oa wx cI 2 WX), (oa wz cI 2 WY), (oc6 dr (.ref dx) (.ref dy) (nI nd) rd), (oa dx cI cd P), (oa dy cI cd Q), (oc6 r (.ref rx) (.ref ry) (nI n) rg), (oa rx cI cap X), (oa ry cI cap Y), (oc6 u (.ref ux) (.ref uy) (nI m2) rh), (oa ux cI cap2 U), (oa uy cI cap2 V)] sz (some (.int (pI (asb n X Y rg nd P Q rd m2 U V rh ∧ (∀ k, k < prt m2 rh → wyF2 (X 0).toInt (Y 0).toInt (P 0).toInt (Q 0).toInt m2 U V k))))) (fun A t => ∃ (nt1 : Nat), ∃ (TX1 : Nat → Int32), ∃ (TY1 : Nat → Int32), ∃ (rt1 : Int32), ∃ (nw1 : Nat), ∃ (WX1 : Nat → Int32), ∃ (WY1 : Nat → Int32), ∃ (rw1 : Int32), zPD (dC, dI) classes A [(oc3 lw (.ref dr) (.ref tg) (.ref wy) (.ref br) (.ref bo) (.ref aa)), (oc6 tg (.ref tx) (.ref ty) (nI nt1) rt1), (oa tx cI 3 TX1), (oa ty cI 3 TY1), (oc6 wy (.ref wx) (.ref wz) (nI nw1) rw1), (oa wx cI 2 WX1), (oa wz cI 2 WY1), (oc6 dr (.ref dx) (.ref dy) (nI nd) rd), (oa dx cI cd P), (oa dy cI cd Q), (oc6 r (.ref rx) (.ref ry) (nI n) rg), (oa rx cI cap X), (oa ry cI cap Y), (oc6 u (.ref ux) (.ref uy) (nI m2) rh), (oa ux cI cap2 U), (oa uy cI cap2 V)] t.heap) 0 0 := by
  refine zIn (own := "ScaleShop$Law") (loc := [(0, .ref lw), (1, .ref r), (2, .ref u), (3, .int (-1))]) rfl rfl rfl rfl (fun p e s m below meth c hx hb hr hts hown hlocks hml hnm9 A hA hS hP hD hK hXN Q9 hQ9 ls hl => ?_)
  refine lv_aload_n hx hb dX4_isAsBefore_0 rfl (lv_at hl 1 rfl) ?_
  refine lv_aload_n hx hb dX4_isAsBefore_1 rfl (lv_at hl 2 rfl) ?_
  obtain ⟨hPc, hDc, hFc⟩ := zo_sub (wc := [_, _, _, _, _, _]) hP hD hS hA [10, 11, 12, 13, 14, 15] (by decide +kernel) rfl
  refine zcall (st1 := [.int (pI (∃ i, i < prt n rg ∧ ∃ j, j < prt m2 rh ∧ eMt n X Y i m2 U V j))]) (va_runV (As := [.ref u]) (rest := []) ⟨hx, hb, hml, hown, hts⟩ (k_Row_touches l dC dI cI cZ cF s.heap.size r rx ry n cap X Y rg u ux uy m2 cap2 U V rh (by first | with_reducible assumption | omega) (by first | with_reducible assumption | omega) (hp) (by first | with_reducible assumption | omega) (by first | with_reducible assumption | omega) (hq)) (csV_56 hts rfl rfl ⟨Nat.le_of_ble_eq_true rfl, Nat.le_of_ble_eq_true rfl⟩) (zPV2 (q0 := 0) (ci := 6) hPc hDc hK hXN rfl rfl) rfl rfl hl.1 rfl (lv_room (Nat.le_of_ble_eq_true rfl)) dX4_isAsBefore_2 ⟨Nat.le_of_ble_eq_true rfl, Nat.le_of_ble_eq_true rfl⟩) hS hFc hFc rfl (fun t H locs ht hB hk1 hS => ?_)
  obtain ⟨hP1, hD1⟩ := hB
  rw [ht] at hP1
  obtain ⟨hP, hD⟩ := zn (W2 := [_, _, _, _, _, _, _, _, _, _, _, _, _, _, _, _]) hP hD hk1 hFc hP1 hD1 [10, 11, 12, 13, 14, 15] [true, true, true, true, true, true, true, true, true, true] [true, true, true, true, true, true, true, true, true, true, false, false, false, false, false, false] [10, 11, 12, 13, 14, 15] (by decide +kernel) rfl rfl rfl rfl rfl
  clear hk1 hPc hDc hFc hP1 hD1 ht
  refine lv_aload_n hx hb dX4_isAsBefore_5 rfl (lv_at hl 0 rfl) ?_
  refine va_get (D := (dC, dI)) (ci := 3) (v := .ref dr) (C := RX4) (T := TX4) (N := 6) hx hb hts inX4 hown hK hP 0 rfl rfl 0 (Nat.le_of_ble_eq_true rfl) (hts _ mw_219) (fun _ h9 => h9) rfl dX4_isAsBefore_6 ?_
  refine lv_aload_n hx hb dX4_isAsBefore_9 rfl (lv_at hl 2 rfl) ?_
  obtain ⟨hPc, hDc, hFc⟩ := zo_sub (wc := [_, _, _, _, _, _]) hP hD hS hA [7, 8, 9, 13, 14, 15] (by decide +kernel) rfl
  refine zcall (st1 := [.int (pI (∃ i, i < prt nd rd ∧ ∃ j, j < prt m2 rh ∧ eMt nd P Q i m2 U V j)), .int (pI (∃ i, i < prt n rg ∧ ∃ j, j < prt m2 rh ∧ eMt n X Y i m2 U V j))]) (va_runV (As := [.ref u]) (rest := [.int (pI (∃ i, i < prt n rg ∧ ∃ j, j < prt m2 rh ∧ eMt n X Y i m2 U V j))]) ⟨hx, hb, hml, hown, hts⟩ (k_Row_touches l dC dI cI cZ cF H.size dr dx dy nd cd P Q rd u ux uy m2 cap2 U V rh (by first | with_reducible assumption | omega) (by first | with_reducible assumption | omega) (hpd) (by first | with_reducible assumption | omega) (by first | with_reducible assumption | omega) (hq)) (csV_56 hts rfl rfl ⟨Nat.le_of_ble_eq_true rfl, Nat.le_of_ble_eq_true rfl⟩) (zPV2 (q0 := 0) (ci := 6) hPc hDc hK hXN rfl rfl) rfl rfl hl.1 rfl (lv_room (Nat.le_of_ble_eq_true rfl)) dX4_isAsBefore_10 ⟨Nat.le_of_ble_eq_true rfl, Nat.le_of_ble_eq_true rfl⟩) hS hFc hFc rfl (fun t H locs ht hB hk1 hS => ?_)
  obtain ⟨hP1, hD1⟩ := hB
  rw [ht] at hP1
  obtain ⟨hP, hD⟩ := zn (W2 := [_, _, _, _, _, _, _, _, _, _, _, _, _, _, _, _]) hP hD hk1 hFc hP1 hD1 [7, 8, 9, 13, 14, 15] [true, true, true, true, true, true, true, false, false, false, true, true, true] [true, true, true, true, true, true, true, false, false, false, true, true, true, false, false, false] [7, 8, 9, 13, 14, 15] (by decide +kernel) rfl rfl rfl rfl rfl
  clear hk1 hPc hDc hFc hP1 hD1 ht
  refine lv_icmp_eq (tgt := 18) hx hb dX4_isAsBefore_13 rfl (fun c_1 => ?_) (fun c_1 => ?_)
  · have c_1 : (pI (∃ i, i < prt n rg ∧ ∃ j, j < prt m2 rh ∧ eMt n X Y i m2 U V j)).toInt = (pI (∃ i, i < prt nd rd ∧ ∃ j, j < prt m2 rh ∧ eMt nd P Q i m2 U V j)).toInt := zc_eq rfl rfl c_1
    refine lv_aload_n hx hb dX4_isAsBefore_18 rfl (lv_at hl 0 rfl) ?_
    refine va_get (D := (dC, dI)) (ci := 3) (v := .ref dr) (C := RX4) (T := TX4) (N := 6) hx hb hts inX4 hown hK hP 0 rfl rfl 0 (Nat.le_of_ble_eq_true rfl) (hts _ mw_219) (fun _ h9 => h9) rfl dX4_isAsBefore_19 ?_
    refine va_get (D := (dC, dI)) (ci := 6) (v := .int rd) (C := RX7) (T := TX7) (N := 4) hx hb hts inX7 hown hK hP 7 rfl rfl 3 (Nat.le_of_ble_eq_true rfl) (hts _ mw_184) (fun _ h9 => h9) rfl dX4_isAsBefore_22 ?_
    refine lv_if_eq (tgt := 39) hx hb dX4_isAsBefore_25 rfl (fun c_2 => ?_) (fun c_2 => ?_)
    · have c_2 : rd.toInt = 0 := zc_eq rfl rfl c_2
      refine lv_aload_n hx hb dX4_isAsBefore_39 rfl (lv_at hl 2 rfl) ?_
      refine va_get (D := (dC, dI)) (ci := 6) (v := .int rh) (C := RX7) (T := TX7) (N := 4) hx hb hts inX7 hown hK hP 13 rfl rfl 3 (Nat.le_of_ble_eq_true rfl) (hts _ mw_184) (fun _ h9 => h9) rfl dX4_isAsBefore_40 ?_
      refine lv_if_eq (tgt := 64) hx hb dX4_isAsBefore_43 rfl (fun c_3 => ?_) (fun c_3 => ?_)
      · have c_3 : rh.toInt = 0 := zc_eq rfl rfl c_3
        refine lv_aload_n hx hb dX4_isAsBefore_64 rfl (lv_at hl 1 rfl) ?_
        refine va_get (D := (dC, dI)) (ci := 6) (v := .int (nI n)) (C := RX7) (T := TX7) (N := 4) hx hb hts inX7 hown hK hP 10 rfl rfl 2 (Nat.le_of_ble_eq_true rfl) (hts _ mw_176) (fun _ h9 => h9) rfl dX4_isAsBefore_65 ?_
        refine lv_iconst (v := 1) hx hb dX4_isAsBefore_68 rfl ?_
        have b9_5 : n < 2147483648 := by omega
        refine lv_icmp_ne (tgt := 79) hx hb dX4_isAsBefore_69 rfl (fun c_4 => ?_) (fun c_4 => ?_)
        · have c_4 : ¬ ((n : Nat) : Int) = 1 := zc_ne (nI_toInt b9_5) rfl c_4
          exfalso; omega
        · have c_4 : ((n : Nat) : Int) = 1 := zc_eq (nI_toInt b9_5) rfl c_4
          refine lv_aload_n hx hb dX4_isAsBefore_72 rfl (lv_at hl 0 rfl) ?_
          refine lv_aload_n hx hb dX4_isAsBefore_73 rfl (lv_at hl 1 rfl) ?_
          refine lv_aload_n hx hb dX4_isAsBefore_74 rfl (lv_at hl 2 rfl) ?_
          obtain ⟨hPc, hDc, hFc⟩ := zo_sub (wc := [_, _, _, _, _, _, _, _, _, _, _, _, _]) hP hD hS hA [0, 4, 5, 6, 7, 8, 9, 10, 11, 12, 13, 14, 15] (by decide +kernel) rfl
          refine zcall (st1 := [.int (pI (∀ k, k < prt m2 rh → wyF2 (X 0).toInt (Y 0).toInt (P 0).toInt (Q 0).toInt m2 U V k))]) (va_runV (As := [.ref r, .ref u]) (rest := []) ⟨hx, hb, hml, hown, hts⟩ (k_Law_isWayFree l dC dI cI cZ cF H.size lw dr tg wy br bo aa wx wz nw WX WY rw dx dy nd cd P Q rd r rx ry n cap X Y rg u ux uy m2 cap2 U V rh (by first | with_reducible assumption | omega) (by first | with_reducible assumption | omega) (by first | with_reducible assumption | assumption) (by first | with_reducible assumption | omega) (by first | with_reducible assumption | omega) (by first | with_reducible assumption | assumption) (by first | with_reducible assumption | omega) (by first | with_reducible assumption | omega) (by first | with_reducible assumption | assumption) (by first | with_reducible assumption | omega) (by first | with_reducible assumption | omega)) (csV_57 hts rfl rfl ⟨Nat.le_of_ble_eq_true rfl, Nat.le_of_ble_eq_true rfl⟩) (zPV2 (q0 := 0) (ci := 3) hPc hDc hK hXN rfl rfl) rfl rfl hl.1 rfl (lv_room (Nat.le_of_ble_eq_true rfl)) dX4_isAsBefore_75 ⟨Nat.le_of_ble_eq_true rfl, Nat.le_of_ble_eq_true rfl⟩) hS hFc hFc rfl (fun t H locs ht hB hk1 hS => ?_)
          obtain ⟨hP1, hD1⟩ := hB
          rw [ht] at hP1
          obtain ⟨hP, hD⟩ := zn (W2 := [_, _, _, _, (oc6 wy (.ref wx) (.ref wz) (nI 2) 0), (oa wx cI 2 (upd (upd WX 0 (X 0)) 1 (P 0))), (oa wz cI 2 (upd (upd WY 0 (Y 0)) 1 (Q 0))), _, _, _, _, _, _, _, _, _]) hP hD hk1 hFc hP1 hD1 [0, 4, 5, 6, 7, 8, 9, 10, 11, 12, 13, 14, 15] [false, true, true, true] [false, true, true, true, false, false, false, false, false, false, false, false, false, false, false, false] [0, 4, 5, 6, 7, 8, 9, 10, 11, 12, 13, 14, 15] (by decide +kernel) rfl rfl rfl rfl rfl
          clear hk1 hPc hDc hFc hP1 hD1 ht
          obtain ⟨hP9, hD9⟩ := zu_sub (wc := [_, _, _, _, _, _, _, _, _, _, _, _, _, _, _, _]) hP hD [true, true, true, true, true, true, true, true, true, true, true, true, true, true, true, true] rfl rfl
          rw [hQ9]
          exact W.zret (ty := .boolean) (v := pI (∀ k, k < prt m2 rh → wyF2 (X 0).toInt (Y 0).toInt (P 0).toInt (Q 0).toInt m2 U V k)) hx hb hr (zp_nar _) (fun t ht hW => ⟨⟨congrArg (fun z => Outcome.returned (some (Value.int z))) (show (pI (∀ k, k < prt m2 rh → wyF2 (X 0).toInt (Y 0).toInt (P 0).toInt (Q 0).toInt m2 U V k) : Int32) = pI (asb n X Y rg nd P Q rd m2 U V rh ∧ (∀ k, k < prt m2 rh → wyF2 (X 0).toInt (Y 0).toInt (P 0).toInt (Q 0).toInt m2 U V k)) from zp_iff ⟨fun h => ⟨⟨zp_ieq.mp (by first | with_reducible assumption | assumption), fun h9 => by first | with_reducible assumption | assumption | exact absurd (by first | with_reducible assumption | assumption) h9, fun h9 => by first | exact zp_ieq.mp (by first | with_reducible assumption | assumption) | exact absurd (by first | with_reducible assumption | assumption) h9⟩, h⟩, fun h => h.2⟩), nt, TX, TY, rt, 2, (upd (upd WX 0 (X 0)) 1 (P 0)), (upd (upd WY 0 (Y 0)) 1 (Q 0)), 0, by rw [ht]; exact hP9, hD9⟩, hS.F ht⟩) hS.2.2 dX4_isAsBefore_78
      · have c_3 : ¬ rh.toInt = 0 := zc_ne rfl rfl c_3
        refine lv_aload_n hx hb dX4_isAsBefore_46 rfl (lv_at hl 2 rfl) ?_
        refine lv_aload_n hx hb dX4_isAsBefore_47 rfl (lv_at hl 1 rfl) ?_
        obtain ⟨hPc, hDc, hFc⟩ := zo_sub (wc := [_, _, _, _, _, _]) hP hD hS hA [13, 14, 15, 10, 11, 12] (by decide +kernel) rfl
        refine zcall (st1 := [.int (pI (inF 5 m2 U V (X 0).toInt (Y 0).toInt))]) (va_runS (As := [.ref u, .ref r]) (rest := []) ⟨hx, hb, hml, hown, hts⟩ (k_Law_isIn l dC dI cI cZ cF H.size u ux uy m2 cap2 U V rh r rx ry n cap X Y rg (by first | with_reducible assumption | omega) (by first | with_reducible assumption | omega) (hq) (by first | with_reducible assumption | omega) (by first | with_reducible assumption | omega) (hp) (by first | with_reducible assumption | omega)) (csS_61 hts rfl rfl ⟨Nat.le_of_ble_eq_true rfl, Nat.le_of_ble_eq_true rfl⟩) (zPS2 hPc hDc hK hXN) rfl rfl hl.1 rfl (lv_room (Nat.le_of_ble_eq_true rfl)) dX4_isAsBefore_48 ⟨Nat.le_of_ble_eq_true rfl, Nat.le_of_ble_eq_true rfl⟩) hS hFc hFc rfl (fun t H locs ht hB hk1 hS => ?_)
        obtain ⟨hP1, hD1⟩ := hB
        rw [ht] at hP1
        obtain ⟨hP, hD⟩ := zn (W2 := [_, _, _, _, _, _, _, _, _, _, _, _, _, _, _, _]) hP hD hk1 hFc hP1 hD1 [13, 14, 15, 10, 11, 12] [true, true, true, true, true, true, true, true, true, true] [true, true, true, true, true, true, true, true, true, true, false, false, false, false, false, false] [13, 14, 15, 10, 11, 12] (by decide +kernel) rfl rfl rfl rfl rfl
        clear hk1 hPc hDc hFc hP1 hD1 ht
        refine lv_aload_n hx hb dX4_isAsBefore_51 rfl (lv_at hl 2 rfl) ?_
        refine lv_aload_n hx hb dX4_isAsBefore_52 rfl (lv_at hl 0 rfl) ?_
        refine va_get (D := (dC, dI)) (ci := 3) (v := .ref dr) (C := RX4) (T := TX4) (N := 6) hx hb hts inX4 hown hK hP 0 rfl rfl 0 (Nat.le_of_ble_eq_true rfl) (hts _ mw_219) (fun _ h9 => h9) rfl dX4_isAsBefore_53 ?_
        obtain ⟨hPc, hDc, hFc⟩ := zo_sub (wc := [_, _, _, _, _, _]) hP hD hS hA [13, 14, 15, 7, 8, 9] (by decide +kernel) rfl
        refine zcall (st1 := [.int (pI (inF 5 m2 U V (P 0).toInt (Q 0).toInt)), .int (pI (inF 5 m2 U V (X 0).toInt (Y 0).toInt))]) (va_runS (As := [.ref u, .ref dr]) (rest := [.int (pI (inF 5 m2 U V (X 0).toInt (Y 0).toInt))]) ⟨hx, hb, hml, hown, hts⟩ (k_Law_isIn l dC dI cI cZ cF H.size u ux uy m2 cap2 U V rh dr dx dy nd cd P Q rd (by first | with_reducible assumption | omega) (by first | with_reducible assumption | omega) (hq) (by first | with_reducible assumption | omega) (by first | with_reducible assumption | omega) (hpd) (by first | with_reducible assumption | omega)) (csS_61 hts rfl rfl ⟨Nat.le_of_ble_eq_true rfl, Nat.le_of_ble_eq_true rfl⟩) (zPS2 hPc hDc hK hXN) rfl rfl hl.1 rfl (lv_room (Nat.le_of_ble_eq_true rfl)) dX4_isAsBefore_56 ⟨Nat.le_of_ble_eq_true rfl, Nat.le_of_ble_eq_true rfl⟩) hS hFc hFc rfl (fun t H locs ht hB hk1 hS => ?_)
        obtain ⟨hP1, hD1⟩ := hB
        rw [ht] at hP1
        obtain ⟨hP, hD⟩ := zn (W2 := [_, _, _, _, _, _, _, _, _, _, _, _, _, _, _, _]) hP hD hk1 hFc hP1 hD1 [13, 14, 15, 7, 8, 9] [true, true, true, true, true, true, true, false, false, false, true, true, true] [true, true, true, true, true, true, true, false, false, false, true, true, true, false, false, false] [13, 14, 15, 7, 8, 9] (by decide +kernel) rfl rfl rfl rfl rfl
        clear hk1 hPc hDc hFc hP1 hD1 ht
        refine lv_icmp_eq (tgt := 64) hx hb dX4_isAsBefore_59 rfl (fun c_6 => ?_) (fun c_6 => ?_)
        · have c_6 : (pI (inF 5 m2 U V (X 0).toInt (Y 0).toInt)).toInt = (pI (inF 5 m2 U V (P 0).toInt (Q 0).toInt)).toInt := zc_eq rfl rfl c_6
          refine lv_aload_n hx hb dX4_isAsBefore_64 rfl (lv_at hl 1 rfl) ?_
          refine va_get (D := (dC, dI)) (ci := 6) (v := .int (nI n)) (C := RX7) (T := TX7) (N := 4) hx hb hts inX7 hown hK hP 10 rfl rfl 2 (Nat.le_of_ble_eq_true rfl) (hts _ mw_176) (fun _ h9 => h9) rfl dX4_isAsBefore_65 ?_
          refine lv_iconst (v := 1) hx hb dX4_isAsBefore_68 rfl ?_
          have b9_8 : n < 2147483648 := by omega
          refine lv_icmp_ne (tgt := 79) hx hb dX4_isAsBefore_69 rfl (fun c_7 => ?_) (fun c_7 => ?_)
          · have c_7 : ¬ ((n : Nat) : Int) = 1 := zc_ne (nI_toInt b9_8) rfl c_7
            exfalso; omega
          · have c_7 : ((n : Nat) : Int) = 1 := zc_eq (nI_toInt b9_8) rfl c_7
            refine lv_aload_n hx hb dX4_isAsBefore_72 rfl (lv_at hl 0 rfl) ?_
            refine lv_aload_n hx hb dX4_isAsBefore_73 rfl (lv_at hl 1 rfl) ?_
            refine lv_aload_n hx hb dX4_isAsBefore_74 rfl (lv_at hl 2 rfl) ?_
            obtain ⟨hPc, hDc, hFc⟩ := zo_sub (wc := [_, _, _, _, _, _, _, _, _, _, _, _, _]) hP hD hS hA [0, 4, 5, 6, 7, 8, 9, 10, 11, 12, 13, 14, 15] (by decide +kernel) rfl
            refine zcall (st1 := [.int (pI (∀ k, k < prt m2 rh → wyF2 (X 0).toInt (Y 0).toInt (P 0).toInt (Q 0).toInt m2 U V k))]) (va_runV (As := [.ref r, .ref u]) (rest := []) ⟨hx, hb, hml, hown, hts⟩ (k_Law_isWayFree l dC dI cI cZ cF H.size lw dr tg wy br bo aa wx wz nw WX WY rw dx dy nd cd P Q rd r rx ry n cap X Y rg u ux uy m2 cap2 U V rh (by first | with_reducible assumption | omega) (by first | with_reducible assumption | omega) (by first | with_reducible assumption | assumption) (by first | with_reducible assumption | omega) (by first | with_reducible assumption | omega) (by first | with_reducible assumption | assumption) (by first | with_reducible assumption | omega) (by first | with_reducible assumption | omega) (by first | with_reducible assumption | assumption) (by first | with_reducible assumption | omega) (by first | with_reducible assumption | omega)) (csV_57 hts rfl rfl ⟨Nat.le_of_ble_eq_true rfl, Nat.le_of_ble_eq_true rfl⟩) (zPV2 (q0 := 0) (ci := 3) hPc hDc hK hXN rfl rfl) rfl rfl hl.1 rfl (lv_room (Nat.le_of_ble_eq_true rfl)) dX4_isAsBefore_75 ⟨Nat.le_of_ble_eq_true rfl, Nat.le_of_ble_eq_true rfl⟩) hS hFc hFc rfl (fun t H locs ht hB hk1 hS => ?_)
            obtain ⟨hP1, hD1⟩ := hB
            rw [ht] at hP1
            obtain ⟨hP, hD⟩ := zn (W2 := [_, _, _, _, (oc6 wy (.ref wx) (.ref wz) (nI 2) 0), (oa wx cI 2 (upd (upd WX 0 (X 0)) 1 (P 0))), (oa wz cI 2 (upd (upd WY 0 (Y 0)) 1 (Q 0))), _, _, _, _, _, _, _, _, _]) hP hD hk1 hFc hP1 hD1 [0, 4, 5, 6, 7, 8, 9, 10, 11, 12, 13, 14, 15] [false, true, true, true] [false, true, true, true, false, false, false, false, false, false, false, false, false, false, false, false] [0, 4, 5, 6, 7, 8, 9, 10, 11, 12, 13, 14, 15] (by decide +kernel) rfl rfl rfl rfl rfl
            clear hk1 hPc hDc hFc hP1 hD1 ht
            obtain ⟨hP9, hD9⟩ := zu_sub (wc := [_, _, _, _, _, _, _, _, _, _, _, _, _, _, _, _]) hP hD [true, true, true, true, true, true, true, true, true, true, true, true, true, true, true, true] rfl rfl
            rw [hQ9]
            exact W.zret (ty := .boolean) (v := pI (∀ k, k < prt m2 rh → wyF2 (X 0).toInt (Y 0).toInt (P 0).toInt (Q 0).toInt m2 U V k)) hx hb hr (zp_nar _) (fun t ht hW => ⟨⟨congrArg (fun z => Outcome.returned (some (Value.int z))) (show (pI (∀ k, k < prt m2 rh → wyF2 (X 0).toInt (Y 0).toInt (P 0).toInt (Q 0).toInt m2 U V k) : Int32) = pI (asb n X Y rg nd P Q rd m2 U V rh ∧ (∀ k, k < prt m2 rh → wyF2 (X 0).toInt (Y 0).toInt (P 0).toInt (Q 0).toInt m2 U V k)) from zp_iff ⟨fun h => ⟨⟨zp_ieq.mp (by first | with_reducible assumption | assumption), fun h9 => by first | with_reducible assumption | assumption | exact absurd (by first | with_reducible assumption | assumption) h9, fun h9 => by first | exact zp_ieq.mp (by first | with_reducible assumption | assumption) | exact absurd (by first | with_reducible assumption | assumption) h9⟩, h⟩, fun h => h.2⟩), nt, TX, TY, rt, 2, (upd (upd WX 0 (X 0)) 1 (P 0)), (upd (upd WY 0 (Y 0)) 1 (Q 0)), 0, by rw [ht]; exact hP9, hD9⟩, hS.F ht⟩) hS.2.2 dX4_isAsBefore_78
        · have c_6 : ¬ (pI (inF 5 m2 U V (X 0).toInt (Y 0).toInt)).toInt = (pI (inF 5 m2 U V (P 0).toInt (Q 0).toInt)).toInt := zc_ne rfl rfl c_6
          refine lv_iconst (v := 0) hx hb dX4_isAsBefore_62 rfl ?_
          obtain ⟨hP9, hD9⟩ := zu_sub (wc := [_, _, _, _, _, _, _, _, _, _, _, _, _, _, _, _]) hP hD [true, true, true, true, true, true, true, true, true, true, true, true, true, true, true, true] rfl rfl
          rw [hQ9]
          exact W.zret (ty := .boolean) (v := 0) hx hb hr (rfl) (fun t ht hW => ⟨⟨congrArg (fun z => Outcome.returned (some (Value.int z))) (show (0 : Int32) = pI (asb n X Y rg nd P Q rd m2 U V rh ∧ (∀ k, k < prt m2 rh → wyF2 (X 0).toInt (Y 0).toInt (P 0).toInt (Q 0).toInt m2 U V k)) from (zp_f (fun h => absurd (zp_ieq.mpr (h.1.2.2 (by first | with_reducible assumption | assumption))) (by first | with_reducible assumption | assumption))).symm), nt, TX, TY, rt, nw, WX, WY, rw, by rw [ht]; exact hP9, hD9⟩, hS.F ht⟩) hS.2.2 dX4_isAsBefore_63
    · have c_2 : ¬ rd.toInt = 0 := zc_ne rfl rfl c_2
      refine lv_aload_n hx hb dX4_isAsBefore_28 rfl (lv_at hl 0 rfl) ?_
      refine lv_aload_n hx hb dX4_isAsBefore_29 rfl (lv_at hl 1 rfl) ?_
      refine lv_aload_n hx hb dX4_isAsBefore_30 rfl (lv_at hl 2 rfl) ?_
      obtain ⟨hPc, hDc, hFc⟩ := zo_sub (wc := [_, _, _, _, _, _, _, _, _, _]) hP hD hS hA [0, 7, 8, 9, 10, 11, 12, 13, 14, 15] (by decide +kernel) rfl
      refine zcall (st1 := [.int (pI (∀ k, k < m2 → (inF 5 n X Y (U k).toInt (V k).toInt ↔ inF 5 nd P Q (U k).toInt (V k).toInt)))]) (va_runV (As := [.ref r, .ref u]) (rest := []) ⟨hx, hb, hml, hown, hts⟩ (k_Law_holdsAsBefore l dC dI cI cZ cF H.size lw dr tg wy br bo aa dx dy nd cd P Q rd r rx ry n cap X Y rg u ux uy m2 cap2 U V rh (by first | with_reducible assumption | omega) (by first | with_reducible assumption | omega) (by first | with_reducible assumption | assumption) (by first | with_reducible assumption | omega) (by first | with_reducible assumption | omega) (by first | with_reducible assumption | assumption) (by first | with_reducible assumption | omega) (by first | with_reducible assumption | omega) (by first | with_reducible assumption | assumption)) (csV_58 hts rfl rfl ⟨Nat.le_of_ble_eq_true rfl, Nat.le_of_ble_eq_true rfl⟩) (zPV2 (q0 := 0) (ci := 3) hPc hDc hK hXN rfl rfl) rfl rfl hl.1 rfl (lv_room (Nat.le_of_ble_eq_true rfl)) dX4_isAsBefore_31 ⟨Nat.le_of_ble_eq_true rfl, Nat.le_of_ble_eq_true rfl⟩) hS hFc hFc rfl (fun t H locs ht hB hk1 hS => ?_)
      obtain ⟨hP1, hD1⟩ := hB
      rw [ht] at hP1
      obtain ⟨hP, hD⟩ := zn (W2 := [_, _, _, _, _, _, _, _, _, _, _, _, _, _, _, _]) hP hD hk1 hFc hP1 hD1 [0, 7, 8, 9, 10, 11, 12, 13, 14, 15] [false, true, true, true, true, true, true] [false, true, true, true, true, true, true, false, false, false, false, false, false, false, false, false] [0, 7, 8, 9, 10, 11, 12, 13, 14, 15] (by decide +kernel) rfl rfl rfl rfl rfl
      clear hk1 hPc hDc hFc hP1 hD1 ht
      refine lv_if_ne (tgt := 39) hx hb dX4_isAsBefore_34 rfl (fun c_9 => ?_) (fun c_9 => ?_)
      · have c_9 : ∀ k, k < m2 → (inF 5 n X Y (U k).toInt (V k).toInt ↔ inF 5 nd P Q (U k).toInt (V k).toInt) := zp_1 c_9
        refine lv_aload_n hx hb dX4_isAsBefore_39 rfl (lv_at hl 2 rfl) ?_
        refine va_get (D := (dC, dI)) (ci := 6) (v := .int rh) (C := RX7) (T := TX7) (N := 4) hx hb hts inX7 hown hK hP 13 rfl rfl 3 (Nat.le_of_ble_eq_true rfl) (hts _ mw_184) (fun _ h9 => h9) rfl dX4_isAsBefore_40 ?_
        refine lv_if_eq (tgt := 64) hx hb dX4_isAsBefore_43 rfl (fun c_10 => ?_) (fun c_10 => ?_)
        · have c_10 : rh.toInt = 0 := zc_eq rfl rfl c_10
          refine lv_aload_n hx hb dX4_isAsBefore_64 rfl (lv_at hl 1 rfl) ?_
          refine va_get (D := (dC, dI)) (ci := 6) (v := .int (nI n)) (C := RX7) (T := TX7) (N := 4) hx hb hts inX7 hown hK hP 10 rfl rfl 2 (Nat.le_of_ble_eq_true rfl) (hts _ mw_176) (fun _ h9 => h9) rfl dX4_isAsBefore_65 ?_
          refine lv_iconst (v := 1) hx hb dX4_isAsBefore_68 rfl ?_
          have b9_12 : n < 2147483648 := by omega
          refine lv_icmp_ne (tgt := 79) hx hb dX4_isAsBefore_69 rfl (fun c_11 => ?_) (fun c_11 => ?_)
          · have c_11 : ¬ ((n : Nat) : Int) = 1 := zc_ne (nI_toInt b9_12) rfl c_11
            exfalso; omega
          · have c_11 : ((n : Nat) : Int) = 1 := zc_eq (nI_toInt b9_12) rfl c_11
            refine lv_aload_n hx hb dX4_isAsBefore_72 rfl (lv_at hl 0 rfl) ?_
            refine lv_aload_n hx hb dX4_isAsBefore_73 rfl (lv_at hl 1 rfl) ?_
            refine lv_aload_n hx hb dX4_isAsBefore_74 rfl (lv_at hl 2 rfl) ?_
            obtain ⟨hPc, hDc, hFc⟩ := zo_sub (wc := [_, _, _, _, _, _, _, _, _, _, _, _, _]) hP hD hS hA [0, 4, 5, 6, 7, 8, 9, 10, 11, 12, 13, 14, 15] (by decide +kernel) rfl
            refine zcall (st1 := [.int (pI (∀ k, k < prt m2 rh → wyF2 (X 0).toInt (Y 0).toInt (P 0).toInt (Q 0).toInt m2 U V k))]) (va_runV (As := [.ref r, .ref u]) (rest := []) ⟨hx, hb, hml, hown, hts⟩ (k_Law_isWayFree l dC dI cI cZ cF H.size lw dr tg wy br bo aa wx wz nw WX WY rw dx dy nd cd P Q rd r rx ry n cap X Y rg u ux uy m2 cap2 U V rh (by first | with_reducible assumption | omega) (by first | with_reducible assumption | omega) (by first | with_reducible assumption | assumption) (by first | with_reducible assumption | omega) (by first | with_reducible assumption | omega) (by first | with_reducible assumption | assumption) (by first | with_reducible assumption | omega) (by first | with_reducible assumption | omega) (by first | with_reducible assumption | assumption) (by first | with_reducible assumption | omega) (by first | with_reducible assumption | omega)) (csV_57 hts rfl rfl ⟨Nat.le_of_ble_eq_true rfl, Nat.le_of_ble_eq_true rfl⟩) (zPV2 (q0 := 0) (ci := 3) hPc hDc hK hXN rfl rfl) rfl rfl hl.1 rfl (lv_room (Nat.le_of_ble_eq_true rfl)) dX4_isAsBefore_75 ⟨Nat.le_of_ble_eq_true rfl, Nat.le_of_ble_eq_true rfl⟩) hS hFc hFc rfl (fun t H locs ht hB hk1 hS => ?_)
            obtain ⟨hP1, hD1⟩ := hB
            rw [ht] at hP1
            obtain ⟨hP, hD⟩ := zn (W2 := [_, _, _, _, (oc6 wy (.ref wx) (.ref wz) (nI 2) 0), (oa wx cI 2 (upd (upd WX 0 (X 0)) 1 (P 0))), (oa wz cI 2 (upd (upd WY 0 (Y 0)) 1 (Q 0))), _, _, _, _, _, _, _, _, _]) hP hD hk1 hFc hP1 hD1 [0, 4, 5, 6, 7, 8, 9, 10, 11, 12, 13, 14, 15] [false, true, true, true] [false, true, true, true, false, false, false, false, false, false, false, false, false, false, false, false] [0, 4, 5, 6, 7, 8, 9, 10, 11, 12, 13, 14, 15] (by decide +kernel) rfl rfl rfl rfl rfl
            clear hk1 hPc hDc hFc hP1 hD1 ht
            obtain ⟨hP9, hD9⟩ := zu_sub (wc := [_, _, _, _, _, _, _, _, _, _, _, _, _, _, _, _]) hP hD [true, true, true, true, true, true, true, true, true, true, true, true, true, true, true, true] rfl rfl
            rw [hQ9]
            exact W.zret (ty := .boolean) (v := pI (∀ k, k < prt m2 rh → wyF2 (X 0).toInt (Y 0).toInt (P 0).toInt (Q 0).toInt m2 U V k)) hx hb hr (zp_nar _) (fun t ht hW => ⟨⟨congrArg (fun z => Outcome.returned (some (Value.int z))) (show (pI (∀ k, k < prt m2 rh → wyF2 (X 0).toInt (Y 0).toInt (P 0).toInt (Q 0).toInt m2 U V k) : Int32) = pI (asb n X Y rg nd P Q rd m2 U V rh ∧ (∀ k, k < prt m2 rh → wyF2 (X 0).toInt (Y 0).toInt (P 0).toInt (Q 0).toInt m2 U V k)) from zp_iff ⟨fun h => ⟨⟨zp_ieq.mp (by first | with_reducible assumption | assumption), fun h9 => by first | with_reducible assumption | assumption | exact absurd (by first | with_reducible assumption | assumption) h9, fun h9 => by first | exact zp_ieq.mp (by first | with_reducible assumption | assumption) | exact absurd (by first | with_reducible assumption | assumption) h9⟩, h⟩, fun h => h.2⟩), nt, TX, TY, rt, 2, (upd (upd WX 0 (X 0)) 1 (P 0)), (upd (upd WY 0 (Y 0)) 1 (Q 0)), 0, by rw [ht]; exact hP9, hD9⟩, hS.F ht⟩) hS.2.2 dX4_isAsBefore_78
        · have c_10 : ¬ rh.toInt = 0 := zc_ne rfl rfl c_10
          refine lv_aload_n hx hb dX4_isAsBefore_46 rfl (lv_at hl 2 rfl) ?_
          refine lv_aload_n hx hb dX4_isAsBefore_47 rfl (lv_at hl 1 rfl) ?_
          obtain ⟨hPc, hDc, hFc⟩ := zo_sub (wc := [_, _, _, _, _, _]) hP hD hS hA [13, 14, 15, 10, 11, 12] (by decide +kernel) rfl
          refine zcall (st1 := [.int (pI (inF 5 m2 U V (X 0).toInt (Y 0).toInt))]) (va_runS (As := [.ref u, .ref r]) (rest := []) ⟨hx, hb, hml, hown, hts⟩ (k_Law_isIn l dC dI cI cZ cF H.size u ux uy m2 cap2 U V rh r rx ry n cap X Y rg (by first | with_reducible assumption | omega) (by first | with_reducible assumption | omega) (hq) (by first | with_reducible assumption | omega) (by first | with_reducible assumption | omega) (hp) (by first | with_reducible assumption | omega)) (csS_61 hts rfl rfl ⟨Nat.le_of_ble_eq_true rfl, Nat.le_of_ble_eq_true rfl⟩) (zPS2 hPc hDc hK hXN) rfl rfl hl.1 rfl (lv_room (Nat.le_of_ble_eq_true rfl)) dX4_isAsBefore_48 ⟨Nat.le_of_ble_eq_true rfl, Nat.le_of_ble_eq_true rfl⟩) hS hFc hFc rfl (fun t H locs ht hB hk1 hS => ?_)
          obtain ⟨hP1, hD1⟩ := hB
          rw [ht] at hP1
          obtain ⟨hP, hD⟩ := zn (W2 := [_, _, _, _, _, _, _, _, _, _, _, _, _, _, _, _]) hP hD hk1 hFc hP1 hD1 [13, 14, 15, 10, 11, 12] [true, true, true, true, true, true, true, true, true, true] [true, true, true, true, true, true, true, true, true, true, false, false, false, false, false, false] [13, 14, 15, 10, 11, 12] (by decide +kernel) rfl rfl rfl rfl rfl
          clear hk1 hPc hDc hFc hP1 hD1 ht
          refine lv_aload_n hx hb dX4_isAsBefore_51 rfl (lv_at hl 2 rfl) ?_
          refine lv_aload_n hx hb dX4_isAsBefore_52 rfl (lv_at hl 0 rfl) ?_
          refine va_get (D := (dC, dI)) (ci := 3) (v := .ref dr) (C := RX4) (T := TX4) (N := 6) hx hb hts inX4 hown hK hP 0 rfl rfl 0 (Nat.le_of_ble_eq_true rfl) (hts _ mw_219) (fun _ h9 => h9) rfl dX4_isAsBefore_53 ?_
          obtain ⟨hPc, hDc, hFc⟩ := zo_sub (wc := [_, _, _, _, _, _]) hP hD hS hA [13, 14, 15, 7, 8, 9] (by decide +kernel) rfl
          refine zcall (st1 := [.int (pI (inF 5 m2 U V (P 0).toInt (Q 0).toInt)), .int (pI (inF 5 m2 U V (X 0).toInt (Y 0).toInt))]) (va_runS (As := [.ref u, .ref dr]) (rest := [.int (pI (inF 5 m2 U V (X 0).toInt (Y 0).toInt))]) ⟨hx, hb, hml, hown, hts⟩ (k_Law_isIn l dC dI cI cZ cF H.size u ux uy m2 cap2 U V rh dr dx dy nd cd P Q rd (by first | with_reducible assumption | omega) (by first | with_reducible assumption | omega) (hq) (by first | with_reducible assumption | omega) (by first | with_reducible assumption | omega) (hpd) (by first | with_reducible assumption | omega)) (csS_61 hts rfl rfl ⟨Nat.le_of_ble_eq_true rfl, Nat.le_of_ble_eq_true rfl⟩) (zPS2 hPc hDc hK hXN) rfl rfl hl.1 rfl (lv_room (Nat.le_of_ble_eq_true rfl)) dX4_isAsBefore_56 ⟨Nat.le_of_ble_eq_true rfl, Nat.le_of_ble_eq_true rfl⟩) hS hFc hFc rfl (fun t H locs ht hB hk1 hS => ?_)
          obtain ⟨hP1, hD1⟩ := hB
          rw [ht] at hP1
          obtain ⟨hP, hD⟩ := zn (W2 := [_, _, _, _, _, _, _, _, _, _, _, _, _, _, _, _]) hP hD hk1 hFc hP1 hD1 [13, 14, 15, 7, 8, 9] [true, true, true, true, true, true, true, false, false, false, true, true, true] [true, true, true, true, true, true, true, false, false, false, true, true, true, false, false, false] [13, 14, 15, 7, 8, 9] (by decide +kernel) rfl rfl rfl rfl rfl
          clear hk1 hPc hDc hFc hP1 hD1 ht
          refine lv_icmp_eq (tgt := 64) hx hb dX4_isAsBefore_59 rfl (fun c_13 => ?_) (fun c_13 => ?_)
          · have c_13 : (pI (inF 5 m2 U V (X 0).toInt (Y 0).toInt)).toInt = (pI (inF 5 m2 U V (P 0).toInt (Q 0).toInt)).toInt := zc_eq rfl rfl c_13
            refine lv_aload_n hx hb dX4_isAsBefore_64 rfl (lv_at hl 1 rfl) ?_
            refine va_get (D := (dC, dI)) (ci := 6) (v := .int (nI n)) (C := RX7) (T := TX7) (N := 4) hx hb hts inX7 hown hK hP 10 rfl rfl 2 (Nat.le_of_ble_eq_true rfl) (hts _ mw_176) (fun _ h9 => h9) rfl dX4_isAsBefore_65 ?_
            refine lv_iconst (v := 1) hx hb dX4_isAsBefore_68 rfl ?_
            have b9_15 : n < 2147483648 := by omega
            refine lv_icmp_ne (tgt := 79) hx hb dX4_isAsBefore_69 rfl (fun c_14 => ?_) (fun c_14 => ?_)
            · have c_14 : ¬ ((n : Nat) : Int) = 1 := zc_ne (nI_toInt b9_15) rfl c_14
              exfalso; omega
            · have c_14 : ((n : Nat) : Int) = 1 := zc_eq (nI_toInt b9_15) rfl c_14
              refine lv_aload_n hx hb dX4_isAsBefore_72 rfl (lv_at hl 0 rfl) ?_
              refine lv_aload_n hx hb dX4_isAsBefore_73 rfl (lv_at hl 1 rfl) ?_
              refine lv_aload_n hx hb dX4_isAsBefore_74 rfl (lv_at hl 2 rfl) ?_
              obtain ⟨hPc, hDc, hFc⟩ := zo_sub (wc := [_, _, _, _, _, _, _, _, _, _, _, _, _]) hP hD hS hA [0, 4, 5, 6, 7, 8, 9, 10, 11, 12, 13, 14, 15] (by decide +kernel) rfl
              refine zcall (st1 := [.int (pI (∀ k, k < prt m2 rh → wyF2 (X 0).toInt (Y 0).toInt (P 0).toInt (Q 0).toInt m2 U V k))]) (va_runV (As := [.ref r, .ref u]) (rest := []) ⟨hx, hb, hml, hown, hts⟩ (k_Law_isWayFree l dC dI cI cZ cF H.size lw dr tg wy br bo aa wx wz nw WX WY rw dx dy nd cd P Q rd r rx ry n cap X Y rg u ux uy m2 cap2 U V rh (by first | with_reducible assumption | omega) (by first | with_reducible assumption | omega) (by first | with_reducible assumption | assumption) (by first | with_reducible assumption | omega) (by first | with_reducible assumption | omega) (by first | with_reducible assumption | assumption) (by first | with_reducible assumption | omega) (by first | with_reducible assumption | omega) (by first | with_reducible assumption | assumption) (by first | with_reducible assumption | omega) (by first | with_reducible assumption | omega)) (csV_57 hts rfl rfl ⟨Nat.le_of_ble_eq_true rfl, Nat.le_of_ble_eq_true rfl⟩) (zPV2 (q0 := 0) (ci := 3) hPc hDc hK hXN rfl rfl) rfl rfl hl.1 rfl (lv_room (Nat.le_of_ble_eq_true rfl)) dX4_isAsBefore_75 ⟨Nat.le_of_ble_eq_true rfl, Nat.le_of_ble_eq_true rfl⟩) hS hFc hFc rfl (fun t H locs ht hB hk1 hS => ?_)
              obtain ⟨hP1, hD1⟩ := hB
              rw [ht] at hP1
              obtain ⟨hP, hD⟩ := zn (W2 := [_, _, _, _, (oc6 wy (.ref wx) (.ref wz) (nI 2) 0), (oa wx cI 2 (upd (upd WX 0 (X 0)) 1 (P 0))), (oa wz cI 2 (upd (upd WY 0 (Y 0)) 1 (Q 0))), _, _, _, _, _, _, _, _, _]) hP hD hk1 hFc hP1 hD1 [0, 4, 5, 6, 7, 8, 9, 10, 11, 12, 13, 14, 15] [false, true, true, true] [false, true, true, true, false, false, false, false, false, false, false, false, false, false, false, false] [0, 4, 5, 6, 7, 8, 9, 10, 11, 12, 13, 14, 15] (by decide +kernel) rfl rfl rfl rfl rfl
              clear hk1 hPc hDc hFc hP1 hD1 ht
              obtain ⟨hP9, hD9⟩ := zu_sub (wc := [_, _, _, _, _, _, _, _, _, _, _, _, _, _, _, _]) hP hD [true, true, true, true, true, true, true, true, true, true, true, true, true, true, true, true] rfl rfl
              rw [hQ9]
              exact W.zret (ty := .boolean) (v := pI (∀ k, k < prt m2 rh → wyF2 (X 0).toInt (Y 0).toInt (P 0).toInt (Q 0).toInt m2 U V k)) hx hb hr (zp_nar _) (fun t ht hW => ⟨⟨congrArg (fun z => Outcome.returned (some (Value.int z))) (show (pI (∀ k, k < prt m2 rh → wyF2 (X 0).toInt (Y 0).toInt (P 0).toInt (Q 0).toInt m2 U V k) : Int32) = pI (asb n X Y rg nd P Q rd m2 U V rh ∧ (∀ k, k < prt m2 rh → wyF2 (X 0).toInt (Y 0).toInt (P 0).toInt (Q 0).toInt m2 U V k)) from zp_iff ⟨fun h => ⟨⟨zp_ieq.mp (by first | with_reducible assumption | assumption), fun h9 => by first | with_reducible assumption | assumption | exact absurd (by first | with_reducible assumption | assumption) h9, fun h9 => by first | exact zp_ieq.mp (by first | with_reducible assumption | assumption) | exact absurd (by first | with_reducible assumption | assumption) h9⟩, h⟩, fun h => h.2⟩), nt, TX, TY, rt, 2, (upd (upd WX 0 (X 0)) 1 (P 0)), (upd (upd WY 0 (Y 0)) 1 (Q 0)), 0, by rw [ht]; exact hP9, hD9⟩, hS.F ht⟩) hS.2.2 dX4_isAsBefore_78
          · have c_13 : ¬ (pI (inF 5 m2 U V (X 0).toInt (Y 0).toInt)).toInt = (pI (inF 5 m2 U V (P 0).toInt (Q 0).toInt)).toInt := zc_ne rfl rfl c_13
            refine lv_iconst (v := 0) hx hb dX4_isAsBefore_62 rfl ?_
            obtain ⟨hP9, hD9⟩ := zu_sub (wc := [_, _, _, _, _, _, _, _, _, _, _, _, _, _, _, _]) hP hD [true, true, true, true, true, true, true, true, true, true, true, true, true, true, true, true] rfl rfl
            rw [hQ9]
            exact W.zret (ty := .boolean) (v := 0) hx hb hr (rfl) (fun t ht hW => ⟨⟨congrArg (fun z => Outcome.returned (some (Value.int z))) (show (0 : Int32) = pI (asb n X Y rg nd P Q rd m2 U V rh ∧ (∀ k, k < prt m2 rh → wyF2 (X 0).toInt (Y 0).toInt (P 0).toInt (Q 0).toInt m2 U V k)) from (zp_f (fun h => absurd (zp_ieq.mpr (h.1.2.2 (by first | with_reducible assumption | assumption))) (by first | with_reducible assumption | assumption))).symm), nt, TX, TY, rt, nw, WX, WY, rw, by rw [ht]; exact hP9, hD9⟩, hS.F ht⟩) hS.2.2 dX4_isAsBefore_63
      · have c_9 : ¬ (∀ k, k < m2 → (inF 5 n X Y (U k).toInt (V k).toInt ↔ inF 5 nd P Q (U k).toInt (V k).toInt)) := zp_0 c_9
        refine lv_iconst (v := 0) hx hb dX4_isAsBefore_37 rfl ?_
        obtain ⟨hP9, hD9⟩ := zu_sub (wc := [_, _, _, _, _, _, _, _, _, _, _, _, _, _, _, _]) hP hD [true, true, true, true, true, true, true, true, true, true, true, true, true, true, true, true] rfl rfl
        rw [hQ9]
        exact W.zret (ty := .boolean) (v := 0) hx hb hr (rfl) (fun t ht hW => ⟨⟨congrArg (fun z => Outcome.returned (some (Value.int z))) (show (0 : Int32) = pI (asb n X Y rg nd P Q rd m2 U V rh ∧ (∀ k, k < prt m2 rh → wyF2 (X 0).toInt (Y 0).toInt (P 0).toInt (Q 0).toInt m2 U V k)) from (zp_f (fun h => absurd (h.1.2.1 (by first | with_reducible assumption | assumption)) (by first | with_reducible assumption | assumption))).symm), nt, TX, TY, rt, nw, WX, WY, rw, by rw [ht]; exact hP9, hD9⟩, hS.F ht⟩) hS.2.2 dX4_isAsBefore_38
  · have c_1 : ¬ (pI (∃ i, i < prt n rg ∧ ∃ j, j < prt m2 rh ∧ eMt n X Y i m2 U V j)).toInt = (pI (∃ i, i < prt nd rd ∧ ∃ j, j < prt m2 rh ∧ eMt nd P Q i m2 U V j)).toInt := zc_ne rfl rfl c_1
    refine lv_iconst (v := 0) hx hb dX4_isAsBefore_16 rfl ?_
    obtain ⟨hP9, hD9⟩ := zu_sub (wc := [_, _, _, _, _, _, _, _, _, _, _, _, _, _, _, _]) hP hD [true, true, true, true, true, true, true, true, true, true, true, true, true, true, true, true] rfl rfl
    rw [hQ9]
    exact W.zret (ty := .boolean) (v := 0) hx hb hr (rfl) (fun t ht hW => ⟨⟨congrArg (fun z => Outcome.returned (some (Value.int z))) (show (0 : Int32) = pI (asb n X Y rg nd P Q rd m2 U V rh ∧ (∀ k, k < prt m2 rh → wyF2 (X 0).toInt (Y 0).toInt (P 0).toInt (Q 0).toInt m2 U V k)) from (zp_f (fun h => absurd (zp_ieq.mpr h.1.1) (by first | with_reducible assumption | assumption))).symm), nt, TX, TY, rt, nw, WX, WY, rw, by rw [ht]; exact hP9, hD9⟩, hS.F ht⟩) hS.2.2 dX4_isAsBefore_17
set_option maxHeartbeats 4000000 in
set_option maxRecDepth 100000 in
theorem k_Law_isAsBefore_m (l : Launch) (dC : Nat → ClassId) (dI : Nat → Nat → Nat) (cI cZ cF : ClassId) (sz : Nat) (lw : Nat) (dr : Nat) (tg : Nat) (wy : Nat) (br : Nat) (bo : Nat) (aa : Nat) (tx : Nat) (ty : Nat) (nt : Nat) (TX : Nat → Int32) (TY : Nat → Int32) (rt : Int32) (wx : Nat) (wz : Nat) (nw : Nat) (WX : Nat → Int32) (WY : Nat → Int32) (rw : Int32) (dx : Nat) (dy : Nat) (nd : Nat) (cd : Nat) (P : Nat → Int32) (Q : Nat → Int32) (rd : Int32) (r : Nat) (rx : Nat) (ry : Nat) (n : Nat) (cap : Nat) (X : Nat → Int32) (Y : Nat → Int32) (rg : Int32) (u : Nat) (ux : Nat) (uy : Nat) (m2 : Nat) (cap2 : Nat) (U : Nat → Int32) (V : Nat → Int32) (rh : Int32) (hnd : nd ≤ cd) (hcd : cd ≤ 1000) (hpd : pls nd P Q) (hn : n ≤ cap) (hcap : cap ≤ 1000) (hp : pls n X Y) (hm : m2 ≤ cap2) (hcap2 : cap2 ≤ 1000) (hq : pls m2 U V) (h1m : 1 ≤ m2) (h1n : 1 ≤ n) (h1d : 1 ≤ nd) (hn1 : ¬ n = 1) (hdn : nd = n) : zM l yX4_isAsBefore cX4_isAsBefore 4 (some .boolean) ({ frames := 3, cells := 0, slots := 0, locals := 81 } : Room) [.ref lw, .ref r, .ref u, .int (-1)] (dC, dI) (zTy cI cZ cF) [(oc3 lw (.ref dr) (.ref tg) (.ref wy) (.ref br) (.ref bo) (.ref aa)), (oc6 tg (.ref tx) (.ref ty) (nI nt) rt), (oa tx cI 3 TX), (oa ty cI 3 TY), (oc6 wy (.ref wx) (.ref wz) (nI nw) rw), (oa wx cI 2 WX), (oa wz cI 2 WY), (oc6 dr (.ref dx) (.ref dy) (nI nd) rd), (oa dx cI cd P), (oa dy cI cd Q), (oc6 r (.ref rx) (.ref ry) (nI n) rg), (oa rx cI cap X), (oa ry cI cap Y), (oc6 u (.ref ux) (.ref uy) (nI m2) rh), (oa ux cI cap2 U), (oa uy cI cap2 V)] sz (some (.int (pI (asb n X Y rg nd P Q rd m2 U V rh ∧ (¬ (∃ i, i < edg n rg ∧ ∃ k, k < m2 ∧ swR n X Y P Q (U k).toInt (V k).toInt i)))))) (fun A t => ∃ (nt1 : Nat), ∃ (TX1 : Nat → Int32), ∃ (TY1 : Nat → Int32), ∃ (rt1 : Int32), ∃ (nw1 : Nat), ∃ (WX1 : Nat → Int32), ∃ (WY1 : Nat → Int32), ∃ (rw1 : Int32), zPD (dC, dI) classes A [(oc3 lw (.ref dr) (.ref tg) (.ref wy) (.ref br) (.ref bo) (.ref aa)), (oc6 tg (.ref tx) (.ref ty) (nI nt1) rt1), (oa tx cI 3 TX1), (oa ty cI 3 TY1), (oc6 wy (.ref wx) (.ref wz) (nI nw1) rw1), (oa wx cI 2 WX1), (oa wz cI 2 WY1), (oc6 dr (.ref dx) (.ref dy) (nI nd) rd), (oa dx cI cd P), (oa dy cI cd Q), (oc6 r (.ref rx) (.ref ry) (nI n) rg), (oa rx cI cap X), (oa ry cI cap Y), (oc6 u (.ref ux) (.ref uy) (nI m2) rh), (oa ux cI cap2 U), (oa uy cI cap2 V)] t.heap) 0 0 := by
  refine zIn (own := "ScaleShop$Law") (loc := [(0, .ref lw), (1, .ref r), (2, .ref u), (3, .int (-1))]) rfl rfl rfl rfl (fun p e s m below meth c hx hb hr hts hown hlocks hml hnm9 A hA hS hP hD hK hXN Q9 hQ9 ls hl => ?_)
  refine lv_aload_n hx hb dX4_isAsBefore_0 rfl (lv_at hl 1 rfl) ?_
  refine lv_aload_n hx hb dX4_isAsBefore_1 rfl (lv_at hl 2 rfl) ?_
  obtain ⟨hPc, hDc, hFc⟩ := zo_sub (wc := [_, _, _, _, _, _]) hP hD hS hA [10, 11, 12, 13, 14, 15] (by decide +kernel) rfl
  refine zcall (st1 := [.int (pI (∃ i, i < prt n rg ∧ ∃ j, j < prt m2 rh ∧ eMt n X Y i m2 U V j))]) (va_runV (As := [.ref u]) (rest := []) ⟨hx, hb, hml, hown, hts⟩ (k_Row_touches l dC dI cI cZ cF s.heap.size r rx ry n cap X Y rg u ux uy m2 cap2 U V rh (by first | with_reducible assumption | omega) (by first | with_reducible assumption | omega) (hp) (by first | with_reducible assumption | omega) (by first | with_reducible assumption | omega) (hq)) (csV_56 hts rfl rfl ⟨Nat.le_of_ble_eq_true rfl, Nat.le_of_ble_eq_true rfl⟩) (zPV2 (q0 := 0) (ci := 6) hPc hDc hK hXN rfl rfl) rfl rfl hl.1 rfl (lv_room (Nat.le_of_ble_eq_true rfl)) dX4_isAsBefore_2 ⟨Nat.le_of_ble_eq_true rfl, Nat.le_of_ble_eq_true rfl⟩) hS hFc hFc rfl (fun t H locs ht hB hk1 hS => ?_)
  obtain ⟨hP1, hD1⟩ := hB
  rw [ht] at hP1
  obtain ⟨hP, hD⟩ := zn (W2 := [_, _, _, _, _, _, _, _, _, _, _, _, _, _, _, _]) hP hD hk1 hFc hP1 hD1 [10, 11, 12, 13, 14, 15] [true, true, true, true, true, true, true, true, true, true] [true, true, true, true, true, true, true, true, true, true, false, false, false, false, false, false] [10, 11, 12, 13, 14, 15] (by decide +kernel) rfl rfl rfl rfl rfl
  clear hk1 hPc hDc hFc hP1 hD1 ht
  refine lv_aload_n hx hb dX4_isAsBefore_5 rfl (lv_at hl 0 rfl) ?_
  refine va_get (D := (dC, dI)) (ci := 3) (v := .ref dr) (C := RX4) (T := TX4) (N := 6) hx hb hts inX4 hown hK hP 0 rfl rfl 0 (Nat.le_of_ble_eq_true rfl) (hts _ mw_219) (fun _ h9 => h9) rfl dX4_isAsBefore_6 ?_
  refine lv_aload_n hx hb dX4_isAsBefore_9 rfl (lv_at hl 2 rfl) ?_
  obtain ⟨hPc, hDc, hFc⟩ := zo_sub (wc := [_, _, _, _, _, _]) hP hD hS hA [7, 8, 9, 13, 14, 15] (by decide +kernel) rfl
  refine zcall (st1 := [.int (pI (∃ i, i < prt nd rd ∧ ∃ j, j < prt m2 rh ∧ eMt nd P Q i m2 U V j)), .int (pI (∃ i, i < prt n rg ∧ ∃ j, j < prt m2 rh ∧ eMt n X Y i m2 U V j))]) (va_runV (As := [.ref u]) (rest := [.int (pI (∃ i, i < prt n rg ∧ ∃ j, j < prt m2 rh ∧ eMt n X Y i m2 U V j))]) ⟨hx, hb, hml, hown, hts⟩ (k_Row_touches l dC dI cI cZ cF H.size dr dx dy nd cd P Q rd u ux uy m2 cap2 U V rh (by first | with_reducible assumption | omega) (by first | with_reducible assumption | omega) (hpd) (by first | with_reducible assumption | omega) (by first | with_reducible assumption | omega) (hq)) (csV_56 hts rfl rfl ⟨Nat.le_of_ble_eq_true rfl, Nat.le_of_ble_eq_true rfl⟩) (zPV2 (q0 := 0) (ci := 6) hPc hDc hK hXN rfl rfl) rfl rfl hl.1 rfl (lv_room (Nat.le_of_ble_eq_true rfl)) dX4_isAsBefore_10 ⟨Nat.le_of_ble_eq_true rfl, Nat.le_of_ble_eq_true rfl⟩) hS hFc hFc rfl (fun t H locs ht hB hk1 hS => ?_)
  obtain ⟨hP1, hD1⟩ := hB
  rw [ht] at hP1
  obtain ⟨hP, hD⟩ := zn (W2 := [_, _, _, _, _, _, _, _, _, _, _, _, _, _, _, _]) hP hD hk1 hFc hP1 hD1 [7, 8, 9, 13, 14, 15] [true, true, true, true, true, true, true, false, false, false, true, true, true] [true, true, true, true, true, true, true, false, false, false, true, true, true, false, false, false] [7, 8, 9, 13, 14, 15] (by decide +kernel) rfl rfl rfl rfl rfl
  clear hk1 hPc hDc hFc hP1 hD1 ht
  refine lv_icmp_eq (tgt := 18) hx hb dX4_isAsBefore_13 rfl (fun c_1 => ?_) (fun c_1 => ?_)
  · have c_1 : (pI (∃ i, i < prt n rg ∧ ∃ j, j < prt m2 rh ∧ eMt n X Y i m2 U V j)).toInt = (pI (∃ i, i < prt nd rd ∧ ∃ j, j < prt m2 rh ∧ eMt nd P Q i m2 U V j)).toInt := zc_eq rfl rfl c_1
    refine lv_aload_n hx hb dX4_isAsBefore_18 rfl (lv_at hl 0 rfl) ?_
    refine va_get (D := (dC, dI)) (ci := 3) (v := .ref dr) (C := RX4) (T := TX4) (N := 6) hx hb hts inX4 hown hK hP 0 rfl rfl 0 (Nat.le_of_ble_eq_true rfl) (hts _ mw_219) (fun _ h9 => h9) rfl dX4_isAsBefore_19 ?_
    refine va_get (D := (dC, dI)) (ci := 6) (v := .int rd) (C := RX7) (T := TX7) (N := 4) hx hb hts inX7 hown hK hP 7 rfl rfl 3 (Nat.le_of_ble_eq_true rfl) (hts _ mw_184) (fun _ h9 => h9) rfl dX4_isAsBefore_22 ?_
    refine lv_if_eq (tgt := 39) hx hb dX4_isAsBefore_25 rfl (fun c_2 => ?_) (fun c_2 => ?_)
    · have c_2 : rd.toInt = 0 := zc_eq rfl rfl c_2
      refine lv_aload_n hx hb dX4_isAsBefore_39 rfl (lv_at hl 2 rfl) ?_
      refine va_get (D := (dC, dI)) (ci := 6) (v := .int rh) (C := RX7) (T := TX7) (N := 4) hx hb hts inX7 hown hK hP 13 rfl rfl 3 (Nat.le_of_ble_eq_true rfl) (hts _ mw_184) (fun _ h9 => h9) rfl dX4_isAsBefore_40 ?_
      refine lv_if_eq (tgt := 64) hx hb dX4_isAsBefore_43 rfl (fun c_3 => ?_) (fun c_3 => ?_)
      · have c_3 : rh.toInt = 0 := zc_eq rfl rfl c_3
        refine lv_aload_n hx hb dX4_isAsBefore_64 rfl (lv_at hl 1 rfl) ?_
        refine va_get (D := (dC, dI)) (ci := 6) (v := .int (nI n)) (C := RX7) (T := TX7) (N := 4) hx hb hts inX7 hown hK hP 10 rfl rfl 2 (Nat.le_of_ble_eq_true rfl) (hts _ mw_176) (fun _ h9 => h9) rfl dX4_isAsBefore_65 ?_
        refine lv_iconst (v := 1) hx hb dX4_isAsBefore_68 rfl ?_
        have b9_5 : n < 2147483648 := by omega
        refine lv_icmp_ne (tgt := 79) hx hb dX4_isAsBefore_69 rfl (fun c_4 => ?_) (fun c_4 => ?_)
        · have c_4 : ¬ ((n : Nat) : Int) = 1 := zc_ne (nI_toInt b9_5) rfl c_4
          refine lv_iload_n hx hb dX4_isAsBefore_79 rfl (lv_at hl 3 rfl) ?_
          refine lv_bipush (v := (-2)) hx hb dX4_isAsBefore_80 rfl ?_
          refine lv_icmp_ne (tgt := 87) hx hb dX4_isAsBefore_82 rfl (fun c_6 => ?_) (fun c_6 => ?_)
          · refine lv_iload_n hx hb dX4_isAsBefore_87 rfl (lv_at hl 3 rfl) ?_
            refine lv_iconst (v := (-1)) hx hb dX4_isAsBefore_88 rfl ?_
            refine lv_icmp_ne (tgt := 109) hx hb dX4_isAsBefore_89 rfl (fun c_7 => ?_) (fun c_7 => ?_)
            · exact absurd (by decide) c_7
            · refine lv_aload_n hx hb dX4_isAsBefore_92 rfl (lv_at hl 0 rfl) ?_
              refine lv_aload_n hx hb dX4_isAsBefore_93 rfl (lv_at hl 1 rfl) ?_
              refine lv_aload_n hx hb dX4_isAsBefore_94 rfl (lv_at hl 2 rfl) ?_
              obtain ⟨hPc, hDc, hFc⟩ := zo_sub (wc := [_, _, _, _, _, _, _, _, _, _, _, _, _]) hP hD hS hA [0, 1, 2, 3, 7, 8, 9, 10, 11, 12, 13, 14, 15] (by decide +kernel) rfl
              refine zcall (st1 := [.int (pI (∃ i, i < edg n rg ∧ ∃ k, k < m2 ∧ swR n X Y P Q (U k).toInt (V k).toInt i))]) (va_runV (As := [.ref r, .ref u]) (rest := []) ⟨hx, hb, hml, hown, hts⟩ (k_Law_isSweptByMove l dC dI cI cZ cF H.size lw dr tg wy br bo aa tx ty nt TX TY rt dx dy nd cd P Q rd r rx ry n cap X Y rg u ux uy m2 cap2 U V rh (by first | with_reducible assumption | omega) (by first | with_reducible assumption | omega) (by first | with_reducible assumption | assumption) (by first | with_reducible assumption | omega) (by first | with_reducible assumption | omega) (by first | with_reducible assumption | assumption) (by first | with_reducible assumption | omega) (by first | with_reducible assumption | omega) (by first | with_reducible assumption | assumption) (by first | with_reducible assumption | omega)) (csV_59 hts rfl rfl ⟨Nat.le_of_ble_eq_true rfl, Nat.le_of_ble_eq_true rfl⟩) (zPV2 (q0 := 0) (ci := 3) hPc hDc hK hXN rfl rfl) rfl rfl hl.1 rfl (lv_room (Nat.le_of_ble_eq_true rfl)) dX4_isAsBefore_95 ⟨Nat.le_of_ble_eq_true rfl, Nat.le_of_ble_eq_true rfl⟩) hS hFc hFc rfl (fun t H locs ht hB hk1 hS => ?_)
              obtain ⟨q_8, q_9, q_10, q_11, hP1, hD1⟩ := hB
              rw [ht] at hP1
              obtain ⟨hP, hD⟩ := zn (W2 := [_, (oc6 tg (.ref tx) (.ref ty) (nI q_8) q_11), (oa tx cI 3 q_9), (oa ty cI 3 q_10), _, _, _, _, _, _, _, _, _, _, _, _]) hP hD hk1 hFc hP1 hD1 [0, 1, 2, 3, 7, 8, 9, 10, 11, 12, 13, 14, 15] [false, false, false, false, true, true, true] [false, false, false, false, true, true, true, false, false, false, false, false, false, false, false, false] [0, 1, 2, 3, 7, 8, 9, 10, 11, 12, 13, 14, 15] (by decide +kernel) rfl rfl rfl rfl rfl
              clear hk1 hPc hDc hFc hP1 hD1 ht
              refine lv_if_ne (tgt := 105) hx hb dX4_isAsBefore_98 rfl (fun c_12 => ?_) (fun c_12 => ?_)
              · have c_12 : ∃ i, i < edg n rg ∧ ∃ k, k < m2 ∧ swR n X Y P Q (U k).toInt (V k).toInt i := zp_1 c_12
                refine lv_iconst (v := 0) hx hb dX4_isAsBefore_105 rfl ?_
                refine lv_goto (tgt := 124) hx hb dX4_isAsBefore_106 rfl ?_
                obtain ⟨hP9, hD9⟩ := zu_sub (wc := [_, _, _, _, _, _, _, _, _, _, _, _, _, _, _, _]) hP hD [true, true, true, true, true, true, true, true, true, true, true, true, true, true, true, true] rfl rfl
                rw [hQ9]
                exact W.zret (ty := .boolean) (v := 0) hx hb hr (rfl) (fun t ht hW => ⟨⟨congrArg (fun z => Outcome.returned (some (Value.int z))) (show (0 : Int32) = pI (asb n X Y rg nd P Q rd m2 U V rh ∧ (¬ (∃ i, i < edg n rg ∧ ∃ k, k < m2 ∧ swR n X Y P Q (U k).toInt (V k).toInt i))) from (zp_f (by first | exact ⟨⟨zp_ieq.mp (by first | with_reducible assumption | assumption), fun h9 => by first | with_reducible assumption | assumption | exact absurd (by first | with_reducible assumption | assumption) h9, fun h9 => by first | exact zp_ieq.mp (by first | with_reducible assumption | assumption) | exact absurd (by first | with_reducible assumption | assumption) h9⟩, by assumption⟩ | exact fun h => absurd (by first | with_reducible assumption | assumption) h.2)).symm), q_8, q_9, q_10, q_11, nw, WX, WY, rw, by rw [ht]; exact hP9, hD9⟩, hS.F ht⟩) hS.2.2 dX4_isAsBefore_124
              · have c_12 : ¬ (∃ i, i < edg n rg ∧ ∃ k, k < m2 ∧ swR n X Y P Q (U k).toInt (V k).toInt i) := zp_0 c_12
                refine lv_iconst (v := 1) hx hb dX4_isAsBefore_101 rfl ?_
                refine lv_goto (tgt := 124) hx hb dX4_isAsBefore_102 rfl ?_
                obtain ⟨hP9, hD9⟩ := zu_sub (wc := [_, _, _, _, _, _, _, _, _, _, _, _, _, _, _, _]) hP hD [true, true, true, true, true, true, true, true, true, true, true, true, true, true, true, true] rfl rfl
                rw [hQ9]
                exact W.zret (ty := .boolean) (v := 1) hx hb hr (rfl) (fun t ht hW => ⟨⟨congrArg (fun z => Outcome.returned (some (Value.int z))) (show (1 : Int32) = pI (asb n X Y rg nd P Q rd m2 U V rh ∧ (¬ (∃ i, i < edg n rg ∧ ∃ k, k < m2 ∧ swR n X Y P Q (U k).toInt (V k).toInt i))) from (zp_t (by first | exact ⟨⟨zp_ieq.mp (by first | with_reducible assumption | assumption), fun h9 => by first | with_reducible assumption | assumption | exact absurd (by first | with_reducible assumption | assumption) h9, fun h9 => by first | exact zp_ieq.mp (by first | with_reducible assumption | assumption) | exact absurd (by first | with_reducible assumption | assumption) h9⟩, by assumption⟩ | exact fun h => absurd (by first | with_reducible assumption | assumption) h.2)).symm), q_8, q_9, q_10, q_11, nw, WX, WY, rw, by rw [ht]; exact hP9, hD9⟩, hS.F ht⟩) hS.2.2 dX4_isAsBefore_124
          · exact absurd c_6 (by decide)
        · have c_4 : ((n : Nat) : Int) = 1 := zc_eq (nI_toInt b9_5) rfl c_4
          exfalso; omega
      · have c_3 : ¬ rh.toInt = 0 := zc_ne rfl rfl c_3
        refine lv_aload_n hx hb dX4_isAsBefore_46 rfl (lv_at hl 2 rfl) ?_
        refine lv_aload_n hx hb dX4_isAsBefore_47 rfl (lv_at hl 1 rfl) ?_
        obtain ⟨hPc, hDc, hFc⟩ := zo_sub (wc := [_, _, _, _, _, _]) hP hD hS hA [13, 14, 15, 10, 11, 12] (by decide +kernel) rfl
        refine zcall (st1 := [.int (pI (inF 5 m2 U V (X 0).toInt (Y 0).toInt))]) (va_runS (As := [.ref u, .ref r]) (rest := []) ⟨hx, hb, hml, hown, hts⟩ (k_Law_isIn l dC dI cI cZ cF H.size u ux uy m2 cap2 U V rh r rx ry n cap X Y rg (by first | with_reducible assumption | omega) (by first | with_reducible assumption | omega) (hq) (by first | with_reducible assumption | omega) (by first | with_reducible assumption | omega) (hp) (by first | with_reducible assumption | omega)) (csS_61 hts rfl rfl ⟨Nat.le_of_ble_eq_true rfl, Nat.le_of_ble_eq_true rfl⟩) (zPS2 hPc hDc hK hXN) rfl rfl hl.1 rfl (lv_room (Nat.le_of_ble_eq_true rfl)) dX4_isAsBefore_48 ⟨Nat.le_of_ble_eq_true rfl, Nat.le_of_ble_eq_true rfl⟩) hS hFc hFc rfl (fun t H locs ht hB hk1 hS => ?_)
        obtain ⟨hP1, hD1⟩ := hB
        rw [ht] at hP1
        obtain ⟨hP, hD⟩ := zn (W2 := [_, _, _, _, _, _, _, _, _, _, _, _, _, _, _, _]) hP hD hk1 hFc hP1 hD1 [13, 14, 15, 10, 11, 12] [true, true, true, true, true, true, true, true, true, true] [true, true, true, true, true, true, true, true, true, true, false, false, false, false, false, false] [13, 14, 15, 10, 11, 12] (by decide +kernel) rfl rfl rfl rfl rfl
        clear hk1 hPc hDc hFc hP1 hD1 ht
        refine lv_aload_n hx hb dX4_isAsBefore_51 rfl (lv_at hl 2 rfl) ?_
        refine lv_aload_n hx hb dX4_isAsBefore_52 rfl (lv_at hl 0 rfl) ?_
        refine va_get (D := (dC, dI)) (ci := 3) (v := .ref dr) (C := RX4) (T := TX4) (N := 6) hx hb hts inX4 hown hK hP 0 rfl rfl 0 (Nat.le_of_ble_eq_true rfl) (hts _ mw_219) (fun _ h9 => h9) rfl dX4_isAsBefore_53 ?_
        obtain ⟨hPc, hDc, hFc⟩ := zo_sub (wc := [_, _, _, _, _, _]) hP hD hS hA [13, 14, 15, 7, 8, 9] (by decide +kernel) rfl
        refine zcall (st1 := [.int (pI (inF 5 m2 U V (P 0).toInt (Q 0).toInt)), .int (pI (inF 5 m2 U V (X 0).toInt (Y 0).toInt))]) (va_runS (As := [.ref u, .ref dr]) (rest := [.int (pI (inF 5 m2 U V (X 0).toInt (Y 0).toInt))]) ⟨hx, hb, hml, hown, hts⟩ (k_Law_isIn l dC dI cI cZ cF H.size u ux uy m2 cap2 U V rh dr dx dy nd cd P Q rd (by first | with_reducible assumption | omega) (by first | with_reducible assumption | omega) (hq) (by first | with_reducible assumption | omega) (by first | with_reducible assumption | omega) (hpd) (by first | with_reducible assumption | omega)) (csS_61 hts rfl rfl ⟨Nat.le_of_ble_eq_true rfl, Nat.le_of_ble_eq_true rfl⟩) (zPS2 hPc hDc hK hXN) rfl rfl hl.1 rfl (lv_room (Nat.le_of_ble_eq_true rfl)) dX4_isAsBefore_56 ⟨Nat.le_of_ble_eq_true rfl, Nat.le_of_ble_eq_true rfl⟩) hS hFc hFc rfl (fun t H locs ht hB hk1 hS => ?_)
        obtain ⟨hP1, hD1⟩ := hB
        rw [ht] at hP1
        obtain ⟨hP, hD⟩ := zn (W2 := [_, _, _, _, _, _, _, _, _, _, _, _, _, _, _, _]) hP hD hk1 hFc hP1 hD1 [13, 14, 15, 7, 8, 9] [true, true, true, true, true, true, true, false, false, false, true, true, true] [true, true, true, true, true, true, true, false, false, false, true, true, true, false, false, false] [13, 14, 15, 7, 8, 9] (by decide +kernel) rfl rfl rfl rfl rfl
        clear hk1 hPc hDc hFc hP1 hD1 ht
        refine lv_icmp_eq (tgt := 64) hx hb dX4_isAsBefore_59 rfl (fun c_13 => ?_) (fun c_13 => ?_)
        · have c_13 : (pI (inF 5 m2 U V (X 0).toInt (Y 0).toInt)).toInt = (pI (inF 5 m2 U V (P 0).toInt (Q 0).toInt)).toInt := zc_eq rfl rfl c_13
          refine lv_aload_n hx hb dX4_isAsBefore_64 rfl (lv_at hl 1 rfl) ?_
          refine va_get (D := (dC, dI)) (ci := 6) (v := .int (nI n)) (C := RX7) (T := TX7) (N := 4) hx hb hts inX7 hown hK hP 10 rfl rfl 2 (Nat.le_of_ble_eq_true rfl) (hts _ mw_176) (fun _ h9 => h9) rfl dX4_isAsBefore_65 ?_
          refine lv_iconst (v := 1) hx hb dX4_isAsBefore_68 rfl ?_
          have b9_15 : n < 2147483648 := by omega
          refine lv_icmp_ne (tgt := 79) hx hb dX4_isAsBefore_69 rfl (fun c_14 => ?_) (fun c_14 => ?_)
          · have c_14 : ¬ ((n : Nat) : Int) = 1 := zc_ne (nI_toInt b9_15) rfl c_14
            refine lv_iload_n hx hb dX4_isAsBefore_79 rfl (lv_at hl 3 rfl) ?_
            refine lv_bipush (v := (-2)) hx hb dX4_isAsBefore_80 rfl ?_
            refine lv_icmp_ne (tgt := 87) hx hb dX4_isAsBefore_82 rfl (fun c_16 => ?_) (fun c_16 => ?_)
            · refine lv_iload_n hx hb dX4_isAsBefore_87 rfl (lv_at hl 3 rfl) ?_
              refine lv_iconst (v := (-1)) hx hb dX4_isAsBefore_88 rfl ?_
              refine lv_icmp_ne (tgt := 109) hx hb dX4_isAsBefore_89 rfl (fun c_17 => ?_) (fun c_17 => ?_)
              · exact absurd (by decide) c_17
              · refine lv_aload_n hx hb dX4_isAsBefore_92 rfl (lv_at hl 0 rfl) ?_
                refine lv_aload_n hx hb dX4_isAsBefore_93 rfl (lv_at hl 1 rfl) ?_
                refine lv_aload_n hx hb dX4_isAsBefore_94 rfl (lv_at hl 2 rfl) ?_
                obtain ⟨hPc, hDc, hFc⟩ := zo_sub (wc := [_, _, _, _, _, _, _, _, _, _, _, _, _]) hP hD hS hA [0, 1, 2, 3, 7, 8, 9, 10, 11, 12, 13, 14, 15] (by decide +kernel) rfl
                refine zcall (st1 := [.int (pI (∃ i, i < edg n rg ∧ ∃ k, k < m2 ∧ swR n X Y P Q (U k).toInt (V k).toInt i))]) (va_runV (As := [.ref r, .ref u]) (rest := []) ⟨hx, hb, hml, hown, hts⟩ (k_Law_isSweptByMove l dC dI cI cZ cF H.size lw dr tg wy br bo aa tx ty nt TX TY rt dx dy nd cd P Q rd r rx ry n cap X Y rg u ux uy m2 cap2 U V rh (by first | with_reducible assumption | omega) (by first | with_reducible assumption | omega) (by first | with_reducible assumption | assumption) (by first | with_reducible assumption | omega) (by first | with_reducible assumption | omega) (by first | with_reducible assumption | assumption) (by first | with_reducible assumption | omega) (by first | with_reducible assumption | omega) (by first | with_reducible assumption | assumption) (by first | with_reducible assumption | omega)) (csV_59 hts rfl rfl ⟨Nat.le_of_ble_eq_true rfl, Nat.le_of_ble_eq_true rfl⟩) (zPV2 (q0 := 0) (ci := 3) hPc hDc hK hXN rfl rfl) rfl rfl hl.1 rfl (lv_room (Nat.le_of_ble_eq_true rfl)) dX4_isAsBefore_95 ⟨Nat.le_of_ble_eq_true rfl, Nat.le_of_ble_eq_true rfl⟩) hS hFc hFc rfl (fun t H locs ht hB hk1 hS => ?_)
                obtain ⟨q_18, q_19, q_20, q_21, hP1, hD1⟩ := hB
                rw [ht] at hP1
                obtain ⟨hP, hD⟩ := zn (W2 := [_, (oc6 tg (.ref tx) (.ref ty) (nI q_18) q_21), (oa tx cI 3 q_19), (oa ty cI 3 q_20), _, _, _, _, _, _, _, _, _, _, _, _]) hP hD hk1 hFc hP1 hD1 [0, 1, 2, 3, 7, 8, 9, 10, 11, 12, 13, 14, 15] [false, false, false, false, true, true, true] [false, false, false, false, true, true, true, false, false, false, false, false, false, false, false, false] [0, 1, 2, 3, 7, 8, 9, 10, 11, 12, 13, 14, 15] (by decide +kernel) rfl rfl rfl rfl rfl
                clear hk1 hPc hDc hFc hP1 hD1 ht
                refine lv_if_ne (tgt := 105) hx hb dX4_isAsBefore_98 rfl (fun c_22 => ?_) (fun c_22 => ?_)
                · have c_22 : ∃ i, i < edg n rg ∧ ∃ k, k < m2 ∧ swR n X Y P Q (U k).toInt (V k).toInt i := zp_1 c_22
                  refine lv_iconst (v := 0) hx hb dX4_isAsBefore_105 rfl ?_
                  refine lv_goto (tgt := 124) hx hb dX4_isAsBefore_106 rfl ?_
                  obtain ⟨hP9, hD9⟩ := zu_sub (wc := [_, _, _, _, _, _, _, _, _, _, _, _, _, _, _, _]) hP hD [true, true, true, true, true, true, true, true, true, true, true, true, true, true, true, true] rfl rfl
                  rw [hQ9]
                  exact W.zret (ty := .boolean) (v := 0) hx hb hr (rfl) (fun t ht hW => ⟨⟨congrArg (fun z => Outcome.returned (some (Value.int z))) (show (0 : Int32) = pI (asb n X Y rg nd P Q rd m2 U V rh ∧ (¬ (∃ i, i < edg n rg ∧ ∃ k, k < m2 ∧ swR n X Y P Q (U k).toInt (V k).toInt i))) from (zp_f (by first | exact ⟨⟨zp_ieq.mp (by first | with_reducible assumption | assumption), fun h9 => by first | with_reducible assumption | assumption | exact absurd (by first | with_reducible assumption | assumption) h9, fun h9 => by first | exact zp_ieq.mp (by first | with_reducible assumption | assumption) | exact absurd (by first | with_reducible assumption | assumption) h9⟩, by assumption⟩ | exact fun h => absurd (by first | with_reducible assumption | assumption) h.2)).symm), q_18, q_19, q_20, q_21, nw, WX, WY, rw, by rw [ht]; exact hP9, hD9⟩, hS.F ht⟩) hS.2.2 dX4_isAsBefore_124
                · have c_22 : ¬ (∃ i, i < edg n rg ∧ ∃ k, k < m2 ∧ swR n X Y P Q (U k).toInt (V k).toInt i) := zp_0 c_22
                  refine lv_iconst (v := 1) hx hb dX4_isAsBefore_101 rfl ?_
                  refine lv_goto (tgt := 124) hx hb dX4_isAsBefore_102 rfl ?_
                  obtain ⟨hP9, hD9⟩ := zu_sub (wc := [_, _, _, _, _, _, _, _, _, _, _, _, _, _, _, _]) hP hD [true, true, true, true, true, true, true, true, true, true, true, true, true, true, true, true] rfl rfl
                  rw [hQ9]
                  exact W.zret (ty := .boolean) (v := 1) hx hb hr (rfl) (fun t ht hW => ⟨⟨congrArg (fun z => Outcome.returned (some (Value.int z))) (show (1 : Int32) = pI (asb n X Y rg nd P Q rd m2 U V rh ∧ (¬ (∃ i, i < edg n rg ∧ ∃ k, k < m2 ∧ swR n X Y P Q (U k).toInt (V k).toInt i))) from (zp_t (by first | exact ⟨⟨zp_ieq.mp (by first | with_reducible assumption | assumption), fun h9 => by first | with_reducible assumption | assumption | exact absurd (by first | with_reducible assumption | assumption) h9, fun h9 => by first | exact zp_ieq.mp (by first | with_reducible assumption | assumption) | exact absurd (by first | with_reducible assumption | assumption) h9⟩, by assumption⟩ | exact fun h => absurd (by first | with_reducible assumption | assumption) h.2)).symm), q_18, q_19, q_20, q_21, nw, WX, WY, rw, by rw [ht]; exact hP9, hD9⟩, hS.F ht⟩) hS.2.2 dX4_isAsBefore_124
            · exact absurd c_16 (by decide)
          · have c_14 : ((n : Nat) : Int) = 1 := zc_eq (nI_toInt b9_15) rfl c_14
            exfalso; omega
        · have c_13 : ¬ (pI (inF 5 m2 U V (X 0).toInt (Y 0).toInt)).toInt = (pI (inF 5 m2 U V (P 0).toInt (Q 0).toInt)).toInt := zc_ne rfl rfl c_13
          refine lv_iconst (v := 0) hx hb dX4_isAsBefore_62 rfl ?_
          obtain ⟨hP9, hD9⟩ := zu_sub (wc := [_, _, _, _, _, _, _, _, _, _, _, _, _, _, _, _]) hP hD [true, true, true, true, true, true, true, true, true, true, true, true, true, true, true, true] rfl rfl
          rw [hQ9]
          exact W.zret (ty := .boolean) (v := 0) hx hb hr (rfl) (fun t ht hW => ⟨⟨congrArg (fun z => Outcome.returned (some (Value.int z))) (show (0 : Int32) = pI (asb n X Y rg nd P Q rd m2 U V rh ∧ (¬ (∃ i, i < edg n rg ∧ ∃ k, k < m2 ∧ swR n X Y P Q (U k).toInt (V k).toInt i))) from (zp_f (fun h => absurd (zp_ieq.mpr (h.1.2.2 (by first | with_reducible assumption | assumption))) (by first | with_reducible assumption | assumption))).symm), nt, TX, TY, rt, nw, WX, WY, rw, by rw [ht]; exact hP9, hD9⟩, hS.F ht⟩) hS.2.2 dX4_isAsBefore_63
    · have c_2 : ¬ rd.toInt = 0 := zc_ne rfl rfl c_2
      refine lv_aload_n hx hb dX4_isAsBefore_28 rfl (lv_at hl 0 rfl) ?_
      refine lv_aload_n hx hb dX4_isAsBefore_29 rfl (lv_at hl 1 rfl) ?_
      refine lv_aload_n hx hb dX4_isAsBefore_30 rfl (lv_at hl 2 rfl) ?_
      obtain ⟨hPc, hDc, hFc⟩ := zo_sub (wc := [_, _, _, _, _, _, _, _, _, _]) hP hD hS hA [0, 7, 8, 9, 10, 11, 12, 13, 14, 15] (by decide +kernel) rfl
      refine zcall (st1 := [.int (pI (∀ k, k < m2 → (inF 5 n X Y (U k).toInt (V k).toInt ↔ inF 5 nd P Q (U k).toInt (V k).toInt)))]) (va_runV (As := [.ref r, .ref u]) (rest := []) ⟨hx, hb, hml, hown, hts⟩ (k_Law_holdsAsBefore l dC dI cI cZ cF H.size lw dr tg wy br bo aa dx dy nd cd P Q rd r rx ry n cap X Y rg u ux uy m2 cap2 U V rh (by first | with_reducible assumption | omega) (by first | with_reducible assumption | omega) (by first | with_reducible assumption | assumption) (by first | with_reducible assumption | omega) (by first | with_reducible assumption | omega) (by first | with_reducible assumption | assumption) (by first | with_reducible assumption | omega) (by first | with_reducible assumption | omega) (by first | with_reducible assumption | assumption)) (csV_58 hts rfl rfl ⟨Nat.le_of_ble_eq_true rfl, Nat.le_of_ble_eq_true rfl⟩) (zPV2 (q0 := 0) (ci := 3) hPc hDc hK hXN rfl rfl) rfl rfl hl.1 rfl (lv_room (Nat.le_of_ble_eq_true rfl)) dX4_isAsBefore_31 ⟨Nat.le_of_ble_eq_true rfl, Nat.le_of_ble_eq_true rfl⟩) hS hFc hFc rfl (fun t H locs ht hB hk1 hS => ?_)
      obtain ⟨hP1, hD1⟩ := hB
      rw [ht] at hP1
      obtain ⟨hP, hD⟩ := zn (W2 := [_, _, _, _, _, _, _, _, _, _, _, _, _, _, _, _]) hP hD hk1 hFc hP1 hD1 [0, 7, 8, 9, 10, 11, 12, 13, 14, 15] [false, true, true, true, true, true, true] [false, true, true, true, true, true, true, false, false, false, false, false, false, false, false, false] [0, 7, 8, 9, 10, 11, 12, 13, 14, 15] (by decide +kernel) rfl rfl rfl rfl rfl
      clear hk1 hPc hDc hFc hP1 hD1 ht
      refine lv_if_ne (tgt := 39) hx hb dX4_isAsBefore_34 rfl (fun c_23 => ?_) (fun c_23 => ?_)
      · have c_23 : ∀ k, k < m2 → (inF 5 n X Y (U k).toInt (V k).toInt ↔ inF 5 nd P Q (U k).toInt (V k).toInt) := zp_1 c_23
        refine lv_aload_n hx hb dX4_isAsBefore_39 rfl (lv_at hl 2 rfl) ?_
        refine va_get (D := (dC, dI)) (ci := 6) (v := .int rh) (C := RX7) (T := TX7) (N := 4) hx hb hts inX7 hown hK hP 13 rfl rfl 3 (Nat.le_of_ble_eq_true rfl) (hts _ mw_184) (fun _ h9 => h9) rfl dX4_isAsBefore_40 ?_
        refine lv_if_eq (tgt := 64) hx hb dX4_isAsBefore_43 rfl (fun c_24 => ?_) (fun c_24 => ?_)
        · have c_24 : rh.toInt = 0 := zc_eq rfl rfl c_24
          refine lv_aload_n hx hb dX4_isAsBefore_64 rfl (lv_at hl 1 rfl) ?_
          refine va_get (D := (dC, dI)) (ci := 6) (v := .int (nI n)) (C := RX7) (T := TX7) (N := 4) hx hb hts inX7 hown hK hP 10 rfl rfl 2 (Nat.le_of_ble_eq_true rfl) (hts _ mw_176) (fun _ h9 => h9) rfl dX4_isAsBefore_65 ?_
          refine lv_iconst (v := 1) hx hb dX4_isAsBefore_68 rfl ?_
          have b9_26 : n < 2147483648 := by omega
          refine lv_icmp_ne (tgt := 79) hx hb dX4_isAsBefore_69 rfl (fun c_25 => ?_) (fun c_25 => ?_)
          · have c_25 : ¬ ((n : Nat) : Int) = 1 := zc_ne (nI_toInt b9_26) rfl c_25
            refine lv_iload_n hx hb dX4_isAsBefore_79 rfl (lv_at hl 3 rfl) ?_
            refine lv_bipush (v := (-2)) hx hb dX4_isAsBefore_80 rfl ?_
            refine lv_icmp_ne (tgt := 87) hx hb dX4_isAsBefore_82 rfl (fun c_27 => ?_) (fun c_27 => ?_)
            · refine lv_iload_n hx hb dX4_isAsBefore_87 rfl (lv_at hl 3 rfl) ?_
              refine lv_iconst (v := (-1)) hx hb dX4_isAsBefore_88 rfl ?_
              refine lv_icmp_ne (tgt := 109) hx hb dX4_isAsBefore_89 rfl (fun c_28 => ?_) (fun c_28 => ?_)
              · exact absurd (by decide) c_28
              · refine lv_aload_n hx hb dX4_isAsBefore_92 rfl (lv_at hl 0 rfl) ?_
                refine lv_aload_n hx hb dX4_isAsBefore_93 rfl (lv_at hl 1 rfl) ?_
                refine lv_aload_n hx hb dX4_isAsBefore_94 rfl (lv_at hl 2 rfl) ?_
                obtain ⟨hPc, hDc, hFc⟩ := zo_sub (wc := [_, _, _, _, _, _, _, _, _, _, _, _, _]) hP hD hS hA [0, 1, 2, 3, 7, 8, 9, 10, 11, 12, 13, 14, 15] (by decide +kernel) rfl
                refine zcall (st1 := [.int (pI (∃ i, i < edg n rg ∧ ∃ k, k < m2 ∧ swR n X Y P Q (U k).toInt (V k).toInt i))]) (va_runV (As := [.ref r, .ref u]) (rest := []) ⟨hx, hb, hml, hown, hts⟩ (k_Law_isSweptByMove l dC dI cI cZ cF H.size lw dr tg wy br bo aa tx ty nt TX TY rt dx dy nd cd P Q rd r rx ry n cap X Y rg u ux uy m2 cap2 U V rh (by first | with_reducible assumption | omega) (by first | with_reducible assumption | omega) (by first | with_reducible assumption | assumption) (by first | with_reducible assumption | omega) (by first | with_reducible assumption | omega) (by first | with_reducible assumption | assumption) (by first | with_reducible assumption | omega) (by first | with_reducible assumption | omega) (by first | with_reducible assumption | assumption) (by first | with_reducible assumption | omega)) (csV_59 hts rfl rfl ⟨Nat.le_of_ble_eq_true rfl, Nat.le_of_ble_eq_true rfl⟩) (zPV2 (q0 := 0) (ci := 3) hPc hDc hK hXN rfl rfl) rfl rfl hl.1 rfl (lv_room (Nat.le_of_ble_eq_true rfl)) dX4_isAsBefore_95 ⟨Nat.le_of_ble_eq_true rfl, Nat.le_of_ble_eq_true rfl⟩) hS hFc hFc rfl (fun t H locs ht hB hk1 hS => ?_)
                obtain ⟨q_29, q_30, q_31, q_32, hP1, hD1⟩ := hB
                rw [ht] at hP1
                obtain ⟨hP, hD⟩ := zn (W2 := [_, (oc6 tg (.ref tx) (.ref ty) (nI q_29) q_32), (oa tx cI 3 q_30), (oa ty cI 3 q_31), _, _, _, _, _, _, _, _, _, _, _, _]) hP hD hk1 hFc hP1 hD1 [0, 1, 2, 3, 7, 8, 9, 10, 11, 12, 13, 14, 15] [false, false, false, false, true, true, true] [false, false, false, false, true, true, true, false, false, false, false, false, false, false, false, false] [0, 1, 2, 3, 7, 8, 9, 10, 11, 12, 13, 14, 15] (by decide +kernel) rfl rfl rfl rfl rfl
                clear hk1 hPc hDc hFc hP1 hD1 ht
                refine lv_if_ne (tgt := 105) hx hb dX4_isAsBefore_98 rfl (fun c_33 => ?_) (fun c_33 => ?_)
                · have c_33 : ∃ i, i < edg n rg ∧ ∃ k, k < m2 ∧ swR n X Y P Q (U k).toInt (V k).toInt i := zp_1 c_33
                  refine lv_iconst (v := 0) hx hb dX4_isAsBefore_105 rfl ?_
                  refine lv_goto (tgt := 124) hx hb dX4_isAsBefore_106 rfl ?_
                  obtain ⟨hP9, hD9⟩ := zu_sub (wc := [_, _, _, _, _, _, _, _, _, _, _, _, _, _, _, _]) hP hD [true, true, true, true, true, true, true, true, true, true, true, true, true, true, true, true] rfl rfl
                  rw [hQ9]
                  exact W.zret (ty := .boolean) (v := 0) hx hb hr (rfl) (fun t ht hW => ⟨⟨congrArg (fun z => Outcome.returned (some (Value.int z))) (show (0 : Int32) = pI (asb n X Y rg nd P Q rd m2 U V rh ∧ (¬ (∃ i, i < edg n rg ∧ ∃ k, k < m2 ∧ swR n X Y P Q (U k).toInt (V k).toInt i))) from (zp_f (by first | exact ⟨⟨zp_ieq.mp (by first | with_reducible assumption | assumption), fun h9 => by first | with_reducible assumption | assumption | exact absurd (by first | with_reducible assumption | assumption) h9, fun h9 => by first | exact zp_ieq.mp (by first | with_reducible assumption | assumption) | exact absurd (by first | with_reducible assumption | assumption) h9⟩, by assumption⟩ | exact fun h => absurd (by first | with_reducible assumption | assumption) h.2)).symm), q_29, q_30, q_31, q_32, nw, WX, WY, rw, by rw [ht]; exact hP9, hD9⟩, hS.F ht⟩) hS.2.2 dX4_isAsBefore_124
                · have c_33 : ¬ (∃ i, i < edg n rg ∧ ∃ k, k < m2 ∧ swR n X Y P Q (U k).toInt (V k).toInt i) := zp_0 c_33
                  refine lv_iconst (v := 1) hx hb dX4_isAsBefore_101 rfl ?_
                  refine lv_goto (tgt := 124) hx hb dX4_isAsBefore_102 rfl ?_
                  obtain ⟨hP9, hD9⟩ := zu_sub (wc := [_, _, _, _, _, _, _, _, _, _, _, _, _, _, _, _]) hP hD [true, true, true, true, true, true, true, true, true, true, true, true, true, true, true, true] rfl rfl
                  rw [hQ9]
                  exact W.zret (ty := .boolean) (v := 1) hx hb hr (rfl) (fun t ht hW => ⟨⟨congrArg (fun z => Outcome.returned (some (Value.int z))) (show (1 : Int32) = pI (asb n X Y rg nd P Q rd m2 U V rh ∧ (¬ (∃ i, i < edg n rg ∧ ∃ k, k < m2 ∧ swR n X Y P Q (U k).toInt (V k).toInt i))) from (zp_t (by first | exact ⟨⟨zp_ieq.mp (by first | with_reducible assumption | assumption), fun h9 => by first | with_reducible assumption | assumption | exact absurd (by first | with_reducible assumption | assumption) h9, fun h9 => by first | exact zp_ieq.mp (by first | with_reducible assumption | assumption) | exact absurd (by first | with_reducible assumption | assumption) h9⟩, by assumption⟩ | exact fun h => absurd (by first | with_reducible assumption | assumption) h.2)).symm), q_29, q_30, q_31, q_32, nw, WX, WY, rw, by rw [ht]; exact hP9, hD9⟩, hS.F ht⟩) hS.2.2 dX4_isAsBefore_124
            · exact absurd c_27 (by decide)
          · have c_25 : ((n : Nat) : Int) = 1 := zc_eq (nI_toInt b9_26) rfl c_25
            exfalso; omega
        · have c_24 : ¬ rh.toInt = 0 := zc_ne rfl rfl c_24
          refine lv_aload_n hx hb dX4_isAsBefore_46 rfl (lv_at hl 2 rfl) ?_
          refine lv_aload_n hx hb dX4_isAsBefore_47 rfl (lv_at hl 1 rfl) ?_
          obtain ⟨hPc, hDc, hFc⟩ := zo_sub (wc := [_, _, _, _, _, _]) hP hD hS hA [13, 14, 15, 10, 11, 12] (by decide +kernel) rfl
          refine zcall (st1 := [.int (pI (inF 5 m2 U V (X 0).toInt (Y 0).toInt))]) (va_runS (As := [.ref u, .ref r]) (rest := []) ⟨hx, hb, hml, hown, hts⟩ (k_Law_isIn l dC dI cI cZ cF H.size u ux uy m2 cap2 U V rh r rx ry n cap X Y rg (by first | with_reducible assumption | omega) (by first | with_reducible assumption | omega) (hq) (by first | with_reducible assumption | omega) (by first | with_reducible assumption | omega) (hp) (by first | with_reducible assumption | omega)) (csS_61 hts rfl rfl ⟨Nat.le_of_ble_eq_true rfl, Nat.le_of_ble_eq_true rfl⟩) (zPS2 hPc hDc hK hXN) rfl rfl hl.1 rfl (lv_room (Nat.le_of_ble_eq_true rfl)) dX4_isAsBefore_48 ⟨Nat.le_of_ble_eq_true rfl, Nat.le_of_ble_eq_true rfl⟩) hS hFc hFc rfl (fun t H locs ht hB hk1 hS => ?_)
          obtain ⟨hP1, hD1⟩ := hB
          rw [ht] at hP1
          obtain ⟨hP, hD⟩ := zn (W2 := [_, _, _, _, _, _, _, _, _, _, _, _, _, _, _, _]) hP hD hk1 hFc hP1 hD1 [13, 14, 15, 10, 11, 12] [true, true, true, true, true, true, true, true, true, true] [true, true, true, true, true, true, true, true, true, true, false, false, false, false, false, false] [13, 14, 15, 10, 11, 12] (by decide +kernel) rfl rfl rfl rfl rfl
          clear hk1 hPc hDc hFc hP1 hD1 ht
          refine lv_aload_n hx hb dX4_isAsBefore_51 rfl (lv_at hl 2 rfl) ?_
          refine lv_aload_n hx hb dX4_isAsBefore_52 rfl (lv_at hl 0 rfl) ?_
          refine va_get (D := (dC, dI)) (ci := 3) (v := .ref dr) (C := RX4) (T := TX4) (N := 6) hx hb hts inX4 hown hK hP 0 rfl rfl 0 (Nat.le_of_ble_eq_true rfl) (hts _ mw_219) (fun _ h9 => h9) rfl dX4_isAsBefore_53 ?_
          obtain ⟨hPc, hDc, hFc⟩ := zo_sub (wc := [_, _, _, _, _, _]) hP hD hS hA [13, 14, 15, 7, 8, 9] (by decide +kernel) rfl
          refine zcall (st1 := [.int (pI (inF 5 m2 U V (P 0).toInt (Q 0).toInt)), .int (pI (inF 5 m2 U V (X 0).toInt (Y 0).toInt))]) (va_runS (As := [.ref u, .ref dr]) (rest := [.int (pI (inF 5 m2 U V (X 0).toInt (Y 0).toInt))]) ⟨hx, hb, hml, hown, hts⟩ (k_Law_isIn l dC dI cI cZ cF H.size u ux uy m2 cap2 U V rh dr dx dy nd cd P Q rd (by first | with_reducible assumption | omega) (by first | with_reducible assumption | omega) (hq) (by first | with_reducible assumption | omega) (by first | with_reducible assumption | omega) (hpd) (by first | with_reducible assumption | omega)) (csS_61 hts rfl rfl ⟨Nat.le_of_ble_eq_true rfl, Nat.le_of_ble_eq_true rfl⟩) (zPS2 hPc hDc hK hXN) rfl rfl hl.1 rfl (lv_room (Nat.le_of_ble_eq_true rfl)) dX4_isAsBefore_56 ⟨Nat.le_of_ble_eq_true rfl, Nat.le_of_ble_eq_true rfl⟩) hS hFc hFc rfl (fun t H locs ht hB hk1 hS => ?_)
          obtain ⟨hP1, hD1⟩ := hB
          rw [ht] at hP1
          obtain ⟨hP, hD⟩ := zn (W2 := [_, _, _, _, _, _, _, _, _, _, _, _, _, _, _, _]) hP hD hk1 hFc hP1 hD1 [13, 14, 15, 7, 8, 9] [true, true, true, true, true, true, true, false, false, false, true, true, true] [true, true, true, true, true, true, true, false, false, false, true, true, true, false, false, false] [13, 14, 15, 7, 8, 9] (by decide +kernel) rfl rfl rfl rfl rfl
          clear hk1 hPc hDc hFc hP1 hD1 ht
          refine lv_icmp_eq (tgt := 64) hx hb dX4_isAsBefore_59 rfl (fun c_34 => ?_) (fun c_34 => ?_)
          · have c_34 : (pI (inF 5 m2 U V (X 0).toInt (Y 0).toInt)).toInt = (pI (inF 5 m2 U V (P 0).toInt (Q 0).toInt)).toInt := zc_eq rfl rfl c_34
            refine lv_aload_n hx hb dX4_isAsBefore_64 rfl (lv_at hl 1 rfl) ?_
            refine va_get (D := (dC, dI)) (ci := 6) (v := .int (nI n)) (C := RX7) (T := TX7) (N := 4) hx hb hts inX7 hown hK hP 10 rfl rfl 2 (Nat.le_of_ble_eq_true rfl) (hts _ mw_176) (fun _ h9 => h9) rfl dX4_isAsBefore_65 ?_
            refine lv_iconst (v := 1) hx hb dX4_isAsBefore_68 rfl ?_
            have b9_36 : n < 2147483648 := by omega
            refine lv_icmp_ne (tgt := 79) hx hb dX4_isAsBefore_69 rfl (fun c_35 => ?_) (fun c_35 => ?_)
            · have c_35 : ¬ ((n : Nat) : Int) = 1 := zc_ne (nI_toInt b9_36) rfl c_35
              refine lv_iload_n hx hb dX4_isAsBefore_79 rfl (lv_at hl 3 rfl) ?_
              refine lv_bipush (v := (-2)) hx hb dX4_isAsBefore_80 rfl ?_
              refine lv_icmp_ne (tgt := 87) hx hb dX4_isAsBefore_82 rfl (fun c_37 => ?_) (fun c_37 => ?_)
              · refine lv_iload_n hx hb dX4_isAsBefore_87 rfl (lv_at hl 3 rfl) ?_
                refine lv_iconst (v := (-1)) hx hb dX4_isAsBefore_88 rfl ?_
                refine lv_icmp_ne (tgt := 109) hx hb dX4_isAsBefore_89 rfl (fun c_38 => ?_) (fun c_38 => ?_)
                · exact absurd (by decide) c_38
                · refine lv_aload_n hx hb dX4_isAsBefore_92 rfl (lv_at hl 0 rfl) ?_
                  refine lv_aload_n hx hb dX4_isAsBefore_93 rfl (lv_at hl 1 rfl) ?_
                  refine lv_aload_n hx hb dX4_isAsBefore_94 rfl (lv_at hl 2 rfl) ?_
                  obtain ⟨hPc, hDc, hFc⟩ := zo_sub (wc := [_, _, _, _, _, _, _, _, _, _, _, _, _]) hP hD hS hA [0, 1, 2, 3, 7, 8, 9, 10, 11, 12, 13, 14, 15] (by decide +kernel) rfl
                  refine zcall (st1 := [.int (pI (∃ i, i < edg n rg ∧ ∃ k, k < m2 ∧ swR n X Y P Q (U k).toInt (V k).toInt i))]) (va_runV (As := [.ref r, .ref u]) (rest := []) ⟨hx, hb, hml, hown, hts⟩ (k_Law_isSweptByMove l dC dI cI cZ cF H.size lw dr tg wy br bo aa tx ty nt TX TY rt dx dy nd cd P Q rd r rx ry n cap X Y rg u ux uy m2 cap2 U V rh (by first | with_reducible assumption | omega) (by first | with_reducible assumption | omega) (by first | with_reducible assumption | assumption) (by first | with_reducible assumption | omega) (by first | with_reducible assumption | omega) (by first | with_reducible assumption | assumption) (by first | with_reducible assumption | omega) (by first | with_reducible assumption | omega) (by first | with_reducible assumption | assumption) (by first | with_reducible assumption | omega)) (csV_59 hts rfl rfl ⟨Nat.le_of_ble_eq_true rfl, Nat.le_of_ble_eq_true rfl⟩) (zPV2 (q0 := 0) (ci := 3) hPc hDc hK hXN rfl rfl) rfl rfl hl.1 rfl (lv_room (Nat.le_of_ble_eq_true rfl)) dX4_isAsBefore_95 ⟨Nat.le_of_ble_eq_true rfl, Nat.le_of_ble_eq_true rfl⟩) hS hFc hFc rfl (fun t H locs ht hB hk1 hS => ?_)
                  obtain ⟨q_39, q_40, q_41, q_42, hP1, hD1⟩ := hB
                  rw [ht] at hP1
                  obtain ⟨hP, hD⟩ := zn (W2 := [_, (oc6 tg (.ref tx) (.ref ty) (nI q_39) q_42), (oa tx cI 3 q_40), (oa ty cI 3 q_41), _, _, _, _, _, _, _, _, _, _, _, _]) hP hD hk1 hFc hP1 hD1 [0, 1, 2, 3, 7, 8, 9, 10, 11, 12, 13, 14, 15] [false, false, false, false, true, true, true] [false, false, false, false, true, true, true, false, false, false, false, false, false, false, false, false] [0, 1, 2, 3, 7, 8, 9, 10, 11, 12, 13, 14, 15] (by decide +kernel) rfl rfl rfl rfl rfl
                  clear hk1 hPc hDc hFc hP1 hD1 ht
                  refine lv_if_ne (tgt := 105) hx hb dX4_isAsBefore_98 rfl (fun c_43 => ?_) (fun c_43 => ?_)
                  · have c_43 : ∃ i, i < edg n rg ∧ ∃ k, k < m2 ∧ swR n X Y P Q (U k).toInt (V k).toInt i := zp_1 c_43
                    refine lv_iconst (v := 0) hx hb dX4_isAsBefore_105 rfl ?_
                    refine lv_goto (tgt := 124) hx hb dX4_isAsBefore_106 rfl ?_
                    obtain ⟨hP9, hD9⟩ := zu_sub (wc := [_, _, _, _, _, _, _, _, _, _, _, _, _, _, _, _]) hP hD [true, true, true, true, true, true, true, true, true, true, true, true, true, true, true, true] rfl rfl
                    rw [hQ9]
                    exact W.zret (ty := .boolean) (v := 0) hx hb hr (rfl) (fun t ht hW => ⟨⟨congrArg (fun z => Outcome.returned (some (Value.int z))) (show (0 : Int32) = pI (asb n X Y rg nd P Q rd m2 U V rh ∧ (¬ (∃ i, i < edg n rg ∧ ∃ k, k < m2 ∧ swR n X Y P Q (U k).toInt (V k).toInt i))) from (zp_f (by first | exact ⟨⟨zp_ieq.mp (by first | with_reducible assumption | assumption), fun h9 => by first | with_reducible assumption | assumption | exact absurd (by first | with_reducible assumption | assumption) h9, fun h9 => by first | exact zp_ieq.mp (by first | with_reducible assumption | assumption) | exact absurd (by first | with_reducible assumption | assumption) h9⟩, by assumption⟩ | exact fun h => absurd (by first | with_reducible assumption | assumption) h.2)).symm), q_39, q_40, q_41, q_42, nw, WX, WY, rw, by rw [ht]; exact hP9, hD9⟩, hS.F ht⟩) hS.2.2 dX4_isAsBefore_124
                  · have c_43 : ¬ (∃ i, i < edg n rg ∧ ∃ k, k < m2 ∧ swR n X Y P Q (U k).toInt (V k).toInt i) := zp_0 c_43
                    refine lv_iconst (v := 1) hx hb dX4_isAsBefore_101 rfl ?_
                    refine lv_goto (tgt := 124) hx hb dX4_isAsBefore_102 rfl ?_
                    obtain ⟨hP9, hD9⟩ := zu_sub (wc := [_, _, _, _, _, _, _, _, _, _, _, _, _, _, _, _]) hP hD [true, true, true, true, true, true, true, true, true, true, true, true, true, true, true, true] rfl rfl
                    rw [hQ9]
                    exact W.zret (ty := .boolean) (v := 1) hx hb hr (rfl) (fun t ht hW => ⟨⟨congrArg (fun z => Outcome.returned (some (Value.int z))) (show (1 : Int32) = pI (asb n X Y rg nd P Q rd m2 U V rh ∧ (¬ (∃ i, i < edg n rg ∧ ∃ k, k < m2 ∧ swR n X Y P Q (U k).toInt (V k).toInt i))) from (zp_t (by first | exact ⟨⟨zp_ieq.mp (by first | with_reducible assumption | assumption), fun h9 => by first | with_reducible assumption | assumption | exact absurd (by first | with_reducible assumption | assumption) h9, fun h9 => by first | exact zp_ieq.mp (by first | with_reducible assumption | assumption) | exact absurd (by first | with_reducible assumption | assumption) h9⟩, by assumption⟩ | exact fun h => absurd (by first | with_reducible assumption | assumption) h.2)).symm), q_39, q_40, q_41, q_42, nw, WX, WY, rw, by rw [ht]; exact hP9, hD9⟩, hS.F ht⟩) hS.2.2 dX4_isAsBefore_124
              · exact absurd c_37 (by decide)
            · have c_35 : ((n : Nat) : Int) = 1 := zc_eq (nI_toInt b9_36) rfl c_35
              exfalso; omega
          · have c_34 : ¬ (pI (inF 5 m2 U V (X 0).toInt (Y 0).toInt)).toInt = (pI (inF 5 m2 U V (P 0).toInt (Q 0).toInt)).toInt := zc_ne rfl rfl c_34
            refine lv_iconst (v := 0) hx hb dX4_isAsBefore_62 rfl ?_
            obtain ⟨hP9, hD9⟩ := zu_sub (wc := [_, _, _, _, _, _, _, _, _, _, _, _, _, _, _, _]) hP hD [true, true, true, true, true, true, true, true, true, true, true, true, true, true, true, true] rfl rfl
            rw [hQ9]
            exact W.zret (ty := .boolean) (v := 0) hx hb hr (rfl) (fun t ht hW => ⟨⟨congrArg (fun z => Outcome.returned (some (Value.int z))) (show (0 : Int32) = pI (asb n X Y rg nd P Q rd m2 U V rh ∧ (¬ (∃ i, i < edg n rg ∧ ∃ k, k < m2 ∧ swR n X Y P Q (U k).toInt (V k).toInt i))) from (zp_f (fun h => absurd (zp_ieq.mpr (h.1.2.2 (by first | with_reducible assumption | assumption))) (by first | with_reducible assumption | assumption))).symm), nt, TX, TY, rt, nw, WX, WY, rw, by rw [ht]; exact hP9, hD9⟩, hS.F ht⟩) hS.2.2 dX4_isAsBefore_63
      · have c_23 : ¬ (∀ k, k < m2 → (inF 5 n X Y (U k).toInt (V k).toInt ↔ inF 5 nd P Q (U k).toInt (V k).toInt)) := zp_0 c_23
        refine lv_iconst (v := 0) hx hb dX4_isAsBefore_37 rfl ?_
        obtain ⟨hP9, hD9⟩ := zu_sub (wc := [_, _, _, _, _, _, _, _, _, _, _, _, _, _, _, _]) hP hD [true, true, true, true, true, true, true, true, true, true, true, true, true, true, true, true] rfl rfl
        rw [hQ9]
        exact W.zret (ty := .boolean) (v := 0) hx hb hr (rfl) (fun t ht hW => ⟨⟨congrArg (fun z => Outcome.returned (some (Value.int z))) (show (0 : Int32) = pI (asb n X Y rg nd P Q rd m2 U V rh ∧ (¬ (∃ i, i < edg n rg ∧ ∃ k, k < m2 ∧ swR n X Y P Q (U k).toInt (V k).toInt i))) from (zp_f (fun h => absurd (h.1.2.1 (by first | with_reducible assumption | assumption)) (by first | with_reducible assumption | assumption))).symm), nt, TX, TY, rt, nw, WX, WY, rw, by rw [ht]; exact hP9, hD9⟩, hS.F ht⟩) hS.2.2 dX4_isAsBefore_38
  · have c_1 : ¬ (pI (∃ i, i < prt n rg ∧ ∃ j, j < prt m2 rh ∧ eMt n X Y i m2 U V j)).toInt = (pI (∃ i, i < prt nd rd ∧ ∃ j, j < prt m2 rh ∧ eMt nd P Q i m2 U V j)).toInt := zc_ne rfl rfl c_1
    refine lv_iconst (v := 0) hx hb dX4_isAsBefore_16 rfl ?_
    obtain ⟨hP9, hD9⟩ := zu_sub (wc := [_, _, _, _, _, _, _, _, _, _, _, _, _, _, _, _]) hP hD [true, true, true, true, true, true, true, true, true, true, true, true, true, true, true, true] rfl rfl
    rw [hQ9]
    exact W.zret (ty := .boolean) (v := 0) hx hb hr (rfl) (fun t ht hW => ⟨⟨congrArg (fun z => Outcome.returned (some (Value.int z))) (show (0 : Int32) = pI (asb n X Y rg nd P Q rd m2 U V rh ∧ (¬ (∃ i, i < edg n rg ∧ ∃ k, k < m2 ∧ swR n X Y P Q (U k).toInt (V k).toInt i))) from (zp_f (fun h => absurd (zp_ieq.mpr h.1.1) (by first | with_reducible assumption | assumption))).symm), nt, TX, TY, rt, nw, WX, WY, rw, by rw [ht]; exact hP9, hD9⟩, hS.F ht⟩) hS.2.2 dX4_isAsBefore_17
set_option maxHeartbeats 4000000 in
set_option maxRecDepth 100000 in
theorem k_Law_isAsBefore_b (l : Launch) (dC : Nat → ClassId) (dI : Nat → Nat → Nat) (cI cZ cF : ClassId) (sz : Nat) (lw : Nat) (dr : Nat) (tg : Nat) (wy : Nat) (br : Nat) (bo : Nat) (aa : Nat) (tx : Nat) (ty : Nat) (nt : Nat) (TX : Nat → Int32) (TY : Nat → Int32) (rt : Int32) (wx : Nat) (wz : Nat) (nw : Nat) (WX : Nat → Int32) (WY : Nat → Int32) (rw : Int32) (dx : Nat) (dy : Nat) (nd : Nat) (cd : Nat) (P : Nat → Int32) (Q : Nat → Int32) (rd : Int32) (r : Nat) (rx : Nat) (ry : Nat) (n : Nat) (cap : Nat) (X : Nat → Int32) (Y : Nat → Int32) (rg : Int32) (u : Nat) (ux : Nat) (uy : Nat) (m2 : Nat) (cap2 : Nat) (U : Nat → Int32) (V : Nat → Int32) (rh : Int32) (hnd : nd ≤ cd) (hcd : cd ≤ 1000) (hpd : pls nd P Q) (hn : n ≤ cap) (hcap : cap ≤ 1000) (hp : pls n X Y) (hm : m2 ≤ cap2) (hcap2 : cap2 ≤ 1000) (hq : pls m2 U V) (h1m : 1 ≤ m2) (h1n : 1 ≤ n) (h1d : 1 ≤ nd) (hn1 : ¬ n = 1) : zM l yX4_isAsBefore cX4_isAsBefore 4 (some .boolean) ({ frames := 3, cells := 0, slots := 0, locals := 65 } : Room) [.ref lw, .ref r, .ref u, .int (-2)] (dC, dI) (zTy cI cZ cF) [(oc3 lw (.ref dr) (.ref tg) (.ref wy) (.ref br) (.ref bo) (.ref aa)), (oc6 tg (.ref tx) (.ref ty) (nI nt) rt), (oa tx cI 3 TX), (oa ty cI 3 TY), (oc6 wy (.ref wx) (.ref wz) (nI nw) rw), (oa wx cI 2 WX), (oa wz cI 2 WY), (oc6 dr (.ref dx) (.ref dy) (nI nd) rd), (oa dx cI cd P), (oa dy cI cd Q), (oc6 r (.ref rx) (.ref ry) (nI n) rg), (oa rx cI cap X), (oa ry cI cap Y), (oc6 u (.ref ux) (.ref uy) (nI m2) rh), (oa ux cI cap2 U), (oa uy cI cap2 V)] sz (some (.int (pI (asb n X Y rg nd P Q rd m2 U V rh)))) (fun A t => ∃ (nt1 : Nat), ∃ (TX1 : Nat → Int32), ∃ (TY1 : Nat → Int32), ∃ (rt1 : Int32), ∃ (nw1 : Nat), ∃ (WX1 : Nat → Int32), ∃ (WY1 : Nat → Int32), ∃ (rw1 : Int32), zPD (dC, dI) classes A [(oc3 lw (.ref dr) (.ref tg) (.ref wy) (.ref br) (.ref bo) (.ref aa)), (oc6 tg (.ref tx) (.ref ty) (nI nt1) rt1), (oa tx cI 3 TX1), (oa ty cI 3 TY1), (oc6 wy (.ref wx) (.ref wz) (nI nw1) rw1), (oa wx cI 2 WX1), (oa wz cI 2 WY1), (oc6 dr (.ref dx) (.ref dy) (nI nd) rd), (oa dx cI cd P), (oa dy cI cd Q), (oc6 r (.ref rx) (.ref ry) (nI n) rg), (oa rx cI cap X), (oa ry cI cap Y), (oc6 u (.ref ux) (.ref uy) (nI m2) rh), (oa ux cI cap2 U), (oa uy cI cap2 V)] t.heap) 0 0 := by
  refine zIn (own := "ScaleShop$Law") (loc := [(0, .ref lw), (1, .ref r), (2, .ref u), (3, .int (-2))]) rfl rfl rfl rfl (fun p e s m below meth c hx hb hr hts hown hlocks hml hnm9 A hA hS hP hD hK hXN Q9 hQ9 ls hl => ?_)
  refine lv_aload_n hx hb dX4_isAsBefore_0 rfl (lv_at hl 1 rfl) ?_
  refine lv_aload_n hx hb dX4_isAsBefore_1 rfl (lv_at hl 2 rfl) ?_
  obtain ⟨hPc, hDc, hFc⟩ := zo_sub (wc := [_, _, _, _, _, _]) hP hD hS hA [10, 11, 12, 13, 14, 15] (by decide +kernel) rfl
  refine zcall (st1 := [.int (pI (∃ i, i < prt n rg ∧ ∃ j, j < prt m2 rh ∧ eMt n X Y i m2 U V j))]) (va_runV (As := [.ref u]) (rest := []) ⟨hx, hb, hml, hown, hts⟩ (k_Row_touches l dC dI cI cZ cF s.heap.size r rx ry n cap X Y rg u ux uy m2 cap2 U V rh (by first | with_reducible assumption | omega) (by first | with_reducible assumption | omega) (hp) (by first | with_reducible assumption | omega) (by first | with_reducible assumption | omega) (hq)) (csV_56 hts rfl rfl ⟨Nat.le_of_ble_eq_true rfl, Nat.le_of_ble_eq_true rfl⟩) (zPV2 (q0 := 0) (ci := 6) hPc hDc hK hXN rfl rfl) rfl rfl hl.1 rfl (lv_room (Nat.le_of_ble_eq_true rfl)) dX4_isAsBefore_2 ⟨Nat.le_of_ble_eq_true rfl, Nat.le_of_ble_eq_true rfl⟩) hS hFc hFc rfl (fun t H locs ht hB hk1 hS => ?_)
  obtain ⟨hP1, hD1⟩ := hB
  rw [ht] at hP1
  obtain ⟨hP, hD⟩ := zn (W2 := [_, _, _, _, _, _, _, _, _, _, _, _, _, _, _, _]) hP hD hk1 hFc hP1 hD1 [10, 11, 12, 13, 14, 15] [true, true, true, true, true, true, true, true, true, true] [true, true, true, true, true, true, true, true, true, true, false, false, false, false, false, false] [10, 11, 12, 13, 14, 15] (by decide +kernel) rfl rfl rfl rfl rfl
  clear hk1 hPc hDc hFc hP1 hD1 ht
  refine lv_aload_n hx hb dX4_isAsBefore_5 rfl (lv_at hl 0 rfl) ?_
  refine va_get (D := (dC, dI)) (ci := 3) (v := .ref dr) (C := RX4) (T := TX4) (N := 6) hx hb hts inX4 hown hK hP 0 rfl rfl 0 (Nat.le_of_ble_eq_true rfl) (hts _ mw_219) (fun _ h9 => h9) rfl dX4_isAsBefore_6 ?_
  refine lv_aload_n hx hb dX4_isAsBefore_9 rfl (lv_at hl 2 rfl) ?_
  obtain ⟨hPc, hDc, hFc⟩ := zo_sub (wc := [_, _, _, _, _, _]) hP hD hS hA [7, 8, 9, 13, 14, 15] (by decide +kernel) rfl
  refine zcall (st1 := [.int (pI (∃ i, i < prt nd rd ∧ ∃ j, j < prt m2 rh ∧ eMt nd P Q i m2 U V j)), .int (pI (∃ i, i < prt n rg ∧ ∃ j, j < prt m2 rh ∧ eMt n X Y i m2 U V j))]) (va_runV (As := [.ref u]) (rest := [.int (pI (∃ i, i < prt n rg ∧ ∃ j, j < prt m2 rh ∧ eMt n X Y i m2 U V j))]) ⟨hx, hb, hml, hown, hts⟩ (k_Row_touches l dC dI cI cZ cF H.size dr dx dy nd cd P Q rd u ux uy m2 cap2 U V rh (by first | with_reducible assumption | omega) (by first | with_reducible assumption | omega) (hpd) (by first | with_reducible assumption | omega) (by first | with_reducible assumption | omega) (hq)) (csV_56 hts rfl rfl ⟨Nat.le_of_ble_eq_true rfl, Nat.le_of_ble_eq_true rfl⟩) (zPV2 (q0 := 0) (ci := 6) hPc hDc hK hXN rfl rfl) rfl rfl hl.1 rfl (lv_room (Nat.le_of_ble_eq_true rfl)) dX4_isAsBefore_10 ⟨Nat.le_of_ble_eq_true rfl, Nat.le_of_ble_eq_true rfl⟩) hS hFc hFc rfl (fun t H locs ht hB hk1 hS => ?_)
  obtain ⟨hP1, hD1⟩ := hB
  rw [ht] at hP1
  obtain ⟨hP, hD⟩ := zn (W2 := [_, _, _, _, _, _, _, _, _, _, _, _, _, _, _, _]) hP hD hk1 hFc hP1 hD1 [7, 8, 9, 13, 14, 15] [true, true, true, true, true, true, true, false, false, false, true, true, true] [true, true, true, true, true, true, true, false, false, false, true, true, true, false, false, false] [7, 8, 9, 13, 14, 15] (by decide +kernel) rfl rfl rfl rfl rfl
  clear hk1 hPc hDc hFc hP1 hD1 ht
  refine lv_icmp_eq (tgt := 18) hx hb dX4_isAsBefore_13 rfl (fun c_1 => ?_) (fun c_1 => ?_)
  · have c_1 : (pI (∃ i, i < prt n rg ∧ ∃ j, j < prt m2 rh ∧ eMt n X Y i m2 U V j)).toInt = (pI (∃ i, i < prt nd rd ∧ ∃ j, j < prt m2 rh ∧ eMt nd P Q i m2 U V j)).toInt := zc_eq rfl rfl c_1
    refine lv_aload_n hx hb dX4_isAsBefore_18 rfl (lv_at hl 0 rfl) ?_
    refine va_get (D := (dC, dI)) (ci := 3) (v := .ref dr) (C := RX4) (T := TX4) (N := 6) hx hb hts inX4 hown hK hP 0 rfl rfl 0 (Nat.le_of_ble_eq_true rfl) (hts _ mw_219) (fun _ h9 => h9) rfl dX4_isAsBefore_19 ?_
    refine va_get (D := (dC, dI)) (ci := 6) (v := .int rd) (C := RX7) (T := TX7) (N := 4) hx hb hts inX7 hown hK hP 7 rfl rfl 3 (Nat.le_of_ble_eq_true rfl) (hts _ mw_184) (fun _ h9 => h9) rfl dX4_isAsBefore_22 ?_
    refine lv_if_eq (tgt := 39) hx hb dX4_isAsBefore_25 rfl (fun c_2 => ?_) (fun c_2 => ?_)
    · have c_2 : rd.toInt = 0 := zc_eq rfl rfl c_2
      refine lv_aload_n hx hb dX4_isAsBefore_39 rfl (lv_at hl 2 rfl) ?_
      refine va_get (D := (dC, dI)) (ci := 6) (v := .int rh) (C := RX7) (T := TX7) (N := 4) hx hb hts inX7 hown hK hP 13 rfl rfl 3 (Nat.le_of_ble_eq_true rfl) (hts _ mw_184) (fun _ h9 => h9) rfl dX4_isAsBefore_40 ?_
      refine lv_if_eq (tgt := 64) hx hb dX4_isAsBefore_43 rfl (fun c_3 => ?_) (fun c_3 => ?_)
      · have c_3 : rh.toInt = 0 := zc_eq rfl rfl c_3
        refine lv_aload_n hx hb dX4_isAsBefore_64 rfl (lv_at hl 1 rfl) ?_
        refine va_get (D := (dC, dI)) (ci := 6) (v := .int (nI n)) (C := RX7) (T := TX7) (N := 4) hx hb hts inX7 hown hK hP 10 rfl rfl 2 (Nat.le_of_ble_eq_true rfl) (hts _ mw_176) (fun _ h9 => h9) rfl dX4_isAsBefore_65 ?_
        refine lv_iconst (v := 1) hx hb dX4_isAsBefore_68 rfl ?_
        have b9_5 : n < 2147483648 := by omega
        refine lv_icmp_ne (tgt := 79) hx hb dX4_isAsBefore_69 rfl (fun c_4 => ?_) (fun c_4 => ?_)
        · have c_4 : ¬ ((n : Nat) : Int) = 1 := zc_ne (nI_toInt b9_5) rfl c_4
          refine lv_iload_n hx hb dX4_isAsBefore_79 rfl (lv_at hl 3 rfl) ?_
          refine lv_bipush (v := (-2)) hx hb dX4_isAsBefore_80 rfl ?_
          refine lv_icmp_ne (tgt := 87) hx hb dX4_isAsBefore_82 rfl (fun c_6 => ?_) (fun c_6 => ?_)
          · exact absurd (by decide) c_6
          · refine lv_iconst (v := 1) hx hb dX4_isAsBefore_85 rfl ?_
            obtain ⟨hP9, hD9⟩ := zu_sub (wc := [_, _, _, _, _, _, _, _, _, _, _, _, _, _, _, _]) hP hD [true, true, true, true, true, true, true, true, true, true, true, true, true, true, true, true] rfl rfl
            rw [hQ9]
            exact W.zret (ty := .boolean) (v := 1) hx hb hr (rfl) (fun t ht hW => ⟨⟨congrArg (fun z => Outcome.returned (some (Value.int z))) (show (1 : Int32) = pI (asb n X Y rg nd P Q rd m2 U V rh) from (zp_t (⟨zp_ieq.mp (by first | with_reducible assumption | assumption), fun h9 => by first | with_reducible assumption | assumption | exact absurd (by first | with_reducible assumption | assumption) h9, fun h9 => by first | exact zp_ieq.mp (by first | with_reducible assumption | assumption) | exact absurd (by first | with_reducible assumption | assumption) h9⟩)).symm), nt, TX, TY, rt, nw, WX, WY, rw, by rw [ht]; exact hP9, hD9⟩, hS.F ht⟩) hS.2.2 dX4_isAsBefore_86
        · have c_4 : ((n : Nat) : Int) = 1 := zc_eq (nI_toInt b9_5) rfl c_4
          exfalso; omega
      · have c_3 : ¬ rh.toInt = 0 := zc_ne rfl rfl c_3
        refine lv_aload_n hx hb dX4_isAsBefore_46 rfl (lv_at hl 2 rfl) ?_
        refine lv_aload_n hx hb dX4_isAsBefore_47 rfl (lv_at hl 1 rfl) ?_
        obtain ⟨hPc, hDc, hFc⟩ := zo_sub (wc := [_, _, _, _, _, _]) hP hD hS hA [13, 14, 15, 10, 11, 12] (by decide +kernel) rfl
        refine zcall (st1 := [.int (pI (inF 5 m2 U V (X 0).toInt (Y 0).toInt))]) (va_runS (As := [.ref u, .ref r]) (rest := []) ⟨hx, hb, hml, hown, hts⟩ (k_Law_isIn l dC dI cI cZ cF H.size u ux uy m2 cap2 U V rh r rx ry n cap X Y rg (by first | with_reducible assumption | omega) (by first | with_reducible assumption | omega) (hq) (by first | with_reducible assumption | omega) (by first | with_reducible assumption | omega) (hp) (by first | with_reducible assumption | omega)) (csS_61 hts rfl rfl ⟨Nat.le_of_ble_eq_true rfl, Nat.le_of_ble_eq_true rfl⟩) (zPS2 hPc hDc hK hXN) rfl rfl hl.1 rfl (lv_room (Nat.le_of_ble_eq_true rfl)) dX4_isAsBefore_48 ⟨Nat.le_of_ble_eq_true rfl, Nat.le_of_ble_eq_true rfl⟩) hS hFc hFc rfl (fun t H locs ht hB hk1 hS => ?_)
        obtain ⟨hP1, hD1⟩ := hB
        rw [ht] at hP1
        obtain ⟨hP, hD⟩ := zn (W2 := [_, _, _, _, _, _, _, _, _, _, _, _, _, _, _, _]) hP hD hk1 hFc hP1 hD1 [13, 14, 15, 10, 11, 12] [true, true, true, true, true, true, true, true, true, true] [true, true, true, true, true, true, true, true, true, true, false, false, false, false, false, false] [13, 14, 15, 10, 11, 12] (by decide +kernel) rfl rfl rfl rfl rfl
        clear hk1 hPc hDc hFc hP1 hD1 ht
        refine lv_aload_n hx hb dX4_isAsBefore_51 rfl (lv_at hl 2 rfl) ?_
        refine lv_aload_n hx hb dX4_isAsBefore_52 rfl (lv_at hl 0 rfl) ?_
        refine va_get (D := (dC, dI)) (ci := 3) (v := .ref dr) (C := RX4) (T := TX4) (N := 6) hx hb hts inX4 hown hK hP 0 rfl rfl 0 (Nat.le_of_ble_eq_true rfl) (hts _ mw_219) (fun _ h9 => h9) rfl dX4_isAsBefore_53 ?_
        obtain ⟨hPc, hDc, hFc⟩ := zo_sub (wc := [_, _, _, _, _, _]) hP hD hS hA [13, 14, 15, 7, 8, 9] (by decide +kernel) rfl
        refine zcall (st1 := [.int (pI (inF 5 m2 U V (P 0).toInt (Q 0).toInt)), .int (pI (inF 5 m2 U V (X 0).toInt (Y 0).toInt))]) (va_runS (As := [.ref u, .ref dr]) (rest := [.int (pI (inF 5 m2 U V (X 0).toInt (Y 0).toInt))]) ⟨hx, hb, hml, hown, hts⟩ (k_Law_isIn l dC dI cI cZ cF H.size u ux uy m2 cap2 U V rh dr dx dy nd cd P Q rd (by first | with_reducible assumption | omega) (by first | with_reducible assumption | omega) (hq) (by first | with_reducible assumption | omega) (by first | with_reducible assumption | omega) (hpd) (by first | with_reducible assumption | omega)) (csS_61 hts rfl rfl ⟨Nat.le_of_ble_eq_true rfl, Nat.le_of_ble_eq_true rfl⟩) (zPS2 hPc hDc hK hXN) rfl rfl hl.1 rfl (lv_room (Nat.le_of_ble_eq_true rfl)) dX4_isAsBefore_56 ⟨Nat.le_of_ble_eq_true rfl, Nat.le_of_ble_eq_true rfl⟩) hS hFc hFc rfl (fun t H locs ht hB hk1 hS => ?_)
        obtain ⟨hP1, hD1⟩ := hB
        rw [ht] at hP1
        obtain ⟨hP, hD⟩ := zn (W2 := [_, _, _, _, _, _, _, _, _, _, _, _, _, _, _, _]) hP hD hk1 hFc hP1 hD1 [13, 14, 15, 7, 8, 9] [true, true, true, true, true, true, true, false, false, false, true, true, true] [true, true, true, true, true, true, true, false, false, false, true, true, true, false, false, false] [13, 14, 15, 7, 8, 9] (by decide +kernel) rfl rfl rfl rfl rfl
        clear hk1 hPc hDc hFc hP1 hD1 ht
        refine lv_icmp_eq (tgt := 64) hx hb dX4_isAsBefore_59 rfl (fun c_7 => ?_) (fun c_7 => ?_)
        · have c_7 : (pI (inF 5 m2 U V (X 0).toInt (Y 0).toInt)).toInt = (pI (inF 5 m2 U V (P 0).toInt (Q 0).toInt)).toInt := zc_eq rfl rfl c_7
          refine lv_aload_n hx hb dX4_isAsBefore_64 rfl (lv_at hl 1 rfl) ?_
          refine va_get (D := (dC, dI)) (ci := 6) (v := .int (nI n)) (C := RX7) (T := TX7) (N := 4) hx hb hts inX7 hown hK hP 10 rfl rfl 2 (Nat.le_of_ble_eq_true rfl) (hts _ mw_176) (fun _ h9 => h9) rfl dX4_isAsBefore_65 ?_
          refine lv_iconst (v := 1) hx hb dX4_isAsBefore_68 rfl ?_
          have b9_9 : n < 2147483648 := by omega
          refine lv_icmp_ne (tgt := 79) hx hb dX4_isAsBefore_69 rfl (fun c_8 => ?_) (fun c_8 => ?_)
          · have c_8 : ¬ ((n : Nat) : Int) = 1 := zc_ne (nI_toInt b9_9) rfl c_8
            refine lv_iload_n hx hb dX4_isAsBefore_79 rfl (lv_at hl 3 rfl) ?_
            refine lv_bipush (v := (-2)) hx hb dX4_isAsBefore_80 rfl ?_
            refine lv_icmp_ne (tgt := 87) hx hb dX4_isAsBefore_82 rfl (fun c_10 => ?_) (fun c_10 => ?_)
            · exact absurd (by decide) c_10
            · refine lv_iconst (v := 1) hx hb dX4_isAsBefore_85 rfl ?_
              obtain ⟨hP9, hD9⟩ := zu_sub (wc := [_, _, _, _, _, _, _, _, _, _, _, _, _, _, _, _]) hP hD [true, true, true, true, true, true, true, true, true, true, true, true, true, true, true, true] rfl rfl
              rw [hQ9]
              exact W.zret (ty := .boolean) (v := 1) hx hb hr (rfl) (fun t ht hW => ⟨⟨congrArg (fun z => Outcome.returned (some (Value.int z))) (show (1 : Int32) = pI (asb n X Y rg nd P Q rd m2 U V rh) from (zp_t (⟨zp_ieq.mp (by first | with_reducible assumption | assumption), fun h9 => by first | with_reducible assumption | assumption | exact absurd (by first | with_reducible assumption | assumption) h9, fun h9 => by first | exact zp_ieq.mp (by first | with_reducible assumption | assumption) | exact absurd (by first | with_reducible assumption | assumption) h9⟩)).symm), nt, TX, TY, rt, nw, WX, WY, rw, by rw [ht]; exact hP9, hD9⟩, hS.F ht⟩) hS.2.2 dX4_isAsBefore_86
          · have c_8 : ((n : Nat) : Int) = 1 := zc_eq (nI_toInt b9_9) rfl c_8
            exfalso; omega
        · have c_7 : ¬ (pI (inF 5 m2 U V (X 0).toInt (Y 0).toInt)).toInt = (pI (inF 5 m2 U V (P 0).toInt (Q 0).toInt)).toInt := zc_ne rfl rfl c_7
          refine lv_iconst (v := 0) hx hb dX4_isAsBefore_62 rfl ?_
          obtain ⟨hP9, hD9⟩ := zu_sub (wc := [_, _, _, _, _, _, _, _, _, _, _, _, _, _, _, _]) hP hD [true, true, true, true, true, true, true, true, true, true, true, true, true, true, true, true] rfl rfl
          rw [hQ9]
          exact W.zret (ty := .boolean) (v := 0) hx hb hr (rfl) (fun t ht hW => ⟨⟨congrArg (fun z => Outcome.returned (some (Value.int z))) (show (0 : Int32) = pI (asb n X Y rg nd P Q rd m2 U V rh) from (zp_f (fun h => absurd (zp_ieq.mpr (h.2.2 (by first | with_reducible assumption | assumption))) (by first | with_reducible assumption | assumption))).symm), nt, TX, TY, rt, nw, WX, WY, rw, by rw [ht]; exact hP9, hD9⟩, hS.F ht⟩) hS.2.2 dX4_isAsBefore_63
    · have c_2 : ¬ rd.toInt = 0 := zc_ne rfl rfl c_2
      refine lv_aload_n hx hb dX4_isAsBefore_28 rfl (lv_at hl 0 rfl) ?_
      refine lv_aload_n hx hb dX4_isAsBefore_29 rfl (lv_at hl 1 rfl) ?_
      refine lv_aload_n hx hb dX4_isAsBefore_30 rfl (lv_at hl 2 rfl) ?_
      obtain ⟨hPc, hDc, hFc⟩ := zo_sub (wc := [_, _, _, _, _, _, _, _, _, _]) hP hD hS hA [0, 7, 8, 9, 10, 11, 12, 13, 14, 15] (by decide +kernel) rfl
      refine zcall (st1 := [.int (pI (∀ k, k < m2 → (inF 5 n X Y (U k).toInt (V k).toInt ↔ inF 5 nd P Q (U k).toInt (V k).toInt)))]) (va_runV (As := [.ref r, .ref u]) (rest := []) ⟨hx, hb, hml, hown, hts⟩ (k_Law_holdsAsBefore l dC dI cI cZ cF H.size lw dr tg wy br bo aa dx dy nd cd P Q rd r rx ry n cap X Y rg u ux uy m2 cap2 U V rh (by first | with_reducible assumption | omega) (by first | with_reducible assumption | omega) (by first | with_reducible assumption | assumption) (by first | with_reducible assumption | omega) (by first | with_reducible assumption | omega) (by first | with_reducible assumption | assumption) (by first | with_reducible assumption | omega) (by first | with_reducible assumption | omega) (by first | with_reducible assumption | assumption)) (csV_58 hts rfl rfl ⟨Nat.le_of_ble_eq_true rfl, Nat.le_of_ble_eq_true rfl⟩) (zPV2 (q0 := 0) (ci := 3) hPc hDc hK hXN rfl rfl) rfl rfl hl.1 rfl (lv_room (Nat.le_of_ble_eq_true rfl)) dX4_isAsBefore_31 ⟨Nat.le_of_ble_eq_true rfl, Nat.le_of_ble_eq_true rfl⟩) hS hFc hFc rfl (fun t H locs ht hB hk1 hS => ?_)
      obtain ⟨hP1, hD1⟩ := hB
      rw [ht] at hP1
      obtain ⟨hP, hD⟩ := zn (W2 := [_, _, _, _, _, _, _, _, _, _, _, _, _, _, _, _]) hP hD hk1 hFc hP1 hD1 [0, 7, 8, 9, 10, 11, 12, 13, 14, 15] [false, true, true, true, true, true, true] [false, true, true, true, true, true, true, false, false, false, false, false, false, false, false, false] [0, 7, 8, 9, 10, 11, 12, 13, 14, 15] (by decide +kernel) rfl rfl rfl rfl rfl
      clear hk1 hPc hDc hFc hP1 hD1 ht
      refine lv_if_ne (tgt := 39) hx hb dX4_isAsBefore_34 rfl (fun c_11 => ?_) (fun c_11 => ?_)
      · have c_11 : ∀ k, k < m2 → (inF 5 n X Y (U k).toInt (V k).toInt ↔ inF 5 nd P Q (U k).toInt (V k).toInt) := zp_1 c_11
        refine lv_aload_n hx hb dX4_isAsBefore_39 rfl (lv_at hl 2 rfl) ?_
        refine va_get (D := (dC, dI)) (ci := 6) (v := .int rh) (C := RX7) (T := TX7) (N := 4) hx hb hts inX7 hown hK hP 13 rfl rfl 3 (Nat.le_of_ble_eq_true rfl) (hts _ mw_184) (fun _ h9 => h9) rfl dX4_isAsBefore_40 ?_
        refine lv_if_eq (tgt := 64) hx hb dX4_isAsBefore_43 rfl (fun c_12 => ?_) (fun c_12 => ?_)
        · have c_12 : rh.toInt = 0 := zc_eq rfl rfl c_12
          refine lv_aload_n hx hb dX4_isAsBefore_64 rfl (lv_at hl 1 rfl) ?_
          refine va_get (D := (dC, dI)) (ci := 6) (v := .int (nI n)) (C := RX7) (T := TX7) (N := 4) hx hb hts inX7 hown hK hP 10 rfl rfl 2 (Nat.le_of_ble_eq_true rfl) (hts _ mw_176) (fun _ h9 => h9) rfl dX4_isAsBefore_65 ?_
          refine lv_iconst (v := 1) hx hb dX4_isAsBefore_68 rfl ?_
          have b9_14 : n < 2147483648 := by omega
          refine lv_icmp_ne (tgt := 79) hx hb dX4_isAsBefore_69 rfl (fun c_13 => ?_) (fun c_13 => ?_)
          · have c_13 : ¬ ((n : Nat) : Int) = 1 := zc_ne (nI_toInt b9_14) rfl c_13
            refine lv_iload_n hx hb dX4_isAsBefore_79 rfl (lv_at hl 3 rfl) ?_
            refine lv_bipush (v := (-2)) hx hb dX4_isAsBefore_80 rfl ?_
            refine lv_icmp_ne (tgt := 87) hx hb dX4_isAsBefore_82 rfl (fun c_15 => ?_) (fun c_15 => ?_)
            · exact absurd (by decide) c_15
            · refine lv_iconst (v := 1) hx hb dX4_isAsBefore_85 rfl ?_
              obtain ⟨hP9, hD9⟩ := zu_sub (wc := [_, _, _, _, _, _, _, _, _, _, _, _, _, _, _, _]) hP hD [true, true, true, true, true, true, true, true, true, true, true, true, true, true, true, true] rfl rfl
              rw [hQ9]
              exact W.zret (ty := .boolean) (v := 1) hx hb hr (rfl) (fun t ht hW => ⟨⟨congrArg (fun z => Outcome.returned (some (Value.int z))) (show (1 : Int32) = pI (asb n X Y rg nd P Q rd m2 U V rh) from (zp_t (⟨zp_ieq.mp (by first | with_reducible assumption | assumption), fun h9 => by first | with_reducible assumption | assumption | exact absurd (by first | with_reducible assumption | assumption) h9, fun h9 => by first | exact zp_ieq.mp (by first | with_reducible assumption | assumption) | exact absurd (by first | with_reducible assumption | assumption) h9⟩)).symm), nt, TX, TY, rt, nw, WX, WY, rw, by rw [ht]; exact hP9, hD9⟩, hS.F ht⟩) hS.2.2 dX4_isAsBefore_86
          · have c_13 : ((n : Nat) : Int) = 1 := zc_eq (nI_toInt b9_14) rfl c_13
            exfalso; omega
        · have c_12 : ¬ rh.toInt = 0 := zc_ne rfl rfl c_12
          refine lv_aload_n hx hb dX4_isAsBefore_46 rfl (lv_at hl 2 rfl) ?_
          refine lv_aload_n hx hb dX4_isAsBefore_47 rfl (lv_at hl 1 rfl) ?_
          obtain ⟨hPc, hDc, hFc⟩ := zo_sub (wc := [_, _, _, _, _, _]) hP hD hS hA [13, 14, 15, 10, 11, 12] (by decide +kernel) rfl
          refine zcall (st1 := [.int (pI (inF 5 m2 U V (X 0).toInt (Y 0).toInt))]) (va_runS (As := [.ref u, .ref r]) (rest := []) ⟨hx, hb, hml, hown, hts⟩ (k_Law_isIn l dC dI cI cZ cF H.size u ux uy m2 cap2 U V rh r rx ry n cap X Y rg (by first | with_reducible assumption | omega) (by first | with_reducible assumption | omega) (hq) (by first | with_reducible assumption | omega) (by first | with_reducible assumption | omega) (hp) (by first | with_reducible assumption | omega)) (csS_61 hts rfl rfl ⟨Nat.le_of_ble_eq_true rfl, Nat.le_of_ble_eq_true rfl⟩) (zPS2 hPc hDc hK hXN) rfl rfl hl.1 rfl (lv_room (Nat.le_of_ble_eq_true rfl)) dX4_isAsBefore_48 ⟨Nat.le_of_ble_eq_true rfl, Nat.le_of_ble_eq_true rfl⟩) hS hFc hFc rfl (fun t H locs ht hB hk1 hS => ?_)
          obtain ⟨hP1, hD1⟩ := hB
          rw [ht] at hP1
          obtain ⟨hP, hD⟩ := zn (W2 := [_, _, _, _, _, _, _, _, _, _, _, _, _, _, _, _]) hP hD hk1 hFc hP1 hD1 [13, 14, 15, 10, 11, 12] [true, true, true, true, true, true, true, true, true, true] [true, true, true, true, true, true, true, true, true, true, false, false, false, false, false, false] [13, 14, 15, 10, 11, 12] (by decide +kernel) rfl rfl rfl rfl rfl
          clear hk1 hPc hDc hFc hP1 hD1 ht
          refine lv_aload_n hx hb dX4_isAsBefore_51 rfl (lv_at hl 2 rfl) ?_
          refine lv_aload_n hx hb dX4_isAsBefore_52 rfl (lv_at hl 0 rfl) ?_
          refine va_get (D := (dC, dI)) (ci := 3) (v := .ref dr) (C := RX4) (T := TX4) (N := 6) hx hb hts inX4 hown hK hP 0 rfl rfl 0 (Nat.le_of_ble_eq_true rfl) (hts _ mw_219) (fun _ h9 => h9) rfl dX4_isAsBefore_53 ?_
          obtain ⟨hPc, hDc, hFc⟩ := zo_sub (wc := [_, _, _, _, _, _]) hP hD hS hA [13, 14, 15, 7, 8, 9] (by decide +kernel) rfl
          refine zcall (st1 := [.int (pI (inF 5 m2 U V (P 0).toInt (Q 0).toInt)), .int (pI (inF 5 m2 U V (X 0).toInt (Y 0).toInt))]) (va_runS (As := [.ref u, .ref dr]) (rest := [.int (pI (inF 5 m2 U V (X 0).toInt (Y 0).toInt))]) ⟨hx, hb, hml, hown, hts⟩ (k_Law_isIn l dC dI cI cZ cF H.size u ux uy m2 cap2 U V rh dr dx dy nd cd P Q rd (by first | with_reducible assumption | omega) (by first | with_reducible assumption | omega) (hq) (by first | with_reducible assumption | omega) (by first | with_reducible assumption | omega) (hpd) (by first | with_reducible assumption | omega)) (csS_61 hts rfl rfl ⟨Nat.le_of_ble_eq_true rfl, Nat.le_of_ble_eq_true rfl⟩) (zPS2 hPc hDc hK hXN) rfl rfl hl.1 rfl (lv_room (Nat.le_of_ble_eq_true rfl)) dX4_isAsBefore_56 ⟨Nat.le_of_ble_eq_true rfl, Nat.le_of_ble_eq_true rfl⟩) hS hFc hFc rfl (fun t H locs ht hB hk1 hS => ?_)
          obtain ⟨hP1, hD1⟩ := hB
          rw [ht] at hP1
          obtain ⟨hP, hD⟩ := zn (W2 := [_, _, _, _, _, _, _, _, _, _, _, _, _, _, _, _]) hP hD hk1 hFc hP1 hD1 [13, 14, 15, 7, 8, 9] [true, true, true, true, true, true, true, false, false, false, true, true, true] [true, true, true, true, true, true, true, false, false, false, true, true, true, false, false, false] [13, 14, 15, 7, 8, 9] (by decide +kernel) rfl rfl rfl rfl rfl
          clear hk1 hPc hDc hFc hP1 hD1 ht
          refine lv_icmp_eq (tgt := 64) hx hb dX4_isAsBefore_59 rfl (fun c_16 => ?_) (fun c_16 => ?_)
          · have c_16 : (pI (inF 5 m2 U V (X 0).toInt (Y 0).toInt)).toInt = (pI (inF 5 m2 U V (P 0).toInt (Q 0).toInt)).toInt := zc_eq rfl rfl c_16
            refine lv_aload_n hx hb dX4_isAsBefore_64 rfl (lv_at hl 1 rfl) ?_
            refine va_get (D := (dC, dI)) (ci := 6) (v := .int (nI n)) (C := RX7) (T := TX7) (N := 4) hx hb hts inX7 hown hK hP 10 rfl rfl 2 (Nat.le_of_ble_eq_true rfl) (hts _ mw_176) (fun _ h9 => h9) rfl dX4_isAsBefore_65 ?_
            refine lv_iconst (v := 1) hx hb dX4_isAsBefore_68 rfl ?_
            have b9_18 : n < 2147483648 := by omega
            refine lv_icmp_ne (tgt := 79) hx hb dX4_isAsBefore_69 rfl (fun c_17 => ?_) (fun c_17 => ?_)
            · have c_17 : ¬ ((n : Nat) : Int) = 1 := zc_ne (nI_toInt b9_18) rfl c_17
              refine lv_iload_n hx hb dX4_isAsBefore_79 rfl (lv_at hl 3 rfl) ?_
              refine lv_bipush (v := (-2)) hx hb dX4_isAsBefore_80 rfl ?_
              refine lv_icmp_ne (tgt := 87) hx hb dX4_isAsBefore_82 rfl (fun c_19 => ?_) (fun c_19 => ?_)
              · exact absurd (by decide) c_19
              · refine lv_iconst (v := 1) hx hb dX4_isAsBefore_85 rfl ?_
                obtain ⟨hP9, hD9⟩ := zu_sub (wc := [_, _, _, _, _, _, _, _, _, _, _, _, _, _, _, _]) hP hD [true, true, true, true, true, true, true, true, true, true, true, true, true, true, true, true] rfl rfl
                rw [hQ9]
                exact W.zret (ty := .boolean) (v := 1) hx hb hr (rfl) (fun t ht hW => ⟨⟨congrArg (fun z => Outcome.returned (some (Value.int z))) (show (1 : Int32) = pI (asb n X Y rg nd P Q rd m2 U V rh) from (zp_t (⟨zp_ieq.mp (by first | with_reducible assumption | assumption), fun h9 => by first | with_reducible assumption | assumption | exact absurd (by first | with_reducible assumption | assumption) h9, fun h9 => by first | exact zp_ieq.mp (by first | with_reducible assumption | assumption) | exact absurd (by first | with_reducible assumption | assumption) h9⟩)).symm), nt, TX, TY, rt, nw, WX, WY, rw, by rw [ht]; exact hP9, hD9⟩, hS.F ht⟩) hS.2.2 dX4_isAsBefore_86
            · have c_17 : ((n : Nat) : Int) = 1 := zc_eq (nI_toInt b9_18) rfl c_17
              exfalso; omega
          · have c_16 : ¬ (pI (inF 5 m2 U V (X 0).toInt (Y 0).toInt)).toInt = (pI (inF 5 m2 U V (P 0).toInt (Q 0).toInt)).toInt := zc_ne rfl rfl c_16
            refine lv_iconst (v := 0) hx hb dX4_isAsBefore_62 rfl ?_
            obtain ⟨hP9, hD9⟩ := zu_sub (wc := [_, _, _, _, _, _, _, _, _, _, _, _, _, _, _, _]) hP hD [true, true, true, true, true, true, true, true, true, true, true, true, true, true, true, true] rfl rfl
            rw [hQ9]
            exact W.zret (ty := .boolean) (v := 0) hx hb hr (rfl) (fun t ht hW => ⟨⟨congrArg (fun z => Outcome.returned (some (Value.int z))) (show (0 : Int32) = pI (asb n X Y rg nd P Q rd m2 U V rh) from (zp_f (fun h => absurd (zp_ieq.mpr (h.2.2 (by first | with_reducible assumption | assumption))) (by first | with_reducible assumption | assumption))).symm), nt, TX, TY, rt, nw, WX, WY, rw, by rw [ht]; exact hP9, hD9⟩, hS.F ht⟩) hS.2.2 dX4_isAsBefore_63
      · have c_11 : ¬ (∀ k, k < m2 → (inF 5 n X Y (U k).toInt (V k).toInt ↔ inF 5 nd P Q (U k).toInt (V k).toInt)) := zp_0 c_11
        refine lv_iconst (v := 0) hx hb dX4_isAsBefore_37 rfl ?_
        obtain ⟨hP9, hD9⟩ := zu_sub (wc := [_, _, _, _, _, _, _, _, _, _, _, _, _, _, _, _]) hP hD [true, true, true, true, true, true, true, true, true, true, true, true, true, true, true, true] rfl rfl
        rw [hQ9]
        exact W.zret (ty := .boolean) (v := 0) hx hb hr (rfl) (fun t ht hW => ⟨⟨congrArg (fun z => Outcome.returned (some (Value.int z))) (show (0 : Int32) = pI (asb n X Y rg nd P Q rd m2 U V rh) from (zp_f (fun h => absurd (h.2.1 (by first | with_reducible assumption | assumption)) (by first | with_reducible assumption | assumption))).symm), nt, TX, TY, rt, nw, WX, WY, rw, by rw [ht]; exact hP9, hD9⟩, hS.F ht⟩) hS.2.2 dX4_isAsBefore_38
  · have c_1 : ¬ (pI (∃ i, i < prt n rg ∧ ∃ j, j < prt m2 rh ∧ eMt n X Y i m2 U V j)).toInt = (pI (∃ i, i < prt nd rd ∧ ∃ j, j < prt m2 rh ∧ eMt nd P Q i m2 U V j)).toInt := zc_ne rfl rfl c_1
    refine lv_iconst (v := 0) hx hb dX4_isAsBefore_16 rfl ?_
    obtain ⟨hP9, hD9⟩ := zu_sub (wc := [_, _, _, _, _, _, _, _, _, _, _, _, _, _, _, _]) hP hD [true, true, true, true, true, true, true, true, true, true, true, true, true, true, true, true] rfl rfl
    rw [hQ9]
    exact W.zret (ty := .boolean) (v := 0) hx hb hr (rfl) (fun t ht hW => ⟨⟨congrArg (fun z => Outcome.returned (some (Value.int z))) (show (0 : Int32) = pI (asb n X Y rg nd P Q rd m2 U V rh) from (zp_f (fun h => absurd (zp_ieq.mpr h.1) (by first | with_reducible assumption | assumption))).symm), nt, TX, TY, rt, nw, WX, WY, rw, by rw [ht]; exact hP9, hD9⟩, hS.F ht⟩) hS.2.2 dX4_isAsBefore_17
set_option maxHeartbeats 4000000 in
set_option maxRecDepth 100000 in
theorem k_Law_isAsBefore_k (l : Launch) (dC : Nat → ClassId) (dI : Nat → Nat → Nat) (cI cZ cF : ClassId) (sz : Nat) (lw : Nat) (dr : Nat) (tg : Nat) (wy : Nat) (br : Nat) (bo : Nat) (aa : Nat) (tx : Nat) (ty : Nat) (nt : Nat) (TX : Nat → Int32) (TY : Nat → Int32) (rt : Int32) (wx : Nat) (wz : Nat) (nw : Nat) (WX : Nat → Int32) (WY : Nat → Int32) (rw : Int32) (dx : Nat) (dy : Nat) (nd : Nat) (cd : Nat) (P : Nat → Int32) (Q : Nat → Int32) (rd : Int32) (r : Nat) (rx : Nat) (ry : Nat) (n : Nat) (cap : Nat) (X : Nat → Int32) (Y : Nat → Int32) (rg : Int32) (u : Nat) (ux : Nat) (uy : Nat) (m2 : Nat) (cap2 : Nat) (U : Nat → Int32) (V : Nat → Int32) (rh : Int32) (k : Nat) (hnd : nd ≤ cd) (hcd : cd ≤ 1000) (hpd : pls nd P Q) (hn : n ≤ cap) (hcap : cap ≤ 1000) (hp : pls n X Y) (hm : m2 ≤ cap2) (hcap2 : cap2 ≤ 1000) (hq : pls m2 U V) (h1m : 1 ≤ m2) (h1n : 1 ≤ n) (h1d : 1 ≤ nd) (hn1 : ¬ n = 1) (hk : k < n) (hn40 : n ≤ 1000) : zM l yX4_isAsBefore cX4_isAsBefore 4 (some .boolean) ({ frames := 3, cells := 0, slots := 0, locals := 80 } : Room) [.ref lw, .ref r, .ref u, .int (nI k)] (dC, dI) (zTy cI cZ cF) [(oc3 lw (.ref dr) (.ref tg) (.ref wy) (.ref br) (.ref bo) (.ref aa)), (oc6 tg (.ref tx) (.ref ty) (nI nt) rt), (oa tx cI 3 TX), (oa ty cI 3 TY), (oc6 wy (.ref wx) (.ref wz) (nI nw) rw), (oa wx cI 2 WX), (oa wz cI 2 WY), (oc6 dr (.ref dx) (.ref dy) (nI nd) rd), (oa dx cI cd P), (oa dy cI cd Q), (oc6 r (.ref rx) (.ref ry) (nI n) rg), (oa rx cI cap X), (oa ry cI cap Y), (oc6 u (.ref ux) (.ref uy) (nI m2) rh), (oa ux cI cap2 U), (oa uy cI cap2 V)] sz (some (.int (pI (asb n X Y rg nd P Q rd m2 U V rh ∧ (¬ (∃ j, j < m2 ∧ swC n X Y k (U j).toInt (V j).toInt)))))) (fun A t => ∃ (nt1 : Nat), ∃ (TX1 : Nat → Int32), ∃ (TY1 : Nat → Int32), ∃ (rt1 : Int32), ∃ (nw1 : Nat), ∃ (WX1 : Nat → Int32), ∃ (WY1 : Nat → Int32), ∃ (rw1 : Int32), zPD (dC, dI) classes A [(oc3 lw (.ref dr) (.ref tg) (.ref wy) (.ref br) (.ref bo) (.ref aa)), (oc6 tg (.ref tx) (.ref ty) (nI nt1) rt1), (oa tx cI 3 TX1), (oa ty cI 3 TY1), (oc6 wy (.ref wx) (.ref wz) (nI nw1) rw1), (oa wx cI 2 WX1), (oa wz cI 2 WY1), (oc6 dr (.ref dx) (.ref dy) (nI nd) rd), (oa dx cI cd P), (oa dy cI cd Q), (oc6 r (.ref rx) (.ref ry) (nI n) rg), (oa rx cI cap X), (oa ry cI cap Y), (oc6 u (.ref ux) (.ref uy) (nI m2) rh), (oa ux cI cap2 U), (oa uy cI cap2 V)] t.heap) 0 0 := by
  refine zIn (own := "ScaleShop$Law") (loc := [(0, .ref lw), (1, .ref r), (2, .ref u), (3, .int (nI k))]) rfl rfl rfl rfl (fun p e s m below meth c hx hb hr hts hown hlocks hml hnm9 A hA hS hP hD hK hXN Q9 hQ9 ls hl => ?_)
  refine lv_aload_n hx hb dX4_isAsBefore_0 rfl (lv_at hl 1 rfl) ?_
  refine lv_aload_n hx hb dX4_isAsBefore_1 rfl (lv_at hl 2 rfl) ?_
  obtain ⟨hPc, hDc, hFc⟩ := zo_sub (wc := [_, _, _, _, _, _]) hP hD hS hA [10, 11, 12, 13, 14, 15] (by decide +kernel) rfl
  refine zcall (st1 := [.int (pI (∃ i, i < prt n rg ∧ ∃ j, j < prt m2 rh ∧ eMt n X Y i m2 U V j))]) (va_runV (As := [.ref u]) (rest := []) ⟨hx, hb, hml, hown, hts⟩ (k_Row_touches l dC dI cI cZ cF s.heap.size r rx ry n cap X Y rg u ux uy m2 cap2 U V rh (by first | with_reducible assumption | omega) (by first | with_reducible assumption | omega) (hp) (by first | with_reducible assumption | omega) (by first | with_reducible assumption | omega) (hq)) (csV_56 hts rfl rfl ⟨Nat.le_of_ble_eq_true rfl, Nat.le_of_ble_eq_true rfl⟩) (zPV2 (q0 := 0) (ci := 6) hPc hDc hK hXN rfl rfl) rfl rfl hl.1 rfl (lv_room (Nat.le_of_ble_eq_true rfl)) dX4_isAsBefore_2 ⟨Nat.le_of_ble_eq_true rfl, Nat.le_of_ble_eq_true rfl⟩) hS hFc hFc rfl (fun t H locs ht hB hk1 hS => ?_)
  obtain ⟨hP1, hD1⟩ := hB
  rw [ht] at hP1
  obtain ⟨hP, hD⟩ := zn (W2 := [_, _, _, _, _, _, _, _, _, _, _, _, _, _, _, _]) hP hD hk1 hFc hP1 hD1 [10, 11, 12, 13, 14, 15] [true, true, true, true, true, true, true, true, true, true] [true, true, true, true, true, true, true, true, true, true, false, false, false, false, false, false] [10, 11, 12, 13, 14, 15] (by decide +kernel) rfl rfl rfl rfl rfl
  clear hk1 hPc hDc hFc hP1 hD1 ht
  refine lv_aload_n hx hb dX4_isAsBefore_5 rfl (lv_at hl 0 rfl) ?_
  refine va_get (D := (dC, dI)) (ci := 3) (v := .ref dr) (C := RX4) (T := TX4) (N := 6) hx hb hts inX4 hown hK hP 0 rfl rfl 0 (Nat.le_of_ble_eq_true rfl) (hts _ mw_219) (fun _ h9 => h9) rfl dX4_isAsBefore_6 ?_
  refine lv_aload_n hx hb dX4_isAsBefore_9 rfl (lv_at hl 2 rfl) ?_
  obtain ⟨hPc, hDc, hFc⟩ := zo_sub (wc := [_, _, _, _, _, _]) hP hD hS hA [7, 8, 9, 13, 14, 15] (by decide +kernel) rfl
  refine zcall (st1 := [.int (pI (∃ i, i < prt nd rd ∧ ∃ j, j < prt m2 rh ∧ eMt nd P Q i m2 U V j)), .int (pI (∃ i, i < prt n rg ∧ ∃ j, j < prt m2 rh ∧ eMt n X Y i m2 U V j))]) (va_runV (As := [.ref u]) (rest := [.int (pI (∃ i, i < prt n rg ∧ ∃ j, j < prt m2 rh ∧ eMt n X Y i m2 U V j))]) ⟨hx, hb, hml, hown, hts⟩ (k_Row_touches l dC dI cI cZ cF H.size dr dx dy nd cd P Q rd u ux uy m2 cap2 U V rh (by first | with_reducible assumption | omega) (by first | with_reducible assumption | omega) (hpd) (by first | with_reducible assumption | omega) (by first | with_reducible assumption | omega) (hq)) (csV_56 hts rfl rfl ⟨Nat.le_of_ble_eq_true rfl, Nat.le_of_ble_eq_true rfl⟩) (zPV2 (q0 := 0) (ci := 6) hPc hDc hK hXN rfl rfl) rfl rfl hl.1 rfl (lv_room (Nat.le_of_ble_eq_true rfl)) dX4_isAsBefore_10 ⟨Nat.le_of_ble_eq_true rfl, Nat.le_of_ble_eq_true rfl⟩) hS hFc hFc rfl (fun t H locs ht hB hk1 hS => ?_)
  obtain ⟨hP1, hD1⟩ := hB
  rw [ht] at hP1
  obtain ⟨hP, hD⟩ := zn (W2 := [_, _, _, _, _, _, _, _, _, _, _, _, _, _, _, _]) hP hD hk1 hFc hP1 hD1 [7, 8, 9, 13, 14, 15] [true, true, true, true, true, true, true, false, false, false, true, true, true] [true, true, true, true, true, true, true, false, false, false, true, true, true, false, false, false] [7, 8, 9, 13, 14, 15] (by decide +kernel) rfl rfl rfl rfl rfl
  clear hk1 hPc hDc hFc hP1 hD1 ht
  refine lv_icmp_eq (tgt := 18) hx hb dX4_isAsBefore_13 rfl (fun c_1 => ?_) (fun c_1 => ?_)
  · have c_1 : (pI (∃ i, i < prt n rg ∧ ∃ j, j < prt m2 rh ∧ eMt n X Y i m2 U V j)).toInt = (pI (∃ i, i < prt nd rd ∧ ∃ j, j < prt m2 rh ∧ eMt nd P Q i m2 U V j)).toInt := zc_eq rfl rfl c_1
    refine lv_aload_n hx hb dX4_isAsBefore_18 rfl (lv_at hl 0 rfl) ?_
    refine va_get (D := (dC, dI)) (ci := 3) (v := .ref dr) (C := RX4) (T := TX4) (N := 6) hx hb hts inX4 hown hK hP 0 rfl rfl 0 (Nat.le_of_ble_eq_true rfl) (hts _ mw_219) (fun _ h9 => h9) rfl dX4_isAsBefore_19 ?_
    refine va_get (D := (dC, dI)) (ci := 6) (v := .int rd) (C := RX7) (T := TX7) (N := 4) hx hb hts inX7 hown hK hP 7 rfl rfl 3 (Nat.le_of_ble_eq_true rfl) (hts _ mw_184) (fun _ h9 => h9) rfl dX4_isAsBefore_22 ?_
    refine lv_if_eq (tgt := 39) hx hb dX4_isAsBefore_25 rfl (fun c_2 => ?_) (fun c_2 => ?_)
    · have c_2 : rd.toInt = 0 := zc_eq rfl rfl c_2
      refine lv_aload_n hx hb dX4_isAsBefore_39 rfl (lv_at hl 2 rfl) ?_
      refine va_get (D := (dC, dI)) (ci := 6) (v := .int rh) (C := RX7) (T := TX7) (N := 4) hx hb hts inX7 hown hK hP 13 rfl rfl 3 (Nat.le_of_ble_eq_true rfl) (hts _ mw_184) (fun _ h9 => h9) rfl dX4_isAsBefore_40 ?_
      refine lv_if_eq (tgt := 64) hx hb dX4_isAsBefore_43 rfl (fun c_3 => ?_) (fun c_3 => ?_)
      · have c_3 : rh.toInt = 0 := zc_eq rfl rfl c_3
        refine lv_aload_n hx hb dX4_isAsBefore_64 rfl (lv_at hl 1 rfl) ?_
        refine va_get (D := (dC, dI)) (ci := 6) (v := .int (nI n)) (C := RX7) (T := TX7) (N := 4) hx hb hts inX7 hown hK hP 10 rfl rfl 2 (Nat.le_of_ble_eq_true rfl) (hts _ mw_176) (fun _ h9 => h9) rfl dX4_isAsBefore_65 ?_
        refine lv_iconst (v := 1) hx hb dX4_isAsBefore_68 rfl ?_
        have b9_5 : n < 2147483648 := by omega
        refine lv_icmp_ne (tgt := 79) hx hb dX4_isAsBefore_69 rfl (fun c_4 => ?_) (fun c_4 => ?_)
        · have c_4 : ¬ ((n : Nat) : Int) = 1 := zc_ne (nI_toInt b9_5) rfl c_4
          refine lv_iload_n hx hb dX4_isAsBefore_79 rfl (lv_at hl 3 rfl) ?_
          refine lv_bipush (v := (-2)) hx hb dX4_isAsBefore_80 rfl ?_
          have b9_7 : k < 2147483648 := by omega
          refine lv_icmp_ne (tgt := 87) hx hb dX4_isAsBefore_82 rfl (fun c_6 => ?_) (fun c_6 => ?_)
          · have c_6 : ¬ ((k : Nat) : Int) = (-2) := zc_ne (nI_toInt b9_7) rfl c_6
            refine lv_iload_n hx hb dX4_isAsBefore_87 rfl (lv_at hl 3 rfl) ?_
            refine lv_iconst (v := (-1)) hx hb dX4_isAsBefore_88 rfl ?_
            refine lv_icmp_ne (tgt := 109) hx hb dX4_isAsBefore_89 rfl (fun c_8 => ?_) (fun c_8 => ?_)
            · have c_8 : ¬ ((k : Nat) : Int) = (-1) := zc_ne (nI_toInt b9_7) rfl c_8
              refine lv_aload_n hx hb dX4_isAsBefore_109 rfl (lv_at hl 0 rfl) ?_
              refine lv_aload_n hx hb dX4_isAsBefore_110 rfl (lv_at hl 1 rfl) ?_
              refine lv_aload_n hx hb dX4_isAsBefore_111 rfl (lv_at hl 2 rfl) ?_
              refine lv_iload_n hx hb dX4_isAsBefore_112 rfl (lv_at hl 3 rfl) ?_
              obtain ⟨hPc, hDc, hFc⟩ := zo_sub (wc := [_, _, _, _, _, _, _, _, _, _]) hP hD hS hA [0, 1, 2, 3, 10, 11, 12, 13, 14, 15] (by decide +kernel) rfl
              refine zcall (st1 := [.int (pI (∃ j, j < m2 ∧ swC n X Y k (U j).toInt (V j).toInt))]) (va_runV (As := [.ref r, .ref u, .int (nI k)]) (rest := []) ⟨hx, hb, hml, hown, hts⟩ (k_Law_isSweptByCut l dC dI cI cZ cF H.size lw dr tg wy br bo aa tx ty nt TX TY rt r rx ry n cap X Y rg u ux uy m2 cap2 U V rh k (by first | with_reducible assumption | omega) (by first | with_reducible assumption | omega) (by first | with_reducible assumption | assumption) (by first | with_reducible assumption | omega) (by first | with_reducible assumption | omega) (by first | with_reducible assumption | assumption) (by first | with_reducible assumption | omega)) (csV_60 hts rfl rfl ⟨Nat.le_of_ble_eq_true rfl, Nat.le_of_ble_eq_true rfl⟩) (zPV2 (q0 := 0) (ci := 3) hPc hDc hK hXN rfl rfl) rfl rfl hl.1 rfl (lv_room (Nat.le_of_ble_eq_true rfl)) dX4_isAsBefore_113 ⟨Nat.le_of_ble_eq_true rfl, Nat.le_of_ble_eq_true rfl⟩) hS hFc hFc rfl (fun t H locs ht hB hk1 hS => ?_)
              obtain ⟨q_9, q_10, q_11, q_12, hP1, hD1⟩ := hB
              rw [ht] at hP1
              obtain ⟨hP, hD⟩ := zn (W2 := [_, (oc6 tg (.ref tx) (.ref ty) (nI q_9) q_12), (oa tx cI 3 q_10), (oa ty cI 3 q_11), _, _, _, _, _, _, _, _, _, _, _, _]) hP hD hk1 hFc hP1 hD1 [0, 1, 2, 3, 10, 11, 12, 13, 14, 15] [false, false, false, false, true, true, true, true, true, true] [false, false, false, false, true, true, true, true, true, true, false, false, false, false, false, false] [0, 1, 2, 3, 10, 11, 12, 13, 14, 15] (by decide +kernel) rfl rfl rfl rfl rfl
              clear hk1 hPc hDc hFc hP1 hD1 ht
              refine lv_if_ne (tgt := 123) hx hb dX4_isAsBefore_116 rfl (fun c_13 => ?_) (fun c_13 => ?_)
              · have c_13 : ∃ j, j < m2 ∧ swC n X Y k (U j).toInt (V j).toInt := zp_1 c_13
                refine lv_iconst (v := 0) hx hb dX4_isAsBefore_123 rfl ?_
                obtain ⟨hP9, hD9⟩ := zu_sub (wc := [_, _, _, _, _, _, _, _, _, _, _, _, _, _, _, _]) hP hD [true, true, true, true, true, true, true, true, true, true, true, true, true, true, true, true] rfl rfl
                rw [hQ9]
                exact W.zret (ty := .boolean) (v := 0) hx hb hr (rfl) (fun t ht hW => ⟨⟨congrArg (fun z => Outcome.returned (some (Value.int z))) (show (0 : Int32) = pI (asb n X Y rg nd P Q rd m2 U V rh ∧ (¬ (∃ j, j < m2 ∧ swC n X Y k (U j).toInt (V j).toInt))) from (zp_f (by first | exact ⟨⟨zp_ieq.mp (by first | with_reducible assumption | assumption), fun h9 => by first | with_reducible assumption | assumption | exact absurd (by first | with_reducible assumption | assumption) h9, fun h9 => by first | exact zp_ieq.mp (by first | with_reducible assumption | assumption) | exact absurd (by first | with_reducible assumption | assumption) h9⟩, by assumption⟩ | exact fun h => absurd (by first | with_reducible assumption | assumption) h.2)).symm), q_9, q_10, q_11, q_12, nw, WX, WY, rw, by rw [ht]; exact hP9, hD9⟩, hS.F ht⟩) hS.2.2 dX4_isAsBefore_124
              · have c_13 : ¬ (∃ j, j < m2 ∧ swC n X Y k (U j).toInt (V j).toInt) := zp_0 c_13
                refine lv_iconst (v := 1) hx hb dX4_isAsBefore_119 rfl ?_
                refine lv_goto (tgt := 124) hx hb dX4_isAsBefore_120 rfl ?_
                obtain ⟨hP9, hD9⟩ := zu_sub (wc := [_, _, _, _, _, _, _, _, _, _, _, _, _, _, _, _]) hP hD [true, true, true, true, true, true, true, true, true, true, true, true, true, true, true, true] rfl rfl
                rw [hQ9]
                exact W.zret (ty := .boolean) (v := 1) hx hb hr (rfl) (fun t ht hW => ⟨⟨congrArg (fun z => Outcome.returned (some (Value.int z))) (show (1 : Int32) = pI (asb n X Y rg nd P Q rd m2 U V rh ∧ (¬ (∃ j, j < m2 ∧ swC n X Y k (U j).toInt (V j).toInt))) from (zp_t (by first | exact ⟨⟨zp_ieq.mp (by first | with_reducible assumption | assumption), fun h9 => by first | with_reducible assumption | assumption | exact absurd (by first | with_reducible assumption | assumption) h9, fun h9 => by first | exact zp_ieq.mp (by first | with_reducible assumption | assumption) | exact absurd (by first | with_reducible assumption | assumption) h9⟩, by assumption⟩ | exact fun h => absurd (by first | with_reducible assumption | assumption) h.2)).symm), q_9, q_10, q_11, q_12, nw, WX, WY, rw, by rw [ht]; exact hP9, hD9⟩, hS.F ht⟩) hS.2.2 dX4_isAsBefore_124
            · have c_8 : ((k : Nat) : Int) = (-1) := zc_eq (nI_toInt b9_7) rfl c_8
              exfalso; omega
          · have c_6 : ((k : Nat) : Int) = (-2) := zc_eq (nI_toInt b9_7) rfl c_6
            exfalso; omega
        · have c_4 : ((n : Nat) : Int) = 1 := zc_eq (nI_toInt b9_5) rfl c_4
          exfalso; omega
      · have c_3 : ¬ rh.toInt = 0 := zc_ne rfl rfl c_3
        refine lv_aload_n hx hb dX4_isAsBefore_46 rfl (lv_at hl 2 rfl) ?_
        refine lv_aload_n hx hb dX4_isAsBefore_47 rfl (lv_at hl 1 rfl) ?_
        obtain ⟨hPc, hDc, hFc⟩ := zo_sub (wc := [_, _, _, _, _, _]) hP hD hS hA [13, 14, 15, 10, 11, 12] (by decide +kernel) rfl
        refine zcall (st1 := [.int (pI (inF 5 m2 U V (X 0).toInt (Y 0).toInt))]) (va_runS (As := [.ref u, .ref r]) (rest := []) ⟨hx, hb, hml, hown, hts⟩ (k_Law_isIn l dC dI cI cZ cF H.size u ux uy m2 cap2 U V rh r rx ry n cap X Y rg (by first | with_reducible assumption | omega) (by first | with_reducible assumption | omega) (hq) (by first | with_reducible assumption | omega) (by first | with_reducible assumption | omega) (hp) (by first | with_reducible assumption | omega)) (csS_61 hts rfl rfl ⟨Nat.le_of_ble_eq_true rfl, Nat.le_of_ble_eq_true rfl⟩) (zPS2 hPc hDc hK hXN) rfl rfl hl.1 rfl (lv_room (Nat.le_of_ble_eq_true rfl)) dX4_isAsBefore_48 ⟨Nat.le_of_ble_eq_true rfl, Nat.le_of_ble_eq_true rfl⟩) hS hFc hFc rfl (fun t H locs ht hB hk1 hS => ?_)
        obtain ⟨hP1, hD1⟩ := hB
        rw [ht] at hP1
        obtain ⟨hP, hD⟩ := zn (W2 := [_, _, _, _, _, _, _, _, _, _, _, _, _, _, _, _]) hP hD hk1 hFc hP1 hD1 [13, 14, 15, 10, 11, 12] [true, true, true, true, true, true, true, true, true, true] [true, true, true, true, true, true, true, true, true, true, false, false, false, false, false, false] [13, 14, 15, 10, 11, 12] (by decide +kernel) rfl rfl rfl rfl rfl
        clear hk1 hPc hDc hFc hP1 hD1 ht
        refine lv_aload_n hx hb dX4_isAsBefore_51 rfl (lv_at hl 2 rfl) ?_
        refine lv_aload_n hx hb dX4_isAsBefore_52 rfl (lv_at hl 0 rfl) ?_
        refine va_get (D := (dC, dI)) (ci := 3) (v := .ref dr) (C := RX4) (T := TX4) (N := 6) hx hb hts inX4 hown hK hP 0 rfl rfl 0 (Nat.le_of_ble_eq_true rfl) (hts _ mw_219) (fun _ h9 => h9) rfl dX4_isAsBefore_53 ?_
        obtain ⟨hPc, hDc, hFc⟩ := zo_sub (wc := [_, _, _, _, _, _]) hP hD hS hA [13, 14, 15, 7, 8, 9] (by decide +kernel) rfl
        refine zcall (st1 := [.int (pI (inF 5 m2 U V (P 0).toInt (Q 0).toInt)), .int (pI (inF 5 m2 U V (X 0).toInt (Y 0).toInt))]) (va_runS (As := [.ref u, .ref dr]) (rest := [.int (pI (inF 5 m2 U V (X 0).toInt (Y 0).toInt))]) ⟨hx, hb, hml, hown, hts⟩ (k_Law_isIn l dC dI cI cZ cF H.size u ux uy m2 cap2 U V rh dr dx dy nd cd P Q rd (by first | with_reducible assumption | omega) (by first | with_reducible assumption | omega) (hq) (by first | with_reducible assumption | omega) (by first | with_reducible assumption | omega) (hpd) (by first | with_reducible assumption | omega)) (csS_61 hts rfl rfl ⟨Nat.le_of_ble_eq_true rfl, Nat.le_of_ble_eq_true rfl⟩) (zPS2 hPc hDc hK hXN) rfl rfl hl.1 rfl (lv_room (Nat.le_of_ble_eq_true rfl)) dX4_isAsBefore_56 ⟨Nat.le_of_ble_eq_true rfl, Nat.le_of_ble_eq_true rfl⟩) hS hFc hFc rfl (fun t H locs ht hB hk1 hS => ?_)
        obtain ⟨hP1, hD1⟩ := hB
        rw [ht] at hP1
        obtain ⟨hP, hD⟩ := zn (W2 := [_, _, _, _, _, _, _, _, _, _, _, _, _, _, _, _]) hP hD hk1 hFc hP1 hD1 [13, 14, 15, 7, 8, 9] [true, true, true, true, true, true, true, false, false, false, true, true, true] [true, true, true, true, true, true, true, false, false, false, true, true, true, false, false, false] [13, 14, 15, 7, 8, 9] (by decide +kernel) rfl rfl rfl rfl rfl
        clear hk1 hPc hDc hFc hP1 hD1 ht
        refine lv_icmp_eq (tgt := 64) hx hb dX4_isAsBefore_59 rfl (fun c_14 => ?_) (fun c_14 => ?_)
        · have c_14 : (pI (inF 5 m2 U V (X 0).toInt (Y 0).toInt)).toInt = (pI (inF 5 m2 U V (P 0).toInt (Q 0).toInt)).toInt := zc_eq rfl rfl c_14
          refine lv_aload_n hx hb dX4_isAsBefore_64 rfl (lv_at hl 1 rfl) ?_
          refine va_get (D := (dC, dI)) (ci := 6) (v := .int (nI n)) (C := RX7) (T := TX7) (N := 4) hx hb hts inX7 hown hK hP 10 rfl rfl 2 (Nat.le_of_ble_eq_true rfl) (hts _ mw_176) (fun _ h9 => h9) rfl dX4_isAsBefore_65 ?_
          refine lv_iconst (v := 1) hx hb dX4_isAsBefore_68 rfl ?_
          have b9_16 : n < 2147483648 := by omega
          refine lv_icmp_ne (tgt := 79) hx hb dX4_isAsBefore_69 rfl (fun c_15 => ?_) (fun c_15 => ?_)
          · have c_15 : ¬ ((n : Nat) : Int) = 1 := zc_ne (nI_toInt b9_16) rfl c_15
            refine lv_iload_n hx hb dX4_isAsBefore_79 rfl (lv_at hl 3 rfl) ?_
            refine lv_bipush (v := (-2)) hx hb dX4_isAsBefore_80 rfl ?_
            have b9_18 : k < 2147483648 := by omega
            refine lv_icmp_ne (tgt := 87) hx hb dX4_isAsBefore_82 rfl (fun c_17 => ?_) (fun c_17 => ?_)
            · have c_17 : ¬ ((k : Nat) : Int) = (-2) := zc_ne (nI_toInt b9_18) rfl c_17
              refine lv_iload_n hx hb dX4_isAsBefore_87 rfl (lv_at hl 3 rfl) ?_
              refine lv_iconst (v := (-1)) hx hb dX4_isAsBefore_88 rfl ?_
              refine lv_icmp_ne (tgt := 109) hx hb dX4_isAsBefore_89 rfl (fun c_19 => ?_) (fun c_19 => ?_)
              · have c_19 : ¬ ((k : Nat) : Int) = (-1) := zc_ne (nI_toInt b9_18) rfl c_19
                refine lv_aload_n hx hb dX4_isAsBefore_109 rfl (lv_at hl 0 rfl) ?_
                refine lv_aload_n hx hb dX4_isAsBefore_110 rfl (lv_at hl 1 rfl) ?_
                refine lv_aload_n hx hb dX4_isAsBefore_111 rfl (lv_at hl 2 rfl) ?_
                refine lv_iload_n hx hb dX4_isAsBefore_112 rfl (lv_at hl 3 rfl) ?_
                obtain ⟨hPc, hDc, hFc⟩ := zo_sub (wc := [_, _, _, _, _, _, _, _, _, _]) hP hD hS hA [0, 1, 2, 3, 10, 11, 12, 13, 14, 15] (by decide +kernel) rfl
                refine zcall (st1 := [.int (pI (∃ j, j < m2 ∧ swC n X Y k (U j).toInt (V j).toInt))]) (va_runV (As := [.ref r, .ref u, .int (nI k)]) (rest := []) ⟨hx, hb, hml, hown, hts⟩ (k_Law_isSweptByCut l dC dI cI cZ cF H.size lw dr tg wy br bo aa tx ty nt TX TY rt r rx ry n cap X Y rg u ux uy m2 cap2 U V rh k (by first | with_reducible assumption | omega) (by first | with_reducible assumption | omega) (by first | with_reducible assumption | assumption) (by first | with_reducible assumption | omega) (by first | with_reducible assumption | omega) (by first | with_reducible assumption | assumption) (by first | with_reducible assumption | omega)) (csV_60 hts rfl rfl ⟨Nat.le_of_ble_eq_true rfl, Nat.le_of_ble_eq_true rfl⟩) (zPV2 (q0 := 0) (ci := 3) hPc hDc hK hXN rfl rfl) rfl rfl hl.1 rfl (lv_room (Nat.le_of_ble_eq_true rfl)) dX4_isAsBefore_113 ⟨Nat.le_of_ble_eq_true rfl, Nat.le_of_ble_eq_true rfl⟩) hS hFc hFc rfl (fun t H locs ht hB hk1 hS => ?_)
                obtain ⟨q_20, q_21, q_22, q_23, hP1, hD1⟩ := hB
                rw [ht] at hP1
                obtain ⟨hP, hD⟩ := zn (W2 := [_, (oc6 tg (.ref tx) (.ref ty) (nI q_20) q_23), (oa tx cI 3 q_21), (oa ty cI 3 q_22), _, _, _, _, _, _, _, _, _, _, _, _]) hP hD hk1 hFc hP1 hD1 [0, 1, 2, 3, 10, 11, 12, 13, 14, 15] [false, false, false, false, true, true, true, true, true, true] [false, false, false, false, true, true, true, true, true, true, false, false, false, false, false, false] [0, 1, 2, 3, 10, 11, 12, 13, 14, 15] (by decide +kernel) rfl rfl rfl rfl rfl
                clear hk1 hPc hDc hFc hP1 hD1 ht
                refine lv_if_ne (tgt := 123) hx hb dX4_isAsBefore_116 rfl (fun c_24 => ?_) (fun c_24 => ?_)
                · have c_24 : ∃ j, j < m2 ∧ swC n X Y k (U j).toInt (V j).toInt := zp_1 c_24
                  refine lv_iconst (v := 0) hx hb dX4_isAsBefore_123 rfl ?_
                  obtain ⟨hP9, hD9⟩ := zu_sub (wc := [_, _, _, _, _, _, _, _, _, _, _, _, _, _, _, _]) hP hD [true, true, true, true, true, true, true, true, true, true, true, true, true, true, true, true] rfl rfl
                  rw [hQ9]
                  exact W.zret (ty := .boolean) (v := 0) hx hb hr (rfl) (fun t ht hW => ⟨⟨congrArg (fun z => Outcome.returned (some (Value.int z))) (show (0 : Int32) = pI (asb n X Y rg nd P Q rd m2 U V rh ∧ (¬ (∃ j, j < m2 ∧ swC n X Y k (U j).toInt (V j).toInt))) from (zp_f (by first | exact ⟨⟨zp_ieq.mp (by first | with_reducible assumption | assumption), fun h9 => by first | with_reducible assumption | assumption | exact absurd (by first | with_reducible assumption | assumption) h9, fun h9 => by first | exact zp_ieq.mp (by first | with_reducible assumption | assumption) | exact absurd (by first | with_reducible assumption | assumption) h9⟩, by assumption⟩ | exact fun h => absurd (by first | with_reducible assumption | assumption) h.2)).symm), q_20, q_21, q_22, q_23, nw, WX, WY, rw, by rw [ht]; exact hP9, hD9⟩, hS.F ht⟩) hS.2.2 dX4_isAsBefore_124
                · have c_24 : ¬ (∃ j, j < m2 ∧ swC n X Y k (U j).toInt (V j).toInt) := zp_0 c_24
                  refine lv_iconst (v := 1) hx hb dX4_isAsBefore_119 rfl ?_
                  refine lv_goto (tgt := 124) hx hb dX4_isAsBefore_120 rfl ?_
                  obtain ⟨hP9, hD9⟩ := zu_sub (wc := [_, _, _, _, _, _, _, _, _, _, _, _, _, _, _, _]) hP hD [true, true, true, true, true, true, true, true, true, true, true, true, true, true, true, true] rfl rfl
                  rw [hQ9]
                  exact W.zret (ty := .boolean) (v := 1) hx hb hr (rfl) (fun t ht hW => ⟨⟨congrArg (fun z => Outcome.returned (some (Value.int z))) (show (1 : Int32) = pI (asb n X Y rg nd P Q rd m2 U V rh ∧ (¬ (∃ j, j < m2 ∧ swC n X Y k (U j).toInt (V j).toInt))) from (zp_t (by first | exact ⟨⟨zp_ieq.mp (by first | with_reducible assumption | assumption), fun h9 => by first | with_reducible assumption | assumption | exact absurd (by first | with_reducible assumption | assumption) h9, fun h9 => by first | exact zp_ieq.mp (by first | with_reducible assumption | assumption) | exact absurd (by first | with_reducible assumption | assumption) h9⟩, by assumption⟩ | exact fun h => absurd (by first | with_reducible assumption | assumption) h.2)).symm), q_20, q_21, q_22, q_23, nw, WX, WY, rw, by rw [ht]; exact hP9, hD9⟩, hS.F ht⟩) hS.2.2 dX4_isAsBefore_124
              · have c_19 : ((k : Nat) : Int) = (-1) := zc_eq (nI_toInt b9_18) rfl c_19
                exfalso; omega
            · have c_17 : ((k : Nat) : Int) = (-2) := zc_eq (nI_toInt b9_18) rfl c_17
              exfalso; omega
          · have c_15 : ((n : Nat) : Int) = 1 := zc_eq (nI_toInt b9_16) rfl c_15
            exfalso; omega
        · have c_14 : ¬ (pI (inF 5 m2 U V (X 0).toInt (Y 0).toInt)).toInt = (pI (inF 5 m2 U V (P 0).toInt (Q 0).toInt)).toInt := zc_ne rfl rfl c_14
          refine lv_iconst (v := 0) hx hb dX4_isAsBefore_62 rfl ?_
          obtain ⟨hP9, hD9⟩ := zu_sub (wc := [_, _, _, _, _, _, _, _, _, _, _, _, _, _, _, _]) hP hD [true, true, true, true, true, true, true, true, true, true, true, true, true, true, true, true] rfl rfl
          rw [hQ9]
          exact W.zret (ty := .boolean) (v := 0) hx hb hr (rfl) (fun t ht hW => ⟨⟨congrArg (fun z => Outcome.returned (some (Value.int z))) (show (0 : Int32) = pI (asb n X Y rg nd P Q rd m2 U V rh ∧ (¬ (∃ j, j < m2 ∧ swC n X Y k (U j).toInt (V j).toInt))) from (zp_f (fun h => absurd (zp_ieq.mpr (h.1.2.2 (by first | with_reducible assumption | assumption))) (by first | with_reducible assumption | assumption))).symm), nt, TX, TY, rt, nw, WX, WY, rw, by rw [ht]; exact hP9, hD9⟩, hS.F ht⟩) hS.2.2 dX4_isAsBefore_63
    · have c_2 : ¬ rd.toInt = 0 := zc_ne rfl rfl c_2
      refine lv_aload_n hx hb dX4_isAsBefore_28 rfl (lv_at hl 0 rfl) ?_
      refine lv_aload_n hx hb dX4_isAsBefore_29 rfl (lv_at hl 1 rfl) ?_
      refine lv_aload_n hx hb dX4_isAsBefore_30 rfl (lv_at hl 2 rfl) ?_
      obtain ⟨hPc, hDc, hFc⟩ := zo_sub (wc := [_, _, _, _, _, _, _, _, _, _]) hP hD hS hA [0, 7, 8, 9, 10, 11, 12, 13, 14, 15] (by decide +kernel) rfl
      refine zcall (st1 := [.int (pI (∀ k, k < m2 → (inF 5 n X Y (U k).toInt (V k).toInt ↔ inF 5 nd P Q (U k).toInt (V k).toInt)))]) (va_runV (As := [.ref r, .ref u]) (rest := []) ⟨hx, hb, hml, hown, hts⟩ (k_Law_holdsAsBefore l dC dI cI cZ cF H.size lw dr tg wy br bo aa dx dy nd cd P Q rd r rx ry n cap X Y rg u ux uy m2 cap2 U V rh (by first | with_reducible assumption | omega) (by first | with_reducible assumption | omega) (by first | with_reducible assumption | assumption) (by first | with_reducible assumption | omega) (by first | with_reducible assumption | omega) (by first | with_reducible assumption | assumption) (by first | with_reducible assumption | omega) (by first | with_reducible assumption | omega) (by first | with_reducible assumption | assumption)) (csV_58 hts rfl rfl ⟨Nat.le_of_ble_eq_true rfl, Nat.le_of_ble_eq_true rfl⟩) (zPV2 (q0 := 0) (ci := 3) hPc hDc hK hXN rfl rfl) rfl rfl hl.1 rfl (lv_room (Nat.le_of_ble_eq_true rfl)) dX4_isAsBefore_31 ⟨Nat.le_of_ble_eq_true rfl, Nat.le_of_ble_eq_true rfl⟩) hS hFc hFc rfl (fun t H locs ht hB hk1 hS => ?_)
      obtain ⟨hP1, hD1⟩ := hB
      rw [ht] at hP1
      obtain ⟨hP, hD⟩ := zn (W2 := [_, _, _, _, _, _, _, _, _, _, _, _, _, _, _, _]) hP hD hk1 hFc hP1 hD1 [0, 7, 8, 9, 10, 11, 12, 13, 14, 15] [false, true, true, true, true, true, true] [false, true, true, true, true, true, true, false, false, false, false, false, false, false, false, false] [0, 7, 8, 9, 10, 11, 12, 13, 14, 15] (by decide +kernel) rfl rfl rfl rfl rfl
      clear hk1 hPc hDc hFc hP1 hD1 ht
      refine lv_if_ne (tgt := 39) hx hb dX4_isAsBefore_34 rfl (fun c_25 => ?_) (fun c_25 => ?_)
      · have c_25 : ∀ k, k < m2 → (inF 5 n X Y (U k).toInt (V k).toInt ↔ inF 5 nd P Q (U k).toInt (V k).toInt) := zp_1 c_25
        refine lv_aload_n hx hb dX4_isAsBefore_39 rfl (lv_at hl 2 rfl) ?_
        refine va_get (D := (dC, dI)) (ci := 6) (v := .int rh) (C := RX7) (T := TX7) (N := 4) hx hb hts inX7 hown hK hP 13 rfl rfl 3 (Nat.le_of_ble_eq_true rfl) (hts _ mw_184) (fun _ h9 => h9) rfl dX4_isAsBefore_40 ?_
        refine lv_if_eq (tgt := 64) hx hb dX4_isAsBefore_43 rfl (fun c_26 => ?_) (fun c_26 => ?_)
        · have c_26 : rh.toInt = 0 := zc_eq rfl rfl c_26
          refine lv_aload_n hx hb dX4_isAsBefore_64 rfl (lv_at hl 1 rfl) ?_
          refine va_get (D := (dC, dI)) (ci := 6) (v := .int (nI n)) (C := RX7) (T := TX7) (N := 4) hx hb hts inX7 hown hK hP 10 rfl rfl 2 (Nat.le_of_ble_eq_true rfl) (hts _ mw_176) (fun _ h9 => h9) rfl dX4_isAsBefore_65 ?_
          refine lv_iconst (v := 1) hx hb dX4_isAsBefore_68 rfl ?_
          have b9_28 : n < 2147483648 := by omega
          refine lv_icmp_ne (tgt := 79) hx hb dX4_isAsBefore_69 rfl (fun c_27 => ?_) (fun c_27 => ?_)
          · have c_27 : ¬ ((n : Nat) : Int) = 1 := zc_ne (nI_toInt b9_28) rfl c_27
            refine lv_iload_n hx hb dX4_isAsBefore_79 rfl (lv_at hl 3 rfl) ?_
            refine lv_bipush (v := (-2)) hx hb dX4_isAsBefore_80 rfl ?_
            have b9_30 : k < 2147483648 := by omega
            refine lv_icmp_ne (tgt := 87) hx hb dX4_isAsBefore_82 rfl (fun c_29 => ?_) (fun c_29 => ?_)
            · have c_29 : ¬ ((k : Nat) : Int) = (-2) := zc_ne (nI_toInt b9_30) rfl c_29
              refine lv_iload_n hx hb dX4_isAsBefore_87 rfl (lv_at hl 3 rfl) ?_
              refine lv_iconst (v := (-1)) hx hb dX4_isAsBefore_88 rfl ?_
              refine lv_icmp_ne (tgt := 109) hx hb dX4_isAsBefore_89 rfl (fun c_31 => ?_) (fun c_31 => ?_)
              · have c_31 : ¬ ((k : Nat) : Int) = (-1) := zc_ne (nI_toInt b9_30) rfl c_31
                refine lv_aload_n hx hb dX4_isAsBefore_109 rfl (lv_at hl 0 rfl) ?_
                refine lv_aload_n hx hb dX4_isAsBefore_110 rfl (lv_at hl 1 rfl) ?_
                refine lv_aload_n hx hb dX4_isAsBefore_111 rfl (lv_at hl 2 rfl) ?_
                refine lv_iload_n hx hb dX4_isAsBefore_112 rfl (lv_at hl 3 rfl) ?_
                obtain ⟨hPc, hDc, hFc⟩ := zo_sub (wc := [_, _, _, _, _, _, _, _, _, _]) hP hD hS hA [0, 1, 2, 3, 10, 11, 12, 13, 14, 15] (by decide +kernel) rfl
                refine zcall (st1 := [.int (pI (∃ j, j < m2 ∧ swC n X Y k (U j).toInt (V j).toInt))]) (va_runV (As := [.ref r, .ref u, .int (nI k)]) (rest := []) ⟨hx, hb, hml, hown, hts⟩ (k_Law_isSweptByCut l dC dI cI cZ cF H.size lw dr tg wy br bo aa tx ty nt TX TY rt r rx ry n cap X Y rg u ux uy m2 cap2 U V rh k (by first | with_reducible assumption | omega) (by first | with_reducible assumption | omega) (by first | with_reducible assumption | assumption) (by first | with_reducible assumption | omega) (by first | with_reducible assumption | omega) (by first | with_reducible assumption | assumption) (by first | with_reducible assumption | omega)) (csV_60 hts rfl rfl ⟨Nat.le_of_ble_eq_true rfl, Nat.le_of_ble_eq_true rfl⟩) (zPV2 (q0 := 0) (ci := 3) hPc hDc hK hXN rfl rfl) rfl rfl hl.1 rfl (lv_room (Nat.le_of_ble_eq_true rfl)) dX4_isAsBefore_113 ⟨Nat.le_of_ble_eq_true rfl, Nat.le_of_ble_eq_true rfl⟩) hS hFc hFc rfl (fun t H locs ht hB hk1 hS => ?_)
                obtain ⟨q_32, q_33, q_34, q_35, hP1, hD1⟩ := hB
                rw [ht] at hP1
                obtain ⟨hP, hD⟩ := zn (W2 := [_, (oc6 tg (.ref tx) (.ref ty) (nI q_32) q_35), (oa tx cI 3 q_33), (oa ty cI 3 q_34), _, _, _, _, _, _, _, _, _, _, _, _]) hP hD hk1 hFc hP1 hD1 [0, 1, 2, 3, 10, 11, 12, 13, 14, 15] [false, false, false, false, true, true, true, true, true, true] [false, false, false, false, true, true, true, true, true, true, false, false, false, false, false, false] [0, 1, 2, 3, 10, 11, 12, 13, 14, 15] (by decide +kernel) rfl rfl rfl rfl rfl
                clear hk1 hPc hDc hFc hP1 hD1 ht
                refine lv_if_ne (tgt := 123) hx hb dX4_isAsBefore_116 rfl (fun c_36 => ?_) (fun c_36 => ?_)
                · have c_36 : ∃ j, j < m2 ∧ swC n X Y k (U j).toInt (V j).toInt := zp_1 c_36
                  refine lv_iconst (v := 0) hx hb dX4_isAsBefore_123 rfl ?_
                  obtain ⟨hP9, hD9⟩ := zu_sub (wc := [_, _, _, _, _, _, _, _, _, _, _, _, _, _, _, _]) hP hD [true, true, true, true, true, true, true, true, true, true, true, true, true, true, true, true] rfl rfl
                  rw [hQ9]
                  exact W.zret (ty := .boolean) (v := 0) hx hb hr (rfl) (fun t ht hW => ⟨⟨congrArg (fun z => Outcome.returned (some (Value.int z))) (show (0 : Int32) = pI (asb n X Y rg nd P Q rd m2 U V rh ∧ (¬ (∃ j, j < m2 ∧ swC n X Y k (U j).toInt (V j).toInt))) from (zp_f (by first | exact ⟨⟨zp_ieq.mp (by first | with_reducible assumption | assumption), fun h9 => by first | with_reducible assumption | assumption | exact absurd (by first | with_reducible assumption | assumption) h9, fun h9 => by first | exact zp_ieq.mp (by first | with_reducible assumption | assumption) | exact absurd (by first | with_reducible assumption | assumption) h9⟩, by assumption⟩ | exact fun h => absurd (by first | with_reducible assumption | assumption) h.2)).symm), q_32, q_33, q_34, q_35, nw, WX, WY, rw, by rw [ht]; exact hP9, hD9⟩, hS.F ht⟩) hS.2.2 dX4_isAsBefore_124
                · have c_36 : ¬ (∃ j, j < m2 ∧ swC n X Y k (U j).toInt (V j).toInt) := zp_0 c_36
                  refine lv_iconst (v := 1) hx hb dX4_isAsBefore_119 rfl ?_
                  refine lv_goto (tgt := 124) hx hb dX4_isAsBefore_120 rfl ?_
                  obtain ⟨hP9, hD9⟩ := zu_sub (wc := [_, _, _, _, _, _, _, _, _, _, _, _, _, _, _, _]) hP hD [true, true, true, true, true, true, true, true, true, true, true, true, true, true, true, true] rfl rfl
                  rw [hQ9]
                  exact W.zret (ty := .boolean) (v := 1) hx hb hr (rfl) (fun t ht hW => ⟨⟨congrArg (fun z => Outcome.returned (some (Value.int z))) (show (1 : Int32) = pI (asb n X Y rg nd P Q rd m2 U V rh ∧ (¬ (∃ j, j < m2 ∧ swC n X Y k (U j).toInt (V j).toInt))) from (zp_t (by first | exact ⟨⟨zp_ieq.mp (by first | with_reducible assumption | assumption), fun h9 => by first | with_reducible assumption | assumption | exact absurd (by first | with_reducible assumption | assumption) h9, fun h9 => by first | exact zp_ieq.mp (by first | with_reducible assumption | assumption) | exact absurd (by first | with_reducible assumption | assumption) h9⟩, by assumption⟩ | exact fun h => absurd (by first | with_reducible assumption | assumption) h.2)).symm), q_32, q_33, q_34, q_35, nw, WX, WY, rw, by rw [ht]; exact hP9, hD9⟩, hS.F ht⟩) hS.2.2 dX4_isAsBefore_124
              · have c_31 : ((k : Nat) : Int) = (-1) := zc_eq (nI_toInt b9_30) rfl c_31
                exfalso; omega
            · have c_29 : ((k : Nat) : Int) = (-2) := zc_eq (nI_toInt b9_30) rfl c_29
              exfalso; omega
          · have c_27 : ((n : Nat) : Int) = 1 := zc_eq (nI_toInt b9_28) rfl c_27
            exfalso; omega
        · have c_26 : ¬ rh.toInt = 0 := zc_ne rfl rfl c_26
          refine lv_aload_n hx hb dX4_isAsBefore_46 rfl (lv_at hl 2 rfl) ?_
          refine lv_aload_n hx hb dX4_isAsBefore_47 rfl (lv_at hl 1 rfl) ?_
          obtain ⟨hPc, hDc, hFc⟩ := zo_sub (wc := [_, _, _, _, _, _]) hP hD hS hA [13, 14, 15, 10, 11, 12] (by decide +kernel) rfl
          refine zcall (st1 := [.int (pI (inF 5 m2 U V (X 0).toInt (Y 0).toInt))]) (va_runS (As := [.ref u, .ref r]) (rest := []) ⟨hx, hb, hml, hown, hts⟩ (k_Law_isIn l dC dI cI cZ cF H.size u ux uy m2 cap2 U V rh r rx ry n cap X Y rg (by first | with_reducible assumption | omega) (by first | with_reducible assumption | omega) (hq) (by first | with_reducible assumption | omega) (by first | with_reducible assumption | omega) (hp) (by first | with_reducible assumption | omega)) (csS_61 hts rfl rfl ⟨Nat.le_of_ble_eq_true rfl, Nat.le_of_ble_eq_true rfl⟩) (zPS2 hPc hDc hK hXN) rfl rfl hl.1 rfl (lv_room (Nat.le_of_ble_eq_true rfl)) dX4_isAsBefore_48 ⟨Nat.le_of_ble_eq_true rfl, Nat.le_of_ble_eq_true rfl⟩) hS hFc hFc rfl (fun t H locs ht hB hk1 hS => ?_)
          obtain ⟨hP1, hD1⟩ := hB
          rw [ht] at hP1
          obtain ⟨hP, hD⟩ := zn (W2 := [_, _, _, _, _, _, _, _, _, _, _, _, _, _, _, _]) hP hD hk1 hFc hP1 hD1 [13, 14, 15, 10, 11, 12] [true, true, true, true, true, true, true, true, true, true] [true, true, true, true, true, true, true, true, true, true, false, false, false, false, false, false] [13, 14, 15, 10, 11, 12] (by decide +kernel) rfl rfl rfl rfl rfl
          clear hk1 hPc hDc hFc hP1 hD1 ht
          refine lv_aload_n hx hb dX4_isAsBefore_51 rfl (lv_at hl 2 rfl) ?_
          refine lv_aload_n hx hb dX4_isAsBefore_52 rfl (lv_at hl 0 rfl) ?_
          refine va_get (D := (dC, dI)) (ci := 3) (v := .ref dr) (C := RX4) (T := TX4) (N := 6) hx hb hts inX4 hown hK hP 0 rfl rfl 0 (Nat.le_of_ble_eq_true rfl) (hts _ mw_219) (fun _ h9 => h9) rfl dX4_isAsBefore_53 ?_
          obtain ⟨hPc, hDc, hFc⟩ := zo_sub (wc := [_, _, _, _, _, _]) hP hD hS hA [13, 14, 15, 7, 8, 9] (by decide +kernel) rfl
          refine zcall (st1 := [.int (pI (inF 5 m2 U V (P 0).toInt (Q 0).toInt)), .int (pI (inF 5 m2 U V (X 0).toInt (Y 0).toInt))]) (va_runS (As := [.ref u, .ref dr]) (rest := [.int (pI (inF 5 m2 U V (X 0).toInt (Y 0).toInt))]) ⟨hx, hb, hml, hown, hts⟩ (k_Law_isIn l dC dI cI cZ cF H.size u ux uy m2 cap2 U V rh dr dx dy nd cd P Q rd (by first | with_reducible assumption | omega) (by first | with_reducible assumption | omega) (hq) (by first | with_reducible assumption | omega) (by first | with_reducible assumption | omega) (hpd) (by first | with_reducible assumption | omega)) (csS_61 hts rfl rfl ⟨Nat.le_of_ble_eq_true rfl, Nat.le_of_ble_eq_true rfl⟩) (zPS2 hPc hDc hK hXN) rfl rfl hl.1 rfl (lv_room (Nat.le_of_ble_eq_true rfl)) dX4_isAsBefore_56 ⟨Nat.le_of_ble_eq_true rfl, Nat.le_of_ble_eq_true rfl⟩) hS hFc hFc rfl (fun t H locs ht hB hk1 hS => ?_)
          obtain ⟨hP1, hD1⟩ := hB
          rw [ht] at hP1
          obtain ⟨hP, hD⟩ := zn (W2 := [_, _, _, _, _, _, _, _, _, _, _, _, _, _, _, _]) hP hD hk1 hFc hP1 hD1 [13, 14, 15, 7, 8, 9] [true, true, true, true, true, true, true, false, false, false, true, true, true] [true, true, true, true, true, true, true, false, false, false, true, true, true, false, false, false] [13, 14, 15, 7, 8, 9] (by decide +kernel) rfl rfl rfl rfl rfl
          clear hk1 hPc hDc hFc hP1 hD1 ht
          refine lv_icmp_eq (tgt := 64) hx hb dX4_isAsBefore_59 rfl (fun c_37 => ?_) (fun c_37 => ?_)
          · have c_37 : (pI (inF 5 m2 U V (X 0).toInt (Y 0).toInt)).toInt = (pI (inF 5 m2 U V (P 0).toInt (Q 0).toInt)).toInt := zc_eq rfl rfl c_37
            refine lv_aload_n hx hb dX4_isAsBefore_64 rfl (lv_at hl 1 rfl) ?_
            refine va_get (D := (dC, dI)) (ci := 6) (v := .int (nI n)) (C := RX7) (T := TX7) (N := 4) hx hb hts inX7 hown hK hP 10 rfl rfl 2 (Nat.le_of_ble_eq_true rfl) (hts _ mw_176) (fun _ h9 => h9) rfl dX4_isAsBefore_65 ?_
            refine lv_iconst (v := 1) hx hb dX4_isAsBefore_68 rfl ?_
            have b9_39 : n < 2147483648 := by omega
            refine lv_icmp_ne (tgt := 79) hx hb dX4_isAsBefore_69 rfl (fun c_38 => ?_) (fun c_38 => ?_)
            · have c_38 : ¬ ((n : Nat) : Int) = 1 := zc_ne (nI_toInt b9_39) rfl c_38
              refine lv_iload_n hx hb dX4_isAsBefore_79 rfl (lv_at hl 3 rfl) ?_
              refine lv_bipush (v := (-2)) hx hb dX4_isAsBefore_80 rfl ?_
              have b9_41 : k < 2147483648 := by omega
              refine lv_icmp_ne (tgt := 87) hx hb dX4_isAsBefore_82 rfl (fun c_40 => ?_) (fun c_40 => ?_)
              · have c_40 : ¬ ((k : Nat) : Int) = (-2) := zc_ne (nI_toInt b9_41) rfl c_40
                refine lv_iload_n hx hb dX4_isAsBefore_87 rfl (lv_at hl 3 rfl) ?_
                refine lv_iconst (v := (-1)) hx hb dX4_isAsBefore_88 rfl ?_
                refine lv_icmp_ne (tgt := 109) hx hb dX4_isAsBefore_89 rfl (fun c_42 => ?_) (fun c_42 => ?_)
                · have c_42 : ¬ ((k : Nat) : Int) = (-1) := zc_ne (nI_toInt b9_41) rfl c_42
                  refine lv_aload_n hx hb dX4_isAsBefore_109 rfl (lv_at hl 0 rfl) ?_
                  refine lv_aload_n hx hb dX4_isAsBefore_110 rfl (lv_at hl 1 rfl) ?_
                  refine lv_aload_n hx hb dX4_isAsBefore_111 rfl (lv_at hl 2 rfl) ?_
                  refine lv_iload_n hx hb dX4_isAsBefore_112 rfl (lv_at hl 3 rfl) ?_
                  obtain ⟨hPc, hDc, hFc⟩ := zo_sub (wc := [_, _, _, _, _, _, _, _, _, _]) hP hD hS hA [0, 1, 2, 3, 10, 11, 12, 13, 14, 15] (by decide +kernel) rfl
                  refine zcall (st1 := [.int (pI (∃ j, j < m2 ∧ swC n X Y k (U j).toInt (V j).toInt))]) (va_runV (As := [.ref r, .ref u, .int (nI k)]) (rest := []) ⟨hx, hb, hml, hown, hts⟩ (k_Law_isSweptByCut l dC dI cI cZ cF H.size lw dr tg wy br bo aa tx ty nt TX TY rt r rx ry n cap X Y rg u ux uy m2 cap2 U V rh k (by first | with_reducible assumption | omega) (by first | with_reducible assumption | omega) (by first | with_reducible assumption | assumption) (by first | with_reducible assumption | omega) (by first | with_reducible assumption | omega) (by first | with_reducible assumption | assumption) (by first | with_reducible assumption | omega)) (csV_60 hts rfl rfl ⟨Nat.le_of_ble_eq_true rfl, Nat.le_of_ble_eq_true rfl⟩) (zPV2 (q0 := 0) (ci := 3) hPc hDc hK hXN rfl rfl) rfl rfl hl.1 rfl (lv_room (Nat.le_of_ble_eq_true rfl)) dX4_isAsBefore_113 ⟨Nat.le_of_ble_eq_true rfl, Nat.le_of_ble_eq_true rfl⟩) hS hFc hFc rfl (fun t H locs ht hB hk1 hS => ?_)
                  obtain ⟨q_43, q_44, q_45, q_46, hP1, hD1⟩ := hB
                  rw [ht] at hP1
                  obtain ⟨hP, hD⟩ := zn (W2 := [_, (oc6 tg (.ref tx) (.ref ty) (nI q_43) q_46), (oa tx cI 3 q_44), (oa ty cI 3 q_45), _, _, _, _, _, _, _, _, _, _, _, _]) hP hD hk1 hFc hP1 hD1 [0, 1, 2, 3, 10, 11, 12, 13, 14, 15] [false, false, false, false, true, true, true, true, true, true] [false, false, false, false, true, true, true, true, true, true, false, false, false, false, false, false] [0, 1, 2, 3, 10, 11, 12, 13, 14, 15] (by decide +kernel) rfl rfl rfl rfl rfl
                  clear hk1 hPc hDc hFc hP1 hD1 ht
                  refine lv_if_ne (tgt := 123) hx hb dX4_isAsBefore_116 rfl (fun c_47 => ?_) (fun c_47 => ?_)
                  · have c_47 : ∃ j, j < m2 ∧ swC n X Y k (U j).toInt (V j).toInt := zp_1 c_47
                    refine lv_iconst (v := 0) hx hb dX4_isAsBefore_123 rfl ?_
                    obtain ⟨hP9, hD9⟩ := zu_sub (wc := [_, _, _, _, _, _, _, _, _, _, _, _, _, _, _, _]) hP hD [true, true, true, true, true, true, true, true, true, true, true, true, true, true, true, true] rfl rfl
                    rw [hQ9]
                    exact W.zret (ty := .boolean) (v := 0) hx hb hr (rfl) (fun t ht hW => ⟨⟨congrArg (fun z => Outcome.returned (some (Value.int z))) (show (0 : Int32) = pI (asb n X Y rg nd P Q rd m2 U V rh ∧ (¬ (∃ j, j < m2 ∧ swC n X Y k (U j).toInt (V j).toInt))) from (zp_f (by first | exact ⟨⟨zp_ieq.mp (by first | with_reducible assumption | assumption), fun h9 => by first | with_reducible assumption | assumption | exact absurd (by first | with_reducible assumption | assumption) h9, fun h9 => by first | exact zp_ieq.mp (by first | with_reducible assumption | assumption) | exact absurd (by first | with_reducible assumption | assumption) h9⟩, by assumption⟩ | exact fun h => absurd (by first | with_reducible assumption | assumption) h.2)).symm), q_43, q_44, q_45, q_46, nw, WX, WY, rw, by rw [ht]; exact hP9, hD9⟩, hS.F ht⟩) hS.2.2 dX4_isAsBefore_124
                  · have c_47 : ¬ (∃ j, j < m2 ∧ swC n X Y k (U j).toInt (V j).toInt) := zp_0 c_47
                    refine lv_iconst (v := 1) hx hb dX4_isAsBefore_119 rfl ?_
                    refine lv_goto (tgt := 124) hx hb dX4_isAsBefore_120 rfl ?_
                    obtain ⟨hP9, hD9⟩ := zu_sub (wc := [_, _, _, _, _, _, _, _, _, _, _, _, _, _, _, _]) hP hD [true, true, true, true, true, true, true, true, true, true, true, true, true, true, true, true] rfl rfl
                    rw [hQ9]
                    exact W.zret (ty := .boolean) (v := 1) hx hb hr (rfl) (fun t ht hW => ⟨⟨congrArg (fun z => Outcome.returned (some (Value.int z))) (show (1 : Int32) = pI (asb n X Y rg nd P Q rd m2 U V rh ∧ (¬ (∃ j, j < m2 ∧ swC n X Y k (U j).toInt (V j).toInt))) from (zp_t (by first | exact ⟨⟨zp_ieq.mp (by first | with_reducible assumption | assumption), fun h9 => by first | with_reducible assumption | assumption | exact absurd (by first | with_reducible assumption | assumption) h9, fun h9 => by first | exact zp_ieq.mp (by first | with_reducible assumption | assumption) | exact absurd (by first | with_reducible assumption | assumption) h9⟩, by assumption⟩ | exact fun h => absurd (by first | with_reducible assumption | assumption) h.2)).symm), q_43, q_44, q_45, q_46, nw, WX, WY, rw, by rw [ht]; exact hP9, hD9⟩, hS.F ht⟩) hS.2.2 dX4_isAsBefore_124
                · have c_42 : ((k : Nat) : Int) = (-1) := zc_eq (nI_toInt b9_41) rfl c_42
                  exfalso; omega
              · have c_40 : ((k : Nat) : Int) = (-2) := zc_eq (nI_toInt b9_41) rfl c_40
                exfalso; omega
            · have c_38 : ((n : Nat) : Int) = 1 := zc_eq (nI_toInt b9_39) rfl c_38
              exfalso; omega
          · have c_37 : ¬ (pI (inF 5 m2 U V (X 0).toInt (Y 0).toInt)).toInt = (pI (inF 5 m2 U V (P 0).toInt (Q 0).toInt)).toInt := zc_ne rfl rfl c_37
            refine lv_iconst (v := 0) hx hb dX4_isAsBefore_62 rfl ?_
            obtain ⟨hP9, hD9⟩ := zu_sub (wc := [_, _, _, _, _, _, _, _, _, _, _, _, _, _, _, _]) hP hD [true, true, true, true, true, true, true, true, true, true, true, true, true, true, true, true] rfl rfl
            rw [hQ9]
            exact W.zret (ty := .boolean) (v := 0) hx hb hr (rfl) (fun t ht hW => ⟨⟨congrArg (fun z => Outcome.returned (some (Value.int z))) (show (0 : Int32) = pI (asb n X Y rg nd P Q rd m2 U V rh ∧ (¬ (∃ j, j < m2 ∧ swC n X Y k (U j).toInt (V j).toInt))) from (zp_f (fun h => absurd (zp_ieq.mpr (h.1.2.2 (by first | with_reducible assumption | assumption))) (by first | with_reducible assumption | assumption))).symm), nt, TX, TY, rt, nw, WX, WY, rw, by rw [ht]; exact hP9, hD9⟩, hS.F ht⟩) hS.2.2 dX4_isAsBefore_63
      · have c_25 : ¬ (∀ k, k < m2 → (inF 5 n X Y (U k).toInt (V k).toInt ↔ inF 5 nd P Q (U k).toInt (V k).toInt)) := zp_0 c_25
        refine lv_iconst (v := 0) hx hb dX4_isAsBefore_37 rfl ?_
        obtain ⟨hP9, hD9⟩ := zu_sub (wc := [_, _, _, _, _, _, _, _, _, _, _, _, _, _, _, _]) hP hD [true, true, true, true, true, true, true, true, true, true, true, true, true, true, true, true] rfl rfl
        rw [hQ9]
        exact W.zret (ty := .boolean) (v := 0) hx hb hr (rfl) (fun t ht hW => ⟨⟨congrArg (fun z => Outcome.returned (some (Value.int z))) (show (0 : Int32) = pI (asb n X Y rg nd P Q rd m2 U V rh ∧ (¬ (∃ j, j < m2 ∧ swC n X Y k (U j).toInt (V j).toInt))) from (zp_f (fun h => absurd (h.1.2.1 (by first | with_reducible assumption | assumption)) (by first | with_reducible assumption | assumption))).symm), nt, TX, TY, rt, nw, WX, WY, rw, by rw [ht]; exact hP9, hD9⟩, hS.F ht⟩) hS.2.2 dX4_isAsBefore_38
  · have c_1 : ¬ (pI (∃ i, i < prt n rg ∧ ∃ j, j < prt m2 rh ∧ eMt n X Y i m2 U V j)).toInt = (pI (∃ i, i < prt nd rd ∧ ∃ j, j < prt m2 rh ∧ eMt nd P Q i m2 U V j)).toInt := zc_ne rfl rfl c_1
    refine lv_iconst (v := 0) hx hb dX4_isAsBefore_16 rfl ?_
    obtain ⟨hP9, hD9⟩ := zu_sub (wc := [_, _, _, _, _, _, _, _, _, _, _, _, _, _, _, _]) hP hD [true, true, true, true, true, true, true, true, true, true, true, true, true, true, true, true] rfl rfl
    rw [hQ9]
    exact W.zret (ty := .boolean) (v := 0) hx hb hr (rfl) (fun t ht hW => ⟨⟨congrArg (fun z => Outcome.returned (some (Value.int z))) (show (0 : Int32) = pI (asb n X Y rg nd P Q rd m2 U V rh ∧ (¬ (∃ j, j < m2 ∧ swC n X Y k (U j).toInt (V j).toInt))) from (zp_f (fun h => absurd (zp_ieq.mpr h.1.1) (by first | with_reducible assumption | assumption))).symm), nt, TX, TY, rt, nw, WX, WY, rw, by rw [ht]; exact hP9, hD9⟩, hS.F ht⟩) hS.2.2 dX4_isAsBefore_17
end
section
/-! cells out of a pool, and back -/
theorem vaP_mem {D : va_G} {cl : List vw_C} {ws : va_W} {H : Heap} : va_P D cl ws H ↔ ∀ q ∈ ws, va_at D cl q H :=
  ⟨fun h q hq => by obtain ⟨k, hk⟩ := List.getElem?_of_mem hq; exact h k q hk, fun h k q hk => h q (List.mem_of_getElem? hk)⟩
theorem vaD_mem {A : Nat → Prop} {ws : va_W} : va_D A ws ↔ ws.Pairwise (fun p q => p.1 ≠ q.1) ∧ ∀ q ∈ ws, A q.1 := by
  constructor
  · intro h
    refine ⟨List.pairwise_iff_getElem.mpr fun i j hi hj hij e => ?_, fun q hq => ?_⟩
    · have := h.1 i j _ _ (List.getElem?_eq_getElem hi) (List.getElem?_eq_getElem hj) e; omega
    · obtain ⟨k, hk⟩ := List.getElem?_of_mem hq; exact h.2 k q hk
  · intro h
    refine ⟨fun i j p q hp hq e => ?_, fun k q hk => h.2 q (List.mem_of_getElem? hk)⟩
    obtain ⟨hi, ep⟩ := List.getElem?_eq_some_iff.mp hp
    obtain ⟨hj, eq⟩ := List.getElem?_eq_some_iff.mp hq
    have hw := List.pairwise_iff_getElem.mp h.1
    rcases Nat.lt_trichotomy i j with g | g | g
    · exact absurd (by rw [ep, eq]; exact e) (hw i j hi hj g)
    · exact g
    · exact absurd (by rw [ep, eq]; exact e.symm) (hw j i hj hi g)
/-- cells of a pool -/
def inPl (L : List Nat) (f : Nat → va_E) : va_W → Prop
  | [] => True
  | c :: cs => (c.1 ∈ L ∧ f c.1 = c.2) ∧ inPl L f cs
theorem inPl_mem {L : List Nat} {f : Nat → va_E} : ∀ {cs : va_W}, inPl L f cs → ∀ c ∈ cs, c.1 ∈ L ∧ f c.1 = c.2
  | c :: cs, h, d, hd => by
    rcases List.mem_cons.mp hd with e | e
    · rw [e]; exact h.1
    · exact inPl_mem h.2 d e
/-- what is left of a pool -/
def outPl (L : List Nat) (cs : va_W) : List Nat := L.filter (fun a => decide (a ∉ cs.map Prod.fst))
theorem outPl_mem {L : List Nat} {cs : va_W} {a : Nat} : a ∈ outPl L cs ↔ a ∈ L ∧ a ∉ cs.map Prod.fst := by
  unfold outPl; rw [List.mem_filter]; exact and_congr_right fun _ => decide_eq_true_iff
theorem pl_mem {L : List Nat} {f : Nat → va_E} {q : Nat × va_E} : q ∈ va_pl L f ↔ q.1 ∈ L ∧ f q.1 = q.2 := by
  unfold va_pl; rw [List.mem_map]
  exact ⟨fun ⟨a, ha, e⟩ => by rw [← e]; exact ⟨ha, rfl⟩, fun ⟨h1, h2⟩ => ⟨q.1, h1, by rw [h2]⟩⟩
theorem pl_out {D : va_G} {cl : List vw_C} {A : Nat → Prop} {X : va_W} {L : List Nat} {f : Nat → va_E} {H : Heap} (hP : va_P D cl (X ++ va_pl L f) H) (hD : va_D A (X ++ va_pl L f)) (cs : va_W) (hc : inPl L f cs) (hn : cs.Pairwise (fun p q => p.1 ≠ q.1)) :
    va_P D cl ((X ++ cs) ++ va_pl (outPl L cs) f) H ∧ va_D A ((X ++ cs) ++ va_pl (outPl L cs) f) := by
  have hm : ∀ q, q ∈ (X ++ cs) ++ va_pl (outPl L cs) f → q ∈ X ++ va_pl L f := fun q hq => by
    rcases List.mem_append.mp hq with hq | hq
    · rcases List.mem_append.mp hq with hq | hq
      · exact List.mem_append.mpr (Or.inl hq)
      · exact List.mem_append.mpr (Or.inr (pl_mem.mpr (inPl_mem hc q hq)))
    · have := pl_mem.mp hq
      exact List.mem_append.mpr (Or.inr (pl_mem.mpr ⟨(outPl_mem.mp this.1).1, this.2⟩))
  refine ⟨vaP_mem.mpr fun q hq => vaP_mem.mp hP q (hm q hq), vaD_mem.mpr ⟨?_, fun q hq => (vaD_mem.mp hD).2 q (hm q hq)⟩⟩
  have hw := List.pairwise_append.mp (vaD_mem.mp hD).1
  refine List.pairwise_append.mpr ⟨List.pairwise_append.mpr ⟨hw.1, hn, fun p hp q hq => hw.2.2 p hp q (pl_mem.mpr (inPl_mem hc q hq))⟩, ?_, fun p hp q hq e => ?_⟩
  · have hs : List.Sublist (va_pl (outPl L cs) f) (va_pl L f) := by unfold va_pl outPl; exact (List.filter_sublist).map _
    exact hw.2.1.sublist hs
  · have hq2 := pl_mem.mp hq
    have hq3 := outPl_mem.mp hq2.1
    rcases List.mem_append.mp hp with hp | hp
    · exact hw.2.2 p hp q (pl_mem.mpr ⟨hq3.1, hq2.2⟩) e
    · exact hq3.2 (by rw [← e]; exact List.mem_map.mpr ⟨p, hp, rfl⟩)
/-- nothing was written: the pool as it was -/
theorem pl_back {D : va_G} {cl : List vw_C} {X : va_W} {L : List Nat} {f : Nat → va_E} {H : Heap} {cs : va_W} (hP : va_P D cl ((X ++ cs) ++ va_pl (outPl L cs) f) H) (hc : inPl L f cs) : va_P D cl (X ++ va_pl L f) H := by
  refine vaP_mem.mpr fun q hq => vaP_mem.mp hP q ?_
  rcases List.mem_append.mp hq with hq | hq
  · exact List.mem_append.mpr (Or.inl (List.mem_append.mpr (Or.inl hq)))
  · have h := pl_mem.mp hq
    by_cases e : q.1 ∈ cs.map Prod.fst
    · obtain ⟨c, hc2, e2⟩ := List.mem_map.mp e
      have h3 := (inPl_mem hc c hc2).2
      have : q = c := Prod.ext e2.symm (by rw [← h.2, ← h3, e2])
      rw [this]; exact List.mem_append.mpr (Or.inl (List.mem_append.mpr (Or.inr hc2)))
    · exact List.mem_append.mpr (Or.inr (pl_mem.mpr ⟨outPl_mem.mpr ⟨h.1, e⟩, h.2⟩))
/-- a pool with some cells' contents anew -/
def plU (f : Nat → va_E) : va_W → Nat → va_E
  | [] => f
  | c :: cs => va_up (plU f cs) c.1 c.2
theorem plU_o {f : Nat → va_E} : ∀ {cs : va_W} {a : Nat}, a ∉ cs.map Prod.fst → plU f cs a = f a
  | [], _, _ => rfl
  | c :: cs, a, h => by
    show va_up (plU f cs) c.1 c.2 a = f a
    unfold va_up
    rw [if_neg (fun e => h (by rw [e]; exact List.mem_cons_self ..))]
    exact plU_o (fun e => h (List.mem_cons_of_mem _ e))
theorem plU_at {f : Nat → va_E} : ∀ {cs : va_W}, cs.Pairwise (fun p q => p.1 ≠ q.1) → ∀ c ∈ cs, plU f cs c.1 = c.2
  | c :: cs, hw, d, hd => by
    have hw := List.pairwise_cons.mp hw
    show va_up (plU f cs) c.1 c.2 d.1 = d.2
    unfold va_up
    rcases List.mem_cons.mp hd with e | e
    · rw [e, if_pos rfl]
    · rw [if_neg (fun g => hw.1 d e g.symm)]; exact plU_at hw.2 d e
/-- what was written goes back into the pool, what is new goes in too -/
theorem pl_in {D : va_G} {cl : List vw_C} {A : Nat → Prop} {X cs : va_W} {R : List Nat} {f : Nat → va_E} {H : Heap} (hP : va_P D cl ((X ++ cs) ++ va_pl R f) H) (hD : va_D A ((X ++ cs) ++ va_pl R f)) :
    va_P D cl (X ++ va_pl (cs.map Prod.fst ++ R) (plU f cs)) H ∧ va_D A (X ++ va_pl (cs.map Prod.fst ++ R) (plU f cs)) := by
  have hw := List.pairwise_append.mp (vaD_mem.mp hD).1
  have hw2 := List.pairwise_append.mp hw.1
  have e : (X ++ cs) ++ va_pl R f = X ++ va_pl (cs.map Prod.fst ++ R) (plU f cs) := by
    rw [List.append_assoc]
    congr 1
    unfold va_pl
    rw [List.map_append, List.map_map]
    congr 1
    · exact (List.map_id cs).symm.trans (List.map_congr_left (f := id) (g := (fun a => (a, plU f cs a)) ∘ Prod.fst) (fun c hc => Prod.ext rfl (plU_at hw2.2.1 c hc).symm))
    · refine List.map_congr_left fun a ha => Prod.ext rfl (plU_o fun g => ?_).symm
      obtain ⟨c, hc, e2⟩ := List.mem_map.mp g
      exact hw.2.2 c (List.mem_append.mpr (Or.inr hc)) (a, f a) (pl_mem.mpr ⟨ha, rfl⟩) e2
  rw [← e]; exact ⟨hP, hD⟩
theorem cl_ne {f : Nat → va_E} {a b i j : Nat} {x y : List Value} (h1 : f a = .inr (i, x)) (h2 : f b = .inr (j, y)) (h : i ≠ j) : a ≠ b := fun e => by
  rw [e, h2] at h1; exact h (Prod.mk.inj (Sum.inr.inj h1)).1.symm
theorem ca_ne {f : Nat → va_E} {a b i : Nat} {x : List Value} {y : ClassId × vp_A} (h1 : f a = .inr (i, x)) (h2 : f b = .inl y) : a ≠ b := fun e => by
  rw [e, h2] at h1; exact absurd h1 (by intro g; cases g)
end
section
/-! a feature as the class holds it, among cells of a pool -/
theorem vaD_ad {A : Nat → Prop} {ws ws' : va_W} (h : ws.map Prod.fst = ws'.map Prod.fst) (hD : va_D A ws) : va_D A ws' := by
  rw [vaD_mem] at hD ⊢
  have e : ∀ v : va_W, v.Pairwise (fun p q => p.1 ≠ q.1) ↔ (v.map Prod.fst).Pairwise (· ≠ ·) := fun v => List.pairwise_map.symm
  refine ⟨(e ws').mpr (by rw [← h]; exact (e ws).mp hD.1), fun q hq => ?_⟩
  have hm : q.1 ∈ ws.map Prod.fst := by rw [h]; exact List.mem_map.mpr ⟨q, hq, rfl⟩
  obtain ⟨p, hp, ep⟩ := List.mem_map.mp hm
  rw [← ep]; exact hD.2 p hp
theorem pl_sep {A : Nat → Prop} {X : va_W} {L : List Nat} {f : Nat → va_E} {q : Nat × va_E} {a : Nat} (hD : va_D A (X ++ va_pl L f)) (hq : q ∈ X) (ha : a ∈ L) : ¬ a = q.1 := fun e =>
  (List.pairwise_append.mp (vaD_mem.mp hD).1).2.2 q hq (a, f a) (pl_mem.mpr ⟨ha, rfl⟩) e.symm
/-- a row's cells -/
def rwA (cI : ClassId) (L : List Nat) (f : Nat → va_E) (r rx ry n cap : Nat) (X Y : Nat → Int32) (rg : Int32) : Prop :=
  (r ∈ L ∧ f r = .inr (6, [.ref rx, .ref ry, .int (nI n), .int rg])) ∧ (rx ∈ L ∧ f rx = .inl (cI, cap, .inl X)) ∧ (ry ∈ L ∧ f ry = .inl (cI, cap, .inl Y)) ∧ rx ≠ ry
/-- how a row stands for a feature's corners -/
def rwR (kd mn cx cy : Nat → Int32) (i cap : Nat) (X Y : Nat → Int32) (rg : Int32) : Prop :=
  nN (mn i) ≤ cap ∧ cap ≤ 40 ∧ (rg = 0 ∨ rg = 1) ∧ rg.toInt = (if 5 ≤ (kd i).toInt then 1 else 0) ∧ ∀ k, k < nN (mn i) → X k = cF40 cx i k ∧ Y k = cF40 cy i k
/-- feature i: there, and not torn -/
def vwL (cI : ClassId) (L : List Nat) (f : Nat → va_E) (FA : Nat → Option Nat) (kd st mn cx cy : Nat → Int32) (i : Nat) : Prop :=
  ∃ (fe lk lo : Nat) (rk wd tw pa pb gb jt we : Int32) (fm : Value) (r rx ry cap : Nat) (X Y : Nat → Int32) (rg : Int32),
    FA i = some fe ∧ (fe ∈ L ∧ f fe = .inr (1, [.int rk, .int wd, .int tw, .int pa, .int pb, .ref lo, .ref lk, fm])) ∧ (lk ∈ L ∧ f lk = .inr (4, [.int (kd i), .int (st i), .ref r, .int gb, .int jt, .int we])) ∧ rwA cI L f r rx ry (nN (mn i)) cap X Y rg ∧ rwR kd mn cx cy i cap X Y rg
/-- feature i: any look -/
def vwS (L : List Nat) (f : Nat → va_E) (FA : Nat → Option Nat) (kd st : Nat → Int32) (i : Nat) : Prop :=
  ∃ (fe lk lo : Nat) (rk wd tw pa pb gb jt we : Int32) (fm rw : Value),
    FA i = some fe ∧ (fe ∈ L ∧ f fe = .inr (1, [.int rk, .int wd, .int tw, .int pa, .int pb, .ref lo, .ref lk, fm])) ∧ (lk ∈ L ∧ f lk = .inr (4, [.int (kd i), .int (st i), rw, .int gb, .int jt, .int we]))
/-- feature i: torn -/
def vwT (L : List Nat) (f : Nat → va_E) (FA : Nat → Option Nat) (kd st : Nat → Int32) (i : Nat) : Prop :=
  ∃ (fe lk lo : Nat) (rk wd tw pa pb gb jt we : Int32) (fm : Value),
    FA i = some fe ∧ (fe ∈ L ∧ f fe = .inr (1, [.int rk, .int wd, .int tw, .int pa, .int pb, .ref lo, .ref lk, fm])) ∧ (lk ∈ L ∧ f lk = .inr (4, [.int (kd i), .int (st i), .null, .int gb, .int jt, .int we]))
/-- feature i as the reference has it -/
def vwO (cI : ClassId) (L : List Nat) (f : Nat → va_E) (FA : Nat → Option Nat) (kd st tn mn cx cy : Nat → Int32) (i : Nat) : Prop :=
  vwS L f FA kd st i ∧ (¬ (tn i).toInt = 0 → vwT L f FA kd st i) ∧ ((tn i).toInt = 0 → vwL cI L f FA kd st mn cx cy i)
theorem vw4 {cI : ClassId} {L : List Nat} {f : Nat → va_E} {FA : Nat → Option Nat} {kd st tn mn cx cy : Nat → Int32} {i f0 ft : Nat} (h : i < ft → i ≠ f0 → vwO cI L f FA kd st tn mn cx cy i) (hi : i < ft) :
    i = f0 ∨ (i ≠ f0 ∧ ¬ (st i).toInt = 1 ∧ vwS L f FA kd st i) ∨ (i ≠ f0 ∧ ¬ (tn i).toInt = 0 ∧ vwT L f FA kd st i) ∨ (i ≠ f0 ∧ lvF ft st tn i ∧ vwL cI L f FA kd st mn cx cy i) := by
  by_cases e : i = f0
  · exact Or.inl e
  · have v := h hi e
    by_cases s1 : (st i).toInt = 1
    · by_cases t0 : (tn i).toInt = 0
      · exact Or.inr (Or.inr (Or.inr ⟨e, ⟨hi, s1, t0⟩, v.2.2 t0⟩))
      · exact Or.inr (Or.inr (Or.inl ⟨e, t0, v.2.1 t0⟩))
    · exact Or.inr (Or.inl ⟨e, s1, v.1⟩)
theorem pw2 {a b : Nat} {x y : va_E} (h : a ≠ b) : List.Pairwise (fun p q : Nat × va_E => p.1 ≠ q.1) [(a, x), (b, y)] := by
  simp [h]
theorem pwF {f : Nat → va_E} {fe lk : Nat} {x1 x2 : List Value} {e1 e2 : va_E} (h1 : f fe = .inr (1, x1)) (h2 : f lk = .inr (4, x2)) : List.Pairwise (fun p q : Nat × va_E => p.1 ≠ q.1) [(fe, e1), (lk, e2)] := pw2 (cl_ne h1 h2 (by decide))
theorem pwR {f : Nat → va_E} {fe lk r rx ry : Nat} {x1 x2 x3 : List Value} {y1 y2 : ClassId × vp_A} {e1 e2 e3 e4 e5 : va_E} (h1 : f fe = .inr (1, x1)) (h2 : f lk = .inr (4, x2)) (h3 : f r = .inr (6, x3)) (h4 : f rx = .inl y1) (h5 : f ry = .inl y2) (h : rx ≠ ry) :
    List.Pairwise (fun p q : Nat × va_E => p.1 ≠ q.1) [(fe, e1), (lk, e2), (r, e3), (rx, e4), (ry, e5)] := by
  have a1 := cl_ne h1 h2 (by decide); have a2 := cl_ne h1 h3 (by decide); have a3 := ca_ne h1 h4; have a4 := ca_ne h1 h5
  have b1 := cl_ne h2 h3 (by decide); have b2 := ca_ne h2 h4; have b3 := ca_ne h2 h5
  have c1 := ca_ne h3 h4; have c2 := ca_ne h3 h5
  simp [a1, a2, a3, a4, b1, b2, b3, c1, c2, h]
/-- those that are there have corners enough -/
def okN (ft : Nat) (st tn kd mn : Nat → Int32) : Prop := ∀ q, lvF ft st tn q → ((kd q).toInt = 0 ∧ nN (mn q) = 1) ∨ (¬ (kd q).toInt = 0 ∧ 2 ≤ nN (mn q))
theorem prt_eO {kd : Int} {n : Nat} {rg : Int32} (hr : rg.toInt = if 5 ≤ kd then 1 else 0) (h : (kd = 0 ∧ n = 1) ∨ (¬ kd = 0 ∧ 2 ≤ n)) : prt n rg = eO kd n := by
  rcases h with ⟨h1, h2⟩ | ⟨h1, h2⟩
  · subst h1 h2; unfold prt eO; rw [if_pos rfl, if_pos rfl]
  · unfold prt; rw [if_neg (by omega)]; exact edg_eO hr h1 h2
theorem on_iff {kd mn cx cy : Nat → Int32} {i cap : Nat} {X Y : Nat → Int32} {rg : Int32} {x y : Int} (h : rwR kd mn cx cy i cap X Y rg) (h2 : ((kd i).toInt = 0 ∧ nN (mn i) = 1) ∨ (¬ (kd i).toInt = 0 ∧ 2 ≤ nN (mn i))) :
    (∃ j, j < prt (nN (mn i)) rg ∧ eOn (nN (mn i)) X Y j x y) ↔ onF kd mn cx cy i x y := by
  unfold onF
  rw [prt_eO h.2.2.2.1 h2]
  have he := eO_le (k := (kd i).toInt) (n := nN (mn i)) (by omega)
  exact exists_congr fun j => and_congr_right fun hj => by rw [eOn_cg h.2.2.2.2 (by omega)]
theorem rw_pls {kd mn cx cy : Nat → Int32} {i cap : Nat} {X Y : Nat → Int32} {rg : Int32} (h : rwR kd mn cx cy i cap X Y rg) (hw : wfM mn cx cy i) : pls (nN (mn i)) X Y := (pls_cg h.2.2.2.2).mpr hw.2.2
end
section
/-! cells back into the pool, the world with holes -/
theorem pl_bk {D : va_G} {cl : List vw_C} {A : Nat → Prop} {X W1 W0 cs : va_W} {L T : List Nat} {f : Nat → va_E} {H : Heap} (hT : outPl L cs = T) (hP : va_P D cl (W1 ++ va_pl T f) H) (hW : W1 = X ++ cs) (hc : inPl L f cs) (hD0 : va_D A W0) (ha : W0.map Prod.fst = (X ++ va_pl L f).map Prod.fst) : va_P D cl (X ++ va_pl L f) H ∧ va_D A (X ++ va_pl L f) := by
  subst hT
  subst hW
  exact ⟨pl_back hP hc, vaD_ad ha hD0⟩
end
section
set_option maxHeartbeats 4000000 in
set_option maxRecDepth 100000 in
theorem k_Sheet_rowThere_yv (l : Launch) (dC : Nat → ClassId) (dI : Nat → Nat → Nat) (cI cZ cF : ClassId) (sz : Nat) (sh : Nat) (fa : Nat) (ft : Nat) (FA : Nat → Option Nat) (i : Nat) (fe : Nat) (lo : Nat) (rk9 : Int32) (wd9 : Int32) (tw9 : Int32) (pa9 : Int32) (pb9 : Int32) (lk : Nat) (kd9 : Int32) (st9 : Int32) (gb9 : Int32) (jt9 : Int32) (we9 : Int32) (r : Nat) (fm9 : Value) (h200 : ft ≤ 200) (hi : i < ft) (hFA : FA i = some fe) (hs1 : st9.toInt = 1) : zM l yX8_rowThere cX8_rowThere 3 (some (.object "ScaleShop$Row")) ({ frames := 1, cells := 0, slots := 0, locals := 21 } : Room) [.ref sh, .int (nI i)] (dC, dI) (zTy cI cZ cF) [(oc7 sh (.ref fa) (nI ft)), (oq fa cF 200 FA), (oc1 fe rk9 wd9 tw9 pa9 pb9 (.ref lo) (.ref lk) fm9), (oc4 lk kd9 st9 (.ref r) gb9 jt9 we9)] sz (some (.ref r)) (fun A t => zPD (dC, dI) classes A [(oc7 sh (.ref fa) (nI ft)), (oq fa cF 200 FA), (oc1 fe rk9 wd9 tw9 pa9 pb9 (.ref lo) (.ref lk) fm9), (oc4 lk kd9 st9 (.ref r) gb9 jt9 we9)] t.heap) 0 0 := by
  refine zIn (own := "ScaleShop$Sheet") (loc := [(0, .ref sh), (1, .int (nI i))]) rfl rfl rfl rfl (fun p e s m below meth c hx hb hr hts hown hlocks hml hnm9 A hA hS hP hD hK hXN Q9 hQ9 ls hl => ?_)
  refine lv_aload_n hx hb dX8_rowThere_0 rfl (lv_at hl 0 rfl) ?_
  refine lv_iload_n hx hb dX8_rowThere_1 rfl (lv_at hl 1 rfl) ?_
  obtain ⟨hPc, hDc, hFc⟩ := zo_sub (wc := [_, _]) hP hD hS hA [0, 1] rfl rfl
  refine zcall (st1 := [.ref fe]) (va_runV (As := [.int (nI i)]) (rest := []) ⟨hx, hb, hml, hown, hts⟩ (k_Sheet_find l dC dI cI cZ cF s.heap.size sh fa ft FA i fe (by first | with_reducible assumption | omega) (by first | with_reducible assumption | omega) (hFA)) (csV_36 hts rfl rfl ⟨Nat.le_of_ble_eq_true rfl, Nat.le_of_ble_eq_true rfl⟩) (zPV2 (q0 := 0) (ci := 7) hPc hDc hK hXN rfl rfl) rfl rfl hl.1 rfl (lv_room (Nat.le_of_ble_eq_true rfl)) dX8_rowThere_2 ⟨Nat.le_of_ble_eq_true rfl, Nat.le_of_ble_eq_true rfl⟩) hS hFc hFc rfl (fun t H locs ht hB hk1 hS => ?_)
  obtain ⟨hP1, hD1⟩ := hB
  rw [ht] at hP1
  obtain ⟨hP, hD⟩ := zn (W2 := [_, _, _, _]) hP hD hk1 hFc hP1 hD1 [0, 1] [false, false, true, true] [false, false, true, true] [0, 1] (by decide +kernel) rfl rfl rfl rfl rfl
  clear hk1 hPc hDc hFc hP1 hD1 ht
  refine lv_astore_n (lv' := [(2, .ref fe), (0, .ref sh), (1, .int (nI i))]) hx hb dX8_rowThere_5 rfl hl (Nat.le_of_ble_eq_true rfl) rfl (fun ls hl => ?_)
  refine lv_aload_n hx hb dX8_rowThere_6 rfl (lv_at hl 0 rfl) ?_
  refine lv_ifnull hx hb dX8_rowThere_7 ?_
  refine lv_aload_n hx hb dX8_rowThere_10 rfl (lv_at hl 0 rfl) ?_
  refine va_get (D := (dC, dI)) (ci := 1) (v := .ref lk) (C := RX2) (T := TX2) (N := 8) hx hb hts inX2 hown hK hP 2 rfl rfl 6 (Nat.le_of_ble_eq_true rfl) (hts _ mw_434) (fun _ h9 => h9) rfl dX8_rowThere_11 ?_
  refine va_get (D := (dC, dI)) (ci := 4) (v := .int st9) (C := RX5) (T := TX5) (N := 6) hx hb hts inX5 hown hK hP 3 rfl rfl 1 (Nat.le_of_ble_eq_true rfl) (hts _ mw_387) (fun _ h9 => h9) rfl dX8_rowThere_14 ?_
  refine lv_iconst (v := 1) hx hb dX8_rowThere_17 rfl ?_
  refine lv_icmp_ne (tgt := 31) hx hb dX8_rowThere_18 rfl (fun c_1 => ?_) (fun c_1 => ?_)
  · have c_1 : ¬ st9.toInt = 1 := zc_ne rfl rfl c_1
    exfalso; omega
  · have c_1 : st9.toInt = 1 := zc_eq rfl rfl c_1
    refine lv_aload_n hx hb dX8_rowThere_21 rfl (lv_at hl 0 rfl) ?_
    refine va_get (D := (dC, dI)) (ci := 1) (v := .ref lk) (C := RX2) (T := TX2) (N := 8) hx hb hts inX2 hown hK hP 2 rfl rfl 6 (Nat.le_of_ble_eq_true rfl) (hts _ mw_434) (fun _ h9 => h9) rfl dX8_rowThere_22 ?_
    refine va_get (D := (dC, dI)) (ci := 4) (v := .ref r) (C := RX5) (T := TX5) (N := 6) hx hb hts inX5 hown hK hP 3 rfl rfl 2 (Nat.le_of_ble_eq_true rfl) (hts _ mw_393) (fun _ h9 => h9) rfl dX8_rowThere_25 ?_
    refine lv_goto (tgt := 32) hx hb dX8_rowThere_28 rfl ?_
    obtain ⟨hP9, hD9⟩ := zu_sub (wc := [_, _, _, _]) hP hD [true, true, true, true] rfl rfl
    rw [hQ9]
    exact W.aret hx hb hr (Or.inl ⟨_, rfl⟩) (Or.inr ⟨_, rfl⟩) (fun t ht hW => ⟨⟨rfl, by rw [ht]; exact hP9, hD9⟩, hS.F ht⟩) hS.2.2 dX8_rowThere_32
set_option maxHeartbeats 4000000 in
set_option maxRecDepth 100000 in
theorem k_Sheet_rowThere_sv (l : Launch) (dC : Nat → ClassId) (dI : Nat → Nat → Nat) (cI cZ cF : ClassId) (sz : Nat) (sh : Nat) (fa : Nat) (ft : Nat) (FA : Nat → Option Nat) (i : Nat) (fe : Nat) (lo : Nat) (rk9 : Int32) (wd9 : Int32) (tw9 : Int32) (pa9 : Int32) (pb9 : Int32) (lk : Nat) (kd9 : Int32) (st9 : Int32) (gb9 : Int32) (jt9 : Int32) (we9 : Int32) (fm9 : Value) (rw9 : Value) (h200 : ft ≤ 200) (hi : i < ft) (hFA : FA i = some fe) (hs1 : ¬ st9.toInt = 1) : zM l yX8_rowThere cX8_rowThere 3 (some (.object "ScaleShop$Row")) ({ frames := 1, cells := 0, slots := 0, locals := 21 } : Room) [.ref sh, .int (nI i)] (dC, dI) (zTy cI cZ cF) [(oc7 sh (.ref fa) (nI ft)), (oq fa cF 200 FA), (oc1 fe rk9 wd9 tw9 pa9 pb9 (.ref lo) (.ref lk) fm9), (oc4 lk kd9 st9 rw9 gb9 jt9 we9)] sz (some (.null)) (fun A t => zPD (dC, dI) classes A [(oc7 sh (.ref fa) (nI ft)), (oq fa cF 200 FA), (oc1 fe rk9 wd9 tw9 pa9 pb9 (.ref lo) (.ref lk) fm9), (oc4 lk kd9 st9 rw9 gb9 jt9 we9)] t.heap) 0 0 := by
  refine zIn (own := "ScaleShop$Sheet") (loc := [(0, .ref sh), (1, .int (nI i))]) rfl rfl rfl rfl (fun p e s m below meth c hx hb hr hts hown hlocks hml hnm9 A hA hS hP hD hK hXN Q9 hQ9 ls hl => ?_)
  refine lv_aload_n hx hb dX8_rowThere_0 rfl (lv_at hl 0 rfl) ?_
  refine lv_iload_n hx hb dX8_rowThere_1 rfl (lv_at hl 1 rfl) ?_
  obtain ⟨hPc, hDc, hFc⟩ := zo_sub (wc := [_, _]) hP hD hS hA [0, 1] rfl rfl
  refine zcall (st1 := [.ref fe]) (va_runV (As := [.int (nI i)]) (rest := []) ⟨hx, hb, hml, hown, hts⟩ (k_Sheet_find l dC dI cI cZ cF s.heap.size sh fa ft FA i fe (by first | with_reducible assumption | omega) (by first | with_reducible assumption | omega) (hFA)) (csV_36 hts rfl rfl ⟨Nat.le_of_ble_eq_true rfl, Nat.le_of_ble_eq_true rfl⟩) (zPV2 (q0 := 0) (ci := 7) hPc hDc hK hXN rfl rfl) rfl rfl hl.1 rfl (lv_room (Nat.le_of_ble_eq_true rfl)) dX8_rowThere_2 ⟨Nat.le_of_ble_eq_true rfl, Nat.le_of_ble_eq_true rfl⟩) hS hFc hFc rfl (fun t H locs ht hB hk1 hS => ?_)
  obtain ⟨hP1, hD1⟩ := hB
  rw [ht] at hP1
  obtain ⟨hP, hD⟩ := zn (W2 := [_, _, _, _]) hP hD hk1 hFc hP1 hD1 [0, 1] [false, false, true, true] [false, false, true, true] [0, 1] (by decide +kernel) rfl rfl rfl rfl rfl
  clear hk1 hPc hDc hFc hP1 hD1 ht
  refine lv_astore_n (lv' := [(2, .ref fe), (0, .ref sh), (1, .int (nI i))]) hx hb dX8_rowThere_5 rfl hl (Nat.le_of_ble_eq_true rfl) rfl (fun ls hl => ?_)
  refine lv_aload_n hx hb dX8_rowThere_6 rfl (lv_at hl 0 rfl) ?_
  refine lv_ifnull hx hb dX8_rowThere_7 ?_
  refine lv_aload_n hx hb dX8_rowThere_10 rfl (lv_at hl 0 rfl) ?_
  refine va_get (D := (dC, dI)) (ci := 1) (v := .ref lk) (C := RX2) (T := TX2) (N := 8) hx hb hts inX2 hown hK hP 2 rfl rfl 6 (Nat.le_of_ble_eq_true rfl) (hts _ mw_434) (fun _ h9 => h9) rfl dX8_rowThere_11 ?_
  refine va_get (D := (dC, dI)) (ci := 4) (v := .int st9) (C := RX5) (T := TX5) (N := 6) hx hb hts inX5 hown hK hP 3 rfl rfl 1 (Nat.le_of_ble_eq_true rfl) (hts _ mw_387) (fun _ h9 => h9) rfl dX8_rowThere_14 ?_
  refine lv_iconst (v := 1) hx hb dX8_rowThere_17 rfl ?_
  refine lv_icmp_ne (tgt := 31) hx hb dX8_rowThere_18 rfl (fun c_1 => ?_) (fun c_1 => ?_)
  · have c_1 : ¬ st9.toInt = 1 := zc_ne rfl rfl c_1
    refine lv_null hx hb dX8_rowThere_31 ?_
    obtain ⟨hP9, hD9⟩ := zu_sub (wc := [_, _, _, _]) hP hD [true, true, true, true] rfl rfl
    rw [hQ9]
    exact W.aret hx hb hr (Or.inl ⟨_, rfl⟩) (Or.inl rfl) (fun t ht hW => ⟨⟨rfl, by rw [ht]; exact hP9, hD9⟩, hS.F ht⟩) hS.2.2 dX8_rowThere_32
  · have c_1 : st9.toInt = 1 := zc_eq rfl rfl c_1
    exfalso; omega
set_option maxHeartbeats 4000000 in
set_option maxRecDepth 100000 in
theorem k_Sheet_rowThere_tv (l : Launch) (dC : Nat → ClassId) (dI : Nat → Nat → Nat) (cI cZ cF : ClassId) (sz : Nat) (sh : Nat) (fa : Nat) (ft : Nat) (FA : Nat → Option Nat) (i : Nat) (fe : Nat) (lo : Nat) (rk9 : Int32) (wd9 : Int32) (tw9 : Int32) (pa9 : Int32) (pb9 : Int32) (lk : Nat) (kd9 : Int32) (st9 : Int32) (gb9 : Int32) (jt9 : Int32) (we9 : Int32) (fm9 : Value) (h200 : ft ≤ 200) (hi : i < ft) (hFA : FA i = some fe) : zM l yX8_rowThere cX8_rowThere 3 (some (.object "ScaleShop$Row")) ({ frames := 1, cells := 0, slots := 0, locals := 21 } : Room) [.ref sh, .int (nI i)] (dC, dI) (zTy cI cZ cF) [(oc7 sh (.ref fa) (nI ft)), (oq fa cF 200 FA), (oc1 fe rk9 wd9 tw9 pa9 pb9 (.ref lo) (.ref lk) fm9), (oc4 lk kd9 st9 .null gb9 jt9 we9)] sz (some (.null)) (fun A t => zPD (dC, dI) classes A [(oc7 sh (.ref fa) (nI ft)), (oq fa cF 200 FA), (oc1 fe rk9 wd9 tw9 pa9 pb9 (.ref lo) (.ref lk) fm9), (oc4 lk kd9 st9 .null gb9 jt9 we9)] t.heap) 0 0 := by
  refine zIn (own := "ScaleShop$Sheet") (loc := [(0, .ref sh), (1, .int (nI i))]) rfl rfl rfl rfl (fun p e s m below meth c hx hb hr hts hown hlocks hml hnm9 A hA hS hP hD hK hXN Q9 hQ9 ls hl => ?_)
  refine lv_aload_n hx hb dX8_rowThere_0 rfl (lv_at hl 0 rfl) ?_
  refine lv_iload_n hx hb dX8_rowThere_1 rfl (lv_at hl 1 rfl) ?_
  obtain ⟨hPc, hDc, hFc⟩ := zo_sub (wc := [_, _]) hP hD hS hA [0, 1] rfl rfl
  refine zcall (st1 := [.ref fe]) (va_runV (As := [.int (nI i)]) (rest := []) ⟨hx, hb, hml, hown, hts⟩ (k_Sheet_find l dC dI cI cZ cF s.heap.size sh fa ft FA i fe (by first | with_reducible assumption | omega) (by first | with_reducible assumption | omega) (hFA)) (csV_36 hts rfl rfl ⟨Nat.le_of_ble_eq_true rfl, Nat.le_of_ble_eq_true rfl⟩) (zPV2 (q0 := 0) (ci := 7) hPc hDc hK hXN rfl rfl) rfl rfl hl.1 rfl (lv_room (Nat.le_of_ble_eq_true rfl)) dX8_rowThere_2 ⟨Nat.le_of_ble_eq_true rfl, Nat.le_of_ble_eq_true rfl⟩) hS hFc hFc rfl (fun t H locs ht hB hk1 hS => ?_)
  obtain ⟨hP1, hD1⟩ := hB
  rw [ht] at hP1
  obtain ⟨hP, hD⟩ := zn (W2 := [_, _, _, _]) hP hD hk1 hFc hP1 hD1 [0, 1] [false, false, true, true] [false, false, true, true] [0, 1] (by decide +kernel) rfl rfl rfl rfl rfl
  clear hk1 hPc hDc hFc hP1 hD1 ht
  refine lv_astore_n (lv' := [(2, .ref fe), (0, .ref sh), (1, .int (nI i))]) hx hb dX8_rowThere_5 rfl hl (Nat.le_of_ble_eq_true rfl) rfl (fun ls hl => ?_)
  refine lv_aload_n hx hb dX8_rowThere_6 rfl (lv_at hl 0 rfl) ?_
  refine lv_ifnull hx hb dX8_rowThere_7 ?_
  refine lv_aload_n hx hb dX8_rowThere_10 rfl (lv_at hl 0 rfl) ?_
  refine va_get (D := (dC, dI)) (ci := 1) (v := .ref lk) (C := RX2) (T := TX2) (N := 8) hx hb hts inX2 hown hK hP 2 rfl rfl 6 (Nat.le_of_ble_eq_true rfl) (hts _ mw_434) (fun _ h9 => h9) rfl dX8_rowThere_11 ?_
  refine va_get (D := (dC, dI)) (ci := 4) (v := .int st9) (C := RX5) (T := TX5) (N := 6) hx hb hts inX5 hown hK hP 3 rfl rfl 1 (Nat.le_of_ble_eq_true rfl) (hts _ mw_387) (fun _ h9 => h9) rfl dX8_rowThere_14 ?_
  refine lv_iconst (v := 1) hx hb dX8_rowThere_17 rfl ?_
  refine lv_icmp_ne (tgt := 31) hx hb dX8_rowThere_18 rfl (fun c_1 => ?_) (fun c_1 => ?_)
  · have c_1 : ¬ st9.toInt = 1 := zc_ne rfl rfl c_1
    refine lv_null hx hb dX8_rowThere_31 ?_
    obtain ⟨hP9, hD9⟩ := zu_sub (wc := [_, _, _, _]) hP hD [true, true, true, true] rfl rfl
    rw [hQ9]
    exact W.aret hx hb hr (Or.inl ⟨_, rfl⟩) (Or.inl rfl) (fun t ht hW => ⟨⟨rfl, by rw [ht]; exact hP9, hD9⟩, hS.F ht⟩) hS.2.2 dX8_rowThere_32
  · have c_1 : st9.toInt = 1 := zc_eq rfl rfl c_1
    refine lv_aload_n hx hb dX8_rowThere_21 rfl (lv_at hl 0 rfl) ?_
    refine va_get (D := (dC, dI)) (ci := 1) (v := .ref lk) (C := RX2) (T := TX2) (N := 8) hx hb hts inX2 hown hK hP 2 rfl rfl 6 (Nat.le_of_ble_eq_true rfl) (hts _ mw_434) (fun _ h9 => h9) rfl dX8_rowThere_22 ?_
    refine va_get (D := (dC, dI)) (ci := 4) (v := .null) (C := RX5) (T := TX5) (N := 6) hx hb hts inX5 hown hK hP 3 rfl rfl 2 (Nat.le_of_ble_eq_true rfl) (hts _ mw_393) (fun _ h9 => h9) rfl dX8_rowThere_25 ?_
    refine lv_goto (tgt := 32) hx hb dX8_rowThere_28 rfl ?_
    obtain ⟨hP9, hD9⟩ := zu_sub (wc := [_, _, _, _]) hP hD [true, true, true, true] rfl rfl
    rw [hQ9]
    exact W.aret hx hb hr (Or.inl ⟨_, rfl⟩) (Or.inl rfl) (fun t ht hW => ⟨⟨rfl, by rw [ht]; exact hP9, hD9⟩, hS.F ht⟩) hS.2.2 dX8_rowThere_32
set_option maxHeartbeats 4000000 in
set_option maxRecDepth 100000 in
theorem k_Law_isBare (l : Launch) (dC : Nat → ClassId) (dI : Nat → Nat → Nat) (cI cZ cF : ClassId) (sz : Nat) (lw : Nat) (dr : Nat) (tg : Nat) (wy : Nat) (br : Nat) (bo : Nat) (aa : Nat) (sh : Nat) (fa : Nat) (ft : Nat) (FA : Nat → Option Nat) (fe : Nat) (lo : Nat) (rk9 : Int32) (wd9 : Int32) (tw9 : Int32) (pa9 : Int32) (pb9 : Int32) (lk : Nat) (kd9 : Int32) (st9 : Int32) (gb9 : Int32) (jt9 : Int32) (we9 : Int32) (r : Nat) (f0 : Nat) (fm9 : Value) (L : List Nat) (f : Nat → va_E) (kd : Nat → Int32) (st : Nat → Int32) (tn : Nat → Int32) (mn : Nat → Int32) (cx : Nat → Int32) (cy : Nat → Int32) (px : Int32) (py : Int32) (h200 : ft ≤ 200) (hf0 : f0 < ft) (hFA : FA f0 = some fe) (hs1 : st9.toInt = 1) (hvw : ∀ q, q < ft → q ≠ f0 → vwO cI L f FA kd st tn mn cx cy q) (hwf : ∀ q, lvF ft st tn q → wfM mn cx cy q) (hkn : okN ft st tn kd mn) (hpx : pl px) (hpy : pl py) : zM l yX4_isBare cX4_isBare 7 (some .boolean) ({ frames := 3, cells := 0, slots := 0, locals := 71 } : Room) [.ref lw, .ref sh, .ref fe, .int px, .int py] (dC, dI) (zTy cI cZ cF) ([(oc3 lw (.ref dr) (.ref tg) (.ref wy) (.ref br) (.ref bo) (.ref aa)), (oc7 sh (.ref fa) (nI ft)), (oq fa cF 200 FA), (oc1 fe rk9 wd9 tw9 pa9 pb9 (.ref lo) (.ref lk) fm9), (oc4 lk kd9 st9 (.ref r) gb9 jt9 we9)] ++ va_pl L f) sz (some (.int (pI (∀ q, q < ft → (q ≠ f0 → lvF ft st tn q → ¬ onF kd mn cx cy q px.toInt py.toInt))))) (fun A t => zPD (dC, dI) classes A ([(oc3 lw (.ref dr) (.ref tg) (.ref wy) (.ref br) (.ref bo) (.ref aa)), (oc7 sh (.ref fa) (nI ft)), (oq fa cF 200 FA), (oc1 fe rk9 wd9 tw9 pa9 pb9 (.ref lo) (.ref lk) fm9), (oc4 lk kd9 st9 (.ref r) gb9 jt9 we9)] ++ va_pl L f) t.heap) 0 0 := by
  refine zIn (own := "ScaleShop$Law") (loc := [(0, .ref lw), (1, .ref sh), (2, .ref fe), (3, .int px), (4, .int py)]) rfl rfl rfl rfl (fun p e s m below meth c hx hb hr hts hown hlocks hml hnm9 A hA hS hP hD hK hXN Q9 hQ9 ls hl => ?_)
  refine lv_iconst (v := 0) hx hb dX4_isBare_0 rfl ?_
  refine lv_istore (lv' := [(5, .int 0), (0, .ref lw), (1, .ref sh), (2, .ref fe), (3, .int px), (4, .int py)]) hx hb dX4_isBare_1 hl (Nat.le_of_ble_eq_true rfl) rfl (fun ls hl => ?_)
  have hl_3 : ∀ (n9 : Nat) (g5 : Nat) (H : Heap) (locs : List Loc) (ls : Array Slot), ft - g5 < n9 → (g5 ≤ ft) → (∀ q, q < g5 → (q ≠ f0 → lvF ft st tn q → ¬ onF kd mn cx cy q px.toInt py.toInt)) → va_P (dC, dI) classes ([(oc3 lw (.ref dr) (.ref tg) (.ref wy) (.ref br) (.ref bo) (.ref aa)), (oc7 sh (.ref fa) (nI ft)), (oq fa cF 200 FA), (oc1 fe rk9 wd9 tw9 pa9 pb9 (.ref lo) (.ref lk) fm9), (oc4 lk kd9 st9 (.ref r) gb9 jt9 we9)] ++ va_pl L f) H → va_D A ([(oc3 lw (.ref dr) (.ref tg) (.ref wy) (.ref br) (.ref bo) (.ref aa)), (oc7 sh (.ref fa) (nI ft)), (oq fa cF 200 FA), (oc1 fe rk9 wd9 tw9 pa9 pb9 (.ref lo) (.ref lk) fm9), (oc4 lk kd9 st9 (.ref r) gb9 jt9 we9)] ++ va_pl L f) → va_S A s.heap H locs → lv_has ls 7 [(5, .int (nI g5)), (0, .ref lw), (1, .ref sh), (2, .ref fe), (3, .int px), (4, .int py)] → W p l e ({ frames := 3, cells := 0, slots := 0, locals := 71 } : Room) s m ([.ref lw, .ref sh, .ref fe, .int px, .int py] : List Value).toArray below meth c H locs 0 0 Q9 (F0 m 3 ls []) := by
    intro n9
    induction n9 with
    | zero => intro g5 H locs ls hm; exact absurd hm (Nat.not_lt_zero _)
    | succ n9 ih_3 =>
      intro g5 H locs ls hm hi hall hP hD hS hl
      refine lv_iload hx hb dX4_isBare_3 (lv_at hl 0 rfl) ?_
      refine lv_aload_n hx hb dX4_isBare_5 rfl (lv_at hl 2 rfl) ?_
      refine va_get (D := (dC, dI)) (ci := 7) (v := .int (nI ft)) (C := RX8) (T := TX8) (N := 2) hx hb hts inX8 hown hK hP 1 rfl rfl 1 (Nat.le_of_ble_eq_true rfl) (hts _ mw_139) (fun _ h9 => h9) rfl dX4_isBare_6 ?_
      have b9_2 : g5 < 2147483648 := by omega
      have b9_3 : ft < 2147483648 := by omega
      refine lv_icmp_ge (tgt := 54) hx hb dX4_isBare_9 rfl (fun c_1 => ?_) (fun c_1 => ?_)
      · have c_1 : ((ft : Nat) : Int) ≤ ((g5 : Nat) : Int) := zc_le (nI_toInt b9_3) (nI_toInt b9_2) c_1
        refine lv_iconst (v := 1) hx hb dX4_isBare_54 rfl ?_
        obtain ⟨hP9, hD9⟩ := zu_part (cx := [_, _, _, _, _]) hP hD [true, true, true, true, true] rfl rfl
        rw [hQ9]
        exact W.zret (ty := .boolean) (v := 1) hx hb hr (rfl) (fun t ht hW => ⟨⟨congrArg (fun z => Outcome.returned (some (Value.int z))) (show (1 : Int32) = pI (∀ q, q < ft → (q ≠ f0 → lvF ft st tn q → ¬ onF kd mn cx cy q px.toInt py.toInt)) from (zp_t (fun q hq => hall q (by omega))).symm), by rw [ht]; exact hP9, hD9⟩, hS.F ht⟩) hS.2.2 dX4_isBare_55
      · have c_1 : ((g5 : Nat) : Int) < ((ft : Nat) : Int) := zc_nle (nI_toInt b9_3) (nI_toInt b9_2) c_1
        rcases vw4 (hvw g5) (show g5 < ft by omega) with hif | ⟨hif, hs2, fe2, lk2, lo2, rk2, wd2, tw2, pa2, pb2, gb2, jt2, we2, fm2, rw2, hFA2, hfe2, hlk2⟩ | ⟨hif, ht2, fe2, lk2, lo2, rk2, wd2, tw2, pa2, pb2, gb2, jt2, we2, fm2, hFA2, hfe2, hlk2⟩ | ⟨hif, hlv2, fe2, lk2, lo2, rk2, wd2, tw2, pa2, pb2, gb2, jt2, we2, fm2, r2, rx2, ry2, cap2, U2, V2, rg2, hFA2, hfe2, hlk2, ⟨hr2, hrx2, hry2, hne2⟩, hrr2⟩
        · skip
          have hFi : FA g5 = some fe := (by rw [hif]; exact hFA)
          refine lv_aload_n hx hb dX4_isBare_12 rfl (lv_at hl 2 rfl) ?_
          refine lv_iload hx hb dX4_isBare_13 (lv_at hl 0 rfl) ?_
          obtain ⟨hPc, hDc, hFc⟩ := zo_sub (wc := [_, _, _, _]) hP hD hS hA [1, 2, 3, 4] (by decide +kernel) rfl
          refine zcall (st1 := [.ref r]) (va_runV (As := [.int (nI g5)]) (rest := []) ⟨hx, hb, hml, hown, hts⟩ (k_Sheet_rowThere_yv l dC dI cI cZ cF H.size sh fa ft FA g5 fe lo rk9 wd9 tw9 pa9 pb9 lk kd9 st9 gb9 jt9 we9 r fm9 (by first | with_reducible assumption | omega) (by first | with_reducible assumption | omega) (by first | exact hFi | exact hFA2) (by first | exact hs1 | exact hs2 | exact hlv2.2.1)) (csV_62 hts rfl rfl ⟨Nat.le_of_ble_eq_true rfl, Nat.le_of_ble_eq_true rfl⟩) (zPV2 (q0 := 0) (ci := 7) hPc hDc hK hXN rfl rfl) rfl rfl hl.1 rfl (lv_room (Nat.le_of_ble_eq_true rfl)) dX4_isBare_15 ⟨Nat.le_of_ble_eq_true rfl, Nat.le_of_ble_eq_true rfl⟩) hS hFc hFc rfl (fun t H locs ht hB hk1 hS => ?_)
          obtain ⟨hP1, hD1⟩ := hB
          rw [ht] at hP1
          obtain ⟨hP, hD⟩ := znQ (W2 := [_, _, _, _, _]) hP hD hk1 hFc hP1 hD1 [1, 2, 3, 4] [true] [true, false, false, false, false] [1, 2, 3, 4] (by decide +kernel) rfl rfl rfl rfl rfl
          clear hk1 hPc hDc hFc hP1 hD1 ht
          refine lv_astore (lv' := [(6, .ref r), (5, .int (nI g5)), (0, .ref lw), (1, .ref sh), (2, .ref fe), (3, .int px), (4, .int py)]) hx hb dX4_isBare_18 hl (Nat.le_of_ble_eq_true rfl) rfl (fun ls hl => ?_)
          refine lv_aload hx hb dX4_isBare_20 (lv_at hl 0 rfl) ?_
          refine lv_ifnull hx hb dX4_isBare_22 ?_
          refine lv_aload_n hx hb dX4_isBare_25 rfl (lv_at hl 3 rfl) ?_
          refine lv_iload hx hb dX4_isBare_26 (lv_at hl 1 rfl) ?_
          obtain ⟨hPc, hDc, hFc⟩ := zo_sub (wc := [_, _]) hP hD hS hA [1, 2] rfl rfl
          refine zcall (st1 := [.ref fe]) (va_runV (As := [.int (nI g5)]) (rest := []) ⟨hx, hb, hml, hown, hts⟩ (k_Sheet_find l dC dI cI cZ cF H.size sh fa ft FA g5 fe (by first | with_reducible assumption | omega) (by first | with_reducible assumption | omega) (by first | exact hFi | exact hFA2)) (csV_63 hts rfl rfl ⟨Nat.le_of_ble_eq_true rfl, Nat.le_of_ble_eq_true rfl⟩) (zPV2 (q0 := 0) (ci := 7) hPc hDc hK hXN rfl rfl) rfl rfl hl.1 rfl (lv_room (Nat.le_of_ble_eq_true rfl)) dX4_isBare_28 ⟨Nat.le_of_ble_eq_true rfl, Nat.le_of_ble_eq_true rfl⟩) hS hFc hFc rfl (fun t H locs ht hB hk1 hS => ?_)
          obtain ⟨hP1, hD1⟩ := hB
          rw [ht] at hP1
          obtain ⟨hP, hD⟩ := znQ (W2 := [_, _, _, _, _]) hP hD hk1 hFc hP1 hD1 [1, 2] [true, false, false, true, true] [true, false, false, true, true] [1, 2] (by decide +kernel) rfl rfl rfl rfl rfl
          clear hk1 hPc hDc hFc hP1 hD1 ht
          refine lv_aload_n hx hb dX4_isBare_31 rfl (lv_at hl 4 rfl) ?_
          refine z_acmpeq (rx := fe) (ry := fe) (tgt := 48) hx hb dX4_isBare_32 (by decide) (fun c_4 => ?_) (fun c_4 => ?_)
          · have c_4 : fe = fe := c_4
            refine lv_iinc (v := nI (g5 + 1)) (lv' := [(5, .int (nI (g5 + 1))), (6, .ref r), (0, .ref lw), (1, .ref sh), (2, .ref fe), (3, .int px), (4, .int py)]) hx hb dX4_isBare_48 hl (k := 1) rfl (nI_add g5 1) (Nat.le_of_ble_eq_true rfl) rfl (fun ls hl => ?_)
            refine lv_goto (tgt := 3) hx hb dX4_isBare_51 rfl ?_
            exact ih_3 (g5 + 1) H locs ls (by first | with_reducible assumption | omega) (by first | with_reducible assumption | omega) (by intro q hq; rcases Nat.lt_or_ge q g5 with h | h; exact hall q h; rw [show q = g5 by omega]; intro h1 h2; first | exact absurd hif h1 | exact absurd h2.2.1 hs2 | exact absurd h2.2.2 ht2 | assumption) hP hD hS (lv_sub hl [0, 2, 3, 4, 5, 6] rfl)
          · have c_4 : ¬ fe = fe := c_4
            exact absurd rfl c_4
        · skip
          have hc9_1 : inPl L f [(oc1 fe2 rk2 wd2 tw2 pa2 pb2 (.ref lo2) (.ref lk2) fm2), (oc4 lk2 (kd g5) (st g5) rw2 gb2 jt2 we2)] := ⟨hfe2, hlk2, trivial⟩
          have hD0_1 := hD
          obtain ⟨hP, hD⟩ := pl_out hP hD [(oc1 fe2 rk2 wd2 tw2 pa2 pb2 (.ref lo2) (.ref lk2) fm2), (oc4 lk2 (kd g5) (st g5) rw2 gb2 jt2 we2)] hc9_1 (pwF hfe2.2 hlk2.2)
          generalize hT_1 : outPl L [(oc1 fe2 rk2 wd2 tw2 pa2 pb2 (.ref lo2) (.ref lk2) fm2), (oc4 lk2 (kd g5) (st g5) rw2 gb2 jt2 we2)] = T_1 at hP hD
          obtain ⟨hP, hD⟩ := zre (W2 := ([_, _, _, _, _, _, _] ++ va_pl T_1 f)) hP hD rfl
          refine lv_aload_n hx hb dX4_isBare_12 rfl (lv_at hl 2 rfl) ?_
          refine lv_iload hx hb dX4_isBare_13 (lv_at hl 0 rfl) ?_
          obtain ⟨hPc, hDc, hFc⟩ := zo_sub (wc := [_, _, _, _]) hP hD hS hA [1, 2, 5, 6] (by decide +kernel) rfl
          refine zcall (st1 := [.null]) (va_runV (As := [.int (nI g5)]) (rest := []) ⟨hx, hb, hml, hown, hts⟩ (k_Sheet_rowThere_sv l dC dI cI cZ cF H.size sh fa ft FA g5 fe2 lo2 rk2 wd2 tw2 pa2 pb2 lk2 (kd g5) (st g5) gb2 jt2 we2 fm2 rw2 (by first | with_reducible assumption | omega) (by first | with_reducible assumption | omega) (by first | exact hFi | exact hFA2) (by first | exact hs1 | exact hs2 | exact hlv2.2.1)) (csV_62 hts rfl rfl ⟨Nat.le_of_ble_eq_true rfl, Nat.le_of_ble_eq_true rfl⟩) (zPV2 (q0 := 0) (ci := 7) hPc hDc hK hXN rfl rfl) rfl rfl hl.1 rfl (lv_room (Nat.le_of_ble_eq_true rfl)) dX4_isBare_15 ⟨Nat.le_of_ble_eq_true rfl, Nat.le_of_ble_eq_true rfl⟩) hS hFc hFc rfl (fun t H locs ht hB hk1 hS => ?_)
          obtain ⟨hP1, hD1⟩ := hB
          rw [ht] at hP1
          obtain ⟨hP, hD⟩ := znQ (W2 := [_, _, _, _, _, _, _]) hP hD hk1 hFc hP1 hD1 [1, 2, 5, 6] [true, false, false, true, true] [true, false, false, true, true, false, false] [1, 2, 5, 6] (by decide +kernel) rfl rfl rfl rfl rfl
          clear hk1 hPc hDc hFc hP1 hD1 ht
          refine lv_astoreN (lv' := [(6, .null), (5, .int (nI g5)), (0, .ref lw), (1, .ref sh), (2, .ref fe), (3, .int px), (4, .int py)]) hx hb dX4_isBare_18 hl (Nat.le_of_ble_eq_true rfl) rfl (fun ls hl => ?_)
          refine lv_aloadN hx hb dX4_isBare_20 (lv_at hl 0 rfl) ?_
          refine lv_ifnullN (tgt := 48) hx hb dX4_isBare_22 rfl ?_
          obtain ⟨hP, hD⟩ := pl_bk (X := [_, _, _, _, _]) hT_1 hP rfl hc9_1 hD0_1 rfl
          refine lv_iinc (v := nI (g5 + 1)) (lv' := [(5, .int (nI (g5 + 1))), (6, .null), (0, .ref lw), (1, .ref sh), (2, .ref fe), (3, .int px), (4, .int py)]) hx hb dX4_isBare_48 hl (k := 1) rfl (nI_add g5 1) (Nat.le_of_ble_eq_true rfl) rfl (fun ls hl => ?_)
          refine lv_goto (tgt := 3) hx hb dX4_isBare_51 rfl ?_
          exact ih_3 (g5 + 1) H locs ls (by first | with_reducible assumption | omega) (by first | with_reducible assumption | omega) (by intro q hq; rcases Nat.lt_or_ge q g5 with h | h; exact hall q h; rw [show q = g5 by omega]; intro h1 h2; first | exact absurd hif h1 | exact absurd h2.2.1 hs2 | exact absurd h2.2.2 ht2 | assumption) hP hD hS (lv_sub hl [0, 2, 3, 4, 5, 6] rfl)
        · skip
          have hc9_1 : inPl L f [(oc1 fe2 rk2 wd2 tw2 pa2 pb2 (.ref lo2) (.ref lk2) fm2), (oc4 lk2 (kd g5) (st g5) .null gb2 jt2 we2)] := ⟨hfe2, hlk2, trivial⟩
          have hD0_1 := hD
          obtain ⟨hP, hD⟩ := pl_out hP hD [(oc1 fe2 rk2 wd2 tw2 pa2 pb2 (.ref lo2) (.ref lk2) fm2), (oc4 lk2 (kd g5) (st g5) .null gb2 jt2 we2)] hc9_1 (pwF hfe2.2 hlk2.2)
          generalize hT_1 : outPl L [(oc1 fe2 rk2 wd2 tw2 pa2 pb2 (.ref lo2) (.ref lk2) fm2), (oc4 lk2 (kd g5) (st g5) .null gb2 jt2 we2)] = T_1 at hP hD
          obtain ⟨hP, hD⟩ := zre (W2 := ([_, _, _, _, _, _, _] ++ va_pl T_1 f)) hP hD rfl
          refine lv_aload_n hx hb dX4_isBare_12 rfl (lv_at hl 2 rfl) ?_
          refine lv_iload hx hb dX4_isBare_13 (lv_at hl 0 rfl) ?_
          obtain ⟨hPc, hDc, hFc⟩ := zo_sub (wc := [_, _, _, _]) hP hD hS hA [1, 2, 5, 6] (by decide +kernel) rfl
          refine zcall (st1 := [.null]) (va_runV (As := [.int (nI g5)]) (rest := []) ⟨hx, hb, hml, hown, hts⟩ (k_Sheet_rowThere_tv l dC dI cI cZ cF H.size sh fa ft FA g5 fe2 lo2 rk2 wd2 tw2 pa2 pb2 lk2 (kd g5) (st g5) gb2 jt2 we2 fm2 (by first | with_reducible assumption | omega) (by first | with_reducible assumption | omega) (by first | exact hFi | exact hFA2)) (csV_62 hts rfl rfl ⟨Nat.le_of_ble_eq_true rfl, Nat.le_of_ble_eq_true rfl⟩) (zPV2 (q0 := 0) (ci := 7) hPc hDc hK hXN rfl rfl) rfl rfl hl.1 rfl (lv_room (Nat.le_of_ble_eq_true rfl)) dX4_isBare_15 ⟨Nat.le_of_ble_eq_true rfl, Nat.le_of_ble_eq_true rfl⟩) hS hFc hFc rfl (fun t H locs ht hB hk1 hS => ?_)
          obtain ⟨hP1, hD1⟩ := hB
          rw [ht] at hP1
          obtain ⟨hP, hD⟩ := znQ (W2 := [_, _, _, _, _, _, _]) hP hD hk1 hFc hP1 hD1 [1, 2, 5, 6] [true, false, false, true, true] [true, false, false, true, true, false, false] [1, 2, 5, 6] (by decide +kernel) rfl rfl rfl rfl rfl
          clear hk1 hPc hDc hFc hP1 hD1 ht
          refine lv_astoreN (lv' := [(6, .null), (5, .int (nI g5)), (0, .ref lw), (1, .ref sh), (2, .ref fe), (3, .int px), (4, .int py)]) hx hb dX4_isBare_18 hl (Nat.le_of_ble_eq_true rfl) rfl (fun ls hl => ?_)
          refine lv_aloadN hx hb dX4_isBare_20 (lv_at hl 0 rfl) ?_
          refine lv_ifnullN (tgt := 48) hx hb dX4_isBare_22 rfl ?_
          obtain ⟨hP, hD⟩ := pl_bk (X := [_, _, _, _, _]) hT_1 hP rfl hc9_1 hD0_1 rfl
          refine lv_iinc (v := nI (g5 + 1)) (lv' := [(5, .int (nI (g5 + 1))), (6, .null), (0, .ref lw), (1, .ref sh), (2, .ref fe), (3, .int px), (4, .int py)]) hx hb dX4_isBare_48 hl (k := 1) rfl (nI_add g5 1) (Nat.le_of_ble_eq_true rfl) rfl (fun ls hl => ?_)
          refine lv_goto (tgt := 3) hx hb dX4_isBare_51 rfl ?_
          exact ih_3 (g5 + 1) H locs ls (by first | with_reducible assumption | omega) (by first | with_reducible assumption | omega) (by intro q hq; rcases Nat.lt_or_ge q g5 with h | h; exact hall q h; rw [show q = g5 by omega]; intro h1 h2; first | exact absurd hif h1 | exact absurd h2.2.1 hs2 | exact absurd h2.2.2 ht2 | assumption) hP hD hS (lv_sub hl [0, 2, 3, 4, 5, 6] rfl)
        · skip
          have hw2 := hwf g5 hlv2
          have hn2 := hw2.2.1
          have hq2 := rw_pls hrr2 hw2
          have hkn2 := hkn g5 hlv2
          have hcap2 := hrr2.1
          have hcap3 := hrr2.2.1
          have hc9_1 : inPl L f [(oc1 fe2 rk2 wd2 tw2 pa2 pb2 (.ref lo2) (.ref lk2) fm2), (oc4 lk2 (kd g5) (st g5) (.ref r2) gb2 jt2 we2), (oc6 r2 (.ref rx2) (.ref ry2) (nI (nN (mn g5))) rg2), (oa rx2 cI cap2 U2), (oa ry2 cI cap2 V2)] := ⟨hfe2, hlk2, hr2, hrx2, hry2, trivial⟩
          have hD0_1 := hD
          obtain ⟨hP, hD⟩ := pl_out hP hD [(oc1 fe2 rk2 wd2 tw2 pa2 pb2 (.ref lo2) (.ref lk2) fm2), (oc4 lk2 (kd g5) (st g5) (.ref r2) gb2 jt2 we2), (oc6 r2 (.ref rx2) (.ref ry2) (nI (nN (mn g5))) rg2), (oa rx2 cI cap2 U2), (oa ry2 cI cap2 V2)] hc9_1 (pwR hfe2.2 hlk2.2 hr2.2 hrx2.2 hry2.2 hne2)
          generalize hT_1 : outPl L [(oc1 fe2 rk2 wd2 tw2 pa2 pb2 (.ref lo2) (.ref lk2) fm2), (oc4 lk2 (kd g5) (st g5) (.ref r2) gb2 jt2 we2), (oc6 r2 (.ref rx2) (.ref ry2) (nI (nN (mn g5))) rg2), (oa rx2 cI cap2 U2), (oa ry2 cI cap2 V2)] = T_1 at hP hD
          obtain ⟨hP, hD⟩ := zre (W2 := ([_, _, _, _, _, _, _, _, _, _] ++ va_pl T_1 f)) hP hD rfl
          refine lv_aload_n hx hb dX4_isBare_12 rfl (lv_at hl 2 rfl) ?_
          refine lv_iload hx hb dX4_isBare_13 (lv_at hl 0 rfl) ?_
          obtain ⟨hPc, hDc, hFc⟩ := zo_sub (wc := [_, _, _, _]) hP hD hS hA [1, 2, 5, 6] (by decide +kernel) rfl
          refine zcall (st1 := [.ref r2]) (va_runV (As := [.int (nI g5)]) (rest := []) ⟨hx, hb, hml, hown, hts⟩ (k_Sheet_rowThere_yv l dC dI cI cZ cF H.size sh fa ft FA g5 fe2 lo2 rk2 wd2 tw2 pa2 pb2 lk2 (kd g5) (st g5) gb2 jt2 we2 r2 fm2 (by first | with_reducible assumption | omega) (by first | with_reducible assumption | omega) (by first | exact hFi | exact hFA2) (by first | exact hs1 | exact hs2 | exact hlv2.2.1)) (csV_62 hts rfl rfl ⟨Nat.le_of_ble_eq_true rfl, Nat.le_of_ble_eq_true rfl⟩) (zPV2 (q0 := 0) (ci := 7) hPc hDc hK hXN rfl rfl) rfl rfl hl.1 rfl (lv_room (Nat.le_of_ble_eq_true rfl)) dX4_isBare_15 ⟨Nat.le_of_ble_eq_true rfl, Nat.le_of_ble_eq_true rfl⟩) hS hFc hFc rfl (fun t H locs ht hB hk1 hS => ?_)
          obtain ⟨hP1, hD1⟩ := hB
          rw [ht] at hP1
          obtain ⟨hP, hD⟩ := znQ (W2 := [_, _, _, _, _, _, _, _, _, _]) hP hD hk1 hFc hP1 hD1 [1, 2, 5, 6] [true, false, false, true, true, false, false, true, true, true] [true, false, false, true, true, false, false, true, true, true] [1, 2, 5, 6] (by decide +kernel) rfl rfl rfl rfl rfl
          clear hk1 hPc hDc hFc hP1 hD1 ht
          refine lv_astore (lv' := [(6, .ref r2), (5, .int (nI g5)), (0, .ref lw), (1, .ref sh), (2, .ref fe), (3, .int px), (4, .int py)]) hx hb dX4_isBare_18 hl (Nat.le_of_ble_eq_true rfl) rfl (fun ls hl => ?_)
          refine lv_aload hx hb dX4_isBare_20 (lv_at hl 0 rfl) ?_
          refine lv_ifnull hx hb dX4_isBare_22 ?_
          refine lv_aload_n hx hb dX4_isBare_25 rfl (lv_at hl 3 rfl) ?_
          refine lv_iload hx hb dX4_isBare_26 (lv_at hl 1 rfl) ?_
          obtain ⟨hPc, hDc, hFc⟩ := zo_sub (wc := [_, _]) hP hD hS hA [1, 2] rfl rfl
          refine zcall (st1 := [.ref fe2]) (va_runV (As := [.int (nI g5)]) (rest := []) ⟨hx, hb, hml, hown, hts⟩ (k_Sheet_find l dC dI cI cZ cF H.size sh fa ft FA g5 fe2 (by first | with_reducible assumption | omega) (by first | with_reducible assumption | omega) (by first | exact hFi | exact hFA2)) (csV_63 hts rfl rfl ⟨Nat.le_of_ble_eq_true rfl, Nat.le_of_ble_eq_true rfl⟩) (zPV2 (q0 := 0) (ci := 7) hPc hDc hK hXN rfl rfl) rfl rfl hl.1 rfl (lv_room (Nat.le_of_ble_eq_true rfl)) dX4_isBare_28 ⟨Nat.le_of_ble_eq_true rfl, Nat.le_of_ble_eq_true rfl⟩) hS hFc hFc rfl (fun t H locs ht hB hk1 hS => ?_)
          obtain ⟨hP1, hD1⟩ := hB
          rw [ht] at hP1
          obtain ⟨hP, hD⟩ := znQ (W2 := [_, _, _, _, _, _, _, _, _, _]) hP hD hk1 hFc hP1 hD1 [1, 2] [true, false, false, true, true, true, true, true, true, true] [true, false, false, true, true, true, true, true, true, true] [1, 2] (by decide +kernel) rfl rfl rfl rfl rfl
          clear hk1 hPc hDc hFc hP1 hD1 ht
          refine lv_aload_n hx hb dX4_isBare_31 rfl (lv_at hl 4 rfl) ?_
          refine z_acmpeq (rx := fe2) (ry := fe) (tgt := 48) hx hb dX4_isBare_32 (by decide) (fun c_5 => ?_) (fun c_5 => ?_)
          · have c_5 : fe2 = fe := c_5
            exfalso; exact absurd (by first | with_reducible assumption | assumption) (pl_sep (q := (oc1 fe rk9 wd9 tw9 pa9 pb9 (.ref lo) (.ref lk) fm9)) hD0_1 (by simp) hfe2.1)
          · have c_5 : ¬ fe2 = fe := c_5
            refine lv_aload hx hb dX4_isBare_35 (lv_at hl 0 rfl) ?_
            refine lv_iload_n hx hb dX4_isBare_37 rfl (lv_at hl 5 rfl) ?_
            refine lv_iload hx hb dX4_isBare_38 (lv_at hl 6 rfl) ?_
            obtain ⟨hPc, hDc, hFc⟩ := zo_sub (wc := [_, _, _]) hP hD hS hA [7, 8, 9] rfl rfl
            refine zcall (st1 := [.int (pI (∃ i, i < prt (nN (mn g5)) rg2 ∧ eOn (nN (mn g5)) U2 V2 i px.toInt py.toInt))]) (va_runV (As := [.int px, .int py]) (rest := []) ⟨hx, hb, hml, hown, hts⟩ (k_Row_isOnSet l dC dI cI cZ cF H.size r2 rx2 ry2 (nN (mn g5)) cap2 U2 V2 rg2 px py (by first | with_reducible assumption | omega) (by first | with_reducible assumption | omega) (hq2) (hpx) (hpy)) (csV_64 hts rfl rfl ⟨Nat.le_of_ble_eq_true rfl, Nat.le_of_ble_eq_true rfl⟩) (zPV2 (q0 := 0) (ci := 6) hPc hDc hK hXN rfl rfl) rfl rfl hl.1 rfl (lv_room (Nat.le_of_ble_eq_true rfl)) dX4_isBare_40 ⟨Nat.le_of_ble_eq_true rfl, Nat.le_of_ble_eq_true rfl⟩) hS hFc hFc rfl (fun t H locs ht hB hk1 hS => ?_)
            obtain ⟨hP1, hD1⟩ := hB
            rw [ht] at hP1
            obtain ⟨hP, hD⟩ := znQ (W2 := [_, _, _, _, _, _, _, _, _, _]) hP hD hk1 hFc hP1 hD1 [7, 8, 9] [true, true, true, true, true, true, true] [true, true, true, true, true, true, true, false, false, false] [7, 8, 9] (by decide +kernel) rfl rfl rfl rfl rfl
            clear hk1 hPc hDc hFc hP1 hD1 ht
            refine zz_i (v := pI (onF kd mn cx cy g5 px.toInt py.toInt)) (zp_iff (on_iff hrr2 hkn2)) ?_
            refine lv_if_eq (tgt := 48) hx hb dX4_isBare_43 rfl (fun c_6 => ?_) (fun c_6 => ?_)
            · have c_6 : ¬ (onF kd mn cx cy g5 px.toInt py.toInt) := zp_0 c_6
              obtain ⟨hP, hD⟩ := pl_bk (X := [_, _, _, _, _]) hT_1 hP rfl hc9_1 hD0_1 rfl
              refine lv_iinc (v := nI (g5 + 1)) (lv' := [(5, .int (nI (g5 + 1))), (6, .ref r2), (0, .ref lw), (1, .ref sh), (2, .ref fe), (3, .int px), (4, .int py)]) hx hb dX4_isBare_48 hl (k := 1) rfl (nI_add g5 1) (Nat.le_of_ble_eq_true rfl) rfl (fun ls hl => ?_)
              refine lv_goto (tgt := 3) hx hb dX4_isBare_51 rfl ?_
              exact ih_3 (g5 + 1) H locs ls (by first | with_reducible assumption | omega) (by first | with_reducible assumption | omega) (by intro q hq; rcases Nat.lt_or_ge q g5 with h | h; exact hall q h; rw [show q = g5 by omega]; intro h1 h2; first | exact absurd hif h1 | exact absurd h2.2.1 hs2 | exact absurd h2.2.2 ht2 | assumption) hP hD hS (lv_sub hl [0, 2, 3, 4, 5, 6] rfl)
            · have c_6 : onF kd mn cx cy g5 px.toInt py.toInt := zp_1 c_6
              obtain ⟨hP, hD⟩ := pl_bk (X := [_, _, _, _, _]) hT_1 hP rfl hc9_1 hD0_1 rfl
              refine lv_iconst (v := 0) hx hb dX4_isBare_46 rfl ?_
              obtain ⟨hP9, hD9⟩ := zu_part (cx := [_, _, _, _, _]) hP hD [true, true, true, true, true] rfl rfl
              rw [hQ9]
              exact W.zret (ty := .boolean) (v := 0) hx hb hr (rfl) (fun t ht hW => ⟨⟨congrArg (fun z => Outcome.returned (some (Value.int z))) (show (0 : Int32) = pI (∀ q, q < ft → (q ≠ f0 → lvF ft st tn q → ¬ onF kd mn cx cy q px.toInt py.toInt)) from (zp_f (fun h => absurd (by first | with_reducible assumption | assumption) (h g5 (by omega) hif hlv2))).symm), by rw [ht]; exact hP9, hD9⟩, hS.F ht⟩) hS.2.2 dX4_isBare_47
  exact hl_3 _ 0 s.heap [] ls (Nat.lt_succ_self _) (by first | with_reducible assumption | omega) (by intro q hq; omega) hP hD hS (lv_sub hl [0, 1, 2, 3, 4, 5] rfl)
end
section
/-! the class's law over the reference's corners -/
/-- a row lies apart from a box -/
def apB (l o r h : Int) (n : Nat) (U V : Nat → Int32) : Prop := r < mnI (U 0).toInt U n ∨ mxI (U 0).toInt U n < l ∨ h < mnI (V 0).toInt V n ∨ mxI (V 0).toInt V n < o
theorem apB_cg {l o r h : Int} {n : Nat} {U V S T : Nat → Int32} (h1 : 1 ≤ n) (hc : ∀ j, j < n → U j = S j ∧ V j = T j) : (r < mnI (U 0).toInt U n ∨ mxI (U 0).toInt U n < l ∨ h < mnI (V 0).toInt V n ∨ mxI (V 0).toInt V n < o) ↔ apB l o r h n S T := by
  have a := mnI_cg (z := (S 0).toInt) (fun j hj => (hc j hj).1) n (Nat.le_refl _)
  have b := mnI_cg (z := (T 0).toInt) (fun j hj => (hc j hj).2) n (Nat.le_refl _)
  have e := hc 0 (by omega)
  unfold apB
  rw [e.1, e.2, a.1, a.2, b.1, b.2]
def rgK (k : Int) : Int32 := if 5 ≤ k then 1 else 0
theorem rgK_e {rg : Int32} {k : Int} (h : rg.toInt = if 5 ≤ k then 1 else 0) : rg = rgK k := by
  unfold rgK
  by_cases e : 5 ≤ k
  · rw [if_pos e] at h ⊢; exact Int32.toInt_inj.mp (by rw [h]; decide)
  · rw [if_neg e] at h ⊢; exact Int32.toInt_inj.mp (by rw [h]; decide)
theorem tch_cg {n m : Nat} {X Y U V S T : Nat → Int32} {rg rh : Int32} (hc : ∀ j, j < m → U j = S j ∧ V j = T j) : tch n X Y rg m U V rh ↔ tch n X Y rg m S T rh := by
  have p1 := prt_le n rg; have p2 := prt_le m rh
  exact exists_congr fun i => and_congr_right fun hi => exists_congr fun j => and_congr_right fun hj => by rw [eMt_cg (fun _ _ => ⟨rfl, rfl⟩) hc (by omega) (by omega)]
theorem asb_cg {n nd m : Nat} {X Y P Q U V S T : Nat → Int32} {rg rd rh : Int32} (h1 : 1 ≤ m) (hc : ∀ j, j < m → U j = S j ∧ V j = T j) : asb n X Y rg nd P Q rd m U V rh ↔ asb n X Y rg nd P Q rd m S T rh := by
  unfold asb
  rw [tch_cg hc, tch_cg hc, inF_cg h1 hc, inF_cg h1 hc]
  exact and_congr_right fun _ => and_congr (imp_congr_right fun _ => forall_congr' fun k => imp_congr_right fun hk => by rw [(hc k hk).1, (hc k hk).2]) Iff.rfl
theorem ex_cg {m : Nat} {U V S T : Nat → Int32} {W : Int → Int → Prop} (hc : ∀ j, j < m → U j = S j ∧ V j = T j) : (∃ j, j < m ∧ W (U j).toInt (V j).toInt) ↔ ∃ j, j < m ∧ W (S j).toInt (T j).toInt :=
  exists_congr fun j => and_congr_right fun hj => by rw [(hc j hj).1, (hc j hj).2]
theorem wy_cg {m : Nat} {U V S T : Nat → Int32} {x0 y0 x1 y1 : Int} {rh : Int32} (hc : ∀ j, j < m → U j = S j ∧ V j = T j) : (∀ k, k < prt m rh → wyF2 x0 y0 x1 y1 m U V k) ↔ ∀ k, k < prt m rh → wyF2 x0 y0 x1 y1 m S T k := by
  have p2 := prt_le m rh
  refine forall_congr' fun k => imp_congr_right fun hk => ?_
  have hk2 := nxt_lt (n := m) (i := k) (by omega)
  unfold wyF2; rw [(hc k (by omega)).1, (hc k (by omega)).2, (hc _ hk2).1, (hc _ hk2).2]
def gpK (nd k : Nat) : Nat := if k < nd then k else 0
end
section
set_option maxHeartbeats 4000000 in
set_option maxRecDepth 100000 in
theorem k_Row_previous_1 (l : Launch) (dC : Nat → ClassId) (dI : Nat → Nat → Nat) (cI cZ cF : ClassId) (sz : Nat) (r : Nat) (rx : Nat) (ry : Nat) (n : Nat) (cap : Nat) (X : Nat → Int32) (Y : Nat → Int32) (rg : Int32) (hn : n ≤ cap) (hcap : cap ≤ 1000) (h1n : 1 ≤ n) : zM l yX7_previous cX7_previous 2 (some .int) ({ frames := 0, cells := 0, slots := 0, locals := 0 } : Room) [.ref r, .int (-1)] (dC, dI) (zTy cI cZ cF) [(oc6 r (.ref rx) (.ref ry) (nI n) rg), (oa rx cI cap X), (oa ry cI cap Y)] sz (some (.int (nI (n - 1)))) (fun A t => zPD (dC, dI) classes A [(oc6 r (.ref rx) (.ref ry) (nI n) rg), (oa rx cI cap X), (oa ry cI cap Y)] t.heap) 0 0 := by
  refine zIn (own := "ScaleShop$Row") (loc := [(0, .ref r), (1, .int (-1))]) rfl rfl rfl rfl (fun p e s m below meth c hx hb hr hts hown hlocks hml hnm9 A hA hS hP hD hK hXN Q9 hQ9 ls hl => ?_)
  refine lv_iload_n hx hb dX7_previous_0 rfl (lv_at hl 1 rfl) ?_
  refine lv_if_le (tgt := 10) hx hb dX7_previous_1 rfl (fun c_1 => ?_) (fun c_1 => ?_)
  · refine lv_aload_n hx hb dX7_previous_10 rfl (lv_at hl 0 rfl) ?_
    refine va_get (D := (dC, dI)) (ci := 6) (v := .int (nI n)) (C := RX7) (T := TX7) (N := 4) hx hb hts inX7 hown hK hP 0 rfl rfl 2 (Nat.le_of_ble_eq_true rfl) (hts _ mw_175) (fun _ h9 => h9) rfl dX7_previous_11 ?_
    refine lv_iconst (v := 1) hx hb dX7_previous_14 rfl ?_
    refine lv_isub hx hb dX7_previous_15 ?_
    refine zz_i (v := nI (n - 1)) (pk_sub (a := n) (b := 1) (by omega)) ?_
    obtain ⟨hP9, hD9⟩ := zu_sub (wc := [_, _, _]) hP hD [true, true, true] rfl rfl
    rw [hQ9]
    exact W.iret (v := nI (n - 1)) hx hb hr (fun t ht hW => ⟨⟨rfl, by rw [ht]; exact hP9, hD9⟩, hS.F ht⟩) hS.2.2 dX7_previous_16
  · exact absurd (by decide) c_1
set_option maxHeartbeats 4000000 in
set_option maxRecDepth 100000 in
theorem k_Row_previous_2 (l : Launch) (dC : Nat → ClassId) (dI : Nat → Nat → Nat) (cI cZ cF : ClassId) (sz : Nat) (r : Nat) (rx : Nat) (ry : Nat) (n : Nat) (cap : Nat) (X : Nat → Int32) (Y : Nat → Int32) (rg : Int32) (hn : n ≤ cap) (hcap : cap ≤ 1000) (h1n : 1 ≤ n) : zM l yX7_previous cX7_previous 2 (some .int) ({ frames := 0, cells := 0, slots := 0, locals := 0 } : Room) [.ref r, .int (-2)] (dC, dI) (zTy cI cZ cF) [(oc6 r (.ref rx) (.ref ry) (nI n) rg), (oa rx cI cap X), (oa ry cI cap Y)] sz (some (.int (nI (n - 1)))) (fun A t => zPD (dC, dI) classes A [(oc6 r (.ref rx) (.ref ry) (nI n) rg), (oa rx cI cap X), (oa ry cI cap Y)] t.heap) 0 0 := by
  refine zIn (own := "ScaleShop$Row") (loc := [(0, .ref r), (1, .int (-2))]) rfl rfl rfl rfl (fun p e s m below meth c hx hb hr hts hown hlocks hml hnm9 A hA hS hP hD hK hXN Q9 hQ9 ls hl => ?_)
  refine lv_iload_n hx hb dX7_previous_0 rfl (lv_at hl 1 rfl) ?_
  refine lv_if_le (tgt := 10) hx hb dX7_previous_1 rfl (fun c_1 => ?_) (fun c_1 => ?_)
  · refine lv_aload_n hx hb dX7_previous_10 rfl (lv_at hl 0 rfl) ?_
    refine va_get (D := (dC, dI)) (ci := 6) (v := .int (nI n)) (C := RX7) (T := TX7) (N := 4) hx hb hts inX7 hown hK hP 0 rfl rfl 2 (Nat.le_of_ble_eq_true rfl) (hts _ mw_175) (fun _ h9 => h9) rfl dX7_previous_11 ?_
    refine lv_iconst (v := 1) hx hb dX7_previous_14 rfl ?_
    refine lv_isub hx hb dX7_previous_15 ?_
    refine zz_i (v := nI (n - 1)) (pk_sub (a := n) (b := 1) (by omega)) ?_
    obtain ⟨hP9, hD9⟩ := zu_sub (wc := [_, _, _]) hP hD [true, true, true] rfl rfl
    rw [hQ9]
    exact W.iret (v := nI (n - 1)) hx hb hr (fun t ht hW => ⟨⟨rfl, by rw [ht]; exact hP9, hD9⟩, hS.F ht⟩) hS.2.2 dX7_previous_16
  · exact absurd (by decide) c_1
set_option maxHeartbeats 4000000 in
set_option maxRecDepth 100000 in
theorem k_Law_allows_k (l : Launch) (dC : Nat → ClassId) (dI : Nat → Nat → Nat) (cI cZ cF : ClassId) (sz : Nat) (lw : Nat) (dr : Nat) (tg : Nat) (wy : Nat) (br : Nat) (bo : Nat) (aa : Nat) (tx : Nat) (ty : Nat) (nt : Nat) (TX : Nat → Int32) (TY : Nat → Int32) (rt : Int32) (wx : Nat) (wz : Nat) (nw : Nat) (WX : Nat → Int32) (WY : Nat → Int32) (rw : Int32) (dx : Nat) (dy : Nat) (nd : Nat) (cd : Nat) (P : Nat → Int32) (Q : Nat → Int32) (rd : Int32) (b1 : Int32) (b2 : Int32) (b3 : Int32) (b4 : Int32) (b5 : Int32) (b6 : Int32) (b7 : Int32) (b8 : Int32) (sh : Nat) (fa : Nat) (ft : Nat) (FA : Nat → Option Nat) (fe : Nat) (lo : Nat) (rk9 : Int32) (wd9 : Int32) (tw9 : Int32) (pa9 : Int32) (pb9 : Int32) (lk : Nat) (kd9 : Int32) (st9 : Int32) (gb9 : Int32) (jt9 : Int32) (we9 : Int32) (r : Nat) (rx : Nat) (ry : Nat) (n : Nat) (cap : Nat) (X : Nat → Int32) (Y : Nat → Int32) (rg : Int32) (f0 : Nat) (k5 : Nat) (fm9 : Value) (L : List Nat) (f : Nat → va_E) (kd : Nat → Int32) (st : Nat → Int32) (tn : Nat → Int32) (mn : Nat → Int32) (cx : Nat → Int32) (cy : Nat → Int32) (h200 : ft ≤ 200) (hf0 : f0 < ft) (hFA : FA f0 = some fe) (hs1 : st9.toInt = 1) (hvw : ∀ q, q < ft → q ≠ f0 → vwO cI L f FA kd st tn mn cx cy q) (hwf : ∀ q, lvF ft st tn q → wfM mn cx cy q) (hkn : okN ft st tn kd mn) (hnd : nd ≤ cd) (hcd : cd ≤ 1000) (hn : n ≤ cap) (hcap : cap ≤ 1000) (hp : pls n X Y) (h1n : 1 ≤ n) (h1d : 1 ≤ nd) (hk5 : k5 < n) (hn1 : ¬ n = 1) : zM l yX4_allows cX4_allows 9 (some .boolean) ({ frames := 4, cells := 0, slots := 0, locals := 103 } : Room) [.ref lw, .ref sh, .ref fe, .int (nI k5)] (dC, dI) (zTy cI cZ cF) ([(oc3 lw (.ref dr) (.ref tg) (.ref wy) (.ref br) (.ref bo) (.ref aa)), (oc6 tg (.ref tx) (.ref ty) (nI nt) rt), (oa tx cI 3 TX), (oa ty cI 3 TY), (oc6 wy (.ref wx) (.ref wz) (nI nw) rw), (oa wx cI 2 WX), (oa wz cI 2 WY), (oc6 dr (.ref dx) (.ref dy) (nI nd) rd), (oa dx cI cd P), (oa dy cI cd Q), (oc0 br b1 b2 b3 b4), (oc0 bo b5 b6 b7 b8), (oc7 sh (.ref fa) (nI ft)), (oq fa cF 200 FA), (oc1 fe rk9 wd9 tw9 pa9 pb9 (.ref lo) (.ref lk) fm9), (oc4 lk kd9 st9 (.ref r) gb9 jt9 we9), (oc6 r (.ref rx) (.ref ry) (nI n) rg), (oa rx cI cap X), (oa ry cI cap Y)] ++ va_pl L f) sz (some (.int (pI (pls nd P Q ∧ eFr nd P Q rd (prv nd (gpK nd k5)) 0 ∧ ∀ q, q < ft → (q ≠ f0 → lvF ft st tn q → (apB (min (min (X k5).toInt (X (prv n k5)).toInt) (X (nxt n k5)).toInt) (min (min (Y k5).toInt (Y (prv n k5)).toInt) (Y (nxt n k5)).toInt) (max (max (X k5).toInt (X (prv n k5)).toInt) (X (nxt n k5)).toInt) (max (max (Y k5).toInt (Y (prv n k5)).toInt) (Y (nxt n k5)).toInt) (nN (mn q)) (cF40 cx q) (cF40 cy q) ∨ (asb n X Y rg nd P Q rd (nN (mn q)) (cF40 cx q) (cF40 cy q) (rgK (kd q).toInt) ∧ (¬ ∃ j, j < nN (mn q) ∧ swC n X Y k5 (cF40 cx q j).toInt (cF40 cy q j).toInt)))))))) (fun A t => ∃ (nt1 : Nat), ∃ (TX1 : Nat → Int32), ∃ (TY1 : Nat → Int32), ∃ (rt1 : Int32), ∃ (nw1 : Nat), ∃ (WX1 : Nat → Int32), ∃ (WY1 : Nat → Int32), ∃ (rw1 : Int32), ∃ (d5 : Int32), ∃ (d6 : Int32), ∃ (d7 : Int32), ∃ (d8 : Int32), ∃ (e5 : Int32), ∃ (e6 : Int32), ∃ (e7 : Int32), ∃ (e8 : Int32), zPD (dC, dI) classes A ([(oc3 lw (.ref dr) (.ref tg) (.ref wy) (.ref br) (.ref bo) (.ref aa)), (oc6 tg (.ref tx) (.ref ty) (nI nt1) rt1), (oa tx cI 3 TX1), (oa ty cI 3 TY1), (oc6 wy (.ref wx) (.ref wz) (nI nw1) rw1), (oa wx cI 2 WX1), (oa wz cI 2 WY1), (oc6 dr (.ref dx) (.ref dy) (nI nd) rd), (oa dx cI cd P), (oa dy cI cd Q), (oc0 br d5 d6 d7 d8), (oc0 bo e5 e6 e7 e8), (oc7 sh (.ref fa) (nI ft)), (oq fa cF 200 FA), (oc1 fe rk9 wd9 tw9 pa9 pb9 (.ref lo) (.ref lk) fm9), (oc4 lk kd9 st9 (.ref r) gb9 jt9 we9), (oc6 r (.ref rx) (.ref ry) (nI n) rg), (oa rx cI cap X), (oa ry cI cap Y)] ++ va_pl L f) t.heap) 0 0 := by
  refine zIn (own := "ScaleShop$Law") (loc := [(0, .ref lw), (1, .ref sh), (2, .ref fe), (3, .int (nI k5))]) rfl rfl rfl rfl (fun p e s m below meth c hx hb hr hts hown hlocks hml hnm9 A hA hS hP hD hK hXN Q9 hQ9 ls hl => ?_)
  refine lv_aload_n hx hb dX4_allows_0 rfl (lv_at hl 2 rfl) ?_
  refine va_get (D := (dC, dI)) (ci := 1) (v := .ref lk) (C := RX2) (T := TX2) (N := 8) hx hb hts inX2 hown hK hP 14 rfl rfl 6 (Nat.le_of_ble_eq_true rfl) (hts _ mw_430) (fun _ h9 => h9) rfl dX4_allows_1 ?_
  refine va_get (D := (dC, dI)) (ci := 4) (v := .ref r) (C := RX5) (T := TX5) (N := 6) hx hb hts inX5 hown hK hP 15 rfl rfl 2 (Nat.le_of_ble_eq_true rfl) (hts _ mw_389) (fun _ h9 => h9) rfl dX4_allows_4 ?_
  refine lv_astore (lv' := [(4, .ref r), (0, .ref lw), (1, .ref sh), (2, .ref fe), (3, .int (nI k5))]) hx hb dX4_allows_7 hl (Nat.le_of_ble_eq_true rfl) rfl (fun ls hl => ?_)
  refine lv_aload hx hb dX4_allows_9 (lv_at hl 0 rfl) ?_
  refine lv_ifnull hx hb dX4_allows_11 ?_
  refine lv_aload_n hx hb dX4_allows_14 rfl (lv_at hl 1 rfl) ?_
  refine va_get (D := (dC, dI)) (ci := 3) (v := .ref dr) (C := RX4) (T := TX4) (N := 6) hx hb hts inX4 hown hK hP 0 rfl rfl 0 (Nat.le_of_ble_eq_true rfl) (hts _ mw_219) (fun _ h9 => h9) rfl dX4_allows_15 ?_
  obtain ⟨hPc, hDc, hFc⟩ := zo_sub (wc := [_, _, _]) hP hD hS hA [7, 8, 9] rfl rfl
  refine zcall (st1 := [.int (pI (pls nd P Q))]) (va_runV (As := []) (rest := []) ⟨hx, hb, hml, hown, hts⟩ (k_Row_arePlaces l dC dI cI cZ cF s.heap.size dr dx dy nd cd P Q rd (by first | with_reducible assumption | omega) (by first | with_reducible assumption | omega)) (csV_65 hts rfl rfl ⟨Nat.le_of_ble_eq_true rfl, Nat.le_of_ble_eq_true rfl⟩) (zPV2 (q0 := 0) (ci := 6) hPc hDc hK hXN rfl rfl) rfl rfl hl.1 rfl (lv_room (Nat.le_of_ble_eq_true rfl)) dX4_allows_18 ⟨Nat.le_of_ble_eq_true rfl, Nat.le_of_ble_eq_true rfl⟩) hS hFc hFc rfl (fun t H locs ht hB hk1 hS => ?_)
  obtain ⟨hP1, hD1⟩ := hB
  rw [ht] at hP1
  obtain ⟨hP, hD⟩ := znQ (W2 := [_, _, _, _, _, _, _, _, _, _, _, _, _, _, _, _, _, _, _]) hP hD hk1 hFc hP1 hD1 [7, 8, 9] [true, true, true, true, true, true, true, false, false, false, true, true, true, true, true, true, true, true, true] [true, true, true, true, true, true, true, false, false, false, true, true, true, true, true, true, true, true, true] [7, 8, 9] (by decide +kernel) rfl rfl rfl rfl rfl
  clear hk1 hPc hDc hFc hP1 hD1 ht
  refine lv_if_ne (tgt := 26) hx hb dX4_allows_21 rfl (fun c_1 => ?_) (fun c_1 => ?_)
  · have c_1 : pls nd P Q := zp_1 c_1
    have hgk : gpK nd k5 < nd := (by unfold gpK; split <;> omega)
    have hpv9 := prv_lt (n := nd) (i := gpK nd k5) hgk
    refine lv_aload_n hx hb dX4_allows_26 rfl (lv_at hl 1 rfl) ?_
    refine va_get (D := (dC, dI)) (ci := 3) (v := .ref dr) (C := RX4) (T := TX4) (N := 6) hx hb hts inX4 hown hK hP 0 rfl rfl 0 (Nat.le_of_ble_eq_true rfl) (hts _ mw_219) (fun _ h9 => h9) rfl dX4_allows_27 ?_
    have hj_2 : W p l e ({ frames := 4, cells := 0, slots := 0, locals := 103 } : Room) s m ([.ref lw, .ref sh, .ref fe, .int (nI k5)] : List Value).toArray below meth c H locs 0 0 Q9 (F0 m 46 ls [.int (nI (gpK nd k5)), .ref dr]) := by
      obtain ⟨hPc, hDc, hFc⟩ := zo_sub (wc := [_, _, _]) hP hD hS hA [7, 8, 9] rfl rfl
      refine zcall (st1 := [.int (nI (prv nd (gpK nd k5)))]) (va_runV (As := [.int (nI (gpK nd k5))]) (rest := []) ⟨hx, hb, hml, hown, hts⟩ (k_Row_previous l dC dI cI cZ cF H.size dr dx dy nd cd P Q rd (gpK nd k5) (by first | with_reducible assumption | omega) (by first | with_reducible assumption | omega) (by first | with_reducible assumption | omega)) (csV_48 hts rfl rfl ⟨Nat.le_of_ble_eq_true rfl, Nat.le_of_ble_eq_true rfl⟩) (zPV2 (q0 := 0) (ci := 6) hPc hDc hK hXN rfl rfl) rfl rfl hl.1 rfl (lv_room (Nat.le_of_ble_eq_true rfl)) dX4_allows_46 ⟨Nat.le_of_ble_eq_true rfl, Nat.le_of_ble_eq_true rfl⟩) hS hFc hFc rfl (fun t H locs ht hB hk1 hS => ?_)
      obtain ⟨hP1, hD1⟩ := hB
      rw [ht] at hP1
      obtain ⟨hP, hD⟩ := znQ (W2 := [_, _, _, _, _, _, _, _, _, _, _, _, _, _, _, _, _, _, _]) hP hD hk1 hFc hP1 hD1 [7, 8, 9] [true, true, true, true, true, true, true, false, false, false, true, true, true, true, true, true, true, true, true] [true, true, true, true, true, true, true, false, false, false, true, true, true, true, true, true, true, true, true] [7, 8, 9] (by decide +kernel) rfl rfl rfl rfl rfl
      clear hk1 hPc hDc hFc hP1 hD1 ht
      refine lv_istore (lv' := [(5, .int (nI (prv nd (gpK nd k5)))), (4, .ref r), (0, .ref lw), (1, .ref sh), (2, .ref fe), (3, .int (nI k5))]) hx hb dX4_allows_49 hl (Nat.le_of_ble_eq_true rfl) rfl (fun ls hl => ?_)
      refine lv_iload_n hx hb dX4_allows_51 rfl (lv_at hl 5 rfl) ?_
      refine lv_bipush (v := (-2)) hx hb dX4_allows_52 rfl ?_
      have b9_4 : k5 < 2147483648 := by omega
      refine lv_icmp_ne (tgt := 62) hx hb dX4_allows_54 rfl (fun c_3 => ?_) (fun c_3 => ?_)
      · have c_3 : ¬ ((k5 : Nat) : Int) = (-2) := zc_ne (nI_toInt b9_4) rfl c_3
        refine lv_aload_n hx hb dX4_allows_62 rfl (lv_at hl 4 rfl) ?_
        refine va_get (D := (dC, dI)) (ci := 1) (v := .ref lk) (C := RX2) (T := TX2) (N := 8) hx hb hts inX2 hown hK hP 14 rfl rfl 6 (Nat.le_of_ble_eq_true rfl) (hts _ mw_430) (fun _ h9 => h9) rfl dX4_allows_63 ?_
        refine va_get (D := (dC, dI)) (ci := 4) (v := .int kd9) (C := RX5) (T := TX5) (N := 6) hx hb hts inX5 hown hK hP 15 rfl rfl 0 (Nat.le_of_ble_eq_true rfl) (hts _ mw_382) (fun _ h9 => h9) rfl dX4_allows_66 ?_
        refine lv_istore (lv' := [(6, .int kd9), (5, .int (nI (prv nd (gpK nd k5)))), (4, .ref r), (0, .ref lw), (1, .ref sh), (2, .ref fe), (3, .int (nI k5))]) hx hb dX4_allows_69 hl (Nat.le_of_ble_eq_true rfl) rfl (fun ls hl => ?_)
        refine lv_iload_n hx hb dX4_allows_71 rfl (lv_at hl 6 rfl) ?_
        refine lv_if_lt (tgt := 91) hx hb dX4_allows_72 rfl (fun c_5 => ?_) (fun c_5 => ?_)
        · have c_5 : ((k5 : Nat) : Int) < 0 := zc_lt (nI_toInt b9_4) rfl c_5
          exfalso; omega
        · have c_5 : 0 ≤ ((k5 : Nat) : Int) := zc_nlt (nI_toInt b9_4) rfl c_5
          refine lv_aload_n hx hb dX4_allows_75 rfl (lv_at hl 3 rfl) ?_
          refine va_get (D := (dC, dI)) (ci := 3) (v := .ref dr) (C := RX4) (T := TX4) (N := 6) hx hb hts inX4 hown hK hP 0 rfl rfl 0 (Nat.le_of_ble_eq_true rfl) (hts _ mw_219) (fun _ h9 => h9) rfl dX4_allows_76 ?_
          refine lv_iload hx hb dX4_allows_79 (lv_at hl 1 rfl) ?_
          refine lv_iconst (v := 0) hx hb dX4_allows_81 rfl ?_
          obtain ⟨hPc, hDc, hFc⟩ := zo_sub (wc := [_, _, _]) hP hD hS hA [7, 8, 9] rfl rfl
          refine zcall (st1 := [.int (pI (eFr nd P Q rd (prv nd (gpK nd k5)) 0))]) (va_runV (As := [.int (nI (prv nd (gpK nd k5))), .int 0]) (rest := []) ⟨hx, hb, hml, hown, hts⟩ (k_Row_isEdgeFree l dC dI cI cZ cF H.size dr dx dy nd cd P Q rd (prv nd (gpK nd k5)) 0 (by first | with_reducible assumption | omega) (by first | with_reducible assumption | omega) (by first | with_reducible assumption | assumption) (by first | with_reducible assumption | omega) (by first | with_reducible assumption | omega)) (csV_66 hts rfl rfl ⟨Nat.le_of_ble_eq_true rfl, Nat.le_of_ble_eq_true rfl⟩) (zPV2 (q0 := 0) (ci := 6) hPc hDc hK hXN rfl rfl) rfl rfl hl.1 rfl (lv_room (Nat.le_of_ble_eq_true rfl)) dX4_allows_82 ⟨Nat.le_of_ble_eq_true rfl, Nat.le_of_ble_eq_true rfl⟩) hS hFc hFc rfl (fun t H locs ht hB hk1 hS => ?_)
          obtain ⟨hP1, hD1⟩ := hB
          rw [ht] at hP1
          obtain ⟨hP, hD⟩ := znQ (W2 := [_, _, _, _, _, _, _, _, _, _, _, _, _, _, _, _, _, _, _]) hP hD hk1 hFc hP1 hD1 [7, 8, 9] [true, true, true, true, true, true, true, false, false, false, true, true, true, true, true, true, true, true, true] [true, true, true, true, true, true, true, false, false, false, true, true, true, true, true, true, true, true, true] [7, 8, 9] (by decide +kernel) rfl rfl rfl rfl rfl
          clear hk1 hPc hDc hFc hP1 hD1 ht
          refine lv_if_ne (tgt := 105) hx hb dX4_allows_85 rfl (fun c_6 => ?_) (fun c_6 => ?_)
          · have c_6 : eFr nd P Q rd (prv nd (gpK nd k5)) 0 := zp_1 c_6
            refine lv_aload_n hx hb dX4_allows_105 rfl (lv_at hl 3 rfl) ?_
            refine lv_aload hx hb dX4_allows_106 (lv_at hl 2 rfl) ?_
            refine lv_iload_n hx hb dX4_allows_108 rfl (lv_at hl 6 rfl) ?_
            obtain ⟨hPc, hDc, hFc⟩ := zo_sub (wc := [_, _, _, _, _]) hP hD hS hA [0, 10, 16, 17, 18] (by decide +kernel) rfl
            refine zcall (st1 := []) (va_runV (As := [.ref r, .int (nI k5)]) (rest := []) ⟨hx, hb, hml, hown, hts⟩ (k_Law_measureReach_k l dC dI cI cZ cF H.size lw dr tg wy br bo aa b1 b2 b3 b4 r rx ry n cap X Y rg k5 (by first | with_reducible assumption | omega) (by first | with_reducible assumption | omega) (by first | with_reducible assumption | assumption) (by first | with_reducible assumption | omega)) (csV_67 hts rfl rfl ⟨Nat.le_of_ble_eq_true rfl, Nat.le_of_ble_eq_true rfl⟩) (zPV2 (q0 := 0) (ci := 3) hPc hDc hK hXN rfl rfl) rfl rfl hl.1 rfl (lv_room (Nat.le_of_ble_eq_true rfl)) dX4_allows_109 ⟨Nat.le_of_ble_eq_true rfl, Nat.le_of_ble_eq_true rfl⟩) hS hFc hFc rfl (fun t H locs ht hB hk1 hS => ?_)
            obtain ⟨hP1, hD1⟩ := hB
            rw [ht] at hP1
            obtain ⟨hP, hD⟩ := znQ (W2 := [_, _, _, _, _, _, _, _, _, _, (oc0 br (iI (min (min (X k5).toInt (X (prv n k5)).toInt) (X (nxt n k5)).toInt)) (iI (min (min (Y k5).toInt (Y (prv n k5)).toInt) (Y (nxt n k5)).toInt)) (iI (max (max (X k5).toInt (X (prv n k5)).toInt) (X (nxt n k5)).toInt)) (iI (max (max (Y k5).toInt (Y (prv n k5)).toInt) (Y (nxt n k5)).toInt))), _, _, _, _, _, _, _, _]) hP hD hk1 hFc hP1 hD1 [0, 10, 16, 17, 18] [false, true, true, true, true, true, true, true, true, true, false, true, true, true, true, true] [false, true, true, true, true, true, true, true, true, true, false, true, true, true, true, true, false, false, false] [0, 10, 16, 17, 18] (by decide +kernel) rfl rfl rfl rfl rfl
            clear hk1 hPc hDc hFc hP1 hD1 ht
            have hpd : pls nd P Q := (by first | with_reducible assumption | assumption)
            have hbr : nr (min (min (X k5).toInt (X (prv n k5)).toInt) (X (nxt n k5)).toInt) ∧ nr (min (min (Y k5).toInt (Y (prv n k5)).toInt) (Y (nxt n k5)).toInt) ∧ nr (max (max (X k5).toInt (X (prv n k5)).toInt) (X (nxt n k5)).toInt) ∧ nr (max (max (Y k5).toInt (Y (prv n k5)).toInt) (Y (nxt n k5)).toInt) := (by have a1 := (pls_nr hp).1 k5 hk5; have a2 := (pls_nr hp).2 k5 hk5; have a3 := (pls_nr hp).1 _ (prv_lt (n := n) (i := k5) hk5); have a4 := (pls_nr hp).2 _ (prv_lt (n := n) (i := k5) hk5); have a5 := (pls_nr hp).1 _ (nxt_lt (n := n) (i := k5) (by omega)); have a6 := (pls_nr hp).2 _ (nxt_lt (n := n) (i := k5) (by omega)); unfold nr at *; omega)
            refine lv_iconst (v := 0) hx hb dX4_allows_112 rfl ?_
            refine lv_istore (lv' := [(7, .int 0), (6, .int kd9), (5, .int (nI (prv nd (gpK nd k5)))), (4, .ref r), (0, .ref lw), (1, .ref sh), (2, .ref fe), (3, .int (nI k5))]) hx hb dX4_allows_113 hl (Nat.le_of_ble_eq_true rfl) rfl (fun ls hl => ?_)
            have hl_115 : ∀ (n9 : Nat) (g5 : Nat) (nt1 : Nat) (TX1 : Nat → Int32) (TY1 : Nat → Int32) (rt1 : Int32) (nw1 : Nat) (WX1 : Nat → Int32) (WY1 : Nat → Int32) (rw1 : Int32) (b5 : Int32) (b6 : Int32) (b7 : Int32) (b8 : Int32) (H : Heap) (locs : List Loc) (ls : Array Slot), ft - g5 < n9 → (g5 ≤ ft) → (∀ q, q < g5 → (q ≠ f0 → lvF ft st tn q → (apB (min (min (X k5).toInt (X (prv n k5)).toInt) (X (nxt n k5)).toInt) (min (min (Y k5).toInt (Y (prv n k5)).toInt) (Y (nxt n k5)).toInt) (max (max (X k5).toInt (X (prv n k5)).toInt) (X (nxt n k5)).toInt) (max (max (Y k5).toInt (Y (prv n k5)).toInt) (Y (nxt n k5)).toInt) (nN (mn q)) (cF40 cx q) (cF40 cy q) ∨ (asb n X Y rg nd P Q rd (nN (mn q)) (cF40 cx q) (cF40 cy q) (rgK (kd q).toInt) ∧ (¬ ∃ j, j < nN (mn q) ∧ swC n X Y k5 (cF40 cx q j).toInt (cF40 cy q j).toInt))))) → va_P (dC, dI) classes ([(oc3 lw (.ref dr) (.ref tg) (.ref wy) (.ref br) (.ref bo) (.ref aa)), (oc6 tg (.ref tx) (.ref ty) (nI nt1) rt1), (oa tx cI 3 TX1), (oa ty cI 3 TY1), (oc6 wy (.ref wx) (.ref wz) (nI nw1) rw1), (oa wx cI 2 WX1), (oa wz cI 2 WY1), (oc6 dr (.ref dx) (.ref dy) (nI nd) rd), (oa dx cI cd P), (oa dy cI cd Q), (oc0 br (iI (min (min (X k5).toInt (X (prv n k5)).toInt) (X (nxt n k5)).toInt)) (iI (min (min (Y k5).toInt (Y (prv n k5)).toInt) (Y (nxt n k5)).toInt)) (iI (max (max (X k5).toInt (X (prv n k5)).toInt) (X (nxt n k5)).toInt)) (iI (max (max (Y k5).toInt (Y (prv n k5)).toInt) (Y (nxt n k5)).toInt))), (oc0 bo b5 b6 b7 b8), (oc7 sh (.ref fa) (nI ft)), (oq fa cF 200 FA), (oc1 fe rk9 wd9 tw9 pa9 pb9 (.ref lo) (.ref lk) fm9), (oc4 lk kd9 st9 (.ref r) gb9 jt9 we9), (oc6 r (.ref rx) (.ref ry) (nI n) rg), (oa rx cI cap X), (oa ry cI cap Y)] ++ va_pl L f) H → va_D A ([(oc3 lw (.ref dr) (.ref tg) (.ref wy) (.ref br) (.ref bo) (.ref aa)), (oc6 tg (.ref tx) (.ref ty) (nI nt1) rt1), (oa tx cI 3 TX1), (oa ty cI 3 TY1), (oc6 wy (.ref wx) (.ref wz) (nI nw1) rw1), (oa wx cI 2 WX1), (oa wz cI 2 WY1), (oc6 dr (.ref dx) (.ref dy) (nI nd) rd), (oa dx cI cd P), (oa dy cI cd Q), (oc0 br (iI (min (min (X k5).toInt (X (prv n k5)).toInt) (X (nxt n k5)).toInt)) (iI (min (min (Y k5).toInt (Y (prv n k5)).toInt) (Y (nxt n k5)).toInt)) (iI (max (max (X k5).toInt (X (prv n k5)).toInt) (X (nxt n k5)).toInt)) (iI (max (max (Y k5).toInt (Y (prv n k5)).toInt) (Y (nxt n k5)).toInt))), (oc0 bo b5 b6 b7 b8), (oc7 sh (.ref fa) (nI ft)), (oq fa cF 200 FA), (oc1 fe rk9 wd9 tw9 pa9 pb9 (.ref lo) (.ref lk) fm9), (oc4 lk kd9 st9 (.ref r) gb9 jt9 we9), (oc6 r (.ref rx) (.ref ry) (nI n) rg), (oa rx cI cap X), (oa ry cI cap Y)] ++ va_pl L f) → va_S A s.heap H locs → lv_has ls 9 [(7, .int (nI g5)), (6, .int kd9), (5, .int (nI (prv nd (gpK nd k5)))), (4, .ref r), (0, .ref lw), (1, .ref sh), (2, .ref fe), (3, .int (nI k5))] → W p l e ({ frames := 4, cells := 0, slots := 0, locals := 103 } : Room) s m ([.ref lw, .ref sh, .ref fe, .int (nI k5)] : List Value).toArray below meth c H locs 0 0 Q9 (F0 m 115 ls []) := by
              intro n9
              induction n9 with
              | zero => intro g5 nt1 TX1 TY1 rt1 nw1 WX1 WY1 rw1 b5 b6 b7 b8 H locs ls hm; exact absurd hm (Nat.not_lt_zero _)
              | succ n9 ih_115 =>
                intro g5 nt1 TX1 TY1 rt1 nw1 WX1 WY1 rw1 b5 b6 b7 b8 H locs ls hm hi5 hall hP hD hS hl
                refine lv_iload hx hb dX4_allows_115 (lv_at hl 0 rfl) ?_
                refine lv_aload_n hx hb dX4_allows_117 rfl (lv_at hl 5 rfl) ?_
                refine va_get (D := (dC, dI)) (ci := 7) (v := .int (nI ft)) (C := RX8) (T := TX8) (N := 2) hx hb hts inX8 hown hK hP 12 rfl rfl 1 (Nat.le_of_ble_eq_true rfl) (hts _ mw_139) (fun _ h9 => h9) rfl dX4_allows_118 ?_
                have b9_8 : g5 < 2147483648 := by omega
                have b9_9 : ft < 2147483648 := by omega
                refine lv_icmp_ge (tgt := 193) hx hb dX4_allows_121 rfl (fun c_7 => ?_) (fun c_7 => ?_)
                · have c_7 : ((ft : Nat) : Int) ≤ ((g5 : Nat) : Int) := zc_le (nI_toInt b9_9) (nI_toInt b9_8) c_7
                  refine lv_iconst (v := 1) hx hb dX4_allows_193 rfl ?_
                  obtain ⟨hP9, hD9⟩ := zu_part (cx := [_, _, _, _, _, _, _, _, _, _, _, _, _, _, _, _, _, _, _]) hP hD [true, true, true, true, true, true, true, true, true, true, true, true, true, true, true, true, true, true, true] rfl rfl
                  rw [hQ9]
                  exact W.zret (ty := .boolean) (v := 1) hx hb hr (rfl) (fun t ht hW => ⟨⟨congrArg (fun z => Outcome.returned (some (Value.int z))) (show (1 : Int32) = pI (pls nd P Q ∧ eFr nd P Q rd (prv nd (gpK nd k5)) 0 ∧ ∀ q, q < ft → (q ≠ f0 → lvF ft st tn q → (apB (min (min (X k5).toInt (X (prv n k5)).toInt) (X (nxt n k5)).toInt) (min (min (Y k5).toInt (Y (prv n k5)).toInt) (Y (nxt n k5)).toInt) (max (max (X k5).toInt (X (prv n k5)).toInt) (X (nxt n k5)).toInt) (max (max (Y k5).toInt (Y (prv n k5)).toInt) (Y (nxt n k5)).toInt) (nN (mn q)) (cF40 cx q) (cF40 cy q) ∨ (asb n X Y rg nd P Q rd (nN (mn q)) (cF40 cx q) (cF40 cy q) (rgK (kd q).toInt) ∧ (¬ ∃ j, j < nN (mn q) ∧ swC n X Y k5 (cF40 cx q j).toInt (cF40 cy q j).toInt))))) from (zp_t (⟨by assumption, by assumption, fun q hq => hall q (by omega)⟩)).symm), nt1, TX1, TY1, rt1, nw1, WX1, WY1, rw1, (iI (min (min (X k5).toInt (X (prv n k5)).toInt) (X (nxt n k5)).toInt)), (iI (min (min (Y k5).toInt (Y (prv n k5)).toInt) (Y (nxt n k5)).toInt)), (iI (max (max (X k5).toInt (X (prv n k5)).toInt) (X (nxt n k5)).toInt)), (iI (max (max (Y k5).toInt (Y (prv n k5)).toInt) (Y (nxt n k5)).toInt)), b5, b6, b7, b8, by rw [ht]; exact hP9, hD9⟩, hS.F ht⟩) hS.2.2 dX4_allows_194
                · have c_7 : ((g5 : Nat) : Int) < ((ft : Nat) : Int) := zc_nle (nI_toInt b9_9) (nI_toInt b9_8) c_7
                  rcases vw4 (hvw g5) (show g5 < ft by omega) with hif | ⟨hif, hs2, fe2, lk2, lo2, rk2, wd2, tw2, pa2, pb2, gb2, jt2, we2, fm2, rw2, hFA2, hfe2, hlk2⟩ | ⟨hif, ht2, fe2, lk2, lo2, rk2, wd2, tw2, pa2, pb2, gb2, jt2, we2, fm2, hFA2, hfe2, hlk2⟩ | ⟨hif, hlv2, fe2, lk2, lo2, rk2, wd2, tw2, pa2, pb2, gb2, jt2, we2, fm2, r2, rx2, ry2, cap2, U2, V2, rg2, hFA2, hfe2, hlk2, ⟨hr2, hrx2, hry2, hne2⟩, hrr2⟩
                  · skip
                    have hFi : FA g5 = some fe := (by rw [hif]; exact hFA)
                    refine lv_aload_n hx hb dX4_allows_124 rfl (lv_at hl 5 rfl) ?_
                    refine lv_iload hx hb dX4_allows_125 (lv_at hl 0 rfl) ?_
                    obtain ⟨hPc, hDc, hFc⟩ := zo_sub (wc := [_, _, _, _]) hP hD hS hA [12, 13, 14, 15] (by decide +kernel) rfl
                    refine zcall (st1 := [.ref r]) (va_runV (As := [.int (nI g5)]) (rest := []) ⟨hx, hb, hml, hown, hts⟩ (k_Sheet_rowThere_yv l dC dI cI cZ cF H.size sh fa ft FA g5 fe lo rk9 wd9 tw9 pa9 pb9 lk kd9 st9 gb9 jt9 we9 r fm9 (by first | with_reducible assumption | omega) (by first | with_reducible assumption | omega) (by first | exact hFi | exact hFA2) (by first | exact hs1 | exact hs2 | exact hlv2.2.1)) (csV_62 hts rfl rfl ⟨Nat.le_of_ble_eq_true rfl, Nat.le_of_ble_eq_true rfl⟩) (zPV2 (q0 := 0) (ci := 7) hPc hDc hK hXN rfl rfl) rfl rfl hl.1 rfl (lv_room (Nat.le_of_ble_eq_true rfl)) dX4_allows_127 ⟨Nat.le_of_ble_eq_true rfl, Nat.le_of_ble_eq_true rfl⟩) hS hFc hFc rfl (fun t H locs ht hB hk1 hS => ?_)
                    obtain ⟨hP1, hD1⟩ := hB
                    rw [ht] at hP1
                    obtain ⟨hP, hD⟩ := znQ (W2 := [_, _, _, _, _, _, _, _, _, _, _, _, _, _, _, _, _, _, _]) hP hD hk1 hFc hP1 hD1 [12, 13, 14, 15] [true, true, true, true, true, true, true, true, true, true, true, true, false, false, false, false, true, true, true] [true, true, true, true, true, true, true, true, true, true, true, true, false, false, false, false, true, true, true] [12, 13, 14, 15] (by decide +kernel) rfl rfl rfl rfl rfl
                    clear hk1 hPc hDc hFc hP1 hD1 ht
                    refine lv_astore (lv' := [(8, .ref r), (7, .int (nI g5)), (6, .int kd9), (5, .int (nI (prv nd (gpK nd k5)))), (4, .ref r), (0, .ref lw), (1, .ref sh), (2, .ref fe), (3, .int (nI k5))]) hx hb dX4_allows_130 hl (Nat.le_of_ble_eq_true rfl) rfl (fun ls hl => ?_)
                    refine lv_aload hx hb dX4_allows_132 (lv_at hl 0 rfl) ?_
                    refine lv_ifnull hx hb dX4_allows_134 ?_
                    refine lv_aload_n hx hb dX4_allows_137 rfl (lv_at hl 6 rfl) ?_
                    refine lv_iload hx hb dX4_allows_138 (lv_at hl 1 rfl) ?_
                    obtain ⟨hPc, hDc, hFc⟩ := zo_sub (wc := [_, _]) hP hD hS hA [12, 13] rfl rfl
                    refine zcall (st1 := [.ref fe]) (va_runV (As := [.int (nI g5)]) (rest := []) ⟨hx, hb, hml, hown, hts⟩ (k_Sheet_find l dC dI cI cZ cF H.size sh fa ft FA g5 fe (by first | with_reducible assumption | omega) (by first | with_reducible assumption | omega) (by first | exact hFi | exact hFA2)) (csV_63 hts rfl rfl ⟨Nat.le_of_ble_eq_true rfl, Nat.le_of_ble_eq_true rfl⟩) (zPV2 (q0 := 0) (ci := 7) hPc hDc hK hXN rfl rfl) rfl rfl hl.1 rfl (lv_room (Nat.le_of_ble_eq_true rfl)) dX4_allows_140 ⟨Nat.le_of_ble_eq_true rfl, Nat.le_of_ble_eq_true rfl⟩) hS hFc hFc rfl (fun t H locs ht hB hk1 hS => ?_)
                    obtain ⟨hP1, hD1⟩ := hB
                    rw [ht] at hP1
                    obtain ⟨hP, hD⟩ := znQ (W2 := [_, _, _, _, _, _, _, _, _, _, _, _, _, _, _, _, _, _, _]) hP hD hk1 hFc hP1 hD1 [12, 13] [true, true, true, true, true, true, true, true, true, true, true, true, false, false, true, true, true, true, true] [true, true, true, true, true, true, true, true, true, true, true, true, false, false, true, true, true, true, true] [12, 13] (by decide +kernel) rfl rfl rfl rfl rfl
                    clear hk1 hPc hDc hFc hP1 hD1 ht
                    refine lv_aload_n hx hb dX4_allows_143 rfl (lv_at hl 7 rfl) ?_
                    refine z_acmpne (rx := fe) (ry := fe) (tgt := 150) hx hb dX4_allows_144 (by decide) (fun c_10 => ?_) (fun c_10 => ?_)
                    · have c_10 : ¬ fe = fe := c_10
                      exact absurd rfl c_10
                    · have c_10 : fe = fe := c_10
                      refine lv_goto (tgt := 187) hx hb dX4_allows_147 rfl ?_
                      refine lv_iinc (v := nI (g5 + 1)) (lv' := [(7, .int (nI (g5 + 1))), (8, .ref r), (6, .int kd9), (5, .int (nI (prv nd (gpK nd k5)))), (4, .ref r), (0, .ref lw), (1, .ref sh), (2, .ref fe), (3, .int (nI k5))]) hx hb dX4_allows_187 hl (k := 1) rfl (nI_add g5 1) (Nat.le_of_ble_eq_true rfl) rfl (fun ls hl => ?_)
                      refine lv_goto (tgt := 115) hx hb dX4_allows_190 rfl ?_
                      exact ih_115 (g5 + 1) nt1 TX1 TY1 rt1 nw1 WX1 WY1 rw1 b5 b6 b7 b8 H locs ls (by first | with_reducible assumption | omega) (by first | with_reducible assumption | omega) (by intro q hq; rcases Nat.lt_or_ge q g5 with h | h; exact hall q h; rw [show q = g5 by omega]; intro h1 h2; first | exact absurd hif h1 | exact absurd h2.2.1 hs2 | exact absurd h2.2.2 ht2 | exact Or.inl (by first | with_reducible assumption | assumption) | exact Or.inr (by first | with_reducible assumption | assumption)) hP hD hS (lv_sub hl [0, 2, 3, 4, 5, 6, 7, 8] rfl)
                  · skip
                    have hc9_1 : inPl L f [(oc1 fe2 rk2 wd2 tw2 pa2 pb2 (.ref lo2) (.ref lk2) fm2), (oc4 lk2 (kd g5) (st g5) rw2 gb2 jt2 we2)] := ⟨hfe2, hlk2, trivial⟩
                    have hD0_1 := hD
                    obtain ⟨hP, hD⟩ := pl_out hP hD [(oc1 fe2 rk2 wd2 tw2 pa2 pb2 (.ref lo2) (.ref lk2) fm2), (oc4 lk2 (kd g5) (st g5) rw2 gb2 jt2 we2)] hc9_1 (pwF hfe2.2 hlk2.2)
                    generalize hT_1 : outPl L [(oc1 fe2 rk2 wd2 tw2 pa2 pb2 (.ref lo2) (.ref lk2) fm2), (oc4 lk2 (kd g5) (st g5) rw2 gb2 jt2 we2)] = T_1 at hP hD
                    obtain ⟨hP, hD⟩ := zre (W2 := ([_, _, _, _, _, _, _, _, _, _, _, _, _, _, _, _, _, _, _, _, _] ++ va_pl T_1 f)) hP hD rfl
                    refine lv_aload_n hx hb dX4_allows_124 rfl (lv_at hl 5 rfl) ?_
                    refine lv_iload hx hb dX4_allows_125 (lv_at hl 0 rfl) ?_
                    obtain ⟨hPc, hDc, hFc⟩ := zo_sub (wc := [_, _, _, _]) hP hD hS hA [12, 13, 19, 20] (by decide +kernel) rfl
                    refine zcall (st1 := [.null]) (va_runV (As := [.int (nI g5)]) (rest := []) ⟨hx, hb, hml, hown, hts⟩ (k_Sheet_rowThere_sv l dC dI cI cZ cF H.size sh fa ft FA g5 fe2 lo2 rk2 wd2 tw2 pa2 pb2 lk2 (kd g5) (st g5) gb2 jt2 we2 fm2 rw2 (by first | with_reducible assumption | omega) (by first | with_reducible assumption | omega) (by first | exact hFi | exact hFA2) (by first | exact hs1 | exact hs2 | exact hlv2.2.1)) (csV_62 hts rfl rfl ⟨Nat.le_of_ble_eq_true rfl, Nat.le_of_ble_eq_true rfl⟩) (zPV2 (q0 := 0) (ci := 7) hPc hDc hK hXN rfl rfl) rfl rfl hl.1 rfl (lv_room (Nat.le_of_ble_eq_true rfl)) dX4_allows_127 ⟨Nat.le_of_ble_eq_true rfl, Nat.le_of_ble_eq_true rfl⟩) hS hFc hFc rfl (fun t H locs ht hB hk1 hS => ?_)
                    obtain ⟨hP1, hD1⟩ := hB
                    rw [ht] at hP1
                    obtain ⟨hP, hD⟩ := znQ (W2 := [_, _, _, _, _, _, _, _, _, _, _, _, _, _, _, _, _, _, _, _, _]) hP hD hk1 hFc hP1 hD1 [12, 13, 19, 20] [true, true, true, true, true, true, true, true, true, true, true, true, false, false, true, true, true, true, true] [true, true, true, true, true, true, true, true, true, true, true, true, false, false, true, true, true, true, true, false, false] [12, 13, 19, 20] (by decide +kernel) rfl rfl rfl rfl rfl
                    clear hk1 hPc hDc hFc hP1 hD1 ht
                    refine lv_astoreN (lv' := [(8, .null), (7, .int (nI g5)), (6, .int kd9), (5, .int (nI (prv nd (gpK nd k5)))), (4, .ref r), (0, .ref lw), (1, .ref sh), (2, .ref fe), (3, .int (nI k5))]) hx hb dX4_allows_130 hl (Nat.le_of_ble_eq_true rfl) rfl (fun ls hl => ?_)
                    refine lv_aloadN hx hb dX4_allows_132 (lv_at hl 0 rfl) ?_
                    refine lv_ifnullN (tgt := 187) hx hb dX4_allows_134 rfl ?_
                    obtain ⟨hP, hD⟩ := pl_bk (X := [_, _, _, _, _, _, _, _, _, _, _, _, _, _, _, _, _, _, _]) hT_1 hP rfl hc9_1 hD0_1 rfl
                    refine lv_iinc (v := nI (g5 + 1)) (lv' := [(7, .int (nI (g5 + 1))), (8, .null), (6, .int kd9), (5, .int (nI (prv nd (gpK nd k5)))), (4, .ref r), (0, .ref lw), (1, .ref sh), (2, .ref fe), (3, .int (nI k5))]) hx hb dX4_allows_187 hl (k := 1) rfl (nI_add g5 1) (Nat.le_of_ble_eq_true rfl) rfl (fun ls hl => ?_)
                    refine lv_goto (tgt := 115) hx hb dX4_allows_190 rfl ?_
                    exact ih_115 (g5 + 1) nt1 TX1 TY1 rt1 nw1 WX1 WY1 rw1 b5 b6 b7 b8 H locs ls (by first | with_reducible assumption | omega) (by first | with_reducible assumption | omega) (by intro q hq; rcases Nat.lt_or_ge q g5 with h | h; exact hall q h; rw [show q = g5 by omega]; intro h1 h2; first | exact absurd hif h1 | exact absurd h2.2.1 hs2 | exact absurd h2.2.2 ht2 | exact Or.inl (by first | with_reducible assumption | assumption) | exact Or.inr (by first | with_reducible assumption | assumption)) hP hD hS (lv_sub hl [0, 2, 3, 4, 5, 6, 7, 8] rfl)
                  · skip
                    have hc9_1 : inPl L f [(oc1 fe2 rk2 wd2 tw2 pa2 pb2 (.ref lo2) (.ref lk2) fm2), (oc4 lk2 (kd g5) (st g5) .null gb2 jt2 we2)] := ⟨hfe2, hlk2, trivial⟩
                    have hD0_1 := hD
                    obtain ⟨hP, hD⟩ := pl_out hP hD [(oc1 fe2 rk2 wd2 tw2 pa2 pb2 (.ref lo2) (.ref lk2) fm2), (oc4 lk2 (kd g5) (st g5) .null gb2 jt2 we2)] hc9_1 (pwF hfe2.2 hlk2.2)
                    generalize hT_1 : outPl L [(oc1 fe2 rk2 wd2 tw2 pa2 pb2 (.ref lo2) (.ref lk2) fm2), (oc4 lk2 (kd g5) (st g5) .null gb2 jt2 we2)] = T_1 at hP hD
                    obtain ⟨hP, hD⟩ := zre (W2 := ([_, _, _, _, _, _, _, _, _, _, _, _, _, _, _, _, _, _, _, _, _] ++ va_pl T_1 f)) hP hD rfl
                    refine lv_aload_n hx hb dX4_allows_124 rfl (lv_at hl 5 rfl) ?_
                    refine lv_iload hx hb dX4_allows_125 (lv_at hl 0 rfl) ?_
                    obtain ⟨hPc, hDc, hFc⟩ := zo_sub (wc := [_, _, _, _]) hP hD hS hA [12, 13, 19, 20] (by decide +kernel) rfl
                    refine zcall (st1 := [.null]) (va_runV (As := [.int (nI g5)]) (rest := []) ⟨hx, hb, hml, hown, hts⟩ (k_Sheet_rowThere_tv l dC dI cI cZ cF H.size sh fa ft FA g5 fe2 lo2 rk2 wd2 tw2 pa2 pb2 lk2 (kd g5) (st g5) gb2 jt2 we2 fm2 (by first | with_reducible assumption | omega) (by first | with_reducible assumption | omega) (by first | exact hFi | exact hFA2)) (csV_62 hts rfl rfl ⟨Nat.le_of_ble_eq_true rfl, Nat.le_of_ble_eq_true rfl⟩) (zPV2 (q0 := 0) (ci := 7) hPc hDc hK hXN rfl rfl) rfl rfl hl.1 rfl (lv_room (Nat.le_of_ble_eq_true rfl)) dX4_allows_127 ⟨Nat.le_of_ble_eq_true rfl, Nat.le_of_ble_eq_true rfl⟩) hS hFc hFc rfl (fun t H locs ht hB hk1 hS => ?_)
                    obtain ⟨hP1, hD1⟩ := hB
                    rw [ht] at hP1
                    obtain ⟨hP, hD⟩ := znQ (W2 := [_, _, _, _, _, _, _, _, _, _, _, _, _, _, _, _, _, _, _, _, _]) hP hD hk1 hFc hP1 hD1 [12, 13, 19, 20] [true, true, true, true, true, true, true, true, true, true, true, true, false, false, true, true, true, true, true] [true, true, true, true, true, true, true, true, true, true, true, true, false, false, true, true, true, true, true, false, false] [12, 13, 19, 20] (by decide +kernel) rfl rfl rfl rfl rfl
                    clear hk1 hPc hDc hFc hP1 hD1 ht
                    refine lv_astoreN (lv' := [(8, .null), (7, .int (nI g5)), (6, .int kd9), (5, .int (nI (prv nd (gpK nd k5)))), (4, .ref r), (0, .ref lw), (1, .ref sh), (2, .ref fe), (3, .int (nI k5))]) hx hb dX4_allows_130 hl (Nat.le_of_ble_eq_true rfl) rfl (fun ls hl => ?_)
                    refine lv_aloadN hx hb dX4_allows_132 (lv_at hl 0 rfl) ?_
                    refine lv_ifnullN (tgt := 187) hx hb dX4_allows_134 rfl ?_
                    obtain ⟨hP, hD⟩ := pl_bk (X := [_, _, _, _, _, _, _, _, _, _, _, _, _, _, _, _, _, _, _]) hT_1 hP rfl hc9_1 hD0_1 rfl
                    refine lv_iinc (v := nI (g5 + 1)) (lv' := [(7, .int (nI (g5 + 1))), (8, .null), (6, .int kd9), (5, .int (nI (prv nd (gpK nd k5)))), (4, .ref r), (0, .ref lw), (1, .ref sh), (2, .ref fe), (3, .int (nI k5))]) hx hb dX4_allows_187 hl (k := 1) rfl (nI_add g5 1) (Nat.le_of_ble_eq_true rfl) rfl (fun ls hl => ?_)
                    refine lv_goto (tgt := 115) hx hb dX4_allows_190 rfl ?_
                    exact ih_115 (g5 + 1) nt1 TX1 TY1 rt1 nw1 WX1 WY1 rw1 b5 b6 b7 b8 H locs ls (by first | with_reducible assumption | omega) (by first | with_reducible assumption | omega) (by intro q hq; rcases Nat.lt_or_ge q g5 with h | h; exact hall q h; rw [show q = g5 by omega]; intro h1 h2; first | exact absurd hif h1 | exact absurd h2.2.1 hs2 | exact absurd h2.2.2 ht2 | exact Or.inl (by first | with_reducible assumption | assumption) | exact Or.inr (by first | with_reducible assumption | assumption)) hP hD hS (lv_sub hl [0, 2, 3, 4, 5, 6, 7, 8] rfl)
                  · skip
                    have hw2 := hwf g5 hlv2
                    have hn2 := hw2.2.1
                    have hq2 := rw_pls hrr2 hw2
                    have hkn2 := hkn g5 hlv2
                    have hcap2 := hrr2.1
                    have hcap3 := hrr2.2.1
                    have h1m2 : 1 ≤ nN (mn g5) := hw2.2.1.1
                    have hrk2 := rgK_e hrr2.2.2.2.1
                    have hc9_1 : inPl L f [(oc1 fe2 rk2 wd2 tw2 pa2 pb2 (.ref lo2) (.ref lk2) fm2), (oc4 lk2 (kd g5) (st g5) (.ref r2) gb2 jt2 we2), (oc6 r2 (.ref rx2) (.ref ry2) (nI (nN (mn g5))) rg2), (oa rx2 cI cap2 U2), (oa ry2 cI cap2 V2)] := ⟨hfe2, hlk2, hr2, hrx2, hry2, trivial⟩
                    have hD0_1 := hD
                    obtain ⟨hP, hD⟩ := pl_out hP hD [(oc1 fe2 rk2 wd2 tw2 pa2 pb2 (.ref lo2) (.ref lk2) fm2), (oc4 lk2 (kd g5) (st g5) (.ref r2) gb2 jt2 we2), (oc6 r2 (.ref rx2) (.ref ry2) (nI (nN (mn g5))) rg2), (oa rx2 cI cap2 U2), (oa ry2 cI cap2 V2)] hc9_1 (pwR hfe2.2 hlk2.2 hr2.2 hrx2.2 hry2.2 hne2)
                    generalize hT_1 : outPl L [(oc1 fe2 rk2 wd2 tw2 pa2 pb2 (.ref lo2) (.ref lk2) fm2), (oc4 lk2 (kd g5) (st g5) (.ref r2) gb2 jt2 we2), (oc6 r2 (.ref rx2) (.ref ry2) (nI (nN (mn g5))) rg2), (oa rx2 cI cap2 U2), (oa ry2 cI cap2 V2)] = T_1 at hP hD
                    obtain ⟨hP, hD⟩ := zre (W2 := ([_, _, _, _, _, _, _, _, _, _, _, _, _, _, _, _, _, _, _, _, _, _, _, _] ++ va_pl T_1 f)) hP hD rfl
                    refine lv_aload_n hx hb dX4_allows_124 rfl (lv_at hl 5 rfl) ?_
                    refine lv_iload hx hb dX4_allows_125 (lv_at hl 0 rfl) ?_
                    obtain ⟨hPc, hDc, hFc⟩ := zo_sub (wc := [_, _, _, _]) hP hD hS hA [12, 13, 19, 20] (by decide +kernel) rfl
                    refine zcall (st1 := [.ref r2]) (va_runV (As := [.int (nI g5)]) (rest := []) ⟨hx, hb, hml, hown, hts⟩ (k_Sheet_rowThere_yv l dC dI cI cZ cF H.size sh fa ft FA g5 fe2 lo2 rk2 wd2 tw2 pa2 pb2 lk2 (kd g5) (st g5) gb2 jt2 we2 r2 fm2 (by first | with_reducible assumption | omega) (by first | with_reducible assumption | omega) (by first | exact hFi | exact hFA2) (by first | exact hs1 | exact hs2 | exact hlv2.2.1)) (csV_62 hts rfl rfl ⟨Nat.le_of_ble_eq_true rfl, Nat.le_of_ble_eq_true rfl⟩) (zPV2 (q0 := 0) (ci := 7) hPc hDc hK hXN rfl rfl) rfl rfl hl.1 rfl (lv_room (Nat.le_of_ble_eq_true rfl)) dX4_allows_127 ⟨Nat.le_of_ble_eq_true rfl, Nat.le_of_ble_eq_true rfl⟩) hS hFc hFc rfl (fun t H locs ht hB hk1 hS => ?_)
                    obtain ⟨hP1, hD1⟩ := hB
                    rw [ht] at hP1
                    obtain ⟨hP, hD⟩ := znQ (W2 := [_, _, _, _, _, _, _, _, _, _, _, _, _, _, _, _, _, _, _, _, _, _, _, _]) hP hD hk1 hFc hP1 hD1 [12, 13, 19, 20] [true, true, true, true, true, true, true, true, true, true, true, true, false, false, true, true, true, true, true, false, false, true, true, true] [true, true, true, true, true, true, true, true, true, true, true, true, false, false, true, true, true, true, true, false, false, true, true, true] [12, 13, 19, 20] (by decide +kernel) rfl rfl rfl rfl rfl
                    clear hk1 hPc hDc hFc hP1 hD1 ht
                    refine lv_astore (lv' := [(8, .ref r2), (7, .int (nI g5)), (6, .int kd9), (5, .int (nI (prv nd (gpK nd k5)))), (4, .ref r), (0, .ref lw), (1, .ref sh), (2, .ref fe), (3, .int (nI k5))]) hx hb dX4_allows_130 hl (Nat.le_of_ble_eq_true rfl) rfl (fun ls hl => ?_)
                    refine lv_aload hx hb dX4_allows_132 (lv_at hl 0 rfl) ?_
                    refine lv_ifnull hx hb dX4_allows_134 ?_
                    refine lv_aload_n hx hb dX4_allows_137 rfl (lv_at hl 6 rfl) ?_
                    refine lv_iload hx hb dX4_allows_138 (lv_at hl 1 rfl) ?_
                    obtain ⟨hPc, hDc, hFc⟩ := zo_sub (wc := [_, _]) hP hD hS hA [12, 13] rfl rfl
                    refine zcall (st1 := [.ref fe2]) (va_runV (As := [.int (nI g5)]) (rest := []) ⟨hx, hb, hml, hown, hts⟩ (k_Sheet_find l dC dI cI cZ cF H.size sh fa ft FA g5 fe2 (by first | with_reducible assumption | omega) (by first | with_reducible assumption | omega) (by first | exact hFi | exact hFA2)) (csV_63 hts rfl rfl ⟨Nat.le_of_ble_eq_true rfl, Nat.le_of_ble_eq_true rfl⟩) (zPV2 (q0 := 0) (ci := 7) hPc hDc hK hXN rfl rfl) rfl rfl hl.1 rfl (lv_room (Nat.le_of_ble_eq_true rfl)) dX4_allows_140 ⟨Nat.le_of_ble_eq_true rfl, Nat.le_of_ble_eq_true rfl⟩) hS hFc hFc rfl (fun t H locs ht hB hk1 hS => ?_)
                    obtain ⟨hP1, hD1⟩ := hB
                    rw [ht] at hP1
                    obtain ⟨hP, hD⟩ := znQ (W2 := [_, _, _, _, _, _, _, _, _, _, _, _, _, _, _, _, _, _, _, _, _, _, _, _]) hP hD hk1 hFc hP1 hD1 [12, 13] [true, true, true, true, true, true, true, true, true, true, true, true, false, false, true, true, true, true, true, true, true, true, true, true] [true, true, true, true, true, true, true, true, true, true, true, true, false, false, true, true, true, true, true, true, true, true, true, true] [12, 13] (by decide +kernel) rfl rfl rfl rfl rfl
                    clear hk1 hPc hDc hFc hP1 hD1 ht
                    refine lv_aload_n hx hb dX4_allows_143 rfl (lv_at hl 7 rfl) ?_
                    refine z_acmpne (rx := fe2) (ry := fe) (tgt := 150) hx hb dX4_allows_144 (by decide) (fun c_11 => ?_) (fun c_11 => ?_)
                    · have c_11 : ¬ fe2 = fe := c_11
                      refine lv_aload_n hx hb dX4_allows_150 rfl (lv_at hl 5 rfl) ?_
                      refine va_get (D := (dC, dI)) (ci := 3) (v := .ref bo) (C := RX4) (T := TX4) (N := 6) hx hb hts inX4 hown hK hP 0 rfl rfl 4 (Nat.le_of_ble_eq_true rfl) (hts _ mw_224) (fun _ h9 => h9) rfl dX4_allows_151 ?_
                      refine lv_aload hx hb dX4_allows_154 (lv_at hl 0 rfl) ?_
                      obtain ⟨hPc, hDc, hFc⟩ := zo_sub (wc := [_, _, _, _]) hP hD hS hA [11, 21, 22, 23] (by decide +kernel) rfl
                      refine zcall (st1 := []) (va_runV (As := [.ref r2]) (rest := []) ⟨hx, hb, hml, hown, hts⟩ (k_Box_cover l dC dI cI cZ cF H.size bo b5 b6 b7 b8 r2 rx2 ry2 (nN (mn g5)) cap2 U2 V2 rg2 (by first | with_reducible assumption | omega) (by first | with_reducible assumption | omega) ((pls_nr hq2).1) ((pls_nr hq2).2) (by first | with_reducible assumption | omega)) (csV_52 hts rfl rfl ⟨Nat.le_of_ble_eq_true rfl, Nat.le_of_ble_eq_true rfl⟩) (zPV2 (q0 := 0) (ci := 0) hPc hDc hK hXN rfl rfl) rfl rfl hl.1 rfl (lv_room (Nat.le_of_ble_eq_true rfl)) dX4_allows_156 ⟨Nat.le_of_ble_eq_true rfl, Nat.le_of_ble_eq_true rfl⟩) hS hFc hFc rfl (fun t H locs ht hB hk1 hS => ?_)
                      obtain ⟨hP1, hD1⟩ := hB
                      rw [ht] at hP1
                      obtain ⟨hP, hD⟩ := znQ (W2 := [_, _, _, _, _, _, _, _, _, _, _, (oc0 bo (iI (mnI (U2 0).toInt U2 (nN (mn g5)))) (iI (mnI (V2 0).toInt V2 (nN (mn g5)))) (iI (mxI (U2 0).toInt U2 (nN (mn g5)))) (iI (mxI (V2 0).toInt V2 (nN (mn g5))))), _, _, _, _, _, _, _, _, _, _, _, _]) hP hD hk1 hFc hP1 hD1 [11, 21, 22, 23] [true, true, true, true, true, true, true, true, true, true, true, false, true, true, true, true, true, true, true, true, true] [true, true, true, true, true, true, true, true, true, true, true, false, true, true, true, true, true, true, true, true, true, false, false, false] [11, 21, 22, 23] (by decide +kernel) rfl rfl rfl rfl rfl
                      clear hk1 hPc hDc hFc hP1 hD1 ht
                      refine lv_aload_n hx hb dX4_allows_159 rfl (lv_at hl 5 rfl) ?_
                      refine va_get (D := (dC, dI)) (ci := 3) (v := .ref br) (C := RX4) (T := TX4) (N := 6) hx hb hts inX4 hown hK hP 0 rfl rfl 3 (Nat.le_of_ble_eq_true rfl) (hts _ mw_223) (fun _ h9 => h9) rfl dX4_allows_160 ?_
                      refine lv_aload_n hx hb dX4_allows_163 rfl (lv_at hl 5 rfl) ?_
                      refine va_get (D := (dC, dI)) (ci := 3) (v := .ref bo) (C := RX4) (T := TX4) (N := 6) hx hb hts inX4 hown hK hP 0 rfl rfl 4 (Nat.le_of_ble_eq_true rfl) (hts _ mw_224) (fun _ h9 => h9) rfl dX4_allows_164 ?_
                      obtain ⟨hPc, hDc, hFc⟩ := zo_sub (wc := [_, _]) hP hD hS hA [10, 11] rfl rfl
                      refine zcall (st1 := [.int (pI ((max (max (X k5).toInt (X (prv n k5)).toInt) (X (nxt n k5)).toInt) < (mnI (U2 0).toInt U2 (nN (mn g5))) ∨ (mxI (U2 0).toInt U2 (nN (mn g5))) < (min (min (X k5).toInt (X (prv n k5)).toInt) (X (nxt n k5)).toInt) ∨ (max (max (Y k5).toInt (Y (prv n k5)).toInt) (Y (nxt n k5)).toInt) < (mnI (V2 0).toInt V2 (nN (mn g5))) ∨ (mxI (V2 0).toInt V2 (nN (mn g5))) < (min (min (Y k5).toInt (Y (prv n k5)).toInt) (Y (nxt n k5)).toInt)))]) (va_runV (As := [.ref bo]) (rest := []) ⟨hx, hb, hml, hown, hts⟩ (k_Box_isApart l dC dI cI cZ cF H.size br (min (min (X k5).toInt (X (prv n k5)).toInt) (X (nxt n k5)).toInt) (min (min (Y k5).toInt (Y (prv n k5)).toInt) (Y (nxt n k5)).toInt) (max (max (X k5).toInt (X (prv n k5)).toInt) (X (nxt n k5)).toInt) (max (max (Y k5).toInt (Y (prv n k5)).toInt) (Y (nxt n k5)).toInt) bo (mnI (U2 0).toInt U2 (nN (mn g5))) (mnI (V2 0).toInt V2 (nN (mn g5))) (mxI (U2 0).toInt U2 (nN (mn g5))) (mxI (V2 0).toInt V2 (nN (mn g5))) (hbr) (⟨mnB ((pls_nr hq2).1 0 (by first | with_reducible assumption | omega)) (pls_nr hq2).1 _ (Nat.le_refl _), mnB ((pls_nr hq2).2 0 (by first | with_reducible assumption | omega)) (pls_nr hq2).2 _ (Nat.le_refl _), mxB ((pls_nr hq2).1 0 (by first | with_reducible assumption | omega)) (pls_nr hq2).1 _ (Nat.le_refl _), mxB ((pls_nr hq2).2 0 (by first | with_reducible assumption | omega)) (pls_nr hq2).2 _ (Nat.le_refl _)⟩)) (csV_68 hts rfl rfl ⟨Nat.le_of_ble_eq_true rfl, Nat.le_of_ble_eq_true rfl⟩) (zPV2 (q0 := 0) (ci := 0) hPc hDc hK hXN rfl rfl) rfl rfl hl.1 rfl (lv_room (Nat.le_of_ble_eq_true rfl)) dX4_allows_167 ⟨Nat.le_of_ble_eq_true rfl, Nat.le_of_ble_eq_true rfl⟩) hS hFc hFc rfl (fun t H locs ht hB hk1 hS => ?_)
                      obtain ⟨hP1, hD1⟩ := hB
                      rw [ht] at hP1
                      obtain ⟨hP, hD⟩ := znQ (W2 := [_, _, _, _, _, _, _, _, _, _, _, _, _, _, _, _, _, _, _, _, _, _, _, _]) hP hD hk1 hFc hP1 hD1 [10, 11] [true, true, true, true, true, true, true, true, true, true, false, false, true, true, true, true, true, true, true, true, true, true, true, true] [true, true, true, true, true, true, true, true, true, true, false, false, true, true, true, true, true, true, true, true, true, true, true, true] [10, 11] (by decide +kernel) rfl rfl rfl rfl rfl
                      clear hk1 hPc hDc hFc hP1 hD1 ht
                      refine zz_i (v := pI (apB (min (min (X k5).toInt (X (prv n k5)).toInt) (X (nxt n k5)).toInt) (min (min (Y k5).toInt (Y (prv n k5)).toInt) (Y (nxt n k5)).toInt) (max (max (X k5).toInt (X (prv n k5)).toInt) (X (nxt n k5)).toInt) (max (max (Y k5).toInt (Y (prv n k5)).toInt) (Y (nxt n k5)).toInt) (nN (mn g5)) (cF40 cx g5) (cF40 cy g5))) (zp_iff (apB_cg h1m2 hrr2.2.2.2.2)) ?_
                      refine lv_if_ne (tgt := 187) hx hb dX4_allows_170 rfl (fun c_12 => ?_) (fun c_12 => ?_)
                      · have c_12 : apB (min (min (X k5).toInt (X (prv n k5)).toInt) (X (nxt n k5)).toInt) (min (min (Y k5).toInt (Y (prv n k5)).toInt) (Y (nxt n k5)).toInt) (max (max (X k5).toInt (X (prv n k5)).toInt) (X (nxt n k5)).toInt) (max (max (Y k5).toInt (Y (prv n k5)).toInt) (Y (nxt n k5)).toInt) (nN (mn g5)) (cF40 cx g5) (cF40 cy g5) := zp_1 c_12
                        obtain ⟨hP, hD⟩ := pl_bk (X := [_, _, _, _, _, _, _, _, _, _, _, _, _, _, _, _, _, _, _]) hT_1 hP rfl hc9_1 hD0_1 rfl
                        refine lv_iinc (v := nI (g5 + 1)) (lv' := [(7, .int (nI (g5 + 1))), (8, .ref r2), (6, .int kd9), (5, .int (nI (prv nd (gpK nd k5)))), (4, .ref r), (0, .ref lw), (1, .ref sh), (2, .ref fe), (3, .int (nI k5))]) hx hb dX4_allows_187 hl (k := 1) rfl (nI_add g5 1) (Nat.le_of_ble_eq_true rfl) rfl (fun ls hl => ?_)
                        refine lv_goto (tgt := 115) hx hb dX4_allows_190 rfl ?_
                        exact ih_115 (g5 + 1) nt1 TX1 TY1 rt1 nw1 WX1 WY1 rw1 (iI (mnI (U2 0).toInt U2 (nN (mn g5)))) (iI (mnI (V2 0).toInt V2 (nN (mn g5)))) (iI (mxI (U2 0).toInt U2 (nN (mn g5)))) (iI (mxI (V2 0).toInt V2 (nN (mn g5)))) H locs ls (by first | with_reducible assumption | omega) (by first | with_reducible assumption | omega) (by intro q hq; rcases Nat.lt_or_ge q g5 with h | h; exact hall q h; rw [show q = g5 by omega]; intro h1 h2; first | exact absurd hif h1 | exact absurd h2.2.1 hs2 | exact absurd h2.2.2 ht2 | exact Or.inl (by first | with_reducible assumption | assumption) | exact Or.inr (by first | with_reducible assumption | assumption)) hP hD hS (lv_sub hl [0, 2, 3, 4, 5, 6, 7, 8] rfl)
                      · have c_12 : ¬ (apB (min (min (X k5).toInt (X (prv n k5)).toInt) (X (nxt n k5)).toInt) (min (min (Y k5).toInt (Y (prv n k5)).toInt) (Y (nxt n k5)).toInt) (max (max (X k5).toInt (X (prv n k5)).toInt) (X (nxt n k5)).toInt) (max (max (Y k5).toInt (Y (prv n k5)).toInt) (Y (nxt n k5)).toInt) (nN (mn g5)) (cF40 cx g5) (cF40 cy g5)) := zp_0 c_12
                        refine lv_aload_n hx hb dX4_allows_173 rfl (lv_at hl 5 rfl) ?_
                        refine lv_aload hx hb dX4_allows_174 (lv_at hl 4 rfl) ?_
                        refine lv_aload hx hb dX4_allows_176 (lv_at hl 0 rfl) ?_
                        refine lv_iload_n hx hb dX4_allows_178 rfl (lv_at hl 8 rfl) ?_
                        obtain ⟨hPc, hDc, hFc⟩ := zo_sub (wc := [_, _, _, _, _, _, _, _, _, _, _, _, _, _, _, _]) hP hD hS hA [0, 1, 2, 3, 4, 5, 6, 7, 8, 9, 16, 17, 18, 21, 22, 23] (by decide +kernel) rfl
                        refine zcall (st1 := [.int (pI (asb n X Y rg nd P Q rd (nN (mn g5)) U2 V2 rg2 ∧ (¬ (∃ j, j < (nN (mn g5)) ∧ swC n X Y k5 (U2 j).toInt (V2 j).toInt))))]) (va_runV (As := [.ref r, .ref r2, .int (nI k5)]) (rest := []) ⟨hx, hb, hml, hown, hts⟩ (k_Law_isAsBefore_k l dC dI cI cZ cF H.size lw dr tg wy br bo aa tx ty nt1 TX1 TY1 rt1 wx wz nw1 WX1 WY1 rw1 dx dy nd cd P Q rd r rx ry n cap X Y rg r2 rx2 ry2 (nN (mn g5)) cap2 U2 V2 rg2 k5 (by first | with_reducible assumption | omega) (by first | with_reducible assumption | omega) (by first | with_reducible assumption | assumption) (by first | with_reducible assumption | omega) (by first | with_reducible assumption | omega) (hp) (by first | with_reducible assumption | omega) (by first | with_reducible assumption | omega) (hq2) (by first | with_reducible assumption | omega) (by first | with_reducible assumption | omega) (by first | with_reducible assumption | omega) (by first | with_reducible assumption | omega) (by first | with_reducible assumption | omega) (by first | with_reducible assumption | omega)) (csV_69 hts rfl rfl ⟨Nat.le_of_ble_eq_true rfl, Nat.le_of_ble_eq_true rfl⟩) (zPV2 (q0 := 0) (ci := 3) hPc hDc hK hXN rfl rfl) rfl rfl hl.1 rfl (lv_room (Nat.le_of_ble_eq_true rfl)) dX4_allows_179 ⟨Nat.le_of_ble_eq_true rfl, Nat.le_of_ble_eq_true rfl⟩) hS hFc hFc rfl (fun t H locs ht hB hk1 hS => ?_)
                        obtain ⟨q_13, q_14, q_15, q_16, q_17, q_18, q_19, q_20, hP1, hD1⟩ := hB
                        rw [ht] at hP1
                        obtain ⟨hP, hD⟩ := znQ (W2 := [_, (oc6 tg (.ref tx) (.ref ty) (nI q_13) q_16), (oa tx cI 3 q_14), (oa ty cI 3 q_15), (oc6 wy (.ref wx) (.ref wz) (nI q_17) q_20), (oa wx cI 2 q_18), (oa wz cI 2 q_19), _, _, _, _, _, _, _, _, _, _, _, _, _, _, _, _, _]) hP hD hk1 hFc hP1 hD1 [0, 1, 2, 3, 4, 5, 6, 7, 8, 9, 16, 17, 18, 21, 22, 23] [false, false, false, false, false, false, false, false, false, false, true, true, true, true, true, true, false, false, false, true, true] [false, false, false, false, false, false, false, false, false, false, true, true, true, true, true, true, false, false, false, true, true, false, false, false] [0, 1, 2, 3, 4, 5, 6, 7, 8, 9, 16, 17, 18, 21, 22, 23] (by decide +kernel) rfl rfl rfl rfl rfl
                        clear hk1 hPc hDc hFc hP1 hD1 ht
                        refine zz_i (v := pI (asb n X Y rg nd P Q rd (nN (mn g5)) (cF40 cx g5) (cF40 cy g5) (rgK (kd g5).toInt) ∧ (¬ ∃ j, j < nN (mn g5) ∧ swC n X Y k5 (cF40 cx g5 j).toInt (cF40 cy g5 j).toInt))) (by rw [← hrk2]; exact zp_iff (and_congr (asb_cg h1m2 hrr2.2.2.2.2) (not_congr (ex_cg (W := fun x y => swC n X Y k5 x y) hrr2.2.2.2.2)))) ?_
                        refine lv_if_ne (tgt := 187) hx hb dX4_allows_182 rfl (fun c_21 => ?_) (fun c_21 => ?_)
                        · have c_21 : asb n X Y rg nd P Q rd (nN (mn g5)) (cF40 cx g5) (cF40 cy g5) (rgK (kd g5).toInt) ∧ (¬ ∃ j, j < nN (mn g5) ∧ swC n X Y k5 (cF40 cx g5 j).toInt (cF40 cy g5 j).toInt) := zp_1 c_21
                          obtain ⟨hP, hD⟩ := pl_bk (X := [_, _, _, _, _, _, _, _, _, _, _, _, _, _, _, _, _, _, _]) hT_1 hP rfl hc9_1 hD0_1 rfl
                          refine lv_iinc (v := nI (g5 + 1)) (lv' := [(7, .int (nI (g5 + 1))), (8, .ref r2), (6, .int kd9), (5, .int (nI (prv nd (gpK nd k5)))), (4, .ref r), (0, .ref lw), (1, .ref sh), (2, .ref fe), (3, .int (nI k5))]) hx hb dX4_allows_187 hl (k := 1) rfl (nI_add g5 1) (Nat.le_of_ble_eq_true rfl) rfl (fun ls hl => ?_)
                          refine lv_goto (tgt := 115) hx hb dX4_allows_190 rfl ?_
                          exact ih_115 (g5 + 1) q_13 q_14 q_15 q_16 q_17 q_18 q_19 q_20 (iI (mnI (U2 0).toInt U2 (nN (mn g5)))) (iI (mnI (V2 0).toInt V2 (nN (mn g5)))) (iI (mxI (U2 0).toInt U2 (nN (mn g5)))) (iI (mxI (V2 0).toInt V2 (nN (mn g5)))) H locs ls (by first | with_reducible assumption | omega) (by first | with_reducible assumption | omega) (by intro q hq; rcases Nat.lt_or_ge q g5 with h | h; exact hall q h; rw [show q = g5 by omega]; intro h1 h2; first | exact absurd hif h1 | exact absurd h2.2.1 hs2 | exact absurd h2.2.2 ht2 | exact Or.inl (by first | with_reducible assumption | assumption) | exact Or.inr (by first | with_reducible assumption | assumption)) hP hD hS (lv_sub hl [0, 2, 3, 4, 5, 6, 7, 8] rfl)
                        · have c_21 : ¬ (asb n X Y rg nd P Q rd (nN (mn g5)) (cF40 cx g5) (cF40 cy g5) (rgK (kd g5).toInt) ∧ (¬ ∃ j, j < nN (mn g5) ∧ swC n X Y k5 (cF40 cx g5 j).toInt (cF40 cy g5 j).toInt)) := zp_0 c_21
                          obtain ⟨hP, hD⟩ := pl_bk (X := [_, _, _, _, _, _, _, _, _, _, _, _, _, _, _, _, _, _, _]) hT_1 hP rfl hc9_1 hD0_1 rfl
                          refine lv_iconst (v := 0) hx hb dX4_allows_185 rfl ?_
                          obtain ⟨hP9, hD9⟩ := zu_part (cx := [_, _, _, _, _, _, _, _, _, _, _, _, _, _, _, _, _, _, _]) hP hD [true, true, true, true, true, true, true, true, true, true, true, true, true, true, true, true, true, true, true] rfl rfl
                          rw [hQ9]
                          exact W.zret (ty := .boolean) (v := 0) hx hb hr (rfl) (fun t ht hW => ⟨⟨congrArg (fun z => Outcome.returned (some (Value.int z))) (show (0 : Int32) = pI (pls nd P Q ∧ eFr nd P Q rd (prv nd (gpK nd k5)) 0 ∧ ∀ q, q < ft → (q ≠ f0 → lvF ft st tn q → (apB (min (min (X k5).toInt (X (prv n k5)).toInt) (X (nxt n k5)).toInt) (min (min (Y k5).toInt (Y (prv n k5)).toInt) (Y (nxt n k5)).toInt) (max (max (X k5).toInt (X (prv n k5)).toInt) (X (nxt n k5)).toInt) (max (max (Y k5).toInt (Y (prv n k5)).toInt) (Y (nxt n k5)).toInt) (nN (mn q)) (cF40 cx q) (cF40 cy q) ∨ (asb n X Y rg nd P Q rd (nN (mn q)) (cF40 cx q) (cF40 cy q) (rgK (kd q).toInt) ∧ (¬ ∃ j, j < nN (mn q) ∧ swC n X Y k5 (cF40 cx q j).toInt (cF40 cy q j).toInt))))) from (zp_f (fun h => by have h9 := h.2.2 g5 (by omega) hif hlv2; first | exact absurd h9 (fun h8 => h8.elim (fun h7 => absurd h7 (by first | with_reducible assumption | assumption)) (fun h7 => absurd h7 (by first | with_reducible assumption | assumption))))).symm), q_13, q_14, q_15, q_16, q_17, q_18, q_19, q_20, (iI (min (min (X k5).toInt (X (prv n k5)).toInt) (X (nxt n k5)).toInt)), (iI (min (min (Y k5).toInt (Y (prv n k5)).toInt) (Y (nxt n k5)).toInt)), (iI (max (max (X k5).toInt (X (prv n k5)).toInt) (X (nxt n k5)).toInt)), (iI (max (max (Y k5).toInt (Y (prv n k5)).toInt) (Y (nxt n k5)).toInt)), (iI (mnI (U2 0).toInt U2 (nN (mn g5)))), (iI (mnI (V2 0).toInt V2 (nN (mn g5)))), (iI (mxI (U2 0).toInt U2 (nN (mn g5)))), (iI (mxI (V2 0).toInt V2 (nN (mn g5)))), by rw [ht]; exact hP9, hD9⟩, hS.F ht⟩) hS.2.2 dX4_allows_186
                    · have c_11 : fe2 = fe := c_11
                      exfalso; exact absurd (by first | with_reducible assumption | assumption) (pl_sep (q := (oc1 fe rk9 wd9 tw9 pa9 pb9 (.ref lo) (.ref lk) fm9)) hD0_1 (by simp) hfe2.1)
            exact hl_115 _ 0 nt TX TY rt nw WX WY rw b5 b6 b7 b8 H locs ls (Nat.lt_succ_self _) (by first | with_reducible assumption | omega) (by intro q hq; omega) hP hD hS (lv_sub hl [0, 1, 2, 3, 4, 5, 6, 7] rfl)
          · have c_6 : ¬ (eFr nd P Q rd (prv nd (gpK nd k5)) 0) := zp_0 c_6
            refine lv_goto (tgt := 103) hx hb dX4_allows_88 rfl ?_
            refine lv_iconst (v := 0) hx hb dX4_allows_103 rfl ?_
            obtain ⟨hP9, hD9⟩ := zu_part (cx := [_, _, _, _, _, _, _, _, _, _, _, _, _, _, _, _, _, _, _]) hP hD [true, true, true, true, true, true, true, true, true, true, true, true, true, true, true, true, true, true, true] rfl rfl
            rw [hQ9]
            exact W.zret (ty := .boolean) (v := 0) hx hb hr (rfl) (fun t ht hW => ⟨⟨congrArg (fun z => Outcome.returned (some (Value.int z))) (show (0 : Int32) = pI (pls nd P Q ∧ eFr nd P Q rd (prv nd (gpK nd k5)) 0 ∧ ∀ q, q < ft → (q ≠ f0 → lvF ft st tn q → (apB (min (min (X k5).toInt (X (prv n k5)).toInt) (X (nxt n k5)).toInt) (min (min (Y k5).toInt (Y (prv n k5)).toInt) (Y (nxt n k5)).toInt) (max (max (X k5).toInt (X (prv n k5)).toInt) (X (nxt n k5)).toInt) (max (max (Y k5).toInt (Y (prv n k5)).toInt) (Y (nxt n k5)).toInt) (nN (mn q)) (cF40 cx q) (cF40 cy q) ∨ (asb n X Y rg nd P Q rd (nN (mn q)) (cF40 cx q) (cF40 cy q) (rgK (kd q).toInt) ∧ (¬ ∃ j, j < nN (mn q) ∧ swC n X Y k5 (cF40 cx q j).toInt (cF40 cy q j).toInt))))) from (zp_f (fun h => absurd h.2.1 (by first | with_reducible assumption | assumption))).symm), nt, TX, TY, rt, nw, WX, WY, rw, b1, b2, b3, b4, b5, b6, b7, b8, by rw [ht]; exact hP9, hD9⟩, hS.F ht⟩) hS.2.2 dX4_allows_104
      · have c_3 : ((k5 : Nat) : Int) = (-2) := zc_eq (nI_toInt b9_4) rfl c_3
        refine lv_bipush (v := 6) hx hb dX4_allows_57 rfl ?_
        refine lv_goto (tgt := 69) hx hb dX4_allows_59 rfl ?_
        refine lv_istore (lv' := [(6, .int 6), (5, .int (nI (prv nd (gpK nd k5)))), (4, .ref r), (0, .ref lw), (1, .ref sh), (2, .ref fe), (3, .int (nI k5))]) hx hb dX4_allows_69 hl (Nat.le_of_ble_eq_true rfl) rfl (fun ls hl => ?_)
        refine lv_iload_n hx hb dX4_allows_71 rfl (lv_at hl 6 rfl) ?_
        refine lv_if_lt (tgt := 91) hx hb dX4_allows_72 rfl (fun c_22 => ?_) (fun c_22 => ?_)
        · have c_22 : ((k5 : Nat) : Int) < 0 := zc_lt (nI_toInt b9_4) rfl c_22
          exfalso; omega
        · have c_22 : 0 ≤ ((k5 : Nat) : Int) := zc_nlt (nI_toInt b9_4) rfl c_22
          refine lv_aload_n hx hb dX4_allows_75 rfl (lv_at hl 3 rfl) ?_
          refine va_get (D := (dC, dI)) (ci := 3) (v := .ref dr) (C := RX4) (T := TX4) (N := 6) hx hb hts inX4 hown hK hP 0 rfl rfl 0 (Nat.le_of_ble_eq_true rfl) (hts _ mw_219) (fun _ h9 => h9) rfl dX4_allows_76 ?_
          refine lv_iload hx hb dX4_allows_79 (lv_at hl 1 rfl) ?_
          refine lv_iconst (v := 0) hx hb dX4_allows_81 rfl ?_
          obtain ⟨hPc, hDc, hFc⟩ := zo_sub (wc := [_, _, _]) hP hD hS hA [7, 8, 9] rfl rfl
          refine zcall (st1 := [.int (pI (eFr nd P Q rd (prv nd (gpK nd k5)) 0))]) (va_runV (As := [.int (nI (prv nd (gpK nd k5))), .int 0]) (rest := []) ⟨hx, hb, hml, hown, hts⟩ (k_Row_isEdgeFree l dC dI cI cZ cF H.size dr dx dy nd cd P Q rd (prv nd (gpK nd k5)) 0 (by first | with_reducible assumption | omega) (by first | with_reducible assumption | omega) (by first | with_reducible assumption | assumption) (by first | with_reducible assumption | omega) (by first | with_reducible assumption | omega)) (csV_66 hts rfl rfl ⟨Nat.le_of_ble_eq_true rfl, Nat.le_of_ble_eq_true rfl⟩) (zPV2 (q0 := 0) (ci := 6) hPc hDc hK hXN rfl rfl) rfl rfl hl.1 rfl (lv_room (Nat.le_of_ble_eq_true rfl)) dX4_allows_82 ⟨Nat.le_of_ble_eq_true rfl, Nat.le_of_ble_eq_true rfl⟩) hS hFc hFc rfl (fun t H locs ht hB hk1 hS => ?_)
          obtain ⟨hP1, hD1⟩ := hB
          rw [ht] at hP1
          obtain ⟨hP, hD⟩ := znQ (W2 := [_, _, _, _, _, _, _, _, _, _, _, _, _, _, _, _, _, _, _]) hP hD hk1 hFc hP1 hD1 [7, 8, 9] [true, true, true, true, true, true, true, false, false, false, true, true, true, true, true, true, true, true, true] [true, true, true, true, true, true, true, false, false, false, true, true, true, true, true, true, true, true, true] [7, 8, 9] (by decide +kernel) rfl rfl rfl rfl rfl
          clear hk1 hPc hDc hFc hP1 hD1 ht
          refine lv_if_ne (tgt := 105) hx hb dX4_allows_85 rfl (fun c_23 => ?_) (fun c_23 => ?_)
          · have c_23 : eFr nd P Q rd (prv nd (gpK nd k5)) 0 := zp_1 c_23
            refine lv_aload_n hx hb dX4_allows_105 rfl (lv_at hl 3 rfl) ?_
            refine lv_aload hx hb dX4_allows_106 (lv_at hl 2 rfl) ?_
            refine lv_iload_n hx hb dX4_allows_108 rfl (lv_at hl 6 rfl) ?_
            obtain ⟨hPc, hDc, hFc⟩ := zo_sub (wc := [_, _, _, _, _]) hP hD hS hA [0, 10, 16, 17, 18] (by decide +kernel) rfl
            refine zcall (st1 := []) (va_runV (As := [.ref r, .int (nI k5)]) (rest := []) ⟨hx, hb, hml, hown, hts⟩ (k_Law_measureReach_k l dC dI cI cZ cF H.size lw dr tg wy br bo aa b1 b2 b3 b4 r rx ry n cap X Y rg k5 (by first | with_reducible assumption | omega) (by first | with_reducible assumption | omega) (by first | with_reducible assumption | assumption) (by first | with_reducible assumption | omega)) (csV_67 hts rfl rfl ⟨Nat.le_of_ble_eq_true rfl, Nat.le_of_ble_eq_true rfl⟩) (zPV2 (q0 := 0) (ci := 3) hPc hDc hK hXN rfl rfl) rfl rfl hl.1 rfl (lv_room (Nat.le_of_ble_eq_true rfl)) dX4_allows_109 ⟨Nat.le_of_ble_eq_true rfl, Nat.le_of_ble_eq_true rfl⟩) hS hFc hFc rfl (fun t H locs ht hB hk1 hS => ?_)
            obtain ⟨hP1, hD1⟩ := hB
            rw [ht] at hP1
            obtain ⟨hP, hD⟩ := znQ (W2 := [_, _, _, _, _, _, _, _, _, _, (oc0 br (iI (min (min (X k5).toInt (X (prv n k5)).toInt) (X (nxt n k5)).toInt)) (iI (min (min (Y k5).toInt (Y (prv n k5)).toInt) (Y (nxt n k5)).toInt)) (iI (max (max (X k5).toInt (X (prv n k5)).toInt) (X (nxt n k5)).toInt)) (iI (max (max (Y k5).toInt (Y (prv n k5)).toInt) (Y (nxt n k5)).toInt))), _, _, _, _, _, _, _, _]) hP hD hk1 hFc hP1 hD1 [0, 10, 16, 17, 18] [false, true, true, true, true, true, true, true, true, true, false, true, true, true, true, true] [false, true, true, true, true, true, true, true, true, true, false, true, true, true, true, true, false, false, false] [0, 10, 16, 17, 18] (by decide +kernel) rfl rfl rfl rfl rfl
            clear hk1 hPc hDc hFc hP1 hD1 ht
            have hpd : pls nd P Q := (by first | with_reducible assumption | assumption)
            have hbr : nr (min (min (X k5).toInt (X (prv n k5)).toInt) (X (nxt n k5)).toInt) ∧ nr (min (min (Y k5).toInt (Y (prv n k5)).toInt) (Y (nxt n k5)).toInt) ∧ nr (max (max (X k5).toInt (X (prv n k5)).toInt) (X (nxt n k5)).toInt) ∧ nr (max (max (Y k5).toInt (Y (prv n k5)).toInt) (Y (nxt n k5)).toInt) := (by have a1 := (pls_nr hp).1 k5 hk5; have a2 := (pls_nr hp).2 k5 hk5; have a3 := (pls_nr hp).1 _ (prv_lt (n := n) (i := k5) hk5); have a4 := (pls_nr hp).2 _ (prv_lt (n := n) (i := k5) hk5); have a5 := (pls_nr hp).1 _ (nxt_lt (n := n) (i := k5) (by omega)); have a6 := (pls_nr hp).2 _ (nxt_lt (n := n) (i := k5) (by omega)); unfold nr at *; omega)
            refine lv_iconst (v := 0) hx hb dX4_allows_112 rfl ?_
            refine lv_istore (lv' := [(7, .int 0), (6, .int 6), (5, .int (nI (prv nd (gpK nd k5)))), (4, .ref r), (0, .ref lw), (1, .ref sh), (2, .ref fe), (3, .int (nI k5))]) hx hb dX4_allows_113 hl (Nat.le_of_ble_eq_true rfl) rfl (fun ls hl => ?_)
            have hl_115 : ∀ (n9 : Nat) (g5 : Nat) (nt1 : Nat) (TX1 : Nat → Int32) (TY1 : Nat → Int32) (rt1 : Int32) (nw1 : Nat) (WX1 : Nat → Int32) (WY1 : Nat → Int32) (rw1 : Int32) (b5 : Int32) (b6 : Int32) (b7 : Int32) (b8 : Int32) (H : Heap) (locs : List Loc) (ls : Array Slot), ft - g5 < n9 → (g5 ≤ ft) → (∀ q, q < g5 → (q ≠ f0 → lvF ft st tn q → (apB (min (min (X k5).toInt (X (prv n k5)).toInt) (X (nxt n k5)).toInt) (min (min (Y k5).toInt (Y (prv n k5)).toInt) (Y (nxt n k5)).toInt) (max (max (X k5).toInt (X (prv n k5)).toInt) (X (nxt n k5)).toInt) (max (max (Y k5).toInt (Y (prv n k5)).toInt) (Y (nxt n k5)).toInt) (nN (mn q)) (cF40 cx q) (cF40 cy q) ∨ (asb n X Y rg nd P Q rd (nN (mn q)) (cF40 cx q) (cF40 cy q) (rgK (kd q).toInt) ∧ (¬ ∃ j, j < nN (mn q) ∧ swC n X Y k5 (cF40 cx q j).toInt (cF40 cy q j).toInt))))) → va_P (dC, dI) classes ([(oc3 lw (.ref dr) (.ref tg) (.ref wy) (.ref br) (.ref bo) (.ref aa)), (oc6 tg (.ref tx) (.ref ty) (nI nt1) rt1), (oa tx cI 3 TX1), (oa ty cI 3 TY1), (oc6 wy (.ref wx) (.ref wz) (nI nw1) rw1), (oa wx cI 2 WX1), (oa wz cI 2 WY1), (oc6 dr (.ref dx) (.ref dy) (nI nd) rd), (oa dx cI cd P), (oa dy cI cd Q), (oc0 br (iI (min (min (X k5).toInt (X (prv n k5)).toInt) (X (nxt n k5)).toInt)) (iI (min (min (Y k5).toInt (Y (prv n k5)).toInt) (Y (nxt n k5)).toInt)) (iI (max (max (X k5).toInt (X (prv n k5)).toInt) (X (nxt n k5)).toInt)) (iI (max (max (Y k5).toInt (Y (prv n k5)).toInt) (Y (nxt n k5)).toInt))), (oc0 bo b5 b6 b7 b8), (oc7 sh (.ref fa) (nI ft)), (oq fa cF 200 FA), (oc1 fe rk9 wd9 tw9 pa9 pb9 (.ref lo) (.ref lk) fm9), (oc4 lk kd9 st9 (.ref r) gb9 jt9 we9), (oc6 r (.ref rx) (.ref ry) (nI n) rg), (oa rx cI cap X), (oa ry cI cap Y)] ++ va_pl L f) H → va_D A ([(oc3 lw (.ref dr) (.ref tg) (.ref wy) (.ref br) (.ref bo) (.ref aa)), (oc6 tg (.ref tx) (.ref ty) (nI nt1) rt1), (oa tx cI 3 TX1), (oa ty cI 3 TY1), (oc6 wy (.ref wx) (.ref wz) (nI nw1) rw1), (oa wx cI 2 WX1), (oa wz cI 2 WY1), (oc6 dr (.ref dx) (.ref dy) (nI nd) rd), (oa dx cI cd P), (oa dy cI cd Q), (oc0 br (iI (min (min (X k5).toInt (X (prv n k5)).toInt) (X (nxt n k5)).toInt)) (iI (min (min (Y k5).toInt (Y (prv n k5)).toInt) (Y (nxt n k5)).toInt)) (iI (max (max (X k5).toInt (X (prv n k5)).toInt) (X (nxt n k5)).toInt)) (iI (max (max (Y k5).toInt (Y (prv n k5)).toInt) (Y (nxt n k5)).toInt))), (oc0 bo b5 b6 b7 b8), (oc7 sh (.ref fa) (nI ft)), (oq fa cF 200 FA), (oc1 fe rk9 wd9 tw9 pa9 pb9 (.ref lo) (.ref lk) fm9), (oc4 lk kd9 st9 (.ref r) gb9 jt9 we9), (oc6 r (.ref rx) (.ref ry) (nI n) rg), (oa rx cI cap X), (oa ry cI cap Y)] ++ va_pl L f) → va_S A s.heap H locs → lv_has ls 9 [(7, .int (nI g5)), (6, .int 6), (5, .int (nI (prv nd (gpK nd k5)))), (4, .ref r), (0, .ref lw), (1, .ref sh), (2, .ref fe), (3, .int (nI k5))] → W p l e ({ frames := 4, cells := 0, slots := 0, locals := 103 } : Room) s m ([.ref lw, .ref sh, .ref fe, .int (nI k5)] : List Value).toArray below meth c H locs 0 0 Q9 (F0 m 115 ls []) := by
              intro n9
              induction n9 with
              | zero => intro g5 nt1 TX1 TY1 rt1 nw1 WX1 WY1 rw1 b5 b6 b7 b8 H locs ls hm; exact absurd hm (Nat.not_lt_zero _)
              | succ n9 ih_115 =>
                intro g5 nt1 TX1 TY1 rt1 nw1 WX1 WY1 rw1 b5 b6 b7 b8 H locs ls hm hi5 hall hP hD hS hl
                refine lv_iload hx hb dX4_allows_115 (lv_at hl 0 rfl) ?_
                refine lv_aload_n hx hb dX4_allows_117 rfl (lv_at hl 5 rfl) ?_
                refine va_get (D := (dC, dI)) (ci := 7) (v := .int (nI ft)) (C := RX8) (T := TX8) (N := 2) hx hb hts inX8 hown hK hP 12 rfl rfl 1 (Nat.le_of_ble_eq_true rfl) (hts _ mw_139) (fun _ h9 => h9) rfl dX4_allows_118 ?_
                have b9_25 : g5 < 2147483648 := by omega
                have b9_26 : ft < 2147483648 := by omega
                refine lv_icmp_ge (tgt := 193) hx hb dX4_allows_121 rfl (fun c_24 => ?_) (fun c_24 => ?_)
                · have c_24 : ((ft : Nat) : Int) ≤ ((g5 : Nat) : Int) := zc_le (nI_toInt b9_26) (nI_toInt b9_25) c_24
                  refine lv_iconst (v := 1) hx hb dX4_allows_193 rfl ?_
                  obtain ⟨hP9, hD9⟩ := zu_part (cx := [_, _, _, _, _, _, _, _, _, _, _, _, _, _, _, _, _, _, _]) hP hD [true, true, true, true, true, true, true, true, true, true, true, true, true, true, true, true, true, true, true] rfl rfl
                  rw [hQ9]
                  exact W.zret (ty := .boolean) (v := 1) hx hb hr (rfl) (fun t ht hW => ⟨⟨congrArg (fun z => Outcome.returned (some (Value.int z))) (show (1 : Int32) = pI (pls nd P Q ∧ eFr nd P Q rd (prv nd (gpK nd k5)) 0 ∧ ∀ q, q < ft → (q ≠ f0 → lvF ft st tn q → (apB (min (min (X k5).toInt (X (prv n k5)).toInt) (X (nxt n k5)).toInt) (min (min (Y k5).toInt (Y (prv n k5)).toInt) (Y (nxt n k5)).toInt) (max (max (X k5).toInt (X (prv n k5)).toInt) (X (nxt n k5)).toInt) (max (max (Y k5).toInt (Y (prv n k5)).toInt) (Y (nxt n k5)).toInt) (nN (mn q)) (cF40 cx q) (cF40 cy q) ∨ (asb n X Y rg nd P Q rd (nN (mn q)) (cF40 cx q) (cF40 cy q) (rgK (kd q).toInt) ∧ (¬ ∃ j, j < nN (mn q) ∧ swC n X Y k5 (cF40 cx q j).toInt (cF40 cy q j).toInt))))) from (zp_t (⟨by assumption, by assumption, fun q hq => hall q (by omega)⟩)).symm), nt1, TX1, TY1, rt1, nw1, WX1, WY1, rw1, (iI (min (min (X k5).toInt (X (prv n k5)).toInt) (X (nxt n k5)).toInt)), (iI (min (min (Y k5).toInt (Y (prv n k5)).toInt) (Y (nxt n k5)).toInt)), (iI (max (max (X k5).toInt (X (prv n k5)).toInt) (X (nxt n k5)).toInt)), (iI (max (max (Y k5).toInt (Y (prv n k5)).toInt) (Y (nxt n k5)).toInt)), b5, b6, b7, b8, by rw [ht]; exact hP9, hD9⟩, hS.F ht⟩) hS.2.2 dX4_allows_194
                · have c_24 : ((g5 : Nat) : Int) < ((ft : Nat) : Int) := zc_nle (nI_toInt b9_26) (nI_toInt b9_25) c_24
                  rcases vw4 (hvw g5) (show g5 < ft by omega) with hif | ⟨hif, hs2, fe2, lk2, lo2, rk2, wd2, tw2, pa2, pb2, gb2, jt2, we2, fm2, rw2, hFA2, hfe2, hlk2⟩ | ⟨hif, ht2, fe2, lk2, lo2, rk2, wd2, tw2, pa2, pb2, gb2, jt2, we2, fm2, hFA2, hfe2, hlk2⟩ | ⟨hif, hlv2, fe2, lk2, lo2, rk2, wd2, tw2, pa2, pb2, gb2, jt2, we2, fm2, r2, rx2, ry2, cap2, U2, V2, rg2, hFA2, hfe2, hlk2, ⟨hr2, hrx2, hry2, hne2⟩, hrr2⟩
                  · skip
                    have hFi : FA g5 = some fe := (by rw [hif]; exact hFA)
                    refine lv_aload_n hx hb dX4_allows_124 rfl (lv_at hl 5 rfl) ?_
                    refine lv_iload hx hb dX4_allows_125 (lv_at hl 0 rfl) ?_
                    obtain ⟨hPc, hDc, hFc⟩ := zo_sub (wc := [_, _, _, _]) hP hD hS hA [12, 13, 14, 15] (by decide +kernel) rfl
                    refine zcall (st1 := [.ref r]) (va_runV (As := [.int (nI g5)]) (rest := []) ⟨hx, hb, hml, hown, hts⟩ (k_Sheet_rowThere_yv l dC dI cI cZ cF H.size sh fa ft FA g5 fe lo rk9 wd9 tw9 pa9 pb9 lk kd9 st9 gb9 jt9 we9 r fm9 (by first | with_reducible assumption | omega) (by first | with_reducible assumption | omega) (by first | exact hFi | exact hFA2) (by first | exact hs1 | exact hs2 | exact hlv2.2.1)) (csV_62 hts rfl rfl ⟨Nat.le_of_ble_eq_true rfl, Nat.le_of_ble_eq_true rfl⟩) (zPV2 (q0 := 0) (ci := 7) hPc hDc hK hXN rfl rfl) rfl rfl hl.1 rfl (lv_room (Nat.le_of_ble_eq_true rfl)) dX4_allows_127 ⟨Nat.le_of_ble_eq_true rfl, Nat.le_of_ble_eq_true rfl⟩) hS hFc hFc rfl (fun t H locs ht hB hk1 hS => ?_)
                    obtain ⟨hP1, hD1⟩ := hB
                    rw [ht] at hP1
                    obtain ⟨hP, hD⟩ := znQ (W2 := [_, _, _, _, _, _, _, _, _, _, _, _, _, _, _, _, _, _, _]) hP hD hk1 hFc hP1 hD1 [12, 13, 14, 15] [true, true, true, true, true, true, true, true, true, true, true, true, false, false, false, false, true, true, true] [true, true, true, true, true, true, true, true, true, true, true, true, false, false, false, false, true, true, true] [12, 13, 14, 15] (by decide +kernel) rfl rfl rfl rfl rfl
                    clear hk1 hPc hDc hFc hP1 hD1 ht
                    refine lv_astore (lv' := [(8, .ref r), (7, .int (nI g5)), (6, .int 6), (5, .int (nI (prv nd (gpK nd k5)))), (4, .ref r), (0, .ref lw), (1, .ref sh), (2, .ref fe), (3, .int (nI k5))]) hx hb dX4_allows_130 hl (Nat.le_of_ble_eq_true rfl) rfl (fun ls hl => ?_)
                    refine lv_aload hx hb dX4_allows_132 (lv_at hl 0 rfl) ?_
                    refine lv_ifnull hx hb dX4_allows_134 ?_
                    refine lv_aload_n hx hb dX4_allows_137 rfl (lv_at hl 6 rfl) ?_
                    refine lv_iload hx hb dX4_allows_138 (lv_at hl 1 rfl) ?_
                    obtain ⟨hPc, hDc, hFc⟩ := zo_sub (wc := [_, _]) hP hD hS hA [12, 13] rfl rfl
                    refine zcall (st1 := [.ref fe]) (va_runV (As := [.int (nI g5)]) (rest := []) ⟨hx, hb, hml, hown, hts⟩ (k_Sheet_find l dC dI cI cZ cF H.size sh fa ft FA g5 fe (by first | with_reducible assumption | omega) (by first | with_reducible assumption | omega) (by first | exact hFi | exact hFA2)) (csV_63 hts rfl rfl ⟨Nat.le_of_ble_eq_true rfl, Nat.le_of_ble_eq_true rfl⟩) (zPV2 (q0 := 0) (ci := 7) hPc hDc hK hXN rfl rfl) rfl rfl hl.1 rfl (lv_room (Nat.le_of_ble_eq_true rfl)) dX4_allows_140 ⟨Nat.le_of_ble_eq_true rfl, Nat.le_of_ble_eq_true rfl⟩) hS hFc hFc rfl (fun t H locs ht hB hk1 hS => ?_)
                    obtain ⟨hP1, hD1⟩ := hB
                    rw [ht] at hP1
                    obtain ⟨hP, hD⟩ := znQ (W2 := [_, _, _, _, _, _, _, _, _, _, _, _, _, _, _, _, _, _, _]) hP hD hk1 hFc hP1 hD1 [12, 13] [true, true, true, true, true, true, true, true, true, true, true, true, false, false, true, true, true, true, true] [true, true, true, true, true, true, true, true, true, true, true, true, false, false, true, true, true, true, true] [12, 13] (by decide +kernel) rfl rfl rfl rfl rfl
                    clear hk1 hPc hDc hFc hP1 hD1 ht
                    refine lv_aload_n hx hb dX4_allows_143 rfl (lv_at hl 7 rfl) ?_
                    refine z_acmpne (rx := fe) (ry := fe) (tgt := 150) hx hb dX4_allows_144 (by decide) (fun c_27 => ?_) (fun c_27 => ?_)
                    · have c_27 : ¬ fe = fe := c_27
                      exact absurd rfl c_27
                    · have c_27 : fe = fe := c_27
                      refine lv_goto (tgt := 187) hx hb dX4_allows_147 rfl ?_
                      refine lv_iinc (v := nI (g5 + 1)) (lv' := [(7, .int (nI (g5 + 1))), (8, .ref r), (6, .int 6), (5, .int (nI (prv nd (gpK nd k5)))), (4, .ref r), (0, .ref lw), (1, .ref sh), (2, .ref fe), (3, .int (nI k5))]) hx hb dX4_allows_187 hl (k := 1) rfl (nI_add g5 1) (Nat.le_of_ble_eq_true rfl) rfl (fun ls hl => ?_)
                      refine lv_goto (tgt := 115) hx hb dX4_allows_190 rfl ?_
                      exact ih_115 (g5 + 1) nt1 TX1 TY1 rt1 nw1 WX1 WY1 rw1 b5 b6 b7 b8 H locs ls (by first | with_reducible assumption | omega) (by first | with_reducible assumption | omega) (by intro q hq; rcases Nat.lt_or_ge q g5 with h | h; exact hall q h; rw [show q = g5 by omega]; intro h1 h2; first | exact absurd hif h1 | exact absurd h2.2.1 hs2 | exact absurd h2.2.2 ht2 | exact Or.inl (by first | with_reducible assumption | assumption) | exact Or.inr (by first | with_reducible assumption | assumption)) hP hD hS (lv_sub hl [0, 2, 3, 4, 5, 6, 7, 8] rfl)
                  · skip
                    have hc9_1 : inPl L f [(oc1 fe2 rk2 wd2 tw2 pa2 pb2 (.ref lo2) (.ref lk2) fm2), (oc4 lk2 (kd g5) (st g5) rw2 gb2 jt2 we2)] := ⟨hfe2, hlk2, trivial⟩
                    have hD0_1 := hD
                    obtain ⟨hP, hD⟩ := pl_out hP hD [(oc1 fe2 rk2 wd2 tw2 pa2 pb2 (.ref lo2) (.ref lk2) fm2), (oc4 lk2 (kd g5) (st g5) rw2 gb2 jt2 we2)] hc9_1 (pwF hfe2.2 hlk2.2)
                    generalize hT_1 : outPl L [(oc1 fe2 rk2 wd2 tw2 pa2 pb2 (.ref lo2) (.ref lk2) fm2), (oc4 lk2 (kd g5) (st g5) rw2 gb2 jt2 we2)] = T_1 at hP hD
                    obtain ⟨hP, hD⟩ := zre (W2 := ([_, _, _, _, _, _, _, _, _, _, _, _, _, _, _, _, _, _, _, _, _] ++ va_pl T_1 f)) hP hD rfl
                    refine lv_aload_n hx hb dX4_allows_124 rfl (lv_at hl 5 rfl) ?_
                    refine lv_iload hx hb dX4_allows_125 (lv_at hl 0 rfl) ?_
                    obtain ⟨hPc, hDc, hFc⟩ := zo_sub (wc := [_, _, _, _]) hP hD hS hA [12, 13, 19, 20] (by decide +kernel) rfl
                    refine zcall (st1 := [.null]) (va_runV (As := [.int (nI g5)]) (rest := []) ⟨hx, hb, hml, hown, hts⟩ (k_Sheet_rowThere_sv l dC dI cI cZ cF H.size sh fa ft FA g5 fe2 lo2 rk2 wd2 tw2 pa2 pb2 lk2 (kd g5) (st g5) gb2 jt2 we2 fm2 rw2 (by first | with_reducible assumption | omega) (by first | with_reducible assumption | omega) (by first | exact hFi | exact hFA2) (by first | exact hs1 | exact hs2 | exact hlv2.2.1)) (csV_62 hts rfl rfl ⟨Nat.le_of_ble_eq_true rfl, Nat.le_of_ble_eq_true rfl⟩) (zPV2 (q0 := 0) (ci := 7) hPc hDc hK hXN rfl rfl) rfl rfl hl.1 rfl (lv_room (Nat.le_of_ble_eq_true rfl)) dX4_allows_127 ⟨Nat.le_of_ble_eq_true rfl, Nat.le_of_ble_eq_true rfl⟩) hS hFc hFc rfl (fun t H locs ht hB hk1 hS => ?_)
                    obtain ⟨hP1, hD1⟩ := hB
                    rw [ht] at hP1
                    obtain ⟨hP, hD⟩ := znQ (W2 := [_, _, _, _, _, _, _, _, _, _, _, _, _, _, _, _, _, _, _, _, _]) hP hD hk1 hFc hP1 hD1 [12, 13, 19, 20] [true, true, true, true, true, true, true, true, true, true, true, true, false, false, true, true, true, true, true] [true, true, true, true, true, true, true, true, true, true, true, true, false, false, true, true, true, true, true, false, false] [12, 13, 19, 20] (by decide +kernel) rfl rfl rfl rfl rfl
                    clear hk1 hPc hDc hFc hP1 hD1 ht
                    refine lv_astoreN (lv' := [(8, .null), (7, .int (nI g5)), (6, .int 6), (5, .int (nI (prv nd (gpK nd k5)))), (4, .ref r), (0, .ref lw), (1, .ref sh), (2, .ref fe), (3, .int (nI k5))]) hx hb dX4_allows_130 hl (Nat.le_of_ble_eq_true rfl) rfl (fun ls hl => ?_)
                    refine lv_aloadN hx hb dX4_allows_132 (lv_at hl 0 rfl) ?_
                    refine lv_ifnullN (tgt := 187) hx hb dX4_allows_134 rfl ?_
                    obtain ⟨hP, hD⟩ := pl_bk (X := [_, _, _, _, _, _, _, _, _, _, _, _, _, _, _, _, _, _, _]) hT_1 hP rfl hc9_1 hD0_1 rfl
                    refine lv_iinc (v := nI (g5 + 1)) (lv' := [(7, .int (nI (g5 + 1))), (8, .null), (6, .int 6), (5, .int (nI (prv nd (gpK nd k5)))), (4, .ref r), (0, .ref lw), (1, .ref sh), (2, .ref fe), (3, .int (nI k5))]) hx hb dX4_allows_187 hl (k := 1) rfl (nI_add g5 1) (Nat.le_of_ble_eq_true rfl) rfl (fun ls hl => ?_)
                    refine lv_goto (tgt := 115) hx hb dX4_allows_190 rfl ?_
                    exact ih_115 (g5 + 1) nt1 TX1 TY1 rt1 nw1 WX1 WY1 rw1 b5 b6 b7 b8 H locs ls (by first | with_reducible assumption | omega) (by first | with_reducible assumption | omega) (by intro q hq; rcases Nat.lt_or_ge q g5 with h | h; exact hall q h; rw [show q = g5 by omega]; intro h1 h2; first | exact absurd hif h1 | exact absurd h2.2.1 hs2 | exact absurd h2.2.2 ht2 | exact Or.inl (by first | with_reducible assumption | assumption) | exact Or.inr (by first | with_reducible assumption | assumption)) hP hD hS (lv_sub hl [0, 2, 3, 4, 5, 6, 7, 8] rfl)
                  · skip
                    have hc9_1 : inPl L f [(oc1 fe2 rk2 wd2 tw2 pa2 pb2 (.ref lo2) (.ref lk2) fm2), (oc4 lk2 (kd g5) (st g5) .null gb2 jt2 we2)] := ⟨hfe2, hlk2, trivial⟩
                    have hD0_1 := hD
                    obtain ⟨hP, hD⟩ := pl_out hP hD [(oc1 fe2 rk2 wd2 tw2 pa2 pb2 (.ref lo2) (.ref lk2) fm2), (oc4 lk2 (kd g5) (st g5) .null gb2 jt2 we2)] hc9_1 (pwF hfe2.2 hlk2.2)
                    generalize hT_1 : outPl L [(oc1 fe2 rk2 wd2 tw2 pa2 pb2 (.ref lo2) (.ref lk2) fm2), (oc4 lk2 (kd g5) (st g5) .null gb2 jt2 we2)] = T_1 at hP hD
                    obtain ⟨hP, hD⟩ := zre (W2 := ([_, _, _, _, _, _, _, _, _, _, _, _, _, _, _, _, _, _, _, _, _] ++ va_pl T_1 f)) hP hD rfl
                    refine lv_aload_n hx hb dX4_allows_124 rfl (lv_at hl 5 rfl) ?_
                    refine lv_iload hx hb dX4_allows_125 (lv_at hl 0 rfl) ?_
                    obtain ⟨hPc, hDc, hFc⟩ := zo_sub (wc := [_, _, _, _]) hP hD hS hA [12, 13, 19, 20] (by decide +kernel) rfl
                    refine zcall (st1 := [.null]) (va_runV (As := [.int (nI g5)]) (rest := []) ⟨hx, hb, hml, hown, hts⟩ (k_Sheet_rowThere_tv l dC dI cI cZ cF H.size sh fa ft FA g5 fe2 lo2 rk2 wd2 tw2 pa2 pb2 lk2 (kd g5) (st g5) gb2 jt2 we2 fm2 (by first | with_reducible assumption | omega) (by first | with_reducible assumption | omega) (by first | exact hFi | exact hFA2)) (csV_62 hts rfl rfl ⟨Nat.le_of_ble_eq_true rfl, Nat.le_of_ble_eq_true rfl⟩) (zPV2 (q0 := 0) (ci := 7) hPc hDc hK hXN rfl rfl) rfl rfl hl.1 rfl (lv_room (Nat.le_of_ble_eq_true rfl)) dX4_allows_127 ⟨Nat.le_of_ble_eq_true rfl, Nat.le_of_ble_eq_true rfl⟩) hS hFc hFc rfl (fun t H locs ht hB hk1 hS => ?_)
                    obtain ⟨hP1, hD1⟩ := hB
                    rw [ht] at hP1
                    obtain ⟨hP, hD⟩ := znQ (W2 := [_, _, _, _, _, _, _, _, _, _, _, _, _, _, _, _, _, _, _, _, _]) hP hD hk1 hFc hP1 hD1 [12, 13, 19, 20] [true, true, true, true, true, true, true, true, true, true, true, true, false, false, true, true, true, true, true] [true, true, true, true, true, true, true, true, true, true, true, true, false, false, true, true, true, true, true, false, false] [12, 13, 19, 20] (by decide +kernel) rfl rfl rfl rfl rfl
                    clear hk1 hPc hDc hFc hP1 hD1 ht
                    refine lv_astoreN (lv' := [(8, .null), (7, .int (nI g5)), (6, .int 6), (5, .int (nI (prv nd (gpK nd k5)))), (4, .ref r), (0, .ref lw), (1, .ref sh), (2, .ref fe), (3, .int (nI k5))]) hx hb dX4_allows_130 hl (Nat.le_of_ble_eq_true rfl) rfl (fun ls hl => ?_)
                    refine lv_aloadN hx hb dX4_allows_132 (lv_at hl 0 rfl) ?_
                    refine lv_ifnullN (tgt := 187) hx hb dX4_allows_134 rfl ?_
                    obtain ⟨hP, hD⟩ := pl_bk (X := [_, _, _, _, _, _, _, _, _, _, _, _, _, _, _, _, _, _, _]) hT_1 hP rfl hc9_1 hD0_1 rfl
                    refine lv_iinc (v := nI (g5 + 1)) (lv' := [(7, .int (nI (g5 + 1))), (8, .null), (6, .int 6), (5, .int (nI (prv nd (gpK nd k5)))), (4, .ref r), (0, .ref lw), (1, .ref sh), (2, .ref fe), (3, .int (nI k5))]) hx hb dX4_allows_187 hl (k := 1) rfl (nI_add g5 1) (Nat.le_of_ble_eq_true rfl) rfl (fun ls hl => ?_)
                    refine lv_goto (tgt := 115) hx hb dX4_allows_190 rfl ?_
                    exact ih_115 (g5 + 1) nt1 TX1 TY1 rt1 nw1 WX1 WY1 rw1 b5 b6 b7 b8 H locs ls (by first | with_reducible assumption | omega) (by first | with_reducible assumption | omega) (by intro q hq; rcases Nat.lt_or_ge q g5 with h | h; exact hall q h; rw [show q = g5 by omega]; intro h1 h2; first | exact absurd hif h1 | exact absurd h2.2.1 hs2 | exact absurd h2.2.2 ht2 | exact Or.inl (by first | with_reducible assumption | assumption) | exact Or.inr (by first | with_reducible assumption | assumption)) hP hD hS (lv_sub hl [0, 2, 3, 4, 5, 6, 7, 8] rfl)
                  · skip
                    have hw2 := hwf g5 hlv2
                    have hn2 := hw2.2.1
                    have hq2 := rw_pls hrr2 hw2
                    have hkn2 := hkn g5 hlv2
                    have hcap2 := hrr2.1
                    have hcap3 := hrr2.2.1
                    have h1m2 : 1 ≤ nN (mn g5) := hw2.2.1.1
                    have hrk2 := rgK_e hrr2.2.2.2.1
                    have hc9_1 : inPl L f [(oc1 fe2 rk2 wd2 tw2 pa2 pb2 (.ref lo2) (.ref lk2) fm2), (oc4 lk2 (kd g5) (st g5) (.ref r2) gb2 jt2 we2), (oc6 r2 (.ref rx2) (.ref ry2) (nI (nN (mn g5))) rg2), (oa rx2 cI cap2 U2), (oa ry2 cI cap2 V2)] := ⟨hfe2, hlk2, hr2, hrx2, hry2, trivial⟩
                    have hD0_1 := hD
                    obtain ⟨hP, hD⟩ := pl_out hP hD [(oc1 fe2 rk2 wd2 tw2 pa2 pb2 (.ref lo2) (.ref lk2) fm2), (oc4 lk2 (kd g5) (st g5) (.ref r2) gb2 jt2 we2), (oc6 r2 (.ref rx2) (.ref ry2) (nI (nN (mn g5))) rg2), (oa rx2 cI cap2 U2), (oa ry2 cI cap2 V2)] hc9_1 (pwR hfe2.2 hlk2.2 hr2.2 hrx2.2 hry2.2 hne2)
                    generalize hT_1 : outPl L [(oc1 fe2 rk2 wd2 tw2 pa2 pb2 (.ref lo2) (.ref lk2) fm2), (oc4 lk2 (kd g5) (st g5) (.ref r2) gb2 jt2 we2), (oc6 r2 (.ref rx2) (.ref ry2) (nI (nN (mn g5))) rg2), (oa rx2 cI cap2 U2), (oa ry2 cI cap2 V2)] = T_1 at hP hD
                    obtain ⟨hP, hD⟩ := zre (W2 := ([_, _, _, _, _, _, _, _, _, _, _, _, _, _, _, _, _, _, _, _, _, _, _, _] ++ va_pl T_1 f)) hP hD rfl
                    refine lv_aload_n hx hb dX4_allows_124 rfl (lv_at hl 5 rfl) ?_
                    refine lv_iload hx hb dX4_allows_125 (lv_at hl 0 rfl) ?_
                    obtain ⟨hPc, hDc, hFc⟩ := zo_sub (wc := [_, _, _, _]) hP hD hS hA [12, 13, 19, 20] (by decide +kernel) rfl
                    refine zcall (st1 := [.ref r2]) (va_runV (As := [.int (nI g5)]) (rest := []) ⟨hx, hb, hml, hown, hts⟩ (k_Sheet_rowThere_yv l dC dI cI cZ cF H.size sh fa ft FA g5 fe2 lo2 rk2 wd2 tw2 pa2 pb2 lk2 (kd g5) (st g5) gb2 jt2 we2 r2 fm2 (by first | with_reducible assumption | omega) (by first | with_reducible assumption | omega) (by first | exact hFi | exact hFA2) (by first | exact hs1 | exact hs2 | exact hlv2.2.1)) (csV_62 hts rfl rfl ⟨Nat.le_of_ble_eq_true rfl, Nat.le_of_ble_eq_true rfl⟩) (zPV2 (q0 := 0) (ci := 7) hPc hDc hK hXN rfl rfl) rfl rfl hl.1 rfl (lv_room (Nat.le_of_ble_eq_true rfl)) dX4_allows_127 ⟨Nat.le_of_ble_eq_true rfl, Nat.le_of_ble_eq_true rfl⟩) hS hFc hFc rfl (fun t H locs ht hB hk1 hS => ?_)
                    obtain ⟨hP1, hD1⟩ := hB
                    rw [ht] at hP1
                    obtain ⟨hP, hD⟩ := znQ (W2 := [_, _, _, _, _, _, _, _, _, _, _, _, _, _, _, _, _, _, _, _, _, _, _, _]) hP hD hk1 hFc hP1 hD1 [12, 13, 19, 20] [true, true, true, true, true, true, true, true, true, true, true, true, false, false, true, true, true, true, true, false, false, true, true, true] [true, true, true, true, true, true, true, true, true, true, true, true, false, false, true, true, true, true, true, false, false, true, true, true] [12, 13, 19, 20] (by decide +kernel) rfl rfl rfl rfl rfl
                    clear hk1 hPc hDc hFc hP1 hD1 ht
                    refine lv_astore (lv' := [(8, .ref r2), (7, .int (nI g5)), (6, .int 6), (5, .int (nI (prv nd (gpK nd k5)))), (4, .ref r), (0, .ref lw), (1, .ref sh), (2, .ref fe), (3, .int (nI k5))]) hx hb dX4_allows_130 hl (Nat.le_of_ble_eq_true rfl) rfl (fun ls hl => ?_)
                    refine lv_aload hx hb dX4_allows_132 (lv_at hl 0 rfl) ?_
                    refine lv_ifnull hx hb dX4_allows_134 ?_
                    refine lv_aload_n hx hb dX4_allows_137 rfl (lv_at hl 6 rfl) ?_
                    refine lv_iload hx hb dX4_allows_138 (lv_at hl 1 rfl) ?_
                    obtain ⟨hPc, hDc, hFc⟩ := zo_sub (wc := [_, _]) hP hD hS hA [12, 13] rfl rfl
                    refine zcall (st1 := [.ref fe2]) (va_runV (As := [.int (nI g5)]) (rest := []) ⟨hx, hb, hml, hown, hts⟩ (k_Sheet_find l dC dI cI cZ cF H.size sh fa ft FA g5 fe2 (by first | with_reducible assumption | omega) (by first | with_reducible assumption | omega) (by first | exact hFi | exact hFA2)) (csV_63 hts rfl rfl ⟨Nat.le_of_ble_eq_true rfl, Nat.le_of_ble_eq_true rfl⟩) (zPV2 (q0 := 0) (ci := 7) hPc hDc hK hXN rfl rfl) rfl rfl hl.1 rfl (lv_room (Nat.le_of_ble_eq_true rfl)) dX4_allows_140 ⟨Nat.le_of_ble_eq_true rfl, Nat.le_of_ble_eq_true rfl⟩) hS hFc hFc rfl (fun t H locs ht hB hk1 hS => ?_)
                    obtain ⟨hP1, hD1⟩ := hB
                    rw [ht] at hP1
                    obtain ⟨hP, hD⟩ := znQ (W2 := [_, _, _, _, _, _, _, _, _, _, _, _, _, _, _, _, _, _, _, _, _, _, _, _]) hP hD hk1 hFc hP1 hD1 [12, 13] [true, true, true, true, true, true, true, true, true, true, true, true, false, false, true, true, true, true, true, true, true, true, true, true] [true, true, true, true, true, true, true, true, true, true, true, true, false, false, true, true, true, true, true, true, true, true, true, true] [12, 13] (by decide +kernel) rfl rfl rfl rfl rfl
                    clear hk1 hPc hDc hFc hP1 hD1 ht
                    refine lv_aload_n hx hb dX4_allows_143 rfl (lv_at hl 7 rfl) ?_
                    refine z_acmpne (rx := fe2) (ry := fe) (tgt := 150) hx hb dX4_allows_144 (by decide) (fun c_28 => ?_) (fun c_28 => ?_)
                    · have c_28 : ¬ fe2 = fe := c_28
                      refine lv_aload_n hx hb dX4_allows_150 rfl (lv_at hl 5 rfl) ?_
                      refine va_get (D := (dC, dI)) (ci := 3) (v := .ref bo) (C := RX4) (T := TX4) (N := 6) hx hb hts inX4 hown hK hP 0 rfl rfl 4 (Nat.le_of_ble_eq_true rfl) (hts _ mw_224) (fun _ h9 => h9) rfl dX4_allows_151 ?_
                      refine lv_aload hx hb dX4_allows_154 (lv_at hl 0 rfl) ?_
                      obtain ⟨hPc, hDc, hFc⟩ := zo_sub (wc := [_, _, _, _]) hP hD hS hA [11, 21, 22, 23] (by decide +kernel) rfl
                      refine zcall (st1 := []) (va_runV (As := [.ref r2]) (rest := []) ⟨hx, hb, hml, hown, hts⟩ (k_Box_cover l dC dI cI cZ cF H.size bo b5 b6 b7 b8 r2 rx2 ry2 (nN (mn g5)) cap2 U2 V2 rg2 (by first | with_reducible assumption | omega) (by first | with_reducible assumption | omega) ((pls_nr hq2).1) ((pls_nr hq2).2) (by first | with_reducible assumption | omega)) (csV_52 hts rfl rfl ⟨Nat.le_of_ble_eq_true rfl, Nat.le_of_ble_eq_true rfl⟩) (zPV2 (q0 := 0) (ci := 0) hPc hDc hK hXN rfl rfl) rfl rfl hl.1 rfl (lv_room (Nat.le_of_ble_eq_true rfl)) dX4_allows_156 ⟨Nat.le_of_ble_eq_true rfl, Nat.le_of_ble_eq_true rfl⟩) hS hFc hFc rfl (fun t H locs ht hB hk1 hS => ?_)
                      obtain ⟨hP1, hD1⟩ := hB
                      rw [ht] at hP1
                      obtain ⟨hP, hD⟩ := znQ (W2 := [_, _, _, _, _, _, _, _, _, _, _, (oc0 bo (iI (mnI (U2 0).toInt U2 (nN (mn g5)))) (iI (mnI (V2 0).toInt V2 (nN (mn g5)))) (iI (mxI (U2 0).toInt U2 (nN (mn g5)))) (iI (mxI (V2 0).toInt V2 (nN (mn g5))))), _, _, _, _, _, _, _, _, _, _, _, _]) hP hD hk1 hFc hP1 hD1 [11, 21, 22, 23] [true, true, true, true, true, true, true, true, true, true, true, false, true, true, true, true, true, true, true, true, true] [true, true, true, true, true, true, true, true, true, true, true, false, true, true, true, true, true, true, true, true, true, false, false, false] [11, 21, 22, 23] (by decide +kernel) rfl rfl rfl rfl rfl
                      clear hk1 hPc hDc hFc hP1 hD1 ht
                      refine lv_aload_n hx hb dX4_allows_159 rfl (lv_at hl 5 rfl) ?_
                      refine va_get (D := (dC, dI)) (ci := 3) (v := .ref br) (C := RX4) (T := TX4) (N := 6) hx hb hts inX4 hown hK hP 0 rfl rfl 3 (Nat.le_of_ble_eq_true rfl) (hts _ mw_223) (fun _ h9 => h9) rfl dX4_allows_160 ?_
                      refine lv_aload_n hx hb dX4_allows_163 rfl (lv_at hl 5 rfl) ?_
                      refine va_get (D := (dC, dI)) (ci := 3) (v := .ref bo) (C := RX4) (T := TX4) (N := 6) hx hb hts inX4 hown hK hP 0 rfl rfl 4 (Nat.le_of_ble_eq_true rfl) (hts _ mw_224) (fun _ h9 => h9) rfl dX4_allows_164 ?_
                      obtain ⟨hPc, hDc, hFc⟩ := zo_sub (wc := [_, _]) hP hD hS hA [10, 11] rfl rfl
                      refine zcall (st1 := [.int (pI ((max (max (X k5).toInt (X (prv n k5)).toInt) (X (nxt n k5)).toInt) < (mnI (U2 0).toInt U2 (nN (mn g5))) ∨ (mxI (U2 0).toInt U2 (nN (mn g5))) < (min (min (X k5).toInt (X (prv n k5)).toInt) (X (nxt n k5)).toInt) ∨ (max (max (Y k5).toInt (Y (prv n k5)).toInt) (Y (nxt n k5)).toInt) < (mnI (V2 0).toInt V2 (nN (mn g5))) ∨ (mxI (V2 0).toInt V2 (nN (mn g5))) < (min (min (Y k5).toInt (Y (prv n k5)).toInt) (Y (nxt n k5)).toInt)))]) (va_runV (As := [.ref bo]) (rest := []) ⟨hx, hb, hml, hown, hts⟩ (k_Box_isApart l dC dI cI cZ cF H.size br (min (min (X k5).toInt (X (prv n k5)).toInt) (X (nxt n k5)).toInt) (min (min (Y k5).toInt (Y (prv n k5)).toInt) (Y (nxt n k5)).toInt) (max (max (X k5).toInt (X (prv n k5)).toInt) (X (nxt n k5)).toInt) (max (max (Y k5).toInt (Y (prv n k5)).toInt) (Y (nxt n k5)).toInt) bo (mnI (U2 0).toInt U2 (nN (mn g5))) (mnI (V2 0).toInt V2 (nN (mn g5))) (mxI (U2 0).toInt U2 (nN (mn g5))) (mxI (V2 0).toInt V2 (nN (mn g5))) (hbr) (⟨mnB ((pls_nr hq2).1 0 (by first | with_reducible assumption | omega)) (pls_nr hq2).1 _ (Nat.le_refl _), mnB ((pls_nr hq2).2 0 (by first | with_reducible assumption | omega)) (pls_nr hq2).2 _ (Nat.le_refl _), mxB ((pls_nr hq2).1 0 (by first | with_reducible assumption | omega)) (pls_nr hq2).1 _ (Nat.le_refl _), mxB ((pls_nr hq2).2 0 (by first | with_reducible assumption | omega)) (pls_nr hq2).2 _ (Nat.le_refl _)⟩)) (csV_68 hts rfl rfl ⟨Nat.le_of_ble_eq_true rfl, Nat.le_of_ble_eq_true rfl⟩) (zPV2 (q0 := 0) (ci := 0) hPc hDc hK hXN rfl rfl) rfl rfl hl.1 rfl (lv_room (Nat.le_of_ble_eq_true rfl)) dX4_allows_167 ⟨Nat.le_of_ble_eq_true rfl, Nat.le_of_ble_eq_true rfl⟩) hS hFc hFc rfl (fun t H locs ht hB hk1 hS => ?_)
                      obtain ⟨hP1, hD1⟩ := hB
                      rw [ht] at hP1
                      obtain ⟨hP, hD⟩ := znQ (W2 := [_, _, _, _, _, _, _, _, _, _, _, _, _, _, _, _, _, _, _, _, _, _, _, _]) hP hD hk1 hFc hP1 hD1 [10, 11] [true, true, true, true, true, true, true, true, true, true, false, false, true, true, true, true, true, true, true, true, true, true, true, true] [true, true, true, true, true, true, true, true, true, true, false, false, true, true, true, true, true, true, true, true, true, true, true, true] [10, 11] (by decide +kernel) rfl rfl rfl rfl rfl
                      clear hk1 hPc hDc hFc hP1 hD1 ht
                      refine zz_i (v := pI (apB (min (min (X k5).toInt (X (prv n k5)).toInt) (X (nxt n k5)).toInt) (min (min (Y k5).toInt (Y (prv n k5)).toInt) (Y (nxt n k5)).toInt) (max (max (X k5).toInt (X (prv n k5)).toInt) (X (nxt n k5)).toInt) (max (max (Y k5).toInt (Y (prv n k5)).toInt) (Y (nxt n k5)).toInt) (nN (mn g5)) (cF40 cx g5) (cF40 cy g5))) (zp_iff (apB_cg h1m2 hrr2.2.2.2.2)) ?_
                      refine lv_if_ne (tgt := 187) hx hb dX4_allows_170 rfl (fun c_29 => ?_) (fun c_29 => ?_)
                      · have c_29 : apB (min (min (X k5).toInt (X (prv n k5)).toInt) (X (nxt n k5)).toInt) (min (min (Y k5).toInt (Y (prv n k5)).toInt) (Y (nxt n k5)).toInt) (max (max (X k5).toInt (X (prv n k5)).toInt) (X (nxt n k5)).toInt) (max (max (Y k5).toInt (Y (prv n k5)).toInt) (Y (nxt n k5)).toInt) (nN (mn g5)) (cF40 cx g5) (cF40 cy g5) := zp_1 c_29
                        obtain ⟨hP, hD⟩ := pl_bk (X := [_, _, _, _, _, _, _, _, _, _, _, _, _, _, _, _, _, _, _]) hT_1 hP rfl hc9_1 hD0_1 rfl
                        refine lv_iinc (v := nI (g5 + 1)) (lv' := [(7, .int (nI (g5 + 1))), (8, .ref r2), (6, .int 6), (5, .int (nI (prv nd (gpK nd k5)))), (4, .ref r), (0, .ref lw), (1, .ref sh), (2, .ref fe), (3, .int (nI k5))]) hx hb dX4_allows_187 hl (k := 1) rfl (nI_add g5 1) (Nat.le_of_ble_eq_true rfl) rfl (fun ls hl => ?_)
                        refine lv_goto (tgt := 115) hx hb dX4_allows_190 rfl ?_
                        exact ih_115 (g5 + 1) nt1 TX1 TY1 rt1 nw1 WX1 WY1 rw1 (iI (mnI (U2 0).toInt U2 (nN (mn g5)))) (iI (mnI (V2 0).toInt V2 (nN (mn g5)))) (iI (mxI (U2 0).toInt U2 (nN (mn g5)))) (iI (mxI (V2 0).toInt V2 (nN (mn g5)))) H locs ls (by first | with_reducible assumption | omega) (by first | with_reducible assumption | omega) (by intro q hq; rcases Nat.lt_or_ge q g5 with h | h; exact hall q h; rw [show q = g5 by omega]; intro h1 h2; first | exact absurd hif h1 | exact absurd h2.2.1 hs2 | exact absurd h2.2.2 ht2 | exact Or.inl (by first | with_reducible assumption | assumption) | exact Or.inr (by first | with_reducible assumption | assumption)) hP hD hS (lv_sub hl [0, 2, 3, 4, 5, 6, 7, 8] rfl)
                      · have c_29 : ¬ (apB (min (min (X k5).toInt (X (prv n k5)).toInt) (X (nxt n k5)).toInt) (min (min (Y k5).toInt (Y (prv n k5)).toInt) (Y (nxt n k5)).toInt) (max (max (X k5).toInt (X (prv n k5)).toInt) (X (nxt n k5)).toInt) (max (max (Y k5).toInt (Y (prv n k5)).toInt) (Y (nxt n k5)).toInt) (nN (mn g5)) (cF40 cx g5) (cF40 cy g5)) := zp_0 c_29
                        refine lv_aload_n hx hb dX4_allows_173 rfl (lv_at hl 5 rfl) ?_
                        refine lv_aload hx hb dX4_allows_174 (lv_at hl 4 rfl) ?_
                        refine lv_aload hx hb dX4_allows_176 (lv_at hl 0 rfl) ?_
                        refine lv_iload_n hx hb dX4_allows_178 rfl (lv_at hl 8 rfl) ?_
                        obtain ⟨hPc, hDc, hFc⟩ := zo_sub (wc := [_, _, _, _, _, _, _, _, _, _, _, _, _, _, _, _]) hP hD hS hA [0, 1, 2, 3, 4, 5, 6, 7, 8, 9, 16, 17, 18, 21, 22, 23] (by decide +kernel) rfl
                        refine zcall (st1 := [.int (pI (asb n X Y rg nd P Q rd (nN (mn g5)) U2 V2 rg2 ∧ (¬ (∃ j, j < (nN (mn g5)) ∧ swC n X Y k5 (U2 j).toInt (V2 j).toInt))))]) (va_runV (As := [.ref r, .ref r2, .int (nI k5)]) (rest := []) ⟨hx, hb, hml, hown, hts⟩ (k_Law_isAsBefore_k l dC dI cI cZ cF H.size lw dr tg wy br bo aa tx ty nt1 TX1 TY1 rt1 wx wz nw1 WX1 WY1 rw1 dx dy nd cd P Q rd r rx ry n cap X Y rg r2 rx2 ry2 (nN (mn g5)) cap2 U2 V2 rg2 k5 (by first | with_reducible assumption | omega) (by first | with_reducible assumption | omega) (by first | with_reducible assumption | assumption) (by first | with_reducible assumption | omega) (by first | with_reducible assumption | omega) (hp) (by first | with_reducible assumption | omega) (by first | with_reducible assumption | omega) (hq2) (by first | with_reducible assumption | omega) (by first | with_reducible assumption | omega) (by first | with_reducible assumption | omega) (by first | with_reducible assumption | omega) (by first | with_reducible assumption | omega) (by first | with_reducible assumption | omega)) (csV_69 hts rfl rfl ⟨Nat.le_of_ble_eq_true rfl, Nat.le_of_ble_eq_true rfl⟩) (zPV2 (q0 := 0) (ci := 3) hPc hDc hK hXN rfl rfl) rfl rfl hl.1 rfl (lv_room (Nat.le_of_ble_eq_true rfl)) dX4_allows_179 ⟨Nat.le_of_ble_eq_true rfl, Nat.le_of_ble_eq_true rfl⟩) hS hFc hFc rfl (fun t H locs ht hB hk1 hS => ?_)
                        obtain ⟨q_30, q_31, q_32, q_33, q_34, q_35, q_36, q_37, hP1, hD1⟩ := hB
                        rw [ht] at hP1
                        obtain ⟨hP, hD⟩ := znQ (W2 := [_, (oc6 tg (.ref tx) (.ref ty) (nI q_30) q_33), (oa tx cI 3 q_31), (oa ty cI 3 q_32), (oc6 wy (.ref wx) (.ref wz) (nI q_34) q_37), (oa wx cI 2 q_35), (oa wz cI 2 q_36), _, _, _, _, _, _, _, _, _, _, _, _, _, _, _, _, _]) hP hD hk1 hFc hP1 hD1 [0, 1, 2, 3, 4, 5, 6, 7, 8, 9, 16, 17, 18, 21, 22, 23] [false, false, false, false, false, false, false, false, false, false, true, true, true, true, true, true, false, false, false, true, true] [false, false, false, false, false, false, false, false, false, false, true, true, true, true, true, true, false, false, false, true, true, false, false, false] [0, 1, 2, 3, 4, 5, 6, 7, 8, 9, 16, 17, 18, 21, 22, 23] (by decide +kernel) rfl rfl rfl rfl rfl
                        clear hk1 hPc hDc hFc hP1 hD1 ht
                        refine zz_i (v := pI (asb n X Y rg nd P Q rd (nN (mn g5)) (cF40 cx g5) (cF40 cy g5) (rgK (kd g5).toInt) ∧ (¬ ∃ j, j < nN (mn g5) ∧ swC n X Y k5 (cF40 cx g5 j).toInt (cF40 cy g5 j).toInt))) (by rw [← hrk2]; exact zp_iff (and_congr (asb_cg h1m2 hrr2.2.2.2.2) (not_congr (ex_cg (W := fun x y => swC n X Y k5 x y) hrr2.2.2.2.2)))) ?_
                        refine lv_if_ne (tgt := 187) hx hb dX4_allows_182 rfl (fun c_38 => ?_) (fun c_38 => ?_)
                        · have c_38 : asb n X Y rg nd P Q rd (nN (mn g5)) (cF40 cx g5) (cF40 cy g5) (rgK (kd g5).toInt) ∧ (¬ ∃ j, j < nN (mn g5) ∧ swC n X Y k5 (cF40 cx g5 j).toInt (cF40 cy g5 j).toInt) := zp_1 c_38
                          obtain ⟨hP, hD⟩ := pl_bk (X := [_, _, _, _, _, _, _, _, _, _, _, _, _, _, _, _, _, _, _]) hT_1 hP rfl hc9_1 hD0_1 rfl
                          refine lv_iinc (v := nI (g5 + 1)) (lv' := [(7, .int (nI (g5 + 1))), (8, .ref r2), (6, .int 6), (5, .int (nI (prv nd (gpK nd k5)))), (4, .ref r), (0, .ref lw), (1, .ref sh), (2, .ref fe), (3, .int (nI k5))]) hx hb dX4_allows_187 hl (k := 1) rfl (nI_add g5 1) (Nat.le_of_ble_eq_true rfl) rfl (fun ls hl => ?_)
                          refine lv_goto (tgt := 115) hx hb dX4_allows_190 rfl ?_
                          exact ih_115 (g5 + 1) q_30 q_31 q_32 q_33 q_34 q_35 q_36 q_37 (iI (mnI (U2 0).toInt U2 (nN (mn g5)))) (iI (mnI (V2 0).toInt V2 (nN (mn g5)))) (iI (mxI (U2 0).toInt U2 (nN (mn g5)))) (iI (mxI (V2 0).toInt V2 (nN (mn g5)))) H locs ls (by first | with_reducible assumption | omega) (by first | with_reducible assumption | omega) (by intro q hq; rcases Nat.lt_or_ge q g5 with h | h; exact hall q h; rw [show q = g5 by omega]; intro h1 h2; first | exact absurd hif h1 | exact absurd h2.2.1 hs2 | exact absurd h2.2.2 ht2 | exact Or.inl (by first | with_reducible assumption | assumption) | exact Or.inr (by first | with_reducible assumption | assumption)) hP hD hS (lv_sub hl [0, 2, 3, 4, 5, 6, 7, 8] rfl)
                        · have c_38 : ¬ (asb n X Y rg nd P Q rd (nN (mn g5)) (cF40 cx g5) (cF40 cy g5) (rgK (kd g5).toInt) ∧ (¬ ∃ j, j < nN (mn g5) ∧ swC n X Y k5 (cF40 cx g5 j).toInt (cF40 cy g5 j).toInt)) := zp_0 c_38
                          obtain ⟨hP, hD⟩ := pl_bk (X := [_, _, _, _, _, _, _, _, _, _, _, _, _, _, _, _, _, _, _]) hT_1 hP rfl hc9_1 hD0_1 rfl
                          refine lv_iconst (v := 0) hx hb dX4_allows_185 rfl ?_
                          obtain ⟨hP9, hD9⟩ := zu_part (cx := [_, _, _, _, _, _, _, _, _, _, _, _, _, _, _, _, _, _, _]) hP hD [true, true, true, true, true, true, true, true, true, true, true, true, true, true, true, true, true, true, true] rfl rfl
                          rw [hQ9]
                          exact W.zret (ty := .boolean) (v := 0) hx hb hr (rfl) (fun t ht hW => ⟨⟨congrArg (fun z => Outcome.returned (some (Value.int z))) (show (0 : Int32) = pI (pls nd P Q ∧ eFr nd P Q rd (prv nd (gpK nd k5)) 0 ∧ ∀ q, q < ft → (q ≠ f0 → lvF ft st tn q → (apB (min (min (X k5).toInt (X (prv n k5)).toInt) (X (nxt n k5)).toInt) (min (min (Y k5).toInt (Y (prv n k5)).toInt) (Y (nxt n k5)).toInt) (max (max (X k5).toInt (X (prv n k5)).toInt) (X (nxt n k5)).toInt) (max (max (Y k5).toInt (Y (prv n k5)).toInt) (Y (nxt n k5)).toInt) (nN (mn q)) (cF40 cx q) (cF40 cy q) ∨ (asb n X Y rg nd P Q rd (nN (mn q)) (cF40 cx q) (cF40 cy q) (rgK (kd q).toInt) ∧ (¬ ∃ j, j < nN (mn q) ∧ swC n X Y k5 (cF40 cx q j).toInt (cF40 cy q j).toInt))))) from (zp_f (fun h => by have h9 := h.2.2 g5 (by omega) hif hlv2; first | exact absurd h9 (fun h8 => h8.elim (fun h7 => absurd h7 (by first | with_reducible assumption | assumption)) (fun h7 => absurd h7 (by first | with_reducible assumption | assumption))))).symm), q_30, q_31, q_32, q_33, q_34, q_35, q_36, q_37, (iI (min (min (X k5).toInt (X (prv n k5)).toInt) (X (nxt n k5)).toInt)), (iI (min (min (Y k5).toInt (Y (prv n k5)).toInt) (Y (nxt n k5)).toInt)), (iI (max (max (X k5).toInt (X (prv n k5)).toInt) (X (nxt n k5)).toInt)), (iI (max (max (Y k5).toInt (Y (prv n k5)).toInt) (Y (nxt n k5)).toInt)), (iI (mnI (U2 0).toInt U2 (nN (mn g5)))), (iI (mnI (V2 0).toInt V2 (nN (mn g5)))), (iI (mxI (U2 0).toInt U2 (nN (mn g5)))), (iI (mxI (V2 0).toInt V2 (nN (mn g5)))), by rw [ht]; exact hP9, hD9⟩, hS.F ht⟩) hS.2.2 dX4_allows_186
                    · have c_28 : fe2 = fe := c_28
                      exfalso; exact absurd (by first | with_reducible assumption | assumption) (pl_sep (q := (oc1 fe rk9 wd9 tw9 pa9 pb9 (.ref lo) (.ref lk) fm9)) hD0_1 (by simp) hfe2.1)
            exact hl_115 _ 0 nt TX TY rt nw WX WY rw b5 b6 b7 b8 H locs ls (Nat.lt_succ_self _) (by first | with_reducible assumption | omega) (by intro q hq; omega) hP hD hS (lv_sub hl [0, 1, 2, 3, 4, 5, 6, 7] rfl)
          · have c_23 : ¬ (eFr nd P Q rd (prv nd (gpK nd k5)) 0) := zp_0 c_23
            refine lv_goto (tgt := 103) hx hb dX4_allows_88 rfl ?_
            refine lv_iconst (v := 0) hx hb dX4_allows_103 rfl ?_
            obtain ⟨hP9, hD9⟩ := zu_part (cx := [_, _, _, _, _, _, _, _, _, _, _, _, _, _, _, _, _, _, _]) hP hD [true, true, true, true, true, true, true, true, true, true, true, true, true, true, true, true, true, true, true] rfl rfl
            rw [hQ9]
            exact W.zret (ty := .boolean) (v := 0) hx hb hr (rfl) (fun t ht hW => ⟨⟨congrArg (fun z => Outcome.returned (some (Value.int z))) (show (0 : Int32) = pI (pls nd P Q ∧ eFr nd P Q rd (prv nd (gpK nd k5)) 0 ∧ ∀ q, q < ft → (q ≠ f0 → lvF ft st tn q → (apB (min (min (X k5).toInt (X (prv n k5)).toInt) (X (nxt n k5)).toInt) (min (min (Y k5).toInt (Y (prv n k5)).toInt) (Y (nxt n k5)).toInt) (max (max (X k5).toInt (X (prv n k5)).toInt) (X (nxt n k5)).toInt) (max (max (Y k5).toInt (Y (prv n k5)).toInt) (Y (nxt n k5)).toInt) (nN (mn q)) (cF40 cx q) (cF40 cy q) ∨ (asb n X Y rg nd P Q rd (nN (mn q)) (cF40 cx q) (cF40 cy q) (rgK (kd q).toInt) ∧ (¬ ∃ j, j < nN (mn q) ∧ swC n X Y k5 (cF40 cx q j).toInt (cF40 cy q j).toInt))))) from (zp_f (fun h => absurd h.2.1 (by first | with_reducible assumption | assumption))).symm), nt, TX, TY, rt, nw, WX, WY, rw, b1, b2, b3, b4, b5, b6, b7, b8, by rw [ht]; exact hP9, hD9⟩, hS.F ht⟩) hS.2.2 dX4_allows_104
    refine lv_iload_n hx hb dX4_allows_30 rfl (lv_at hl 4 rfl) ?_
    refine lv_aload_n hx hb dX4_allows_31 rfl (lv_at hl 1 rfl) ?_
    refine va_get (D := (dC, dI)) (ci := 3) (v := .ref dr) (C := RX4) (T := TX4) (N := 6) hx hb hts inX4 hown hK hP 0 rfl rfl 0 (Nat.le_of_ble_eq_true rfl) (hts _ mw_219) (fun _ h9 => h9) rfl dX4_allows_32 ?_
    refine va_get (D := (dC, dI)) (ci := 6) (v := .int (nI nd)) (C := RX7) (T := TX7) (N := 4) hx hb hts inX7 hown hK hP 7 rfl rfl 2 (Nat.le_of_ble_eq_true rfl) (hts _ mw_176) (fun _ h9 => h9) rfl dX4_allows_35 ?_
    have b9_40 : k5 < 2147483648 := by omega
    have b9_41 : nd < 2147483648 := by omega
    refine lv_icmp_ge (tgt := 45) hx hb dX4_allows_38 rfl (fun c_39 => ?_) (fun c_39 => ?_)
    · have c_39 : ((nd : Nat) : Int) ≤ ((k5 : Nat) : Int) := zc_le (nI_toInt b9_41) (nI_toInt b9_40) c_39
      refine lv_iconst (v := 0) hx hb dX4_allows_45 rfl ?_
      refine zz_i (v := nI (gpK nd k5)) (by unfold gpK; first | (rw [if_pos (by omega)]) | (rw [if_neg (by omega)]; rfl)) ?_
      exact hj_2 
    · have c_39 : ((k5 : Nat) : Int) < ((nd : Nat) : Int) := zc_nle (nI_toInt b9_41) (nI_toInt b9_40) c_39
      refine lv_iload_n hx hb dX4_allows_41 rfl (lv_at hl 4 rfl) ?_
      refine lv_goto (tgt := 46) hx hb dX4_allows_42 rfl ?_
      refine zz_i (v := nI (gpK nd k5)) (by unfold gpK; first | (rw [if_pos (by omega)]) | (rw [if_neg (by omega)]; rfl)) ?_
      exact hj_2 
  · have c_1 : ¬ (pls nd P Q) := zp_0 c_1
    refine lv_iconst (v := 0) hx hb dX4_allows_24 rfl ?_
    obtain ⟨hP9, hD9⟩ := zu_part (cx := [_, _, _, _, _, _, _, _, _, _, _, _, _, _, _, _, _, _, _]) hP hD [true, true, true, true, true, true, true, true, true, true, true, true, true, true, true, true, true, true, true] rfl rfl
    rw [hQ9]
    exact W.zret (ty := .boolean) (v := 0) hx hb hr (rfl) (fun t ht hW => ⟨⟨congrArg (fun z => Outcome.returned (some (Value.int z))) (show (0 : Int32) = pI (pls nd P Q ∧ eFr nd P Q rd (prv nd (gpK nd k5)) 0 ∧ ∀ q, q < ft → (q ≠ f0 → lvF ft st tn q → (apB (min (min (X k5).toInt (X (prv n k5)).toInt) (X (nxt n k5)).toInt) (min (min (Y k5).toInt (Y (prv n k5)).toInt) (Y (nxt n k5)).toInt) (max (max (X k5).toInt (X (prv n k5)).toInt) (X (nxt n k5)).toInt) (max (max (Y k5).toInt (Y (prv n k5)).toInt) (Y (nxt n k5)).toInt) (nN (mn q)) (cF40 cx q) (cF40 cy q) ∨ (asb n X Y rg nd P Q rd (nN (mn q)) (cF40 cx q) (cF40 cy q) (rgK (kd q).toInt) ∧ (¬ ∃ j, j < nN (mn q) ∧ swC n X Y k5 (cF40 cx q j).toInt (cF40 cy q j).toInt))))) from (zp_f (fun h => absurd h.1 (by first | with_reducible assumption | assumption))).symm), nt, TX, TY, rt, nw, WX, WY, rw, b1, b2, b3, b4, b5, b6, b7, b8, by rw [ht]; exact hP9, hD9⟩, hS.F ht⟩) hS.2.2 dX4_allows_25
end
