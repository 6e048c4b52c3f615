section
set_option maxHeartbeats 4000000 in
set_option maxRecDepth 100000 in
theorem k_M_isLawfulTo_p (l : Launch) (dC : Nat → ClassId) (dI : Nat → Nat → Nat) (cI cZ cF : ClassId) (sz : Nat) (k0 : Nat) (a : Nat → Nat) (I0 : Nat → Int32) (J0 : Nat → Int64) (f : Nat) (n : Nat) (g : Nat) (m2 : Nat) (on : Nat) (b : Nat) (kd : Nat → Int32) (mn : Nat → Int32) (cx : Nat → Int32) (cy : Nat → Int32) (S0 : Nat → Int32) (T0 : Nat → Int32) (P0 : Nat → Int32) (Q0 : Nat → Int32) (ox : Nat → Int32) (oy : Nat → Int32) (mt : Nat → Int32) (wi : Nat → Int32) (ins : Nat → Int32) (MT : Prop) (WI : Prop) (IN : Nat → Prop) (hf_f : f ≤ 200) (hm_f : mn f = nI n) (hn_f : 1 ≤ n ∧ n ≤ 40) (hp_f : pls n (cF40 cx f) (cF40 cy f)) (hf_g : g ≤ 200) (hm_g : mn g = nI m2) (hn_g : 1 ≤ m2 ∧ m2 ≤ 40) (hp_g : pls m2 (cF40 cx g) (cF40 cy g)) (hon : I0 35 = nI on) (ho40 : on ≤ 40) (ho1 : 1 ≤ on) (hpo : pls on ox oy) (hmt : mt g = pI MT) (hwi : 5 ≤ (kd g).toInt → wi g = pI WI) (hin : ∀ k, k < m2 → 5 ≤ (kd f).toInt → ins (40 * g + k) = pI (IN k)) (hb9 : b < on) : zM l yX11_isLawfulTo cX11_isLawfulTo 8 (some .boolean) ({ frames := 4, cells := 0, slots := 0, locals := 108 } : Room) [.ref k0, .int (nI f), .int (nI g), .int 1, .int (nI b)] (dC, dI) (zTy cI cZ cF) [(om k0 a I0 J0), (oa (a 1) cI 201 kd), (oa (a 11) cI 201 mn), (oa (a 12) cI 8040 cx), (oa (a 13) cI 8040 cy), (oa (a 32) cI 8 S0), (oa (a 40) cI 6 T0), (oa (a 29) cI 42 P0), (oa (a 30) cI 42 Q0), (oa (a 33) cI 42 ox), (oa (a 34) cI 42 oy), (oa (a 37) cZ 201 mt), (oa (a 38) cZ 201 wi), (oa (a 39) cZ 8040 ins)] sz (some (.int (pI (lawTo (ox 0) (oy 0) (kd f).toInt n (cF40 cx f) (cF40 cy f) (kd g).toInt m2 (cF40 cx g) (cF40 cy g) MT WI IN (fun k => swB on ox oy b (cF40 cx g k).toInt (cF40 cy g k).toInt))))) (fun A t => ∃ (z9 : Int32), ∃ (S1 : Nat → Int32), ∃ (T1 : Nat → Int32), ∃ (P1 : Nat → Int32), ∃ (Q1 : Nat → Int32), zPD (dC, dI) classes A [(om k0 a (upd I0 31 z9) J0), (oa (a 1) cI 201 kd), (oa (a 11) cI 201 mn), (oa (a 12) cI 8040 cx), (oa (a 13) cI 8040 cy), (oa (a 32) cI 8 S1), (oa (a 40) cI 6 T1), (oa (a 29) cI 42 P1), (oa (a 30) cI 42 Q1), (oa (a 33) cI 42 ox), (oa (a 34) cI 42 oy), (oa (a 37) cZ 201 mt), (oa (a 38) cZ 201 wi), (oa (a 39) cZ 8040 ins)] t.heap) 0 0 := by
  refine zIn (own := "ScaleShopModel") (loc := [(0, .ref k0), (1, .int (nI f)), (2, .int (nI g)), (3, .int 1), (4, .int (nI b))]) rfl rfl rfl rfl (fun p e s m below meth c hx hb hr hts hown hlocks hml hnm9 A hA hS hP hD hK hXN Q9 hQ9 ls hl => ?_)
  refine lv_aload_n hx hb dX11_isLawfulTo_0 rfl (lv_at hl 0 rfl) ?_
  refine lv_iload_n hx hb dX11_isLawfulTo_1 rfl (lv_at hl 1 rfl) ?_
  refine lv_iload_n hx hb dX11_isLawfulTo_2 rfl (lv_at hl 2 rfl) ?_
  obtain ⟨hPc, hDc, hFc⟩ := zo_sub (wc := [_, _, _, _, _, _]) hP hD hS hA [0, 1, 2, 3, 4, 5] (by decide +kernel) rfl
  refine zcall (st1 := [.int (pI (∃ i, i < eO (kd f).toInt n ∧ ∃ j, j < eO (kd g).toInt m2 ∧ eMt n (cF40 cx f) (cF40 cy f) i m2 (cF40 cx g) (cF40 cy g) j))]) (va_runV (As := [.int (nI f), .int (nI g)]) (rest := []) ⟨hx, hb, hml, hown, hts⟩ (k_M_isMet l dC dI cI cZ cF s.heap.size k0 a I0 J0 f n g m2 kd mn cx cy S0 (by first | with_reducible assumption | omega) (by first | with_reducible assumption | assumption) (by first | with_reducible assumption | omega) (by first | with_reducible assumption | assumption) (by first | with_reducible assumption | omega) (by first | with_reducible assumption | assumption) (by first | with_reducible assumption | omega) (by first | with_reducible assumption | assumption)) (csV_180 hts rfl rfl ⟨Nat.le_of_ble_eq_true rfl, Nat.le_of_ble_eq_true rfl⟩) (zPV2 (q0 := 0) (ci := 9) hPc hDc hK hXN rfl rfl) rfl rfl hl.1 rfl (lv_room (Nat.le_of_ble_eq_true rfl)) dX11_isLawfulTo_3 ⟨Nat.le_of_ble_eq_true rfl, Nat.le_of_ble_eq_true rfl⟩) hS hFc hFc rfl (fun t H locs ht hB hk1 hS => ?_)
  obtain ⟨q_1, hP1, hD1⟩ := hB
  rw [ht] at hP1
  obtain ⟨hP, hD⟩ := zn (W2 := [_, _, _, _, _, (oa (a 32) cI 8 q_1), _, _, _, _, _, _, _, _]) hP hD hk1 hFc hP1 hD1 [0, 1, 2, 3, 4, 5] zl_147 zl_147 [0, 1, 2, 3, 4, 5] (by decide +kernel) rfl rfl rfl rfl rfl
  clear hk1 hPc hDc hFc hP1 hD1 ht
  refine zz_i (v := pI (mtF (kd f).toInt n (cF40 cx f) (cF40 cy f) (kd g).toInt m2 (cF40 cx g) (cF40 cy g))) (rfl) ?_
  refine lv_aload_n hx hb dX11_isLawfulTo_6 rfl (lv_at hl 0 rfl) ?_
  refine va_get (D := (dC, dI)) (ci := 9) (v := .ref (a 37)) (C := RX11) (T := TX11) (N := 55) hx hb hts inX11 hown hK hP 0 rfl rfl 37 (Nat.le_of_ble_eq_true rfl) (hts _ mw_1196) (fun _ h9 => h9) rfl dX11_isLawfulTo_7 ?_
  refine lv_iload_n hx hb dX11_isLawfulTo_10 rfl (lv_at hl 2 rfl) ?_
  have b9_2 : g < 201 := by omega
  refine z_zald hx hb hK hP 11 1 rfl rfl (e := g) rfl b9_2 (Nat.le_of_ble_eq_true rfl) dX11_isLawfulTo_11 ?_
  refine zz_i (v := pI MT) (hmt) ?_
  refine lv_icmp_eq (tgt := 17) hx hb dX11_isLawfulTo_12 rfl (fun c_3 => ?_) (fun c_3 => ?_)
  · have c_3 : (pI (mtF (kd f).toInt n (cF40 cx f) (cF40 cy f) (kd g).toInt m2 (cF40 cx g) (cF40 cy g))).toInt = (pI MT).toInt := zc_eq rfl rfl c_3
    refine lv_aload_n hx hb dX11_isLawfulTo_17 rfl (lv_at hl 0 rfl) ?_
    refine lv_iload_n hx hb dX11_isLawfulTo_18 rfl (lv_at hl 2 rfl) ?_
    obtain ⟨hPc, hDc, hFc, hI1⟩ := zi_sub (wc := [_, _]) hP hD hS hA [0, 1] rfl rfl
    refine zcall (st1 := [.int (pI (5 ≤ (kd g).toInt))]) (va_runV (As := [.int (nI g)]) (rest := []) ⟨hx, hb, hml, hown, hts⟩ (k_M_isRing l dC dI cI cZ cF H.size k0 a I0 J0 g kd (by first | with_reducible assumption | omega)) (csV_165 hts rfl rfl ⟨Nat.le_of_ble_eq_true rfl, Nat.le_of_ble_eq_true rfl⟩) (zPV2 (q0 := 0) (ci := 9) hPc hDc hK hXN rfl rfl) rfl rfl hl.1 rfl (lv_room (Nat.le_of_ble_eq_true rfl)) dX11_isLawfulTo_19 ⟨Nat.le_of_ble_eq_true rfl, Nat.le_of_ble_eq_true rfl⟩) hS hFc hFc rfl (fun t H locs ht hB hk1 hS => ?_)
    obtain ⟨hP1, hD1⟩ := hB
    rw [ht] at hP1
    replace hP := z0 hP hD hk1 hP1 hI1
    clear hk1 hPc hDc hFc hP1 hD1 ht hI1
    refine lv_if_eq (tgt := 59) hx hb dX11_isLawfulTo_22 rfl (fun c_4 => ?_) (fun c_4 => ?_)
    · have c_4 : ¬ (5 ≤ (kd g).toInt) := zp_0 c_4
      refine lv_iconst (v := 0) hx hb dX11_isLawfulTo_59 rfl ?_
      refine lv_istore (lv' := [(5, .int 0), (0, .ref k0), (1, .int (nI f)), (2, .int (nI g)), (3, .int 1), (4, .int (nI b))]) hx hb dX11_isLawfulTo_60 hl (Nat.le_of_ble_eq_true rfl) rfl (fun ls hl => ?_)
      have hl_62 : ∀ (n9 : Nat) (k : Nat) (z9 : Int32) (S1 : Nat → Int32) (T1 : Nat → Int32) (P1 : Nat → Int32) (Q1 : Nat → Int32) (H : Heap) (locs : List Loc) (ls : Array Slot), m2 - k < n9 → (k ≤ m2) → (∀ j, j < k → (5 ≤ (kd f).toInt → (inF (kd f).toInt n (cF40 cx f) (cF40 cy f) (cF40 cx g j).toInt (cF40 cy g j).toInt ↔ IN j)) ∧ (¬ (kd f).toInt = 0 → ¬ (fun k => swB on ox oy b (cF40 cx g k).toInt (cF40 cy g k).toInt) j)) → va_P (dC, dI) classes [(om k0 a (upd I0 31 z9) J0), (oa (a 1) cI 201 kd), (oa (a 11) cI 201 mn), (oa (a 12) cI 8040 cx), (oa (a 13) cI 8040 cy), (oa (a 32) cI 8 S1), (oa (a 40) cI 6 T1), (oa (a 29) cI 42 P1), (oa (a 30) cI 42 Q1), (oa (a 33) cI 42 ox), (oa (a 34) cI 42 oy), (oa (a 37) cZ 201 mt), (oa (a 38) cZ 201 wi), (oa (a 39) cZ 8040 ins)] H → va_D A [(om k0 a (upd I0 31 z9) J0), (oa (a 1) cI 201 kd), (oa (a 11) cI 201 mn), (oa (a 12) cI 8040 cx), (oa (a 13) cI 8040 cy), (oa (a 32) cI 8 S1), (oa (a 40) cI 6 T1), (oa (a 29) cI 42 P1), (oa (a 30) cI 42 Q1), (oa (a 33) cI 42 ox), (oa (a 34) cI 42 oy), (oa (a 37) cZ 201 mt), (oa (a 38) cZ 201 wi), (oa (a 39) cZ 8040 ins)] → va_S A s.heap H locs → lv_has ls 8 [(5, .int (nI k)), (0, .ref k0), (1, .int (nI f)), (2, .int (nI g)), (3, .int 1), (4, .int (nI b))] → W p l e ({ frames := 4, cells := 0, slots := 0, locals := 108 } : Room) s m ([.ref k0, .int (nI f), .int (nI g), .int 1, .int (nI b)] : List Value).toArray below meth c H locs 0 0 Q9 (F0 m 62 ls []) := by
        intro n9
        induction n9 with
        | zero => intro k z9 S1 T1 P1 Q1 H locs ls hm; exact absurd hm (Nat.not_lt_zero _)
        | succ n9 ih_62 =>
          intro k z9 S1 T1 P1 Q1 H locs ls hm hk hall hP hD hS hl
          refine lv_iload hx hb dX11_isLawfulTo_62 (lv_at hl 0 rfl) ?_
          refine lv_aload_n hx hb dX11_isLawfulTo_64 rfl (lv_at hl 1 rfl) ?_
          refine va_get (D := (dC, dI)) (ci := 9) (v := .ref (a 11)) (C := RX11) (T := TX11) (N := 55) hx hb hts inX11 hown hK hP 0 rfl rfl 11 (Nat.le_of_ble_eq_true rfl) (hts _ mw_1170) (fun _ h9 => h9) rfl dX11_isLawfulTo_65 ?_
          refine lv_iload_n hx hb dX11_isLawfulTo_68 rfl (lv_at hl 3 rfl) ?_
          refine z_iald hx hb hK hP 2 0 rfl rfl (e := g) rfl b9_2 (Nat.le_of_ble_eq_true rfl) dX11_isLawfulTo_69 ?_
          refine zz_i (v := nI m2) (hm_g) ?_
          have b9_6 : zlt (k) := show k < 2147483648 by omega
          have b9_7 : zlt (m2) := show m2 < 2147483648 by omega
          refine lv_icmp_ge (tgt := 191) hx hb dX11_isLawfulTo_70 rfl (fun c_5 => ?_) (fun c_5 => ?_)
          · have c_5 : ((m2 : Nat) : Int) ≤ ((k : Nat) : Int) := zc_le (nI_toInt b9_7) (nI_toInt b9_6) c_5
            refine lv_aload_n hx hb dX11_isLawfulTo_191 rfl (lv_at hl 1 rfl) ?_
            refine va_get (D := (dC, dI)) (ci := 9) (v := .ref (a 1)) (C := RX11) (T := TX11) (N := 55) hx hb hts inX11 hown hK hP 0 rfl rfl 1 (Nat.le_of_ble_eq_true rfl) (hts _ mw_1160) (fun _ h9 => h9) rfl dX11_isLawfulTo_192 ?_
            refine lv_iload_n hx hb dX11_isLawfulTo_195 rfl (lv_at hl 2 rfl) ?_
            have b9_8 : f < 201 := by omega
            refine z_iald hx hb hK hP 1 0 rfl rfl (e := f) rfl b9_8 (Nat.le_of_ble_eq_true rfl) dX11_isLawfulTo_196 ?_
            refine lv_if_ne (tgt := 209) hx hb dX11_isLawfulTo_197 rfl (fun c_9 => ?_) (fun c_9 => ?_)
            · have c_9 : ¬ (kd f).toInt = 0 := zc_ne rfl rfl c_9
              refine lv_iconst (v := 1) hx hb dX11_isLawfulTo_209 rfl ?_
              refine lv_goto (tgt := 214) hx hb dX11_isLawfulTo_210 rfl ?_
              obtain ⟨hP9, hD9⟩ := zu_sub (wc := [_, _, _, _, _, _, _, _, _, _, _, _, _, _]) hP hD [true, true, true, true, true, true, true, true, true, true, true, true, true, true] rfl rfl
              rw [hQ9]
              exact W.zret (ty := .boolean) (v := 1) hx hb hr (rfl) (fun t ht hW => ⟨⟨congrArg (fun z => Outcome.returned (some (Value.int z))) (show (1 : Int32) = pI (lawTo (ox 0) (oy 0) (kd f).toInt n (cF40 cx f) (cF40 cy f) (kd g).toInt m2 (cF40 cx g) (cF40 cy g) MT WI IN (fun k => swB on ox oy b (cF40 cx g k).toInt (cF40 cy g k).toInt)) from (zp_t (by first | exact ⟨zp_ieq.mp (by first | with_reducible assumption | assumption), fun h => (by first | (exfalso; omega) | exact zp_ieq.mp (by first | with_reducible assumption | assumption)), fun j hj => hall j (by omega), fun h => (by first | (exfalso; omega) | assumption)⟩ | exact fun h => absurd (h.2.2.2 (by omega)) (by first | with_reducible assumption | assumption))).symm), z9, S1, T1, P1, Q1, by rw [ht]; exact hP9, hD9⟩, hS.F ht⟩) hS.2.2 dX11_isLawfulTo_214
            · have c_9 : (kd f).toInt = 0 := zc_eq rfl rfl c_9
              refine lv_aload_n hx hb dX11_isLawfulTo_200 rfl (lv_at hl 1 rfl) ?_
              refine lv_iload_n hx hb dX11_isLawfulTo_201 rfl (lv_at hl 2 rfl) ?_
              refine lv_iload_n hx hb dX11_isLawfulTo_202 rfl (lv_at hl 3 rfl) ?_
              obtain ⟨hPc, hDc, hFc⟩ := zo_sub (wc := [_, _, _, _, _, _, _, _]) hP hD hS hA [0, 1, 2, 3, 4, 5, 9, 10] (by decide +kernel) rfl
              refine zcall (st1 := [.int (pI (∀ k, k < eO (kd g).toInt m2 → fWy (ox 0).toInt (oy 0).toInt (cx (40 * f)).toInt (cy (40 * f)).toInt m2 (cF40 cx g) (cF40 cy g) k))]) (va_runV (As := [.int (nI f), .int (nI g)]) (rest := []) ⟨hx, hb, hml, hown, hts⟩ (k_M_isFreeWay l dC dI cI cZ cF H.size k0 a (upd I0 31 z9) J0 f g m2 kd mn cx cy S1 ox oy (by first | with_reducible assumption | omega) ((hpo 0 (by first | with_reducible assumption | omega)).1) ((hpo 0 (by first | with_reducible assumption | omega)).2) ((hp_f 0 (by first | with_reducible assumption | omega)).1) ((hp_f 0 (by first | with_reducible assumption | omega)).2) (by first | with_reducible assumption | omega) (by first | with_reducible assumption | assumption) (by first | with_reducible assumption | omega) (by first | with_reducible assumption | assumption)) (csV_181 hts rfl rfl ⟨Nat.le_of_ble_eq_true rfl, Nat.le_of_ble_eq_true rfl⟩) (zPV2 (q0 := 0) (ci := 9) hPc hDc hK hXN rfl rfl) rfl rfl hl.1 rfl (lv_room (Nat.le_of_ble_eq_true rfl)) dX11_isLawfulTo_203 ⟨Nat.le_of_ble_eq_true rfl, Nat.le_of_ble_eq_true rfl⟩) hS hFc hFc rfl (fun t H locs ht hB hk1 hS => ?_)
              obtain ⟨q_10, hP1, hD1⟩ := hB
              rw [ht] at hP1
              obtain ⟨hP, hD⟩ := zn (W2 := [_, _, _, _, _, (oa (a 32) cI 8 q_10), _, _, _, _, _, _, _, _]) hP hD hk1 hFc hP1 hD1 zl_148 zl_149 zl_149 zl_148 (by decide +kernel) rfl rfl rfl rfl rfl
              clear hk1 hPc hDc hFc hP1 hD1 ht
              refine zz_i (v := pI (∀ k, k < eO (kd g).toInt m2 → fWy (ox 0).toInt (oy 0).toInt (cF40 cx f 0).toInt (cF40 cy f 0).toInt m2 (cF40 cx g) (cF40 cy g) k)) (rfl) ?_
              refine lv_if_eq (tgt := 213) hx hb dX11_isLawfulTo_206 rfl (fun c_11 => ?_) (fun c_11 => ?_)
              · have c_11 : ¬ (∀ k, k < eO (kd g).toInt m2 → fWy (ox 0).toInt (oy 0).toInt (cF40 cx f 0).toInt (cF40 cy f 0).toInt m2 (cF40 cx g) (cF40 cy g) k) := zp_0 c_11
                refine lv_iconst (v := 0) hx hb dX11_isLawfulTo_213 rfl ?_
                obtain ⟨hP9, hD9⟩ := zu_sub (wc := [_, _, _, _, _, _, _, _, _, _, _, _, _, _]) hP hD [true, true, true, true, true, true, true, true, true, true, true, true, true, true] rfl rfl
                rw [hQ9]
                exact W.zret (ty := .boolean) (v := 0) hx hb hr (rfl) (fun t ht hW => ⟨⟨congrArg (fun z => Outcome.returned (some (Value.int z))) (show (0 : Int32) = pI (lawTo (ox 0) (oy 0) (kd f).toInt n (cF40 cx f) (cF40 cy f) (kd g).toInt m2 (cF40 cx g) (cF40 cy g) MT WI IN (fun k => swB on ox oy b (cF40 cx g k).toInt (cF40 cy g k).toInt)) from (zp_f (by first | exact ⟨zp_ieq.mp (by first | with_reducible assumption | assumption), fun h => (by first | (exfalso; omega) | exact zp_ieq.mp (by first | with_reducible assumption | assumption)), fun j hj => hall j (by omega), fun h => (by first | (exfalso; omega) | assumption)⟩ | exact fun h => absurd (h.2.2.2 (by omega)) (by first | with_reducible assumption | assumption))).symm), z9, q_10, T1, P1, Q1, by rw [ht]; exact hP9, hD9⟩, hS.F ht⟩) hS.2.2 dX11_isLawfulTo_214
              · have c_11 : ∀ k, k < eO (kd g).toInt m2 → fWy (ox 0).toInt (oy 0).toInt (cF40 cx f 0).toInt (cF40 cy f 0).toInt m2 (cF40 cx g) (cF40 cy g) k := zp_1 c_11
                refine lv_iconst (v := 1) hx hb dX11_isLawfulTo_209 rfl ?_
                refine lv_goto (tgt := 214) hx hb dX11_isLawfulTo_210 rfl ?_
                obtain ⟨hP9, hD9⟩ := zu_sub (wc := [_, _, _, _, _, _, _, _, _, _, _, _, _, _]) hP hD [true, true, true, true, true, true, true, true, true, true, true, true, true, true] rfl rfl
                rw [hQ9]
                exact W.zret (ty := .boolean) (v := 1) hx hb hr (rfl) (fun t ht hW => ⟨⟨congrArg (fun z => Outcome.returned (some (Value.int z))) (show (1 : Int32) = pI (lawTo (ox 0) (oy 0) (kd f).toInt n (cF40 cx f) (cF40 cy f) (kd g).toInt m2 (cF40 cx g) (cF40 cy g) MT WI IN (fun k => swB on ox oy b (cF40 cx g k).toInt (cF40 cy g k).toInt)) from (zp_t (by first | exact ⟨zp_ieq.mp (by first | with_reducible assumption | assumption), fun h => (by first | (exfalso; omega) | exact zp_ieq.mp (by first | with_reducible assumption | assumption)), fun j hj => hall j (by omega), fun h => (by first | (exfalso; omega) | assumption)⟩ | exact fun h => absurd (h.2.2.2 (by omega)) (by first | with_reducible assumption | assumption))).symm), z9, q_10, T1, P1, Q1, by rw [ht]; exact hP9, hD9⟩, hS.F ht⟩) hS.2.2 dX11_isLawfulTo_214
          · have c_5 : ((k : Nat) : Int) < ((m2 : Nat) : Int) := zc_nle (nI_toInt b9_7) (nI_toInt b9_6) c_5
            have hk9 : k < m2 := (by omega)
            refine lv_aload_n hx hb dX11_isLawfulTo_73 rfl (lv_at hl 1 rfl) ?_
            refine va_get (D := (dC, dI)) (ci := 9) (v := .ref (a 12)) (C := RX11) (T := TX11) (N := 55) hx hb hts inX11 hown hK hP 0 rfl rfl 12 (Nat.le_of_ble_eq_true rfl) (hts _ mw_1171) (fun _ h9 => h9) rfl dX11_isLawfulTo_74 ?_
            refine lv_bipush (v := 40) hx hb dX11_isLawfulTo_77 rfl ?_
            refine lv_iload_n hx hb dX11_isLawfulTo_79 rfl (lv_at hl 3 rfl) ?_
            refine lv_imul hx hb dX11_isLawfulTo_80 ?_
            refine zz_i (v := nI (40 * g)) (pk_mul 40 g) ?_
            refine lv_iload hx hb dX11_isLawfulTo_81 (lv_at hl 0 rfl) ?_
            refine lv_iadd hx hb dX11_isLawfulTo_83 ?_
            refine zz_i (v := nI (40 * g + k)) (nI_add (40 * g) k) ?_
            have b9_12 : 40 * g + k < 8040 := by omega
            refine z_iald hx hb hK hP 3 0 rfl rfl (e := 40 * g + k) rfl b9_12 (Nat.le_of_ble_eq_true rfl) dX11_isLawfulTo_84 ?_
            refine lv_istore (lv' := [(6, .int (cx (40 * g + k))), (5, .int (nI k)), (0, .ref k0), (1, .int (nI f)), (2, .int (nI g)), (3, .int 1), (4, .int (nI b))]) hx hb dX11_isLawfulTo_85 hl (Nat.le_of_ble_eq_true rfl) rfl (fun ls hl => ?_)
            refine lv_aload_n hx hb dX11_isLawfulTo_87 rfl (lv_at hl 2 rfl) ?_
            refine va_get (D := (dC, dI)) (ci := 9) (v := .ref (a 13)) (C := RX11) (T := TX11) (N := 55) hx hb hts inX11 hown hK hP 0 rfl rfl 13 (Nat.le_of_ble_eq_true rfl) (hts _ mw_1172) (fun _ h9 => h9) rfl dX11_isLawfulTo_88 ?_
            refine lv_bipush (v := 40) hx hb dX11_isLawfulTo_91 rfl ?_
            refine lv_iload_n hx hb dX11_isLawfulTo_93 rfl (lv_at hl 4 rfl) ?_
            refine lv_imul hx hb dX11_isLawfulTo_94 ?_
            refine zz_i (v := nI (40 * g)) (pk_mul 40 g) ?_
            refine lv_iload hx hb dX11_isLawfulTo_95 (lv_at hl 1 rfl) ?_
            refine lv_iadd hx hb dX11_isLawfulTo_97 ?_
            refine zz_i (v := nI (40 * g + k)) (nI_add (40 * g) k) ?_
            refine z_iald hx hb hK hP 4 0 rfl rfl (e := 40 * g + k) rfl b9_12 (Nat.le_of_ble_eq_true rfl) dX11_isLawfulTo_98 ?_
            refine lv_istore (lv' := [(7, .int (cy (40 * g + k))), (6, .int (cx (40 * g + k))), (5, .int (nI k)), (0, .ref k0), (1, .int (nI f)), (2, .int (nI g)), (3, .int 1), (4, .int (nI b))]) hx hb dX11_isLawfulTo_99 hl (Nat.le_of_ble_eq_true rfl) rfl (fun ls hl => ?_)
            refine lv_aload_n hx hb dX11_isLawfulTo_101 rfl (lv_at hl 3 rfl) ?_
            refine lv_iload_n hx hb dX11_isLawfulTo_102 rfl (lv_at hl 4 rfl) ?_
            obtain ⟨hPc, hDc, hFc, hI1⟩ := zi_sub (wc := [_, _]) hP hD hS hA [0, 1] rfl rfl
            refine zcall (st1 := [.int (pI (5 ≤ (kd f).toInt))]) (va_runV (As := [.int (nI f)]) (rest := []) ⟨hx, hb, hml, hown, hts⟩ (k_M_isRing l dC dI cI cZ cF H.size k0 a (upd I0 31 z9) J0 f kd (by first | with_reducible assumption | omega)) (csV_165 hts rfl rfl ⟨Nat.le_of_ble_eq_true rfl, Nat.le_of_ble_eq_true rfl⟩) (zPV2 (q0 := 0) (ci := 9) hPc hDc hK hXN rfl rfl) rfl rfl hl.1 rfl (lv_room (Nat.le_of_ble_eq_true rfl)) dX11_isLawfulTo_103 ⟨Nat.le_of_ble_eq_true rfl, Nat.le_of_ble_eq_true rfl⟩) hS hFc hFc rfl (fun t H locs ht hB hk1 hS => ?_)
            obtain ⟨hP1, hD1⟩ := hB
            rw [ht] at hP1
            replace hP := z0 hP hD hk1 hP1 hI1
            clear hk1 hPc hDc hFc hP1 hD1 ht hI1
            refine lv_if_eq (tgt := 135) hx hb dX11_isLawfulTo_106 rfl (fun c_13 => ?_) (fun c_13 => ?_)
            · have c_13 : ¬ (5 ≤ (kd f).toInt) := zp_0 c_13
              refine lv_aload_n hx hb dX11_isLawfulTo_135 rfl (lv_at hl 3 rfl) ?_
              refine va_get (D := (dC, dI)) (ci := 9) (v := .ref (a 1)) (C := RX11) (T := TX11) (N := 55) hx hb hts inX11 hown hK hP 0 rfl rfl 1 (Nat.le_of_ble_eq_true rfl) (hts _ mw_1160) (fun _ h9 => h9) rfl dX11_isLawfulTo_136 ?_
              refine lv_iload_n hx hb dX11_isLawfulTo_139 rfl (lv_at hl 4 rfl) ?_
              have b9_14 : f < 201 := by omega
              refine z_iald hx hb hK hP 1 0 rfl rfl (e := f) rfl b9_14 (Nat.le_of_ble_eq_true rfl) dX11_isLawfulTo_140 ?_
              refine lv_if_eq (tgt := 185) hx hb dX11_isLawfulTo_141 rfl (fun c_15 => ?_) (fun c_15 => ?_)
              · have c_15 : (kd f).toInt = 0 := zc_eq rfl rfl c_15
                refine lv_iinc (v := nI (k + 1)) (lv' := [(5, .int (nI (k + 1))), (7, .int (cy (40 * g + k))), (6, .int (cx (40 * g + k))), (0, .ref k0), (1, .int (nI f)), (2, .int (nI g)), (3, .int 1), (4, .int (nI b))]) hx hb dX11_isLawfulTo_185 hl (k := 2) rfl (nI_add k 1) (Nat.le_of_ble_eq_true rfl) rfl (fun ls hl => ?_)
                refine lv_goto (tgt := 62) hx hb dX11_isLawfulTo_188 rfl ?_
                exact ih_62 (k + 1) z9 S1 T1 P1 Q1 H locs ls (by first | with_reducible assumption | omega) (by first | with_reducible assumption | omega) (by intro j hj; rcases Nat.lt_or_ge j k with h | h; exact hall j h; obtain rfl : j = k := (by first | with_reducible assumption | omega); exact ⟨fun h5 => (by first | (exfalso; omega) | exact zp_ieq.mp (by first | with_reducible assumption | assumption)), fun h0 => (by first | (exfalso; omega) | exact id | assumption)⟩) hP hD hS (lv_sub hl [0, 3, 4, 5, 6, 7] rfl)
              · have c_15 : ¬ (kd f).toInt = 0 := zc_ne rfl rfl c_15
                refine lv_iload_n hx hb dX11_isLawfulTo_144 rfl (lv_at hl 6 rfl) ?_
                refine lv_iconst (v := 5) hx hb dX11_isLawfulTo_145 rfl ?_
                refine lv_icmp_eq (tgt := 185) hx hb dX11_isLawfulTo_146 rfl (fun c_16 => ?_) (fun c_16 => ?_)
                · exact absurd c_16 (by decide)
                · refine lv_iload hx hb dX11_isLawfulTo_149 (lv_at hl 7 rfl) ?_
                  refine lv_iconst (v := (-1)) hx hb dX11_isLawfulTo_151 rfl ?_
                  have b9_18 : zlt (b) := show b < 2147483648 by omega
                  refine lv_icmp_eq (tgt := 171) hx hb dX11_isLawfulTo_152 rfl (fun c_17 => ?_) (fun c_17 => ?_)
                  · have c_17 : ((b : Nat) : Int) = (-1) := zc_eq (nI_toInt b9_18) rfl c_17
                    exfalso; omega
                  · have c_17 : ¬ ((b : Nat) : Int) = (-1) := zc_ne (nI_toInt b9_18) rfl c_17
                    refine lv_aload_n hx hb dX11_isLawfulTo_155 rfl (lv_at hl 3 rfl) ?_
                    refine lv_iload hx hb dX11_isLawfulTo_156 (lv_at hl 7 rfl) ?_
                    refine lv_iload hx hb dX11_isLawfulTo_158 (lv_at hl 1 rfl) ?_
                    refine lv_iload hx hb dX11_isLawfulTo_160 (lv_at hl 0 rfl) ?_
                    obtain ⟨hPc, hDc, hFc⟩ := zo_sub (wc := [_, _, _, _]) hP hD hS hA [0, 6, 9, 10] (by decide +kernel) rfl
                    refine zcall (st1 := [.int (pI (swB on ox oy b (cx (40 * g + k)).toInt (cy (40 * g + k)).toInt))]) (va_runV (As := [.int (nI b), .int (cx (40 * g + k)), .int (cy (40 * g + k))]) (rest := []) ⟨hx, hb, hml, hown, hts⟩ (k_M_isSweptBy l dC dI cI cZ cF H.size k0 a (upd I0 31 z9) J0 b on (cx (40 * g + k)) (cy (40 * g + k)) T1 ox oy (hon) (by first | with_reducible assumption | omega) (by first | with_reducible assumption | omega) (by first | with_reducible assumption | assumption) ((hp_g k hk9).1) ((hp_g k hk9).2)) (csV_182 hts rfl rfl ⟨Nat.le_of_ble_eq_true rfl, Nat.le_of_ble_eq_true rfl⟩) (zPV2 (q0 := 0) (ci := 9) hPc hDc hK hXN rfl rfl) rfl rfl hl.1 rfl (lv_room (Nat.le_of_ble_eq_true rfl)) dX11_isLawfulTo_162 ⟨Nat.le_of_ble_eq_true rfl, Nat.le_of_ble_eq_true rfl⟩) hS hFc hFc rfl (fun t H locs ht hB hk1 hS => ?_)
                    obtain ⟨q_19, hP1, hD1⟩ := hB
                    rw [ht] at hP1
                    obtain ⟨hP, hD⟩ := zn (W2 := [_, _, _, _, _, _, (oa (a 40) cI 6 q_19), _, _, _, _, _, _, _]) hP hD hk1 hFc hP1 hD1 [0, 6, 9, 10] zl_150 zl_150 [0, 6, 9, 10] (by decide +kernel) rfl rfl rfl rfl rfl
                    clear hk1 hPc hDc hFc hP1 hD1 ht
                    refine zz_i (v := pI ((fun k => swB on ox oy b (cF40 cx g k).toInt (cF40 cy g k).toInt) k)) (rfl) ?_
                    refine lv_if_eq (tgt := 185) hx hb dX11_isLawfulTo_165 rfl (fun c_20 => ?_) (fun c_20 => ?_)
                    · have c_20 : ¬ ((fun k => swB on ox oy b (cF40 cx g k).toInt (cF40 cy g k).toInt) k) := zp_0 c_20
                      refine lv_iinc (v := nI (k + 1)) (lv' := [(5, .int (nI (k + 1))), (7, .int (cy (40 * g + k))), (6, .int (cx (40 * g + k))), (0, .ref k0), (1, .int (nI f)), (2, .int (nI g)), (3, .int 1), (4, .int (nI b))]) hx hb dX11_isLawfulTo_185 hl (k := 2) rfl (nI_add k 1) (Nat.le_of_ble_eq_true rfl) rfl (fun ls hl => ?_)
                      refine lv_goto (tgt := 62) hx hb dX11_isLawfulTo_188 rfl ?_
                      exact ih_62 (k + 1) z9 S1 q_19 P1 Q1 H locs ls (by first | with_reducible assumption | omega) (by first | with_reducible assumption | omega) (by intro j hj; rcases Nat.lt_or_ge j k with h | h; exact hall j h; obtain rfl : j = k := (by first | with_reducible assumption | omega); exact ⟨fun h5 => (by first | (exfalso; omega) | exact zp_ieq.mp (by first | with_reducible assumption | assumption)), fun h0 => (by first | (exfalso; omega) | exact id | assumption)⟩) hP hD hS (lv_sub hl [0, 3, 4, 5, 6, 7] rfl)
                    · have c_20 : (fun k => swB on ox oy b (cF40 cx g k).toInt (cF40 cy g k).toInt) k := zp_1 c_20
                      refine lv_goto (tgt := 183) hx hb dX11_isLawfulTo_168 rfl ?_
                      refine lv_iconst (v := 0) hx hb dX11_isLawfulTo_183 rfl ?_
                      obtain ⟨hP9, hD9⟩ := zu_sub (wc := [_, _, _, _, _, _, _, _, _, _, _, _, _, _]) hP hD [true, true, true, true, true, true, true, true, true, true, true, true, true, true] rfl rfl
                      rw [hQ9]
                      exact W.zret (ty := .boolean) (v := 0) hx hb hr (rfl) (fun t ht hW => ⟨⟨congrArg (fun z => Outcome.returned (some (Value.int z))) (show (0 : Int32) = pI (lawTo (ox 0) (oy 0) (kd f).toInt n (cF40 cx f) (cF40 cy f) (kd g).toInt m2 (cF40 cx g) (cF40 cy g) MT WI IN (fun k => swB on ox oy b (cF40 cx g k).toInt (cF40 cy g k).toInt)) from (zp_f (fun h => (h.2.2.1 k (by omega)).2 (by omega) (by first | with_reducible assumption | assumption))).symm), z9, S1, q_19, P1, Q1, by rw [ht]; exact hP9, hD9⟩, hS.F ht⟩) hS.2.2 dX11_isLawfulTo_184
            · have c_13 : 5 ≤ (kd f).toInt := zp_1 c_13
              refine lv_aload_n hx hb dX11_isLawfulTo_109 rfl (lv_at hl 3 rfl) ?_
              refine lv_iload_n hx hb dX11_isLawfulTo_110 rfl (lv_at hl 4 rfl) ?_
              refine lv_iload hx hb dX11_isLawfulTo_111 (lv_at hl 1 rfl) ?_
              refine lv_iload hx hb dX11_isLawfulTo_113 (lv_at hl 0 rfl) ?_
              obtain ⟨hPc, hDc, hFc⟩ := zo_sub (wc := [_, _, _, _, _, _]) hP hD hS hA [0, 1, 2, 3, 4, 5] (by decide +kernel) rfl
              refine zcall (st1 := [.int (pI (¬ (∃ i, i < eO (kd f).toInt n ∧ eOn n (cF40 cx f) (cF40 cy f) i (cx (40 * g + k)).toInt (cy (40 * g + k)).toInt) ∧ par2 (eTg n (cF40 cx f) (cF40 cy f) (cx (40 * g + k)).toInt (cy (40 * g + k)).toInt) (eO (kd f).toInt n)))]) (va_runV (As := [.int (nI f), .int (cx (40 * g + k)), .int (cy (40 * g + k))]) (rest := []) ⟨hx, hb, hml, hown, hts⟩ (k_M_isInside l dC dI cI cZ cF H.size k0 a (upd I0 31 z9) J0 f n kd mn cx cy S1 (cx (40 * g + k)) (cy (40 * g + k)) (by first | with_reducible assumption | omega) (by first | with_reducible assumption | assumption) (by first | with_reducible assumption | omega) (by first | with_reducible assumption | assumption) ((hp_g k hk9).1) ((hp_g k hk9).2)) (csV_183 hts rfl rfl ⟨Nat.le_of_ble_eq_true rfl, Nat.le_of_ble_eq_true rfl⟩) (zPV2 (q0 := 0) (ci := 9) hPc hDc hK hXN rfl rfl) rfl rfl hl.1 rfl (lv_room (Nat.le_of_ble_eq_true rfl)) dX11_isLawfulTo_115 ⟨Nat.le_of_ble_eq_true rfl, Nat.le_of_ble_eq_true rfl⟩) hS hFc hFc rfl (fun t H locs ht hB hk1 hS => ?_)
              obtain ⟨q_21, hP1, hD1⟩ := hB
              rw [ht] at hP1
              obtain ⟨hP, hD⟩ := zn (W2 := [_, _, _, _, _, (oa (a 32) cI 8 q_21), _, _, _, _, _, _, _, _]) hP hD hk1 hFc hP1 hD1 [0, 1, 2, 3, 4, 5] zl_147 zl_147 [0, 1, 2, 3, 4, 5] (by decide +kernel) rfl rfl rfl rfl rfl
              clear hk1 hPc hDc hFc hP1 hD1 ht
              refine zz_i (v := pI (inF (kd f).toInt n (cF40 cx f) (cF40 cy f) (cF40 cx g k).toInt (cF40 cy g k).toInt)) (rfl) ?_
              refine lv_aload_n hx hb dX11_isLawfulTo_118 rfl (lv_at hl 3 rfl) ?_
              refine va_get (D := (dC, dI)) (ci := 9) (v := .ref (a 39)) (C := RX11) (T := TX11) (N := 55) hx hb hts inX11 hown hK hP 0 rfl rfl 39 (Nat.le_of_ble_eq_true rfl) (hts _ mw_1198) (fun _ h9 => h9) rfl dX11_isLawfulTo_119 ?_
              refine lv_bipush (v := 40) hx hb dX11_isLawfulTo_122 rfl ?_
              refine lv_iload_n hx hb dX11_isLawfulTo_124 rfl (lv_at hl 5 rfl) ?_
              refine lv_imul hx hb dX11_isLawfulTo_125 ?_
              refine zz_i (v := nI (40 * g)) (pk_mul 40 g) ?_
              refine lv_iload hx hb dX11_isLawfulTo_126 (lv_at hl 2 rfl) ?_
              refine lv_iadd hx hb dX11_isLawfulTo_128 ?_
              refine zz_i (v := nI (40 * g + k)) (nI_add (40 * g) k) ?_
              have b9_22 : 40 * g + k < 8040 := by omega
              refine z_zald hx hb hK hP 13 1 rfl rfl (e := 40 * g + k) rfl b9_22 (Nat.le_of_ble_eq_true rfl) dX11_isLawfulTo_129 ?_
              refine zz_i (v := pI (IN k)) (hin k (by omega) (by omega)) ?_
              refine lv_icmp_eq (tgt := 135) hx hb dX11_isLawfulTo_130 rfl (fun c_23 => ?_) (fun c_23 => ?_)
              · have c_23 : (pI (inF (kd f).toInt n (cF40 cx f) (cF40 cy f) (cF40 cx g k).toInt (cF40 cy g k).toInt)).toInt = (pI (IN k)).toInt := zc_eq rfl rfl c_23
                refine lv_aload_n hx hb dX11_isLawfulTo_135 rfl (lv_at hl 3 rfl) ?_
                refine va_get (D := (dC, dI)) (ci := 9) (v := .ref (a 1)) (C := RX11) (T := TX11) (N := 55) hx hb hts inX11 hown hK hP 0 rfl rfl 1 (Nat.le_of_ble_eq_true rfl) (hts _ mw_1160) (fun _ h9 => h9) rfl dX11_isLawfulTo_136 ?_
                refine lv_iload_n hx hb dX11_isLawfulTo_139 rfl (lv_at hl 4 rfl) ?_
                have b9_24 : f < 201 := by omega
                refine z_iald hx hb hK hP 1 0 rfl rfl (e := f) rfl b9_24 (Nat.le_of_ble_eq_true rfl) dX11_isLawfulTo_140 ?_
                refine lv_if_eq (tgt := 185) hx hb dX11_isLawfulTo_141 rfl (fun c_25 => ?_) (fun c_25 => ?_)
                · have c_25 : (kd f).toInt = 0 := zc_eq rfl rfl c_25
                  refine lv_iinc (v := nI (k + 1)) (lv' := [(5, .int (nI (k + 1))), (7, .int (cy (40 * g + k))), (6, .int (cx (40 * g + k))), (0, .ref k0), (1, .int (nI f)), (2, .int (nI g)), (3, .int 1), (4, .int (nI b))]) hx hb dX11_isLawfulTo_185 hl (k := 2) rfl (nI_add k 1) (Nat.le_of_ble_eq_true rfl) rfl (fun ls hl => ?_)
                  refine lv_goto (tgt := 62) hx hb dX11_isLawfulTo_188 rfl ?_
                  exact ih_62 (k + 1) z9 q_21 T1 P1 Q1 H locs ls (by first | with_reducible assumption | omega) (by first | with_reducible assumption | omega) (by intro j hj; rcases Nat.lt_or_ge j k with h | h; exact hall j h; obtain rfl : j = k := (by first | with_reducible assumption | omega); exact ⟨fun h5 => (by first | (exfalso; omega) | exact zp_ieq.mp (by first | with_reducible assumption | assumption)), fun h0 => (by first | (exfalso; omega) | exact id | assumption)⟩) hP hD hS (lv_sub hl [0, 3, 4, 5, 6, 7] rfl)
                · have c_25 : ¬ (kd f).toInt = 0 := zc_ne rfl rfl c_25
                  refine lv_iload_n hx hb dX11_isLawfulTo_144 rfl (lv_at hl 6 rfl) ?_
                  refine lv_iconst (v := 5) hx hb dX11_isLawfulTo_145 rfl ?_
                  refine lv_icmp_eq (tgt := 185) hx hb dX11_isLawfulTo_146 rfl (fun c_26 => ?_) (fun c_26 => ?_)
                  · exact absurd c_26 (by decide)
                  · refine lv_iload hx hb dX11_isLawfulTo_149 (lv_at hl 7 rfl) ?_
                    refine lv_iconst (v := (-1)) hx hb dX11_isLawfulTo_151 rfl ?_
                    have b9_28 : zlt (b) := show b < 2147483648 by omega
                    refine lv_icmp_eq (tgt := 171) hx hb dX11_isLawfulTo_152 rfl (fun c_27 => ?_) (fun c_27 => ?_)
                    · have c_27 : ((b : Nat) : Int) = (-1) := zc_eq (nI_toInt b9_28) rfl c_27
                      exfalso; omega
                    · have c_27 : ¬ ((b : Nat) : Int) = (-1) := zc_ne (nI_toInt b9_28) rfl c_27
                      refine lv_aload_n hx hb dX11_isLawfulTo_155 rfl (lv_at hl 3 rfl) ?_
                      refine lv_iload hx hb dX11_isLawfulTo_156 (lv_at hl 7 rfl) ?_
                      refine lv_iload hx hb dX11_isLawfulTo_158 (lv_at hl 1 rfl) ?_
                      refine lv_iload hx hb dX11_isLawfulTo_160 (lv_at hl 0 rfl) ?_
                      obtain ⟨hPc, hDc, hFc⟩ := zo_sub (wc := [_, _, _, _]) hP hD hS hA [0, 6, 9, 10] (by decide +kernel) rfl
                      refine zcall (st1 := [.int (pI (swB on ox oy b (cx (40 * g + k)).toInt (cy (40 * g + k)).toInt))]) (va_runV (As := [.int (nI b), .int (cx (40 * g + k)), .int (cy (40 * g + k))]) (rest := []) ⟨hx, hb, hml, hown, hts⟩ (k_M_isSweptBy l dC dI cI cZ cF H.size k0 a (upd I0 31 z9) J0 b on (cx (40 * g + k)) (cy (40 * g + k)) T1 ox oy (hon) (by first | with_reducible assumption | omega) (by first | with_reducible assumption | omega) (by first | with_reducible assumption | assumption) ((hp_g k hk9).1) ((hp_g k hk9).2)) (csV_182 hts rfl rfl ⟨Nat.le_of_ble_eq_true rfl, Nat.le_of_ble_eq_true rfl⟩) (zPV2 (q0 := 0) (ci := 9) hPc hDc hK hXN rfl rfl) rfl rfl hl.1 rfl (lv_room (Nat.le_of_ble_eq_true rfl)) dX11_isLawfulTo_162 ⟨Nat.le_of_ble_eq_true rfl, Nat.le_of_ble_eq_true rfl⟩) hS hFc hFc rfl (fun t H locs ht hB hk1 hS => ?_)
                      obtain ⟨q_29, hP1, hD1⟩ := hB
                      rw [ht] at hP1
                      obtain ⟨hP, hD⟩ := zn (W2 := [_, _, _, _, _, _, (oa (a 40) cI 6 q_29), _, _, _, _, _, _, _]) hP hD hk1 hFc hP1 hD1 [0, 6, 9, 10] zl_150 zl_150 [0, 6, 9, 10] (by decide +kernel) rfl rfl rfl rfl rfl
                      clear hk1 hPc hDc hFc hP1 hD1 ht
                      refine zz_i (v := pI ((fun k => swB on ox oy b (cF40 cx g k).toInt (cF40 cy g k).toInt) k)) (rfl) ?_
                      refine lv_if_eq (tgt := 185) hx hb dX11_isLawfulTo_165 rfl (fun c_30 => ?_) (fun c_30 => ?_)
                      · have c_30 : ¬ ((fun k => swB on ox oy b (cF40 cx g k).toInt (cF40 cy g k).toInt) k) := zp_0 c_30
                        refine lv_iinc (v := nI (k + 1)) (lv' := [(5, .int (nI (k + 1))), (7, .int (cy (40 * g + k))), (6, .int (cx (40 * g + k))), (0, .ref k0), (1, .int (nI f)), (2, .int (nI g)), (3, .int 1), (4, .int (nI b))]) hx hb dX11_isLawfulTo_185 hl (k := 2) rfl (nI_add k 1) (Nat.le_of_ble_eq_true rfl) rfl (fun ls hl => ?_)
                        refine lv_goto (tgt := 62) hx hb dX11_isLawfulTo_188 rfl ?_
                        exact ih_62 (k + 1) z9 q_21 q_29 P1 Q1 H locs ls (by first | with_reducible assumption | omega) (by first | with_reducible assumption | omega) (by intro j hj; rcases Nat.lt_or_ge j k with h | h; exact hall j h; obtain rfl : j = k := (by first | with_reducible assumption | omega); exact ⟨fun h5 => (by first | (exfalso; omega) | exact zp_ieq.mp (by first | with_reducible assumption | assumption)), fun h0 => (by first | (exfalso; omega) | exact id | assumption)⟩) hP hD hS (lv_sub hl [0, 3, 4, 5, 6, 7] rfl)
                      · have c_30 : (fun k => swB on ox oy b (cF40 cx g k).toInt (cF40 cy g k).toInt) k := zp_1 c_30
                        refine lv_goto (tgt := 183) hx hb dX11_isLawfulTo_168 rfl ?_
                        refine lv_iconst (v := 0) hx hb dX11_isLawfulTo_183 rfl ?_
                        obtain ⟨hP9, hD9⟩ := zu_sub (wc := [_, _, _, _, _, _, _, _, _, _, _, _, _, _]) hP hD [true, true, true, true, true, true, true, true, true, true, true, true, true, true] rfl rfl
                        rw [hQ9]
                        exact W.zret (ty := .boolean) (v := 0) hx hb hr (rfl) (fun t ht hW => ⟨⟨congrArg (fun z => Outcome.returned (some (Value.int z))) (show (0 : Int32) = pI (lawTo (ox 0) (oy 0) (kd f).toInt n (cF40 cx f) (cF40 cy f) (kd g).toInt m2 (cF40 cx g) (cF40 cy g) MT WI IN (fun k => swB on ox oy b (cF40 cx g k).toInt (cF40 cy g k).toInt)) from (zp_f (fun h => (h.2.2.1 k (by omega)).2 (by omega) (by first | with_reducible assumption | assumption))).symm), z9, q_21, q_29, P1, Q1, by rw [ht]; exact hP9, hD9⟩, hS.F ht⟩) hS.2.2 dX11_isLawfulTo_184
              · have c_23 : ¬ (pI (inF (kd f).toInt n (cF40 cx f) (cF40 cy f) (cF40 cx g k).toInt (cF40 cy g k).toInt)).toInt = (pI (IN k)).toInt := zc_ne rfl rfl c_23
                refine lv_iconst (v := 0) hx hb dX11_isLawfulTo_133 rfl ?_
                obtain ⟨hP9, hD9⟩ := zu_sub (wc := [_, _, _, _, _, _, _, _, _, _, _, _, _, _]) hP hD [true, true, true, true, true, true, true, true, true, true, true, true, true, true] rfl rfl
                rw [hQ9]
                exact W.zret (ty := .boolean) (v := 0) hx hb hr (rfl) (fun t ht hW => ⟨⟨congrArg (fun z => Outcome.returned (some (Value.int z))) (show (0 : Int32) = pI (lawTo (ox 0) (oy 0) (kd f).toInt n (cF40 cx f) (cF40 cy f) (kd g).toInt m2 (cF40 cx g) (cF40 cy g) MT WI IN (fun k => swB on ox oy b (cF40 cx g k).toInt (cF40 cy g k).toInt)) from (zp_f (fun h => absurd (zp_ieq.mpr ((h.2.2.1 k (by omega)).1 (by omega))) (by first | with_reducible assumption | assumption))).symm), z9, q_21, T1, P1, Q1, by rw [ht]; exact hP9, hD9⟩, hS.F ht⟩) hS.2.2 dX11_isLawfulTo_134
      exact hl_62 _ 0 (I0 31) q_1 T0 P0 Q0 H locs ls (Nat.lt_succ_self _) (by first | with_reducible assumption | omega) (by intro j hj; omega) hP hD hS (lv_sub hl [0, 1, 2, 3, 4, 5] rfl)
    · have c_4 : 5 ≤ (kd g).toInt := zp_1 c_4
      refine lv_aload_n hx hb dX11_isLawfulTo_25 rfl (lv_at hl 0 rfl) ?_
      refine lv_iload_n hx hb dX11_isLawfulTo_26 rfl (lv_at hl 2 rfl) ?_
      refine lv_aload_n hx hb dX11_isLawfulTo_27 rfl (lv_at hl 0 rfl) ?_
      refine va_get (D := (dC, dI)) (ci := 9) (v := .ref (a 12)) (C := RX11) (T := TX11) (N := 55) hx hb hts inX11 hown hK hP 0 rfl rfl 12 (Nat.le_of_ble_eq_true rfl) (hts _ mw_1171) (fun _ h9 => h9) rfl dX11_isLawfulTo_28 ?_
      refine lv_bipush (v := 40) hx hb dX11_isLawfulTo_31 rfl ?_
      refine lv_iload_n hx hb dX11_isLawfulTo_33 rfl (lv_at hl 1 rfl) ?_
      refine lv_imul hx hb dX11_isLawfulTo_34 ?_
      refine zz_i (v := nI (40 * f)) (pk_mul 40 f) ?_
      have b9_31 : 40 * f < 8040 := by omega
      refine z_iald hx hb hK hP 3 0 rfl rfl (e := 40 * f) rfl b9_31 (Nat.le_of_ble_eq_true rfl) dX11_isLawfulTo_35 ?_
      refine lv_aload_n hx hb dX11_isLawfulTo_36 rfl (lv_at hl 0 rfl) ?_
      refine va_get (D := (dC, dI)) (ci := 9) (v := .ref (a 13)) (C := RX11) (T := TX11) (N := 55) hx hb hts inX11 hown hK hP 0 rfl rfl 13 (Nat.le_of_ble_eq_true rfl) (hts _ mw_1172) (fun _ h9 => h9) rfl dX11_isLawfulTo_37 ?_
      refine lv_bipush (v := 40) hx hb dX11_isLawfulTo_40 rfl ?_
      refine lv_iload_n hx hb dX11_isLawfulTo_42 rfl (lv_at hl 1 rfl) ?_
      refine lv_imul hx hb dX11_isLawfulTo_43 ?_
      refine zz_i (v := nI (40 * f)) (pk_mul 40 f) ?_
      refine z_iald hx hb hK hP 4 0 rfl rfl (e := 40 * f) rfl b9_31 (Nat.le_of_ble_eq_true rfl) dX11_isLawfulTo_44 ?_
      obtain ⟨hPc, hDc, hFc⟩ := zo_sub (wc := [_, _, _, _, _, _]) hP hD hS hA [0, 1, 2, 3, 4, 5] (by decide +kernel) rfl
      refine zcall (st1 := [.int (pI (¬ (∃ i, i < eO (kd g).toInt m2 ∧ eOn m2 (cF40 cx g) (cF40 cy g) i (cx (40 * f)).toInt (cy (40 * f)).toInt) ∧ par2 (eTg m2 (cF40 cx g) (cF40 cy g) (cx (40 * f)).toInt (cy (40 * f)).toInt) (eO (kd g).toInt m2)))]) (va_runV (As := [.int (nI g), .int (cx (40 * f)), .int (cy (40 * f))]) (rest := []) ⟨hx, hb, hml, hown, hts⟩ (k_M_isInside l dC dI cI cZ cF H.size k0 a I0 J0 g m2 kd mn cx cy q_1 (cx (40 * f)) (cy (40 * f)) (by first | with_reducible assumption | omega) (by first | with_reducible assumption | assumption) (by first | with_reducible assumption | omega) (by first | with_reducible assumption | assumption) ((hp_f 0 (by first | with_reducible assumption | omega)).1) ((hp_f 0 (by first | with_reducible assumption | omega)).2)) (csV_183 hts rfl rfl ⟨Nat.le_of_ble_eq_true rfl, Nat.le_of_ble_eq_true rfl⟩) (zPV2 (q0 := 0) (ci := 9) hPc hDc hK hXN rfl rfl) rfl rfl hl.1 rfl (lv_room (Nat.le_of_ble_eq_true rfl)) dX11_isLawfulTo_45 ⟨Nat.le_of_ble_eq_true rfl, Nat.le_of_ble_eq_true rfl⟩) hS hFc hFc rfl (fun t H locs ht hB hk1 hS => ?_)
      obtain ⟨q_32, hP1, hD1⟩ := hB
      rw [ht] at hP1
      obtain ⟨hP, hD⟩ := zn (W2 := [_, _, _, _, _, (oa (a 32) cI 8 q_32), _, _, _, _, _, _, _, _]) hP hD hk1 hFc hP1 hD1 [0, 1, 2, 3, 4, 5] zl_147 zl_147 [0, 1, 2, 3, 4, 5] (by decide +kernel) rfl rfl rfl rfl rfl
      clear hk1 hPc hDc hFc hP1 hD1 ht
      refine zz_i (v := pI (inF (kd g).toInt m2 (cF40 cx g) (cF40 cy g) (cF40 cx f 0).toInt (cF40 cy f 0).toInt)) (rfl) ?_
      refine lv_aload_n hx hb dX11_isLawfulTo_48 rfl (lv_at hl 0 rfl) ?_
      refine va_get (D := (dC, dI)) (ci := 9) (v := .ref (a 38)) (C := RX11) (T := TX11) (N := 55) hx hb hts inX11 hown hK hP 0 rfl rfl 38 (Nat.le_of_ble_eq_true rfl) (hts _ mw_1197) (fun _ h9 => h9) rfl dX11_isLawfulTo_49 ?_
      refine lv_iload_n hx hb dX11_isLawfulTo_52 rfl (lv_at hl 2 rfl) ?_
      refine z_zald hx hb hK hP 12 1 rfl rfl (e := g) rfl b9_2 (Nat.le_of_ble_eq_true rfl) dX11_isLawfulTo_53 ?_
      refine zz_i (v := pI WI) (hwi (by omega)) ?_
      refine lv_icmp_eq (tgt := 59) hx hb dX11_isLawfulTo_54 rfl (fun c_33 => ?_) (fun c_33 => ?_)
      · have c_33 : (pI (inF (kd g).toInt m2 (cF40 cx g) (cF40 cy g) (cF40 cx f 0).toInt (cF40 cy f 0).toInt)).toInt = (pI WI).toInt := zc_eq rfl rfl c_33
        refine lv_iconst (v := 0) hx hb dX11_isLawfulTo_59 rfl ?_
        refine lv_istore (lv' := [(5, .int 0), (0, .ref k0), (1, .int (nI f)), (2, .int (nI g)), (3, .int 1), (4, .int (nI b))]) hx hb dX11_isLawfulTo_60 hl (Nat.le_of_ble_eq_true rfl) rfl (fun ls hl => ?_)
        have hl_62 : ∀ (n9 : Nat) (k : Nat) (z9 : Int32) (S1 : Nat → Int32) (T1 : Nat → Int32) (P1 : Nat → Int32) (Q1 : Nat → Int32) (H : Heap) (locs : List Loc) (ls : Array Slot), m2 - k < n9 → (k ≤ m2) → (∀ j, j < k → (5 ≤ (kd f).toInt → (inF (kd f).toInt n (cF40 cx f) (cF40 cy f) (cF40 cx g j).toInt (cF40 cy g j).toInt ↔ IN j)) ∧ (¬ (kd f).toInt = 0 → ¬ (fun k => swB on ox oy b (cF40 cx g k).toInt (cF40 cy g k).toInt) j)) → va_P (dC, dI) classes [(om k0 a (upd I0 31 z9) J0), (oa (a 1) cI 201 kd), (oa (a 11) cI 201 mn), (oa (a 12) cI 8040 cx), (oa (a 13) cI 8040 cy), (oa (a 32) cI 8 S1), (oa (a 40) cI 6 T1), (oa (a 29) cI 42 P1), (oa (a 30) cI 42 Q1), (oa (a 33) cI 42 ox), (oa (a 34) cI 42 oy), (oa (a 37) cZ 201 mt), (oa (a 38) cZ 201 wi), (oa (a 39) cZ 8040 ins)] H → va_D A [(om k0 a (upd I0 31 z9) J0), (oa (a 1) cI 201 kd), (oa (a 11) cI 201 mn), (oa (a 12) cI 8040 cx), (oa (a 13) cI 8040 cy), (oa (a 32) cI 8 S1), (oa (a 40) cI 6 T1), (oa (a 29) cI 42 P1), (oa (a 30) cI 42 Q1), (oa (a 33) cI 42 ox), (oa (a 34) cI 42 oy), (oa (a 37) cZ 201 mt), (oa (a 38) cZ 201 wi), (oa (a 39) cZ 8040 ins)] → va_S A s.heap H locs → lv_has ls 8 [(5, .int (nI k)), (0, .ref k0), (1, .int (nI f)), (2, .int (nI g)), (3, .int 1), (4, .int (nI b))] → W p l e ({ frames := 4, cells := 0, slots := 0, locals := 108 } : Room) s m ([.ref k0, .int (nI f), .int (nI g), .int 1, .int (nI b)] : List Value).toArray below meth c H locs 0 0 Q9 (F0 m 62 ls []) := by
          intro n9
          induction n9 with
          | zero => intro k z9 S1 T1 P1 Q1 H locs ls hm; exact absurd hm (Nat.not_lt_zero _)
          | succ n9 ih_62 =>
            intro k z9 S1 T1 P1 Q1 H locs ls hm hk hall hP hD hS hl
            refine lv_iload hx hb dX11_isLawfulTo_62 (lv_at hl 0 rfl) ?_
            refine lv_aload_n hx hb dX11_isLawfulTo_64 rfl (lv_at hl 1 rfl) ?_
            refine va_get (D := (dC, dI)) (ci := 9) (v := .ref (a 11)) (C := RX11) (T := TX11) (N := 55) hx hb hts inX11 hown hK hP 0 rfl rfl 11 (Nat.le_of_ble_eq_true rfl) (hts _ mw_1170) (fun _ h9 => h9) rfl dX11_isLawfulTo_65 ?_
            refine lv_iload_n hx hb dX11_isLawfulTo_68 rfl (lv_at hl 3 rfl) ?_
            refine z_iald hx hb hK hP 2 0 rfl rfl (e := g) rfl b9_2 (Nat.le_of_ble_eq_true rfl) dX11_isLawfulTo_69 ?_
            refine zz_i (v := nI m2) (hm_g) ?_
            have b9_35 : zlt (k) := show k < 2147483648 by omega
            have b9_36 : zlt (m2) := show m2 < 2147483648 by omega
            refine lv_icmp_ge (tgt := 191) hx hb dX11_isLawfulTo_70 rfl (fun c_34 => ?_) (fun c_34 => ?_)
            · have c_34 : ((m2 : Nat) : Int) ≤ ((k : Nat) : Int) := zc_le (nI_toInt b9_36) (nI_toInt b9_35) c_34
              refine lv_aload_n hx hb dX11_isLawfulTo_191 rfl (lv_at hl 1 rfl) ?_
              refine va_get (D := (dC, dI)) (ci := 9) (v := .ref (a 1)) (C := RX11) (T := TX11) (N := 55) hx hb hts inX11 hown hK hP 0 rfl rfl 1 (Nat.le_of_ble_eq_true rfl) (hts _ mw_1160) (fun _ h9 => h9) rfl dX11_isLawfulTo_192 ?_
              refine lv_iload_n hx hb dX11_isLawfulTo_195 rfl (lv_at hl 2 rfl) ?_
              have b9_37 : f < 201 := by omega
              refine z_iald hx hb hK hP 1 0 rfl rfl (e := f) rfl b9_37 (Nat.le_of_ble_eq_true rfl) dX11_isLawfulTo_196 ?_
              refine lv_if_ne (tgt := 209) hx hb dX11_isLawfulTo_197 rfl (fun c_38 => ?_) (fun c_38 => ?_)
              · have c_38 : ¬ (kd f).toInt = 0 := zc_ne rfl rfl c_38
                refine lv_iconst (v := 1) hx hb dX11_isLawfulTo_209 rfl ?_
                refine lv_goto (tgt := 214) hx hb dX11_isLawfulTo_210 rfl ?_
                obtain ⟨hP9, hD9⟩ := zu_sub (wc := [_, _, _, _, _, _, _, _, _, _, _, _, _, _]) hP hD [true, true, true, true, true, true, true, true, true, true, true, true, true, true] rfl rfl
                rw [hQ9]
                exact W.zret (ty := .boolean) (v := 1) hx hb hr (rfl) (fun t ht hW => ⟨⟨congrArg (fun z => Outcome.returned (some (Value.int z))) (show (1 : Int32) = pI (lawTo (ox 0) (oy 0) (kd f).toInt n (cF40 cx f) (cF40 cy f) (kd g).toInt m2 (cF40 cx g) (cF40 cy g) MT WI IN (fun k => swB on ox oy b (cF40 cx g k).toInt (cF40 cy g k).toInt)) from (zp_t (by first | exact ⟨zp_ieq.mp (by first | with_reducible assumption | assumption), fun h => (by first | (exfalso; omega) | exact zp_ieq.mp (by first | with_reducible assumption | assumption)), fun j hj => hall j (by omega), fun h => (by first | (exfalso; omega) | assumption)⟩ | exact fun h => absurd (h.2.2.2 (by omega)) (by first | with_reducible assumption | assumption))).symm), z9, S1, T1, P1, Q1, by rw [ht]; exact hP9, hD9⟩, hS.F ht⟩) hS.2.2 dX11_isLawfulTo_214
              · have c_38 : (kd f).toInt = 0 := zc_eq rfl rfl c_38
                refine lv_aload_n hx hb dX11_isLawfulTo_200 rfl (lv_at hl 1 rfl) ?_
                refine lv_iload_n hx hb dX11_isLawfulTo_201 rfl (lv_at hl 2 rfl) ?_
                refine lv_iload_n hx hb dX11_isLawfulTo_202 rfl (lv_at hl 3 rfl) ?_
                obtain ⟨hPc, hDc, hFc⟩ := zo_sub (wc := [_, _, _, _, _, _, _, _]) hP hD hS hA [0, 1, 2, 3, 4, 5, 9, 10] (by decide +kernel) rfl
                refine zcall (st1 := [.int (pI (∀ k, k < eO (kd g).toInt m2 → fWy (ox 0).toInt (oy 0).toInt (cx (40 * f)).toInt (cy (40 * f)).toInt m2 (cF40 cx g) (cF40 cy g) k))]) (va_runV (As := [.int (nI f), .int (nI g)]) (rest := []) ⟨hx, hb, hml, hown, hts⟩ (k_M_isFreeWay l dC dI cI cZ cF H.size k0 a (upd I0 31 z9) J0 f g m2 kd mn cx cy S1 ox oy (by first | with_reducible assumption | omega) ((hpo 0 (by first | with_reducible assumption | omega)).1) ((hpo 0 (by first | with_reducible assumption | omega)).2) ((hp_f 0 (by first | with_reducible assumption | omega)).1) ((hp_f 0 (by first | with_reducible assumption | omega)).2) (by first | with_reducible assumption | omega) (by first | with_reducible assumption | assumption) (by first | with_reducible assumption | omega) (by first | with_reducible assumption | assumption)) (csV_181 hts rfl rfl ⟨Nat.le_of_ble_eq_true rfl, Nat.le_of_ble_eq_true rfl⟩) (zPV2 (q0 := 0) (ci := 9) hPc hDc hK hXN rfl rfl) rfl rfl hl.1 rfl (lv_room (Nat.le_of_ble_eq_true rfl)) dX11_isLawfulTo_203 ⟨Nat.le_of_ble_eq_true rfl, Nat.le_of_ble_eq_true rfl⟩) hS hFc hFc rfl (fun t H locs ht hB hk1 hS => ?_)
                obtain ⟨q_39, hP1, hD1⟩ := hB
                rw [ht] at hP1
                obtain ⟨hP, hD⟩ := zn (W2 := [_, _, _, _, _, (oa (a 32) cI 8 q_39), _, _, _, _, _, _, _, _]) hP hD hk1 hFc hP1 hD1 zl_148 zl_149 zl_149 zl_148 (by decide +kernel) rfl rfl rfl rfl rfl
                clear hk1 hPc hDc hFc hP1 hD1 ht
                refine zz_i (v := pI (∀ k, k < eO (kd g).toInt m2 → fWy (ox 0).toInt (oy 0).toInt (cF40 cx f 0).toInt (cF40 cy f 0).toInt m2 (cF40 cx g) (cF40 cy g) k)) (rfl) ?_
                refine lv_if_eq (tgt := 213) hx hb dX11_isLawfulTo_206 rfl (fun c_40 => ?_) (fun c_40 => ?_)
                · have c_40 : ¬ (∀ k, k < eO (kd g).toInt m2 → fWy (ox 0).toInt (oy 0).toInt (cF40 cx f 0).toInt (cF40 cy f 0).toInt m2 (cF40 cx g) (cF40 cy g) k) := zp_0 c_40
                  refine lv_iconst (v := 0) hx hb dX11_isLawfulTo_213 rfl ?_
                  obtain ⟨hP9, hD9⟩ := zu_sub (wc := [_, _, _, _, _, _, _, _, _, _, _, _, _, _]) hP hD [true, true, true, true, true, true, true, true, true, true, true, true, true, true] rfl rfl
                  rw [hQ9]
                  exact W.zret (ty := .boolean) (v := 0) hx hb hr (rfl) (fun t ht hW => ⟨⟨congrArg (fun z => Outcome.returned (some (Value.int z))) (show (0 : Int32) = pI (lawTo (ox 0) (oy 0) (kd f).toInt n (cF40 cx f) (cF40 cy f) (kd g).toInt m2 (cF40 cx g) (cF40 cy g) MT WI IN (fun k => swB on ox oy b (cF40 cx g k).toInt (cF40 cy g k).toInt)) from (zp_f (by first | exact ⟨zp_ieq.mp (by first | with_reducible assumption | assumption), fun h => (by first | (exfalso; omega) | exact zp_ieq.mp (by first | with_reducible assumption | assumption)), fun j hj => hall j (by omega), fun h => (by first | (exfalso; omega) | assumption)⟩ | exact fun h => absurd (h.2.2.2 (by omega)) (by first | with_reducible assumption | assumption))).symm), z9, q_39, T1, P1, Q1, by rw [ht]; exact hP9, hD9⟩, hS.F ht⟩) hS.2.2 dX11_isLawfulTo_214
                · have c_40 : ∀ k, k < eO (kd g).toInt m2 → fWy (ox 0).toInt (oy 0).toInt (cF40 cx f 0).toInt (cF40 cy f 0).toInt m2 (cF40 cx g) (cF40 cy g) k := zp_1 c_40
                  refine lv_iconst (v := 1) hx hb dX11_isLawfulTo_209 rfl ?_
                  refine lv_goto (tgt := 214) hx hb dX11_isLawfulTo_210 rfl ?_
                  obtain ⟨hP9, hD9⟩ := zu_sub (wc := [_, _, _, _, _, _, _, _, _, _, _, _, _, _]) hP hD [true, true, true, true, true, true, true, true, true, true, true, true, true, true] rfl rfl
                  rw [hQ9]
                  exact W.zret (ty := .boolean) (v := 1) hx hb hr (rfl) (fun t ht hW => ⟨⟨congrArg (fun z => Outcome.returned (some (Value.int z))) (show (1 : Int32) = pI (lawTo (ox 0) (oy 0) (kd f).toInt n (cF40 cx f) (cF40 cy f) (kd g).toInt m2 (cF40 cx g) (cF40 cy g) MT WI IN (fun k => swB on ox oy b (cF40 cx g k).toInt (cF40 cy g k).toInt)) from (zp_t (by first | exact ⟨zp_ieq.mp (by first | with_reducible assumption | assumption), fun h => (by first | (exfalso; omega) | exact zp_ieq.mp (by first | with_reducible assumption | assumption)), fun j hj => hall j (by omega), fun h => (by first | (exfalso; omega) | assumption)⟩ | exact fun h => absurd (h.2.2.2 (by omega)) (by first | with_reducible assumption | assumption))).symm), z9, q_39, T1, P1, Q1, by rw [ht]; exact hP9, hD9⟩, hS.F ht⟩) hS.2.2 dX11_isLawfulTo_214
            · have c_34 : ((k : Nat) : Int) < ((m2 : Nat) : Int) := zc_nle (nI_toInt b9_36) (nI_toInt b9_35) c_34
              have hk9 : k < m2 := (by omega)
              refine lv_aload_n hx hb dX11_isLawfulTo_73 rfl (lv_at hl 1 rfl) ?_
              refine va_get (D := (dC, dI)) (ci := 9) (v := .ref (a 12)) (C := RX11) (T := TX11) (N := 55) hx hb hts inX11 hown hK hP 0 rfl rfl 12 (Nat.le_of_ble_eq_true rfl) (hts _ mw_1171) (fun _ h9 => h9) rfl dX11_isLawfulTo_74 ?_
              refine lv_bipush (v := 40) hx hb dX11_isLawfulTo_77 rfl ?_
              refine lv_iload_n hx hb dX11_isLawfulTo_79 rfl (lv_at hl 3 rfl) ?_
              refine lv_imul hx hb dX11_isLawfulTo_80 ?_
              refine zz_i (v := nI (40 * g)) (pk_mul 40 g) ?_
              refine lv_iload hx hb dX11_isLawfulTo_81 (lv_at hl 0 rfl) ?_
              refine lv_iadd hx hb dX11_isLawfulTo_83 ?_
              refine zz_i (v := nI (40 * g + k)) (nI_add (40 * g) k) ?_
              have b9_41 : 40 * g + k < 8040 := by omega
              refine z_iald hx hb hK hP 3 0 rfl rfl (e := 40 * g + k) rfl b9_41 (Nat.le_of_ble_eq_true rfl) dX11_isLawfulTo_84 ?_
              refine lv_istore (lv' := [(6, .int (cx (40 * g + k))), (5, .int (nI k)), (0, .ref k0), (1, .int (nI f)), (2, .int (nI g)), (3, .int 1), (4, .int (nI b))]) hx hb dX11_isLawfulTo_85 hl (Nat.le_of_ble_eq_true rfl) rfl (fun ls hl => ?_)
              refine lv_aload_n hx hb dX11_isLawfulTo_87 rfl (lv_at hl 2 rfl) ?_
              refine va_get (D := (dC, dI)) (ci := 9) (v := .ref (a 13)) (C := RX11) (T := TX11) (N := 55) hx hb hts inX11 hown hK hP 0 rfl rfl 13 (Nat.le_of_ble_eq_true rfl) (hts _ mw_1172) (fun _ h9 => h9) rfl dX11_isLawfulTo_88 ?_
              refine lv_bipush (v := 40) hx hb dX11_isLawfulTo_91 rfl ?_
              refine lv_iload_n hx hb dX11_isLawfulTo_93 rfl (lv_at hl 4 rfl) ?_
              refine lv_imul hx hb dX11_isLawfulTo_94 ?_
              refine zz_i (v := nI (40 * g)) (pk_mul 40 g) ?_
              refine lv_iload hx hb dX11_isLawfulTo_95 (lv_at hl 1 rfl) ?_
              refine lv_iadd hx hb dX11_isLawfulTo_97 ?_
              refine zz_i (v := nI (40 * g + k)) (nI_add (40 * g) k) ?_
              refine z_iald hx hb hK hP 4 0 rfl rfl (e := 40 * g + k) rfl b9_41 (Nat.le_of_ble_eq_true rfl) dX11_isLawfulTo_98 ?_
              refine lv_istore (lv' := [(7, .int (cy (40 * g + k))), (6, .int (cx (40 * g + k))), (5, .int (nI k)), (0, .ref k0), (1, .int (nI f)), (2, .int (nI g)), (3, .int 1), (4, .int (nI b))]) hx hb dX11_isLawfulTo_99 hl (Nat.le_of_ble_eq_true rfl) rfl (fun ls hl => ?_)
              refine lv_aload_n hx hb dX11_isLawfulTo_101 rfl (lv_at hl 3 rfl) ?_
              refine lv_iload_n hx hb dX11_isLawfulTo_102 rfl (lv_at hl 4 rfl) ?_
              obtain ⟨hPc, hDc, hFc, hI1⟩ := zi_sub (wc := [_, _]) hP hD hS hA [0, 1] rfl rfl
              refine zcall (st1 := [.int (pI (5 ≤ (kd f).toInt))]) (va_runV (As := [.int (nI f)]) (rest := []) ⟨hx, hb, hml, hown, hts⟩ (k_M_isRing l dC dI cI cZ cF H.size k0 a (upd I0 31 z9) J0 f kd (by first | with_reducible assumption | omega)) (csV_165 hts rfl rfl ⟨Nat.le_of_ble_eq_true rfl, Nat.le_of_ble_eq_true rfl⟩) (zPV2 (q0 := 0) (ci := 9) hPc hDc hK hXN rfl rfl) rfl rfl hl.1 rfl (lv_room (Nat.le_of_ble_eq_true rfl)) dX11_isLawfulTo_103 ⟨Nat.le_of_ble_eq_true rfl, Nat.le_of_ble_eq_true rfl⟩) hS hFc hFc rfl (fun t H locs ht hB hk1 hS => ?_)
              obtain ⟨hP1, hD1⟩ := hB
              rw [ht] at hP1
              replace hP := z0 hP hD hk1 hP1 hI1
              clear hk1 hPc hDc hFc hP1 hD1 ht hI1
              refine lv_if_eq (tgt := 135) hx hb dX11_isLawfulTo_106 rfl (fun c_42 => ?_) (fun c_42 => ?_)
              · have c_42 : ¬ (5 ≤ (kd f).toInt) := zp_0 c_42
                refine lv_aload_n hx hb dX11_isLawfulTo_135 rfl (lv_at hl 3 rfl) ?_
                refine va_get (D := (dC, dI)) (ci := 9) (v := .ref (a 1)) (C := RX11) (T := TX11) (N := 55) hx hb hts inX11 hown hK hP 0 rfl rfl 1 (Nat.le_of_ble_eq_true rfl) (hts _ mw_1160) (fun _ h9 => h9) rfl dX11_isLawfulTo_136 ?_
                refine lv_iload_n hx hb dX11_isLawfulTo_139 rfl (lv_at hl 4 rfl) ?_
                have b9_43 : f < 201 := by omega
                refine z_iald hx hb hK hP 1 0 rfl rfl (e := f) rfl b9_43 (Nat.le_of_ble_eq_true rfl) dX11_isLawfulTo_140 ?_
                refine lv_if_eq (tgt := 185) hx hb dX11_isLawfulTo_141 rfl (fun c_44 => ?_) (fun c_44 => ?_)
                · have c_44 : (kd f).toInt = 0 := zc_eq rfl rfl c_44
                  refine lv_iinc (v := nI (k + 1)) (lv' := [(5, .int (nI (k + 1))), (7, .int (cy (40 * g + k))), (6, .int (cx (40 * g + k))), (0, .ref k0), (1, .int (nI f)), (2, .int (nI g)), (3, .int 1), (4, .int (nI b))]) hx hb dX11_isLawfulTo_185 hl (k := 2) rfl (nI_add k 1) (Nat.le_of_ble_eq_true rfl) rfl (fun ls hl => ?_)
                  refine lv_goto (tgt := 62) hx hb dX11_isLawfulTo_188 rfl ?_
                  exact ih_62 (k + 1) z9 S1 T1 P1 Q1 H locs ls (by first | with_reducible assumption | omega) (by first | with_reducible assumption | omega) (by intro j hj; rcases Nat.lt_or_ge j k with h | h; exact hall j h; obtain rfl : j = k := (by first | with_reducible assumption | omega); exact ⟨fun h5 => (by first | (exfalso; omega) | exact zp_ieq.mp (by first | with_reducible assumption | assumption)), fun h0 => (by first | (exfalso; omega) | exact id | assumption)⟩) hP hD hS (lv_sub hl [0, 3, 4, 5, 6, 7] rfl)
                · have c_44 : ¬ (kd f).toInt = 0 := zc_ne rfl rfl c_44
                  refine lv_iload_n hx hb dX11_isLawfulTo_144 rfl (lv_at hl 6 rfl) ?_
                  refine lv_iconst (v := 5) hx hb dX11_isLawfulTo_145 rfl ?_
                  refine lv_icmp_eq (tgt := 185) hx hb dX11_isLawfulTo_146 rfl (fun c_45 => ?_) (fun c_45 => ?_)
                  · exact absurd c_45 (by decide)
                  · refine lv_iload hx hb dX11_isLawfulTo_149 (lv_at hl 7 rfl) ?_
                    refine lv_iconst (v := (-1)) hx hb dX11_isLawfulTo_151 rfl ?_
                    have b9_47 : zlt (b) := show b < 2147483648 by omega
                    refine lv_icmp_eq (tgt := 171) hx hb dX11_isLawfulTo_152 rfl (fun c_46 => ?_) (fun c_46 => ?_)
                    · have c_46 : ((b : Nat) : Int) = (-1) := zc_eq (nI_toInt b9_47) rfl c_46
                      exfalso; omega
                    · have c_46 : ¬ ((b : Nat) : Int) = (-1) := zc_ne (nI_toInt b9_47) rfl c_46
                      refine lv_aload_n hx hb dX11_isLawfulTo_155 rfl (lv_at hl 3 rfl) ?_
                      refine lv_iload hx hb dX11_isLawfulTo_156 (lv_at hl 7 rfl) ?_
                      refine lv_iload hx hb dX11_isLawfulTo_158 (lv_at hl 1 rfl) ?_
                      refine lv_iload hx hb dX11_isLawfulTo_160 (lv_at hl 0 rfl) ?_
                      obtain ⟨hPc, hDc, hFc⟩ := zo_sub (wc := [_, _, _, _]) hP hD hS hA [0, 6, 9, 10] (by decide +kernel) rfl
                      refine zcall (st1 := [.int (pI (swB on ox oy b (cx (40 * g + k)).toInt (cy (40 * g + k)).toInt))]) (va_runV (As := [.int (nI b), .int (cx (40 * g + k)), .int (cy (40 * g + k))]) (rest := []) ⟨hx, hb, hml, hown, hts⟩ (k_M_isSweptBy l dC dI cI cZ cF H.size k0 a (upd I0 31 z9) J0 b on (cx (40 * g + k)) (cy (40 * g + k)) T1 ox oy (hon) (by first | with_reducible assumption | omega) (by first | with_reducible assumption | omega) (by first | with_reducible assumption | assumption) ((hp_g k hk9).1) ((hp_g k hk9).2)) (csV_182 hts rfl rfl ⟨Nat.le_of_ble_eq_true rfl, Nat.le_of_ble_eq_true rfl⟩) (zPV2 (q0 := 0) (ci := 9) hPc hDc hK hXN rfl rfl) rfl rfl hl.1 rfl (lv_room (Nat.le_of_ble_eq_true rfl)) dX11_isLawfulTo_162 ⟨Nat.le_of_ble_eq_true rfl, Nat.le_of_ble_eq_true rfl⟩) hS hFc hFc rfl (fun t H locs ht hB hk1 hS => ?_)
                      obtain ⟨q_48, hP1, hD1⟩ := hB
                      rw [ht] at hP1
                      obtain ⟨hP, hD⟩ := zn (W2 := [_, _, _, _, _, _, (oa (a 40) cI 6 q_48), _, _, _, _, _, _, _]) hP hD hk1 hFc hP1 hD1 [0, 6, 9, 10] zl_150 zl_150 [0, 6, 9, 10] (by decide +kernel) rfl rfl rfl rfl rfl
                      clear hk1 hPc hDc hFc hP1 hD1 ht
                      refine zz_i (v := pI ((fun k => swB on ox oy b (cF40 cx g k).toInt (cF40 cy g k).toInt) k)) (rfl) ?_
                      refine lv_if_eq (tgt := 185) hx hb dX11_isLawfulTo_165 rfl (fun c_49 => ?_) (fun c_49 => ?_)
                      · have c_49 : ¬ ((fun k => swB on ox oy b (cF40 cx g k).toInt (cF40 cy g k).toInt) k) := zp_0 c_49
                        refine lv_iinc (v := nI (k + 1)) (lv' := [(5, .int (nI (k + 1))), (7, .int (cy (40 * g + k))), (6, .int (cx (40 * g + k))), (0, .ref k0), (1, .int (nI f)), (2, .int (nI g)), (3, .int 1), (4, .int (nI b))]) hx hb dX11_isLawfulTo_185 hl (k := 2) rfl (nI_add k 1) (Nat.le_of_ble_eq_true rfl) rfl (fun ls hl => ?_)
                        refine lv_goto (tgt := 62) hx hb dX11_isLawfulTo_188 rfl ?_
                        exact ih_62 (k + 1) z9 S1 q_48 P1 Q1 H locs ls (by first | with_reducible assumption | omega) (by first | with_reducible assumption | omega) (by intro j hj; rcases Nat.lt_or_ge j k with h | h; exact hall j h; obtain rfl : j = k := (by first | with_reducible assumption | omega); exact ⟨fun h5 => (by first | (exfalso; omega) | exact zp_ieq.mp (by first | with_reducible assumption | assumption)), fun h0 => (by first | (exfalso; omega) | exact id | assumption)⟩) hP hD hS (lv_sub hl [0, 3, 4, 5, 6, 7] rfl)
                      · have c_49 : (fun k => swB on ox oy b (cF40 cx g k).toInt (cF40 cy g k).toInt) k := zp_1 c_49
                        refine lv_goto (tgt := 183) hx hb dX11_isLawfulTo_168 rfl ?_
                        refine lv_iconst (v := 0) hx hb dX11_isLawfulTo_183 rfl ?_
                        obtain ⟨hP9, hD9⟩ := zu_sub (wc := [_, _, _, _, _, _, _, _, _, _, _, _, _, _]) hP hD [true, true, true, true, true, true, true, true, true, true, true, true, true, true] rfl rfl
                        rw [hQ9]
                        exact W.zret (ty := .boolean) (v := 0) hx hb hr (rfl) (fun t ht hW => ⟨⟨congrArg (fun z => Outcome.returned (some (Value.int z))) (show (0 : Int32) = pI (lawTo (ox 0) (oy 0) (kd f).toInt n (cF40 cx f) (cF40 cy f) (kd g).toInt m2 (cF40 cx g) (cF40 cy g) MT WI IN (fun k => swB on ox oy b (cF40 cx g k).toInt (cF40 cy g k).toInt)) from (zp_f (fun h => (h.2.2.1 k (by omega)).2 (by omega) (by first | with_reducible assumption | assumption))).symm), z9, S1, q_48, P1, Q1, by rw [ht]; exact hP9, hD9⟩, hS.F ht⟩) hS.2.2 dX11_isLawfulTo_184
              · have c_42 : 5 ≤ (kd f).toInt := zp_1 c_42
                refine lv_aload_n hx hb dX11_isLawfulTo_109 rfl (lv_at hl 3 rfl) ?_
                refine lv_iload_n hx hb dX11_isLawfulTo_110 rfl (lv_at hl 4 rfl) ?_
                refine lv_iload hx hb dX11_isLawfulTo_111 (lv_at hl 1 rfl) ?_
                refine lv_iload hx hb dX11_isLawfulTo_113 (lv_at hl 0 rfl) ?_
                obtain ⟨hPc, hDc, hFc⟩ := zo_sub (wc := [_, _, _, _, _, _]) hP hD hS hA [0, 1, 2, 3, 4, 5] (by decide +kernel) rfl
                refine zcall (st1 := [.int (pI (¬ (∃ i, i < eO (kd f).toInt n ∧ eOn n (cF40 cx f) (cF40 cy f) i (cx (40 * g + k)).toInt (cy (40 * g + k)).toInt) ∧ par2 (eTg n (cF40 cx f) (cF40 cy f) (cx (40 * g + k)).toInt (cy (40 * g + k)).toInt) (eO (kd f).toInt n)))]) (va_runV (As := [.int (nI f), .int (cx (40 * g + k)), .int (cy (40 * g + k))]) (rest := []) ⟨hx, hb, hml, hown, hts⟩ (k_M_isInside l dC dI cI cZ cF H.size k0 a (upd I0 31 z9) J0 f n kd mn cx cy S1 (cx (40 * g + k)) (cy (40 * g + k)) (by first | with_reducible assumption | omega) (by first | with_reducible assumption | assumption) (by first | with_reducible assumption | omega) (by first | with_reducible assumption | assumption) ((hp_g k hk9).1) ((hp_g k hk9).2)) (csV_183 hts rfl rfl ⟨Nat.le_of_ble_eq_true rfl, Nat.le_of_ble_eq_true rfl⟩) (zPV2 (q0 := 0) (ci := 9) hPc hDc hK hXN rfl rfl) rfl rfl hl.1 rfl (lv_room (Nat.le_of_ble_eq_true rfl)) dX11_isLawfulTo_115 ⟨Nat.le_of_ble_eq_true rfl, Nat.le_of_ble_eq_true rfl⟩) hS hFc hFc rfl (fun t H locs ht hB hk1 hS => ?_)
                obtain ⟨q_50, hP1, hD1⟩ := hB
                rw [ht] at hP1
                obtain ⟨hP, hD⟩ := zn (W2 := [_, _, _, _, _, (oa (a 32) cI 8 q_50), _, _, _, _, _, _, _, _]) hP hD hk1 hFc hP1 hD1 [0, 1, 2, 3, 4, 5] zl_147 zl_147 [0, 1, 2, 3, 4, 5] (by decide +kernel) rfl rfl rfl rfl rfl
                clear hk1 hPc hDc hFc hP1 hD1 ht
                refine zz_i (v := pI (inF (kd f).toInt n (cF40 cx f) (cF40 cy f) (cF40 cx g k).toInt (cF40 cy g k).toInt)) (rfl) ?_
                refine lv_aload_n hx hb dX11_isLawfulTo_118 rfl (lv_at hl 3 rfl) ?_
                refine va_get (D := (dC, dI)) (ci := 9) (v := .ref (a 39)) (C := RX11) (T := TX11) (N := 55) hx hb hts inX11 hown hK hP 0 rfl rfl 39 (Nat.le_of_ble_eq_true rfl) (hts _ mw_1198) (fun _ h9 => h9) rfl dX11_isLawfulTo_119 ?_
                refine lv_bipush (v := 40) hx hb dX11_isLawfulTo_122 rfl ?_
                refine lv_iload_n hx hb dX11_isLawfulTo_124 rfl (lv_at hl 5 rfl) ?_
                refine lv_imul hx hb dX11_isLawfulTo_125 ?_
                refine zz_i (v := nI (40 * g)) (pk_mul 40 g) ?_
                refine lv_iload hx hb dX11_isLawfulTo_126 (lv_at hl 2 rfl) ?_
                refine lv_iadd hx hb dX11_isLawfulTo_128 ?_
                refine zz_i (v := nI (40 * g + k)) (nI_add (40 * g) k) ?_
                have b9_51 : 40 * g + k < 8040 := by omega
                refine z_zald hx hb hK hP 13 1 rfl rfl (e := 40 * g + k) rfl b9_51 (Nat.le_of_ble_eq_true rfl) dX11_isLawfulTo_129 ?_
                refine zz_i (v := pI (IN k)) (hin k (by omega) (by omega)) ?_
                refine lv_icmp_eq (tgt := 135) hx hb dX11_isLawfulTo_130 rfl (fun c_52 => ?_) (fun c_52 => ?_)
                · have c_52 : (pI (inF (kd f).toInt n (cF40 cx f) (cF40 cy f) (cF40 cx g k).toInt (cF40 cy g k).toInt)).toInt = (pI (IN k)).toInt := zc_eq rfl rfl c_52
                  refine lv_aload_n hx hb dX11_isLawfulTo_135 rfl (lv_at hl 3 rfl) ?_
                  refine va_get (D := (dC, dI)) (ci := 9) (v := .ref (a 1)) (C := RX11) (T := TX11) (N := 55) hx hb hts inX11 hown hK hP 0 rfl rfl 1 (Nat.le_of_ble_eq_true rfl) (hts _ mw_1160) (fun _ h9 => h9) rfl dX11_isLawfulTo_136 ?_
                  refine lv_iload_n hx hb dX11_isLawfulTo_139 rfl (lv_at hl 4 rfl) ?_
                  have b9_53 : f < 201 := by omega
                  refine z_iald hx hb hK hP 1 0 rfl rfl (e := f) rfl b9_53 (Nat.le_of_ble_eq_true rfl) dX11_isLawfulTo_140 ?_
                  refine lv_if_eq (tgt := 185) hx hb dX11_isLawfulTo_141 rfl (fun c_54 => ?_) (fun c_54 => ?_)
                  · have c_54 : (kd f).toInt = 0 := zc_eq rfl rfl c_54
                    refine lv_iinc (v := nI (k + 1)) (lv' := [(5, .int (nI (k + 1))), (7, .int (cy (40 * g + k))), (6, .int (cx (40 * g + k))), (0, .ref k0), (1, .int (nI f)), (2, .int (nI g)), (3, .int 1), (4, .int (nI b))]) hx hb dX11_isLawfulTo_185 hl (k := 2) rfl (nI_add k 1) (Nat.le_of_ble_eq_true rfl) rfl (fun ls hl => ?_)
                    refine lv_goto (tgt := 62) hx hb dX11_isLawfulTo_188 rfl ?_
                    exact ih_62 (k + 1) z9 q_50 T1 P1 Q1 H locs ls (by first | with_reducible assumption | omega) (by first | with_reducible assumption | omega) (by intro j hj; rcases Nat.lt_or_ge j k with h | h; exact hall j h; obtain rfl : j = k := (by first | with_reducible assumption | omega); exact ⟨fun h5 => (by first | (exfalso; omega) | exact zp_ieq.mp (by first | with_reducible assumption | assumption)), fun h0 => (by first | (exfalso; omega) | exact id | assumption)⟩) hP hD hS (lv_sub hl [0, 3, 4, 5, 6, 7] rfl)
                  · have c_54 : ¬ (kd f).toInt = 0 := zc_ne rfl rfl c_54
                    refine lv_iload_n hx hb dX11_isLawfulTo_144 rfl (lv_at hl 6 rfl) ?_
                    refine lv_iconst (v := 5) hx hb dX11_isLawfulTo_145 rfl ?_
                    refine lv_icmp_eq (tgt := 185) hx hb dX11_isLawfulTo_146 rfl (fun c_55 => ?_) (fun c_55 => ?_)
                    · exact absurd c_55 (by decide)
                    · refine lv_iload hx hb dX11_isLawfulTo_149 (lv_at hl 7 rfl) ?_
                      refine lv_iconst (v := (-1)) hx hb dX11_isLawfulTo_151 rfl ?_
                      have b9_57 : zlt (b) := show b < 2147483648 by omega
                      refine lv_icmp_eq (tgt := 171) hx hb dX11_isLawfulTo_152 rfl (fun c_56 => ?_) (fun c_56 => ?_)
                      · have c_56 : ((b : Nat) : Int) = (-1) := zc_eq (nI_toInt b9_57) rfl c_56
                        exfalso; omega
                      · have c_56 : ¬ ((b : Nat) : Int) = (-1) := zc_ne (nI_toInt b9_57) rfl c_56
                        refine lv_aload_n hx hb dX11_isLawfulTo_155 rfl (lv_at hl 3 rfl) ?_
                        refine lv_iload hx hb dX11_isLawfulTo_156 (lv_at hl 7 rfl) ?_
                        refine lv_iload hx hb dX11_isLawfulTo_158 (lv_at hl 1 rfl) ?_
                        refine lv_iload hx hb dX11_isLawfulTo_160 (lv_at hl 0 rfl) ?_
                        obtain ⟨hPc, hDc, hFc⟩ := zo_sub (wc := [_, _, _, _]) hP hD hS hA [0, 6, 9, 10] (by decide +kernel) rfl
                        refine zcall (st1 := [.int (pI (swB on ox oy b (cx (40 * g + k)).toInt (cy (40 * g + k)).toInt))]) (va_runV (As := [.int (nI b), .int (cx (40 * g + k)), .int (cy (40 * g + k))]) (rest := []) ⟨hx, hb, hml, hown, hts⟩ (k_M_isSweptBy l dC dI cI cZ cF H.size k0 a (upd I0 31 z9) J0 b on (cx (40 * g + k)) (cy (40 * g + k)) T1 ox oy (hon) (by first | with_reducible assumption | omega) (by first | with_reducible assumption | omega) (by first | with_reducible assumption | assumption) ((hp_g k hk9).1) ((hp_g k hk9).2)) (csV_182 hts rfl rfl ⟨Nat.le_of_ble_eq_true rfl, Nat.le_of_ble_eq_true rfl⟩) (zPV2 (q0 := 0) (ci := 9) hPc hDc hK hXN rfl rfl) rfl rfl hl.1 rfl (lv_room (Nat.le_of_ble_eq_true rfl)) dX11_isLawfulTo_162 ⟨Nat.le_of_ble_eq_true rfl, Nat.le_of_ble_eq_true rfl⟩) hS hFc hFc rfl (fun t H locs ht hB hk1 hS => ?_)
                        obtain ⟨q_58, hP1, hD1⟩ := hB
                        rw [ht] at hP1
                        obtain ⟨hP, hD⟩ := zn (W2 := [_, _, _, _, _, _, (oa (a 40) cI 6 q_58), _, _, _, _, _, _, _]) hP hD hk1 hFc hP1 hD1 [0, 6, 9, 10] zl_150 zl_150 [0, 6, 9, 10] (by decide +kernel) rfl rfl rfl rfl rfl
                        clear hk1 hPc hDc hFc hP1 hD1 ht
                        refine zz_i (v := pI ((fun k => swB on ox oy b (cF40 cx g k).toInt (cF40 cy g k).toInt) k)) (rfl) ?_
                        refine lv_if_eq (tgt := 185) hx hb dX11_isLawfulTo_165 rfl (fun c_59 => ?_) (fun c_59 => ?_)
                        · have c_59 : ¬ ((fun k => swB on ox oy b (cF40 cx g k).toInt (cF40 cy g k).toInt) k) := zp_0 c_59
                          refine lv_iinc (v := nI (k + 1)) (lv' := [(5, .int (nI (k + 1))), (7, .int (cy (40 * g + k))), (6, .int (cx (40 * g + k))), (0, .ref k0), (1, .int (nI f)), (2, .int (nI g)), (3, .int 1), (4, .int (nI b))]) hx hb dX11_isLawfulTo_185 hl (k := 2) rfl (nI_add k 1) (Nat.le_of_ble_eq_true rfl) rfl (fun ls hl => ?_)
                          refine lv_goto (tgt := 62) hx hb dX11_isLawfulTo_188 rfl ?_
                          exact ih_62 (k + 1) z9 q_50 q_58 P1 Q1 H locs ls (by first | with_reducible assumption | omega) (by first | with_reducible assumption | omega) (by intro j hj; rcases Nat.lt_or_ge j k with h | h; exact hall j h; obtain rfl : j = k := (by first | with_reducible assumption | omega); exact ⟨fun h5 => (by first | (exfalso; omega) | exact zp_ieq.mp (by first | with_reducible assumption | assumption)), fun h0 => (by first | (exfalso; omega) | exact id | assumption)⟩) hP hD hS (lv_sub hl [0, 3, 4, 5, 6, 7] rfl)
                        · have c_59 : (fun k => swB on ox oy b (cF40 cx g k).toInt (cF40 cy g k).toInt) k := zp_1 c_59
                          refine lv_goto (tgt := 183) hx hb dX11_isLawfulTo_168 rfl ?_
                          refine lv_iconst (v := 0) hx hb dX11_isLawfulTo_183 rfl ?_
                          obtain ⟨hP9, hD9⟩ := zu_sub (wc := [_, _, _, _, _, _, _, _, _, _, _, _, _, _]) hP hD [true, true, true, true, true, true, true, true, true, true, true, true, true, true] rfl rfl
                          rw [hQ9]
                          exact W.zret (ty := .boolean) (v := 0) hx hb hr (rfl) (fun t ht hW => ⟨⟨congrArg (fun z => Outcome.returned (some (Value.int z))) (show (0 : Int32) = pI (lawTo (ox 0) (oy 0) (kd f).toInt n (cF40 cx f) (cF40 cy f) (kd g).toInt m2 (cF40 cx g) (cF40 cy g) MT WI IN (fun k => swB on ox oy b (cF40 cx g k).toInt (cF40 cy g k).toInt)) from (zp_f (fun h => (h.2.2.1 k (by omega)).2 (by omega) (by first | with_reducible assumption | assumption))).symm), z9, q_50, q_58, P1, Q1, by rw [ht]; exact hP9, hD9⟩, hS.F ht⟩) hS.2.2 dX11_isLawfulTo_184
                · have c_52 : ¬ (pI (inF (kd f).toInt n (cF40 cx f) (cF40 cy f) (cF40 cx g k).toInt (cF40 cy g k).toInt)).toInt = (pI (IN k)).toInt := zc_ne rfl rfl c_52
                  refine lv_iconst (v := 0) hx hb dX11_isLawfulTo_133 rfl ?_
                  obtain ⟨hP9, hD9⟩ := zu_sub (wc := [_, _, _, _, _, _, _, _, _, _, _, _, _, _]) hP hD [true, true, true, true, true, true, true, true, true, true, true, true, true, true] rfl rfl
                  rw [hQ9]
                  exact W.zret (ty := .boolean) (v := 0) hx hb hr (rfl) (fun t ht hW => ⟨⟨congrArg (fun z => Outcome.returned (some (Value.int z))) (show (0 : Int32) = pI (lawTo (ox 0) (oy 0) (kd f).toInt n (cF40 cx f) (cF40 cy f) (kd g).toInt m2 (cF40 cx g) (cF40 cy g) MT WI IN (fun k => swB on ox oy b (cF40 cx g k).toInt (cF40 cy g k).toInt)) from (zp_f (fun h => absurd (zp_ieq.mpr ((h.2.2.1 k (by omega)).1 (by omega))) (by first | with_reducible assumption | assumption))).symm), z9, q_50, T1, P1, Q1, by rw [ht]; exact hP9, hD9⟩, hS.F ht⟩) hS.2.2 dX11_isLawfulTo_134
        exact hl_62 _ 0 (I0 31) q_32 T0 P0 Q0 H locs ls (Nat.lt_succ_self _) (by first | with_reducible assumption | omega) (by intro j hj; omega) hP hD hS (lv_sub hl [0, 1, 2, 3, 4, 5] rfl)
      · have c_33 : ¬ (pI (inF (kd g).toInt m2 (cF40 cx g) (cF40 cy g) (cF40 cx f 0).toInt (cF40 cy f 0).toInt)).toInt = (pI WI).toInt := zc_ne rfl rfl c_33
        refine lv_iconst (v := 0) hx hb dX11_isLawfulTo_57 rfl ?_
        obtain ⟨hP9, hD9⟩ := zu_sub (wc := [_, _, _, _, _, _, _, _, _, _, _, _, _, _]) hP hD [true, true, true, true, true, true, true, true, true, true, true, true, true, true] rfl rfl
        rw [hQ9]
        exact W.zret (ty := .boolean) (v := 0) hx hb hr (rfl) (fun t ht hW => ⟨⟨congrArg (fun z => Outcome.returned (some (Value.int z))) (show (0 : Int32) = pI (lawTo (ox 0) (oy 0) (kd f).toInt n (cF40 cx f) (cF40 cy f) (kd g).toInt m2 (cF40 cx g) (cF40 cy g) MT WI IN (fun k => swB on ox oy b (cF40 cx g k).toInt (cF40 cy g k).toInt)) from (zp_f (fun h => absurd (zp_ieq.mpr (h.2.1 (by omega))) (by first | with_reducible assumption | assumption))).symm), (I0 31), q_32, T0, P0, Q0, by rw [ht]; exact hP9, hD9⟩, hS.F ht⟩) hS.2.2 dX11_isLawfulTo_58
  · have c_3 : ¬ (pI (mtF (kd f).toInt n (cF40 cx f) (cF40 cy f) (kd g).toInt m2 (cF40 cx g) (cF40 cy g))).toInt = (pI MT).toInt := zc_ne rfl rfl c_3
    refine lv_iconst (v := 0) hx hb dX11_isLawfulTo_15 rfl ?_
    obtain ⟨hP9, hD9⟩ := zu_sub (wc := [_, _, _, _, _, _, _, _, _, _, _, _, _, _]) hP hD [true, true, true, true, true, true, true, true, true, true, true, true, true, true] rfl rfl
    rw [hQ9]
    exact W.zret (ty := .boolean) (v := 0) hx hb hr (rfl) (fun t ht hW => ⟨⟨congrArg (fun z => Outcome.returned (some (Value.int z))) (show (0 : Int32) = pI (lawTo (ox 0) (oy 0) (kd f).toInt n (cF40 cx f) (cF40 cy f) (kd g).toInt m2 (cF40 cx g) (cF40 cy g) MT WI IN (fun k => swB on ox oy b (cF40 cx g k).toInt (cF40 cy g k).toInt)) from (zp_f (fun h => absurd (zp_ieq.mpr h.1) (by first | with_reducible assumption | assumption))).symm), (I0 31), q_1, T0, P0, Q0, by rw [ht]; exact hP9, hD9⟩, hS.F ht⟩) hS.2.2 dX11_isLawfulTo_16
set_option maxHeartbeats 4000000 in
set_option maxRecDepth 100000 in
theorem k_M_isLawfulTo_s (l : Launch) (dC : Nat → ClassId) (dI : Nat → Nat → Nat) (cI cZ cF : ClassId) (sz : Nat) (k0 : Nat) (a : Nat → Nat) (I0 : Nat → Int32) (J0 : Nat → Int64) (f : Nat) (n : Nat) (g : Nat) (m2 : Nat) (on : Nat) (kd : Nat → Int32) (mn : Nat → Int32) (cx : Nat → Int32) (cy : Nat → Int32) (S0 : Nat → Int32) (T0 : Nat → Int32) (P0 : Nat → Int32) (Q0 : Nat → Int32) (ox : Nat → Int32) (oy : Nat → Int32) (mt : Nat → Int32) (wi : Nat → Int32) (ins : Nat → Int32) (MT : Prop) (WI : Prop) (IN : Nat → Prop) (hf_f : f ≤ 200) (hm_f : mn f = nI n) (hn_f : 1 ≤ n ∧ n ≤ 40) (hp_f : pls n (cF40 cx f) (cF40 cy f)) (hf_g : g ≤ 200) (hm_g : mn g = nI m2) (hn_g : 1 ≤ m2 ∧ m2 ≤ 40) (hp_g : pls m2 (cF40 cx g) (cF40 cy g)) (hon : I0 35 = nI on) (ho40 : on ≤ 40) (ho1 : 1 ≤ on) (hpo : pls on ox oy) (hmt : mt g = pI MT) (hwi : 5 ≤ (kd g).toInt → wi g = pI WI) (hin : ∀ k, k < m2 → 5 ≤ (kd f).toInt → ins (40 * g + k) = pI (IN k)) : zM l yX11_isLawfulTo cX11_isLawfulTo 8 (some .boolean) ({ frames := 4, cells := 0, slots := 0, locals := 108 } : Room) [.ref k0, .int (nI f), .int (nI g), .int 5, .int (-1)] (dC, dI) (zTy cI cZ cF) [(om k0 a I0 J0), (oa (a 1) cI 201 kd), (oa (a 11) cI 201 mn), (oa (a 12) cI 8040 cx), (oa (a 13) cI 8040 cy), (oa (a 32) cI 8 S0), (oa (a 40) cI 6 T0), (oa (a 29) cI 42 P0), (oa (a 30) cI 42 Q0), (oa (a 33) cI 42 ox), (oa (a 34) cI 42 oy), (oa (a 37) cZ 201 mt), (oa (a 38) cZ 201 wi), (oa (a 39) cZ 8040 ins)] sz (some (.int (pI (lawTo (ox 0) (oy 0) (kd f).toInt n (cF40 cx f) (cF40 cy f) (kd g).toInt m2 (cF40 cx g) (cF40 cy g) MT WI IN (fun _ => False))))) (fun A t => ∃ (z9 : Int32), ∃ (S1 : Nat → Int32), ∃ (T1 : Nat → Int32), ∃ (P1 : Nat → Int32), ∃ (Q1 : Nat → Int32), zPD (dC, dI) classes A [(om k0 a (upd I0 31 z9) J0), (oa (a 1) cI 201 kd), (oa (a 11) cI 201 mn), (oa (a 12) cI 8040 cx), (oa (a 13) cI 8040 cy), (oa (a 32) cI 8 S1), (oa (a 40) cI 6 T1), (oa (a 29) cI 42 P1), (oa (a 30) cI 42 Q1), (oa (a 33) cI 42 ox), (oa (a 34) cI 42 oy), (oa (a 37) cZ 201 mt), (oa (a 38) cZ 201 wi), (oa (a 39) cZ 8040 ins)] t.heap) 0 0 := by
  refine zIn (own := "ScaleShopModel") (loc := [(0, .ref k0), (1, .int (nI f)), (2, .int (nI g)), (3, .int 5), (4, .int (-1))]) rfl rfl rfl rfl (fun p e s m below meth c hx hb hr hts hown hlocks hml hnm9 A hA hS hP hD hK hXN Q9 hQ9 ls hl => ?_)
  refine lv_aload_n hx hb dX11_isLawfulTo_0 rfl (lv_at hl 0 rfl) ?_
  refine lv_iload_n hx hb dX11_isLawfulTo_1 rfl (lv_at hl 1 rfl) ?_
  refine lv_iload_n hx hb dX11_isLawfulTo_2 rfl (lv_at hl 2 rfl) ?_
  obtain ⟨hPc, hDc, hFc⟩ := zo_sub (wc := [_, _, _, _, _, _]) hP hD hS hA [0, 1, 2, 3, 4, 5] (by decide +kernel) rfl
  refine zcall (st1 := [.int (pI (∃ i, i < eO (kd f).toInt n ∧ ∃ j, j < eO (kd g).toInt m2 ∧ eMt n (cF40 cx f) (cF40 cy f) i m2 (cF40 cx g) (cF40 cy g) j))]) (va_runV (As := [.int (nI f), .int (nI g)]) (rest := []) ⟨hx, hb, hml, hown, hts⟩ (k_M_isMet l dC dI cI cZ cF s.heap.size k0 a I0 J0 f n g m2 kd mn cx cy S0 (by first | with_reducible assumption | omega) (by first | with_reducible assumption | assumption) (by first | with_reducible assumption | omega) (by first | with_reducible assumption | assumption) (by first | with_reducible assumption | omega) (by first | with_reducible assumption | assumption) (by first | with_reducible assumption | omega) (by first | with_reducible assumption | assumption)) (csV_180 hts rfl rfl ⟨Nat.le_of_ble_eq_true rfl, Nat.le_of_ble_eq_true rfl⟩) (zPV2 (q0 := 0) (ci := 9) hPc hDc hK hXN rfl rfl) rfl rfl hl.1 rfl (lv_room (Nat.le_of_ble_eq_true rfl)) dX11_isLawfulTo_3 ⟨Nat.le_of_ble_eq_true rfl, Nat.le_of_ble_eq_true rfl⟩) hS hFc hFc rfl (fun t H locs ht hB hk1 hS => ?_)
  obtain ⟨q_1, hP1, hD1⟩ := hB
  rw [ht] at hP1
  obtain ⟨hP, hD⟩ := zn (W2 := [_, _, _, _, _, (oa (a 32) cI 8 q_1), _, _, _, _, _, _, _, _]) hP hD hk1 hFc hP1 hD1 [0, 1, 2, 3, 4, 5] zl_147 zl_147 [0, 1, 2, 3, 4, 5] (by decide +kernel) rfl rfl rfl rfl rfl
  clear hk1 hPc hDc hFc hP1 hD1 ht
  refine zz_i (v := pI (mtF (kd f).toInt n (cF40 cx f) (cF40 cy f) (kd g).toInt m2 (cF40 cx g) (cF40 cy g))) (rfl) ?_
  refine lv_aload_n hx hb dX11_isLawfulTo_6 rfl (lv_at hl 0 rfl) ?_
  refine va_get (D := (dC, dI)) (ci := 9) (v := .ref (a 37)) (C := RX11) (T := TX11) (N := 55) hx hb hts inX11 hown hK hP 0 rfl rfl 37 (Nat.le_of_ble_eq_true rfl) (hts _ mw_1196) (fun _ h9 => h9) rfl dX11_isLawfulTo_7 ?_
  refine lv_iload_n hx hb dX11_isLawfulTo_10 rfl (lv_at hl 2 rfl) ?_
  have b9_2 : g < 201 := by omega
  refine z_zald hx hb hK hP 11 1 rfl rfl (e := g) rfl b9_2 (Nat.le_of_ble_eq_true rfl) dX11_isLawfulTo_11 ?_
  refine zz_i (v := pI MT) (hmt) ?_
  refine lv_icmp_eq (tgt := 17) hx hb dX11_isLawfulTo_12 rfl (fun c_3 => ?_) (fun c_3 => ?_)
  · have c_3 : (pI (mtF (kd f).toInt n (cF40 cx f) (cF40 cy f) (kd g).toInt m2 (cF40 cx g) (cF40 cy g))).toInt = (pI MT).toInt := zc_eq rfl rfl c_3
    refine lv_aload_n hx hb dX11_isLawfulTo_17 rfl (lv_at hl 0 rfl) ?_
    refine lv_iload_n hx hb dX11_isLawfulTo_18 rfl (lv_at hl 2 rfl) ?_
    obtain ⟨hPc, hDc, hFc, hI1⟩ := zi_sub (wc := [_, _]) hP hD hS hA [0, 1] rfl rfl
    refine zcall (st1 := [.int (pI (5 ≤ (kd g).toInt))]) (va_runV (As := [.int (nI g)]) (rest := []) ⟨hx, hb, hml, hown, hts⟩ (k_M_isRing l dC dI cI cZ cF H.size k0 a I0 J0 g kd (by first | with_reducible assumption | omega)) (csV_165 hts rfl rfl ⟨Nat.le_of_ble_eq_true rfl, Nat.le_of_ble_eq_true rfl⟩) (zPV2 (q0 := 0) (ci := 9) hPc hDc hK hXN rfl rfl) rfl rfl hl.1 rfl (lv_room (Nat.le_of_ble_eq_true rfl)) dX11_isLawfulTo_19 ⟨Nat.le_of_ble_eq_true rfl, Nat.le_of_ble_eq_true rfl⟩) hS hFc hFc rfl (fun t H locs ht hB hk1 hS => ?_)
    obtain ⟨hP1, hD1⟩ := hB
    rw [ht] at hP1
    replace hP := z0 hP hD hk1 hP1 hI1
    clear hk1 hPc hDc hFc hP1 hD1 ht hI1
    refine lv_if_eq (tgt := 59) hx hb dX11_isLawfulTo_22 rfl (fun c_4 => ?_) (fun c_4 => ?_)
    · have c_4 : ¬ (5 ≤ (kd g).toInt) := zp_0 c_4
      refine lv_iconst (v := 0) hx hb dX11_isLawfulTo_59 rfl ?_
      refine lv_istore (lv' := [(5, .int 0), (0, .ref k0), (1, .int (nI f)), (2, .int (nI g)), (3, .int 5), (4, .int (-1))]) hx hb dX11_isLawfulTo_60 hl (Nat.le_of_ble_eq_true rfl) rfl (fun ls hl => ?_)
      have hl_62 : ∀ (n9 : Nat) (k : Nat) (z9 : Int32) (S1 : Nat → Int32) (T1 : Nat → Int32) (P1 : Nat → Int32) (Q1 : Nat → Int32) (H : Heap) (locs : List Loc) (ls : Array Slot), m2 - k < n9 → (k ≤ m2) → (∀ j, j < k → (5 ≤ (kd f).toInt → (inF (kd f).toInt n (cF40 cx f) (cF40 cy f) (cF40 cx g j).toInt (cF40 cy g j).toInt ↔ IN j)) ∧ (¬ (kd f).toInt = 0 → ¬ (fun _ => False) j)) → va_P (dC, dI) classes [(om k0 a (upd I0 31 z9) J0), (oa (a 1) cI 201 kd), (oa (a 11) cI 201 mn), (oa (a 12) cI 8040 cx), (oa (a 13) cI 8040 cy), (oa (a 32) cI 8 S1), (oa (a 40) cI 6 T1), (oa (a 29) cI 42 P1), (oa (a 30) cI 42 Q1), (oa (a 33) cI 42 ox), (oa (a 34) cI 42 oy), (oa (a 37) cZ 201 mt), (oa (a 38) cZ 201 wi), (oa (a 39) cZ 8040 ins)] H → va_D A [(om k0 a (upd I0 31 z9) J0), (oa (a 1) cI 201 kd), (oa (a 11) cI 201 mn), (oa (a 12) cI 8040 cx), (oa (a 13) cI 8040 cy), (oa (a 32) cI 8 S1), (oa (a 40) cI 6 T1), (oa (a 29) cI 42 P1), (oa (a 30) cI 42 Q1), (oa (a 33) cI 42 ox), (oa (a 34) cI 42 oy), (oa (a 37) cZ 201 mt), (oa (a 38) cZ 201 wi), (oa (a 39) cZ 8040 ins)] → va_S A s.heap H locs → lv_has ls 8 [(5, .int (nI k)), (0, .ref k0), (1, .int (nI f)), (2, .int (nI g)), (3, .int 5), (4, .int (-1))] → W p l e ({ frames := 4, cells := 0, slots := 0, locals := 108 } : Room) s m ([.ref k0, .int (nI f), .int (nI g), .int 5, .int (-1)] : List Value).toArray below meth c H locs 0 0 Q9 (F0 m 62 ls []) := by
        intro n9
        induction n9 with
        | zero => intro k z9 S1 T1 P1 Q1 H locs ls hm; exact absurd hm (Nat.not_lt_zero _)
        | succ n9 ih_62 =>
          intro k z9 S1 T1 P1 Q1 H locs ls hm hk hall hP hD hS hl
          refine lv_iload hx hb dX11_isLawfulTo_62 (lv_at hl 0 rfl) ?_
          refine lv_aload_n hx hb dX11_isLawfulTo_64 rfl (lv_at hl 1 rfl) ?_
          refine va_get (D := (dC, dI)) (ci := 9) (v := .ref (a 11)) (C := RX11) (T := TX11) (N := 55) hx hb hts inX11 hown hK hP 0 rfl rfl 11 (Nat.le_of_ble_eq_true rfl) (hts _ mw_1170) (fun _ h9 => h9) rfl dX11_isLawfulTo_65 ?_
          refine lv_iload_n hx hb dX11_isLawfulTo_68 rfl (lv_at hl 3 rfl) ?_
          refine z_iald hx hb hK hP 2 0 rfl rfl (e := g) rfl b9_2 (Nat.le_of_ble_eq_true rfl) dX11_isLawfulTo_69 ?_
          refine zz_i (v := nI m2) (hm_g) ?_
          have b9_6 : zlt (k) := show k < 2147483648 by omega
          have b9_7 : zlt (m2) := show m2 < 2147483648 by omega
          refine lv_icmp_ge (tgt := 191) hx hb dX11_isLawfulTo_70 rfl (fun c_5 => ?_) (fun c_5 => ?_)
          · have c_5 : ((m2 : Nat) : Int) ≤ ((k : Nat) : Int) := zc_le (nI_toInt b9_7) (nI_toInt b9_6) c_5
            refine lv_aload_n hx hb dX11_isLawfulTo_191 rfl (lv_at hl 1 rfl) ?_
            refine va_get (D := (dC, dI)) (ci := 9) (v := .ref (a 1)) (C := RX11) (T := TX11) (N := 55) hx hb hts inX11 hown hK hP 0 rfl rfl 1 (Nat.le_of_ble_eq_true rfl) (hts _ mw_1160) (fun _ h9 => h9) rfl dX11_isLawfulTo_192 ?_
            refine lv_iload_n hx hb dX11_isLawfulTo_195 rfl (lv_at hl 2 rfl) ?_
            have b9_8 : f < 201 := by omega
            refine z_iald hx hb hK hP 1 0 rfl rfl (e := f) rfl b9_8 (Nat.le_of_ble_eq_true rfl) dX11_isLawfulTo_196 ?_
            refine lv_if_ne (tgt := 209) hx hb dX11_isLawfulTo_197 rfl (fun c_9 => ?_) (fun c_9 => ?_)
            · have c_9 : ¬ (kd f).toInt = 0 := zc_ne rfl rfl c_9
              refine lv_iconst (v := 1) hx hb dX11_isLawfulTo_209 rfl ?_
              refine lv_goto (tgt := 214) hx hb dX11_isLawfulTo_210 rfl ?_
              obtain ⟨hP9, hD9⟩ := zu_sub (wc := [_, _, _, _, _, _, _, _, _, _, _, _, _, _]) hP hD [true, true, true, true, true, true, true, true, true, true, true, true, true, true] rfl rfl
              rw [hQ9]
              exact W.zret (ty := .boolean) (v := 1) hx hb hr (rfl) (fun t ht hW => ⟨⟨congrArg (fun z => Outcome.returned (some (Value.int z))) (show (1 : Int32) = pI (lawTo (ox 0) (oy 0) (kd f).toInt n (cF40 cx f) (cF40 cy f) (kd g).toInt m2 (cF40 cx g) (cF40 cy g) MT WI IN (fun _ => False)) from (zp_t (by first | exact ⟨zp_ieq.mp (by first | with_reducible assumption | assumption), fun h => (by first | (exfalso; omega) | exact zp_ieq.mp (by first | with_reducible assumption | assumption)), fun j hj => hall j (by omega), fun h => (by first | (exfalso; omega) | assumption)⟩ | exact fun h => absurd (h.2.2.2 (by omega)) (by first | with_reducible assumption | assumption))).symm), z9, S1, T1, P1, Q1, by rw [ht]; exact hP9, hD9⟩, hS.F ht⟩) hS.2.2 dX11_isLawfulTo_214
            · have c_9 : (kd f).toInt = 0 := zc_eq rfl rfl c_9
              refine lv_aload_n hx hb dX11_isLawfulTo_200 rfl (lv_at hl 1 rfl) ?_
              refine lv_iload_n hx hb dX11_isLawfulTo_201 rfl (lv_at hl 2 rfl) ?_
              refine lv_iload_n hx hb dX11_isLawfulTo_202 rfl (lv_at hl 3 rfl) ?_
              obtain ⟨hPc, hDc, hFc⟩ := zo_sub (wc := [_, _, _, _, _, _, _, _]) hP hD hS hA [0, 1, 2, 3, 4, 5, 9, 10] (by decide +kernel) rfl
              refine zcall (st1 := [.int (pI (∀ k, k < eO (kd g).toInt m2 → fWy (ox 0).toInt (oy 0).toInt (cx (40 * f)).toInt (cy (40 * f)).toInt m2 (cF40 cx g) (cF40 cy g) k))]) (va_runV (As := [.int (nI f), .int (nI g)]) (rest := []) ⟨hx, hb, hml, hown, hts⟩ (k_M_isFreeWay l dC dI cI cZ cF H.size k0 a (upd I0 31 z9) J0 f g m2 kd mn cx cy S1 ox oy (by first | with_reducible assumption | omega) ((hpo 0 (by first | with_reducible assumption | omega)).1) ((hpo 0 (by first | with_reducible assumption | omega)).2) ((hp_f 0 (by first | with_reducible assumption | omega)).1) ((hp_f 0 (by first | with_reducible assumption | omega)).2) (by first | with_reducible assumption | omega) (by first | with_reducible assumption | assumption) (by first | with_reducible assumption | omega) (by first | with_reducible assumption | assumption)) (csV_181 hts rfl rfl ⟨Nat.le_of_ble_eq_true rfl, Nat.le_of_ble_eq_true rfl⟩) (zPV2 (q0 := 0) (ci := 9) hPc hDc hK hXN rfl rfl) rfl rfl hl.1 rfl (lv_room (Nat.le_of_ble_eq_true rfl)) dX11_isLawfulTo_203 ⟨Nat.le_of_ble_eq_true rfl, Nat.le_of_ble_eq_true rfl⟩) hS hFc hFc rfl (fun t H locs ht hB hk1 hS => ?_)
              obtain ⟨q_10, hP1, hD1⟩ := hB
              rw [ht] at hP1
              obtain ⟨hP, hD⟩ := zn (W2 := [_, _, _, _, _, (oa (a 32) cI 8 q_10), _, _, _, _, _, _, _, _]) hP hD hk1 hFc hP1 hD1 zl_148 zl_149 zl_149 zl_148 (by decide +kernel) rfl rfl rfl rfl rfl
              clear hk1 hPc hDc hFc hP1 hD1 ht
              refine zz_i (v := pI (∀ k, k < eO (kd g).toInt m2 → fWy (ox 0).toInt (oy 0).toInt (cF40 cx f 0).toInt (cF40 cy f 0).toInt m2 (cF40 cx g) (cF40 cy g) k)) (rfl) ?_
              refine lv_if_eq (tgt := 213) hx hb dX11_isLawfulTo_206 rfl (fun c_11 => ?_) (fun c_11 => ?_)
              · have c_11 : ¬ (∀ k, k < eO (kd g).toInt m2 → fWy (ox 0).toInt (oy 0).toInt (cF40 cx f 0).toInt (cF40 cy f 0).toInt m2 (cF40 cx g) (cF40 cy g) k) := zp_0 c_11
                refine lv_iconst (v := 0) hx hb dX11_isLawfulTo_213 rfl ?_
                obtain ⟨hP9, hD9⟩ := zu_sub (wc := [_, _, _, _, _, _, _, _, _, _, _, _, _, _]) hP hD [true, true, true, true, true, true, true, true, true, true, true, true, true, true] rfl rfl
                rw [hQ9]
                exact W.zret (ty := .boolean) (v := 0) hx hb hr (rfl) (fun t ht hW => ⟨⟨congrArg (fun z => Outcome.returned (some (Value.int z))) (show (0 : Int32) = pI (lawTo (ox 0) (oy 0) (kd f).toInt n (cF40 cx f) (cF40 cy f) (kd g).toInt m2 (cF40 cx g) (cF40 cy g) MT WI IN (fun _ => False)) from (zp_f (by first | exact ⟨zp_ieq.mp (by first | with_reducible assumption | assumption), fun h => (by first | (exfalso; omega) | exact zp_ieq.mp (by first | with_reducible assumption | assumption)), fun j hj => hall j (by omega), fun h => (by first | (exfalso; omega) | assumption)⟩ | exact fun h => absurd (h.2.2.2 (by omega)) (by first | with_reducible assumption | assumption))).symm), z9, q_10, T1, P1, Q1, by rw [ht]; exact hP9, hD9⟩, hS.F ht⟩) hS.2.2 dX11_isLawfulTo_214
              · have c_11 : ∀ k, k < eO (kd g).toInt m2 → fWy (ox 0).toInt (oy 0).toInt (cF40 cx f 0).toInt (cF40 cy f 0).toInt m2 (cF40 cx g) (cF40 cy g) k := zp_1 c_11
                refine lv_iconst (v := 1) hx hb dX11_isLawfulTo_209 rfl ?_
                refine lv_goto (tgt := 214) hx hb dX11_isLawfulTo_210 rfl ?_
                obtain ⟨hP9, hD9⟩ := zu_sub (wc := [_, _, _, _, _, _, _, _, _, _, _, _, _, _]) hP hD [true, true, true, true, true, true, true, true, true, true, true, true, true, true] rfl rfl
                rw [hQ9]
                exact W.zret (ty := .boolean) (v := 1) hx hb hr (rfl) (fun t ht hW => ⟨⟨congrArg (fun z => Outcome.returned (some (Value.int z))) (show (1 : Int32) = pI (lawTo (ox 0) (oy 0) (kd f).toInt n (cF40 cx f) (cF40 cy f) (kd g).toInt m2 (cF40 cx g) (cF40 cy g) MT WI IN (fun _ => False)) from (zp_t (by first | exact ⟨zp_ieq.mp (by first | with_reducible assumption | assumption), fun h => (by first | (exfalso; omega) | exact zp_ieq.mp (by first | with_reducible assumption | assumption)), fun j hj => hall j (by omega), fun h => (by first | (exfalso; omega) | assumption)⟩ | exact fun h => absurd (h.2.2.2 (by omega)) (by first | with_reducible assumption | assumption))).symm), z9, q_10, T1, P1, Q1, by rw [ht]; exact hP9, hD9⟩, hS.F ht⟩) hS.2.2 dX11_isLawfulTo_214
          · have c_5 : ((k : Nat) : Int) < ((m2 : Nat) : Int) := zc_nle (nI_toInt b9_7) (nI_toInt b9_6) c_5
            have hk9 : k < m2 := (by omega)
            refine lv_aload_n hx hb dX11_isLawfulTo_73 rfl (lv_at hl 1 rfl) ?_
            refine va_get (D := (dC, dI)) (ci := 9) (v := .ref (a 12)) (C := RX11) (T := TX11) (N := 55) hx hb hts inX11 hown hK hP 0 rfl rfl 12 (Nat.le_of_ble_eq_true rfl) (hts _ mw_1171) (fun _ h9 => h9) rfl dX11_isLawfulTo_74 ?_
            refine lv_bipush (v := 40) hx hb dX11_isLawfulTo_77 rfl ?_
            refine lv_iload_n hx hb dX11_isLawfulTo_79 rfl (lv_at hl 3 rfl) ?_
            refine lv_imul hx hb dX11_isLawfulTo_80 ?_
            refine zz_i (v := nI (40 * g)) (pk_mul 40 g) ?_
            refine lv_iload hx hb dX11_isLawfulTo_81 (lv_at hl 0 rfl) ?_
            refine lv_iadd hx hb dX11_isLawfulTo_83 ?_
            refine zz_i (v := nI (40 * g + k)) (nI_add (40 * g) k) ?_
            have b9_12 : 40 * g + k < 8040 := by omega
            refine z_iald hx hb hK hP 3 0 rfl rfl (e := 40 * g + k) rfl b9_12 (Nat.le_of_ble_eq_true rfl) dX11_isLawfulTo_84 ?_
            refine lv_istore (lv' := [(6, .int (cx (40 * g + k))), (5, .int (nI k)), (0, .ref k0), (1, .int (nI f)), (2, .int (nI g)), (3, .int 5), (4, .int (-1))]) hx hb dX11_isLawfulTo_85 hl (Nat.le_of_ble_eq_true rfl) rfl (fun ls hl => ?_)
            refine lv_aload_n hx hb dX11_isLawfulTo_87 rfl (lv_at hl 2 rfl) ?_
            refine va_get (D := (dC, dI)) (ci := 9) (v := .ref (a 13)) (C := RX11) (T := TX11) (N := 55) hx hb hts inX11 hown hK hP 0 rfl rfl 13 (Nat.le_of_ble_eq_true rfl) (hts _ mw_1172) (fun _ h9 => h9) rfl dX11_isLawfulTo_88 ?_
            refine lv_bipush (v := 40) hx hb dX11_isLawfulTo_91 rfl ?_
            refine lv_iload_n hx hb dX11_isLawfulTo_93 rfl (lv_at hl 4 rfl) ?_
            refine lv_imul hx hb dX11_isLawfulTo_94 ?_
            refine zz_i (v := nI (40 * g)) (pk_mul 40 g) ?_
            refine lv_iload hx hb dX11_isLawfulTo_95 (lv_at hl 1 rfl) ?_
            refine lv_iadd hx hb dX11_isLawfulTo_97 ?_
            refine zz_i (v := nI (40 * g + k)) (nI_add (40 * g) k) ?_
            refine z_iald hx hb hK hP 4 0 rfl rfl (e := 40 * g + k) rfl b9_12 (Nat.le_of_ble_eq_true rfl) dX11_isLawfulTo_98 ?_
            refine lv_istore (lv' := [(7, .int (cy (40 * g + k))), (6, .int (cx (40 * g + k))), (5, .int (nI k)), (0, .ref k0), (1, .int (nI f)), (2, .int (nI g)), (3, .int 5), (4, .int (-1))]) hx hb dX11_isLawfulTo_99 hl (Nat.le_of_ble_eq_true rfl) rfl (fun ls hl => ?_)
            refine lv_aload_n hx hb dX11_isLawfulTo_101 rfl (lv_at hl 3 rfl) ?_
            refine lv_iload_n hx hb dX11_isLawfulTo_102 rfl (lv_at hl 4 rfl) ?_
            obtain ⟨hPc, hDc, hFc, hI1⟩ := zi_sub (wc := [_, _]) hP hD hS hA [0, 1] rfl rfl
            refine zcall (st1 := [.int (pI (5 ≤ (kd f).toInt))]) (va_runV (As := [.int (nI f)]) (rest := []) ⟨hx, hb, hml, hown, hts⟩ (k_M_isRing l dC dI cI cZ cF H.size k0 a (upd I0 31 z9) J0 f kd (by first | with_reducible assumption | omega)) (csV_165 hts rfl rfl ⟨Nat.le_of_ble_eq_true rfl, Nat.le_of_ble_eq_true rfl⟩) (zPV2 (q0 := 0) (ci := 9) hPc hDc hK hXN rfl rfl) rfl rfl hl.1 rfl (lv_room (Nat.le_of_ble_eq_true rfl)) dX11_isLawfulTo_103 ⟨Nat.le_of_ble_eq_true rfl, Nat.le_of_ble_eq_true rfl⟩) hS hFc hFc rfl (fun t H locs ht hB hk1 hS => ?_)
            obtain ⟨hP1, hD1⟩ := hB
            rw [ht] at hP1
            replace hP := z0 hP hD hk1 hP1 hI1
            clear hk1 hPc hDc hFc hP1 hD1 ht hI1
            refine lv_if_eq (tgt := 135) hx hb dX11_isLawfulTo_106 rfl (fun c_13 => ?_) (fun c_13 => ?_)
            · have c_13 : ¬ (5 ≤ (kd f).toInt) := zp_0 c_13
              refine lv_aload_n hx hb dX11_isLawfulTo_135 rfl (lv_at hl 3 rfl) ?_
              refine va_get (D := (dC, dI)) (ci := 9) (v := .ref (a 1)) (C := RX11) (T := TX11) (N := 55) hx hb hts inX11 hown hK hP 0 rfl rfl 1 (Nat.le_of_ble_eq_true rfl) (hts _ mw_1160) (fun _ h9 => h9) rfl dX11_isLawfulTo_136 ?_
              refine lv_iload_n hx hb dX11_isLawfulTo_139 rfl (lv_at hl 4 rfl) ?_
              have b9_14 : f < 201 := by omega
              refine z_iald hx hb hK hP 1 0 rfl rfl (e := f) rfl b9_14 (Nat.le_of_ble_eq_true rfl) dX11_isLawfulTo_140 ?_
              refine lv_if_eq (tgt := 185) hx hb dX11_isLawfulTo_141 rfl (fun c_15 => ?_) (fun c_15 => ?_)
              · have c_15 : (kd f).toInt = 0 := zc_eq rfl rfl c_15
                refine lv_iinc (v := nI (k + 1)) (lv' := [(5, .int (nI (k + 1))), (7, .int (cy (40 * g + k))), (6, .int (cx (40 * g + k))), (0, .ref k0), (1, .int (nI f)), (2, .int (nI g)), (3, .int 5), (4, .int (-1))]) hx hb dX11_isLawfulTo_185 hl (k := 2) rfl (nI_add k 1) (Nat.le_of_ble_eq_true rfl) rfl (fun ls hl => ?_)
                refine lv_goto (tgt := 62) hx hb dX11_isLawfulTo_188 rfl ?_
                exact ih_62 (k + 1) z9 S1 T1 P1 Q1 H locs ls (by first | with_reducible assumption | omega) (by first | with_reducible assumption | omega) (by intro j hj; rcases Nat.lt_or_ge j k with h | h; exact hall j h; obtain rfl : j = k := (by first | with_reducible assumption | omega); exact ⟨fun h5 => (by first | (exfalso; omega) | exact zp_ieq.mp (by first | with_reducible assumption | assumption)), fun h0 => (by first | (exfalso; omega) | exact id | assumption)⟩) hP hD hS (lv_sub hl [0, 3, 4, 5, 6, 7] rfl)
              · have c_15 : ¬ (kd f).toInt = 0 := zc_ne rfl rfl c_15
                refine lv_iload_n hx hb dX11_isLawfulTo_144 rfl (lv_at hl 6 rfl) ?_
                refine lv_iconst (v := 5) hx hb dX11_isLawfulTo_145 rfl ?_
                refine lv_icmp_eq (tgt := 185) hx hb dX11_isLawfulTo_146 rfl (fun c_16 => ?_) (fun c_16 => ?_)
                · refine lv_iinc (v := nI (k + 1)) (lv' := [(5, .int (nI (k + 1))), (7, .int (cy (40 * g + k))), (6, .int (cx (40 * g + k))), (0, .ref k0), (1, .int (nI f)), (2, .int (nI g)), (3, .int 5), (4, .int (-1))]) hx hb dX11_isLawfulTo_185 hl (k := 2) rfl (nI_add k 1) (Nat.le_of_ble_eq_true rfl) rfl (fun ls hl => ?_)
                  refine lv_goto (tgt := 62) hx hb dX11_isLawfulTo_188 rfl ?_
                  exact ih_62 (k + 1) z9 S1 T1 P1 Q1 H locs ls (by first | with_reducible assumption | omega) (by first | with_reducible assumption | omega) (by intro j hj; rcases Nat.lt_or_ge j k with h | h; exact hall j h; obtain rfl : j = k := (by first | with_reducible assumption | omega); exact ⟨fun h5 => (by first | (exfalso; omega) | exact zp_ieq.mp (by first | with_reducible assumption | assumption)), fun h0 => (by first | (exfalso; omega) | exact id | assumption)⟩) hP hD hS (lv_sub hl [0, 3, 4, 5, 6, 7] rfl)
                · exact absurd (by decide) c_16
            · have c_13 : 5 ≤ (kd f).toInt := zp_1 c_13
              refine lv_aload_n hx hb dX11_isLawfulTo_109 rfl (lv_at hl 3 rfl) ?_
              refine lv_iload_n hx hb dX11_isLawfulTo_110 rfl (lv_at hl 4 rfl) ?_
              refine lv_iload hx hb dX11_isLawfulTo_111 (lv_at hl 1 rfl) ?_
              refine lv_iload hx hb dX11_isLawfulTo_113 (lv_at hl 0 rfl) ?_
              obtain ⟨hPc, hDc, hFc⟩ := zo_sub (wc := [_, _, _, _, _, _]) hP hD hS hA [0, 1, 2, 3, 4, 5] (by decide +kernel) rfl
              refine zcall (st1 := [.int (pI (¬ (∃ i, i < eO (kd f).toInt n ∧ eOn n (cF40 cx f) (cF40 cy f) i (cx (40 * g + k)).toInt (cy (40 * g + k)).toInt) ∧ par2 (eTg n (cF40 cx f) (cF40 cy f) (cx (40 * g + k)).toInt (cy (40 * g + k)).toInt) (eO (kd f).toInt n)))]) (va_runV (As := [.int (nI f), .int (cx (40 * g + k)), .int (cy (40 * g + k))]) (rest := []) ⟨hx, hb, hml, hown, hts⟩ (k_M_isInside l dC dI cI cZ cF H.size k0 a (upd I0 31 z9) J0 f n kd mn cx cy S1 (cx (40 * g + k)) (cy (40 * g + k)) (by first | with_reducible assumption | omega) (by first | with_reducible assumption | assumption) (by first | with_reducible assumption | omega) (by first | with_reducible assumption | assumption) ((hp_g k hk9).1) ((hp_g k hk9).2)) (csV_183 hts rfl rfl ⟨Nat.le_of_ble_eq_true rfl, Nat.le_of_ble_eq_true rfl⟩) (zPV2 (q0 := 0) (ci := 9) hPc hDc hK hXN rfl rfl) rfl rfl hl.1 rfl (lv_room (Nat.le_of_ble_eq_true rfl)) dX11_isLawfulTo_115 ⟨Nat.le_of_ble_eq_true rfl, Nat.le_of_ble_eq_true rfl⟩) hS hFc hFc rfl (fun t H locs ht hB hk1 hS => ?_)
              obtain ⟨q_17, hP1, hD1⟩ := hB
              rw [ht] at hP1
              obtain ⟨hP, hD⟩ := zn (W2 := [_, _, _, _, _, (oa (a 32) cI 8 q_17), _, _, _, _, _, _, _, _]) hP hD hk1 hFc hP1 hD1 [0, 1, 2, 3, 4, 5] zl_147 zl_147 [0, 1, 2, 3, 4, 5] (by decide +kernel) rfl rfl rfl rfl rfl
              clear hk1 hPc hDc hFc hP1 hD1 ht
              refine zz_i (v := pI (inF (kd f).toInt n (cF40 cx f) (cF40 cy f) (cF40 cx g k).toInt (cF40 cy g k).toInt)) (rfl) ?_
              refine lv_aload_n hx hb dX11_isLawfulTo_118 rfl (lv_at hl 3 rfl) ?_
              refine va_get (D := (dC, dI)) (ci := 9) (v := .ref (a 39)) (C := RX11) (T := TX11) (N := 55) hx hb hts inX11 hown hK hP 0 rfl rfl 39 (Nat.le_of_ble_eq_true rfl) (hts _ mw_1198) (fun _ h9 => h9) rfl dX11_isLawfulTo_119 ?_
              refine lv_bipush (v := 40) hx hb dX11_isLawfulTo_122 rfl ?_
              refine lv_iload_n hx hb dX11_isLawfulTo_124 rfl (lv_at hl 5 rfl) ?_
              refine lv_imul hx hb dX11_isLawfulTo_125 ?_
              refine zz_i (v := nI (40 * g)) (pk_mul 40 g) ?_
              refine lv_iload hx hb dX11_isLawfulTo_126 (lv_at hl 2 rfl) ?_
              refine lv_iadd hx hb dX11_isLawfulTo_128 ?_
              refine zz_i (v := nI (40 * g + k)) (nI_add (40 * g) k) ?_
              have b9_18 : 40 * g + k < 8040 := by omega
              refine z_zald hx hb hK hP 13 1 rfl rfl (e := 40 * g + k) rfl b9_18 (Nat.le_of_ble_eq_true rfl) dX11_isLawfulTo_129 ?_
              refine zz_i (v := pI (IN k)) (hin k (by omega) (by omega)) ?_
              refine lv_icmp_eq (tgt := 135) hx hb dX11_isLawfulTo_130 rfl (fun c_19 => ?_) (fun c_19 => ?_)
              · have c_19 : (pI (inF (kd f).toInt n (cF40 cx f) (cF40 cy f) (cF40 cx g k).toInt (cF40 cy g k).toInt)).toInt = (pI (IN k)).toInt := zc_eq rfl rfl c_19
                refine lv_aload_n hx hb dX11_isLawfulTo_135 rfl (lv_at hl 3 rfl) ?_
                refine va_get (D := (dC, dI)) (ci := 9) (v := .ref (a 1)) (C := RX11) (T := TX11) (N := 55) hx hb hts inX11 hown hK hP 0 rfl rfl 1 (Nat.le_of_ble_eq_true rfl) (hts _ mw_1160) (fun _ h9 => h9) rfl dX11_isLawfulTo_136 ?_
                refine lv_iload_n hx hb dX11_isLawfulTo_139 rfl (lv_at hl 4 rfl) ?_
                have b9_20 : f < 201 := by omega
                refine z_iald hx hb hK hP 1 0 rfl rfl (e := f) rfl b9_20 (Nat.le_of_ble_eq_true rfl) dX11_isLawfulTo_140 ?_
                refine lv_if_eq (tgt := 185) hx hb dX11_isLawfulTo_141 rfl (fun c_21 => ?_) (fun c_21 => ?_)
                · have c_21 : (kd f).toInt = 0 := zc_eq rfl rfl c_21
                  refine lv_iinc (v := nI (k + 1)) (lv' := [(5, .int (nI (k + 1))), (7, .int (cy (40 * g + k))), (6, .int (cx (40 * g + k))), (0, .ref k0), (1, .int (nI f)), (2, .int (nI g)), (3, .int 5), (4, .int (-1))]) hx hb dX11_isLawfulTo_185 hl (k := 2) rfl (nI_add k 1) (Nat.le_of_ble_eq_true rfl) rfl (fun ls hl => ?_)
                  refine lv_goto (tgt := 62) hx hb dX11_isLawfulTo_188 rfl ?_
                  exact ih_62 (k + 1) z9 q_17 T1 P1 Q1 H locs ls (by first | with_reducible assumption | omega) (by first | with_reducible assumption | omega) (by intro j hj; rcases Nat.lt_or_ge j k with h | h; exact hall j h; obtain rfl : j = k := (by first | with_reducible assumption | omega); exact ⟨fun h5 => (by first | (exfalso; omega) | exact zp_ieq.mp (by first | with_reducible assumption | assumption)), fun h0 => (by first | (exfalso; omega) | exact id | assumption)⟩) hP hD hS (lv_sub hl [0, 3, 4, 5, 6, 7] rfl)
                · have c_21 : ¬ (kd f).toInt = 0 := zc_ne rfl rfl c_21
                  refine lv_iload_n hx hb dX11_isLawfulTo_144 rfl (lv_at hl 6 rfl) ?_
                  refine lv_iconst (v := 5) hx hb dX11_isLawfulTo_145 rfl ?_
                  refine lv_icmp_eq (tgt := 185) hx hb dX11_isLawfulTo_146 rfl (fun c_22 => ?_) (fun c_22 => ?_)
                  · refine lv_iinc (v := nI (k + 1)) (lv' := [(5, .int (nI (k + 1))), (7, .int (cy (40 * g + k))), (6, .int (cx (40 * g + k))), (0, .ref k0), (1, .int (nI f)), (2, .int (nI g)), (3, .int 5), (4, .int (-1))]) hx hb dX11_isLawfulTo_185 hl (k := 2) rfl (nI_add k 1) (Nat.le_of_ble_eq_true rfl) rfl (fun ls hl => ?_)
                    refine lv_goto (tgt := 62) hx hb dX11_isLawfulTo_188 rfl ?_
                    exact ih_62 (k + 1) z9 q_17 T1 P1 Q1 H locs ls (by first | with_reducible assumption | omega) (by first | with_reducible assumption | omega) (by intro j hj; rcases Nat.lt_or_ge j k with h | h; exact hall j h; obtain rfl : j = k := (by first | with_reducible assumption | omega); exact ⟨fun h5 => (by first | (exfalso; omega) | exact zp_ieq.mp (by first | with_reducible assumption | assumption)), fun h0 => (by first | (exfalso; omega) | exact id | assumption)⟩) hP hD hS (lv_sub hl [0, 3, 4, 5, 6, 7] rfl)
                  · exact absurd (by decide) c_22
              · have c_19 : ¬ (pI (inF (kd f).toInt n (cF40 cx f) (cF40 cy f) (cF40 cx g k).toInt (cF40 cy g k).toInt)).toInt = (pI (IN k)).toInt := zc_ne rfl rfl c_19
                refine lv_iconst (v := 0) hx hb dX11_isLawfulTo_133 rfl ?_
                obtain ⟨hP9, hD9⟩ := zu_sub (wc := [_, _, _, _, _, _, _, _, _, _, _, _, _, _]) hP hD [true, true, true, true, true, true, true, true, true, true, true, true, true, true] rfl rfl
                rw [hQ9]
                exact W.zret (ty := .boolean) (v := 0) hx hb hr (rfl) (fun t ht hW => ⟨⟨congrArg (fun z => Outcome.returned (some (Value.int z))) (show (0 : Int32) = pI (lawTo (ox 0) (oy 0) (kd f).toInt n (cF40 cx f) (cF40 cy f) (kd g).toInt m2 (cF40 cx g) (cF40 cy g) MT WI IN (fun _ => False)) from (zp_f (fun h => absurd (zp_ieq.mpr ((h.2.2.1 k (by omega)).1 (by omega))) (by first | with_reducible assumption | assumption))).symm), z9, q_17, T1, P1, Q1, by rw [ht]; exact hP9, hD9⟩, hS.F ht⟩) hS.2.2 dX11_isLawfulTo_134
      exact hl_62 _ 0 (I0 31) q_1 T0 P0 Q0 H locs ls (Nat.lt_succ_self _) (by first | with_reducible assumption | omega) (by intro j hj; omega) hP hD hS (lv_sub hl [0, 1, 2, 3, 4, 5] rfl)
    · have c_4 : 5 ≤ (kd g).toInt := zp_1 c_4
      refine lv_aload_n hx hb dX11_isLawfulTo_25 rfl (lv_at hl 0 rfl) ?_
      refine lv_iload_n hx hb dX11_isLawfulTo_26 rfl (lv_at hl 2 rfl) ?_
      refine lv_aload_n hx hb dX11_isLawfulTo_27 rfl (lv_at hl 0 rfl) ?_
      refine va_get (D := (dC, dI)) (ci := 9) (v := .ref (a 12)) (C := RX11) (T := TX11) (N := 55) hx hb hts inX11 hown hK hP 0 rfl rfl 12 (Nat.le_of_ble_eq_true rfl) (hts _ mw_1171) (fun _ h9 => h9) rfl dX11_isLawfulTo_28 ?_
      refine lv_bipush (v := 40) hx hb dX11_isLawfulTo_31 rfl ?_
      refine lv_iload_n hx hb dX11_isLawfulTo_33 rfl (lv_at hl 1 rfl) ?_
      refine lv_imul hx hb dX11_isLawfulTo_34 ?_
      refine zz_i (v := nI (40 * f)) (pk_mul 40 f) ?_
      have b9_23 : 40 * f < 8040 := by omega
      refine z_iald hx hb hK hP 3 0 rfl rfl (e := 40 * f) rfl b9_23 (Nat.le_of_ble_eq_true rfl) dX11_isLawfulTo_35 ?_
      refine lv_aload_n hx hb dX11_isLawfulTo_36 rfl (lv_at hl 0 rfl) ?_
      refine va_get (D := (dC, dI)) (ci := 9) (v := .ref (a 13)) (C := RX11) (T := TX11) (N := 55) hx hb hts inX11 hown hK hP 0 rfl rfl 13 (Nat.le_of_ble_eq_true rfl) (hts _ mw_1172) (fun _ h9 => h9) rfl dX11_isLawfulTo_37 ?_
      refine lv_bipush (v := 40) hx hb dX11_isLawfulTo_40 rfl ?_
      refine lv_iload_n hx hb dX11_isLawfulTo_42 rfl (lv_at hl 1 rfl) ?_
      refine lv_imul hx hb dX11_isLawfulTo_43 ?_
      refine zz_i (v := nI (40 * f)) (pk_mul 40 f) ?_
      refine z_iald hx hb hK hP 4 0 rfl rfl (e := 40 * f) rfl b9_23 (Nat.le_of_ble_eq_true rfl) dX11_isLawfulTo_44 ?_
      obtain ⟨hPc, hDc, hFc⟩ := zo_sub (wc := [_, _, _, _, _, _]) hP hD hS hA [0, 1, 2, 3, 4, 5] (by decide +kernel) rfl
      refine zcall (st1 := [.int (pI (¬ (∃ i, i < eO (kd g).toInt m2 ∧ eOn m2 (cF40 cx g) (cF40 cy g) i (cx (40 * f)).toInt (cy (40 * f)).toInt) ∧ par2 (eTg m2 (cF40 cx g) (cF40 cy g) (cx (40 * f)).toInt (cy (40 * f)).toInt) (eO (kd g).toInt m2)))]) (va_runV (As := [.int (nI g), .int (cx (40 * f)), .int (cy (40 * f))]) (rest := []) ⟨hx, hb, hml, hown, hts⟩ (k_M_isInside l dC dI cI cZ cF H.size k0 a I0 J0 g m2 kd mn cx cy q_1 (cx (40 * f)) (cy (40 * f)) (by first | with_reducible assumption | omega) (by first | with_reducible assumption | assumption) (by first | with_reducible assumption | omega) (by first | with_reducible assumption | assumption) ((hp_f 0 (by first | with_reducible assumption | omega)).1) ((hp_f 0 (by first | with_reducible assumption | omega)).2)) (csV_183 hts rfl rfl ⟨Nat.le_of_ble_eq_true rfl, Nat.le_of_ble_eq_true rfl⟩) (zPV2 (q0 := 0) (ci := 9) hPc hDc hK hXN rfl rfl) rfl rfl hl.1 rfl (lv_room (Nat.le_of_ble_eq_true rfl)) dX11_isLawfulTo_45 ⟨Nat.le_of_ble_eq_true rfl, Nat.le_of_ble_eq_true rfl⟩) hS hFc hFc rfl (fun t H locs ht hB hk1 hS => ?_)
      obtain ⟨q_24, hP1, hD1⟩ := hB
      rw [ht] at hP1
      obtain ⟨hP, hD⟩ := zn (W2 := [_, _, _, _, _, (oa (a 32) cI 8 q_24), _, _, _, _, _, _, _, _]) hP hD hk1 hFc hP1 hD1 [0, 1, 2, 3, 4, 5] zl_147 zl_147 [0, 1, 2, 3, 4, 5] (by decide +kernel) rfl rfl rfl rfl rfl
      clear hk1 hPc hDc hFc hP1 hD1 ht
      refine zz_i (v := pI (inF (kd g).toInt m2 (cF40 cx g) (cF40 cy g) (cF40 cx f 0).toInt (cF40 cy f 0).toInt)) (rfl) ?_
      refine lv_aload_n hx hb dX11_isLawfulTo_48 rfl (lv_at hl 0 rfl) ?_
      refine va_get (D := (dC, dI)) (ci := 9) (v := .ref (a 38)) (C := RX11) (T := TX11) (N := 55) hx hb hts inX11 hown hK hP 0 rfl rfl 38 (Nat.le_of_ble_eq_true rfl) (hts _ mw_1197) (fun _ h9 => h9) rfl dX11_isLawfulTo_49 ?_
      refine lv_iload_n hx hb dX11_isLawfulTo_52 rfl (lv_at hl 2 rfl) ?_
      refine z_zald hx hb hK hP 12 1 rfl rfl (e := g) rfl b9_2 (Nat.le_of_ble_eq_true rfl) dX11_isLawfulTo_53 ?_
      refine zz_i (v := pI WI) (hwi (by omega)) ?_
      refine lv_icmp_eq (tgt := 59) hx hb dX11_isLawfulTo_54 rfl (fun c_25 => ?_) (fun c_25 => ?_)
      · have c_25 : (pI (inF (kd g).toInt m2 (cF40 cx g) (cF40 cy g) (cF40 cx f 0).toInt (cF40 cy f 0).toInt)).toInt = (pI WI).toInt := zc_eq rfl rfl c_25
        refine lv_iconst (v := 0) hx hb dX11_isLawfulTo_59 rfl ?_
        refine lv_istore (lv' := [(5, .int 0), (0, .ref k0), (1, .int (nI f)), (2, .int (nI g)), (3, .int 5), (4, .int (-1))]) hx hb dX11_isLawfulTo_60 hl (Nat.le_of_ble_eq_true rfl) rfl (fun ls hl => ?_)
        have hl_62 : ∀ (n9 : Nat) (k : Nat) (z9 : Int32) (S1 : Nat → Int32) (T1 : Nat → Int32) (P1 : Nat → Int32) (Q1 : Nat → Int32) (H : Heap) (locs : List Loc) (ls : Array Slot), m2 - k < n9 → (k ≤ m2) → (∀ j, j < k → (5 ≤ (kd f).toInt → (inF (kd f).toInt n (cF40 cx f) (cF40 cy f) (cF40 cx g j).toInt (cF40 cy g j).toInt ↔ IN j)) ∧ (¬ (kd f).toInt = 0 → ¬ (fun _ => False) j)) → va_P (dC, dI) classes [(om k0 a (upd I0 31 z9) J0), (oa (a 1) cI 201 kd), (oa (a 11) cI 201 mn), (oa (a 12) cI 8040 cx), (oa (a 13) cI 8040 cy), (oa (a 32) cI 8 S1), (oa (a 40) cI 6 T1), (oa (a 29) cI 42 P1), (oa (a 30) cI 42 Q1), (oa (a 33) cI 42 ox), (oa (a 34) cI 42 oy), (oa (a 37) cZ 201 mt), (oa (a 38) cZ 201 wi), (oa (a 39) cZ 8040 ins)] H → va_D A [(om k0 a (upd I0 31 z9) J0), (oa (a 1) cI 201 kd), (oa (a 11) cI 201 mn), (oa (a 12) cI 8040 cx), (oa (a 13) cI 8040 cy), (oa (a 32) cI 8 S1), (oa (a 40) cI 6 T1), (oa (a 29) cI 42 P1), (oa (a 30) cI 42 Q1), (oa (a 33) cI 42 ox), (oa (a 34) cI 42 oy), (oa (a 37) cZ 201 mt), (oa (a 38) cZ 201 wi), (oa (a 39) cZ 8040 ins)] → va_S A s.heap H locs → lv_has ls 8 [(5, .int (nI k)), (0, .ref k0), (1, .int (nI f)), (2, .int (nI g)), (3, .int 5), (4, .int (-1))] → W p l e ({ frames := 4, cells := 0, slots := 0, locals := 108 } : Room) s m ([.ref k0, .int (nI f), .int (nI g), .int 5, .int (-1)] : List Value).toArray below meth c H locs 0 0 Q9 (F0 m 62 ls []) := by
          intro n9
          induction n9 with
          | zero => intro k z9 S1 T1 P1 Q1 H locs ls hm; exact absurd hm (Nat.not_lt_zero _)
          | succ n9 ih_62 =>
            intro k z9 S1 T1 P1 Q1 H locs ls hm hk hall hP hD hS hl
            refine lv_iload hx hb dX11_isLawfulTo_62 (lv_at hl 0 rfl) ?_
            refine lv_aload_n hx hb dX11_isLawfulTo_64 rfl (lv_at hl 1 rfl) ?_
            refine va_get (D := (dC, dI)) (ci := 9) (v := .ref (a 11)) (C := RX11) (T := TX11) (N := 55) hx hb hts inX11 hown hK hP 0 rfl rfl 11 (Nat.le_of_ble_eq_true rfl) (hts _ mw_1170) (fun _ h9 => h9) rfl dX11_isLawfulTo_65 ?_
            refine lv_iload_n hx hb dX11_isLawfulTo_68 rfl (lv_at hl 3 rfl) ?_
            refine z_iald hx hb hK hP 2 0 rfl rfl (e := g) rfl b9_2 (Nat.le_of_ble_eq_true rfl) dX11_isLawfulTo_69 ?_
            refine zz_i (v := nI m2) (hm_g) ?_
            have b9_27 : zlt (k) := show k < 2147483648 by omega
            have b9_28 : zlt (m2) := show m2 < 2147483648 by omega
            refine lv_icmp_ge (tgt := 191) hx hb dX11_isLawfulTo_70 rfl (fun c_26 => ?_) (fun c_26 => ?_)
            · have c_26 : ((m2 : Nat) : Int) ≤ ((k : Nat) : Int) := zc_le (nI_toInt b9_28) (nI_toInt b9_27) c_26
              refine lv_aload_n hx hb dX11_isLawfulTo_191 rfl (lv_at hl 1 rfl) ?_
              refine va_get (D := (dC, dI)) (ci := 9) (v := .ref (a 1)) (C := RX11) (T := TX11) (N := 55) hx hb hts inX11 hown hK hP 0 rfl rfl 1 (Nat.le_of_ble_eq_true rfl) (hts _ mw_1160) (fun _ h9 => h9) rfl dX11_isLawfulTo_192 ?_
              refine lv_iload_n hx hb dX11_isLawfulTo_195 rfl (lv_at hl 2 rfl) ?_
              have b9_29 : f < 201 := by omega
              refine z_iald hx hb hK hP 1 0 rfl rfl (e := f) rfl b9_29 (Nat.le_of_ble_eq_true rfl) dX11_isLawfulTo_196 ?_
              refine lv_if_ne (tgt := 209) hx hb dX11_isLawfulTo_197 rfl (fun c_30 => ?_) (fun c_30 => ?_)
              · have c_30 : ¬ (kd f).toInt = 0 := zc_ne rfl rfl c_30
                refine lv_iconst (v := 1) hx hb dX11_isLawfulTo_209 rfl ?_
                refine lv_goto (tgt := 214) hx hb dX11_isLawfulTo_210 rfl ?_
                obtain ⟨hP9, hD9⟩ := zu_sub (wc := [_, _, _, _, _, _, _, _, _, _, _, _, _, _]) hP hD [true, true, true, true, true, true, true, true, true, true, true, true, true, true] rfl rfl
                rw [hQ9]
                exact W.zret (ty := .boolean) (v := 1) hx hb hr (rfl) (fun t ht hW => ⟨⟨congrArg (fun z => Outcome.returned (some (Value.int z))) (show (1 : Int32) = pI (lawTo (ox 0) (oy 0) (kd f).toInt n (cF40 cx f) (cF40 cy f) (kd g).toInt m2 (cF40 cx g) (cF40 cy g) MT WI IN (fun _ => False)) from (zp_t (by first | exact ⟨zp_ieq.mp (by first | with_reducible assumption | assumption), fun h => (by first | (exfalso; omega) | exact zp_ieq.mp (by first | with_reducible assumption | assumption)), fun j hj => hall j (by omega), fun h => (by first | (exfalso; omega) | assumption)⟩ | exact fun h => absurd (h.2.2.2 (by omega)) (by first | with_reducible assumption | assumption))).symm), z9, S1, T1, P1, Q1, by rw [ht]; exact hP9, hD9⟩, hS.F ht⟩) hS.2.2 dX11_isLawfulTo_214
              · have c_30 : (kd f).toInt = 0 := zc_eq rfl rfl c_30
                refine lv_aload_n hx hb dX11_isLawfulTo_200 rfl (lv_at hl 1 rfl) ?_
                refine lv_iload_n hx hb dX11_isLawfulTo_201 rfl (lv_at hl 2 rfl) ?_
                refine lv_iload_n hx hb dX11_isLawfulTo_202 rfl (lv_at hl 3 rfl) ?_
                obtain ⟨hPc, hDc, hFc⟩ := zo_sub (wc := [_, _, _, _, _, _, _, _]) hP hD hS hA [0, 1, 2, 3, 4, 5, 9, 10] (by decide +kernel) rfl
                refine zcall (st1 := [.int (pI (∀ k, k < eO (kd g).toInt m2 → fWy (ox 0).toInt (oy 0).toInt (cx (40 * f)).toInt (cy (40 * f)).toInt m2 (cF40 cx g) (cF40 cy g) k))]) (va_runV (As := [.int (nI f), .int (nI g)]) (rest := []) ⟨hx, hb, hml, hown, hts⟩ (k_M_isFreeWay l dC dI cI cZ cF H.size k0 a (upd I0 31 z9) J0 f g m2 kd mn cx cy S1 ox oy (by first | with_reducible assumption | omega) ((hpo 0 (by first | with_reducible assumption | omega)).1) ((hpo 0 (by first | with_reducible assumption | omega)).2) ((hp_f 0 (by first | with_reducible assumption | omega)).1) ((hp_f 0 (by first | with_reducible assumption | omega)).2) (by first | with_reducible assumption | omega) (by first | with_reducible assumption | assumption) (by first | with_reducible assumption | omega) (by first | with_reducible assumption | assumption)) (csV_181 hts rfl rfl ⟨Nat.le_of_ble_eq_true rfl, Nat.le_of_ble_eq_true rfl⟩) (zPV2 (q0 := 0) (ci := 9) hPc hDc hK hXN rfl rfl) rfl rfl hl.1 rfl (lv_room (Nat.le_of_ble_eq_true rfl)) dX11_isLawfulTo_203 ⟨Nat.le_of_ble_eq_true rfl, Nat.le_of_ble_eq_true rfl⟩) hS hFc hFc rfl (fun t H locs ht hB hk1 hS => ?_)
                obtain ⟨q_31, hP1, hD1⟩ := hB
                rw [ht] at hP1
                obtain ⟨hP, hD⟩ := zn (W2 := [_, _, _, _, _, (oa (a 32) cI 8 q_31), _, _, _, _, _, _, _, _]) hP hD hk1 hFc hP1 hD1 zl_148 zl_149 zl_149 zl_148 (by decide +kernel) rfl rfl rfl rfl rfl
                clear hk1 hPc hDc hFc hP1 hD1 ht
                refine zz_i (v := pI (∀ k, k < eO (kd g).toInt m2 → fWy (ox 0).toInt (oy 0).toInt (cF40 cx f 0).toInt (cF40 cy f 0).toInt m2 (cF40 cx g) (cF40 cy g) k)) (rfl) ?_
                refine lv_if_eq (tgt := 213) hx hb dX11_isLawfulTo_206 rfl (fun c_32 => ?_) (fun c_32 => ?_)
                · have c_32 : ¬ (∀ k, k < eO (kd g).toInt m2 → fWy (ox 0).toInt (oy 0).toInt (cF40 cx f 0).toInt (cF40 cy f 0).toInt m2 (cF40 cx g) (cF40 cy g) k) := zp_0 c_32
                  refine lv_iconst (v := 0) hx hb dX11_isLawfulTo_213 rfl ?_
                  obtain ⟨hP9, hD9⟩ := zu_sub (wc := [_, _, _, _, _, _, _, _, _, _, _, _, _, _]) hP hD [true, true, true, true, true, true, true, true, true, true, true, true, true, true] rfl rfl
                  rw [hQ9]
                  exact W.zret (ty := .boolean) (v := 0) hx hb hr (rfl) (fun t ht hW => ⟨⟨congrArg (fun z => Outcome.returned (some (Value.int z))) (show (0 : Int32) = pI (lawTo (ox 0) (oy 0) (kd f).toInt n (cF40 cx f) (cF40 cy f) (kd g).toInt m2 (cF40 cx g) (cF40 cy g) MT WI IN (fun _ => False)) from (zp_f (by first | exact ⟨zp_ieq.mp (by first | with_reducible assumption | assumption), fun h => (by first | (exfalso; omega) | exact zp_ieq.mp (by first | with_reducible assumption | assumption)), fun j hj => hall j (by omega), fun h => (by first | (exfalso; omega) | assumption)⟩ | exact fun h => absurd (h.2.2.2 (by omega)) (by first | with_reducible assumption | assumption))).symm), z9, q_31, T1, P1, Q1, by rw [ht]; exact hP9, hD9⟩, hS.F ht⟩) hS.2.2 dX11_isLawfulTo_214
                · have c_32 : ∀ k, k < eO (kd g).toInt m2 → fWy (ox 0).toInt (oy 0).toInt (cF40 cx f 0).toInt (cF40 cy f 0).toInt m2 (cF40 cx g) (cF40 cy g) k := zp_1 c_32
                  refine lv_iconst (v := 1) hx hb dX11_isLawfulTo_209 rfl ?_
                  refine lv_goto (tgt := 214) hx hb dX11_isLawfulTo_210 rfl ?_
                  obtain ⟨hP9, hD9⟩ := zu_sub (wc := [_, _, _, _, _, _, _, _, _, _, _, _, _, _]) hP hD [true, true, true, true, true, true, true, true, true, true, true, true, true, true] rfl rfl
                  rw [hQ9]
                  exact W.zret (ty := .boolean) (v := 1) hx hb hr (rfl) (fun t ht hW => ⟨⟨congrArg (fun z => Outcome.returned (some (Value.int z))) (show (1 : Int32) = pI (lawTo (ox 0) (oy 0) (kd f).toInt n (cF40 cx f) (cF40 cy f) (kd g).toInt m2 (cF40 cx g) (cF40 cy g) MT WI IN (fun _ => False)) from (zp_t (by first | exact ⟨zp_ieq.mp (by first | with_reducible assumption | assumption), fun h => (by first | (exfalso; omega) | exact zp_ieq.mp (by first | with_reducible assumption | assumption)), fun j hj => hall j (by omega), fun h => (by first | (exfalso; omega) | assumption)⟩ | exact fun h => absurd (h.2.2.2 (by omega)) (by first | with_reducible assumption | assumption))).symm), z9, q_31, T1, P1, Q1, by rw [ht]; exact hP9, hD9⟩, hS.F ht⟩) hS.2.2 dX11_isLawfulTo_214
            · have c_26 : ((k : Nat) : Int) < ((m2 : Nat) : Int) := zc_nle (nI_toInt b9_28) (nI_toInt b9_27) c_26
              have hk9 : k < m2 := (by omega)
              refine lv_aload_n hx hb dX11_isLawfulTo_73 rfl (lv_at hl 1 rfl) ?_
              refine va_get (D := (dC, dI)) (ci := 9) (v := .ref (a 12)) (C := RX11) (T := TX11) (N := 55) hx hb hts inX11 hown hK hP 0 rfl rfl 12 (Nat.le_of_ble_eq_true rfl) (hts _ mw_1171) (fun _ h9 => h9) rfl dX11_isLawfulTo_74 ?_
              refine lv_bipush (v := 40) hx hb dX11_isLawfulTo_77 rfl ?_
              refine lv_iload_n hx hb dX11_isLawfulTo_79 rfl (lv_at hl 3 rfl) ?_
              refine lv_imul hx hb dX11_isLawfulTo_80 ?_
              refine zz_i (v := nI (40 * g)) (pk_mul 40 g) ?_
              refine lv_iload hx hb dX11_isLawfulTo_81 (lv_at hl 0 rfl) ?_
              refine lv_iadd hx hb dX11_isLawfulTo_83 ?_
              refine zz_i (v := nI (40 * g + k)) (nI_add (40 * g) k) ?_
              have b9_33 : 40 * g + k < 8040 := by omega
              refine z_iald hx hb hK hP 3 0 rfl rfl (e := 40 * g + k) rfl b9_33 (Nat.le_of_ble_eq_true rfl) dX11_isLawfulTo_84 ?_
              refine lv_istore (lv' := [(6, .int (cx (40 * g + k))), (5, .int (nI k)), (0, .ref k0), (1, .int (nI f)), (2, .int (nI g)), (3, .int 5), (4, .int (-1))]) hx hb dX11_isLawfulTo_85 hl (Nat.le_of_ble_eq_true rfl) rfl (fun ls hl => ?_)
              refine lv_aload_n hx hb dX11_isLawfulTo_87 rfl (lv_at hl 2 rfl) ?_
              refine va_get (D := (dC, dI)) (ci := 9) (v := .ref (a 13)) (C := RX11) (T := TX11) (N := 55) hx hb hts inX11 hown hK hP 0 rfl rfl 13 (Nat.le_of_ble_eq_true rfl) (hts _ mw_1172) (fun _ h9 => h9) rfl dX11_isLawfulTo_88 ?_
              refine lv_bipush (v := 40) hx hb dX11_isLawfulTo_91 rfl ?_
              refine lv_iload_n hx hb dX11_isLawfulTo_93 rfl (lv_at hl 4 rfl) ?_
              refine lv_imul hx hb dX11_isLawfulTo_94 ?_
              refine zz_i (v := nI (40 * g)) (pk_mul 40 g) ?_
              refine lv_iload hx hb dX11_isLawfulTo_95 (lv_at hl 1 rfl) ?_
              refine lv_iadd hx hb dX11_isLawfulTo_97 ?_
              refine zz_i (v := nI (40 * g + k)) (nI_add (40 * g) k) ?_
              refine z_iald hx hb hK hP 4 0 rfl rfl (e := 40 * g + k) rfl b9_33 (Nat.le_of_ble_eq_true rfl) dX11_isLawfulTo_98 ?_
              refine lv_istore (lv' := [(7, .int (cy (40 * g + k))), (6, .int (cx (40 * g + k))), (5, .int (nI k)), (0, .ref k0), (1, .int (nI f)), (2, .int (nI g)), (3, .int 5), (4, .int (-1))]) hx hb dX11_isLawfulTo_99 hl (Nat.le_of_ble_eq_true rfl) rfl (fun ls hl => ?_)
              refine lv_aload_n hx hb dX11_isLawfulTo_101 rfl (lv_at hl 3 rfl) ?_
              refine lv_iload_n hx hb dX11_isLawfulTo_102 rfl (lv_at hl 4 rfl) ?_
              obtain ⟨hPc, hDc, hFc, hI1⟩ := zi_sub (wc := [_, _]) hP hD hS hA [0, 1] rfl rfl
              refine zcall (st1 := [.int (pI (5 ≤ (kd f).toInt))]) (va_runV (As := [.int (nI f)]) (rest := []) ⟨hx, hb, hml, hown, hts⟩ (k_M_isRing l dC dI cI cZ cF H.size k0 a (upd I0 31 z9) J0 f kd (by first | with_reducible assumption | omega)) (csV_165 hts rfl rfl ⟨Nat.le_of_ble_eq_true rfl, Nat.le_of_ble_eq_true rfl⟩) (zPV2 (q0 := 0) (ci := 9) hPc hDc hK hXN rfl rfl) rfl rfl hl.1 rfl (lv_room (Nat.le_of_ble_eq_true rfl)) dX11_isLawfulTo_103 ⟨Nat.le_of_ble_eq_true rfl, Nat.le_of_ble_eq_true rfl⟩) hS hFc hFc rfl (fun t H locs ht hB hk1 hS => ?_)
              obtain ⟨hP1, hD1⟩ := hB
              rw [ht] at hP1
              replace hP := z0 hP hD hk1 hP1 hI1
              clear hk1 hPc hDc hFc hP1 hD1 ht hI1
              refine lv_if_eq (tgt := 135) hx hb dX11_isLawfulTo_106 rfl (fun c_34 => ?_) (fun c_34 => ?_)
              · have c_34 : ¬ (5 ≤ (kd f).toInt) := zp_0 c_34
                refine lv_aload_n hx hb dX11_isLawfulTo_135 rfl (lv_at hl 3 rfl) ?_
                refine va_get (D := (dC, dI)) (ci := 9) (v := .ref (a 1)) (C := RX11) (T := TX11) (N := 55) hx hb hts inX11 hown hK hP 0 rfl rfl 1 (Nat.le_of_ble_eq_true rfl) (hts _ mw_1160) (fun _ h9 => h9) rfl dX11_isLawfulTo_136 ?_
                refine lv_iload_n hx hb dX11_isLawfulTo_139 rfl (lv_at hl 4 rfl) ?_
                have b9_35 : f < 201 := by omega
                refine z_iald hx hb hK hP 1 0 rfl rfl (e := f) rfl b9_35 (Nat.le_of_ble_eq_true rfl) dX11_isLawfulTo_140 ?_
                refine lv_if_eq (tgt := 185) hx hb dX11_isLawfulTo_141 rfl (fun c_36 => ?_) (fun c_36 => ?_)
                · have c_36 : (kd f).toInt = 0 := zc_eq rfl rfl c_36
                  refine lv_iinc (v := nI (k + 1)) (lv' := [(5, .int (nI (k + 1))), (7, .int (cy (40 * g + k))), (6, .int (cx (40 * g + k))), (0, .ref k0), (1, .int (nI f)), (2, .int (nI g)), (3, .int 5), (4, .int (-1))]) hx hb dX11_isLawfulTo_185 hl (k := 2) rfl (nI_add k 1) (Nat.le_of_ble_eq_true rfl) rfl (fun ls hl => ?_)
                  refine lv_goto (tgt := 62) hx hb dX11_isLawfulTo_188 rfl ?_
                  exact ih_62 (k + 1) z9 S1 T1 P1 Q1 H locs ls (by first | with_reducible assumption | omega) (by first | with_reducible assumption | omega) (by intro j hj; rcases Nat.lt_or_ge j k with h | h; exact hall j h; obtain rfl : j = k := (by first | with_reducible assumption | omega); exact ⟨fun h5 => (by first | (exfalso; omega) | exact zp_ieq.mp (by first | with_reducible assumption | assumption)), fun h0 => (by first | (exfalso; omega) | exact id | assumption)⟩) hP hD hS (lv_sub hl [0, 3, 4, 5, 6, 7] rfl)
                · have c_36 : ¬ (kd f).toInt = 0 := zc_ne rfl rfl c_36
                  refine lv_iload_n hx hb dX11_isLawfulTo_144 rfl (lv_at hl 6 rfl) ?_
                  refine lv_iconst (v := 5) hx hb dX11_isLawfulTo_145 rfl ?_
                  refine lv_icmp_eq (tgt := 185) hx hb dX11_isLawfulTo_146 rfl (fun c_37 => ?_) (fun c_37 => ?_)
                  · refine lv_iinc (v := nI (k + 1)) (lv' := [(5, .int (nI (k + 1))), (7, .int (cy (40 * g + k))), (6, .int (cx (40 * g + k))), (0, .ref k0), (1, .int (nI f)), (2, .int (nI g)), (3, .int 5), (4, .int (-1))]) hx hb dX11_isLawfulTo_185 hl (k := 2) rfl (nI_add k 1) (Nat.le_of_ble_eq_true rfl) rfl (fun ls hl => ?_)
                    refine lv_goto (tgt := 62) hx hb dX11_isLawfulTo_188 rfl ?_
                    exact ih_62 (k + 1) z9 S1 T1 P1 Q1 H locs ls (by first | with_reducible assumption | omega) (by first | with_reducible assumption | omega) (by intro j hj; rcases Nat.lt_or_ge j k with h | h; exact hall j h; obtain rfl : j = k := (by first | with_reducible assumption | omega); exact ⟨fun h5 => (by first | (exfalso; omega) | exact zp_ieq.mp (by first | with_reducible assumption | assumption)), fun h0 => (by first | (exfalso; omega) | exact id | assumption)⟩) hP hD hS (lv_sub hl [0, 3, 4, 5, 6, 7] rfl)
                  · exact absurd (by decide) c_37
              · have c_34 : 5 ≤ (kd f).toInt := zp_1 c_34
                refine lv_aload_n hx hb dX11_isLawfulTo_109 rfl (lv_at hl 3 rfl) ?_
                refine lv_iload_n hx hb dX11_isLawfulTo_110 rfl (lv_at hl 4 rfl) ?_
                refine lv_iload hx hb dX11_isLawfulTo_111 (lv_at hl 1 rfl) ?_
                refine lv_iload hx hb dX11_isLawfulTo_113 (lv_at hl 0 rfl) ?_
                obtain ⟨hPc, hDc, hFc⟩ := zo_sub (wc := [_, _, _, _, _, _]) hP hD hS hA [0, 1, 2, 3, 4, 5] (by decide +kernel) rfl
                refine zcall (st1 := [.int (pI (¬ (∃ i, i < eO (kd f).toInt n ∧ eOn n (cF40 cx f) (cF40 cy f) i (cx (40 * g + k)).toInt (cy (40 * g + k)).toInt) ∧ par2 (eTg n (cF40 cx f) (cF40 cy f) (cx (40 * g + k)).toInt (cy (40 * g + k)).toInt) (eO (kd f).toInt n)))]) (va_runV (As := [.int (nI f), .int (cx (40 * g + k)), .int (cy (40 * g + k))]) (rest := []) ⟨hx, hb, hml, hown, hts⟩ (k_M_isInside l dC dI cI cZ cF H.size k0 a (upd I0 31 z9) J0 f n kd mn cx cy S1 (cx (40 * g + k)) (cy (40 * g + k)) (by first | with_reducible assumption | omega) (by first | with_reducible assumption | assumption) (by first | with_reducible assumption | omega) (by first | with_reducible assumption | assumption) ((hp_g k hk9).1) ((hp_g k hk9).2)) (csV_183 hts rfl rfl ⟨Nat.le_of_ble_eq_true rfl, Nat.le_of_ble_eq_true rfl⟩) (zPV2 (q0 := 0) (ci := 9) hPc hDc hK hXN rfl rfl) rfl rfl hl.1 rfl (lv_room (Nat.le_of_ble_eq_true rfl)) dX11_isLawfulTo_115 ⟨Nat.le_of_ble_eq_true rfl, Nat.le_of_ble_eq_true rfl⟩) hS hFc hFc rfl (fun t H locs ht hB hk1 hS => ?_)
                obtain ⟨q_38, hP1, hD1⟩ := hB
                rw [ht] at hP1
                obtain ⟨hP, hD⟩ := zn (W2 := [_, _, _, _, _, (oa (a 32) cI 8 q_38), _, _, _, _, _, _, _, _]) hP hD hk1 hFc hP1 hD1 [0, 1, 2, 3, 4, 5] zl_147 zl_147 [0, 1, 2, 3, 4, 5] (by decide +kernel) rfl rfl rfl rfl rfl
                clear hk1 hPc hDc hFc hP1 hD1 ht
                refine zz_i (v := pI (inF (kd f).toInt n (cF40 cx f) (cF40 cy f) (cF40 cx g k).toInt (cF40 cy g k).toInt)) (rfl) ?_
                refine lv_aload_n hx hb dX11_isLawfulTo_118 rfl (lv_at hl 3 rfl) ?_
                refine va_get (D := (dC, dI)) (ci := 9) (v := .ref (a 39)) (C := RX11) (T := TX11) (N := 55) hx hb hts inX11 hown hK hP 0 rfl rfl 39 (Nat.le_of_ble_eq_true rfl) (hts _ mw_1198) (fun _ h9 => h9) rfl dX11_isLawfulTo_119 ?_
                refine lv_bipush (v := 40) hx hb dX11_isLawfulTo_122 rfl ?_
                refine lv_iload_n hx hb dX11_isLawfulTo_124 rfl (lv_at hl 5 rfl) ?_
                refine lv_imul hx hb dX11_isLawfulTo_125 ?_
                refine zz_i (v := nI (40 * g)) (pk_mul 40 g) ?_
                refine lv_iload hx hb dX11_isLawfulTo_126 (lv_at hl 2 rfl) ?_
                refine lv_iadd hx hb dX11_isLawfulTo_128 ?_
                refine zz_i (v := nI (40 * g + k)) (nI_add (40 * g) k) ?_
                have b9_39 : 40 * g + k < 8040 := by omega
                refine z_zald hx hb hK hP 13 1 rfl rfl (e := 40 * g + k) rfl b9_39 (Nat.le_of_ble_eq_true rfl) dX11_isLawfulTo_129 ?_
                refine zz_i (v := pI (IN k)) (hin k (by omega) (by omega)) ?_
                refine lv_icmp_eq (tgt := 135) hx hb dX11_isLawfulTo_130 rfl (fun c_40 => ?_) (fun c_40 => ?_)
                · have c_40 : (pI (inF (kd f).toInt n (cF40 cx f) (cF40 cy f) (cF40 cx g k).toInt (cF40 cy g k).toInt)).toInt = (pI (IN k)).toInt := zc_eq rfl rfl c_40
                  refine lv_aload_n hx hb dX11_isLawfulTo_135 rfl (lv_at hl 3 rfl) ?_
                  refine va_get (D := (dC, dI)) (ci := 9) (v := .ref (a 1)) (C := RX11) (T := TX11) (N := 55) hx hb hts inX11 hown hK hP 0 rfl rfl 1 (Nat.le_of_ble_eq_true rfl) (hts _ mw_1160) (fun _ h9 => h9) rfl dX11_isLawfulTo_136 ?_
                  refine lv_iload_n hx hb dX11_isLawfulTo_139 rfl (lv_at hl 4 rfl) ?_
                  have b9_41 : f < 201 := by omega
                  refine z_iald hx hb hK hP 1 0 rfl rfl (e := f) rfl b9_41 (Nat.le_of_ble_eq_true rfl) dX11_isLawfulTo_140 ?_
                  refine lv_if_eq (tgt := 185) hx hb dX11_isLawfulTo_141 rfl (fun c_42 => ?_) (fun c_42 => ?_)
                  · have c_42 : (kd f).toInt = 0 := zc_eq rfl rfl c_42
                    refine lv_iinc (v := nI (k + 1)) (lv' := [(5, .int (nI (k + 1))), (7, .int (cy (40 * g + k))), (6, .int (cx (40 * g + k))), (0, .ref k0), (1, .int (nI f)), (2, .int (nI g)), (3, .int 5), (4, .int (-1))]) hx hb dX11_isLawfulTo_185 hl (k := 2) rfl (nI_add k 1) (Nat.le_of_ble_eq_true rfl) rfl (fun ls hl => ?_)
                    refine lv_goto (tgt := 62) hx hb dX11_isLawfulTo_188 rfl ?_
                    exact ih_62 (k + 1) z9 q_38 T1 P1 Q1 H locs ls (by first | with_reducible assumption | omega) (by first | with_reducible assumption | omega) (by intro j hj; rcases Nat.lt_or_ge j k with h | h; exact hall j h; obtain rfl : j = k := (by first | with_reducible assumption | omega); exact ⟨fun h5 => (by first | (exfalso; omega) | exact zp_ieq.mp (by first | with_reducible assumption | assumption)), fun h0 => (by first | (exfalso; omega) | exact id | assumption)⟩) hP hD hS (lv_sub hl [0, 3, 4, 5, 6, 7] rfl)
                  · have c_42 : ¬ (kd f).toInt = 0 := zc_ne rfl rfl c_42
                    refine lv_iload_n hx hb dX11_isLawfulTo_144 rfl (lv_at hl 6 rfl) ?_
                    refine lv_iconst (v := 5) hx hb dX11_isLawfulTo_145 rfl ?_
                    refine lv_icmp_eq (tgt := 185) hx hb dX11_isLawfulTo_146 rfl (fun c_43 => ?_) (fun c_43 => ?_)
                    · refine lv_iinc (v := nI (k + 1)) (lv' := [(5, .int (nI (k + 1))), (7, .int (cy (40 * g + k))), (6, .int (cx (40 * g + k))), (0, .ref k0), (1, .int (nI f)), (2, .int (nI g)), (3, .int 5), (4, .int (-1))]) hx hb dX11_isLawfulTo_185 hl (k := 2) rfl (nI_add k 1) (Nat.le_of_ble_eq_true rfl) rfl (fun ls hl => ?_)
                      refine lv_goto (tgt := 62) hx hb dX11_isLawfulTo_188 rfl ?_
                      exact ih_62 (k + 1) z9 q_38 T1 P1 Q1 H locs ls (by first | with_reducible assumption | omega) (by first | with_reducible assumption | omega) (by intro j hj; rcases Nat.lt_or_ge j k with h | h; exact hall j h; obtain rfl : j = k := (by first | with_reducible assumption | omega); exact ⟨fun h5 => (by first | (exfalso; omega) | exact zp_ieq.mp (by first | with_reducible assumption | assumption)), fun h0 => (by first | (exfalso; omega) | exact id | assumption)⟩) hP hD hS (lv_sub hl [0, 3, 4, 5, 6, 7] rfl)
                    · exact absurd (by decide) c_43
                · have c_40 : ¬ (pI (inF (kd f).toInt n (cF40 cx f) (cF40 cy f) (cF40 cx g k).toInt (cF40 cy g k).toInt)).toInt = (pI (IN k)).toInt := zc_ne rfl rfl c_40
                  refine lv_iconst (v := 0) hx hb dX11_isLawfulTo_133 rfl ?_
                  obtain ⟨hP9, hD9⟩ := zu_sub (wc := [_, _, _, _, _, _, _, _, _, _, _, _, _, _]) hP hD [true, true, true, true, true, true, true, true, true, true, true, true, true, true] rfl rfl
                  rw [hQ9]
                  exact W.zret (ty := .boolean) (v := 0) hx hb hr (rfl) (fun t ht hW => ⟨⟨congrArg (fun z => Outcome.returned (some (Value.int z))) (show (0 : Int32) = pI (lawTo (ox 0) (oy 0) (kd f).toInt n (cF40 cx f) (cF40 cy f) (kd g).toInt m2 (cF40 cx g) (cF40 cy g) MT WI IN (fun _ => False)) from (zp_f (fun h => absurd (zp_ieq.mpr ((h.2.2.1 k (by omega)).1 (by omega))) (by first | with_reducible assumption | assumption))).symm), z9, q_38, T1, P1, Q1, by rw [ht]; exact hP9, hD9⟩, hS.F ht⟩) hS.2.2 dX11_isLawfulTo_134
        exact hl_62 _ 0 (I0 31) q_24 T0 P0 Q0 H locs ls (Nat.lt_succ_self _) (by first | with_reducible assumption | omega) (by intro j hj; omega) hP hD hS (lv_sub hl [0, 1, 2, 3, 4, 5] rfl)
      · have c_25 : ¬ (pI (inF (kd g).toInt m2 (cF40 cx g) (cF40 cy g) (cF40 cx f 0).toInt (cF40 cy f 0).toInt)).toInt = (pI WI).toInt := zc_ne rfl rfl c_25
        refine lv_iconst (v := 0) hx hb dX11_isLawfulTo_57 rfl ?_
        obtain ⟨hP9, hD9⟩ := zu_sub (wc := [_, _, _, _, _, _, _, _, _, _, _, _, _, _]) hP hD [true, true, true, true, true, true, true, true, true, true, true, true, true, true] rfl rfl
        rw [hQ9]
        exact W.zret (ty := .boolean) (v := 0) hx hb hr (rfl) (fun t ht hW => ⟨⟨congrArg (fun z => Outcome.returned (some (Value.int z))) (show (0 : Int32) = pI (lawTo (ox 0) (oy 0) (kd f).toInt n (cF40 cx f) (cF40 cy f) (kd g).toInt m2 (cF40 cx g) (cF40 cy g) MT WI IN (fun _ => False)) from (zp_f (fun h => absurd (zp_ieq.mpr (h.2.1 (by omega))) (by first | with_reducible assumption | assumption))).symm), (I0 31), q_24, T0, P0, Q0, by rw [ht]; exact hP9, hD9⟩, hS.F ht⟩) hS.2.2 dX11_isLawfulTo_58
  · have c_3 : ¬ (pI (mtF (kd f).toInt n (cF40 cx f) (cF40 cy f) (kd g).toInt m2 (cF40 cx g) (cF40 cy g))).toInt = (pI MT).toInt := zc_ne rfl rfl c_3
    refine lv_iconst (v := 0) hx hb dX11_isLawfulTo_15 rfl ?_
    obtain ⟨hP9, hD9⟩ := zu_sub (wc := [_, _, _, _, _, _, _, _, _, _, _, _, _, _]) hP hD [true, true, true, true, true, true, true, true, true, true, true, true, true, true] rfl rfl
    rw [hQ9]
    exact W.zret (ty := .boolean) (v := 0) hx hb hr (rfl) (fun t ht hW => ⟨⟨congrArg (fun z => Outcome.returned (some (Value.int z))) (show (0 : Int32) = pI (lawTo (ox 0) (oy 0) (kd f).toInt n (cF40 cx f) (cF40 cy f) (kd g).toInt m2 (cF40 cx g) (cF40 cy g) MT WI IN (fun _ => False)) from (zp_f (fun h => absurd (zp_ieq.mpr h.1) (by first | with_reducible assumption | assumption))).symm), (I0 31), q_1, T0, P0, Q0, by rw [ht]; exact hP9, hD9⟩, hS.F ht⟩) hS.2.2 dX11_isLawfulTo_16
set_option maxHeartbeats 4000000 in
set_option maxRecDepth 100000 in
theorem k_M_isLawfulTo_m (l : Launch) (dC : Nat → ClassId) (dI : Nat → Nat → Nat) (cI cZ cF : ClassId) (sz : Nat) (k0 : Nat) (a : Nat → Nat) (I0 : Nat → Int32) (J0 : Nat → Int64) (f : Nat) (n : Nat) (g : Nat) (m2 : Nat) (on : Nat) (h : Nat) (kd : Nat → Int32) (mn : Nat → Int32) (cx : Nat → Int32) (cy : Nat → Int32) (S0 : Nat → Int32) (T0 : Nat → Int32) (P0 : Nat → Int32) (Q0 : Nat → Int32) (ox : Nat → Int32) (oy : Nat → Int32) (mt : Nat → Int32) (wi : Nat → Int32) (ins : Nat → Int32) (MT : Prop) (WI : Prop) (IN : Nat → Prop) (hf_f : f ≤ 200) (hm_f : mn f = nI n) (hn_f : 1 ≤ n ∧ n ≤ 40) (hp_f : pls n (cF40 cx f) (cF40 cy f)) (hf_g : g ≤ 200) (hm_g : mn g = nI m2) (hn_g : 1 ≤ m2 ∧ m2 ≤ 40) (hp_g : pls m2 (cF40 cx g) (cF40 cy g)) (hon : I0 35 = nI on) (ho40 : on ≤ 40) (ho1 : 1 ≤ on) (hpo : pls on ox oy) (hmt : mt g = pI MT) (hwi : 5 ≤ (kd g).toInt → wi g = pI WI) (hin : ∀ k, k < m2 → 5 ≤ (kd f).toInt → ins (40 * g + k) = pI (IN k)) (hh : h < 5) (hon2 : n = on) : zM l yX11_isLawfulTo cX11_isLawfulTo 8 (some .boolean) ({ frames := 5, cells := 0, slots := 0, locals := 135 } : Room) [.ref k0, .int (nI f), .int (nI g), .int (nI h), .int (-1)] (dC, dI) (zTy cI cZ cF) [(om k0 a I0 J0), (oa (a 1) cI 201 kd), (oa (a 11) cI 201 mn), (oa (a 12) cI 8040 cx), (oa (a 13) cI 8040 cy), (oa (a 32) cI 8 S0), (oa (a 40) cI 6 T0), (oa (a 29) cI 42 P0), (oa (a 30) cI 42 Q0), (oa (a 33) cI 42 ox), (oa (a 34) cI 42 oy), (oa (a 37) cZ 201 mt), (oa (a 38) cZ 201 wi), (oa (a 39) cZ 8040 ins)] sz (some (.int (pI (lawTo (ox 0) (oy 0) (kd f).toInt n (cF40 cx f) (cF40 cy f) (kd g).toInt m2 (cF40 cx g) (cF40 cy g) MT WI IN (fun k => ∃ e, e < eO (kd f).toInt on ∧ swp on ox oy (cF40 cx f) (cF40 cy f) (cF40 cx g k).toInt (cF40 cy g k).toInt e))))) (fun A t => ∃ (z9 : Int32), ∃ (S1 : Nat → Int32), ∃ (T1 : Nat → Int32), ∃ (P1 : Nat → Int32), ∃ (Q1 : Nat → Int32), zPD (dC, dI) classes A [(om k0 a (upd I0 31 z9) J0), (oa (a 1) cI 201 kd), (oa (a 11) cI 201 mn), (oa (a 12) cI 8040 cx), (oa (a 13) cI 8040 cy), (oa (a 32) cI 8 S1), (oa (a 40) cI 6 T1), (oa (a 29) cI 42 P1), (oa (a 30) cI 42 Q1), (oa (a 33) cI 42 ox), (oa (a 34) cI 42 oy), (oa (a 37) cZ 201 mt), (oa (a 38) cZ 201 wi), (oa (a 39) cZ 8040 ins)] t.heap) 0 0 := by
  refine zIn (own := "ScaleShopModel") (loc := [(0, .ref k0), (1, .int (nI f)), (2, .int (nI g)), (3, .int (nI h)), (4, .int (-1))]) rfl rfl rfl rfl (fun p e s m below meth c hx hb hr hts hown hlocks hml hnm9 A hA hS hP hD hK hXN Q9 hQ9 ls hl => ?_)
  refine lv_aload_n hx hb dX11_isLawfulTo_0 rfl (lv_at hl 0 rfl) ?_
  refine lv_iload_n hx hb dX11_isLawfulTo_1 rfl (lv_at hl 1 rfl) ?_
  refine lv_iload_n hx hb dX11_isLawfulTo_2 rfl (lv_at hl 2 rfl) ?_
  obtain ⟨hPc, hDc, hFc⟩ := zo_sub (wc := [_, _, _, _, _, _]) hP hD hS hA [0, 1, 2, 3, 4, 5] (by decide +kernel) rfl
  refine zcall (st1 := [.int (pI (∃ i, i < eO (kd f).toInt n ∧ ∃ j, j < eO (kd g).toInt m2 ∧ eMt n (cF40 cx f) (cF40 cy f) i m2 (cF40 cx g) (cF40 cy g) j))]) (va_runV (As := [.int (nI f), .int (nI g)]) (rest := []) ⟨hx, hb, hml, hown, hts⟩ (k_M_isMet l dC dI cI cZ cF s.heap.size k0 a I0 J0 f n g m2 kd mn cx cy S0 (by first | with_reducible assumption | omega) (by first | with_reducible assumption | assumption) (by first | with_reducible assumption | omega) (by first | with_reducible assumption | assumption) (by first | with_reducible assumption | omega) (by first | with_reducible assumption | assumption) (by first | with_reducible assumption | omega) (by first | with_reducible assumption | assumption)) (csV_180 hts rfl rfl ⟨Nat.le_of_ble_eq_true rfl, Nat.le_of_ble_eq_true rfl⟩) (zPV2 (q0 := 0) (ci := 9) hPc hDc hK hXN rfl rfl) rfl rfl hl.1 rfl (lv_room (Nat.le_of_ble_eq_true rfl)) dX11_isLawfulTo_3 ⟨Nat.le_of_ble_eq_true rfl, Nat.le_of_ble_eq_true rfl⟩) hS hFc hFc rfl (fun t H locs ht hB hk1 hS => ?_)
  obtain ⟨q_1, hP1, hD1⟩ := hB
  rw [ht] at hP1
  obtain ⟨hP, hD⟩ := zn (W2 := [_, _, _, _, _, (oa (a 32) cI 8 q_1), _, _, _, _, _, _, _, _]) hP hD hk1 hFc hP1 hD1 [0, 1, 2, 3, 4, 5] zl_147 zl_147 [0, 1, 2, 3, 4, 5] (by decide +kernel) rfl rfl rfl rfl rfl
  clear hk1 hPc hDc hFc hP1 hD1 ht
  refine zz_i (v := pI (mtF (kd f).toInt n (cF40 cx f) (cF40 cy f) (kd g).toInt m2 (cF40 cx g) (cF40 cy g))) (rfl) ?_
  refine lv_aload_n hx hb dX11_isLawfulTo_6 rfl (lv_at hl 0 rfl) ?_
  refine va_get (D := (dC, dI)) (ci := 9) (v := .ref (a 37)) (C := RX11) (T := TX11) (N := 55) hx hb hts inX11 hown hK hP 0 rfl rfl 37 (Nat.le_of_ble_eq_true rfl) (hts _ mw_1196) (fun _ h9 => h9) rfl dX11_isLawfulTo_7 ?_
  refine lv_iload_n hx hb dX11_isLawfulTo_10 rfl (lv_at hl 2 rfl) ?_
  have b9_2 : g < 201 := by omega
  refine z_zald hx hb hK hP 11 1 rfl rfl (e := g) rfl b9_2 (Nat.le_of_ble_eq_true rfl) dX11_isLawfulTo_11 ?_
  refine zz_i (v := pI MT) (hmt) ?_
  refine lv_icmp_eq (tgt := 17) hx hb dX11_isLawfulTo_12 rfl (fun c_3 => ?_) (fun c_3 => ?_)
  · have c_3 : (pI (mtF (kd f).toInt n (cF40 cx f) (cF40 cy f) (kd g).toInt m2 (cF40 cx g) (cF40 cy g))).toInt = (pI MT).toInt := zc_eq rfl rfl c_3
    refine lv_aload_n hx hb dX11_isLawfulTo_17 rfl (lv_at hl 0 rfl) ?_
    refine lv_iload_n hx hb dX11_isLawfulTo_18 rfl (lv_at hl 2 rfl) ?_
    obtain ⟨hPc, hDc, hFc, hI1⟩ := zi_sub (wc := [_, _]) hP hD hS hA [0, 1] rfl rfl
    refine zcall (st1 := [.int (pI (5 ≤ (kd g).toInt))]) (va_runV (As := [.int (nI g)]) (rest := []) ⟨hx, hb, hml, hown, hts⟩ (k_M_isRing l dC dI cI cZ cF H.size k0 a I0 J0 g kd (by first | with_reducible assumption | omega)) (csV_165 hts rfl rfl ⟨Nat.le_of_ble_eq_true rfl, Nat.le_of_ble_eq_true rfl⟩) (zPV2 (q0 := 0) (ci := 9) hPc hDc hK hXN rfl rfl) rfl rfl hl.1 rfl (lv_room (Nat.le_of_ble_eq_true rfl)) dX11_isLawfulTo_19 ⟨Nat.le_of_ble_eq_true rfl, Nat.le_of_ble_eq_true rfl⟩) hS hFc hFc rfl (fun t H locs ht hB hk1 hS => ?_)
    obtain ⟨hP1, hD1⟩ := hB
    rw [ht] at hP1
    replace hP := z0 hP hD hk1 hP1 hI1
    clear hk1 hPc hDc hFc hP1 hD1 ht hI1
    refine lv_if_eq (tgt := 59) hx hb dX11_isLawfulTo_22 rfl (fun c_4 => ?_) (fun c_4 => ?_)
    · have c_4 : ¬ (5 ≤ (kd g).toInt) := zp_0 c_4
      refine lv_iconst (v := 0) hx hb dX11_isLawfulTo_59 rfl ?_
      refine lv_istore (lv' := [(5, .int 0), (0, .ref k0), (1, .int (nI f)), (2, .int (nI g)), (3, .int (nI h)), (4, .int (-1))]) hx hb dX11_isLawfulTo_60 hl (Nat.le_of_ble_eq_true rfl) rfl (fun ls hl => ?_)
      have hl_62 : ∀ (n9 : Nat) (k : Nat) (z9 : Int32) (S1 : Nat → Int32) (T1 : Nat → Int32) (P1 : Nat → Int32) (Q1 : Nat → Int32) (H : Heap) (locs : List Loc) (ls : Array Slot), m2 - k < n9 → (k ≤ m2) → (∀ j, j < k → (5 ≤ (kd f).toInt → (inF (kd f).toInt n (cF40 cx f) (cF40 cy f) (cF40 cx g j).toInt (cF40 cy g j).toInt ↔ IN j)) ∧ (¬ (kd f).toInt = 0 → ¬ (fun k => ∃ e, e < eO (kd f).toInt on ∧ swp on ox oy (cF40 cx f) (cF40 cy f) (cF40 cx g k).toInt (cF40 cy g k).toInt e) j)) → va_P (dC, dI) classes [(om k0 a (upd I0 31 z9) J0), (oa (a 1) cI 201 kd), (oa (a 11) cI 201 mn), (oa (a 12) cI 8040 cx), (oa (a 13) cI 8040 cy), (oa (a 32) cI 8 S1), (oa (a 40) cI 6 T1), (oa (a 29) cI 42 P1), (oa (a 30) cI 42 Q1), (oa (a 33) cI 42 ox), (oa (a 34) cI 42 oy), (oa (a 37) cZ 201 mt), (oa (a 38) cZ 201 wi), (oa (a 39) cZ 8040 ins)] H → va_D A [(om k0 a (upd I0 31 z9) J0), (oa (a 1) cI 201 kd), (oa (a 11) cI 201 mn), (oa (a 12) cI 8040 cx), (oa (a 13) cI 8040 cy), (oa (a 32) cI 8 S1), (oa (a 40) cI 6 T1), (oa (a 29) cI 42 P1), (oa (a 30) cI 42 Q1), (oa (a 33) cI 42 ox), (oa (a 34) cI 42 oy), (oa (a 37) cZ 201 mt), (oa (a 38) cZ 201 wi), (oa (a 39) cZ 8040 ins)] → va_S A s.heap H locs → lv_has ls 8 [(5, .int (nI k)), (0, .ref k0), (1, .int (nI f)), (2, .int (nI g)), (3, .int (nI h)), (4, .int (-1))] → W p l e ({ frames := 5, cells := 0, slots := 0, locals := 135 } : Room) s m ([.ref k0, .int (nI f), .int (nI g), .int (nI h), .int (-1)] : List Value).toArray below meth c H locs 0 0 Q9 (F0 m 62 ls []) := by
        intro n9
        induction n9 with
        | zero => intro k z9 S1 T1 P1 Q1 H locs ls hm; exact absurd hm (Nat.not_lt_zero _)
        | succ n9 ih_62 =>
          intro k z9 S1 T1 P1 Q1 H locs ls hm hk hall hP hD hS hl
          refine lv_iload hx hb dX11_isLawfulTo_62 (lv_at hl 0 rfl) ?_
          refine lv_aload_n hx hb dX11_isLawfulTo_64 rfl (lv_at hl 1 rfl) ?_
          refine va_get (D := (dC, dI)) (ci := 9) (v := .ref (a 11)) (C := RX11) (T := TX11) (N := 55) hx hb hts inX11 hown hK hP 0 rfl rfl 11 (Nat.le_of_ble_eq_true rfl) (hts _ mw_1170) (fun _ h9 => h9) rfl dX11_isLawfulTo_65 ?_
          refine lv_iload_n hx hb dX11_isLawfulTo_68 rfl (lv_at hl 3 rfl) ?_
          refine z_iald hx hb hK hP 2 0 rfl rfl (e := g) rfl b9_2 (Nat.le_of_ble_eq_true rfl) dX11_isLawfulTo_69 ?_
          refine zz_i (v := nI m2) (hm_g) ?_
          have b9_6 : zlt (k) := show k < 2147483648 by omega
          have b9_7 : zlt (m2) := show m2 < 2147483648 by omega
          refine lv_icmp_ge (tgt := 191) hx hb dX11_isLawfulTo_70 rfl (fun c_5 => ?_) (fun c_5 => ?_)
          · have c_5 : ((m2 : Nat) : Int) ≤ ((k : Nat) : Int) := zc_le (nI_toInt b9_7) (nI_toInt b9_6) c_5
            refine lv_aload_n hx hb dX11_isLawfulTo_191 rfl (lv_at hl 1 rfl) ?_
            refine va_get (D := (dC, dI)) (ci := 9) (v := .ref (a 1)) (C := RX11) (T := TX11) (N := 55) hx hb hts inX11 hown hK hP 0 rfl rfl 1 (Nat.le_of_ble_eq_true rfl) (hts _ mw_1160) (fun _ h9 => h9) rfl dX11_isLawfulTo_192 ?_
            refine lv_iload_n hx hb dX11_isLawfulTo_195 rfl (lv_at hl 2 rfl) ?_
            have b9_8 : f < 201 := by omega
            refine z_iald hx hb hK hP 1 0 rfl rfl (e := f) rfl b9_8 (Nat.le_of_ble_eq_true rfl) dX11_isLawfulTo_196 ?_
            refine lv_if_ne (tgt := 209) hx hb dX11_isLawfulTo_197 rfl (fun c_9 => ?_) (fun c_9 => ?_)
            · have c_9 : ¬ (kd f).toInt = 0 := zc_ne rfl rfl c_9
              refine lv_iconst (v := 1) hx hb dX11_isLawfulTo_209 rfl ?_
              refine lv_goto (tgt := 214) hx hb dX11_isLawfulTo_210 rfl ?_
              obtain ⟨hP9, hD9⟩ := zu_sub (wc := [_, _, _, _, _, _, _, _, _, _, _, _, _, _]) hP hD [true, true, true, true, true, true, true, true, true, true, true, true, true, true] rfl rfl
              rw [hQ9]
              exact W.zret (ty := .boolean) (v := 1) hx hb hr (rfl) (fun t ht hW => ⟨⟨congrArg (fun z => Outcome.returned (some (Value.int z))) (show (1 : Int32) = pI (lawTo (ox 0) (oy 0) (kd f).toInt n (cF40 cx f) (cF40 cy f) (kd g).toInt m2 (cF40 cx g) (cF40 cy g) MT WI IN (fun k => ∃ e, e < eO (kd f).toInt on ∧ swp on ox oy (cF40 cx f) (cF40 cy f) (cF40 cx g k).toInt (cF40 cy g k).toInt e)) from (zp_t (by first | exact ⟨zp_ieq.mp (by first | with_reducible assumption | assumption), fun h => (by first | (exfalso; omega) | exact zp_ieq.mp (by first | with_reducible assumption | assumption)), fun j hj => hall j (by omega), fun h => (by first | (exfalso; omega) | assumption)⟩ | exact fun h => absurd (h.2.2.2 (by omega)) (by first | with_reducible assumption | assumption))).symm), z9, S1, T1, P1, Q1, by rw [ht]; exact hP9, hD9⟩, hS.F ht⟩) hS.2.2 dX11_isLawfulTo_214
            · have c_9 : (kd f).toInt = 0 := zc_eq rfl rfl c_9
              refine lv_aload_n hx hb dX11_isLawfulTo_200 rfl (lv_at hl 1 rfl) ?_
              refine lv_iload_n hx hb dX11_isLawfulTo_201 rfl (lv_at hl 2 rfl) ?_
              refine lv_iload_n hx hb dX11_isLawfulTo_202 rfl (lv_at hl 3 rfl) ?_
              obtain ⟨hPc, hDc, hFc⟩ := zo_sub (wc := [_, _, _, _, _, _, _, _]) hP hD hS hA [0, 1, 2, 3, 4, 5, 9, 10] (by decide +kernel) rfl
              refine zcall (st1 := [.int (pI (∀ k, k < eO (kd g).toInt m2 → fWy (ox 0).toInt (oy 0).toInt (cx (40 * f)).toInt (cy (40 * f)).toInt m2 (cF40 cx g) (cF40 cy g) k))]) (va_runV (As := [.int (nI f), .int (nI g)]) (rest := []) ⟨hx, hb, hml, hown, hts⟩ (k_M_isFreeWay l dC dI cI cZ cF H.size k0 a (upd I0 31 z9) J0 f g m2 kd mn cx cy S1 ox oy (by first | with_reducible assumption | omega) ((hpo 0 (by first | with_reducible assumption | omega)).1) ((hpo 0 (by first | with_reducible assumption | omega)).2) ((hp_f 0 (by first | with_reducible assumption | omega)).1) ((hp_f 0 (by first | with_reducible assumption | omega)).2) (by first | with_reducible assumption | omega) (by first | with_reducible assumption | assumption) (by first | with_reducible assumption | omega) (by first | with_reducible assumption | assumption)) (csV_181 hts rfl rfl ⟨Nat.le_of_ble_eq_true rfl, Nat.le_of_ble_eq_true rfl⟩) (zPV2 (q0 := 0) (ci := 9) hPc hDc hK hXN rfl rfl) rfl rfl hl.1 rfl (lv_room (Nat.le_of_ble_eq_true rfl)) dX11_isLawfulTo_203 ⟨Nat.le_of_ble_eq_true rfl, Nat.le_of_ble_eq_true rfl⟩) hS hFc hFc rfl (fun t H locs ht hB hk1 hS => ?_)
              obtain ⟨q_10, hP1, hD1⟩ := hB
              rw [ht] at hP1
              obtain ⟨hP, hD⟩ := zn (W2 := [_, _, _, _, _, (oa (a 32) cI 8 q_10), _, _, _, _, _, _, _, _]) hP hD hk1 hFc hP1 hD1 zl_148 zl_149 zl_149 zl_148 (by decide +kernel) rfl rfl rfl rfl rfl
              clear hk1 hPc hDc hFc hP1 hD1 ht
              refine zz_i (v := pI (∀ k, k < eO (kd g).toInt m2 → fWy (ox 0).toInt (oy 0).toInt (cF40 cx f 0).toInt (cF40 cy f 0).toInt m2 (cF40 cx g) (cF40 cy g) k)) (rfl) ?_
              refine lv_if_eq (tgt := 213) hx hb dX11_isLawfulTo_206 rfl (fun c_11 => ?_) (fun c_11 => ?_)
              · have c_11 : ¬ (∀ k, k < eO (kd g).toInt m2 → fWy (ox 0).toInt (oy 0).toInt (cF40 cx f 0).toInt (cF40 cy f 0).toInt m2 (cF40 cx g) (cF40 cy g) k) := zp_0 c_11
                refine lv_iconst (v := 0) hx hb dX11_isLawfulTo_213 rfl ?_
                obtain ⟨hP9, hD9⟩ := zu_sub (wc := [_, _, _, _, _, _, _, _, _, _, _, _, _, _]) hP hD [true, true, true, true, true, true, true, true, true, true, true, true, true, true] rfl rfl
                rw [hQ9]
                exact W.zret (ty := .boolean) (v := 0) hx hb hr (rfl) (fun t ht hW => ⟨⟨congrArg (fun z => Outcome.returned (some (Value.int z))) (show (0 : Int32) = pI (lawTo (ox 0) (oy 0) (kd f).toInt n (cF40 cx f) (cF40 cy f) (kd g).toInt m2 (cF40 cx g) (cF40 cy g) MT WI IN (fun k => ∃ e, e < eO (kd f).toInt on ∧ swp on ox oy (cF40 cx f) (cF40 cy f) (cF40 cx g k).toInt (cF40 cy g k).toInt e)) from (zp_f (by first | exact ⟨zp_ieq.mp (by first | with_reducible assumption | assumption), fun h => (by first | (exfalso; omega) | exact zp_ieq.mp (by first | with_reducible assumption | assumption)), fun j hj => hall j (by omega), fun h => (by first | (exfalso; omega) | assumption)⟩ | exact fun h => absurd (h.2.2.2 (by omega)) (by first | with_reducible assumption | assumption))).symm), z9, q_10, T1, P1, Q1, by rw [ht]; exact hP9, hD9⟩, hS.F ht⟩) hS.2.2 dX11_isLawfulTo_214
              · have c_11 : ∀ k, k < eO (kd g).toInt m2 → fWy (ox 0).toInt (oy 0).toInt (cF40 cx f 0).toInt (cF40 cy f 0).toInt m2 (cF40 cx g) (cF40 cy g) k := zp_1 c_11
                refine lv_iconst (v := 1) hx hb dX11_isLawfulTo_209 rfl ?_
                refine lv_goto (tgt := 214) hx hb dX11_isLawfulTo_210 rfl ?_
                obtain ⟨hP9, hD9⟩ := zu_sub (wc := [_, _, _, _, _, _, _, _, _, _, _, _, _, _]) hP hD [true, true, true, true, true, true, true, true, true, true, true, true, true, true] rfl rfl
                rw [hQ9]
                exact W.zret (ty := .boolean) (v := 1) hx hb hr (rfl) (fun t ht hW => ⟨⟨congrArg (fun z => Outcome.returned (some (Value.int z))) (show (1 : Int32) = pI (lawTo (ox 0) (oy 0) (kd f).toInt n (cF40 cx f) (cF40 cy f) (kd g).toInt m2 (cF40 cx g) (cF40 cy g) MT WI IN (fun k => ∃ e, e < eO (kd f).toInt on ∧ swp on ox oy (cF40 cx f) (cF40 cy f) (cF40 cx g k).toInt (cF40 cy g k).toInt e)) from (zp_t (by first | exact ⟨zp_ieq.mp (by first | with_reducible assumption | assumption), fun h => (by first | (exfalso; omega) | exact zp_ieq.mp (by first | with_reducible assumption | assumption)), fun j hj => hall j (by omega), fun h => (by first | (exfalso; omega) | assumption)⟩ | exact fun h => absurd (h.2.2.2 (by omega)) (by first | with_reducible assumption | assumption))).symm), z9, q_10, T1, P1, Q1, by rw [ht]; exact hP9, hD9⟩, hS.F ht⟩) hS.2.2 dX11_isLawfulTo_214
          · have c_5 : ((k : Nat) : Int) < ((m2 : Nat) : Int) := zc_nle (nI_toInt b9_7) (nI_toInt b9_6) c_5
            have hk9 : k < m2 := (by omega)
            refine lv_aload_n hx hb dX11_isLawfulTo_73 rfl (lv_at hl 1 rfl) ?_
            refine va_get (D := (dC, dI)) (ci := 9) (v := .ref (a 12)) (C := RX11) (T := TX11) (N := 55) hx hb hts inX11 hown hK hP 0 rfl rfl 12 (Nat.le_of_ble_eq_true rfl) (hts _ mw_1171) (fun _ h9 => h9) rfl dX11_isLawfulTo_74 ?_
            refine lv_bipush (v := 40) hx hb dX11_isLawfulTo_77 rfl ?_
            refine lv_iload_n hx hb dX11_isLawfulTo_79 rfl (lv_at hl 3 rfl) ?_
            refine lv_imul hx hb dX11_isLawfulTo_80 ?_
            refine zz_i (v := nI (40 * g)) (pk_mul 40 g) ?_
            refine lv_iload hx hb dX11_isLawfulTo_81 (lv_at hl 0 rfl) ?_
            refine lv_iadd hx hb dX11_isLawfulTo_83 ?_
            refine zz_i (v := nI (40 * g + k)) (nI_add (40 * g) k) ?_
            have b9_12 : 40 * g + k < 8040 := by omega
            refine z_iald hx hb hK hP 3 0 rfl rfl (e := 40 * g + k) rfl b9_12 (Nat.le_of_ble_eq_true rfl) dX11_isLawfulTo_84 ?_
            refine lv_istore (lv' := [(6, .int (cx (40 * g + k))), (5, .int (nI k)), (0, .ref k0), (1, .int (nI f)), (2, .int (nI g)), (3, .int (nI h)), (4, .int (-1))]) hx hb dX11_isLawfulTo_85 hl (Nat.le_of_ble_eq_true rfl) rfl (fun ls hl => ?_)
            refine lv_aload_n hx hb dX11_isLawfulTo_87 rfl (lv_at hl 2 rfl) ?_
            refine va_get (D := (dC, dI)) (ci := 9) (v := .ref (a 13)) (C := RX11) (T := TX11) (N := 55) hx hb hts inX11 hown hK hP 0 rfl rfl 13 (Nat.le_of_ble_eq_true rfl) (hts _ mw_1172) (fun _ h9 => h9) rfl dX11_isLawfulTo_88 ?_
            refine lv_bipush (v := 40) hx hb dX11_isLawfulTo_91 rfl ?_
            refine lv_iload_n hx hb dX11_isLawfulTo_93 rfl (lv_at hl 4 rfl) ?_
            refine lv_imul hx hb dX11_isLawfulTo_94 ?_
            refine zz_i (v := nI (40 * g)) (pk_mul 40 g) ?_
            refine lv_iload hx hb dX11_isLawfulTo_95 (lv_at hl 1 rfl) ?_
            refine lv_iadd hx hb dX11_isLawfulTo_97 ?_
            refine zz_i (v := nI (40 * g + k)) (nI_add (40 * g) k) ?_
            refine z_iald hx hb hK hP 4 0 rfl rfl (e := 40 * g + k) rfl b9_12 (Nat.le_of_ble_eq_true rfl) dX11_isLawfulTo_98 ?_
            refine lv_istore (lv' := [(7, .int (cy (40 * g + k))), (6, .int (cx (40 * g + k))), (5, .int (nI k)), (0, .ref k0), (1, .int (nI f)), (2, .int (nI g)), (3, .int (nI h)), (4, .int (-1))]) hx hb dX11_isLawfulTo_99 hl (Nat.le_of_ble_eq_true rfl) rfl (fun ls hl => ?_)
            refine lv_aload_n hx hb dX11_isLawfulTo_101 rfl (lv_at hl 3 rfl) ?_
            refine lv_iload_n hx hb dX11_isLawfulTo_102 rfl (lv_at hl 4 rfl) ?_
            obtain ⟨hPc, hDc, hFc, hI1⟩ := zi_sub (wc := [_, _]) hP hD hS hA [0, 1] rfl rfl
            refine zcall (st1 := [.int (pI (5 ≤ (kd f).toInt))]) (va_runV (As := [.int (nI f)]) (rest := []) ⟨hx, hb, hml, hown, hts⟩ (k_M_isRing l dC dI cI cZ cF H.size k0 a (upd I0 31 z9) J0 f kd (by first | with_reducible assumption | omega)) (csV_165 hts rfl rfl ⟨Nat.le_of_ble_eq_true rfl, Nat.le_of_ble_eq_true rfl⟩) (zPV2 (q0 := 0) (ci := 9) hPc hDc hK hXN rfl rfl) rfl rfl hl.1 rfl (lv_room (Nat.le_of_ble_eq_true rfl)) dX11_isLawfulTo_103 ⟨Nat.le_of_ble_eq_true rfl, Nat.le_of_ble_eq_true rfl⟩) hS hFc hFc rfl (fun t H locs ht hB hk1 hS => ?_)
            obtain ⟨hP1, hD1⟩ := hB
            rw [ht] at hP1
            replace hP := z0 hP hD hk1 hP1 hI1
            clear hk1 hPc hDc hFc hP1 hD1 ht hI1
            refine lv_if_eq (tgt := 135) hx hb dX11_isLawfulTo_106 rfl (fun c_13 => ?_) (fun c_13 => ?_)
            · have c_13 : ¬ (5 ≤ (kd f).toInt) := zp_0 c_13
              refine lv_aload_n hx hb dX11_isLawfulTo_135 rfl (lv_at hl 3 rfl) ?_
              refine va_get (D := (dC, dI)) (ci := 9) (v := .ref (a 1)) (C := RX11) (T := TX11) (N := 55) hx hb hts inX11 hown hK hP 0 rfl rfl 1 (Nat.le_of_ble_eq_true rfl) (hts _ mw_1160) (fun _ h9 => h9) rfl dX11_isLawfulTo_136 ?_
              refine lv_iload_n hx hb dX11_isLawfulTo_139 rfl (lv_at hl 4 rfl) ?_
              have b9_14 : f < 201 := by omega
              refine z_iald hx hb hK hP 1 0 rfl rfl (e := f) rfl b9_14 (Nat.le_of_ble_eq_true rfl) dX11_isLawfulTo_140 ?_
              refine lv_if_eq (tgt := 185) hx hb dX11_isLawfulTo_141 rfl (fun c_15 => ?_) (fun c_15 => ?_)
              · have c_15 : (kd f).toInt = 0 := zc_eq rfl rfl c_15
                refine lv_iinc (v := nI (k + 1)) (lv' := [(5, .int (nI (k + 1))), (7, .int (cy (40 * g + k))), (6, .int (cx (40 * g + k))), (0, .ref k0), (1, .int (nI f)), (2, .int (nI g)), (3, .int (nI h)), (4, .int (-1))]) hx hb dX11_isLawfulTo_185 hl (k := 2) rfl (nI_add k 1) (Nat.le_of_ble_eq_true rfl) rfl (fun ls hl => ?_)
                refine lv_goto (tgt := 62) hx hb dX11_isLawfulTo_188 rfl ?_
                exact ih_62 (k + 1) z9 S1 T1 P1 Q1 H locs ls (by first | with_reducible assumption | omega) (by first | with_reducible assumption | omega) (by intro j hj; rcases Nat.lt_or_ge j k with h | h; exact hall j h; obtain rfl : j = k := (by first | with_reducible assumption | omega); exact ⟨fun h5 => (by first | (exfalso; omega) | exact zp_ieq.mp (by first | with_reducible assumption | assumption)), fun h0 => (by first | (exfalso; omega) | exact id | assumption)⟩) hP hD hS (lv_sub hl [0, 3, 4, 5, 6, 7] rfl)
              · have c_15 : ¬ (kd f).toInt = 0 := zc_ne rfl rfl c_15
                refine lv_iload_n hx hb dX11_isLawfulTo_144 rfl (lv_at hl 6 rfl) ?_
                refine lv_iconst (v := 5) hx hb dX11_isLawfulTo_145 rfl ?_
                have b9_17 : zlt (h) := show h < 2147483648 by omega
                refine lv_icmp_eq (tgt := 185) hx hb dX11_isLawfulTo_146 rfl (fun c_16 => ?_) (fun c_16 => ?_)
                · have c_16 : ((h : Nat) : Int) = 5 := zc_eq (nI_toInt b9_17) rfl c_16
                  exfalso; omega
                · have c_16 : ¬ ((h : Nat) : Int) = 5 := zc_ne (nI_toInt b9_17) rfl c_16
                  refine lv_iload hx hb dX11_isLawfulTo_149 (lv_at hl 7 rfl) ?_
                  refine lv_iconst (v := (-1)) hx hb dX11_isLawfulTo_151 rfl ?_
                  refine lv_icmp_eq (tgt := 171) hx hb dX11_isLawfulTo_152 rfl (fun c_18 => ?_) (fun c_18 => ?_)
                  · refine lv_aload_n hx hb dX11_isLawfulTo_171 rfl (lv_at hl 3 rfl) ?_
                    refine lv_iload_n hx hb dX11_isLawfulTo_172 rfl (lv_at hl 4 rfl) ?_
                    refine lv_iload hx hb dX11_isLawfulTo_173 (lv_at hl 1 rfl) ?_
                    refine lv_iload hx hb dX11_isLawfulTo_175 (lv_at hl 0 rfl) ?_
                    obtain ⟨hPc, hDc, hFc⟩ := zo_sub (wc := [_, _, _, _, _, _, _, _, _, _]) hP hD hS hA [0, 1, 2, 3, 4, 6, 7, 8, 9, 10] (by decide +kernel) rfl
                    refine zcall (st1 := [.int (pI (∃ e9, e9 < eO (kd f).toInt on ∧ swp on ox oy (cF40 cx f) (cF40 cy f) (cx (40 * g + k)).toInt (cy (40 * g + k)).toInt e9))]) (va_runV (As := [.int (nI f), .int (cx (40 * g + k)), .int (cy (40 * g + k))]) (rest := []) ⟨hx, hb, hml, hown, hts⟩ (k_M_isSwept l dC dI cI cZ cF H.size k0 a (upd I0 31 z9) J0 f on (cx (40 * g + k)) (cy (40 * g + k)) kd mn cx cy T1 P1 Q1 ox oy (hon) (by first | with_reducible assumption | omega) (by first | with_reducible assumption | omega) (by rw [← hon2]; assumption) (by first | with_reducible assumption | omega) (by rw [← hon2]; assumption) (by first | with_reducible assumption | assumption) ((hp_g k hk9).1) ((hp_g k hk9).2)) (csV_184 hts rfl rfl ⟨Nat.le_of_ble_eq_true rfl, Nat.le_of_ble_eq_true rfl⟩) (zPV2 (q0 := 0) (ci := 9) hPc hDc hK hXN rfl rfl) rfl rfl hl.1 rfl (lv_room (Nat.le_of_ble_eq_true rfl)) dX11_isLawfulTo_177 ⟨Nat.le_of_ble_eq_true rfl, Nat.le_of_ble_eq_true rfl⟩) hS hFc hFc rfl (fun t H locs ht hB hk1 hS => ?_)
                    obtain ⟨q_19, q_20, q_21, hP1, hD1⟩ := hB
                    rw [ht] at hP1
                    obtain ⟨hP, hD⟩ := zn (W2 := [(om k0 a (upd I0 31 (nI on)) J0), _, _, _, _, _, (oa (a 40) cI 6 q_19), (oa (a 29) cI 42 q_20), (oa (a 30) cI 42 q_21), _, _, _, _, _]) hP hD hk1 hFc hP1 hD1 zl_151 zl_152 zl_152 zl_151 (by decide +kernel) rfl rfl rfl rfl rfl
                    clear hk1 hPc hDc hFc hP1 hD1 ht
                    refine zz_i (v := pI ((fun k => ∃ e, e < eO (kd f).toInt on ∧ swp on ox oy (cF40 cx f) (cF40 cy f) (cF40 cx g k).toInt (cF40 cy g k).toInt e) k)) (rfl) ?_
                    refine lv_if_eq (tgt := 185) hx hb dX11_isLawfulTo_180 rfl (fun c_22 => ?_) (fun c_22 => ?_)
                    · have c_22 : ¬ ((fun k => ∃ e, e < eO (kd f).toInt on ∧ swp on ox oy (cF40 cx f) (cF40 cy f) (cF40 cx g k).toInt (cF40 cy g k).toInt e) k) := zp_0 c_22
                      refine lv_iinc (v := nI (k + 1)) (lv' := [(5, .int (nI (k + 1))), (7, .int (cy (40 * g + k))), (6, .int (cx (40 * g + k))), (0, .ref k0), (1, .int (nI f)), (2, .int (nI g)), (3, .int (nI h)), (4, .int (-1))]) hx hb dX11_isLawfulTo_185 hl (k := 2) rfl (nI_add k 1) (Nat.le_of_ble_eq_true rfl) rfl (fun ls hl => ?_)
                      refine lv_goto (tgt := 62) hx hb dX11_isLawfulTo_188 rfl ?_
                      exact ih_62 (k + 1) (nI on) S1 q_19 q_20 q_21 H locs ls (by first | with_reducible assumption | omega) (by first | with_reducible assumption | omega) (by intro j hj; rcases Nat.lt_or_ge j k with h | h; exact hall j h; obtain rfl : j = k := (by first | with_reducible assumption | omega); exact ⟨fun h5 => (by first | (exfalso; omega) | exact zp_ieq.mp (by first | with_reducible assumption | assumption)), fun h0 => (by first | (exfalso; omega) | exact id | assumption)⟩) hP hD hS (lv_sub hl [0, 3, 4, 5, 6, 7] rfl)
                    · have c_22 : (fun k => ∃ e, e < eO (kd f).toInt on ∧ swp on ox oy (cF40 cx f) (cF40 cy f) (cF40 cx g k).toInt (cF40 cy g k).toInt e) k := zp_1 c_22
                      refine lv_iconst (v := 0) hx hb dX11_isLawfulTo_183 rfl ?_
                      obtain ⟨hP9, hD9⟩ := zu_sub (wc := [_, _, _, _, _, _, _, _, _, _, _, _, _, _]) hP hD [true, true, true, true, true, true, true, true, true, true, true, true, true, true] rfl rfl
                      rw [hQ9]
                      exact W.zret (ty := .boolean) (v := 0) hx hb hr (rfl) (fun t ht hW => ⟨⟨congrArg (fun z => Outcome.returned (some (Value.int z))) (show (0 : Int32) = pI (lawTo (ox 0) (oy 0) (kd f).toInt n (cF40 cx f) (cF40 cy f) (kd g).toInt m2 (cF40 cx g) (cF40 cy g) MT WI IN (fun k => ∃ e, e < eO (kd f).toInt on ∧ swp on ox oy (cF40 cx f) (cF40 cy f) (cF40 cx g k).toInt (cF40 cy g k).toInt e)) from (zp_f (fun h => (h.2.2.1 k (by omega)).2 (by omega) (by first | with_reducible assumption | assumption))).symm), (nI on), S1, q_19, q_20, q_21, by rw [ht]; exact hP9, hD9⟩, hS.F ht⟩) hS.2.2 dX11_isLawfulTo_184
                  · exact absurd (by decide) c_18
            · have c_13 : 5 ≤ (kd f).toInt := zp_1 c_13
              refine lv_aload_n hx hb dX11_isLawfulTo_109 rfl (lv_at hl 3 rfl) ?_
              refine lv_iload_n hx hb dX11_isLawfulTo_110 rfl (lv_at hl 4 rfl) ?_
              refine lv_iload hx hb dX11_isLawfulTo_111 (lv_at hl 1 rfl) ?_
              refine lv_iload hx hb dX11_isLawfulTo_113 (lv_at hl 0 rfl) ?_
              obtain ⟨hPc, hDc, hFc⟩ := zo_sub (wc := [_, _, _, _, _, _]) hP hD hS hA [0, 1, 2, 3, 4, 5] (by decide +kernel) rfl
              refine zcall (st1 := [.int (pI (¬ (∃ i, i < eO (kd f).toInt n ∧ eOn n (cF40 cx f) (cF40 cy f) i (cx (40 * g + k)).toInt (cy (40 * g + k)).toInt) ∧ par2 (eTg n (cF40 cx f) (cF40 cy f) (cx (40 * g + k)).toInt (cy (40 * g + k)).toInt) (eO (kd f).toInt n)))]) (va_runV (As := [.int (nI f), .int (cx (40 * g + k)), .int (cy (40 * g + k))]) (rest := []) ⟨hx, hb, hml, hown, hts⟩ (k_M_isInside l dC dI cI cZ cF H.size k0 a (upd I0 31 z9) J0 f n kd mn cx cy S1 (cx (40 * g + k)) (cy (40 * g + k)) (by first | with_reducible assumption | omega) (by first | with_reducible assumption | assumption) (by first | with_reducible assumption | omega) (by first | with_reducible assumption | assumption) ((hp_g k hk9).1) ((hp_g k hk9).2)) (csV_183 hts rfl rfl ⟨Nat.le_of_ble_eq_true rfl, Nat.le_of_ble_eq_true rfl⟩) (zPV2 (q0 := 0) (ci := 9) hPc hDc hK hXN rfl rfl) rfl rfl hl.1 rfl (lv_room (Nat.le_of_ble_eq_true rfl)) dX11_isLawfulTo_115 ⟨Nat.le_of_ble_eq_true rfl, Nat.le_of_ble_eq_true rfl⟩) hS hFc hFc rfl (fun t H locs ht hB hk1 hS => ?_)
              obtain ⟨q_23, hP1, hD1⟩ := hB
              rw [ht] at hP1
              obtain ⟨hP, hD⟩ := zn (W2 := [_, _, _, _, _, (oa (a 32) cI 8 q_23), _, _, _, _, _, _, _, _]) hP hD hk1 hFc hP1 hD1 [0, 1, 2, 3, 4, 5] zl_147 zl_147 [0, 1, 2, 3, 4, 5] (by decide +kernel) rfl rfl rfl rfl rfl
              clear hk1 hPc hDc hFc hP1 hD1 ht
              refine zz_i (v := pI (inF (kd f).toInt n (cF40 cx f) (cF40 cy f) (cF40 cx g k).toInt (cF40 cy g k).toInt)) (rfl) ?_
              refine lv_aload_n hx hb dX11_isLawfulTo_118 rfl (lv_at hl 3 rfl) ?_
              refine va_get (D := (dC, dI)) (ci := 9) (v := .ref (a 39)) (C := RX11) (T := TX11) (N := 55) hx hb hts inX11 hown hK hP 0 rfl rfl 39 (Nat.le_of_ble_eq_true rfl) (hts _ mw_1198) (fun _ h9 => h9) rfl dX11_isLawfulTo_119 ?_
              refine lv_bipush (v := 40) hx hb dX11_isLawfulTo_122 rfl ?_
              refine lv_iload_n hx hb dX11_isLawfulTo_124 rfl (lv_at hl 5 rfl) ?_
              refine lv_imul hx hb dX11_isLawfulTo_125 ?_
              refine zz_i (v := nI (40 * g)) (pk_mul 40 g) ?_
              refine lv_iload hx hb dX11_isLawfulTo_126 (lv_at hl 2 rfl) ?_
              refine lv_iadd hx hb dX11_isLawfulTo_128 ?_
              refine zz_i (v := nI (40 * g + k)) (nI_add (40 * g) k) ?_
              have b9_24 : 40 * g + k < 8040 := by omega
              refine z_zald hx hb hK hP 13 1 rfl rfl (e := 40 * g + k) rfl b9_24 (Nat.le_of_ble_eq_true rfl) dX11_isLawfulTo_129 ?_
              refine zz_i (v := pI (IN k)) (hin k (by omega) (by omega)) ?_
              refine lv_icmp_eq (tgt := 135) hx hb dX11_isLawfulTo_130 rfl (fun c_25 => ?_) (fun c_25 => ?_)
              · have c_25 : (pI (inF (kd f).toInt n (cF40 cx f) (cF40 cy f) (cF40 cx g k).toInt (cF40 cy g k).toInt)).toInt = (pI (IN k)).toInt := zc_eq rfl rfl c_25
                refine lv_aload_n hx hb dX11_isLawfulTo_135 rfl (lv_at hl 3 rfl) ?_
                refine va_get (D := (dC, dI)) (ci := 9) (v := .ref (a 1)) (C := RX11) (T := TX11) (N := 55) hx hb hts inX11 hown hK hP 0 rfl rfl 1 (Nat.le_of_ble_eq_true rfl) (hts _ mw_1160) (fun _ h9 => h9) rfl dX11_isLawfulTo_136 ?_
                refine lv_iload_n hx hb dX11_isLawfulTo_139 rfl (lv_at hl 4 rfl) ?_
                have b9_26 : f < 201 := by omega
                refine z_iald hx hb hK hP 1 0 rfl rfl (e := f) rfl b9_26 (Nat.le_of_ble_eq_true rfl) dX11_isLawfulTo_140 ?_
                refine lv_if_eq (tgt := 185) hx hb dX11_isLawfulTo_141 rfl (fun c_27 => ?_) (fun c_27 => ?_)
                · have c_27 : (kd f).toInt = 0 := zc_eq rfl rfl c_27
                  refine lv_iinc (v := nI (k + 1)) (lv' := [(5, .int (nI (k + 1))), (7, .int (cy (40 * g + k))), (6, .int (cx (40 * g + k))), (0, .ref k0), (1, .int (nI f)), (2, .int (nI g)), (3, .int (nI h)), (4, .int (-1))]) hx hb dX11_isLawfulTo_185 hl (k := 2) rfl (nI_add k 1) (Nat.le_of_ble_eq_true rfl) rfl (fun ls hl => ?_)
                  refine lv_goto (tgt := 62) hx hb dX11_isLawfulTo_188 rfl ?_
                  exact ih_62 (k + 1) z9 q_23 T1 P1 Q1 H locs ls (by first | with_reducible assumption | omega) (by first | with_reducible assumption | omega) (by intro j hj; rcases Nat.lt_or_ge j k with h | h; exact hall j h; obtain rfl : j = k := (by first | with_reducible assumption | omega); exact ⟨fun h5 => (by first | (exfalso; omega) | exact zp_ieq.mp (by first | with_reducible assumption | assumption)), fun h0 => (by first | (exfalso; omega) | exact id | assumption)⟩) hP hD hS (lv_sub hl [0, 3, 4, 5, 6, 7] rfl)
                · have c_27 : ¬ (kd f).toInt = 0 := zc_ne rfl rfl c_27
                  refine lv_iload_n hx hb dX11_isLawfulTo_144 rfl (lv_at hl 6 rfl) ?_
                  refine lv_iconst (v := 5) hx hb dX11_isLawfulTo_145 rfl ?_
                  have b9_29 : zlt (h) := show h < 2147483648 by omega
                  refine lv_icmp_eq (tgt := 185) hx hb dX11_isLawfulTo_146 rfl (fun c_28 => ?_) (fun c_28 => ?_)
                  · have c_28 : ((h : Nat) : Int) = 5 := zc_eq (nI_toInt b9_29) rfl c_28
                    exfalso; omega
                  · have c_28 : ¬ ((h : Nat) : Int) = 5 := zc_ne (nI_toInt b9_29) rfl c_28
                    refine lv_iload hx hb dX11_isLawfulTo_149 (lv_at hl 7 rfl) ?_
                    refine lv_iconst (v := (-1)) hx hb dX11_isLawfulTo_151 rfl ?_
                    refine lv_icmp_eq (tgt := 171) hx hb dX11_isLawfulTo_152 rfl (fun c_30 => ?_) (fun c_30 => ?_)
                    · refine lv_aload_n hx hb dX11_isLawfulTo_171 rfl (lv_at hl 3 rfl) ?_
                      refine lv_iload_n hx hb dX11_isLawfulTo_172 rfl (lv_at hl 4 rfl) ?_
                      refine lv_iload hx hb dX11_isLawfulTo_173 (lv_at hl 1 rfl) ?_
                      refine lv_iload hx hb dX11_isLawfulTo_175 (lv_at hl 0 rfl) ?_
                      obtain ⟨hPc, hDc, hFc⟩ := zo_sub (wc := [_, _, _, _, _, _, _, _, _, _]) hP hD hS hA [0, 1, 2, 3, 4, 6, 7, 8, 9, 10] (by decide +kernel) rfl
                      refine zcall (st1 := [.int (pI (∃ e9, e9 < eO (kd f).toInt on ∧ swp on ox oy (cF40 cx f) (cF40 cy f) (cx (40 * g + k)).toInt (cy (40 * g + k)).toInt e9))]) (va_runV (As := [.int (nI f), .int (cx (40 * g + k)), .int (cy (40 * g + k))]) (rest := []) ⟨hx, hb, hml, hown, hts⟩ (k_M_isSwept l dC dI cI cZ cF H.size k0 a (upd I0 31 z9) J0 f on (cx (40 * g + k)) (cy (40 * g + k)) kd mn cx cy T1 P1 Q1 ox oy (hon) (by first | with_reducible assumption | omega) (by first | with_reducible assumption | omega) (by rw [← hon2]; assumption) (by first | with_reducible assumption | omega) (by rw [← hon2]; assumption) (by first | with_reducible assumption | assumption) ((hp_g k hk9).1) ((hp_g k hk9).2)) (csV_184 hts rfl rfl ⟨Nat.le_of_ble_eq_true rfl, Nat.le_of_ble_eq_true rfl⟩) (zPV2 (q0 := 0) (ci := 9) hPc hDc hK hXN rfl rfl) rfl rfl hl.1 rfl (lv_room (Nat.le_of_ble_eq_true rfl)) dX11_isLawfulTo_177 ⟨Nat.le_of_ble_eq_true rfl, Nat.le_of_ble_eq_true rfl⟩) hS hFc hFc rfl (fun t H locs ht hB hk1 hS => ?_)
                      obtain ⟨q_31, q_32, q_33, hP1, hD1⟩ := hB
                      rw [ht] at hP1
                      obtain ⟨hP, hD⟩ := zn (W2 := [(om k0 a (upd I0 31 (nI on)) J0), _, _, _, _, _, (oa (a 40) cI 6 q_31), (oa (a 29) cI 42 q_32), (oa (a 30) cI 42 q_33), _, _, _, _, _]) hP hD hk1 hFc hP1 hD1 zl_151 zl_152 zl_152 zl_151 (by decide +kernel) rfl rfl rfl rfl rfl
                      clear hk1 hPc hDc hFc hP1 hD1 ht
                      refine zz_i (v := pI ((fun k => ∃ e, e < eO (kd f).toInt on ∧ swp on ox oy (cF40 cx f) (cF40 cy f) (cF40 cx g k).toInt (cF40 cy g k).toInt e) k)) (rfl) ?_
                      refine lv_if_eq (tgt := 185) hx hb dX11_isLawfulTo_180 rfl (fun c_34 => ?_) (fun c_34 => ?_)
                      · have c_34 : ¬ ((fun k => ∃ e, e < eO (kd f).toInt on ∧ swp on ox oy (cF40 cx f) (cF40 cy f) (cF40 cx g k).toInt (cF40 cy g k).toInt e) k) := zp_0 c_34
                        refine lv_iinc (v := nI (k + 1)) (lv' := [(5, .int (nI (k + 1))), (7, .int (cy (40 * g + k))), (6, .int (cx (40 * g + k))), (0, .ref k0), (1, .int (nI f)), (2, .int (nI g)), (3, .int (nI h)), (4, .int (-1))]) hx hb dX11_isLawfulTo_185 hl (k := 2) rfl (nI_add k 1) (Nat.le_of_ble_eq_true rfl) rfl (fun ls hl => ?_)
                        refine lv_goto (tgt := 62) hx hb dX11_isLawfulTo_188 rfl ?_
                        exact ih_62 (k + 1) (nI on) q_23 q_31 q_32 q_33 H locs ls (by first | with_reducible assumption | omega) (by first | with_reducible assumption | omega) (by intro j hj; rcases Nat.lt_or_ge j k with h | h; exact hall j h; obtain rfl : j = k := (by first | with_reducible assumption | omega); exact ⟨fun h5 => (by first | (exfalso; omega) | exact zp_ieq.mp (by first | with_reducible assumption | assumption)), fun h0 => (by first | (exfalso; omega) | exact id | assumption)⟩) hP hD hS (lv_sub hl [0, 3, 4, 5, 6, 7] rfl)
                      · have c_34 : (fun k => ∃ e, e < eO (kd f).toInt on ∧ swp on ox oy (cF40 cx f) (cF40 cy f) (cF40 cx g k).toInt (cF40 cy g k).toInt e) k := zp_1 c_34
                        refine lv_iconst (v := 0) hx hb dX11_isLawfulTo_183 rfl ?_
                        obtain ⟨hP9, hD9⟩ := zu_sub (wc := [_, _, _, _, _, _, _, _, _, _, _, _, _, _]) hP hD [true, true, true, true, true, true, true, true, true, true, true, true, true, true] rfl rfl
                        rw [hQ9]
                        exact W.zret (ty := .boolean) (v := 0) hx hb hr (rfl) (fun t ht hW => ⟨⟨congrArg (fun z => Outcome.returned (some (Value.int z))) (show (0 : Int32) = pI (lawTo (ox 0) (oy 0) (kd f).toInt n (cF40 cx f) (cF40 cy f) (kd g).toInt m2 (cF40 cx g) (cF40 cy g) MT WI IN (fun k => ∃ e, e < eO (kd f).toInt on ∧ swp on ox oy (cF40 cx f) (cF40 cy f) (cF40 cx g k).toInt (cF40 cy g k).toInt e)) from (zp_f (fun h => (h.2.2.1 k (by omega)).2 (by omega) (by first | with_reducible assumption | assumption))).symm), (nI on), q_23, q_31, q_32, q_33, by rw [ht]; exact hP9, hD9⟩, hS.F ht⟩) hS.2.2 dX11_isLawfulTo_184
                    · exact absurd (by decide) c_30
              · have c_25 : ¬ (pI (inF (kd f).toInt n (cF40 cx f) (cF40 cy f) (cF40 cx g k).toInt (cF40 cy g k).toInt)).toInt = (pI (IN k)).toInt := zc_ne rfl rfl c_25
                refine lv_iconst (v := 0) hx hb dX11_isLawfulTo_133 rfl ?_
                obtain ⟨hP9, hD9⟩ := zu_sub (wc := [_, _, _, _, _, _, _, _, _, _, _, _, _, _]) hP hD [true, true, true, true, true, true, true, true, true, true, true, true, true, true] rfl rfl
                rw [hQ9]
                exact W.zret (ty := .boolean) (v := 0) hx hb hr (rfl) (fun t ht hW => ⟨⟨congrArg (fun z => Outcome.returned (some (Value.int z))) (show (0 : Int32) = pI (lawTo (ox 0) (oy 0) (kd f).toInt n (cF40 cx f) (cF40 cy f) (kd g).toInt m2 (cF40 cx g) (cF40 cy g) MT WI IN (fun k => ∃ e, e < eO (kd f).toInt on ∧ swp on ox oy (cF40 cx f) (cF40 cy f) (cF40 cx g k).toInt (cF40 cy g k).toInt e)) from (zp_f (fun h => absurd (zp_ieq.mpr ((h.2.2.1 k (by omega)).1 (by omega))) (by first | with_reducible assumption | assumption))).symm), z9, q_23, T1, P1, Q1, by rw [ht]; exact hP9, hD9⟩, hS.F ht⟩) hS.2.2 dX11_isLawfulTo_134
      exact hl_62 _ 0 (I0 31) q_1 T0 P0 Q0 H locs ls (Nat.lt_succ_self _) (by first | with_reducible assumption | omega) (by intro j hj; omega) hP hD hS (lv_sub hl [0, 1, 2, 3, 4, 5] rfl)
    · have c_4 : 5 ≤ (kd g).toInt := zp_1 c_4
      refine lv_aload_n hx hb dX11_isLawfulTo_25 rfl (lv_at hl 0 rfl) ?_
      refine lv_iload_n hx hb dX11_isLawfulTo_26 rfl (lv_at hl 2 rfl) ?_
      refine lv_aload_n hx hb dX11_isLawfulTo_27 rfl (lv_at hl 0 rfl) ?_
      refine va_get (D := (dC, dI)) (ci := 9) (v := .ref (a 12)) (C := RX11) (T := TX11) (N := 55) hx hb hts inX11 hown hK hP 0 rfl rfl 12 (Nat.le_of_ble_eq_true rfl) (hts _ mw_1171) (fun _ h9 => h9) rfl dX11_isLawfulTo_28 ?_
      refine lv_bipush (v := 40) hx hb dX11_isLawfulTo_31 rfl ?_
      refine lv_iload_n hx hb dX11_isLawfulTo_33 rfl (lv_at hl 1 rfl) ?_
      refine lv_imul hx hb dX11_isLawfulTo_34 ?_
      refine zz_i (v := nI (40 * f)) (pk_mul 40 f) ?_
      have b9_35 : 40 * f < 8040 := by omega
      refine z_iald hx hb hK hP 3 0 rfl rfl (e := 40 * f) rfl b9_35 (Nat.le_of_ble_eq_true rfl) dX11_isLawfulTo_35 ?_
      refine lv_aload_n hx hb dX11_isLawfulTo_36 rfl (lv_at hl 0 rfl) ?_
      refine va_get (D := (dC, dI)) (ci := 9) (v := .ref (a 13)) (C := RX11) (T := TX11) (N := 55) hx hb hts inX11 hown hK hP 0 rfl rfl 13 (Nat.le_of_ble_eq_true rfl) (hts _ mw_1172) (fun _ h9 => h9) rfl dX11_isLawfulTo_37 ?_
      refine lv_bipush (v := 40) hx hb dX11_isLawfulTo_40 rfl ?_
      refine lv_iload_n hx hb dX11_isLawfulTo_42 rfl (lv_at hl 1 rfl) ?_
      refine lv_imul hx hb dX11_isLawfulTo_43 ?_
      refine zz_i (v := nI (40 * f)) (pk_mul 40 f) ?_
      refine z_iald hx hb hK hP 4 0 rfl rfl (e := 40 * f) rfl b9_35 (Nat.le_of_ble_eq_true rfl) dX11_isLawfulTo_44 ?_
      obtain ⟨hPc, hDc, hFc⟩ := zo_sub (wc := [_, _, _, _, _, _]) hP hD hS hA [0, 1, 2, 3, 4, 5] (by decide +kernel) rfl
      refine zcall (st1 := [.int (pI (¬ (∃ i, i < eO (kd g).toInt m2 ∧ eOn m2 (cF40 cx g) (cF40 cy g) i (cx (40 * f)).toInt (cy (40 * f)).toInt) ∧ par2 (eTg m2 (cF40 cx g) (cF40 cy g) (cx (40 * f)).toInt (cy (40 * f)).toInt) (eO (kd g).toInt m2)))]) (va_runV (As := [.int (nI g), .int (cx (40 * f)), .int (cy (40 * f))]) (rest := []) ⟨hx, hb, hml, hown, hts⟩ (k_M_isInside l dC dI cI cZ cF H.size k0 a I0 J0 g m2 kd mn cx cy q_1 (cx (40 * f)) (cy (40 * f)) (by first | with_reducible assumption | omega) (by first | with_reducible assumption | assumption) (by first | with_reducible assumption | omega) (by first | with_reducible assumption | assumption) ((hp_f 0 (by first | with_reducible assumption | omega)).1) ((hp_f 0 (by first | with_reducible assumption | omega)).2)) (csV_183 hts rfl rfl ⟨Nat.le_of_ble_eq_true rfl, Nat.le_of_ble_eq_true rfl⟩) (zPV2 (q0 := 0) (ci := 9) hPc hDc hK hXN rfl rfl) rfl rfl hl.1 rfl (lv_room (Nat.le_of_ble_eq_true rfl)) dX11_isLawfulTo_45 ⟨Nat.le_of_ble_eq_true rfl, Nat.le_of_ble_eq_true rfl⟩) hS hFc hFc rfl (fun t H locs ht hB hk1 hS => ?_)
      obtain ⟨q_36, hP1, hD1⟩ := hB
      rw [ht] at hP1
      obtain ⟨hP, hD⟩ := zn (W2 := [_, _, _, _, _, (oa (a 32) cI 8 q_36), _, _, _, _, _, _, _, _]) hP hD hk1 hFc hP1 hD1 [0, 1, 2, 3, 4, 5] zl_147 zl_147 [0, 1, 2, 3, 4, 5] (by decide +kernel) rfl rfl rfl rfl rfl
      clear hk1 hPc hDc hFc hP1 hD1 ht
      refine zz_i (v := pI (inF (kd g).toInt m2 (cF40 cx g) (cF40 cy g) (cF40 cx f 0).toInt (cF40 cy f 0).toInt)) (rfl) ?_
      refine lv_aload_n hx hb dX11_isLawfulTo_48 rfl (lv_at hl 0 rfl) ?_
      refine va_get (D := (dC, dI)) (ci := 9) (v := .ref (a 38)) (C := RX11) (T := TX11) (N := 55) hx hb hts inX11 hown hK hP 0 rfl rfl 38 (Nat.le_of_ble_eq_true rfl) (hts _ mw_1197) (fun _ h9 => h9) rfl dX11_isLawfulTo_49 ?_
      refine lv_iload_n hx hb dX11_isLawfulTo_52 rfl (lv_at hl 2 rfl) ?_
      refine z_zald hx hb hK hP 12 1 rfl rfl (e := g) rfl b9_2 (Nat.le_of_ble_eq_true rfl) dX11_isLawfulTo_53 ?_
      refine zz_i (v := pI WI) (hwi (by omega)) ?_
      refine lv_icmp_eq (tgt := 59) hx hb dX11_isLawfulTo_54 rfl (fun c_37 => ?_) (fun c_37 => ?_)
      · have c_37 : (pI (inF (kd g).toInt m2 (cF40 cx g) (cF40 cy g) (cF40 cx f 0).toInt (cF40 cy f 0).toInt)).toInt = (pI WI).toInt := zc_eq rfl rfl c_37
        refine lv_iconst (v := 0) hx hb dX11_isLawfulTo_59 rfl ?_
        refine lv_istore (lv' := [(5, .int 0), (0, .ref k0), (1, .int (nI f)), (2, .int (nI g)), (3, .int (nI h)), (4, .int (-1))]) hx hb dX11_isLawfulTo_60 hl (Nat.le_of_ble_eq_true rfl) rfl (fun ls hl => ?_)
        have hl_62 : ∀ (n9 : Nat) (k : Nat) (z9 : Int32) (S1 : Nat → Int32) (T1 : Nat → Int32) (P1 : Nat → Int32) (Q1 : Nat → Int32) (H : Heap) (locs : List Loc) (ls : Array Slot), m2 - k < n9 → (k ≤ m2) → (∀ j, j < k → (5 ≤ (kd f).toInt → (inF (kd f).toInt n (cF40 cx f) (cF40 cy f) (cF40 cx g j).toInt (cF40 cy g j).toInt ↔ IN j)) ∧ (¬ (kd f).toInt = 0 → ¬ (fun k => ∃ e, e < eO (kd f).toInt on ∧ swp on ox oy (cF40 cx f) (cF40 cy f) (cF40 cx g k).toInt (cF40 cy g k).toInt e) j)) → va_P (dC, dI) classes [(om k0 a (upd I0 31 z9) J0), (oa (a 1) cI 201 kd), (oa (a 11) cI 201 mn), (oa (a 12) cI 8040 cx), (oa (a 13) cI 8040 cy), (oa (a 32) cI 8 S1), (oa (a 40) cI 6 T1), (oa (a 29) cI 42 P1), (oa (a 30) cI 42 Q1), (oa (a 33) cI 42 ox), (oa (a 34) cI 42 oy), (oa (a 37) cZ 201 mt), (oa (a 38) cZ 201 wi), (oa (a 39) cZ 8040 ins)] H → va_D A [(om k0 a (upd I0 31 z9) J0), (oa (a 1) cI 201 kd), (oa (a 11) cI 201 mn), (oa (a 12) cI 8040 cx), (oa (a 13) cI 8040 cy), (oa (a 32) cI 8 S1), (oa (a 40) cI 6 T1), (oa (a 29) cI 42 P1), (oa (a 30) cI 42 Q1), (oa (a 33) cI 42 ox), (oa (a 34) cI 42 oy), (oa (a 37) cZ 201 mt), (oa (a 38) cZ 201 wi), (oa (a 39) cZ 8040 ins)] → va_S A s.heap H locs → lv_has ls 8 [(5, .int (nI k)), (0, .ref k0), (1, .int (nI f)), (2, .int (nI g)), (3, .int (nI h)), (4, .int (-1))] → W p l e ({ frames := 5, cells := 0, slots := 0, locals := 135 } : Room) s m ([.ref k0, .int (nI f), .int (nI g), .int (nI h), .int (-1)] : List Value).toArray below meth c H locs 0 0 Q9 (F0 m 62 ls []) := by
          intro n9
          induction n9 with
          | zero => intro k z9 S1 T1 P1 Q1 H locs ls hm; exact absurd hm (Nat.not_lt_zero _)
          | succ n9 ih_62 =>
            intro k z9 S1 T1 P1 Q1 H locs ls hm hk hall hP hD hS hl
            refine lv_iload hx hb dX11_isLawfulTo_62 (lv_at hl 0 rfl) ?_
            refine lv_aload_n hx hb dX11_isLawfulTo_64 rfl (lv_at hl 1 rfl) ?_
            refine va_get (D := (dC, dI)) (ci := 9) (v := .ref (a 11)) (C := RX11) (T := TX11) (N := 55) hx hb hts inX11 hown hK hP 0 rfl rfl 11 (Nat.le_of_ble_eq_true rfl) (hts _ mw_1170) (fun _ h9 => h9) rfl dX11_isLawfulTo_65 ?_
            refine lv_iload_n hx hb dX11_isLawfulTo_68 rfl (lv_at hl 3 rfl) ?_
            refine z_iald hx hb hK hP 2 0 rfl rfl (e := g) rfl b9_2 (Nat.le_of_ble_eq_true rfl) dX11_isLawfulTo_69 ?_
            refine zz_i (v := nI m2) (hm_g) ?_
            have b9_39 : zlt (k) := show k < 2147483648 by omega
            have b9_40 : zlt (m2) := show m2 < 2147483648 by omega
            refine lv_icmp_ge (tgt := 191) hx hb dX11_isLawfulTo_70 rfl (fun c_38 => ?_) (fun c_38 => ?_)
            · have c_38 : ((m2 : Nat) : Int) ≤ ((k : Nat) : Int) := zc_le (nI_toInt b9_40) (nI_toInt b9_39) c_38
              refine lv_aload_n hx hb dX11_isLawfulTo_191 rfl (lv_at hl 1 rfl) ?_
              refine va_get (D := (dC, dI)) (ci := 9) (v := .ref (a 1)) (C := RX11) (T := TX11) (N := 55) hx hb hts inX11 hown hK hP 0 rfl rfl 1 (Nat.le_of_ble_eq_true rfl) (hts _ mw_1160) (fun _ h9 => h9) rfl dX11_isLawfulTo_192 ?_
              refine lv_iload_n hx hb dX11_isLawfulTo_195 rfl (lv_at hl 2 rfl) ?_
              have b9_41 : f < 201 := by omega
              refine z_iald hx hb hK hP 1 0 rfl rfl (e := f) rfl b9_41 (Nat.le_of_ble_eq_true rfl) dX11_isLawfulTo_196 ?_
              refine lv_if_ne (tgt := 209) hx hb dX11_isLawfulTo_197 rfl (fun c_42 => ?_) (fun c_42 => ?_)
              · have c_42 : ¬ (kd f).toInt = 0 := zc_ne rfl rfl c_42
                refine lv_iconst (v := 1) hx hb dX11_isLawfulTo_209 rfl ?_
                refine lv_goto (tgt := 214) hx hb dX11_isLawfulTo_210 rfl ?_
                obtain ⟨hP9, hD9⟩ := zu_sub (wc := [_, _, _, _, _, _, _, _, _, _, _, _, _, _]) hP hD [true, true, true, true, true, true, true, true, true, true, true, true, true, true] rfl rfl
                rw [hQ9]
                exact W.zret (ty := .boolean) (v := 1) hx hb hr (rfl) (fun t ht hW => ⟨⟨congrArg (fun z => Outcome.returned (some (Value.int z))) (show (1 : Int32) = pI (lawTo (ox 0) (oy 0) (kd f).toInt n (cF40 cx f) (cF40 cy f) (kd g).toInt m2 (cF40 cx g) (cF40 cy g) MT WI IN (fun k => ∃ e, e < eO (kd f).toInt on ∧ swp on ox oy (cF40 cx f) (cF40 cy f) (cF40 cx g k).toInt (cF40 cy g k).toInt e)) from (zp_t (by first | exact ⟨zp_ieq.mp (by first | with_reducible assumption | assumption), fun h => (by first | (exfalso; omega) | exact zp_ieq.mp (by first | with_reducible assumption | assumption)), fun j hj => hall j (by omega), fun h => (by first | (exfalso; omega) | assumption)⟩ | exact fun h => absurd (h.2.2.2 (by omega)) (by first | with_reducible assumption | assumption))).symm), z9, S1, T1, P1, Q1, by rw [ht]; exact hP9, hD9⟩, hS.F ht⟩) hS.2.2 dX11_isLawfulTo_214
              · have c_42 : (kd f).toInt = 0 := zc_eq rfl rfl c_42
                refine lv_aload_n hx hb dX11_isLawfulTo_200 rfl (lv_at hl 1 rfl) ?_
                refine lv_iload_n hx hb dX11_isLawfulTo_201 rfl (lv_at hl 2 rfl) ?_
                refine lv_iload_n hx hb dX11_isLawfulTo_202 rfl (lv_at hl 3 rfl) ?_
                obtain ⟨hPc, hDc, hFc⟩ := zo_sub (wc := [_, _, _, _, _, _, _, _]) hP hD hS hA [0, 1, 2, 3, 4, 5, 9, 10] (by decide +kernel) rfl
                refine zcall (st1 := [.int (pI (∀ k, k < eO (kd g).toInt m2 → fWy (ox 0).toInt (oy 0).toInt (cx (40 * f)).toInt (cy (40 * f)).toInt m2 (cF40 cx g) (cF40 cy g) k))]) (va_runV (As := [.int (nI f), .int (nI g)]) (rest := []) ⟨hx, hb, hml, hown, hts⟩ (k_M_isFreeWay l dC dI cI cZ cF H.size k0 a (upd I0 31 z9) J0 f g m2 kd mn cx cy S1 ox oy (by first | with_reducible assumption | omega) ((hpo 0 (by first | with_reducible assumption | omega)).1) ((hpo 0 (by first | with_reducible assumption | omega)).2) ((hp_f 0 (by first | with_reducible assumption | omega)).1) ((hp_f 0 (by first | with_reducible assumption | omega)).2) (by first | with_reducible assumption | omega) (by first | with_reducible assumption | assumption) (by first | with_reducible assumption | omega) (by first | with_reducible assumption | assumption)) (csV_181 hts rfl rfl ⟨Nat.le_of_ble_eq_true rfl, Nat.le_of_ble_eq_true rfl⟩) (zPV2 (q0 := 0) (ci := 9) hPc hDc hK hXN rfl rfl) rfl rfl hl.1 rfl (lv_room (Nat.le_of_ble_eq_true rfl)) dX11_isLawfulTo_203 ⟨Nat.le_of_ble_eq_true rfl, Nat.le_of_ble_eq_true rfl⟩) hS hFc hFc rfl (fun t H locs ht hB hk1 hS => ?_)
                obtain ⟨q_43, hP1, hD1⟩ := hB
                rw [ht] at hP1
                obtain ⟨hP, hD⟩ := zn (W2 := [_, _, _, _, _, (oa (a 32) cI 8 q_43), _, _, _, _, _, _, _, _]) hP hD hk1 hFc hP1 hD1 zl_148 zl_149 zl_149 zl_148 (by decide +kernel) rfl rfl rfl rfl rfl
                clear hk1 hPc hDc hFc hP1 hD1 ht
                refine zz_i (v := pI (∀ k, k < eO (kd g).toInt m2 → fWy (ox 0).toInt (oy 0).toInt (cF40 cx f 0).toInt (cF40 cy f 0).toInt m2 (cF40 cx g) (cF40 cy g) k)) (rfl) ?_
                refine lv_if_eq (tgt := 213) hx hb dX11_isLawfulTo_206 rfl (fun c_44 => ?_) (fun c_44 => ?_)
                · have c_44 : ¬ (∀ k, k < eO (kd g).toInt m2 → fWy (ox 0).toInt (oy 0).toInt (cF40 cx f 0).toInt (cF40 cy f 0).toInt m2 (cF40 cx g) (cF40 cy g) k) := zp_0 c_44
                  refine lv_iconst (v := 0) hx hb dX11_isLawfulTo_213 rfl ?_
                  obtain ⟨hP9, hD9⟩ := zu_sub (wc := [_, _, _, _, _, _, _, _, _, _, _, _, _, _]) hP hD [true, true, true, true, true, true, true, true, true, true, true, true, true, true] rfl rfl
                  rw [hQ9]
                  exact W.zret (ty := .boolean) (v := 0) hx hb hr (rfl) (fun t ht hW => ⟨⟨congrArg (fun z => Outcome.returned (some (Value.int z))) (show (0 : Int32) = pI (lawTo (ox 0) (oy 0) (kd f).toInt n (cF40 cx f) (cF40 cy f) (kd g).toInt m2 (cF40 cx g) (cF40 cy g) MT WI IN (fun k => ∃ e, e < eO (kd f).toInt on ∧ swp on ox oy (cF40 cx f) (cF40 cy f) (cF40 cx g k).toInt (cF40 cy g k).toInt e)) from (zp_f (by first | exact ⟨zp_ieq.mp (by first | with_reducible assumption | assumption), fun h => (by first | (exfalso; omega) | exact zp_ieq.mp (by first | with_reducible assumption | assumption)), fun j hj => hall j (by omega), fun h => (by first | (exfalso; omega) | assumption)⟩ | exact fun h => absurd (h.2.2.2 (by omega)) (by first | with_reducible assumption | assumption))).symm), z9, q_43, T1, P1, Q1, by rw [ht]; exact hP9, hD9⟩, hS.F ht⟩) hS.2.2 dX11_isLawfulTo_214
                · have c_44 : ∀ k, k < eO (kd g).toInt m2 → fWy (ox 0).toInt (oy 0).toInt (cF40 cx f 0).toInt (cF40 cy f 0).toInt m2 (cF40 cx g) (cF40 cy g) k := zp_1 c_44
                  refine lv_iconst (v := 1) hx hb dX11_isLawfulTo_209 rfl ?_
                  refine lv_goto (tgt := 214) hx hb dX11_isLawfulTo_210 rfl ?_
                  obtain ⟨hP9, hD9⟩ := zu_sub (wc := [_, _, _, _, _, _, _, _, _, _, _, _, _, _]) hP hD [true, true, true, true, true, true, true, true, true, true, true, true, true, true] rfl rfl
                  rw [hQ9]
                  exact W.zret (ty := .boolean) (v := 1) hx hb hr (rfl) (fun t ht hW => ⟨⟨congrArg (fun z => Outcome.returned (some (Value.int z))) (show (1 : Int32) = pI (lawTo (ox 0) (oy 0) (kd f).toInt n (cF40 cx f) (cF40 cy f) (kd g).toInt m2 (cF40 cx g) (cF40 cy g) MT WI IN (fun k => ∃ e, e < eO (kd f).toInt on ∧ swp on ox oy (cF40 cx f) (cF40 cy f) (cF40 cx g k).toInt (cF40 cy g k).toInt e)) from (zp_t (by first | exact ⟨zp_ieq.mp (by first | with_reducible assumption | assumption), fun h => (by first | (exfalso; omega) | exact zp_ieq.mp (by first | with_reducible assumption | assumption)), fun j hj => hall j (by omega), fun h => (by first | (exfalso; omega) | assumption)⟩ | exact fun h => absurd (h.2.2.2 (by omega)) (by first | with_reducible assumption | assumption))).symm), z9, q_43, T1, P1, Q1, by rw [ht]; exact hP9, hD9⟩, hS.F ht⟩) hS.2.2 dX11_isLawfulTo_214
            · have c_38 : ((k : Nat) : Int) < ((m2 : Nat) : Int) := zc_nle (nI_toInt b9_40) (nI_toInt b9_39) c_38
              have hk9 : k < m2 := (by omega)
              refine lv_aload_n hx hb dX11_isLawfulTo_73 rfl (lv_at hl 1 rfl) ?_
              refine va_get (D := (dC, dI)) (ci := 9) (v := .ref (a 12)) (C := RX11) (T := TX11) (N := 55) hx hb hts inX11 hown hK hP 0 rfl rfl 12 (Nat.le_of_ble_eq_true rfl) (hts _ mw_1171) (fun _ h9 => h9) rfl dX11_isLawfulTo_74 ?_
              refine lv_bipush (v := 40) hx hb dX11_isLawfulTo_77 rfl ?_
              refine lv_iload_n hx hb dX11_isLawfulTo_79 rfl (lv_at hl 3 rfl) ?_
              refine lv_imul hx hb dX11_isLawfulTo_80 ?_
              refine zz_i (v := nI (40 * g)) (pk_mul 40 g) ?_
              refine lv_iload hx hb dX11_isLawfulTo_81 (lv_at hl 0 rfl) ?_
              refine lv_iadd hx hb dX11_isLawfulTo_83 ?_
              refine zz_i (v := nI (40 * g + k)) (nI_add (40 * g) k) ?_
              have b9_45 : 40 * g + k < 8040 := by omega
              refine z_iald hx hb hK hP 3 0 rfl rfl (e := 40 * g + k) rfl b9_45 (Nat.le_of_ble_eq_true rfl) dX11_isLawfulTo_84 ?_
              refine lv_istore (lv' := [(6, .int (cx (40 * g + k))), (5, .int (nI k)), (0, .ref k0), (1, .int (nI f)), (2, .int (nI g)), (3, .int (nI h)), (4, .int (-1))]) hx hb dX11_isLawfulTo_85 hl (Nat.le_of_ble_eq_true rfl) rfl (fun ls hl => ?_)
              refine lv_aload_n hx hb dX11_isLawfulTo_87 rfl (lv_at hl 2 rfl) ?_
              refine va_get (D := (dC, dI)) (ci := 9) (v := .ref (a 13)) (C := RX11) (T := TX11) (N := 55) hx hb hts inX11 hown hK hP 0 rfl rfl 13 (Nat.le_of_ble_eq_true rfl) (hts _ mw_1172) (fun _ h9 => h9) rfl dX11_isLawfulTo_88 ?_
              refine lv_bipush (v := 40) hx hb dX11_isLawfulTo_91 rfl ?_
              refine lv_iload_n hx hb dX11_isLawfulTo_93 rfl (lv_at hl 4 rfl) ?_
              refine lv_imul hx hb dX11_isLawfulTo_94 ?_
              refine zz_i (v := nI (40 * g)) (pk_mul 40 g) ?_
              refine lv_iload hx hb dX11_isLawfulTo_95 (lv_at hl 1 rfl) ?_
              refine lv_iadd hx hb dX11_isLawfulTo_97 ?_
              refine zz_i (v := nI (40 * g + k)) (nI_add (40 * g) k) ?_
              refine z_iald hx hb hK hP 4 0 rfl rfl (e := 40 * g + k) rfl b9_45 (Nat.le_of_ble_eq_true rfl) dX11_isLawfulTo_98 ?_
              refine lv_istore (lv' := [(7, .int (cy (40 * g + k))), (6, .int (cx (40 * g + k))), (5, .int (nI k)), (0, .ref k0), (1, .int (nI f)), (2, .int (nI g)), (3, .int (nI h)), (4, .int (-1))]) hx hb dX11_isLawfulTo_99 hl (Nat.le_of_ble_eq_true rfl) rfl (fun ls hl => ?_)
              refine lv_aload_n hx hb dX11_isLawfulTo_101 rfl (lv_at hl 3 rfl) ?_
              refine lv_iload_n hx hb dX11_isLawfulTo_102 rfl (lv_at hl 4 rfl) ?_
              obtain ⟨hPc, hDc, hFc, hI1⟩ := zi_sub (wc := [_, _]) hP hD hS hA [0, 1] rfl rfl
              refine zcall (st1 := [.int (pI (5 ≤ (kd f).toInt))]) (va_runV (As := [.int (nI f)]) (rest := []) ⟨hx, hb, hml, hown, hts⟩ (k_M_isRing l dC dI cI cZ cF H.size k0 a (upd I0 31 z9) J0 f kd (by first | with_reducible assumption | omega)) (csV_165 hts rfl rfl ⟨Nat.le_of_ble_eq_true rfl, Nat.le_of_ble_eq_true rfl⟩) (zPV2 (q0 := 0) (ci := 9) hPc hDc hK hXN rfl rfl) rfl rfl hl.1 rfl (lv_room (Nat.le_of_ble_eq_true rfl)) dX11_isLawfulTo_103 ⟨Nat.le_of_ble_eq_true rfl, Nat.le_of_ble_eq_true rfl⟩) hS hFc hFc rfl (fun t H locs ht hB hk1 hS => ?_)
              obtain ⟨hP1, hD1⟩ := hB
              rw [ht] at hP1
              replace hP := z0 hP hD hk1 hP1 hI1
              clear hk1 hPc hDc hFc hP1 hD1 ht hI1
              refine lv_if_eq (tgt := 135) hx hb dX11_isLawfulTo_106 rfl (fun c_46 => ?_) (fun c_46 => ?_)
              · have c_46 : ¬ (5 ≤ (kd f).toInt) := zp_0 c_46
                refine lv_aload_n hx hb dX11_isLawfulTo_135 rfl (lv_at hl 3 rfl) ?_
                refine va_get (D := (dC, dI)) (ci := 9) (v := .ref (a 1)) (C := RX11) (T := TX11) (N := 55) hx hb hts inX11 hown hK hP 0 rfl rfl 1 (Nat.le_of_ble_eq_true rfl) (hts _ mw_1160) (fun _ h9 => h9) rfl dX11_isLawfulTo_136 ?_
                refine lv_iload_n hx hb dX11_isLawfulTo_139 rfl (lv_at hl 4 rfl) ?_
                have b9_47 : f < 201 := by omega
                refine z_iald hx hb hK hP 1 0 rfl rfl (e := f) rfl b9_47 (Nat.le_of_ble_eq_true rfl) dX11_isLawfulTo_140 ?_
                refine lv_if_eq (tgt := 185) hx hb dX11_isLawfulTo_141 rfl (fun c_48 => ?_) (fun c_48 => ?_)
                · have c_48 : (kd f).toInt = 0 := zc_eq rfl rfl c_48
                  refine lv_iinc (v := nI (k + 1)) (lv' := [(5, .int (nI (k + 1))), (7, .int (cy (40 * g + k))), (6, .int (cx (40 * g + k))), (0, .ref k0), (1, .int (nI f)), (2, .int (nI g)), (3, .int (nI h)), (4, .int (-1))]) hx hb dX11_isLawfulTo_185 hl (k := 2) rfl (nI_add k 1) (Nat.le_of_ble_eq_true rfl) rfl (fun ls hl => ?_)
                  refine lv_goto (tgt := 62) hx hb dX11_isLawfulTo_188 rfl ?_
                  exact ih_62 (k + 1) z9 S1 T1 P1 Q1 H locs ls (by first | with_reducible assumption | omega) (by first | with_reducible assumption | omega) (by intro j hj; rcases Nat.lt_or_ge j k with h | h; exact hall j h; obtain rfl : j = k := (by first | with_reducible assumption | omega); exact ⟨fun h5 => (by first | (exfalso; omega) | exact zp_ieq.mp (by first | with_reducible assumption | assumption)), fun h0 => (by first | (exfalso; omega) | exact id | assumption)⟩) hP hD hS (lv_sub hl [0, 3, 4, 5, 6, 7] rfl)
                · have c_48 : ¬ (kd f).toInt = 0 := zc_ne rfl rfl c_48
                  refine lv_iload_n hx hb dX11_isLawfulTo_144 rfl (lv_at hl 6 rfl) ?_
                  refine lv_iconst (v := 5) hx hb dX11_isLawfulTo_145 rfl ?_
                  have b9_50 : zlt (h) := show h < 2147483648 by omega
                  refine lv_icmp_eq (tgt := 185) hx hb dX11_isLawfulTo_146 rfl (fun c_49 => ?_) (fun c_49 => ?_)
                  · have c_49 : ((h : Nat) : Int) = 5 := zc_eq (nI_toInt b9_50) rfl c_49
                    exfalso; omega
                  · have c_49 : ¬ ((h : Nat) : Int) = 5 := zc_ne (nI_toInt b9_50) rfl c_49
                    refine lv_iload hx hb dX11_isLawfulTo_149 (lv_at hl 7 rfl) ?_
                    refine lv_iconst (v := (-1)) hx hb dX11_isLawfulTo_151 rfl ?_
                    refine lv_icmp_eq (tgt := 171) hx hb dX11_isLawfulTo_152 rfl (fun c_51 => ?_) (fun c_51 => ?_)
                    · refine lv_aload_n hx hb dX11_isLawfulTo_171 rfl (lv_at hl 3 rfl) ?_
                      refine lv_iload_n hx hb dX11_isLawfulTo_172 rfl (lv_at hl 4 rfl) ?_
                      refine lv_iload hx hb dX11_isLawfulTo_173 (lv_at hl 1 rfl) ?_
                      refine lv_iload hx hb dX11_isLawfulTo_175 (lv_at hl 0 rfl) ?_
                      obtain ⟨hPc, hDc, hFc⟩ := zo_sub (wc := [_, _, _, _, _, _, _, _, _, _]) hP hD hS hA [0, 1, 2, 3, 4, 6, 7, 8, 9, 10] (by decide +kernel) rfl
                      refine zcall (st1 := [.int (pI (∃ e9, e9 < eO (kd f).toInt on ∧ swp on ox oy (cF40 cx f) (cF40 cy f) (cx (40 * g + k)).toInt (cy (40 * g + k)).toInt e9))]) (va_runV (As := [.int (nI f), .int (cx (40 * g + k)), .int (cy (40 * g + k))]) (rest := []) ⟨hx, hb, hml, hown, hts⟩ (k_M_isSwept l dC dI cI cZ cF H.size k0 a (upd I0 31 z9) J0 f on (cx (40 * g + k)) (cy (40 * g + k)) kd mn cx cy T1 P1 Q1 ox oy (hon) (by first | with_reducible assumption | omega) (by first | with_reducible assumption | omega) (by rw [← hon2]; assumption) (by first | with_reducible assumption | omega) (by rw [← hon2]; assumption) (by first | with_reducible assumption | assumption) ((hp_g k hk9).1) ((hp_g k hk9).2)) (csV_184 hts rfl rfl ⟨Nat.le_of_ble_eq_true rfl, Nat.le_of_ble_eq_true rfl⟩) (zPV2 (q0 := 0) (ci := 9) hPc hDc hK hXN rfl rfl) rfl rfl hl.1 rfl (lv_room (Nat.le_of_ble_eq_true rfl)) dX11_isLawfulTo_177 ⟨Nat.le_of_ble_eq_true rfl, Nat.le_of_ble_eq_true rfl⟩) hS hFc hFc rfl (fun t H locs ht hB hk1 hS => ?_)
                      obtain ⟨q_52, q_53, q_54, hP1, hD1⟩ := hB
                      rw [ht] at hP1
                      obtain ⟨hP, hD⟩ := zn (W2 := [(om k0 a (upd I0 31 (nI on)) J0), _, _, _, _, _, (oa (a 40) cI 6 q_52), (oa (a 29) cI 42 q_53), (oa (a 30) cI 42 q_54), _, _, _, _, _]) hP hD hk1 hFc hP1 hD1 zl_151 zl_152 zl_152 zl_151 (by decide +kernel) rfl rfl rfl rfl rfl
                      clear hk1 hPc hDc hFc hP1 hD1 ht
                      refine zz_i (v := pI ((fun k => ∃ e, e < eO (kd f).toInt on ∧ swp on ox oy (cF40 cx f) (cF40 cy f) (cF40 cx g k).toInt (cF40 cy g k).toInt e) k)) (rfl) ?_
                      refine lv_if_eq (tgt := 185) hx hb dX11_isLawfulTo_180 rfl (fun c_55 => ?_) (fun c_55 => ?_)
                      · have c_55 : ¬ ((fun k => ∃ e, e < eO (kd f).toInt on ∧ swp on ox oy (cF40 cx f) (cF40 cy f) (cF40 cx g k).toInt (cF40 cy g k).toInt e) k) := zp_0 c_55
                        refine lv_iinc (v := nI (k + 1)) (lv' := [(5, .int (nI (k + 1))), (7, .int (cy (40 * g + k))), (6, .int (cx (40 * g + k))), (0, .ref k0), (1, .int (nI f)), (2, .int (nI g)), (3, .int (nI h)), (4, .int (-1))]) hx hb dX11_isLawfulTo_185 hl (k := 2) rfl (nI_add k 1) (Nat.le_of_ble_eq_true rfl) rfl (fun ls hl => ?_)
                        refine lv_goto (tgt := 62) hx hb dX11_isLawfulTo_188 rfl ?_
                        exact ih_62 (k + 1) (nI on) S1 q_52 q_53 q_54 H locs ls (by first | with_reducible assumption | omega) (by first | with_reducible assumption | omega) (by intro j hj; rcases Nat.lt_or_ge j k with h | h; exact hall j h; obtain rfl : j = k := (by first | with_reducible assumption | omega); exact ⟨fun h5 => (by first | (exfalso; omega) | exact zp_ieq.mp (by first | with_reducible assumption | assumption)), fun h0 => (by first | (exfalso; omega) | exact id | assumption)⟩) hP hD hS (lv_sub hl [0, 3, 4, 5, 6, 7] rfl)
                      · have c_55 : (fun k => ∃ e, e < eO (kd f).toInt on ∧ swp on ox oy (cF40 cx f) (cF40 cy f) (cF40 cx g k).toInt (cF40 cy g k).toInt e) k := zp_1 c_55
                        refine lv_iconst (v := 0) hx hb dX11_isLawfulTo_183 rfl ?_
                        obtain ⟨hP9, hD9⟩ := zu_sub (wc := [_, _, _, _, _, _, _, _, _, _, _, _, _, _]) hP hD [true, true, true, true, true, true, true, true, true, true, true, true, true, true] rfl rfl
                        rw [hQ9]
                        exact W.zret (ty := .boolean) (v := 0) hx hb hr (rfl) (fun t ht hW => ⟨⟨congrArg (fun z => Outcome.returned (some (Value.int z))) (show (0 : Int32) = pI (lawTo (ox 0) (oy 0) (kd f).toInt n (cF40 cx f) (cF40 cy f) (kd g).toInt m2 (cF40 cx g) (cF40 cy g) MT WI IN (fun k => ∃ e, e < eO (kd f).toInt on ∧ swp on ox oy (cF40 cx f) (cF40 cy f) (cF40 cx g k).toInt (cF40 cy g k).toInt e)) from (zp_f (fun h => (h.2.2.1 k (by omega)).2 (by omega) (by first | with_reducible assumption | assumption))).symm), (nI on), S1, q_52, q_53, q_54, by rw [ht]; exact hP9, hD9⟩, hS.F ht⟩) hS.2.2 dX11_isLawfulTo_184
                    · exact absurd (by decide) c_51
              · have c_46 : 5 ≤ (kd f).toInt := zp_1 c_46
                refine lv_aload_n hx hb dX11_isLawfulTo_109 rfl (lv_at hl 3 rfl) ?_
                refine lv_iload_n hx hb dX11_isLawfulTo_110 rfl (lv_at hl 4 rfl) ?_
                refine lv_iload hx hb dX11_isLawfulTo_111 (lv_at hl 1 rfl) ?_
                refine lv_iload hx hb dX11_isLawfulTo_113 (lv_at hl 0 rfl) ?_
                obtain ⟨hPc, hDc, hFc⟩ := zo_sub (wc := [_, _, _, _, _, _]) hP hD hS hA [0, 1, 2, 3, 4, 5] (by decide +kernel) rfl
                refine zcall (st1 := [.int (pI (¬ (∃ i, i < eO (kd f).toInt n ∧ eOn n (cF40 cx f) (cF40 cy f) i (cx (40 * g + k)).toInt (cy (40 * g + k)).toInt) ∧ par2 (eTg n (cF40 cx f) (cF40 cy f) (cx (40 * g + k)).toInt (cy (40 * g + k)).toInt) (eO (kd f).toInt n)))]) (va_runV (As := [.int (nI f), .int (cx (40 * g + k)), .int (cy (40 * g + k))]) (rest := []) ⟨hx, hb, hml, hown, hts⟩ (k_M_isInside l dC dI cI cZ cF H.size k0 a (upd I0 31 z9) J0 f n kd mn cx cy S1 (cx (40 * g + k)) (cy (40 * g + k)) (by first | with_reducible assumption | omega) (by first | with_reducible assumption | assumption) (by first | with_reducible assumption | omega) (by first | with_reducible assumption | assumption) ((hp_g k hk9).1) ((hp_g k hk9).2)) (csV_183 hts rfl rfl ⟨Nat.le_of_ble_eq_true rfl, Nat.le_of_ble_eq_true rfl⟩) (zPV2 (q0 := 0) (ci := 9) hPc hDc hK hXN rfl rfl) rfl rfl hl.1 rfl (lv_room (Nat.le_of_ble_eq_true rfl)) dX11_isLawfulTo_115 ⟨Nat.le_of_ble_eq_true rfl, Nat.le_of_ble_eq_true rfl⟩) hS hFc hFc rfl (fun t H locs ht hB hk1 hS => ?_)
                obtain ⟨q_56, hP1, hD1⟩ := hB
                rw [ht] at hP1
                obtain ⟨hP, hD⟩ := zn (W2 := [_, _, _, _, _, (oa (a 32) cI 8 q_56), _, _, _, _, _, _, _, _]) hP hD hk1 hFc hP1 hD1 [0, 1, 2, 3, 4, 5] zl_147 zl_147 [0, 1, 2, 3, 4, 5] (by decide +kernel) rfl rfl rfl rfl rfl
                clear hk1 hPc hDc hFc hP1 hD1 ht
                refine zz_i (v := pI (inF (kd f).toInt n (cF40 cx f) (cF40 cy f) (cF40 cx g k).toInt (cF40 cy g k).toInt)) (rfl) ?_
                refine lv_aload_n hx hb dX11_isLawfulTo_118 rfl (lv_at hl 3 rfl) ?_
                refine va_get (D := (dC, dI)) (ci := 9) (v := .ref (a 39)) (C := RX11) (T := TX11) (N := 55) hx hb hts inX11 hown hK hP 0 rfl rfl 39 (Nat.le_of_ble_eq_true rfl) (hts _ mw_1198) (fun _ h9 => h9) rfl dX11_isLawfulTo_119 ?_
                refine lv_bipush (v := 40) hx hb dX11_isLawfulTo_122 rfl ?_
                refine lv_iload_n hx hb dX11_isLawfulTo_124 rfl (lv_at hl 5 rfl) ?_
                refine lv_imul hx hb dX11_isLawfulTo_125 ?_
                refine zz_i (v := nI (40 * g)) (pk_mul 40 g) ?_
                refine lv_iload hx hb dX11_isLawfulTo_126 (lv_at hl 2 rfl) ?_
                refine lv_iadd hx hb dX11_isLawfulTo_128 ?_
                refine zz_i (v := nI (40 * g + k)) (nI_add (40 * g) k) ?_
                have b9_57 : 40 * g + k < 8040 := by omega
                refine z_zald hx hb hK hP 13 1 rfl rfl (e := 40 * g + k) rfl b9_57 (Nat.le_of_ble_eq_true rfl) dX11_isLawfulTo_129 ?_
                refine zz_i (v := pI (IN k)) (hin k (by omega) (by omega)) ?_
                refine lv_icmp_eq (tgt := 135) hx hb dX11_isLawfulTo_130 rfl (fun c_58 => ?_) (fun c_58 => ?_)
                · have c_58 : (pI (inF (kd f).toInt n (cF40 cx f) (cF40 cy f) (cF40 cx g k).toInt (cF40 cy g k).toInt)).toInt = (pI (IN k)).toInt := zc_eq rfl rfl c_58
                  refine lv_aload_n hx hb dX11_isLawfulTo_135 rfl (lv_at hl 3 rfl) ?_
                  refine va_get (D := (dC, dI)) (ci := 9) (v := .ref (a 1)) (C := RX11) (T := TX11) (N := 55) hx hb hts inX11 hown hK hP 0 rfl rfl 1 (Nat.le_of_ble_eq_true rfl) (hts _ mw_1160) (fun _ h9 => h9) rfl dX11_isLawfulTo_136 ?_
                  refine lv_iload_n hx hb dX11_isLawfulTo_139 rfl (lv_at hl 4 rfl) ?_
                  have b9_59 : f < 201 := by omega
                  refine z_iald hx hb hK hP 1 0 rfl rfl (e := f) rfl b9_59 (Nat.le_of_ble_eq_true rfl) dX11_isLawfulTo_140 ?_
                  refine lv_if_eq (tgt := 185) hx hb dX11_isLawfulTo_141 rfl (fun c_60 => ?_) (fun c_60 => ?_)
                  · have c_60 : (kd f).toInt = 0 := zc_eq rfl rfl c_60
                    refine lv_iinc (v := nI (k + 1)) (lv' := [(5, .int (nI (k + 1))), (7, .int (cy (40 * g + k))), (6, .int (cx (40 * g + k))), (0, .ref k0), (1, .int (nI f)), (2, .int (nI g)), (3, .int (nI h)), (4, .int (-1))]) hx hb dX11_isLawfulTo_185 hl (k := 2) rfl (nI_add k 1) (Nat.le_of_ble_eq_true rfl) rfl (fun ls hl => ?_)
                    refine lv_goto (tgt := 62) hx hb dX11_isLawfulTo_188 rfl ?_
                    exact ih_62 (k + 1) z9 q_56 T1 P1 Q1 H locs ls (by first | with_reducible assumption | omega) (by first | with_reducible assumption | omega) (by intro j hj; rcases Nat.lt_or_ge j k with h | h; exact hall j h; obtain rfl : j = k := (by first | with_reducible assumption | omega); exact ⟨fun h5 => (by first | (exfalso; omega) | exact zp_ieq.mp (by first | with_reducible assumption | assumption)), fun h0 => (by first | (exfalso; omega) | exact id | assumption)⟩) hP hD hS (lv_sub hl [0, 3, 4, 5, 6, 7] rfl)
                  · have c_60 : ¬ (kd f).toInt = 0 := zc_ne rfl rfl c_60
                    refine lv_iload_n hx hb dX11_isLawfulTo_144 rfl (lv_at hl 6 rfl) ?_
                    refine lv_iconst (v := 5) hx hb dX11_isLawfulTo_145 rfl ?_
                    have b9_62 : zlt (h) := show h < 2147483648 by omega
                    refine lv_icmp_eq (tgt := 185) hx hb dX11_isLawfulTo_146 rfl (fun c_61 => ?_) (fun c_61 => ?_)
                    · have c_61 : ((h : Nat) : Int) = 5 := zc_eq (nI_toInt b9_62) rfl c_61
                      exfalso; omega
                    · have c_61 : ¬ ((h : Nat) : Int) = 5 := zc_ne (nI_toInt b9_62) rfl c_61
                      refine lv_iload hx hb dX11_isLawfulTo_149 (lv_at hl 7 rfl) ?_
                      refine lv_iconst (v := (-1)) hx hb dX11_isLawfulTo_151 rfl ?_
                      refine lv_icmp_eq (tgt := 171) hx hb dX11_isLawfulTo_152 rfl (fun c_63 => ?_) (fun c_63 => ?_)
                      · refine lv_aload_n hx hb dX11_isLawfulTo_171 rfl (lv_at hl 3 rfl) ?_
                        refine lv_iload_n hx hb dX11_isLawfulTo_172 rfl (lv_at hl 4 rfl) ?_
                        refine lv_iload hx hb dX11_isLawfulTo_173 (lv_at hl 1 rfl) ?_
                        refine lv_iload hx hb dX11_isLawfulTo_175 (lv_at hl 0 rfl) ?_
                        obtain ⟨hPc, hDc, hFc⟩ := zo_sub (wc := [_, _, _, _, _, _, _, _, _, _]) hP hD hS hA [0, 1, 2, 3, 4, 6, 7, 8, 9, 10] (by decide +kernel) rfl
                        refine zcall (st1 := [.int (pI (∃ e9, e9 < eO (kd f).toInt on ∧ swp on ox oy (cF40 cx f) (cF40 cy f) (cx (40 * g + k)).toInt (cy (40 * g + k)).toInt e9))]) (va_runV (As := [.int (nI f), .int (cx (40 * g + k)), .int (cy (40 * g + k))]) (rest := []) ⟨hx, hb, hml, hown, hts⟩ (k_M_isSwept l dC dI cI cZ cF H.size k0 a (upd I0 31 z9) J0 f on (cx (40 * g + k)) (cy (40 * g + k)) kd mn cx cy T1 P1 Q1 ox oy (hon) (by first | with_reducible assumption | omega) (by first | with_reducible assumption | omega) (by rw [← hon2]; assumption) (by first | with_reducible assumption | omega) (by rw [← hon2]; assumption) (by first | with_reducible assumption | assumption) ((hp_g k hk9).1) ((hp_g k hk9).2)) (csV_184 hts rfl rfl ⟨Nat.le_of_ble_eq_true rfl, Nat.le_of_ble_eq_true rfl⟩) (zPV2 (q0 := 0) (ci := 9) hPc hDc hK hXN rfl rfl) rfl rfl hl.1 rfl (lv_room (Nat.le_of_ble_eq_true rfl)) dX11_isLawfulTo_177 ⟨Nat.le_of_ble_eq_true rfl, Nat.le_of_ble_eq_true rfl⟩) hS hFc hFc rfl (fun t H locs ht hB hk1 hS => ?_)
                        obtain ⟨q_64, q_65, q_66, hP1, hD1⟩ := hB
                        rw [ht] at hP1
                        obtain ⟨hP, hD⟩ := zn (W2 := [(om k0 a (upd I0 31 (nI on)) J0), _, _, _, _, _, (oa (a 40) cI 6 q_64), (oa (a 29) cI 42 q_65), (oa (a 30) cI 42 q_66), _, _, _, _, _]) hP hD hk1 hFc hP1 hD1 zl_151 zl_152 zl_152 zl_151 (by decide +kernel) rfl rfl rfl rfl rfl
                        clear hk1 hPc hDc hFc hP1 hD1 ht
                        refine zz_i (v := pI ((fun k => ∃ e, e < eO (kd f).toInt on ∧ swp on ox oy (cF40 cx f) (cF40 cy f) (cF40 cx g k).toInt (cF40 cy g k).toInt e) k)) (rfl) ?_
                        refine lv_if_eq (tgt := 185) hx hb dX11_isLawfulTo_180 rfl (fun c_67 => ?_) (fun c_67 => ?_)
                        · have c_67 : ¬ ((fun k => ∃ e, e < eO (kd f).toInt on ∧ swp on ox oy (cF40 cx f) (cF40 cy f) (cF40 cx g k).toInt (cF40 cy g k).toInt e) k) := zp_0 c_67
                          refine lv_iinc (v := nI (k + 1)) (lv' := [(5, .int (nI (k + 1))), (7, .int (cy (40 * g + k))), (6, .int (cx (40 * g + k))), (0, .ref k0), (1, .int (nI f)), (2, .int (nI g)), (3, .int (nI h)), (4, .int (-1))]) hx hb dX11_isLawfulTo_185 hl (k := 2) rfl (nI_add k 1) (Nat.le_of_ble_eq_true rfl) rfl (fun ls hl => ?_)
                          refine lv_goto (tgt := 62) hx hb dX11_isLawfulTo_188 rfl ?_
                          exact ih_62 (k + 1) (nI on) q_56 q_64 q_65 q_66 H locs ls (by first | with_reducible assumption | omega) (by first | with_reducible assumption | omega) (by intro j hj; rcases Nat.lt_or_ge j k with h | h; exact hall j h; obtain rfl : j = k := (by first | with_reducible assumption | omega); exact ⟨fun h5 => (by first | (exfalso; omega) | exact zp_ieq.mp (by first | with_reducible assumption | assumption)), fun h0 => (by first | (exfalso; omega) | exact id | assumption)⟩) hP hD hS (lv_sub hl [0, 3, 4, 5, 6, 7] rfl)
                        · have c_67 : (fun k => ∃ e, e < eO (kd f).toInt on ∧ swp on ox oy (cF40 cx f) (cF40 cy f) (cF40 cx g k).toInt (cF40 cy g k).toInt e) k := zp_1 c_67
                          refine lv_iconst (v := 0) hx hb dX11_isLawfulTo_183 rfl ?_
                          obtain ⟨hP9, hD9⟩ := zu_sub (wc := [_, _, _, _, _, _, _, _, _, _, _, _, _, _]) hP hD [true, true, true, true, true, true, true, true, true, true, true, true, true, true] rfl rfl
                          rw [hQ9]
                          exact W.zret (ty := .boolean) (v := 0) hx hb hr (rfl) (fun t ht hW => ⟨⟨congrArg (fun z => Outcome.returned (some (Value.int z))) (show (0 : Int32) = pI (lawTo (ox 0) (oy 0) (kd f).toInt n (cF40 cx f) (cF40 cy f) (kd g).toInt m2 (cF40 cx g) (cF40 cy g) MT WI IN (fun k => ∃ e, e < eO (kd f).toInt on ∧ swp on ox oy (cF40 cx f) (cF40 cy f) (cF40 cx g k).toInt (cF40 cy g k).toInt e)) from (zp_f (fun h => (h.2.2.1 k (by omega)).2 (by omega) (by first | with_reducible assumption | assumption))).symm), (nI on), q_56, q_64, q_65, q_66, by rw [ht]; exact hP9, hD9⟩, hS.F ht⟩) hS.2.2 dX11_isLawfulTo_184
                      · exact absurd (by decide) c_63
                · have c_58 : ¬ (pI (inF (kd f).toInt n (cF40 cx f) (cF40 cy f) (cF40 cx g k).toInt (cF40 cy g k).toInt)).toInt = (pI (IN k)).toInt := zc_ne rfl rfl c_58
                  refine lv_iconst (v := 0) hx hb dX11_isLawfulTo_133 rfl ?_
                  obtain ⟨hP9, hD9⟩ := zu_sub (wc := [_, _, _, _, _, _, _, _, _, _, _, _, _, _]) hP hD [true, true, true, true, true, true, true, true, true, true, true, true, true, true] rfl rfl
                  rw [hQ9]
                  exact W.zret (ty := .boolean) (v := 0) hx hb hr (rfl) (fun t ht hW => ⟨⟨congrArg (fun z => Outcome.returned (some (Value.int z))) (show (0 : Int32) = pI (lawTo (ox 0) (oy 0) (kd f).toInt n (cF40 cx f) (cF40 cy f) (kd g).toInt m2 (cF40 cx g) (cF40 cy g) MT WI IN (fun k => ∃ e, e < eO (kd f).toInt on ∧ swp on ox oy (cF40 cx f) (cF40 cy f) (cF40 cx g k).toInt (cF40 cy g k).toInt e)) from (zp_f (fun h => absurd (zp_ieq.mpr ((h.2.2.1 k (by omega)).1 (by omega))) (by first | with_reducible assumption | assumption))).symm), z9, q_56, T1, P1, Q1, by rw [ht]; exact hP9, hD9⟩, hS.F ht⟩) hS.2.2 dX11_isLawfulTo_134
        exact hl_62 _ 0 (I0 31) q_36 T0 P0 Q0 H locs ls (Nat.lt_succ_self _) (by first | with_reducible assumption | omega) (by intro j hj; omega) hP hD hS (lv_sub hl [0, 1, 2, 3, 4, 5] rfl)
      · have c_37 : ¬ (pI (inF (kd g).toInt m2 (cF40 cx g) (cF40 cy g) (cF40 cx f 0).toInt (cF40 cy f 0).toInt)).toInt = (pI WI).toInt := zc_ne rfl rfl c_37
        refine lv_iconst (v := 0) hx hb dX11_isLawfulTo_57 rfl ?_
        obtain ⟨hP9, hD9⟩ := zu_sub (wc := [_, _, _, _, _, _, _, _, _, _, _, _, _, _]) hP hD [true, true, true, true, true, true, true, true, true, true, true, true, true, true] rfl rfl
        rw [hQ9]
        exact W.zret (ty := .boolean) (v := 0) hx hb hr (rfl) (fun t ht hW => ⟨⟨congrArg (fun z => Outcome.returned (some (Value.int z))) (show (0 : Int32) = pI (lawTo (ox 0) (oy 0) (kd f).toInt n (cF40 cx f) (cF40 cy f) (kd g).toInt m2 (cF40 cx g) (cF40 cy g) MT WI IN (fun k => ∃ e, e < eO (kd f).toInt on ∧ swp on ox oy (cF40 cx f) (cF40 cy f) (cF40 cx g k).toInt (cF40 cy g k).toInt e)) from (zp_f (fun h => absurd (zp_ieq.mpr (h.2.1 (by omega))) (by first | with_reducible assumption | assumption))).symm), (I0 31), q_36, T0, P0, Q0, by rw [ht]; exact hP9, hD9⟩, hS.F ht⟩) hS.2.2 dX11_isLawfulTo_58
  · have c_3 : ¬ (pI (mtF (kd f).toInt n (cF40 cx f) (cF40 cy f) (kd g).toInt m2 (cF40 cx g) (cF40 cy g))).toInt = (pI MT).toInt := zc_ne rfl rfl c_3
    refine lv_iconst (v := 0) hx hb dX11_isLawfulTo_15 rfl ?_
    obtain ⟨hP9, hD9⟩ := zu_sub (wc := [_, _, _, _, _, _, _, _, _, _, _, _, _, _]) hP hD [true, true, true, true, true, true, true, true, true, true, true, true, true, true] rfl rfl
    rw [hQ9]
    exact W.zret (ty := .boolean) (v := 0) hx hb hr (rfl) (fun t ht hW => ⟨⟨congrArg (fun z => Outcome.returned (some (Value.int z))) (show (0 : Int32) = pI (lawTo (ox 0) (oy 0) (kd f).toInt n (cF40 cx f) (cF40 cy f) (kd g).toInt m2 (cF40 cx g) (cF40 cy g) MT WI IN (fun k => ∃ e, e < eO (kd f).toInt on ∧ swp on ox oy (cF40 cx f) (cF40 cy f) (cF40 cx g k).toInt (cF40 cy g k).toInt e)) from (zp_f (fun h => absurd (zp_ieq.mpr h.1) (by first | with_reducible assumption | assumption))).symm), (I0 31), q_1, T0, P0, Q0, by rw [ht]; exact hP9, hD9⟩, hS.F ht⟩) hS.2.2 dX11_isLawfulTo_16
end
section
set_option maxHeartbeats 4000000 in
set_option maxRecDepth 100000 in
theorem k_M_refuse_7 (l : Launch) (dC : Nat → ClassId) (dI : Nat → Nat → Nat) (cI cZ cF : ClassId) (sz : Nat) (k0 : Nat) (a : Nat → Nat) (I0 : Nat → Int32) (J0 : Nat → Int64) : zM l yX11_refuse cX11_refuse 2 (some .int) ({ frames := 0, cells := 0, slots := 0, locals := 0 } : Room) [.ref k0, .int 7] (dC, dI) (zTy cI cZ cF) [(om k0 a I0 J0)] sz (some (.int (-1))) (fun A t => zPD (dC, dI) classes A [(om k0 a (upd (upd I0 14 7) 15 (I0 15 + 1)) J0)] t.heap) 0 0 := by
  refine zIn (own := "ScaleShopModel") (loc := [(0, .ref k0), (1, .int 7)]) rfl rfl rfl rfl (fun p e s m below meth c hx hb hr hts hown hlocks hml hnm9 A hA hS hP hD hK hXN Q9 hQ9 ls hl => ?_)
  refine lv_aload_n hx hb dX11_refuse_0 rfl (lv_at hl 0 rfl) ?_
  refine lv_iload_n hx hb dX11_refuse_1 rfl (lv_at hl 1 rfl) ?_
  refine va_put (D := (dC, dI)) (ci := 9) (v := .int 7) (ty := .int) (C := RX11) (T := TX11) (N := 55) hx hb hts inX11 tyX11 tyX11_ok nmX11 hown hK hP hD hS 0 rfl rfl 14 (by decide) (hts _ mw_1173) (fun _ h9 => h9) rfl (by decide +kernel) rfl rfl (Nat.le_of_ble_eq_true rfl) dX11_refuse_2 (fun H locs hP hD hS => ?_)
  obtain ⟨hP, hD⟩ := zre (W2 := [(om k0 a (upd I0 14 7) J0)]) hP hD rfl
  refine lv_aload_n hx hb dX11_refuse_5 rfl (lv_at hl 0 rfl) ?_
  refine lv_dup hx hb dX11_refuse_6 rfl ?_
  refine va_get (D := (dC, dI)) (ci := 9) (v := .int (I0 15)) (C := RX11) (T := TX11) (N := 55) hx hb hts inX11 hown hK hP 0 rfl rfl 15 (Nat.le_of_ble_eq_true rfl) (hts _ mw_1174) (fun _ h9 => h9) rfl dX11_refuse_7 ?_
  refine lv_iload_n hx hb dX11_refuse_10 rfl (lv_at hl 1 rfl) ?_
  refine lv_bipush (v := 7) hx hb dX11_refuse_11 rfl ?_
  refine lv_icmp_ne (tgt := 20) hx hb dX11_refuse_13 rfl (fun c_1 => ?_) (fun c_1 => ?_)
  · exact absurd (by decide) c_1
  · refine lv_iconst (v := 1) hx hb dX11_refuse_16 rfl ?_
    refine lv_goto (tgt := 21) hx hb dX11_refuse_17 rfl ?_
    refine lv_iadd hx hb dX11_refuse_21 ?_
    refine zz_i (v := I0 15 + 1) (rfl) ?_
    refine va_put (D := (dC, dI)) (ci := 9) (v := .int (I0 15 + 1)) (ty := .int) (C := RX11) (T := TX11) (N := 55) hx hb hts inX11 tyX11 tyX11_ok nmX11 hown hK hP hD hS 0 rfl rfl 15 (by decide) (hts _ mw_1174) (fun _ h9 => h9) rfl (by decide +kernel) rfl rfl (Nat.le_of_ble_eq_true rfl) dX11_refuse_22 (fun H locs hP hD hS => ?_)
    obtain ⟨hP, hD⟩ := zre (W2 := [(om k0 a (upd (upd I0 14 7) 15 (I0 15 + 1)) J0)]) hP hD rfl
    refine lv_iconst (v := (-1)) hx hb dX11_refuse_25 rfl ?_
    obtain ⟨hP9, hD9⟩ := zu_sub (wc := [_]) hP hD [true] rfl rfl
    rw [hQ9]
    exact W.iret (v := (-1)) hx hb hr (fun t ht hW => ⟨⟨rfl, by rw [ht]; exact hP9, hD9⟩, hS.F ht⟩) hS.2.2 dX11_refuse_26
set_option maxHeartbeats 4000000 in
set_option maxRecDepth 100000 in
theorem k_M_refuse (l : Launch) (dC : Nat → ClassId) (dI : Nat → Nat → Nat) (cI cZ cF : ClassId) (sz : Nat) (k0 : Nat) (a : Nat → Nat) (I0 : Nat → Int32) (J0 : Nat → Int64) (w : Int32) (hw : ¬ w.toInt = 7) : zM l yX11_refuse cX11_refuse 2 (some .int) ({ frames := 0, cells := 0, slots := 0, locals := 0 } : Room) [.ref k0, .int w] (dC, dI) (zTy cI cZ cF) [(om k0 a I0 J0)] sz (some (.int (-1))) (fun A t => zPD (dC, dI) classes A [(om k0 a (upd (upd I0 14 w) 15 (I0 15)) J0)] t.heap) 0 0 := by
  refine zIn (own := "ScaleShopModel") (loc := [(0, .ref k0), (1, .int w)]) rfl rfl rfl rfl (fun p e s m below meth c hx hb hr hts hown hlocks hml hnm9 A hA hS hP hD hK hXN Q9 hQ9 ls hl => ?_)
  refine lv_aload_n hx hb dX11_refuse_0 rfl (lv_at hl 0 rfl) ?_
  refine lv_iload_n hx hb dX11_refuse_1 rfl (lv_at hl 1 rfl) ?_
  refine va_put (D := (dC, dI)) (ci := 9) (v := .int w) (ty := .int) (C := RX11) (T := TX11) (N := 55) hx hb hts inX11 tyX11 tyX11_ok nmX11 hown hK hP hD hS 0 rfl rfl 14 (by decide) (hts _ mw_1173) (fun _ h9 => h9) rfl (by decide +kernel) rfl rfl (Nat.le_of_ble_eq_true rfl) dX11_refuse_2 (fun H locs hP hD hS => ?_)
  obtain ⟨hP, hD⟩ := zre (W2 := [(om k0 a (upd I0 14 w) J0)]) hP hD rfl
  refine lv_aload_n hx hb dX11_refuse_5 rfl (lv_at hl 0 rfl) ?_
  refine lv_dup hx hb dX11_refuse_6 rfl ?_
  refine va_get (D := (dC, dI)) (ci := 9) (v := .int (I0 15)) (C := RX11) (T := TX11) (N := 55) hx hb hts inX11 hown hK hP 0 rfl rfl 15 (Nat.le_of_ble_eq_true rfl) (hts _ mw_1174) (fun _ h9 => h9) rfl dX11_refuse_7 ?_
  refine lv_iload_n hx hb dX11_refuse_10 rfl (lv_at hl 1 rfl) ?_
  refine lv_bipush (v := 7) hx hb dX11_refuse_11 rfl ?_
  refine lv_icmp_ne (tgt := 20) hx hb dX11_refuse_13 rfl (fun c_1 => ?_) (fun c_1 => ?_)
  · have c_1 : ¬ w.toInt = 7 := zc_ne rfl rfl c_1
    refine lv_iconst (v := 0) hx hb dX11_refuse_20 rfl ?_
    refine lv_iadd hx hb dX11_refuse_21 ?_
    refine zz_i (v := I0 15) (Int32.add_zero _) ?_
    refine va_put (D := (dC, dI)) (ci := 9) (v := .int (I0 15)) (ty := .int) (C := RX11) (T := TX11) (N := 55) hx hb hts inX11 tyX11 tyX11_ok nmX11 hown hK hP hD hS 0 rfl rfl 15 (by decide) (hts _ mw_1174) (fun _ h9 => h9) rfl (by decide +kernel) rfl rfl (Nat.le_of_ble_eq_true rfl) dX11_refuse_22 (fun H locs hP hD hS => ?_)
    obtain ⟨hP, hD⟩ := zre (W2 := [(om k0 a (upd (upd I0 14 w) 15 (I0 15)) J0)]) hP hD rfl
    refine lv_iconst (v := (-1)) hx hb dX11_refuse_25 rfl ?_
    obtain ⟨hP9, hD9⟩ := zu_sub (wc := [_]) hP hD [true] rfl rfl
    rw [hQ9]
    exact W.iret (v := (-1)) hx hb hr (fun t ht hW => ⟨⟨rfl, by rw [ht]; exact hP9, hD9⟩, hS.F ht⟩) hS.2.2 dX11_refuse_26
  · have c_1 : w.toInt = 7 := zc_eq rfl rfl c_1
    exfalso; omega
set_option maxHeartbeats 4000000 in
set_option maxRecDepth 100000 in
theorem k_M_no_7 (l : Launch) (dC : Nat → ClassId) (dI : Nat → Nat → Nat) (cI cZ cF : ClassId) (sz : Nat) (k0 : Nat) (a : Nat → Nat) (I0 : Nat → Int32) (J0 : Nat → Int64) : zM l yX11_no cX11_no 2 (some .boolean) ({ frames := 1, cells := 0, slots := 0, locals := 21 } : Room) [.ref k0, .int 7] (dC, dI) (zTy cI cZ cF) [(om k0 a I0 J0)] sz (some (.int 0)) (fun A t => zPD (dC, dI) classes A [(om k0 a (upd (upd I0 14 7) 15 (I0 15 + 1)) J0)] t.heap) 0 0 := by
  refine zIn (own := "ScaleShopModel") (loc := [(0, .ref k0), (1, .int 7)]) rfl rfl rfl rfl (fun p e s m below meth c hx hb hr hts hown hlocks hml hnm9 A hA hS hP hD hK hXN Q9 hQ9 ls hl => ?_)
  refine lv_aload_n hx hb dX11_no_0 rfl (lv_at hl 0 rfl) ?_
  refine lv_iload_n hx hb dX11_no_1 rfl (lv_at hl 1 rfl) ?_
  obtain ⟨hPc, hDc, hFc⟩ := zo_sub (wc := [_]) hP hD hS hA [0] rfl rfl
  refine zcall (st1 := [.int (-1)]) (va_runV (As := [.int 7]) (rest := []) ⟨hx, hb, hml, hown, hts⟩ (k_M_refuse_7 l dC dI cI cZ cF s.heap.size k0 a I0 J0 ) (csV_185 hts rfl rfl ⟨Nat.le_of_ble_eq_true rfl, Nat.le_of_ble_eq_true rfl⟩) (zPV2 (q0 := 0) (ci := 9) hPc hDc hK hXN rfl rfl) rfl rfl hl.1 rfl (lv_room (Nat.le_of_ble_eq_true rfl)) dX11_no_2 ⟨Nat.le_of_ble_eq_true rfl, Nat.le_of_ble_eq_true rfl⟩) hS hFc hFc rfl (fun t H locs ht hB hk1 hS => ?_)
  obtain ⟨hP1, hD1⟩ := hB
  rw [ht] at hP1
  obtain ⟨hP, hD⟩ := zn (W2 := [(om k0 a (upd (upd I0 14 7) 15 (I0 15 + 1)) J0)]) hP hD hk1 hFc hP1 hD1 [0] [] [false] [0] (by decide +kernel) rfl rfl rfl rfl rfl
  clear hk1 hPc hDc hFc hP1 hD1 ht
  refine lv_iconst (v := (-1)) hx hb dX11_no_5 rfl ?_
  refine lv_icmp_eq (tgt := 13) hx hb dX11_no_6 rfl (fun c_1 => ?_) (fun c_1 => ?_)
  · refine lv_iconst (v := 0) hx hb dX11_no_13 rfl ?_
    obtain ⟨hP9, hD9⟩ := zu_sub (wc := [_]) hP hD [true] rfl rfl
    rw [hQ9]
    exact W.zret (ty := .boolean) (v := 0) hx hb hr (rfl) (fun t ht hW => ⟨⟨rfl, by rw [ht]; exact hP9, hD9⟩, hS.F ht⟩) hS.2.2 dX11_no_14
  · exact absurd (by decide) c_1
set_option maxHeartbeats 4000000 in
set_option maxRecDepth 100000 in
theorem k_M_no (l : Launch) (dC : Nat → ClassId) (dI : Nat → Nat → Nat) (cI cZ cF : ClassId) (sz : Nat) (k0 : Nat) (a : Nat → Nat) (I0 : Nat → Int32) (J0 : Nat → Int64) (w : Int32) (hw : ¬ w.toInt = 7) : zM l yX11_no cX11_no 2 (some .boolean) ({ frames := 1, cells := 0, slots := 0, locals := 21 } : Room) [.ref k0, .int w] (dC, dI) (zTy cI cZ cF) [(om k0 a I0 J0)] sz (some (.int 0)) (fun A t => zPD (dC, dI) classes A [(om k0 a (upd (upd I0 14 w) 15 (I0 15)) J0)] t.heap) 0 0 := by
  refine zIn (own := "ScaleShopModel") (loc := [(0, .ref k0), (1, .int w)]) rfl rfl rfl rfl (fun p e s m below meth c hx hb hr hts hown hlocks hml hnm9 A hA hS hP hD hK hXN Q9 hQ9 ls hl => ?_)
  refine lv_aload_n hx hb dX11_no_0 rfl (lv_at hl 0 rfl) ?_
  refine lv_iload_n hx hb dX11_no_1 rfl (lv_at hl 1 rfl) ?_
  obtain ⟨hPc, hDc, hFc⟩ := zo_sub (wc := [_]) hP hD hS hA [0] rfl rfl
  refine zcall (st1 := [.int (-1)]) (va_runV (As := [.int w]) (rest := []) ⟨hx, hb, hml, hown, hts⟩ (k_M_refuse l dC dI cI cZ cF s.heap.size k0 a I0 J0 w (hw)) (csV_185 hts rfl rfl ⟨Nat.le_of_ble_eq_true rfl, Nat.le_of_ble_eq_true rfl⟩) (zPV2 (q0 := 0) (ci := 9) hPc hDc hK hXN rfl rfl) rfl rfl hl.1 rfl (lv_room (Nat.le_of_ble_eq_true rfl)) dX11_no_2 ⟨Nat.le_of_ble_eq_true rfl, Nat.le_of_ble_eq_true rfl⟩) hS hFc hFc rfl (fun t H locs ht hB hk1 hS => ?_)
  obtain ⟨hP1, hD1⟩ := hB
  rw [ht] at hP1
  obtain ⟨hP, hD⟩ := zn (W2 := [(om k0 a (upd (upd I0 14 w) 15 (I0 15)) J0)]) hP hD hk1 hFc hP1 hD1 [0] [] [false] [0] (by decide +kernel) rfl rfl rfl rfl rfl
  clear hk1 hPc hDc hFc hP1 hD1 ht
  refine lv_iconst (v := (-1)) hx hb dX11_no_5 rfl ?_
  refine lv_icmp_eq (tgt := 13) hx hb dX11_no_6 rfl (fun c_1 => ?_) (fun c_1 => ?_)
  · refine lv_iconst (v := 0) hx hb dX11_no_13 rfl ?_
    obtain ⟨hP9, hD9⟩ := zu_sub (wc := [_]) hP hD [true] rfl rfl
    rw [hQ9]
    exact W.zret (ty := .boolean) (v := 0) hx hb hr (rfl) (fun t ht hW => ⟨⟨rfl, by rw [ht]; exact hP9, hD9⟩, hS.F ht⟩) hS.2.2 dX11_no_14
  · exact absurd (by decide) c_1
set_option maxHeartbeats 4000000 in
set_option maxRecDepth 100000 in
theorem k_M_wrong (l : Launch) (dC : Nat → ClassId) (dI : Nat → Nat → Nat) (cI cZ cF : ClassId) (sz : Nat) (k0 : Nat) (a : Nat → Nat) (I0 : Nat → Int32) (J0 : Nat → Int64) (f : Nat) (ft : Nat) (st : Nat → Int32) (hft : I0 0 = nI ft) (h200 : ft ≤ 200) (hf_t : f < ft) : zM l yX11_wrong cX11_wrong 2 (some .int) ({ frames := 1, cells := 0, slots := 0, locals := 21 } : Room) [.ref k0, .int (nI f)] (dC, dI) (zTy cI cZ cF) [(om k0 a I0 J0), (oa (a 5) cI 201 st)] sz (some (.int (wrN (st f)))) (fun A t => zPD (dC, dI) classes A [(om k0 a I0 J0), (oa (a 5) cI 201 st)] t.heap) 0 0 := by
  refine zIn (own := "ScaleShopModel") (loc := [(0, .ref k0), (1, .int (nI f))]) rfl rfl rfl rfl (fun p e s m below meth c hx hb hr hts hown hlocks hml hnm9 A hA hS hP hD hK hXN Q9 hQ9 ls hl => ?_)
  refine lv_aload_n hx hb dX11_wrong_0 rfl (lv_at hl 0 rfl) ?_
  refine lv_iload_n hx hb dX11_wrong_1 rfl (lv_at hl 1 rfl) ?_
  obtain ⟨hPc, hDc, hFc, hI1⟩ := zi_sub (wc := [_]) hP hD hS hA [0] rfl rfl
  refine zcall (st1 := [.int (pI (f < ft))]) (va_runV (As := [.int (nI f)]) (rest := []) ⟨hx, hb, hml, hown, hts⟩ (k_M_isFeature_n l dC dI cI cZ cF s.heap.size k0 a I0 J0 f ft (by first | with_reducible assumption | assumption) (by first | with_reducible assumption | omega) (by first | with_reducible assumption | omega)) (csV_178 hts rfl rfl ⟨Nat.le_of_ble_eq_true rfl, Nat.le_of_ble_eq_true rfl⟩) (zPV2 (q0 := 0) (ci := 9) hPc hDc hK hXN rfl rfl) rfl rfl hl.1 rfl (lv_room (Nat.le_of_ble_eq_true rfl)) dX11_wrong_2 ⟨Nat.le_of_ble_eq_true rfl, Nat.le_of_ble_eq_true rfl⟩) hS hFc hFc rfl (fun t H locs ht hB hk1 hS => ?_)
  obtain ⟨hP1, hD1⟩ := hB
  rw [ht] at hP1
  replace hP := z0 hP hD hk1 hP1 hI1
  clear hk1 hPc hDc hFc hP1 hD1 ht hI1
  refine lv_if_ne (tgt := 12) hx hb dX11_wrong_5 rfl (fun c_1 => ?_) (fun c_1 => ?_)
  · have c_1 : f < ft := zp_1 c_1
    refine lv_aload_n hx hb dX11_wrong_12 rfl (lv_at hl 0 rfl) ?_
    refine va_get (D := (dC, dI)) (ci := 9) (v := .ref (a 5)) (C := RX11) (T := TX11) (N := 55) hx hb hts inX11 hown hK hP 0 rfl rfl 5 (Nat.le_of_ble_eq_true rfl) (hts _ mw_1164) (fun _ h9 => h9) rfl dX11_wrong_13 ?_
    refine lv_iload_n hx hb dX11_wrong_16 rfl (lv_at hl 1 rfl) ?_
    have b9_2 : f < 201 := by omega
    refine z_iald hx hb hK hP 1 0 rfl rfl (e := f) rfl b9_2 (Nat.le_of_ble_eq_true rfl) dX11_wrong_17 ?_
    refine lv_iconst (v := 1) hx hb dX11_wrong_18 rfl ?_
    refine lv_icmp_eq (tgt := 26) hx hb dX11_wrong_19 rfl (fun c_3 => ?_) (fun c_3 => ?_)
    · have c_3 : (st f).toInt = 1 := zc_eq rfl rfl c_3
      refine lv_iconst (v := 0) hx hb dX11_wrong_26 rfl ?_
      obtain ⟨hP9, hD9⟩ := zu_sub (wc := [_, _]) hP hD [true, true] rfl rfl
      rw [hQ9]
      exact W.iret (v := 0) hx hb hr (fun t ht hW => ⟨⟨congrArg (fun z => Outcome.returned (some (Value.int z))) (show (0 : Int32) = wrN (st f) from by unfold wrN; first | (rw [if_pos (by omega)]) | (rw [if_neg (by omega)])), by rw [ht]; exact hP9, hD9⟩, hS.F ht⟩) hS.2.2 dX11_wrong_27
    · have c_3 : ¬ (st f).toInt = 1 := zc_ne rfl rfl c_3
      refine lv_iconst (v := 2) hx hb dX11_wrong_22 rfl ?_
      refine lv_goto (tgt := 27) hx hb dX11_wrong_23 rfl ?_
      obtain ⟨hP9, hD9⟩ := zu_sub (wc := [_, _]) hP hD [true, true] rfl rfl
      rw [hQ9]
      exact W.iret (v := 2) hx hb hr (fun t ht hW => ⟨⟨congrArg (fun z => Outcome.returned (some (Value.int z))) (show (2 : Int32) = wrN (st f) from by unfold wrN; first | (rw [if_pos (by omega)]) | (rw [if_neg (by omega)])), by rw [ht]; exact hP9, hD9⟩, hS.F ht⟩) hS.2.2 dX11_wrong_27
  · have c_1 : ¬ (f < ft) := zp_0 c_1
    exfalso; omega
set_option maxHeartbeats 4000000 in
set_option maxRecDepth 100000 in
theorem k_M_wrong_x (l : Launch) (dC : Nat → ClassId) (dI : Nat → Nat → Nat) (cI cZ cF : ClassId) (sz : Nat) (k0 : Nat) (a : Nat → Nat) (I0 : Nat → Int32) (J0 : Nat → Int64) (ft : Nat) (v : Int32) (hft : I0 0 = nI ft) (h200 : ft ≤ 200) (hv : ¬ (0 ≤ v.toInt ∧ v.toInt < (ft : Int))) : zM l yX11_wrong cX11_wrong 2 (some .int) ({ frames := 1, cells := 0, slots := 0, locals := 21 } : Room) [.ref k0, .int v] (dC, dI) (zTy cI cZ cF) [(om k0 a I0 J0)] sz (some (.int 1)) (fun A t => zPD (dC, dI) classes A [(om k0 a I0 J0)] t.heap) 0 0 := by
  refine zIn (own := "ScaleShopModel") (loc := [(0, .ref k0), (1, .int v)]) rfl rfl rfl rfl (fun p e s m below meth c hx hb hr hts hown hlocks hml hnm9 A hA hS hP hD hK hXN Q9 hQ9 ls hl => ?_)
  refine lv_aload_n hx hb dX11_wrong_0 rfl (lv_at hl 0 rfl) ?_
  refine lv_iload_n hx hb dX11_wrong_1 rfl (lv_at hl 1 rfl) ?_
  obtain ⟨hPc, hDc, hFc, hI1⟩ := zi_sub (wc := [_]) hP hD hS hA [0] rfl rfl
  refine zcall (st1 := [.int (pI (0 ≤ v.toInt ∧ v.toInt < (ft : Int)))]) (va_runV (As := [.int v]) (rest := []) ⟨hx, hb, hml, hown, hts⟩ (k_M_isFeature l dC dI cI cZ cF s.heap.size k0 a I0 J0 ft v (by first | with_reducible assumption | assumption) (by first | with_reducible assumption | omega)) (csV_178 hts rfl rfl ⟨Nat.le_of_ble_eq_true rfl, Nat.le_of_ble_eq_true rfl⟩) (zPV2 (q0 := 0) (ci := 9) hPc hDc hK hXN rfl rfl) rfl rfl hl.1 rfl (lv_room (Nat.le_of_ble_eq_true rfl)) dX11_wrong_2 ⟨Nat.le_of_ble_eq_true rfl, Nat.le_of_ble_eq_true rfl⟩) hS hFc hFc rfl (fun t H locs ht hB hk1 hS => ?_)
  obtain ⟨hP1, hD1⟩ := hB
  rw [ht] at hP1
  replace hP := z0 hP hD hk1 hP1 hI1
  clear hk1 hPc hDc hFc hP1 hD1 ht hI1
  refine lv_if_ne (tgt := 12) hx hb dX11_wrong_5 rfl (fun c_1 => ?_) (fun c_1 => ?_)
  · have c_1 : 0 ≤ v.toInt ∧ v.toInt < (ft : Int) := zp_1 c_1
    exfalso; exact absurd (by first | with_reducible assumption | assumption) hv
  · have c_1 : ¬ (0 ≤ v.toInt ∧ v.toInt < (ft : Int)) := zp_0 c_1
    refine lv_iconst (v := 1) hx hb dX11_wrong_8 rfl ?_
    refine lv_goto (tgt := 27) hx hb dX11_wrong_9 rfl ?_
    obtain ⟨hP9, hD9⟩ := zu_sub (wc := [_]) hP hD [true] rfl rfl
    rw [hQ9]
    exact W.iret (v := 1) hx hb hr (fun t ht hW => ⟨⟨rfl, by rw [ht]; exact hP9, hD9⟩, hS.F ht⟩) hS.2.2 dX11_wrong_27
set_option maxHeartbeats 4000000 in
set_option maxRecDepth 100000 in
theorem k_M_isPlainable (l : Launch) (dC : Nat → ClassId) (dI : Nat → Nat → Nat) (cI cZ cF : ClassId) (sz : Nat) (k0 : Nat) (a : Nat → Nat) (I0 : Nat → Int32) (J0 : Nat → Int64) (f : Nat) (kd : Nat → Int32) (hf_f : f ≤ 200) : zM l yX11_isPlainable cX11_isPlainable 2 (some .boolean) ({ frames := 0, cells := 0, slots := 0, locals := 0 } : Room) [.ref k0, .int (nI f)] (dC, dI) (zTy cI cZ cF) [(om k0 a I0 J0), (oa (a 1) cI 201 kd)] sz (some (.int (pI (¬ (kd f).toInt = 0 ∧ ¬ (kd f).toInt = 6)))) (fun A t => zPD (dC, dI) classes A [(om k0 a I0 J0), (oa (a 1) cI 201 kd)] t.heap) 0 0 := by
  refine zIn (own := "ScaleShopModel") (loc := [(0, .ref k0), (1, .int (nI f))]) rfl rfl rfl rfl (fun p e s m below meth c hx hb hr hts hown hlocks hml hnm9 A hA hS hP hD hK hXN Q9 hQ9 ls hl => ?_)
  refine lv_aload_n hx hb dX11_isPlainable_0 rfl (lv_at hl 0 rfl) ?_
  refine va_get (D := (dC, dI)) (ci := 9) (v := .ref (a 1)) (C := RX11) (T := TX11) (N := 55) hx hb hts inX11 hown hK hP 0 rfl rfl 1 (Nat.le_of_ble_eq_true rfl) (hts _ mw_1160) (fun _ h9 => h9) rfl dX11_isPlainable_1 ?_
  refine lv_iload_n hx hb dX11_isPlainable_4 rfl (lv_at hl 1 rfl) ?_
  have b9_1 : f < 201 := by omega
  refine z_iald hx hb hK hP 1 0 rfl rfl (e := f) rfl b9_1 (Nat.le_of_ble_eq_true rfl) dX11_isPlainable_5 ?_
  refine lv_if_eq (tgt := 24) hx hb dX11_isPlainable_6 rfl (fun c_2 => ?_) (fun c_2 => ?_)
  · have c_2 : (kd f).toInt = 0 := zc_eq rfl rfl c_2
    refine lv_iconst (v := 0) hx hb dX11_isPlainable_24 rfl ?_
    obtain ⟨hP9, hD9⟩ := zu_sub (wc := [_, _]) hP hD [true, true] rfl rfl
    rw [hQ9]
    exact W.zret (ty := .boolean) (v := 0) hx hb hr (rfl) (fun t ht hW => ⟨⟨congrArg (fun z => Outcome.returned (some (Value.int z))) (show (0 : Int32) = pI (¬ (kd f).toInt = 0 ∧ ¬ (kd f).toInt = 6) from (zp_f (by omega)).symm), by rw [ht]; exact hP9, hD9⟩, hS.F ht⟩) hS.2.2 dX11_isPlainable_25
  · have c_2 : ¬ (kd f).toInt = 0 := zc_ne rfl rfl c_2
    refine lv_aload_n hx hb dX11_isPlainable_9 rfl (lv_at hl 0 rfl) ?_
    refine va_get (D := (dC, dI)) (ci := 9) (v := .ref (a 1)) (C := RX11) (T := TX11) (N := 55) hx hb hts inX11 hown hK hP 0 rfl rfl 1 (Nat.le_of_ble_eq_true rfl) (hts _ mw_1160) (fun _ h9 => h9) rfl dX11_isPlainable_10 ?_
    refine lv_iload_n hx hb dX11_isPlainable_13 rfl (lv_at hl 1 rfl) ?_
    refine z_iald hx hb hK hP 1 0 rfl rfl (e := f) rfl b9_1 (Nat.le_of_ble_eq_true rfl) dX11_isPlainable_14 ?_
    refine lv_bipush (v := 6) hx hb dX11_isPlainable_15 rfl ?_
    refine lv_icmp_eq (tgt := 24) hx hb dX11_isPlainable_17 rfl (fun c_3 => ?_) (fun c_3 => ?_)
    · have c_3 : (kd f).toInt = 6 := zc_eq rfl rfl c_3
      refine lv_iconst (v := 0) hx hb dX11_isPlainable_24 rfl ?_
      obtain ⟨hP9, hD9⟩ := zu_sub (wc := [_, _]) hP hD [true, true] rfl rfl
      rw [hQ9]
      exact W.zret (ty := .boolean) (v := 0) hx hb hr (rfl) (fun t ht hW => ⟨⟨congrArg (fun z => Outcome.returned (some (Value.int z))) (show (0 : Int32) = pI (¬ (kd f).toInt = 0 ∧ ¬ (kd f).toInt = 6) from (zp_f (by omega)).symm), by rw [ht]; exact hP9, hD9⟩, hS.F ht⟩) hS.2.2 dX11_isPlainable_25
    · have c_3 : ¬ (kd f).toInt = 6 := zc_ne rfl rfl c_3
      refine lv_iconst (v := 1) hx hb dX11_isPlainable_20 rfl ?_
      refine lv_goto (tgt := 25) hx hb dX11_isPlainable_21 rfl ?_
      obtain ⟨hP9, hD9⟩ := zu_sub (wc := [_, _]) hP hD [true, true] rfl rfl
      rw [hQ9]
      exact W.zret (ty := .boolean) (v := 1) hx hb hr (rfl) (fun t ht hW => ⟨⟨congrArg (fun z => Outcome.returned (some (Value.int z))) (show (1 : Int32) = pI (¬ (kd f).toInt = 0 ∧ ¬ (kd f).toInt = 6) from (zp_t (by omega)).symm), by rw [ht]; exact hP9, hD9⟩, hS.F ht⟩) hS.2.2 dX11_isPlainable_25
set_option maxHeartbeats 4000000 in
set_option maxRecDepth 100000 in
theorem k_M_settle (l : Launch) (dC : Nat → ClassId) (dI : Nat → Nat → Nat) (cI cZ cF : ClassId) (sz : Nat) (k0 : Nat) (a : Nat → Nat) (I0 : Nat → Int32) (J0 : Nat → Int64) (sa : Nat → Int32) : zM l yX11_settle cX11_settle 1 none ({ frames := 0, cells := 0, slots := 0, locals := 0 } : Room) [.ref k0] (dC, dI) (zTy cI cZ cF) [(om k0 a I0 J0), (oa (a 27) cI 516 sa)] sz none (fun A t => zPD (dC, dI) classes A [(om k0 a (upd (upd I0 20 0) 21 (I0 19)) J0), (oa (a 27) cI 516 (upd sa 0 0))] t.heap) 0 0 := by
  refine zIn (own := "ScaleShopModel") (loc := [(0, .ref k0)]) rfl rfl rfl rfl (fun p e s m below meth c hx hb hr hts hown hlocks hml hnm9 A hA hS hP hD hK hXN Q9 hQ9 ls hl => ?_)
  refine lv_aload_n hx hb dX11_settle_0 rfl (lv_at hl 0 rfl) ?_
  refine lv_aload_n hx hb dX11_settle_1 rfl (lv_at hl 0 rfl) ?_
  refine va_get (D := (dC, dI)) (ci := 9) (v := .int (I0 19)) (C := RX11) (T := TX11) (N := 55) hx hb hts inX11 hown hK hP 0 rfl rfl 19 (Nat.le_of_ble_eq_true rfl) (hts _ mw_1178) (fun _ h9 => h9) rfl dX11_settle_2 ?_
  refine va_put (D := (dC, dI)) (ci := 9) (v := .int (I0 19)) (ty := .int) (C := RX11) (T := TX11) (N := 55) hx hb hts inX11 tyX11 tyX11_ok nmX11 hown hK hP hD hS 0 rfl rfl 21 (by decide) (hts _ mw_1180) (fun _ h9 => h9) rfl (by decide +kernel) rfl rfl (Nat.le_of_ble_eq_true rfl) dX11_settle_5 (fun H locs hP hD hS => ?_)
  obtain ⟨hP, hD⟩ := zre (W2 := [(om k0 a (upd I0 21 (I0 19)) J0), _]) hP hD rfl
  refine lv_aload_n hx hb dX11_settle_8 rfl (lv_at hl 0 rfl) ?_
  refine lv_iconst (v := 0) hx hb dX11_settle_9 rfl ?_
  refine va_put (D := (dC, dI)) (ci := 9) (v := .int 0) (ty := .int) (C := RX11) (T := TX11) (N := 55) hx hb hts inX11 tyX11 tyX11_ok nmX11 hown hK hP hD hS 0 rfl rfl 20 (by decide) (hts _ mw_1179) (fun _ h9 => h9) rfl (by decide +kernel) rfl rfl (Nat.le_of_ble_eq_true rfl) dX11_settle_10 (fun H locs hP hD hS => ?_)
  obtain ⟨hP, hD⟩ := zre (W2 := [(om k0 a (upd (upd I0 20 0) 21 (I0 19)) J0), _]) hP hD rfl
  refine lv_aload_n hx hb dX11_settle_13 rfl (lv_at hl 0 rfl) ?_
  refine va_get (D := (dC, dI)) (ci := 9) (v := .ref (a 27)) (C := RX11) (T := TX11) (N := 55) hx hb hts inX11 hown hK hP 0 rfl rfl 27 (Nat.le_of_ble_eq_true rfl) (hts _ mw_1186) (fun _ h9 => h9) rfl dX11_settle_14 ?_
  refine lv_iconst (v := 0) hx hb dX11_settle_17 rfl ?_
  refine lv_iconst (v := 0) hx hb dX11_settle_18 rfl ?_
  refine z_iast hx hb hK hP hD hS 1 0 rfl rfl (e := 0) (x := 0) rfl (Nat.le_of_ble_eq_true rfl) (Nat.le_of_ble_eq_true rfl) dX11_settle_19 (fun H locs hP hD hS => ?_)
  obtain ⟨hP, hD⟩ := zre (W2 := [_, (oa (a 27) cI 516 (upd sa 0 0))]) hP hD rfl
  obtain ⟨hP9, hD9⟩ := zu_sub (wc := [_, _]) hP hD [true, true] rfl rfl
  rw [hQ9]
  exact W.vret hx hb hr (fun t ht hW => ⟨⟨rfl, by rw [ht]; exact hP9, hD9⟩, hS.F ht⟩) hS.2.2 dX11_settle_20
set_option maxHeartbeats 4000000 in
set_option maxRecDepth 100000 in
theorem k_M_begin (l : Launch) (dC : Nat → ClassId) (dI : Nat → Nat → Nat) (cI cZ cF : ClassId) (sz : Nat) (k0 : Nat) (a : Nat → Nat) (I0 : Nat → Int32) (J0 : Nat → Int64) (f : Nat) (k1 : Int32) (k2 : Int32) (k3 : Int32) (k4 : Int32) (kd : Nat → Int32) (rk : Nat → Int32) (wd : Nat → Int32) (tw : Nat → Int32) (st : Nat → Int32) (tn : Nat → Int32) (gb : Nat → Int32) (pa : Nat → Int32) (pb : Nat → Int32) (it : Nat → Int32) (mn : Nat → Int32) (hf_f : f ≤ 200) : zM l yX11_begin cX11_begin 6 none ({ frames := 0, cells := 0, slots := 0, locals := 0 } : Room) [.ref k0, .int (nI f), .int k1, .int k2, .int k3, .int k4] (dC, dI) (zTy cI cZ cF) [(om k0 a I0 J0), (oa (a 1) cI 201 kd), (oa (a 2) cI 201 rk), (oa (a 3) cI 201 wd), (oa (a 4) cI 201 tw), (oa (a 5) cI 201 st), (oa (a 6) cZ 201 tn), (oa (a 7) cI 201 gb), (oa (a 8) cI 201 pa), (oa (a 9) cI 201 pb), (oa (a 10) cI 201 it), (oa (a 11) cI 201 mn)] sz none (fun A t => zPD (dC, dI) classes A [(om k0 a (upd I0 0 (nI (f + 1))) J0), (oa (a 1) cI 201 (upd kd f k1)), (oa (a 2) cI 201 (upd rk f k2)), (oa (a 3) cI 201 (upd wd f k3)), (oa (a 4) cI 201 (upd tw f k4)), (oa (a 5) cI 201 (upd st f 0)), (oa (a 6) cZ 201 (upd tn f 0)), (oa (a 7) cI 201 (upd gb f 0)), (oa (a 8) cI 201 (upd pa f (-1))), (oa (a 9) cI 201 (upd pb f (-1))), (oa (a 10) cI 201 (upd it f (-1))), (oa (a 11) cI 201 (upd mn f 0))] t.heap) 0 0 := by
  refine zIn (own := "ScaleShopModel") (loc := [(0, .ref k0), (1, .int (nI f)), (2, .int k1), (3, .int k2), (4, .int k3), (5, .int k4)]) rfl rfl rfl rfl (fun p e s m below meth c hx hb hr hts hown hlocks hml hnm9 A hA hS hP hD hK hXN Q9 hQ9 ls hl => ?_)
  refine lv_aload_n hx hb dX11_begin_0 rfl (lv_at hl 0 rfl) ?_
  refine lv_iload_n hx hb dX11_begin_1 rfl (lv_at hl 1 rfl) ?_
  refine lv_iconst (v := 1) hx hb dX11_begin_2 rfl ?_
  refine lv_iadd hx hb dX11_begin_3 ?_
  refine zz_i (v := nI (f + 1)) (nI_add f 1) ?_
  refine va_put (D := (dC, dI)) (ci := 9) (v := .int (nI (f + 1))) (ty := .int) (C := RX11) (T := TX11) (N := 55) hx hb hts inX11 tyX11 tyX11_ok nmX11 hown hK hP hD hS 0 rfl rfl 0 (by decide) (hts _ mw_1159) (fun _ h9 => h9) rfl (by decide +kernel) rfl rfl (Nat.le_of_ble_eq_true rfl) dX11_begin_4 (fun H locs hP hD hS => ?_)
  obtain ⟨hP, hD⟩ := zre (W2 := [(om k0 a (upd I0 0 (nI (f + 1))) J0), _, _, _, _, _, _, _, _, _, _, _]) hP hD rfl
  refine lv_aload_n hx hb dX11_begin_7 rfl (lv_at hl 0 rfl) ?_
  refine va_get (D := (dC, dI)) (ci := 9) (v := .ref (a 1)) (C := RX11) (T := TX11) (N := 55) hx hb hts inX11 hown hK hP 0 rfl rfl 1 (Nat.le_of_ble_eq_true rfl) (hts _ mw_1160) (fun _ h9 => h9) rfl dX11_begin_8 ?_
  refine lv_iload_n hx hb dX11_begin_11 rfl (lv_at hl 1 rfl) ?_
  refine lv_iload_n hx hb dX11_begin_12 rfl (lv_at hl 2 rfl) ?_
  have b9_1 : f < 201 := by omega
  refine z_iast hx hb hK hP hD hS 1 0 rfl rfl (e := f) (x := k1) rfl b9_1 (Nat.le_of_ble_eq_true rfl) dX11_begin_13 (fun H locs hP hD hS => ?_)
  obtain ⟨hP, hD⟩ := zre (W2 := [_, (oa (a 1) cI 201 (upd kd f k1)), _, _, _, _, _, _, _, _, _, _]) hP hD rfl
  refine lv_aload_n hx hb dX11_begin_14 rfl (lv_at hl 0 rfl) ?_
  refine va_get (D := (dC, dI)) (ci := 9) (v := .ref (a 2)) (C := RX11) (T := TX11) (N := 55) hx hb hts inX11 hown hK hP 0 rfl rfl 2 (Nat.le_of_ble_eq_true rfl) (hts _ mw_1161) (fun _ h9 => h9) rfl dX11_begin_15 ?_
  refine lv_iload_n hx hb dX11_begin_18 rfl (lv_at hl 1 rfl) ?_
  refine lv_iload_n hx hb dX11_begin_19 rfl (lv_at hl 3 rfl) ?_
  refine z_iast hx hb hK hP hD hS 2 0 rfl rfl (e := f) (x := k2) rfl b9_1 (Nat.le_of_ble_eq_true rfl) dX11_begin_20 (fun H locs hP hD hS => ?_)
  obtain ⟨hP, hD⟩ := zre (W2 := [_, _, (oa (a 2) cI 201 (upd rk f k2)), _, _, _, _, _, _, _, _, _]) hP hD rfl
  refine lv_aload_n hx hb dX11_begin_21 rfl (lv_at hl 0 rfl) ?_
  refine va_get (D := (dC, dI)) (ci := 9) (v := .ref (a 3)) (C := RX11) (T := TX11) (N := 55) hx hb hts inX11 hown hK hP 0 rfl rfl 3 (Nat.le_of_ble_eq_true rfl) (hts _ mw_1162) (fun _ h9 => h9) rfl dX11_begin_22 ?_
  refine lv_iload_n hx hb dX11_begin_25 rfl (lv_at hl 1 rfl) ?_
  refine lv_iload hx hb dX11_begin_26 (lv_at hl 4 rfl) ?_
  refine z_iast hx hb hK hP hD hS 3 0 rfl rfl (e := f) (x := k3) rfl b9_1 (Nat.le_of_ble_eq_true rfl) dX11_begin_28 (fun H locs hP hD hS => ?_)
  obtain ⟨hP, hD⟩ := zre (W2 := [_, _, _, (oa (a 3) cI 201 (upd wd f k3)), _, _, _, _, _, _, _, _]) hP hD rfl
  refine lv_aload_n hx hb dX11_begin_29 rfl (lv_at hl 0 rfl) ?_
  refine va_get (D := (dC, dI)) (ci := 9) (v := .ref (a 4)) (C := RX11) (T := TX11) (N := 55) hx hb hts inX11 hown hK hP 0 rfl rfl 4 (Nat.le_of_ble_eq_true rfl) (hts _ mw_1163) (fun _ h9 => h9) rfl dX11_begin_30 ?_
  refine lv_iload_n hx hb dX11_begin_33 rfl (lv_at hl 1 rfl) ?_
  refine lv_iload hx hb dX11_begin_34 (lv_at hl 5 rfl) ?_
  refine z_iast hx hb hK hP hD hS 4 0 rfl rfl (e := f) (x := k4) rfl b9_1 (Nat.le_of_ble_eq_true rfl) dX11_begin_36 (fun H locs hP hD hS => ?_)
  obtain ⟨hP, hD⟩ := zre (W2 := [_, _, _, _, (oa (a 4) cI 201 (upd tw f k4)), _, _, _, _, _, _, _]) hP hD rfl
  refine lv_aload_n hx hb dX11_begin_37 rfl (lv_at hl 0 rfl) ?_
  refine va_get (D := (dC, dI)) (ci := 9) (v := .ref (a 5)) (C := RX11) (T := TX11) (N := 55) hx hb hts inX11 hown hK hP 0 rfl rfl 5 (Nat.le_of_ble_eq_true rfl) (hts _ mw_1164) (fun _ h9 => h9) rfl dX11_begin_38 ?_
  refine lv_iload_n hx hb dX11_begin_41 rfl (lv_at hl 1 rfl) ?_
  refine lv_iconst (v := 0) hx hb dX11_begin_42 rfl ?_
  refine z_iast hx hb hK hP hD hS 5 0 rfl rfl (e := f) (x := 0) rfl b9_1 (Nat.le_of_ble_eq_true rfl) dX11_begin_43 (fun H locs hP hD hS => ?_)
  obtain ⟨hP, hD⟩ := zre (W2 := [_, _, _, _, _, (oa (a 5) cI 201 (upd st f 0)), _, _, _, _, _, _]) hP hD rfl
  refine lv_aload_n hx hb dX11_begin_44 rfl (lv_at hl 0 rfl) ?_
  refine va_get (D := (dC, dI)) (ci := 9) (v := .ref (a 6)) (C := RX11) (T := TX11) (N := 55) hx hb hts inX11 hown hK hP 0 rfl rfl 6 (Nat.le_of_ble_eq_true rfl) (hts _ mw_1165) (fun _ h9 => h9) rfl dX11_begin_45 ?_
  refine lv_iload_n hx hb dX11_begin_48 rfl (lv_at hl 1 rfl) ?_
  refine lv_iconst (v := 0) hx hb dX11_begin_49 rfl ?_
  refine z_zast hx hb hK hP hD hS 6 1 rfl rfl (e := f) (x := 0) rfl b9_1 (Nat.le_of_ble_eq_true rfl) (by decide) dX11_begin_50 (fun H locs hP hD hS => ?_)
  obtain ⟨hP, hD⟩ := zre (W2 := [_, _, _, _, _, _, (oa (a 6) cZ 201 (upd tn f 0)), _, _, _, _, _]) hP hD rfl
  refine lv_aload_n hx hb dX11_begin_51 rfl (lv_at hl 0 rfl) ?_
  refine va_get (D := (dC, dI)) (ci := 9) (v := .ref (a 7)) (C := RX11) (T := TX11) (N := 55) hx hb hts inX11 hown hK hP 0 rfl rfl 7 (Nat.le_of_ble_eq_true rfl) (hts _ mw_1166) (fun _ h9 => h9) rfl dX11_begin_52 ?_
  refine lv_iload_n hx hb dX11_begin_55 rfl (lv_at hl 1 rfl) ?_
  refine lv_iconst (v := 0) hx hb dX11_begin_56 rfl ?_
  refine z_iast hx hb hK hP hD hS 7 0 rfl rfl (e := f) (x := 0) rfl b9_1 (Nat.le_of_ble_eq_true rfl) dX11_begin_57 (fun H locs hP hD hS => ?_)
  obtain ⟨hP, hD⟩ := zre (W2 := [_, _, _, _, _, _, _, (oa (a 7) cI 201 (upd gb f 0)), _, _, _, _]) hP hD rfl
  refine lv_aload_n hx hb dX11_begin_58 rfl (lv_at hl 0 rfl) ?_
  refine va_get (D := (dC, dI)) (ci := 9) (v := .ref (a 8)) (C := RX11) (T := TX11) (N := 55) hx hb hts inX11 hown hK hP 0 rfl rfl 8 (Nat.le_of_ble_eq_true rfl) (hts _ mw_1167) (fun _ h9 => h9) rfl dX11_begin_59 ?_
  refine lv_iload_n hx hb dX11_begin_62 rfl (lv_at hl 1 rfl) ?_
  refine lv_iconst (v := (-1)) hx hb dX11_begin_63 rfl ?_
  refine z_iast hx hb hK hP hD hS 8 0 rfl rfl (e := f) (x := (-1)) rfl b9_1 (Nat.le_of_ble_eq_true rfl) dX11_begin_64 (fun H locs hP hD hS => ?_)
  obtain ⟨hP, hD⟩ := zre (W2 := [_, _, _, _, _, _, _, _, (oa (a 8) cI 201 (upd pa f (-1))), _, _, _]) hP hD rfl
  refine lv_aload_n hx hb dX11_begin_65 rfl (lv_at hl 0 rfl) ?_
  refine va_get (D := (dC, dI)) (ci := 9) (v := .ref (a 9)) (C := RX11) (T := TX11) (N := 55) hx hb hts inX11 hown hK hP 0 rfl rfl 9 (Nat.le_of_ble_eq_true rfl) (hts _ mw_1168) (fun _ h9 => h9) rfl dX11_begin_66 ?_
  refine lv_iload_n hx hb dX11_begin_69 rfl (lv_at hl 1 rfl) ?_
  refine lv_iconst (v := (-1)) hx hb dX11_begin_70 rfl ?_
  refine z_iast hx hb hK hP hD hS 9 0 rfl rfl (e := f) (x := (-1)) rfl b9_1 (Nat.le_of_ble_eq_true rfl) dX11_begin_71 (fun H locs hP hD hS => ?_)
  obtain ⟨hP, hD⟩ := zre (W2 := [_, _, _, _, _, _, _, _, _, (oa (a 9) cI 201 (upd pb f (-1))), _, _]) hP hD rfl
  refine lv_aload_n hx hb dX11_begin_72 rfl (lv_at hl 0 rfl) ?_
  refine va_get (D := (dC, dI)) (ci := 9) (v := .ref (a 10)) (C := RX11) (T := TX11) (N := 55) hx hb hts inX11 hown hK hP 0 rfl rfl 10 (Nat.le_of_ble_eq_true rfl) (hts _ mw_1169) (fun _ h9 => h9) rfl dX11_begin_73 ?_
  refine lv_iload_n hx hb dX11_begin_76 rfl (lv_at hl 1 rfl) ?_
  refine lv_iconst (v := (-1)) hx hb dX11_begin_77 rfl ?_
  refine z_iast hx hb hK hP hD hS 10 0 rfl rfl (e := f) (x := (-1)) rfl b9_1 (Nat.le_of_ble_eq_true rfl) dX11_begin_78 (fun H locs hP hD hS => ?_)
  obtain ⟨hP, hD⟩ := zre (W2 := [_, _, _, _, _, _, _, _, _, _, (oa (a 10) cI 201 (upd it f (-1))), _]) hP hD rfl
  refine lv_aload_n hx hb dX11_begin_79 rfl (lv_at hl 0 rfl) ?_
  refine va_get (D := (dC, dI)) (ci := 9) (v := .ref (a 11)) (C := RX11) (T := TX11) (N := 55) hx hb hts inX11 hown hK hP 0 rfl rfl 11 (Nat.le_of_ble_eq_true rfl) (hts _ mw_1170) (fun _ h9 => h9) rfl dX11_begin_80 ?_
  refine lv_iload_n hx hb dX11_begin_83 rfl (lv_at hl 1 rfl) ?_
  refine lv_iconst (v := 0) hx hb dX11_begin_84 rfl ?_
  refine z_iast hx hb hK hP hD hS 11 0 rfl rfl (e := f) (x := 0) rfl b9_1 (Nat.le_of_ble_eq_true rfl) dX11_begin_85 (fun H locs hP hD hS => ?_)
  obtain ⟨hP, hD⟩ := zre (W2 := [_, _, _, _, _, _, _, _, _, _, _, (oa (a 11) cI 201 (upd mn f 0))]) hP hD rfl
  obtain ⟨hP9, hD9⟩ := zu_sub (wc := [_, _, _, _, _, _, _, _, _, _, _, _]) hP hD [true, true, true, true, true, true, true, true, true, true, true, true] rfl rfl
  rw [hQ9]
  exact W.vret hx hb hr (fun t ht hW => ⟨⟨rfl, by rw [ht]; exact hP9, hD9⟩, hS.F ht⟩) hS.2.2 dX11_begin_86
end
section
set_option maxHeartbeats 4000000 in
set_option maxRecDepth 100000 in
theorem k_M_remember (l : Launch) (dC : Nat → ClassId) (dI : Nat → Nat → Nat) (cI cZ cF : ClassId) (sz : Nat) (k0 : Nat) (a : Nat → Nat) (I0 : Nat → Int32) (J0 : Nat → Int64) (f : Nat) (n : Nat) (ft : Nat) (st : Nat → Int32) (tn : Nat → Int32) (kd : Nat → Int32) (mn : Nat → Int32) (cx : Nat → Int32) (cy : Nat → Int32) (S0 : Nat → Int32) (ox : Nat → Int32) (oy : Nat → Int32) (mt : Nat → Int32) (wi : Nat → Int32) (ins : Nat → Int32) (hft : I0 0 = nI ft) (h200 : ft ≤ 200) (hf_f : f ≤ 200) (hm_f : mn f = nI n) (hn_f : 1 ≤ n ∧ n ≤ 40) (hp_f : pls n (cF40 cx f) (cF40 cy f)) (hwf : ∀ q, lvF ft st tn q → q ≠ f → wfM mn cx cy q) : zM l yX11_remember cX11_remember 4 none ({ frames := 4, cells := 0, slots := 0, locals := 107 } : Room) [.ref k0, .int (nI f)] (dC, dI) (zTy cI cZ cF) [(om k0 a I0 J0), (oa (a 5) cI 201 st), (oa (a 6) cZ 201 tn), (oa (a 1) cI 201 kd), (oa (a 11) cI 201 mn), (oa (a 12) cI 8040 cx), (oa (a 13) cI 8040 cy), (oa (a 32) cI 8 S0), (oa (a 33) cI 42 ox), (oa (a 34) cI 42 oy), (oa (a 37) cZ 201 mt), (oa (a 38) cZ 201 wi), (oa (a 39) cZ 8040 ins)] sz none (fun A t => ∃ (S1 : Nat → Int32), ∃ (ox1 : Nat → Int32), ∃ (oy1 : Nat → Int32), ∃ (mt1 : Nat → Int32), ∃ (wi1 : Nat → Int32), ∃ (ins1 : Nat → Int32), (∀ j, j < n → ox1 j = cx (40 * f + j) ∧ oy1 j = cy (40 * f + j)) ∧ (∀ j, lvF ft st tn j → j ≠ f → mt1 j = pI (bMt kd mn cx cy f n j)) ∧ (∀ j, lvF ft st tn j → j ≠ f → wi1 j = pI (5 ≤ (kd j).toInt ∧ bWi kd mn cx cy f j)) ∧ (∀ j, lvF ft st tn j → j ≠ f → 5 ≤ (kd f).toInt → ∀ i, i < nN (mn j) → ins1 (40 * j + i) = pI (bIn kd cx cy f n j i)) ∧ zPD (dC, dI) classes A [(om k0 a (upd (upd I0 35 (nI n)) 36 (kd f)) J0), (oa (a 5) cI 201 st), (oa (a 6) cZ 201 tn), (oa (a 1) cI 201 kd), (oa (a 11) cI 201 mn), (oa (a 12) cI 8040 cx), (oa (a 13) cI 8040 cy), (oa (a 32) cI 8 S1), (oa (a 33) cI 42 ox1), (oa (a 34) cI 42 oy1), (oa (a 37) cZ 201 mt1), (oa (a 38) cZ 201 wi1), (oa (a 39) cZ 8040 ins1)] t.heap) 0 0 := by
  refine zIn (own := "ScaleShopModel") (loc := [(0, .ref k0), (1, .int (nI f))]) rfl rfl rfl rfl (fun p e s m below meth c hx hb hr hts hown hlocks hml hnm9 A hA hS hP hD hK hXN Q9 hQ9 ls hl => ?_)
  refine lv_aload_n hx hb dX11_remember_0 rfl (lv_at hl 0 rfl) ?_
  refine lv_aload_n hx hb dX11_remember_1 rfl (lv_at hl 0 rfl) ?_
  refine va_get (D := (dC, dI)) (ci := 9) (v := .ref (a 11)) (C := RX11) (T := TX11) (N := 55) hx hb hts inX11 hown hK hP 0 rfl rfl 11 (Nat.le_of_ble_eq_true rfl) (hts _ mw_1170) (fun _ h9 => h9) rfl dX11_remember_2 ?_
  refine lv_iload_n hx hb dX11_remember_5 rfl (lv_at hl 1 rfl) ?_
  have b9_1 : f < 201 := by omega
  refine z_iald hx hb hK hP 4 0 rfl rfl (e := f) rfl b9_1 (Nat.le_of_ble_eq_true rfl) dX11_remember_6 ?_
  refine zz_i (v := nI n) (hm_f) ?_
  refine va_put (D := (dC, dI)) (ci := 9) (v := .int (nI n)) (ty := .int) (C := RX11) (T := TX11) (N := 55) hx hb hts inX11 tyX11 tyX11_ok nmX11 hown hK hP hD hS 0 rfl rfl 35 (by decide) (hts _ mw_1194) (fun _ h9 => h9) rfl (by decide +kernel) rfl rfl (Nat.le_of_ble_eq_true rfl) dX11_remember_7 (fun H locs hP hD hS => ?_)
  obtain ⟨hP, hD⟩ := zre (W2 := [(om k0 a (upd I0 35 (nI n)) J0), _, _, _, _, _, _, _, _, _, _, _, _]) hP hD rfl
  refine lv_aload_n hx hb dX11_remember_10 rfl (lv_at hl 0 rfl) ?_
  refine lv_aload_n hx hb dX11_remember_11 rfl (lv_at hl 0 rfl) ?_
  refine va_get (D := (dC, dI)) (ci := 9) (v := .ref (a 1)) (C := RX11) (T := TX11) (N := 55) hx hb hts inX11 hown hK hP 0 rfl rfl 1 (Nat.le_of_ble_eq_true rfl) (hts _ mw_1160) (fun _ h9 => h9) rfl dX11_remember_12 ?_
  refine lv_iload_n hx hb dX11_remember_15 rfl (lv_at hl 1 rfl) ?_
  refine z_iald hx hb hK hP 3 0 rfl rfl (e := f) rfl b9_1 (Nat.le_of_ble_eq_true rfl) dX11_remember_16 ?_
  refine va_put (D := (dC, dI)) (ci := 9) (v := .int (kd f)) (ty := .int) (C := RX11) (T := TX11) (N := 55) hx hb hts inX11 tyX11 tyX11_ok nmX11 hown hK hP hD hS 0 rfl rfl 36 (by decide) (hts _ mw_1195) (fun _ h9 => h9) rfl (by decide +kernel) rfl rfl (Nat.le_of_ble_eq_true rfl) dX11_remember_17 (fun H locs hP hD hS => ?_)
  obtain ⟨hP, hD⟩ := zre (W2 := [(om k0 a (upd (upd I0 35 (nI n)) 36 (kd f)) J0), _, _, _, _, _, _, _, _, _, _, _, _]) hP hD rfl
  refine lv_iconst (v := 0) hx hb dX11_remember_20 rfl ?_
  refine lv_istore_n (lv' := [(2, .int 0), (0, .ref k0), (1, .int (nI f))]) hx hb dX11_remember_21 rfl hl (Nat.le_of_ble_eq_true rfl) rfl (fun ls hl => ?_)
  have hl_22 : ∀ (n9 : Nat) (k : Nat) (ox1 : Nat → Int32) (oy1 : Nat → Int32) (H : Heap) (locs : List Loc) (ls : Array Slot), n - k < n9 → (k ≤ n) → (∀ j, j < k → ox1 j = cx (40 * f + j) ∧ oy1 j = cy (40 * f + j)) → va_P (dC, dI) classes [(om k0 a (upd (upd I0 35 (nI n)) 36 (kd f)) J0), (oa (a 5) cI 201 st), (oa (a 6) cZ 201 tn), (oa (a 1) cI 201 kd), (oa (a 11) cI 201 mn), (oa (a 12) cI 8040 cx), (oa (a 13) cI 8040 cy), (oa (a 32) cI 8 S0), (oa (a 33) cI 42 ox1), (oa (a 34) cI 42 oy1), (oa (a 37) cZ 201 mt), (oa (a 38) cZ 201 wi), (oa (a 39) cZ 8040 ins)] H → va_D A [(om k0 a (upd (upd I0 35 (nI n)) 36 (kd f)) J0), (oa (a 5) cI 201 st), (oa (a 6) cZ 201 tn), (oa (a 1) cI 201 kd), (oa (a 11) cI 201 mn), (oa (a 12) cI 8040 cx), (oa (a 13) cI 8040 cy), (oa (a 32) cI 8 S0), (oa (a 33) cI 42 ox1), (oa (a 34) cI 42 oy1), (oa (a 37) cZ 201 mt), (oa (a 38) cZ 201 wi), (oa (a 39) cZ 8040 ins)] → va_S A s.heap H locs → lv_has ls 4 [(2, .int (nI k)), (0, .ref k0), (1, .int (nI f))] → W p l e ({ frames := 4, cells := 0, slots := 0, locals := 107 } : Room) s m ([.ref k0, .int (nI f)] : List Value).toArray below meth c H locs 0 0 Q9 (F0 m 22 ls []) := by
    intro n9
    induction n9 with
    | zero => intro k ox1 oy1 H locs ls hm; exact absurd hm (Nat.not_lt_zero _)
    | succ n9 ih_22 =>
      intro k ox1 oy1 H locs ls hm hk hox hP hD hS hl
      refine lv_iload_n hx hb dX11_remember_22 rfl (lv_at hl 0 rfl) ?_
      refine lv_aload_n hx hb dX11_remember_23 rfl (lv_at hl 1 rfl) ?_
      refine va_get (D := (dC, dI)) (ci := 9) (v := .int (nI n)) (C := RX11) (T := TX11) (N := 55) hx hb hts inX11 hown hK hP 0 rfl rfl 35 (Nat.le_of_ble_eq_true rfl) (hts _ mw_1194) (fun _ h9 => h9) rfl dX11_remember_24 ?_
      have b9_3 : zlt (k) := show k < 2147483648 by omega
      have b9_4 : zlt (n) := show n < 2147483648 by omega
      refine lv_icmp_ge (tgt := 70) hx hb dX11_remember_27 rfl (fun c_2 => ?_) (fun c_2 => ?_)
      · have c_2 : ((n : Nat) : Int) ≤ ((k : Nat) : Int) := zc_le (nI_toInt b9_4) (nI_toInt b9_3) c_2
        have hkn : k = n := (by omega)
        rw [hkn] at hox
        clear hkn
        refine lv_iconst (v := 0) hx hb dX11_remember_70 rfl ?_
        refine lv_istore_n (lv' := [(2, .int 0), (0, .ref k0), (1, .int (nI f))]) hx hb dX11_remember_71 rfl hl (Nat.le_of_ble_eq_true rfl) rfl (fun ls hl => ?_)
        have hl_72 : ∀ (n9 : Nat) (q : Nat) (S1 : Nat → Int32) (mt1 : Nat → Int32) (wi1 : Nat → Int32) (ins1 : Nat → Int32) (H : Heap) (locs : List Loc) (ls : Array Slot), ft - q < n9 → (q ≤ ft) → (∀ j, j < q → lvF ft st tn j → j ≠ f → mt1 j = pI (bMt kd mn cx cy f n j)) → (∀ j, j < q → lvF ft st tn j → j ≠ f → wi1 j = pI (5 ≤ (kd j).toInt ∧ bWi kd mn cx cy f j)) → (∀ j, j < q → lvF ft st tn j → j ≠ f → 5 ≤ (kd f).toInt → ∀ i, i < nN (mn j) → ins1 (40 * j + i) = pI (bIn kd cx cy f n j i)) → va_P (dC, dI) classes [(om k0 a (upd (upd I0 35 (nI n)) 36 (kd f)) J0), (oa (a 5) cI 201 st), (oa (a 6) cZ 201 tn), (oa (a 1) cI 201 kd), (oa (a 11) cI 201 mn), (oa (a 12) cI 8040 cx), (oa (a 13) cI 8040 cy), (oa (a 32) cI 8 S1), (oa (a 33) cI 42 ox1), (oa (a 34) cI 42 oy1), (oa (a 37) cZ 201 mt1), (oa (a 38) cZ 201 wi1), (oa (a 39) cZ 8040 ins1)] H → va_D A [(om k0 a (upd (upd I0 35 (nI n)) 36 (kd f)) J0), (oa (a 5) cI 201 st), (oa (a 6) cZ 201 tn), (oa (a 1) cI 201 kd), (oa (a 11) cI 201 mn), (oa (a 12) cI 8040 cx), (oa (a 13) cI 8040 cy), (oa (a 32) cI 8 S1), (oa (a 33) cI 42 ox1), (oa (a 34) cI 42 oy1), (oa (a 37) cZ 201 mt1), (oa (a 38) cZ 201 wi1), (oa (a 39) cZ 8040 ins1)] → va_S A s.heap H locs → lv_has ls 4 [(2, .int (nI q)), (0, .ref k0), (1, .int (nI f))] → W p l e ({ frames := 4, cells := 0, slots := 0, locals := 107 } : Room) s m ([.ref k0, .int (nI f)] : List Value).toArray below meth c H locs 0 0 Q9 (F0 m 72 ls []) := by
          intro n9
          induction n9 with
          | zero => intro q S1 mt1 wi1 ins1 H locs ls hm; exact absurd hm (Nat.not_lt_zero _)
          | succ n9 ih_72 =>
            intro q S1 mt1 wi1 ins1 H locs ls hm hq hmt hwi hin hP hD hS hl
            refine lv_iload_n hx hb dX11_remember_72 rfl (lv_at hl 0 rfl) ?_
            refine lv_aload_n hx hb dX11_remember_73 rfl (lv_at hl 1 rfl) ?_
            refine va_get (D := (dC, dI)) (ci := 9) (v := .int (I0 0)) (C := RX11) (T := TX11) (N := 55) hx hb hts inX11 hown hK hP 0 rfl rfl 0 (Nat.le_of_ble_eq_true rfl) (hts _ mw_1159) (fun _ h9 => h9) rfl dX11_remember_74 ?_
            refine zz_i (v := nI ft) (hft) ?_
            have b9_6 : zlt (q) := show q < 2147483648 by omega
            have b9_7 : zlt (ft) := show ft < 2147483648 by omega
            refine lv_icmp_ge (tgt := 217) hx hb dX11_remember_77 rfl (fun c_5 => ?_) (fun c_5 => ?_)
            · have c_5 : ((ft : Nat) : Int) ≤ ((q : Nat) : Int) := zc_le (nI_toInt b9_7) (nI_toInt b9_6) c_5
              obtain ⟨hP9, hD9⟩ := zu_sub (wc := [_, _, _, _, _, _, _, _, _, _, _, _, _]) hP hD [true, true, true, true, true, true, true, true, true, true, true, true, true] rfl rfl
              rw [hQ9]
              exact W.vret hx hb hr (fun t ht hW => ⟨⟨rfl, S1, ox1, oy1, mt1, wi1, ins1, (fun j hj => hox j hj), (fun j h1 h2 => hmt j (by omega) h1 h2), (fun j h1 h2 => hwi j (by omega) h1 h2), (fun j h1 h2 => hin j (by omega) h1 h2), by rw [ht]; exact hP9, hD9⟩, hS.F ht⟩) hS.2.2 dX11_remember_217
            · have c_5 : ((q : Nat) : Int) < ((ft : Nat) : Int) := zc_nle (nI_toInt b9_7) (nI_toInt b9_6) c_5
              refine lv_iload_n hx hb dX11_remember_80 rfl (lv_at hl 0 rfl) ?_
              refine lv_iload_n hx hb dX11_remember_81 rfl (lv_at hl 2 rfl) ?_
              have b9_9 : zlt (f) := show f < 2147483648 by omega
              refine lv_icmp_eq (tgt := 211) hx hb dX11_remember_82 rfl (fun c_8 => ?_) (fun c_8 => ?_)
              · have c_8 : ((q : Nat) : Int) = ((f : Nat) : Int) := zc_eq (nI_toInt b9_6) (nI_toInt b9_9) c_8
                refine lv_iinc (v := nI (q + 1)) (lv' := [(2, .int (nI (q + 1))), (0, .ref k0), (1, .int (nI f))]) hx hb dX11_remember_211 hl (k := 0) rfl (nI_add q 1) (Nat.le_of_ble_eq_true rfl) rfl (fun ls hl => ?_)
                refine lv_goto (tgt := 72) hx hb dX11_remember_214 rfl ?_
                exact ih_72 (q + 1) S1 mt1 wi1 ins1 H locs ls (by first | with_reducible assumption | omega) (by first | with_reducible assumption | omega) (by intro j hj h1 h2; rcases Nat.lt_or_ge j q with h | h; (first | exact hmt j h h1 h2 | (simp only [upd, if_neg (show j ≠ q by omega)]; exact hmt j h h1 h2)); obtain rfl : j = q := (by first | with_reducible assumption | omega); first | (exfalso; omega) | exact absurd h1 (by first | with_reducible assumption | assumption) | (simp only [upd, if_true])) (by intro j hj h1 h2; rcases Nat.lt_or_ge j q with h | h; (first | exact hwi j h h1 h2 | (simp only [upd, if_neg (show j ≠ q by omega)]; exact hwi j h h1 h2)); obtain rfl : j = q := (by first | with_reducible assumption | omega); first | (exfalso; omega) | exact absurd h1 (by first | with_reducible assumption | assumption) | (simp only [upd, if_true])) (by intro j hj h1 h2 h5 i hi; rcases Nat.lt_or_ge j q with h | h; (first | exact hin2 j h h1 h2 h5 i hi | exact hin j h h1 h2 h5 i hi); obtain rfl : j = q := (by first | with_reducible assumption | omega); first | (exfalso; omega) | exact absurd h1 (by first | with_reducible assumption | assumption) | exact absurd h5 (by first | with_reducible assumption | assumption) | exact hin3 i (by first | with_reducible assumption | omega)) hP hD hS (lv_sub hl [0, 1, 2] rfl)
              · have c_8 : ¬ ((q : Nat) : Int) = ((f : Nat) : Int) := zc_ne (nI_toInt b9_6) (nI_toInt b9_9) c_8
                refine lv_aload_n hx hb dX11_remember_85 rfl (lv_at hl 1 rfl) ?_
                refine lv_iload_n hx hb dX11_remember_86 rfl (lv_at hl 0 rfl) ?_
                obtain ⟨hPc, hDc, hFc, hI1⟩ := zi_sub (wc := [_, _, _]) hP hD hS hA [0, 1, 2] rfl rfl
                refine zcall (st1 := [.int (pI (q < ft ∧ (st q).toInt = 1 ∧ (tn q).toInt = 0))]) (va_runV (As := [.int (nI q)]) (rest := []) ⟨hx, hb, hml, hown, hts⟩ (k_M_is_n l dC dI cI cZ cF H.size k0 a (upd (upd I0 35 (nI n)) 36 (kd f)) J0 q ft st tn (by first | with_reducible assumption | assumption) (by first | with_reducible assumption | omega) (by first | with_reducible assumption | omega)) (csV_179 hts rfl rfl ⟨Nat.le_of_ble_eq_true rfl, Nat.le_of_ble_eq_true rfl⟩) (zPV2 (q0 := 0) (ci := 9) hPc hDc hK hXN rfl rfl) rfl rfl hl.1 rfl (lv_room (Nat.le_of_ble_eq_true rfl)) dX11_remember_87 ⟨Nat.le_of_ble_eq_true rfl, Nat.le_of_ble_eq_true rfl⟩) hS hFc hFc rfl (fun t H locs ht hB hk1 hS => ?_)
                obtain ⟨hP1, hD1⟩ := hB
                rw [ht] at hP1
                replace hP := z0 hP hD hk1 hP1 hI1
                clear hk1 hPc hDc hFc hP1 hD1 ht hI1
                refine lv_if_ne (tgt := 96) hx hb dX11_remember_90 rfl (fun c_10 => ?_) (fun c_10 => ?_)
                · have c_10 : q < ft ∧ (st q).toInt = 1 ∧ (tn q).toInt = 0 := zp_1 c_10
                  have hw9 := hwf q (by first | with_reducible assumption | assumption) (by omega)
                  have hm9 := hw9.1
                  have hn9 := hw9.2.1
                  have hp9 := hw9.2.2
                  refine lv_aload_n hx hb dX11_remember_96 rfl (lv_at hl 1 rfl) ?_
                  refine va_get (D := (dC, dI)) (ci := 9) (v := .ref (a 37)) (C := RX11) (T := TX11) (N := 55) hx hb hts inX11 hown hK hP 0 rfl rfl 37 (Nat.le_of_ble_eq_true rfl) (hts _ mw_1196) (fun _ h9 => h9) rfl dX11_remember_97 ?_
                  refine lv_iload_n hx hb dX11_remember_100 rfl (lv_at hl 0 rfl) ?_
                  refine lv_aload_n hx hb dX11_remember_101 rfl (lv_at hl 1 rfl) ?_
                  refine lv_iload_n hx hb dX11_remember_102 rfl (lv_at hl 2 rfl) ?_
                  refine lv_iload_n hx hb dX11_remember_103 rfl (lv_at hl 0 rfl) ?_
                  obtain ⟨hPc, hDc, hFc⟩ := zo_sub (wc := [_, _, _, _, _, _]) hP hD hS hA [0, 3, 4, 5, 6, 7] (by decide +kernel) rfl
                  refine zcall (st1 := [.int (pI (∃ i, i < eO (kd f).toInt n ∧ ∃ j, j < eO (kd q).toInt (nN (mn q)) ∧ eMt n (cF40 cx f) (cF40 cy f) i (nN (mn q)) (cF40 cx q) (cF40 cy q) j)), .int (nI q), .ref (a 37)]) (va_runV (As := [.int (nI f), .int (nI q)]) (rest := [.int (nI q), .ref (a 37)]) ⟨hx, hb, hml, hown, hts⟩ (k_M_isMet l dC dI cI cZ cF H.size k0 a (upd (upd I0 35 (nI n)) 36 (kd f)) J0 f n q (nN (mn q)) kd mn cx cy S1 (by first | with_reducible assumption | omega) (by first | with_reducible assumption | assumption) (by first | with_reducible assumption | omega) (by first | with_reducible assumption | assumption) (by first | with_reducible assumption | omega) (by first | with_reducible assumption | assumption) (by first | with_reducible assumption | omega) (by first | with_reducible assumption | assumption)) (csV_180 hts rfl rfl ⟨Nat.le_of_ble_eq_true rfl, Nat.le_of_ble_eq_true rfl⟩) (zPV2 (q0 := 0) (ci := 9) hPc hDc hK hXN rfl rfl) rfl rfl hl.1 rfl (lv_room (Nat.le_of_ble_eq_true rfl)) dX11_remember_104 ⟨Nat.le_of_ble_eq_true rfl, Nat.le_of_ble_eq_true rfl⟩) hS hFc hFc rfl (fun t H locs ht hB hk1 hS => ?_)
                  obtain ⟨q_11, hP1, hD1⟩ := hB
                  rw [ht] at hP1
                  obtain ⟨hP, hD⟩ := zn (W2 := [_, _, _, _, _, _, _, (oa (a 32) cI 8 q_11), _, _, _, _, _]) hP hD hk1 hFc hP1 hD1 [0, 3, 4, 5, 6, 7] zl_153 zl_153 [0, 3, 4, 5, 6, 7] (by decide +kernel) rfl rfl rfl rfl rfl
                  clear hk1 hPc hDc hFc hP1 hD1 ht
                  refine zz_i (v := pI (bMt kd mn cx cy f n q)) (rfl) ?_
                  have b9_12 : q < 201 := by omega
                  refine z_zast hx hb hK hP hD hS 10 1 rfl rfl (e := q) (x := pI (bMt kd mn cx cy f n q)) rfl b9_12 (Nat.le_of_ble_eq_true rfl) (zp_and _) dX11_remember_107 (fun H locs hP hD hS => ?_)
                  obtain ⟨hP, hD⟩ := zre (W2 := [_, _, _, _, _, _, _, _, _, _, (oa (a 37) cZ 201 (upd mt1 q (pI (bMt kd mn cx cy f n q)))), _, _]) hP hD rfl
                  refine lv_aload_n hx hb dX11_remember_108 rfl (lv_at hl 1 rfl) ?_
                  refine va_get (D := (dC, dI)) (ci := 9) (v := .ref (a 38)) (C := RX11) (T := TX11) (N := 55) hx hb hts inX11 hown hK hP 0 rfl rfl 38 (Nat.le_of_ble_eq_true rfl) (hts _ mw_1197) (fun _ h9 => h9) rfl dX11_remember_109 ?_
                  refine lv_iload_n hx hb dX11_remember_112 rfl (lv_at hl 0 rfl) ?_
                  refine lv_aload_n hx hb dX11_remember_113 rfl (lv_at hl 1 rfl) ?_
                  refine lv_iload_n hx hb dX11_remember_114 rfl (lv_at hl 0 rfl) ?_
                  obtain ⟨hPc, hDc, hFc, hI1⟩ := zi_sub (wc := [_, _]) hP hD hS hA [0, 3] rfl rfl
                  refine zcall (st1 := [.int (pI (5 ≤ (kd q).toInt)), .int (nI q), .ref (a 38)]) (va_runV (As := [.int (nI q)]) (rest := [.int (nI q), .ref (a 38)]) ⟨hx, hb, hml, hown, hts⟩ (k_M_isRing l dC dI cI cZ cF H.size k0 a (upd (upd I0 35 (nI n)) 36 (kd f)) J0 q kd (by first | with_reducible assumption | omega)) (csV_165 hts rfl rfl ⟨Nat.le_of_ble_eq_true rfl, Nat.le_of_ble_eq_true rfl⟩) (zPV2 (q0 := 0) (ci := 9) hPc hDc hK hXN rfl rfl) rfl rfl hl.1 rfl (lv_room (Nat.le_of_ble_eq_true rfl)) dX11_remember_115 ⟨Nat.le_of_ble_eq_true rfl, Nat.le_of_ble_eq_true rfl⟩) hS hFc hFc rfl (fun t H locs ht hB hk1 hS => ?_)
                  obtain ⟨hP1, hD1⟩ := hB
                  rw [ht] at hP1
                  replace hP := z0 hP hD hk1 hP1 hI1
                  clear hk1 hPc hDc hFc hP1 hD1 ht hI1
                  refine lv_if_eq (tgt := 145) hx hb dX11_remember_118 rfl (fun c_13 => ?_) (fun c_13 => ?_)
                  · have c_13 : ¬ (5 ≤ (kd q).toInt) := zp_0 c_13
                    refine lv_iconst (v := 0) hx hb dX11_remember_145 rfl ?_
                    refine zz_i (v := pI (5 ≤ (kd q).toInt ∧ bWi kd mn cx cy f q)) (by first | exact (zp_t ⟨by assumption, by assumption⟩).symm | exact (zp_f (fun h => absurd h.1 (by first | with_reducible assumption | assumption))).symm | exact (zp_f (fun h => absurd h.2 (by first | with_reducible assumption | assumption))).symm) ?_
                    refine z_zast hx hb hK hP hD hS 11 1 rfl rfl (e := q) (x := pI (5 ≤ (kd q).toInt ∧ bWi kd mn cx cy f q)) rfl b9_12 (Nat.le_of_ble_eq_true rfl) (zp_and _) dX11_remember_146 (fun H locs hP hD hS => ?_)
                    obtain ⟨hP, hD⟩ := zre (W2 := [_, _, _, _, _, _, _, _, _, _, _, (oa (a 38) cZ 201 (upd wi1 q (pI (5 ≤ (kd q).toInt ∧ bWi kd mn cx cy f q)))), _]) hP hD rfl
                    refine lv_iconst (v := 0) hx hb dX11_remember_147 rfl ?_
                    refine lv_istore_n (lv' := [(3, .int 0), (2, .int (nI q)), (0, .ref k0), (1, .int (nI f))]) hx hb dX11_remember_148 rfl hl (Nat.le_of_ble_eq_true rfl) rfl (fun ls hl => ?_)
                    have hl_149 : ∀ (n9 : Nat) (k : Nat) (S2 : Nat → Int32) (ins2 : Nat → Int32) (H : Heap) (locs : List Loc) (ls : Array Slot), nN (mn q) - k < n9 → (k ≤ nN (mn q)) → (∀ j, j < q → lvF ft st tn j → j ≠ f → 5 ≤ (kd f).toInt → ∀ i, i < nN (mn j) → ins2 (40 * j + i) = pI (bIn kd cx cy f n j i)) → (∀ i, i < k → ins2 (40 * q + i) = pI (bIn kd cx cy f n q i)) → va_P (dC, dI) classes [(om k0 a (upd (upd I0 35 (nI n)) 36 (kd f)) J0), (oa (a 5) cI 201 st), (oa (a 6) cZ 201 tn), (oa (a 1) cI 201 kd), (oa (a 11) cI 201 mn), (oa (a 12) cI 8040 cx), (oa (a 13) cI 8040 cy), (oa (a 32) cI 8 S2), (oa (a 33) cI 42 ox1), (oa (a 34) cI 42 oy1), (oa (a 37) cZ 201 (upd mt1 q (pI (bMt kd mn cx cy f n q)))), (oa (a 38) cZ 201 (upd wi1 q (pI (5 ≤ (kd q).toInt ∧ bWi kd mn cx cy f q)))), (oa (a 39) cZ 8040 ins2)] H → va_D A [(om k0 a (upd (upd I0 35 (nI n)) 36 (kd f)) J0), (oa (a 5) cI 201 st), (oa (a 6) cZ 201 tn), (oa (a 1) cI 201 kd), (oa (a 11) cI 201 mn), (oa (a 12) cI 8040 cx), (oa (a 13) cI 8040 cy), (oa (a 32) cI 8 S2), (oa (a 33) cI 42 ox1), (oa (a 34) cI 42 oy1), (oa (a 37) cZ 201 (upd mt1 q (pI (bMt kd mn cx cy f n q)))), (oa (a 38) cZ 201 (upd wi1 q (pI (5 ≤ (kd q).toInt ∧ bWi kd mn cx cy f q)))), (oa (a 39) cZ 8040 ins2)] → va_S A s.heap H locs → lv_has ls 4 [(3, .int (nI k)), (2, .int (nI q)), (0, .ref k0), (1, .int (nI f))] → W p l e ({ frames := 4, cells := 0, slots := 0, locals := 107 } : Room) s m ([.ref k0, .int (nI f)] : List Value).toArray below meth c H locs 0 0 Q9 (F0 m 149 ls []) := by
                      intro n9
                      induction n9 with
                      | zero => intro k S2 ins2 H locs ls hm; exact absurd hm (Nat.not_lt_zero _)
                      | succ n9 ih_149 =>
                        intro k S2 ins2 H locs ls hm hk hin2 hin3 hP hD hS hl
                        refine lv_iload_n hx hb dX11_remember_149 rfl (lv_at hl 0 rfl) ?_
                        refine lv_aload_n hx hb dX11_remember_150 rfl (lv_at hl 2 rfl) ?_
                        refine va_get (D := (dC, dI)) (ci := 9) (v := .ref (a 11)) (C := RX11) (T := TX11) (N := 55) hx hb hts inX11 hown hK hP 0 rfl rfl 11 (Nat.le_of_ble_eq_true rfl) (hts _ mw_1170) (fun _ h9 => h9) rfl dX11_remember_151 ?_
                        refine lv_iload_n hx hb dX11_remember_154 rfl (lv_at hl 1 rfl) ?_
                        refine z_iald hx hb hK hP 4 0 rfl rfl (e := q) rfl b9_12 (Nat.le_of_ble_eq_true rfl) dX11_remember_155 ?_
                        refine zz_i (v := nI (nN (mn q))) (hm9) ?_
                        have b9_15 : zlt (k) := show k < 2147483648 by omega
                        have b9_16 : zlt ((nN (mn q))) := show (nN (mn q)) < 2147483648 by omega
                        refine lv_icmp_ge (tgt := 211) hx hb dX11_remember_156 rfl (fun c_14 => ?_) (fun c_14 => ?_)
                        · have c_14 : ((nN (mn q) : Nat) : Int) ≤ ((k : Nat) : Int) := zc_le (nI_toInt b9_16) (nI_toInt b9_15) c_14
                          refine lv_iinc (v := nI (q + 1)) (lv' := [(2, .int (nI (q + 1))), (3, .int (nI k)), (0, .ref k0), (1, .int (nI f))]) hx hb dX11_remember_211 hl (k := 1) rfl (nI_add q 1) (Nat.le_of_ble_eq_true rfl) rfl (fun ls hl => ?_)
                          refine lv_goto (tgt := 72) hx hb dX11_remember_214 rfl ?_
                          exact ih_72 (q + 1) S2 (upd mt1 q (pI (bMt kd mn cx cy f n q))) (upd wi1 q (pI (5 ≤ (kd q).toInt ∧ bWi kd mn cx cy f q))) ins2 H locs ls (by first | with_reducible assumption | omega) (by first | with_reducible assumption | omega) (by intro j hj h1 h2; rcases Nat.lt_or_ge j q with h | h; (first | exact hmt j h h1 h2 | (simp only [upd, if_neg (show j ≠ q by omega)]; exact hmt j h h1 h2)); obtain rfl : j = q := (by first | with_reducible assumption | omega); first | (exfalso; omega) | exact absurd h1 (by first | with_reducible assumption | assumption) | (simp only [upd, if_true])) (by intro j hj h1 h2; rcases Nat.lt_or_ge j q with h | h; (first | exact hwi j h h1 h2 | (simp only [upd, if_neg (show j ≠ q by omega)]; exact hwi j h h1 h2)); obtain rfl : j = q := (by first | with_reducible assumption | omega); first | (exfalso; omega) | exact absurd h1 (by first | with_reducible assumption | assumption) | (simp only [upd, if_true])) (by intro j hj h1 h2 h5 i hi; rcases Nat.lt_or_ge j q with h | h; (first | exact hin2 j h h1 h2 h5 i hi | exact hin j h h1 h2 h5 i hi); obtain rfl : j = q := (by first | with_reducible assumption | omega); first | (exfalso; omega) | exact absurd h1 (by first | with_reducible assumption | assumption) | exact absurd h5 (by first | with_reducible assumption | assumption) | exact hin3 i (by first | with_reducible assumption | omega)) hP hD hS (lv_sub hl [0, 2, 3] rfl)
                        · have c_14 : ((k : Nat) : Int) < ((nN (mn q) : Nat) : Int) := zc_nle (nI_toInt b9_16) (nI_toInt b9_15) c_14
                          have hk9 : k < nN (mn q) := (by omega)
                          refine lv_aload_n hx hb dX11_remember_159 rfl (lv_at hl 2 rfl) ?_
                          refine lv_iload_n hx hb dX11_remember_160 rfl (lv_at hl 3 rfl) ?_
                          obtain ⟨hPc, hDc, hFc, hI1⟩ := zi_sub (wc := [_, _]) hP hD hS hA [0, 3] rfl rfl
                          refine zcall (st1 := [.int (pI (5 ≤ (kd f).toInt))]) (va_runV (As := [.int (nI f)]) (rest := []) ⟨hx, hb, hml, hown, hts⟩ (k_M_isRing l dC dI cI cZ cF H.size k0 a (upd (upd I0 35 (nI n)) 36 (kd f)) J0 f kd (by first | with_reducible assumption | omega)) (csV_165 hts rfl rfl ⟨Nat.le_of_ble_eq_true rfl, Nat.le_of_ble_eq_true rfl⟩) (zPV2 (q0 := 0) (ci := 9) hPc hDc hK hXN rfl rfl) rfl rfl hl.1 rfl (lv_room (Nat.le_of_ble_eq_true rfl)) dX11_remember_161 ⟨Nat.le_of_ble_eq_true rfl, Nat.le_of_ble_eq_true rfl⟩) hS hFc hFc rfl (fun t H locs ht hB hk1 hS => ?_)
                          obtain ⟨hP1, hD1⟩ := hB
                          rw [ht] at hP1
                          replace hP := z0 hP hD hk1 hP1 hI1
                          clear hk1 hPc hDc hFc hP1 hD1 ht hI1
                          refine lv_if_eq (tgt := 211) hx hb dX11_remember_164 rfl (fun c_17 => ?_) (fun c_17 => ?_)
                          · have c_17 : ¬ (5 ≤ (kd f).toInt) := zp_0 c_17
                            refine lv_iinc (v := nI (q + 1)) (lv' := [(2, .int (nI (q + 1))), (3, .int (nI k)), (0, .ref k0), (1, .int (nI f))]) hx hb dX11_remember_211 hl (k := 1) rfl (nI_add q 1) (Nat.le_of_ble_eq_true rfl) rfl (fun ls hl => ?_)
                            refine lv_goto (tgt := 72) hx hb dX11_remember_214 rfl ?_
                            exact ih_72 (q + 1) S2 (upd mt1 q (pI (bMt kd mn cx cy f n q))) (upd wi1 q (pI (5 ≤ (kd q).toInt ∧ bWi kd mn cx cy f q))) ins2 H locs ls (by first | with_reducible assumption | omega) (by first | with_reducible assumption | omega) (by intro j hj h1 h2; rcases Nat.lt_or_ge j q with h | h; (first | exact hmt j h h1 h2 | (simp only [upd, if_neg (show j ≠ q by omega)]; exact hmt j h h1 h2)); obtain rfl : j = q := (by first | with_reducible assumption | omega); first | (exfalso; omega) | exact absurd h1 (by first | with_reducible assumption | assumption) | (simp only [upd, if_true])) (by intro j hj h1 h2; rcases Nat.lt_or_ge j q with h | h; (first | exact hwi j h h1 h2 | (simp only [upd, if_neg (show j ≠ q by omega)]; exact hwi j h h1 h2)); obtain rfl : j = q := (by first | with_reducible assumption | omega); first | (exfalso; omega) | exact absurd h1 (by first | with_reducible assumption | assumption) | (simp only [upd, if_true])) (by intro j hj h1 h2 h5 i hi; rcases Nat.lt_or_ge j q with h | h; (first | exact hin2 j h h1 h2 h5 i hi | exact hin j h h1 h2 h5 i hi); obtain rfl : j = q := (by first | with_reducible assumption | omega); first | (exfalso; omega) | exact absurd h1 (by first | with_reducible assumption | assumption) | exact absurd h5 (by first | with_reducible assumption | assumption) | exact hin3 i (by first | with_reducible assumption | omega)) hP hD hS (lv_sub hl [0, 2, 3] rfl)
                          · have c_17 : 5 ≤ (kd f).toInt := zp_1 c_17
                            refine lv_aload_n hx hb dX11_remember_167 rfl (lv_at hl 2 rfl) ?_
                            refine va_get (D := (dC, dI)) (ci := 9) (v := .ref (a 39)) (C := RX11) (T := TX11) (N := 55) hx hb hts inX11 hown hK hP 0 rfl rfl 39 (Nat.le_of_ble_eq_true rfl) (hts _ mw_1198) (fun _ h9 => h9) rfl dX11_remember_168 ?_
                            refine lv_bipush (v := 40) hx hb dX11_remember_171 rfl ?_
                            refine lv_iload_n hx hb dX11_remember_173 rfl (lv_at hl 1 rfl) ?_
                            refine lv_imul hx hb dX11_remember_174 ?_
                            refine zz_i (v := nI (40 * q)) (pk_mul 40 q) ?_
                            refine lv_iload_n hx hb dX11_remember_175 rfl (lv_at hl 0 rfl) ?_
                            refine lv_iadd hx hb dX11_remember_176 ?_
                            refine zz_i (v := nI (40 * q + k)) (nI_add (40 * q) k) ?_
                            refine lv_aload_n hx hb dX11_remember_177 rfl (lv_at hl 2 rfl) ?_
                            refine lv_iload_n hx hb dX11_remember_178 rfl (lv_at hl 3 rfl) ?_
                            refine lv_aload_n hx hb dX11_remember_179 rfl (lv_at hl 2 rfl) ?_
                            refine va_get (D := (dC, dI)) (ci := 9) (v := .ref (a 12)) (C := RX11) (T := TX11) (N := 55) hx hb hts inX11 hown hK hP 0 rfl rfl 12 (Nat.le_of_ble_eq_true rfl) (hts _ mw_1171) (fun _ h9 => h9) rfl dX11_remember_180 ?_
                            refine lv_bipush (v := 40) hx hb dX11_remember_183 rfl ?_
                            refine lv_iload_n hx hb dX11_remember_185 rfl (lv_at hl 1 rfl) ?_
                            refine lv_imul hx hb dX11_remember_186 ?_
                            refine zz_i (v := nI (40 * q)) (pk_mul 40 q) ?_
                            refine lv_iload_n hx hb dX11_remember_187 rfl (lv_at hl 0 rfl) ?_
                            refine lv_iadd hx hb dX11_remember_188 ?_
                            refine zz_i (v := nI (40 * q + k)) (nI_add (40 * q) k) ?_
                            have b9_18 : 40 * q + k < 8040 := by omega
                            refine z_iald hx hb hK hP 5 0 rfl rfl (e := 40 * q + k) rfl b9_18 (Nat.le_of_ble_eq_true rfl) dX11_remember_189 ?_
                            refine lv_aload_n hx hb dX11_remember_190 rfl (lv_at hl 2 rfl) ?_
                            refine va_get (D := (dC, dI)) (ci := 9) (v := .ref (a 13)) (C := RX11) (T := TX11) (N := 55) hx hb hts inX11 hown hK hP 0 rfl rfl 13 (Nat.le_of_ble_eq_true rfl) (hts _ mw_1172) (fun _ h9 => h9) rfl dX11_remember_191 ?_
                            refine lv_bipush (v := 40) hx hb dX11_remember_194 rfl ?_
                            refine lv_iload_n hx hb dX11_remember_196 rfl (lv_at hl 1 rfl) ?_
                            refine lv_imul hx hb dX11_remember_197 ?_
                            refine zz_i (v := nI (40 * q)) (pk_mul 40 q) ?_
                            refine lv_iload_n hx hb dX11_remember_198 rfl (lv_at hl 0 rfl) ?_
                            refine lv_iadd hx hb dX11_remember_199 ?_
                            refine zz_i (v := nI (40 * q + k)) (nI_add (40 * q) k) ?_
                            refine z_iald hx hb hK hP 6 0 rfl rfl (e := 40 * q + k) rfl b9_18 (Nat.le_of_ble_eq_true rfl) dX11_remember_200 ?_
                            obtain ⟨hPc, hDc, hFc⟩ := zo_sub (wc := [_, _, _, _, _, _]) hP hD hS hA [0, 3, 4, 5, 6, 7] (by decide +kernel) rfl
                            refine zcall (st1 := [.int (pI (¬ (∃ i, i < eO (kd f).toInt n ∧ eOn n (cF40 cx f) (cF40 cy f) i (cx (40 * q + k)).toInt (cy (40 * q + k)).toInt) ∧ par2 (eTg n (cF40 cx f) (cF40 cy f) (cx (40 * q + k)).toInt (cy (40 * q + k)).toInt) (eO (kd f).toInt n))), .int (nI (40 * q + k)), .ref (a 39)]) (va_runV (As := [.int (nI f), .int (cx (40 * q + k)), .int (cy (40 * q + k))]) (rest := [.int (nI (40 * q + k)), .ref (a 39)]) ⟨hx, hb, hml, hown, hts⟩ (k_M_isInside l dC dI cI cZ cF H.size k0 a (upd (upd I0 35 (nI n)) 36 (kd f)) J0 f n kd mn cx cy S2 (cx (40 * q + k)) (cy (40 * q + k)) (by first | with_reducible assumption | omega) (by first | with_reducible assumption | assumption) (by first | with_reducible assumption | omega) (by first | with_reducible assumption | assumption) ((hp9 k hk9).1) ((hp9 k hk9).2)) (csV_183 hts rfl rfl ⟨Nat.le_of_ble_eq_true rfl, Nat.le_of_ble_eq_true rfl⟩) (zPV2 (q0 := 0) (ci := 9) hPc hDc hK hXN rfl rfl) rfl rfl hl.1 rfl (lv_room (Nat.le_of_ble_eq_true rfl)) dX11_remember_201 ⟨Nat.le_of_ble_eq_true rfl, Nat.le_of_ble_eq_true rfl⟩) hS hFc hFc rfl (fun t H locs ht hB hk1 hS => ?_)
                            obtain ⟨q_19, hP1, hD1⟩ := hB
                            rw [ht] at hP1
                            obtain ⟨hP, hD⟩ := zn (W2 := [_, _, _, _, _, _, _, (oa (a 32) cI 8 q_19), _, _, _, _, _]) hP hD hk1 hFc hP1 hD1 [0, 3, 4, 5, 6, 7] zl_153 zl_153 [0, 3, 4, 5, 6, 7] (by decide +kernel) rfl rfl rfl rfl rfl
                            clear hk1 hPc hDc hFc hP1 hD1 ht
                            refine zz_i (v := pI (bIn kd cx cy f n q k)) (rfl) ?_
                            refine z_zast hx hb hK hP hD hS 12 1 rfl rfl (e := 40 * q + k) (x := pI (bIn kd cx cy f n q k)) rfl b9_18 (Nat.le_of_ble_eq_true rfl) (zp_and _) dX11_remember_204 (fun H locs hP hD hS => ?_)
                            obtain ⟨hP, hD⟩ := zre (W2 := [_, _, _, _, _, _, _, _, _, _, _, _, (oa (a 39) cZ 8040 (upd ins2 (40 * q + k) (pI (bIn kd cx cy f n q k))))]) hP hD rfl
                            refine lv_iinc (v := nI (k + 1)) (lv' := [(3, .int (nI (k + 1))), (2, .int (nI q)), (0, .ref k0), (1, .int (nI f))]) hx hb dX11_remember_205 hl (k := 0) rfl (nI_add k 1) (Nat.le_of_ble_eq_true rfl) rfl (fun ls hl => ?_)
                            refine lv_goto (tgt := 149) hx hb dX11_remember_208 rfl ?_
                            exact ih_149 (k + 1) q_19 (upd ins2 (40 * q + k) (pI (bIn kd cx cy f n q k))) H locs ls (by first | with_reducible assumption | omega) (by first | with_reducible assumption | omega) (by intro j hj h1 h2 h5 i hi; have h8 := (hwf j h1 h2).2.1; simp only [upd, if_neg (show 40 * j + i ≠ 40 * q + k by omega)]; exact hin2 j hj h1 h2 h5 i hi) (by intro i hi; rcases Nat.lt_or_ge i k with h | h; simp only [upd, if_neg (show 40 * q + i ≠ 40 * q + k by omega)]; exact hin3 i h; rw [show i = k by omega]; simp only [upd, if_true]) hP hD hS (lv_sub hl [0, 1, 2, 3] rfl)
                    exact hl_149 _ 0 q_11 ins1 H locs ls (Nat.lt_succ_self _) (by first | with_reducible assumption | omega) (by intro j hj h1 h2 h5 i hi; exact hin j hj h1 h2 h5 i hi) (by intro i hi; omega) hP hD hS (lv_sub hl [0, 1, 2, 3] rfl)
                  · have c_13 : 5 ≤ (kd q).toInt := zp_1 c_13
                    refine lv_aload_n hx hb dX11_remember_121 rfl (lv_at hl 1 rfl) ?_
                    refine lv_iload_n hx hb dX11_remember_122 rfl (lv_at hl 0 rfl) ?_
                    refine lv_aload_n hx hb dX11_remember_123 rfl (lv_at hl 1 rfl) ?_
                    refine va_get (D := (dC, dI)) (ci := 9) (v := .ref (a 33)) (C := RX11) (T := TX11) (N := 55) hx hb hts inX11 hown hK hP 0 rfl rfl 33 (Nat.le_of_ble_eq_true rfl) (hts _ mw_1192) (fun _ h9 => h9) rfl dX11_remember_124 ?_
                    refine lv_iconst (v := 0) hx hb dX11_remember_127 rfl ?_
                    refine z_iald hx hb hK hP 8 0 rfl rfl (e := 0) rfl (Nat.le_of_ble_eq_true rfl) (Nat.le_of_ble_eq_true rfl) dX11_remember_128 ?_
                    refine zz_i (v := cF40 cx f 0) ((hox 0 (by omega)).1) ?_
                    refine lv_aload_n hx hb dX11_remember_129 rfl (lv_at hl 1 rfl) ?_
                    refine va_get (D := (dC, dI)) (ci := 9) (v := .ref (a 34)) (C := RX11) (T := TX11) (N := 55) hx hb hts inX11 hown hK hP 0 rfl rfl 34 (Nat.le_of_ble_eq_true rfl) (hts _ mw_1193) (fun _ h9 => h9) rfl dX11_remember_130 ?_
                    refine lv_iconst (v := 0) hx hb dX11_remember_133 rfl ?_
                    refine z_iald hx hb hK hP 9 0 rfl rfl (e := 0) rfl (Nat.le_of_ble_eq_true rfl) (Nat.le_of_ble_eq_true rfl) dX11_remember_134 ?_
                    refine zz_i (v := cF40 cy f 0) ((hox 0 (by omega)).2) ?_
                    obtain ⟨hPc, hDc, hFc⟩ := zo_sub (wc := [_, _, _, _, _, _]) hP hD hS hA [0, 3, 4, 5, 6, 7] (by decide +kernel) rfl
                    refine zcall (st1 := [.int (pI (¬ (∃ i, i < eO (kd q).toInt (nN (mn q)) ∧ eOn (nN (mn q)) (cF40 cx q) (cF40 cy q) i (cF40 cx f 0).toInt (cF40 cy f 0).toInt) ∧ par2 (eTg (nN (mn q)) (cF40 cx q) (cF40 cy q) (cF40 cx f 0).toInt (cF40 cy f 0).toInt) (eO (kd q).toInt (nN (mn q))))), .int (nI q), .ref (a 38)]) (va_runV (As := [.int (nI q), .int (cF40 cx f 0), .int (cF40 cy f 0)]) (rest := [.int (nI q), .ref (a 38)]) ⟨hx, hb, hml, hown, hts⟩ (k_M_isInside l dC dI cI cZ cF H.size k0 a (upd (upd I0 35 (nI n)) 36 (kd f)) J0 q (nN (mn q)) kd mn cx cy q_11 (cF40 cx f 0) (cF40 cy f 0) (by first | with_reducible assumption | omega) (by first | with_reducible assumption | assumption) (by first | with_reducible assumption | omega) (by first | with_reducible assumption | assumption) ((hp_f 0 (by first | with_reducible assumption | omega)).1) ((hp_f 0 (by first | with_reducible assumption | omega)).2)) (csV_183 hts rfl rfl ⟨Nat.le_of_ble_eq_true rfl, Nat.le_of_ble_eq_true rfl⟩) (zPV2 (q0 := 0) (ci := 9) hPc hDc hK hXN rfl rfl) rfl rfl hl.1 rfl (lv_room (Nat.le_of_ble_eq_true rfl)) dX11_remember_135 ⟨Nat.le_of_ble_eq_true rfl, Nat.le_of_ble_eq_true rfl⟩) hS hFc hFc rfl (fun t H locs ht hB hk1 hS => ?_)
                    obtain ⟨q_20, hP1, hD1⟩ := hB
                    rw [ht] at hP1
                    obtain ⟨hP, hD⟩ := zn (W2 := [_, _, _, _, _, _, _, (oa (a 32) cI 8 q_20), _, _, _, _, _]) hP hD hk1 hFc hP1 hD1 [0, 3, 4, 5, 6, 7] zl_153 zl_153 [0, 3, 4, 5, 6, 7] (by decide +kernel) rfl rfl rfl rfl rfl
                    clear hk1 hPc hDc hFc hP1 hD1 ht
                    refine zz_i (v := pI (bWi kd mn cx cy f q)) (rfl) ?_
                    refine lv_if_eq (tgt := 145) hx hb dX11_remember_138 rfl (fun c_21 => ?_) (fun c_21 => ?_)
                    · have c_21 : ¬ (bWi kd mn cx cy f q) := zp_0 c_21
                      refine lv_iconst (v := 0) hx hb dX11_remember_145 rfl ?_
                      refine zz_i (v := pI (5 ≤ (kd q).toInt ∧ bWi kd mn cx cy f q)) (by first | exact (zp_t ⟨by assumption, by assumption⟩).symm | exact (zp_f (fun h => absurd h.1 (by first | with_reducible assumption | assumption))).symm | exact (zp_f (fun h => absurd h.2 (by first | with_reducible assumption | assumption))).symm) ?_
                      have b9_22 : q < 201 := by omega
                      refine z_zast hx hb hK hP hD hS 11 1 rfl rfl (e := q) (x := pI (5 ≤ (kd q).toInt ∧ bWi kd mn cx cy f q)) rfl b9_22 (Nat.le_of_ble_eq_true rfl) (zp_and _) dX11_remember_146 (fun H locs hP hD hS => ?_)
                      obtain ⟨hP, hD⟩ := zre (W2 := [_, _, _, _, _, _, _, _, _, _, _, (oa (a 38) cZ 201 (upd wi1 q (pI (5 ≤ (kd q).toInt ∧ bWi kd mn cx cy f q)))), _]) hP hD rfl
                      refine lv_iconst (v := 0) hx hb dX11_remember_147 rfl ?_
                      refine lv_istore_n (lv' := [(3, .int 0), (2, .int (nI q)), (0, .ref k0), (1, .int (nI f))]) hx hb dX11_remember_148 rfl hl (Nat.le_of_ble_eq_true rfl) rfl (fun ls hl => ?_)
                      have hl_149 : ∀ (n9 : Nat) (k : Nat) (S2 : Nat → Int32) (ins2 : Nat → Int32) (H : Heap) (locs : List Loc) (ls : Array Slot), nN (mn q) - k < n9 → (k ≤ nN (mn q)) → (∀ j, j < q → lvF ft st tn j → j ≠ f → 5 ≤ (kd f).toInt → ∀ i, i < nN (mn j) → ins2 (40 * j + i) = pI (bIn kd cx cy f n j i)) → (∀ i, i < k → ins2 (40 * q + i) = pI (bIn kd cx cy f n q i)) → va_P (dC, dI) classes [(om k0 a (upd (upd I0 35 (nI n)) 36 (kd f)) J0), (oa (a 5) cI 201 st), (oa (a 6) cZ 201 tn), (oa (a 1) cI 201 kd), (oa (a 11) cI 201 mn), (oa (a 12) cI 8040 cx), (oa (a 13) cI 8040 cy), (oa (a 32) cI 8 S2), (oa (a 33) cI 42 ox1), (oa (a 34) cI 42 oy1), (oa (a 37) cZ 201 (upd mt1 q (pI (bMt kd mn cx cy f n q)))), (oa (a 38) cZ 201 (upd wi1 q (pI (5 ≤ (kd q).toInt ∧ bWi kd mn cx cy f q)))), (oa (a 39) cZ 8040 ins2)] H → va_D A [(om k0 a (upd (upd I0 35 (nI n)) 36 (kd f)) J0), (oa (a 5) cI 201 st), (oa (a 6) cZ 201 tn), (oa (a 1) cI 201 kd), (oa (a 11) cI 201 mn), (oa (a 12) cI 8040 cx), (oa (a 13) cI 8040 cy), (oa (a 32) cI 8 S2), (oa (a 33) cI 42 ox1), (oa (a 34) cI 42 oy1), (oa (a 37) cZ 201 (upd mt1 q (pI (bMt kd mn cx cy f n q)))), (oa (a 38) cZ 201 (upd wi1 q (pI (5 ≤ (kd q).toInt ∧ bWi kd mn cx cy f q)))), (oa (a 39) cZ 8040 ins2)] → va_S A s.heap H locs → lv_has ls 4 [(3, .int (nI k)), (2, .int (nI q)), (0, .ref k0), (1, .int (nI f))] → W p l e ({ frames := 4, cells := 0, slots := 0, locals := 107 } : Room) s m ([.ref k0, .int (nI f)] : List Value).toArray below meth c H locs 0 0 Q9 (F0 m 149 ls []) := by
                        intro n9
                        induction n9 with
                        | zero => intro k S2 ins2 H locs ls hm; exact absurd hm (Nat.not_lt_zero _)
                        | succ n9 ih_149 =>
                          intro k S2 ins2 H locs ls hm hk hin2 hin3 hP hD hS hl
                          refine lv_iload_n hx hb dX11_remember_149 rfl (lv_at hl 0 rfl) ?_
                          refine lv_aload_n hx hb dX11_remember_150 rfl (lv_at hl 2 rfl) ?_
                          refine va_get (D := (dC, dI)) (ci := 9) (v := .ref (a 11)) (C := RX11) (T := TX11) (N := 55) hx hb hts inX11 hown hK hP 0 rfl rfl 11 (Nat.le_of_ble_eq_true rfl) (hts _ mw_1170) (fun _ h9 => h9) rfl dX11_remember_151 ?_
                          refine lv_iload_n hx hb dX11_remember_154 rfl (lv_at hl 1 rfl) ?_
                          refine z_iald hx hb hK hP 4 0 rfl rfl (e := q) rfl b9_22 (Nat.le_of_ble_eq_true rfl) dX11_remember_155 ?_
                          refine zz_i (v := nI (nN (mn q))) (hm9) ?_
                          have b9_24 : zlt (k) := show k < 2147483648 by omega
                          have b9_25 : zlt ((nN (mn q))) := show (nN (mn q)) < 2147483648 by omega
                          refine lv_icmp_ge (tgt := 211) hx hb dX11_remember_156 rfl (fun c_23 => ?_) (fun c_23 => ?_)
                          · have c_23 : ((nN (mn q) : Nat) : Int) ≤ ((k : Nat) : Int) := zc_le (nI_toInt b9_25) (nI_toInt b9_24) c_23
                            refine lv_iinc (v := nI (q + 1)) (lv' := [(2, .int (nI (q + 1))), (3, .int (nI k)), (0, .ref k0), (1, .int (nI f))]) hx hb dX11_remember_211 hl (k := 1) rfl (nI_add q 1) (Nat.le_of_ble_eq_true rfl) rfl (fun ls hl => ?_)
                            refine lv_goto (tgt := 72) hx hb dX11_remember_214 rfl ?_
                            exact ih_72 (q + 1) S2 (upd mt1 q (pI (bMt kd mn cx cy f n q))) (upd wi1 q (pI (5 ≤ (kd q).toInt ∧ bWi kd mn cx cy f q))) ins2 H locs ls (by first | with_reducible assumption | omega) (by first | with_reducible assumption | omega) (by intro j hj h1 h2; rcases Nat.lt_or_ge j q with h | h; (first | exact hmt j h h1 h2 | (simp only [upd, if_neg (show j ≠ q by omega)]; exact hmt j h h1 h2)); obtain rfl : j = q := (by first | with_reducible assumption | omega); first | (exfalso; omega) | exact absurd h1 (by first | with_reducible assumption | assumption) | (simp only [upd, if_true])) (by intro j hj h1 h2; rcases Nat.lt_or_ge j q with h | h; (first | exact hwi j h h1 h2 | (simp only [upd, if_neg (show j ≠ q by omega)]; exact hwi j h h1 h2)); obtain rfl : j = q := (by first | with_reducible assumption | omega); first | (exfalso; omega) | exact absurd h1 (by first | with_reducible assumption | assumption) | (simp only [upd, if_true])) (by intro j hj h1 h2 h5 i hi; rcases Nat.lt_or_ge j q with h | h; (first | exact hin2 j h h1 h2 h5 i hi | exact hin j h h1 h2 h5 i hi); obtain rfl : j = q := (by first | with_reducible assumption | omega); first | (exfalso; omega) | exact absurd h1 (by first | with_reducible assumption | assumption) | exact absurd h5 (by first | with_reducible assumption | assumption) | exact hin3 i (by first | with_reducible assumption | omega)) hP hD hS (lv_sub hl [0, 2, 3] rfl)
                          · have c_23 : ((k : Nat) : Int) < ((nN (mn q) : Nat) : Int) := zc_nle (nI_toInt b9_25) (nI_toInt b9_24) c_23
                            have hk9 : k < nN (mn q) := (by omega)
                            refine lv_aload_n hx hb dX11_remember_159 rfl (lv_at hl 2 rfl) ?_
                            refine lv_iload_n hx hb dX11_remember_160 rfl (lv_at hl 3 rfl) ?_
                            obtain ⟨hPc, hDc, hFc, hI1⟩ := zi_sub (wc := [_, _]) hP hD hS hA [0, 3] rfl rfl
                            refine zcall (st1 := [.int (pI (5 ≤ (kd f).toInt))]) (va_runV (As := [.int (nI f)]) (rest := []) ⟨hx, hb, hml, hown, hts⟩ (k_M_isRing l dC dI cI cZ cF H.size k0 a (upd (upd I0 35 (nI n)) 36 (kd f)) J0 f kd (by first | with_reducible assumption | omega)) (csV_165 hts rfl rfl ⟨Nat.le_of_ble_eq_true rfl, Nat.le_of_ble_eq_true rfl⟩) (zPV2 (q0 := 0) (ci := 9) hPc hDc hK hXN rfl rfl) rfl rfl hl.1 rfl (lv_room (Nat.le_of_ble_eq_true rfl)) dX11_remember_161 ⟨Nat.le_of_ble_eq_true rfl, Nat.le_of_ble_eq_true rfl⟩) hS hFc hFc rfl (fun t H locs ht hB hk1 hS => ?_)
                            obtain ⟨hP1, hD1⟩ := hB
                            rw [ht] at hP1
                            replace hP := z0 hP hD hk1 hP1 hI1
                            clear hk1 hPc hDc hFc hP1 hD1 ht hI1
                            refine lv_if_eq (tgt := 211) hx hb dX11_remember_164 rfl (fun c_26 => ?_) (fun c_26 => ?_)
                            · have c_26 : ¬ (5 ≤ (kd f).toInt) := zp_0 c_26
                              refine lv_iinc (v := nI (q + 1)) (lv' := [(2, .int (nI (q + 1))), (3, .int (nI k)), (0, .ref k0), (1, .int (nI f))]) hx hb dX11_remember_211 hl (k := 1) rfl (nI_add q 1) (Nat.le_of_ble_eq_true rfl) rfl (fun ls hl => ?_)
                              refine lv_goto (tgt := 72) hx hb dX11_remember_214 rfl ?_
                              exact ih_72 (q + 1) S2 (upd mt1 q (pI (bMt kd mn cx cy f n q))) (upd wi1 q (pI (5 ≤ (kd q).toInt ∧ bWi kd mn cx cy f q))) ins2 H locs ls (by first | with_reducible assumption | omega) (by first | with_reducible assumption | omega) (by intro j hj h1 h2; rcases Nat.lt_or_ge j q with h | h; (first | exact hmt j h h1 h2 | (simp only [upd, if_neg (show j ≠ q by omega)]; exact hmt j h h1 h2)); obtain rfl : j = q := (by first | with_reducible assumption | omega); first | (exfalso; omega) | exact absurd h1 (by first | with_reducible assumption | assumption) | (simp only [upd, if_true])) (by intro j hj h1 h2; rcases Nat.lt_or_ge j q with h | h; (first | exact hwi j h h1 h2 | (simp only [upd, if_neg (show j ≠ q by omega)]; exact hwi j h h1 h2)); obtain rfl : j = q := (by first | with_reducible assumption | omega); first | (exfalso; omega) | exact absurd h1 (by first | with_reducible assumption | assumption) | (simp only [upd, if_true])) (by intro j hj h1 h2 h5 i hi; rcases Nat.lt_or_ge j q with h | h; (first | exact hin2 j h h1 h2 h5 i hi | exact hin j h h1 h2 h5 i hi); obtain rfl : j = q := (by first | with_reducible assumption | omega); first | (exfalso; omega) | exact absurd h1 (by first | with_reducible assumption | assumption) | exact absurd h5 (by first | with_reducible assumption | assumption) | exact hin3 i (by first | with_reducible assumption | omega)) hP hD hS (lv_sub hl [0, 2, 3] rfl)
                            · have c_26 : 5 ≤ (kd f).toInt := zp_1 c_26
                              refine lv_aload_n hx hb dX11_remember_167 rfl (lv_at hl 2 rfl) ?_
                              refine va_get (D := (dC, dI)) (ci := 9) (v := .ref (a 39)) (C := RX11) (T := TX11) (N := 55) hx hb hts inX11 hown hK hP 0 rfl rfl 39 (Nat.le_of_ble_eq_true rfl) (hts _ mw_1198) (fun _ h9 => h9) rfl dX11_remember_168 ?_
                              refine lv_bipush (v := 40) hx hb dX11_remember_171 rfl ?_
                              refine lv_iload_n hx hb dX11_remember_173 rfl (lv_at hl 1 rfl) ?_
                              refine lv_imul hx hb dX11_remember_174 ?_
                              refine zz_i (v := nI (40 * q)) (pk_mul 40 q) ?_
                              refine lv_iload_n hx hb dX11_remember_175 rfl (lv_at hl 0 rfl) ?_
                              refine lv_iadd hx hb dX11_remember_176 ?_
                              refine zz_i (v := nI (40 * q + k)) (nI_add (40 * q) k) ?_
                              refine lv_aload_n hx hb dX11_remember_177 rfl (lv_at hl 2 rfl) ?_
                              refine lv_iload_n hx hb dX11_remember_178 rfl (lv_at hl 3 rfl) ?_
                              refine lv_aload_n hx hb dX11_remember_179 rfl (lv_at hl 2 rfl) ?_
                              refine va_get (D := (dC, dI)) (ci := 9) (v := .ref (a 12)) (C := RX11) (T := TX11) (N := 55) hx hb hts inX11 hown hK hP 0 rfl rfl 12 (Nat.le_of_ble_eq_true rfl) (hts _ mw_1171) (fun _ h9 => h9) rfl dX11_remember_180 ?_
                              refine lv_bipush (v := 40) hx hb dX11_remember_183 rfl ?_
                              refine lv_iload_n hx hb dX11_remember_185 rfl (lv_at hl 1 rfl) ?_
                              refine lv_imul hx hb dX11_remember_186 ?_
                              refine zz_i (v := nI (40 * q)) (pk_mul 40 q) ?_
                              refine lv_iload_n hx hb dX11_remember_187 rfl (lv_at hl 0 rfl) ?_
                              refine lv_iadd hx hb dX11_remember_188 ?_
                              refine zz_i (v := nI (40 * q + k)) (nI_add (40 * q) k) ?_
                              have b9_27 : 40 * q + k < 8040 := by omega
                              refine z_iald hx hb hK hP 5 0 rfl rfl (e := 40 * q + k) rfl b9_27 (Nat.le_of_ble_eq_true rfl) dX11_remember_189 ?_
                              refine lv_aload_n hx hb dX11_remember_190 rfl (lv_at hl 2 rfl) ?_
                              refine va_get (D := (dC, dI)) (ci := 9) (v := .ref (a 13)) (C := RX11) (T := TX11) (N := 55) hx hb hts inX11 hown hK hP 0 rfl rfl 13 (Nat.le_of_ble_eq_true rfl) (hts _ mw_1172) (fun _ h9 => h9) rfl dX11_remember_191 ?_
                              refine lv_bipush (v := 40) hx hb dX11_remember_194 rfl ?_
                              refine lv_iload_n hx hb dX11_remember_196 rfl (lv_at hl 1 rfl) ?_
                              refine lv_imul hx hb dX11_remember_197 ?_
                              refine zz_i (v := nI (40 * q)) (pk_mul 40 q) ?_
                              refine lv_iload_n hx hb dX11_remember_198 rfl (lv_at hl 0 rfl) ?_
                              refine lv_iadd hx hb dX11_remember_199 ?_
                              refine zz_i (v := nI (40 * q + k)) (nI_add (40 * q) k) ?_
                              refine z_iald hx hb hK hP 6 0 rfl rfl (e := 40 * q + k) rfl b9_27 (Nat.le_of_ble_eq_true rfl) dX11_remember_200 ?_
                              obtain ⟨hPc, hDc, hFc⟩ := zo_sub (wc := [_, _, _, _, _, _]) hP hD hS hA [0, 3, 4, 5, 6, 7] (by decide +kernel) rfl
                              refine zcall (st1 := [.int (pI (¬ (∃ i, i < eO (kd f).toInt n ∧ eOn n (cF40 cx f) (cF40 cy f) i (cx (40 * q + k)).toInt (cy (40 * q + k)).toInt) ∧ par2 (eTg n (cF40 cx f) (cF40 cy f) (cx (40 * q + k)).toInt (cy (40 * q + k)).toInt) (eO (kd f).toInt n))), .int (nI (40 * q + k)), .ref (a 39)]) (va_runV (As := [.int (nI f), .int (cx (40 * q + k)), .int (cy (40 * q + k))]) (rest := [.int (nI (40 * q + k)), .ref (a 39)]) ⟨hx, hb, hml, hown, hts⟩ (k_M_isInside l dC dI cI cZ cF H.size k0 a (upd (upd I0 35 (nI n)) 36 (kd f)) J0 f n kd mn cx cy S2 (cx (40 * q + k)) (cy (40 * q + k)) (by first | with_reducible assumption | omega) (by first | with_reducible assumption | assumption) (by first | with_reducible assumption | omega) (by first | with_reducible assumption | assumption) ((hp9 k hk9).1) ((hp9 k hk9).2)) (csV_183 hts rfl rfl ⟨Nat.le_of_ble_eq_true rfl, Nat.le_of_ble_eq_true rfl⟩) (zPV2 (q0 := 0) (ci := 9) hPc hDc hK hXN rfl rfl) rfl rfl hl.1 rfl (lv_room (Nat.le_of_ble_eq_true rfl)) dX11_remember_201 ⟨Nat.le_of_ble_eq_true rfl, Nat.le_of_ble_eq_true rfl⟩) hS hFc hFc rfl (fun t H locs ht hB hk1 hS => ?_)
                              obtain ⟨q_28, hP1, hD1⟩ := hB
                              rw [ht] at hP1
                              obtain ⟨hP, hD⟩ := zn (W2 := [_, _, _, _, _, _, _, (oa (a 32) cI 8 q_28), _, _, _, _, _]) hP hD hk1 hFc hP1 hD1 [0, 3, 4, 5, 6, 7] zl_153 zl_153 [0, 3, 4, 5, 6, 7] (by decide +kernel) rfl rfl rfl rfl rfl
                              clear hk1 hPc hDc hFc hP1 hD1 ht
                              refine zz_i (v := pI (bIn kd cx cy f n q k)) (rfl) ?_
                              refine z_zast hx hb hK hP hD hS 12 1 rfl rfl (e := 40 * q + k) (x := pI (bIn kd cx cy f n q k)) rfl b9_27 (Nat.le_of_ble_eq_true rfl) (zp_and _) dX11_remember_204 (fun H locs hP hD hS => ?_)
                              obtain ⟨hP, hD⟩ := zre (W2 := [_, _, _, _, _, _, _, _, _, _, _, _, (oa (a 39) cZ 8040 (upd ins2 (40 * q + k) (pI (bIn kd cx cy f n q k))))]) hP hD rfl
                              refine lv_iinc (v := nI (k + 1)) (lv' := [(3, .int (nI (k + 1))), (2, .int (nI q)), (0, .ref k0), (1, .int (nI f))]) hx hb dX11_remember_205 hl (k := 0) rfl (nI_add k 1) (Nat.le_of_ble_eq_true rfl) rfl (fun ls hl => ?_)
                              refine lv_goto (tgt := 149) hx hb dX11_remember_208 rfl ?_
                              exact ih_149 (k + 1) q_28 (upd ins2 (40 * q + k) (pI (bIn kd cx cy f n q k))) H locs ls (by first | with_reducible assumption | omega) (by first | with_reducible assumption | omega) (by intro j hj h1 h2 h5 i hi; have h8 := (hwf j h1 h2).2.1; simp only [upd, if_neg (show 40 * j + i ≠ 40 * q + k by omega)]; exact hin2 j hj h1 h2 h5 i hi) (by intro i hi; rcases Nat.lt_or_ge i k with h | h; simp only [upd, if_neg (show 40 * q + i ≠ 40 * q + k by omega)]; exact hin3 i h; rw [show i = k by omega]; simp only [upd, if_true]) hP hD hS (lv_sub hl [0, 1, 2, 3] rfl)
                      exact hl_149 _ 0 q_20 ins1 H locs ls (Nat.lt_succ_self _) (by first | with_reducible assumption | omega) (by intro j hj h1 h2 h5 i hi; exact hin j hj h1 h2 h5 i hi) (by intro i hi; omega) hP hD hS (lv_sub hl [0, 1, 2, 3] rfl)
                    · have c_21 : bWi kd mn cx cy f q := zp_1 c_21
                      refine lv_iconst (v := 1) hx hb dX11_remember_141 rfl ?_
                      refine lv_goto (tgt := 146) hx hb dX11_remember_142 rfl ?_
                      refine zz_i (v := pI (5 ≤ (kd q).toInt ∧ bWi kd mn cx cy f q)) (by first | exact (zp_t ⟨by assumption, by assumption⟩).symm | exact (zp_f (fun h => absurd h.1 (by first | with_reducible assumption | assumption))).symm | exact (zp_f (fun h => absurd h.2 (by first | with_reducible assumption | assumption))).symm) ?_
                      have b9_29 : q < 201 := by omega
                      refine z_zast hx hb hK hP hD hS 11 1 rfl rfl (e := q) (x := pI (5 ≤ (kd q).toInt ∧ bWi kd mn cx cy f q)) rfl b9_29 (Nat.le_of_ble_eq_true rfl) (zp_and _) dX11_remember_146 (fun H locs hP hD hS => ?_)
                      obtain ⟨hP, hD⟩ := zre (W2 := [_, _, _, _, _, _, _, _, _, _, _, (oa (a 38) cZ 201 (upd wi1 q (pI (5 ≤ (kd q).toInt ∧ bWi kd mn cx cy f q)))), _]) hP hD rfl
                      refine lv_iconst (v := 0) hx hb dX11_remember_147 rfl ?_
                      refine lv_istore_n (lv' := [(3, .int 0), (2, .int (nI q)), (0, .ref k0), (1, .int (nI f))]) hx hb dX11_remember_148 rfl hl (Nat.le_of_ble_eq_true rfl) rfl (fun ls hl => ?_)
                      have hl_149 : ∀ (n9 : Nat) (k : Nat) (S2 : Nat → Int32) (ins2 : Nat → Int32) (H : Heap) (locs : List Loc) (ls : Array Slot), nN (mn q) - k < n9 → (k ≤ nN (mn q)) → (∀ j, j < q → lvF ft st tn j → j ≠ f → 5 ≤ (kd f).toInt → ∀ i, i < nN (mn j) → ins2 (40 * j + i) = pI (bIn kd cx cy f n j i)) → (∀ i, i < k → ins2 (40 * q + i) = pI (bIn kd cx cy f n q i)) → va_P (dC, dI) classes [(om k0 a (upd (upd I0 35 (nI n)) 36 (kd f)) J0), (oa (a 5) cI 201 st), (oa (a 6) cZ 201 tn), (oa (a 1) cI 201 kd), (oa (a 11) cI 201 mn), (oa (a 12) cI 8040 cx), (oa (a 13) cI 8040 cy), (oa (a 32) cI 8 S2), (oa (a 33) cI 42 ox1), (oa (a 34) cI 42 oy1), (oa (a 37) cZ 201 (upd mt1 q (pI (bMt kd mn cx cy f n q)))), (oa (a 38) cZ 201 (upd wi1 q (pI (5 ≤ (kd q).toInt ∧ bWi kd mn cx cy f q)))), (oa (a 39) cZ 8040 ins2)] H → va_D A [(om k0 a (upd (upd I0 35 (nI n)) 36 (kd f)) J0), (oa (a 5) cI 201 st), (oa (a 6) cZ 201 tn), (oa (a 1) cI 201 kd), (oa (a 11) cI 201 mn), (oa (a 12) cI 8040 cx), (oa (a 13) cI 8040 cy), (oa (a 32) cI 8 S2), (oa (a 33) cI 42 ox1), (oa (a 34) cI 42 oy1), (oa (a 37) cZ 201 (upd mt1 q (pI (bMt kd mn cx cy f n q)))), (oa (a 38) cZ 201 (upd wi1 q (pI (5 ≤ (kd q).toInt ∧ bWi kd mn cx cy f q)))), (oa (a 39) cZ 8040 ins2)] → va_S A s.heap H locs → lv_has ls 4 [(3, .int (nI k)), (2, .int (nI q)), (0, .ref k0), (1, .int (nI f))] → W p l e ({ frames := 4, cells := 0, slots := 0, locals := 107 } : Room) s m ([.ref k0, .int (nI f)] : List Value).toArray below meth c H locs 0 0 Q9 (F0 m 149 ls []) := by
                        intro n9
                        induction n9 with
                        | zero => intro k S2 ins2 H locs ls hm; exact absurd hm (Nat.not_lt_zero _)
                        | succ n9 ih_149 =>
                          intro k S2 ins2 H locs ls hm hk hin2 hin3 hP hD hS hl
                          refine lv_iload_n hx hb dX11_remember_149 rfl (lv_at hl 0 rfl) ?_
                          refine lv_aload_n hx hb dX11_remember_150 rfl (lv_at hl 2 rfl) ?_
                          refine va_get (D := (dC, dI)) (ci := 9) (v := .ref (a 11)) (C := RX11) (T := TX11) (N := 55) hx hb hts inX11 hown hK hP 0 rfl rfl 11 (Nat.le_of_ble_eq_true rfl) (hts _ mw_1170) (fun _ h9 => h9) rfl dX11_remember_151 ?_
                          refine lv_iload_n hx hb dX11_remember_154 rfl (lv_at hl 1 rfl) ?_
                          refine z_iald hx hb hK hP 4 0 rfl rfl (e := q) rfl b9_29 (Nat.le_of_ble_eq_true rfl) dX11_remember_155 ?_
                          refine zz_i (v := nI (nN (mn q))) (hm9) ?_
                          have b9_31 : zlt (k) := show k < 2147483648 by omega
                          have b9_32 : zlt ((nN (mn q))) := show (nN (mn q)) < 2147483648 by omega
                          refine lv_icmp_ge (tgt := 211) hx hb dX11_remember_156 rfl (fun c_30 => ?_) (fun c_30 => ?_)
                          · have c_30 : ((nN (mn q) : Nat) : Int) ≤ ((k : Nat) : Int) := zc_le (nI_toInt b9_32) (nI_toInt b9_31) c_30
                            refine lv_iinc (v := nI (q + 1)) (lv' := [(2, .int (nI (q + 1))), (3, .int (nI k)), (0, .ref k0), (1, .int (nI f))]) hx hb dX11_remember_211 hl (k := 1) rfl (nI_add q 1) (Nat.le_of_ble_eq_true rfl) rfl (fun ls hl => ?_)
                            refine lv_goto (tgt := 72) hx hb dX11_remember_214 rfl ?_
                            exact ih_72 (q + 1) S2 (upd mt1 q (pI (bMt kd mn cx cy f n q))) (upd wi1 q (pI (5 ≤ (kd q).toInt ∧ bWi kd mn cx cy f q))) ins2 H locs ls (by first | with_reducible assumption | omega) (by first | with_reducible assumption | omega) (by intro j hj h1 h2; rcases Nat.lt_or_ge j q with h | h; (first | exact hmt j h h1 h2 | (simp only [upd, if_neg (show j ≠ q by omega)]; exact hmt j h h1 h2)); obtain rfl : j = q := (by first | with_reducible assumption | omega); first | (exfalso; omega) | exact absurd h1 (by first | with_reducible assumption | assumption) | (simp only [upd, if_true])) (by intro j hj h1 h2; rcases Nat.lt_or_ge j q with h | h; (first | exact hwi j h h1 h2 | (simp only [upd, if_neg (show j ≠ q by omega)]; exact hwi j h h1 h2)); obtain rfl : j = q := (by first | with_reducible assumption | omega); first | (exfalso; omega) | exact absurd h1 (by first | with_reducible assumption | assumption) | (simp only [upd, if_true])) (by intro j hj h1 h2 h5 i hi; rcases Nat.lt_or_ge j q with h | h; (first | exact hin2 j h h1 h2 h5 i hi | exact hin j h h1 h2 h5 i hi); obtain rfl : j = q := (by first | with_reducible assumption | omega); first | (exfalso; omega) | exact absurd h1 (by first | with_reducible assumption | assumption) | exact absurd h5 (by first | with_reducible assumption | assumption) | exact hin3 i (by first | with_reducible assumption | omega)) hP hD hS (lv_sub hl [0, 2, 3] rfl)
                          · have c_30 : ((k : Nat) : Int) < ((nN (mn q) : Nat) : Int) := zc_nle (nI_toInt b9_32) (nI_toInt b9_31) c_30
                            have hk9 : k < nN (mn q) := (by omega)
                            refine lv_aload_n hx hb dX11_remember_159 rfl (lv_at hl 2 rfl) ?_
                            refine lv_iload_n hx hb dX11_remember_160 rfl (lv_at hl 3 rfl) ?_
                            obtain ⟨hPc, hDc, hFc, hI1⟩ := zi_sub (wc := [_, _]) hP hD hS hA [0, 3] rfl rfl
                            refine zcall (st1 := [.int (pI (5 ≤ (kd f).toInt))]) (va_runV (As := [.int (nI f)]) (rest := []) ⟨hx, hb, hml, hown, hts⟩ (k_M_isRing l dC dI cI cZ cF H.size k0 a (upd (upd I0 35 (nI n)) 36 (kd f)) J0 f kd (by first | with_reducible assumption | omega)) (csV_165 hts rfl rfl ⟨Nat.le_of_ble_eq_true rfl, Nat.le_of_ble_eq_true rfl⟩) (zPV2 (q0 := 0) (ci := 9) hPc hDc hK hXN rfl rfl) rfl rfl hl.1 rfl (lv_room (Nat.le_of_ble_eq_true rfl)) dX11_remember_161 ⟨Nat.le_of_ble_eq_true rfl, Nat.le_of_ble_eq_true rfl⟩) hS hFc hFc rfl (fun t H locs ht hB hk1 hS => ?_)
                            obtain ⟨hP1, hD1⟩ := hB
                            rw [ht] at hP1
                            replace hP := z0 hP hD hk1 hP1 hI1
                            clear hk1 hPc hDc hFc hP1 hD1 ht hI1
                            refine lv_if_eq (tgt := 211) hx hb dX11_remember_164 rfl (fun c_33 => ?_) (fun c_33 => ?_)
                            · have c_33 : ¬ (5 ≤ (kd f).toInt) := zp_0 c_33
                              refine lv_iinc (v := nI (q + 1)) (lv' := [(2, .int (nI (q + 1))), (3, .int (nI k)), (0, .ref k0), (1, .int (nI f))]) hx hb dX11_remember_211 hl (k := 1) rfl (nI_add q 1) (Nat.le_of_ble_eq_true rfl) rfl (fun ls hl => ?_)
                              refine lv_goto (tgt := 72) hx hb dX11_remember_214 rfl ?_
                              exact ih_72 (q + 1) S2 (upd mt1 q (pI (bMt kd mn cx cy f n q))) (upd wi1 q (pI (5 ≤ (kd q).toInt ∧ bWi kd mn cx cy f q))) ins2 H locs ls (by first | with_reducible assumption | omega) (by first | with_reducible assumption | omega) (by intro j hj h1 h2; rcases Nat.lt_or_ge j q with h | h; (first | exact hmt j h h1 h2 | (simp only [upd, if_neg (show j ≠ q by omega)]; exact hmt j h h1 h2)); obtain rfl : j = q := (by first | with_reducible assumption | omega); first | (exfalso; omega) | exact absurd h1 (by first | with_reducible assumption | assumption) | (simp only [upd, if_true])) (by intro j hj h1 h2; rcases Nat.lt_or_ge j q with h | h; (first | exact hwi j h h1 h2 | (simp only [upd, if_neg (show j ≠ q by omega)]; exact hwi j h h1 h2)); obtain rfl : j = q := (by first | with_reducible assumption | omega); first | (exfalso; omega) | exact absurd h1 (by first | with_reducible assumption | assumption) | (simp only [upd, if_true])) (by intro j hj h1 h2 h5 i hi; rcases Nat.lt_or_ge j q with h | h; (first | exact hin2 j h h1 h2 h5 i hi | exact hin j h h1 h2 h5 i hi); obtain rfl : j = q := (by first | with_reducible assumption | omega); first | (exfalso; omega) | exact absurd h1 (by first | with_reducible assumption | assumption) | exact absurd h5 (by first | with_reducible assumption | assumption) | exact hin3 i (by first | with_reducible assumption | omega)) hP hD hS (lv_sub hl [0, 2, 3] rfl)
                            · have c_33 : 5 ≤ (kd f).toInt := zp_1 c_33
                              refine lv_aload_n hx hb dX11_remember_167 rfl (lv_at hl 2 rfl) ?_
                              refine va_get (D := (dC, dI)) (ci := 9) (v := .ref (a 39)) (C := RX11) (T := TX11) (N := 55) hx hb hts inX11 hown hK hP 0 rfl rfl 39 (Nat.le_of_ble_eq_true rfl) (hts _ mw_1198) (fun _ h9 => h9) rfl dX11_remember_168 ?_
                              refine lv_bipush (v := 40) hx hb dX11_remember_171 rfl ?_
                              refine lv_iload_n hx hb dX11_remember_173 rfl (lv_at hl 1 rfl) ?_
                              refine lv_imul hx hb dX11_remember_174 ?_
                              refine zz_i (v := nI (40 * q)) (pk_mul 40 q) ?_
                              refine lv_iload_n hx hb dX11_remember_175 rfl (lv_at hl 0 rfl) ?_
                              refine lv_iadd hx hb dX11_remember_176 ?_
                              refine zz_i (v := nI (40 * q + k)) (nI_add (40 * q) k) ?_
                              refine lv_aload_n hx hb dX11_remember_177 rfl (lv_at hl 2 rfl) ?_
                              refine lv_iload_n hx hb dX11_remember_178 rfl (lv_at hl 3 rfl) ?_
                              refine lv_aload_n hx hb dX11_remember_179 rfl (lv_at hl 2 rfl) ?_
                              refine va_get (D := (dC, dI)) (ci := 9) (v := .ref (a 12)) (C := RX11) (T := TX11) (N := 55) hx hb hts inX11 hown hK hP 0 rfl rfl 12 (Nat.le_of_ble_eq_true rfl) (hts _ mw_1171) (fun _ h9 => h9) rfl dX11_remember_180 ?_
                              refine lv_bipush (v := 40) hx hb dX11_remember_183 rfl ?_
                              refine lv_iload_n hx hb dX11_remember_185 rfl (lv_at hl 1 rfl) ?_
                              refine lv_imul hx hb dX11_remember_186 ?_
                              refine zz_i (v := nI (40 * q)) (pk_mul 40 q) ?_
                              refine lv_iload_n hx hb dX11_remember_187 rfl (lv_at hl 0 rfl) ?_
                              refine lv_iadd hx hb dX11_remember_188 ?_
                              refine zz_i (v := nI (40 * q + k)) (nI_add (40 * q) k) ?_
                              have b9_34 : 40 * q + k < 8040 := by omega
                              refine z_iald hx hb hK hP 5 0 rfl rfl (e := 40 * q + k) rfl b9_34 (Nat.le_of_ble_eq_true rfl) dX11_remember_189 ?_
                              refine lv_aload_n hx hb dX11_remember_190 rfl (lv_at hl 2 rfl) ?_
                              refine va_get (D := (dC, dI)) (ci := 9) (v := .ref (a 13)) (C := RX11) (T := TX11) (N := 55) hx hb hts inX11 hown hK hP 0 rfl rfl 13 (Nat.le_of_ble_eq_true rfl) (hts _ mw_1172) (fun _ h9 => h9) rfl dX11_remember_191 ?_
                              refine lv_bipush (v := 40) hx hb dX11_remember_194 rfl ?_
                              refine lv_iload_n hx hb dX11_remember_196 rfl (lv_at hl 1 rfl) ?_
                              refine lv_imul hx hb dX11_remember_197 ?_
                              refine zz_i (v := nI (40 * q)) (pk_mul 40 q) ?_
                              refine lv_iload_n hx hb dX11_remember_198 rfl (lv_at hl 0 rfl) ?_
                              refine lv_iadd hx hb dX11_remember_199 ?_
                              refine zz_i (v := nI (40 * q + k)) (nI_add (40 * q) k) ?_
                              refine z_iald hx hb hK hP 6 0 rfl rfl (e := 40 * q + k) rfl b9_34 (Nat.le_of_ble_eq_true rfl) dX11_remember_200 ?_
                              obtain ⟨hPc, hDc, hFc⟩ := zo_sub (wc := [_, _, _, _, _, _]) hP hD hS hA [0, 3, 4, 5, 6, 7] (by decide +kernel) rfl
                              refine zcall (st1 := [.int (pI (¬ (∃ i, i < eO (kd f).toInt n ∧ eOn n (cF40 cx f) (cF40 cy f) i (cx (40 * q + k)).toInt (cy (40 * q + k)).toInt) ∧ par2 (eTg n (cF40 cx f) (cF40 cy f) (cx (40 * q + k)).toInt (cy (40 * q + k)).toInt) (eO (kd f).toInt n))), .int (nI (40 * q + k)), .ref (a 39)]) (va_runV (As := [.int (nI f), .int (cx (40 * q + k)), .int (cy (40 * q + k))]) (rest := [.int (nI (40 * q + k)), .ref (a 39)]) ⟨hx, hb, hml, hown, hts⟩ (k_M_isInside l dC dI cI cZ cF H.size k0 a (upd (upd I0 35 (nI n)) 36 (kd f)) J0 f n kd mn cx cy S2 (cx (40 * q + k)) (cy (40 * q + k)) (by first | with_reducible assumption | omega) (by first | with_reducible assumption | assumption) (by first | with_reducible assumption | omega) (by first | with_reducible assumption | assumption) ((hp9 k hk9).1) ((hp9 k hk9).2)) (csV_183 hts rfl rfl ⟨Nat.le_of_ble_eq_true rfl, Nat.le_of_ble_eq_true rfl⟩) (zPV2 (q0 := 0) (ci := 9) hPc hDc hK hXN rfl rfl) rfl rfl hl.1 rfl (lv_room (Nat.le_of_ble_eq_true rfl)) dX11_remember_201 ⟨Nat.le_of_ble_eq_true rfl, Nat.le_of_ble_eq_true rfl⟩) hS hFc hFc rfl (fun t H locs ht hB hk1 hS => ?_)
                              obtain ⟨q_35, hP1, hD1⟩ := hB
                              rw [ht] at hP1
                              obtain ⟨hP, hD⟩ := zn (W2 := [_, _, _, _, _, _, _, (oa (a 32) cI 8 q_35), _, _, _, _, _]) hP hD hk1 hFc hP1 hD1 [0, 3, 4, 5, 6, 7] zl_153 zl_153 [0, 3, 4, 5, 6, 7] (by decide +kernel) rfl rfl rfl rfl rfl
                              clear hk1 hPc hDc hFc hP1 hD1 ht
                              refine zz_i (v := pI (bIn kd cx cy f n q k)) (rfl) ?_
                              refine z_zast hx hb hK hP hD hS 12 1 rfl rfl (e := 40 * q + k) (x := pI (bIn kd cx cy f n q k)) rfl b9_34 (Nat.le_of_ble_eq_true rfl) (zp_and _) dX11_remember_204 (fun H locs hP hD hS => ?_)
                              obtain ⟨hP, hD⟩ := zre (W2 := [_, _, _, _, _, _, _, _, _, _, _, _, (oa (a 39) cZ 8040 (upd ins2 (40 * q + k) (pI (bIn kd cx cy f n q k))))]) hP hD rfl
                              refine lv_iinc (v := nI (k + 1)) (lv' := [(3, .int (nI (k + 1))), (2, .int (nI q)), (0, .ref k0), (1, .int (nI f))]) hx hb dX11_remember_205 hl (k := 0) rfl (nI_add k 1) (Nat.le_of_ble_eq_true rfl) rfl (fun ls hl => ?_)
                              refine lv_goto (tgt := 149) hx hb dX11_remember_208 rfl ?_
                              exact ih_149 (k + 1) q_35 (upd ins2 (40 * q + k) (pI (bIn kd cx cy f n q k))) H locs ls (by first | with_reducible assumption | omega) (by first | with_reducible assumption | omega) (by intro j hj h1 h2 h5 i hi; have h8 := (hwf j h1 h2).2.1; simp only [upd, if_neg (show 40 * j + i ≠ 40 * q + k by omega)]; exact hin2 j hj h1 h2 h5 i hi) (by intro i hi; rcases Nat.lt_or_ge i k with h | h; simp only [upd, if_neg (show 40 * q + i ≠ 40 * q + k by omega)]; exact hin3 i h; rw [show i = k by omega]; simp only [upd, if_true]) hP hD hS (lv_sub hl [0, 1, 2, 3] rfl)
                      exact hl_149 _ 0 q_20 ins1 H locs ls (Nat.lt_succ_self _) (by first | with_reducible assumption | omega) (by intro j hj h1 h2 h5 i hi; exact hin j hj h1 h2 h5 i hi) (by intro i hi; omega) hP hD hS (lv_sub hl [0, 1, 2, 3] rfl)
                · have c_10 : ¬ (q < ft ∧ (st q).toInt = 1 ∧ (tn q).toInt = 0) := zp_0 c_10
                  refine lv_goto (tgt := 211) hx hb dX11_remember_93 rfl ?_
                  refine lv_iinc (v := nI (q + 1)) (lv' := [(2, .int (nI (q + 1))), (0, .ref k0), (1, .int (nI f))]) hx hb dX11_remember_211 hl (k := 0) rfl (nI_add q 1) (Nat.le_of_ble_eq_true rfl) rfl (fun ls hl => ?_)
                  refine lv_goto (tgt := 72) hx hb dX11_remember_214 rfl ?_
                  exact ih_72 (q + 1) S1 mt1 wi1 ins1 H locs ls (by first | with_reducible assumption | omega) (by first | with_reducible assumption | omega) (by intro j hj h1 h2; rcases Nat.lt_or_ge j q with h | h; (first | exact hmt j h h1 h2 | (simp only [upd, if_neg (show j ≠ q by omega)]; exact hmt j h h1 h2)); obtain rfl : j = q := (by first | with_reducible assumption | omega); first | (exfalso; omega) | exact absurd h1 (by first | with_reducible assumption | assumption) | (simp only [upd, if_true])) (by intro j hj h1 h2; rcases Nat.lt_or_ge j q with h | h; (first | exact hwi j h h1 h2 | (simp only [upd, if_neg (show j ≠ q by omega)]; exact hwi j h h1 h2)); obtain rfl : j = q := (by first | with_reducible assumption | omega); first | (exfalso; omega) | exact absurd h1 (by first | with_reducible assumption | assumption) | (simp only [upd, if_true])) (by intro j hj h1 h2 h5 i hi; rcases Nat.lt_or_ge j q with h | h; (first | exact hin2 j h h1 h2 h5 i hi | exact hin j h h1 h2 h5 i hi); obtain rfl : j = q := (by first | with_reducible assumption | omega); first | (exfalso; omega) | exact absurd h1 (by first | with_reducible assumption | assumption) | exact absurd h5 (by first | with_reducible assumption | assumption) | exact hin3 i (by first | with_reducible assumption | omega)) hP hD hS (lv_sub hl [0, 1, 2] rfl)
        exact hl_72 _ 0 S0 mt wi ins H locs ls (Nat.lt_succ_self _) (by first | with_reducible assumption | omega) (by intro j hj; omega) (by intro j hj; omega) (by intro j hj; omega) hP hD hS (lv_sub hl [0, 1, 2] rfl)
      · have c_2 : ((k : Nat) : Int) < ((n : Nat) : Int) := zc_nle (nI_toInt b9_4) (nI_toInt b9_3) c_2
        refine lv_aload_n hx hb dX11_remember_30 rfl (lv_at hl 1 rfl) ?_
        refine va_get (D := (dC, dI)) (ci := 9) (v := .ref (a 33)) (C := RX11) (T := TX11) (N := 55) hx hb hts inX11 hown hK hP 0 rfl rfl 33 (Nat.le_of_ble_eq_true rfl) (hts _ mw_1192) (fun _ h9 => h9) rfl dX11_remember_31 ?_
        refine lv_iload_n hx hb dX11_remember_34 rfl (lv_at hl 0 rfl) ?_
        refine lv_aload_n hx hb dX11_remember_35 rfl (lv_at hl 1 rfl) ?_
        refine va_get (D := (dC, dI)) (ci := 9) (v := .ref (a 12)) (C := RX11) (T := TX11) (N := 55) hx hb hts inX11 hown hK hP 0 rfl rfl 12 (Nat.le_of_ble_eq_true rfl) (hts _ mw_1171) (fun _ h9 => h9) rfl dX11_remember_36 ?_
        refine lv_bipush (v := 40) hx hb dX11_remember_39 rfl ?_
        refine lv_iload_n hx hb dX11_remember_41 rfl (lv_at hl 2 rfl) ?_
        refine lv_imul hx hb dX11_remember_42 ?_
        refine zz_i (v := nI (40 * f)) (pk_mul 40 f) ?_
        refine lv_iload_n hx hb dX11_remember_43 rfl (lv_at hl 0 rfl) ?_
        refine lv_iadd hx hb dX11_remember_44 ?_
        refine zz_i (v := nI (40 * f + k)) (nI_add (40 * f) k) ?_
        have b9_36 : 40 * f + k < 8040 := by omega
        refine z_iald hx hb hK hP 5 0 rfl rfl (e := 40 * f + k) rfl b9_36 (Nat.le_of_ble_eq_true rfl) dX11_remember_45 ?_
        have b9_37 : k < 42 := by omega
        refine z_iast hx hb hK hP hD hS 8 0 rfl rfl (e := k) (x := cx (40 * f + k)) rfl b9_37 (Nat.le_of_ble_eq_true rfl) dX11_remember_46 (fun H locs hP hD hS => ?_)
        obtain ⟨hP, hD⟩ := zre (W2 := [_, _, _, _, _, _, _, _, (oa (a 33) cI 42 (upd ox1 k (cx (40 * f + k)))), _, _, _, _]) hP hD rfl
        refine lv_aload_n hx hb dX11_remember_47 rfl (lv_at hl 1 rfl) ?_
        refine va_get (D := (dC, dI)) (ci := 9) (v := .ref (a 34)) (C := RX11) (T := TX11) (N := 55) hx hb hts inX11 hown hK hP 0 rfl rfl 34 (Nat.le_of_ble_eq_true rfl) (hts _ mw_1193) (fun _ h9 => h9) rfl dX11_remember_48 ?_
        refine lv_iload_n hx hb dX11_remember_51 rfl (lv_at hl 0 rfl) ?_
        refine lv_aload_n hx hb dX11_remember_52 rfl (lv_at hl 1 rfl) ?_
        refine va_get (D := (dC, dI)) (ci := 9) (v := .ref (a 13)) (C := RX11) (T := TX11) (N := 55) hx hb hts inX11 hown hK hP 0 rfl rfl 13 (Nat.le_of_ble_eq_true rfl) (hts _ mw_1172) (fun _ h9 => h9) rfl dX11_remember_53 ?_
        refine lv_bipush (v := 40) hx hb dX11_remember_56 rfl ?_
        refine lv_iload_n hx hb dX11_remember_58 rfl (lv_at hl 2 rfl) ?_
        refine lv_imul hx hb dX11_remember_59 ?_
        refine zz_i (v := nI (40 * f)) (pk_mul 40 f) ?_
        refine lv_iload_n hx hb dX11_remember_60 rfl (lv_at hl 0 rfl) ?_
        refine lv_iadd hx hb dX11_remember_61 ?_
        refine zz_i (v := nI (40 * f + k)) (nI_add (40 * f) k) ?_
        refine z_iald hx hb hK hP 6 0 rfl rfl (e := 40 * f + k) rfl b9_36 (Nat.le_of_ble_eq_true rfl) dX11_remember_62 ?_
        refine z_iast hx hb hK hP hD hS 9 0 rfl rfl (e := k) (x := cy (40 * f + k)) rfl b9_37 (Nat.le_of_ble_eq_true rfl) dX11_remember_63 (fun H locs hP hD hS => ?_)
        obtain ⟨hP, hD⟩ := zre (W2 := [_, _, _, _, _, _, _, _, _, (oa (a 34) cI 42 (upd oy1 k (cy (40 * f + k)))), _, _, _]) hP hD rfl
        refine lv_iinc (v := nI (k + 1)) (lv' := [(2, .int (nI (k + 1))), (0, .ref k0), (1, .int (nI f))]) hx hb dX11_remember_64 hl (k := 0) rfl (nI_add k 1) (Nat.le_of_ble_eq_true rfl) rfl (fun ls hl => ?_)
        refine lv_goto (tgt := 22) hx hb dX11_remember_67 rfl ?_
        exact ih_22 (k + 1) (upd ox1 k (cx (40 * f + k))) (upd oy1 k (cy (40 * f + k))) H locs ls (by first | with_reducible assumption | omega) (by first | with_reducible assumption | omega) (by intro j hj; rcases Nat.lt_or_ge j k with h | h; simp only [upd, if_neg (show j ≠ k by omega)]; exact hox j h; rw [show j = k by omega]; simp only [upd, if_true]; first | exact ⟨rfl, rfl⟩ | exact ⟨trivial, trivial⟩) hP hD hS (lv_sub hl [0, 1, 2] rfl)
  exact hl_22 _ 0 ox oy H locs ls (Nat.lt_succ_self _) (by first | with_reducible assumption | omega) (by intro j hj; omega) hP hD hS (lv_sub hl [0, 1, 2] rfl)
set_option maxHeartbeats 4000000 in
set_option maxRecDepth 100000 in
theorem k_M_isLawful_p (l : Launch) (dC : Nat → ClassId) (dI : Nat → Nat → Nat) (cI cZ cF : ClassId) (sz : Nat) (k0 : Nat) (a : Nat → Nat) (I0 : Nat → Int32) (J0 : Nat → Int64) (f : Nat) (n : Nat) (ft : Nat) (on : Nat) (b : Nat) (st : Nat → Int32) (tn : Nat → Int32) (kd : Nat → Int32) (mn : Nat → Int32) (cx : Nat → Int32) (cy : Nat → Int32) (S0 : Nat → Int32) (T0 : Nat → Int32) (P0 : Nat → Int32) (Q0 : Nat → Int32) (ox : Nat → Int32) (oy : Nat → Int32) (mt : Nat → Int32) (wi : Nat → Int32) (ins : Nat → Int32) (MT : Nat → Prop) (WI : Nat → Prop) (IN : Nat → Nat → Prop) (hft : I0 0 = nI ft) (h200 : ft ≤ 200) (hf_f : f ≤ 200) (hm_f : mn f = nI n) (hn_f : n ≤ 40) (hwf : ∀ q, lvF ft st tn q → q ≠ f → wfM mn cx cy q) (hon : I0 35 = nI on) (ho40 : on ≤ 40) (ho1 : 1 ≤ on) (hpo : pls on ox oy) (hmt : ∀ q, lvF ft st tn q → q ≠ f → mt q = pI (MT q)) (hwi : ∀ q, lvF ft st tn q → q ≠ f → 5 ≤ (kd q).toInt → wi q = pI (WI q)) (hin : ∀ q, lvF ft st tn q → q ≠ f → ∀ k, k < nN (mn q) → 5 ≤ (kd f).toInt → ins (40 * q + k) = pI (IN q k)) (hb9 : b < on) : zM l yX11_isLawful cX11_isLawful 5 (some .boolean) ({ frames := 5, cells := 0, slots := 0, locals := 135 } : Room) [.ref k0, .int (nI f), .int 1, .int (nI b)] (dC, dI) (zTy cI cZ cF) [(om k0 a I0 J0), (oa (a 5) cI 201 st), (oa (a 6) cZ 201 tn), (oa (a 1) cI 201 kd), (oa (a 11) cI 201 mn), (oa (a 12) cI 8040 cx), (oa (a 13) cI 8040 cy), (oa (a 32) cI 8 S0), (oa (a 40) cI 6 T0), (oa (a 29) cI 42 P0), (oa (a 30) cI 42 Q0), (oa (a 33) cI 42 ox), (oa (a 34) cI 42 oy), (oa (a 37) cZ 201 mt), (oa (a 38) cZ 201 wi), (oa (a 39) cZ 8040 ins)] sz (some (.int (pI (lwA ft st tn kd mn cx cy f n (ox 0) (oy 0) MT WI IN (sWp on ox oy cx cy b))))) (fun A t => ∃ (z9 : Int32), ∃ (S1 : Nat → Int32), ∃ (T1 : Nat → Int32), ∃ (P1 : Nat → Int32), ∃ (Q1 : Nat → Int32), zPD (dC, dI) classes A [(om k0 a (upd I0 31 z9) J0), (oa (a 5) cI 201 st), (oa (a 6) cZ 201 tn), (oa (a 1) cI 201 kd), (oa (a 11) cI 201 mn), (oa (a 12) cI 8040 cx), (oa (a 13) cI 8040 cy), (oa (a 32) cI 8 S1), (oa (a 40) cI 6 T1), (oa (a 29) cI 42 P1), (oa (a 30) cI 42 Q1), (oa (a 33) cI 42 ox), (oa (a 34) cI 42 oy), (oa (a 37) cZ 201 mt), (oa (a 38) cZ 201 wi), (oa (a 39) cZ 8040 ins)] t.heap) 0 0 := by
  refine zIn (own := "ScaleShopModel") (loc := [(0, .ref k0), (1, .int (nI f)), (2, .int 1), (3, .int (nI b))]) rfl rfl rfl rfl (fun p e s m below meth c hx hb hr hts hown hlocks hml hnm9 A hA hS hP hD hK hXN Q9 hQ9 ls hl => ?_)
  refine lv_aload_n hx hb dX11_isLawful_0 rfl (lv_at hl 0 rfl) ?_
  refine lv_iload_n hx hb dX11_isLawful_1 rfl (lv_at hl 1 rfl) ?_
  obtain ⟨hPc, hDc, hFc, hI1⟩ := zi_sub (wc := [_, _, _, _]) hP hD hS hA [0, 4, 5, 6] (by decide +kernel) rfl
  refine zcall (st1 := [.int (pI (pls n (cF40 cx f) (cF40 cy f)))]) (va_runV (As := [.int (nI f)]) (rest := []) ⟨hx, hb, hml, hown, hts⟩ (k_M_arePlaces l dC dI cI cZ cF s.heap.size k0 a I0 J0 f n mn cx cy (by first | with_reducible assumption | omega) (by first | with_reducible assumption | assumption) (by first | with_reducible assumption | omega)) (csV_186 hts rfl rfl ⟨Nat.le_of_ble_eq_true rfl, Nat.le_of_ble_eq_true rfl⟩) (zPV2 (q0 := 0) (ci := 9) hPc hDc hK hXN rfl rfl) rfl rfl hl.1 rfl (lv_room (Nat.le_of_ble_eq_true rfl)) dX11_isLawful_2 ⟨Nat.le_of_ble_eq_true rfl, Nat.le_of_ble_eq_true rfl⟩) hS hFc hFc rfl (fun t H locs ht hB hk1 hS => ?_)
  obtain ⟨hP1, hD1⟩ := hB
  rw [ht] at hP1
  replace hP := z0 hP hD hk1 hP1 hI1
  clear hk1 hPc hDc hFc hP1 hD1 ht hI1
  refine lv_if_eq (tgt := 16) hx hb dX11_isLawful_5 rfl (fun c_1 => ?_) (fun c_1 => ?_)
  · have c_1 : ¬ (pls n (cF40 cx f) (cF40 cy f)) := zp_0 c_1
    refine lv_iconst (v := 0) hx hb dX11_isLawful_16 rfl ?_
    obtain ⟨hP9, hD9⟩ := zu_sub (wc := [_, _, _, _, _, _, _, _, _, _, _, _, _, _, _, _]) hP hD [true, true, true, true, true, true, true, true, true, true, true, true, true, true, true, true] rfl rfl
    rw [hQ9]
    exact W.zret (ty := .boolean) (v := 0) hx hb hr (rfl) (fun t ht hW => ⟨⟨congrArg (fun z => Outcome.returned (some (Value.int z))) (show (0 : Int32) = pI (lwA ft st tn kd mn cx cy f n (ox 0) (oy 0) MT WI IN (sWp on ox oy cx cy b)) from (zp_f (by unfold lwA; first | exact fun h => absurd h.1 (by first | with_reducible assumption | assumption) | exact fun h => absurd h.2.1 (by first | with_reducible assumption | assumption))).symm), (I0 31), S0, T0, P0, Q0, by rw [ht]; exact hP9, hD9⟩, hS.F ht⟩) hS.2.2 dX11_isLawful_17
  · have c_1 : pls n (cF40 cx f) (cF40 cy f) := zp_1 c_1
    refine lv_aload_n hx hb dX11_isLawful_8 rfl (lv_at hl 0 rfl) ?_
    refine lv_iload_n hx hb dX11_isLawful_9 rfl (lv_at hl 1 rfl) ?_
    obtain ⟨hPc, hDc, hFc⟩ := zo_sub (wc := [_, _, _, _, _, _]) hP hD hS hA [0, 3, 4, 5, 6, 7] (by decide +kernel) rfl
    refine zcall (st1 := [.int (pI (mSm (kd f).toInt n (cF40 cx f) (cF40 cy f)))]) (va_runV (As := [.int (nI f)]) (rest := []) ⟨hx, hb, hml, hown, hts⟩ (k_M_isSimple l dC dI cI cZ cF H.size k0 a I0 J0 f n kd mn cx cy S0 (by first | with_reducible assumption | omega) (by first | with_reducible assumption | assumption) (by first | with_reducible assumption | assumption) (by first | with_reducible assumption | omega)) (csV_187 hts rfl rfl ⟨Nat.le_of_ble_eq_true rfl, Nat.le_of_ble_eq_true rfl⟩) (zPV2 (q0 := 0) (ci := 9) hPc hDc hK hXN rfl rfl) rfl rfl hl.1 rfl (lv_room (Nat.le_of_ble_eq_true rfl)) dX11_isLawful_10 ⟨Nat.le_of_ble_eq_true rfl, Nat.le_of_ble_eq_true rfl⟩) hS hFc hFc rfl (fun t H locs ht hB hk1 hS => ?_)
    obtain ⟨q_2, hP1, hD1⟩ := hB
    rw [ht] at hP1
    obtain ⟨hP, hD⟩ := zn (W2 := [_, _, _, _, _, _, _, (oa (a 32) cI 8 q_2), _, _, _, _, _, _, _, _]) hP hD hk1 hFc hP1 hD1 [0, 3, 4, 5, 6, 7] zl_154 zl_154 [0, 3, 4, 5, 6, 7] (by decide +kernel) rfl rfl rfl rfl rfl
    clear hk1 hPc hDc hFc hP1 hD1 ht
    refine lv_if_ne (tgt := 18) hx hb dX11_isLawful_13 rfl (fun c_3 => ?_) (fun c_3 => ?_)
    · have c_3 : mSm (kd f).toInt n (cF40 cx f) (cF40 cy f) := zp_1 c_3
      have hn1 := mSm_pos (by first | with_reducible assumption | assumption)
      have hpf : pls n (cF40 cx f) (cF40 cy f) := (by first | with_reducible assumption | assumption)
      refine lv_iconst (v := 0) hx hb dX11_isLawful_18 rfl ?_
      refine lv_istore (lv' := [(4, .int 0), (0, .ref k0), (1, .int (nI f)), (2, .int 1), (3, .int (nI b))]) hx hb dX11_isLawful_19 hl (Nat.le_of_ble_eq_true rfl) rfl (fun ls hl => ?_)
      have hl_21 : ∀ (n9 : Nat) (q : Nat) (z9 : Int32) (S1 : Nat → Int32) (T1 : Nat → Int32) (P1 : Nat → Int32) (Q1 : Nat → Int32) (H : Heap) (locs : List Loc) (ls : Array Slot), ft - q < n9 → (q ≤ ft) → (∀ j, j < q → lvF ft st tn j → j ≠ f → lawTo (ox 0) (oy 0) (kd f).toInt n (cF40 cx f) (cF40 cy f) (kd j).toInt (nN (mn j)) (cF40 cx j) (cF40 cy j) (MT j) (WI j) (IN j) ((sWp on ox oy cx cy b) j)) → va_P (dC, dI) classes [(om k0 a (upd I0 31 z9) J0), (oa (a 5) cI 201 st), (oa (a 6) cZ 201 tn), (oa (a 1) cI 201 kd), (oa (a 11) cI 201 mn), (oa (a 12) cI 8040 cx), (oa (a 13) cI 8040 cy), (oa (a 32) cI 8 S1), (oa (a 40) cI 6 T1), (oa (a 29) cI 42 P1), (oa (a 30) cI 42 Q1), (oa (a 33) cI 42 ox), (oa (a 34) cI 42 oy), (oa (a 37) cZ 201 mt), (oa (a 38) cZ 201 wi), (oa (a 39) cZ 8040 ins)] H → va_D A [(om k0 a (upd I0 31 z9) J0), (oa (a 5) cI 201 st), (oa (a 6) cZ 201 tn), (oa (a 1) cI 201 kd), (oa (a 11) cI 201 mn), (oa (a 12) cI 8040 cx), (oa (a 13) cI 8040 cy), (oa (a 32) cI 8 S1), (oa (a 40) cI 6 T1), (oa (a 29) cI 42 P1), (oa (a 30) cI 42 Q1), (oa (a 33) cI 42 ox), (oa (a 34) cI 42 oy), (oa (a 37) cZ 201 mt), (oa (a 38) cZ 201 wi), (oa (a 39) cZ 8040 ins)] → va_S A s.heap H locs → lv_has ls 5 [(4, .int (nI q)), (0, .ref k0), (1, .int (nI f)), (2, .int 1), (3, .int (nI b))] → W p l e ({ frames := 5, cells := 0, slots := 0, locals := 135 } : Room) s m ([.ref k0, .int (nI f), .int 1, .int (nI b)] : List Value).toArray below meth c H locs 0 0 Q9 (F0 m 21 ls []) := by
        intro n9
        induction n9 with
        | zero => intro q z9 S1 T1 P1 Q1 H locs ls hm; exact absurd hm (Nat.not_lt_zero _)
        | succ n9 ih_21 =>
          intro q z9 S1 T1 P1 Q1 H locs ls hm hq hall hP hD hS hl
          refine lv_iload hx hb dX11_isLawful_21 (lv_at hl 0 rfl) ?_
          refine lv_aload_n hx hb dX11_isLawful_23 rfl (lv_at hl 1 rfl) ?_
          refine va_get (D := (dC, dI)) (ci := 9) (v := .int (I0 0)) (C := RX11) (T := TX11) (N := 55) hx hb hts inX11 hown hK hP 0 rfl rfl 0 (Nat.le_of_ble_eq_true rfl) (hts _ mw_1159) (fun _ h9 => h9) rfl dX11_isLawful_24 ?_
          refine zz_i (v := nI ft) (hft) ?_
          have b9_5 : zlt (q) := show q < 2147483648 by omega
          have b9_6 : zlt (ft) := show ft < 2147483648 by omega
          refine lv_icmp_ge (tgt := 65) hx hb dX11_isLawful_27 rfl (fun c_4 => ?_) (fun c_4 => ?_)
          · have c_4 : ((ft : Nat) : Int) ≤ ((q : Nat) : Int) := zc_le (nI_toInt b9_6) (nI_toInt b9_5) c_4
            refine lv_iconst (v := 1) hx hb dX11_isLawful_65 rfl ?_
            obtain ⟨hP9, hD9⟩ := zu_sub (wc := [_, _, _, _, _, _, _, _, _, _, _, _, _, _, _, _]) hP hD [true, true, true, true, true, true, true, true, true, true, true, true, true, true, true, true] rfl rfl
            rw [hQ9]
            exact W.zret (ty := .boolean) (v := 1) hx hb hr (rfl) (fun t ht hW => ⟨⟨congrArg (fun z => Outcome.returned (some (Value.int z))) (show (1 : Int32) = pI (lwA ft st tn kd mn cx cy f n (ox 0) (oy 0) MT WI IN (sWp on ox oy cx cy b)) from (zp_t (⟨by assumption, by assumption, fun j h1 h2 => hall j (by omega) h1 h2⟩)).symm), z9, S1, T1, P1, Q1, by rw [ht]; exact hP9, hD9⟩, hS.F ht⟩) hS.2.2 dX11_isLawful_66
          · have c_4 : ((q : Nat) : Int) < ((ft : Nat) : Int) := zc_nle (nI_toInt b9_6) (nI_toInt b9_5) c_4
            refine lv_iload hx hb dX11_isLawful_30 (lv_at hl 0 rfl) ?_
            refine lv_iload_n hx hb dX11_isLawful_32 rfl (lv_at hl 2 rfl) ?_
            have b9_8 : zlt (f) := show f < 2147483648 by omega
            refine lv_icmp_eq (tgt := 59) hx hb dX11_isLawful_33 rfl (fun c_7 => ?_) (fun c_7 => ?_)
            · have c_7 : ((q : Nat) : Int) = ((f : Nat) : Int) := zc_eq (nI_toInt b9_5) (nI_toInt b9_8) c_7
              refine lv_iinc (v := nI (q + 1)) (lv' := [(4, .int (nI (q + 1))), (0, .ref k0), (1, .int (nI f)), (2, .int 1), (3, .int (nI b))]) hx hb dX11_isLawful_59 hl (k := 0) rfl (nI_add q 1) (Nat.le_of_ble_eq_true rfl) rfl (fun ls hl => ?_)
              refine lv_goto (tgt := 21) hx hb dX11_isLawful_62 rfl ?_
              exact ih_21 (q + 1) z9 S1 T1 P1 Q1 H locs ls (by first | with_reducible assumption | omega) (by first | with_reducible assumption | omega) (by intro j hj h1 h2; rcases Nat.lt_or_ge j q with h | h; exact hall j h h1 h2; obtain rfl : j = q := (by first | with_reducible assumption | omega); first | (exfalso; omega) | exact absurd h1 (by first | with_reducible assumption | assumption) | assumption) hP hD hS (lv_sub hl [0, 1, 2, 3, 4] rfl)
            · have c_7 : ¬ ((q : Nat) : Int) = ((f : Nat) : Int) := zc_ne (nI_toInt b9_5) (nI_toInt b9_8) c_7
              refine lv_aload_n hx hb dX11_isLawful_36 rfl (lv_at hl 1 rfl) ?_
              refine lv_iload hx hb dX11_isLawful_37 (lv_at hl 0 rfl) ?_
              obtain ⟨hPc, hDc, hFc, hI1⟩ := zi_sub (wc := [_, _, _]) hP hD hS hA [0, 1, 2] rfl rfl
              refine zcall (st1 := [.int (pI (q < ft ∧ (st q).toInt = 1 ∧ (tn q).toInt = 0))]) (va_runV (As := [.int (nI q)]) (rest := []) ⟨hx, hb, hml, hown, hts⟩ (k_M_is_n l dC dI cI cZ cF H.size k0 a (upd I0 31 z9) J0 q ft st tn (by first | with_reducible assumption | assumption) (by first | with_reducible assumption | omega) (by first | with_reducible assumption | omega)) (csV_179 hts rfl rfl ⟨Nat.le_of_ble_eq_true rfl, Nat.le_of_ble_eq_true rfl⟩) (zPV2 (q0 := 0) (ci := 9) hPc hDc hK hXN rfl rfl) rfl rfl hl.1 rfl (lv_room (Nat.le_of_ble_eq_true rfl)) dX11_isLawful_39 ⟨Nat.le_of_ble_eq_true rfl, Nat.le_of_ble_eq_true rfl⟩) hS hFc hFc rfl (fun t H locs ht hB hk1 hS => ?_)
              obtain ⟨hP1, hD1⟩ := hB
              rw [ht] at hP1
              replace hP := z0 hP hD hk1 hP1 hI1
              clear hk1 hPc hDc hFc hP1 hD1 ht hI1
              refine lv_if_eq (tgt := 59) hx hb dX11_isLawful_42 rfl (fun c_9 => ?_) (fun c_9 => ?_)
              · have c_9 : ¬ (q < ft ∧ (st q).toInt = 1 ∧ (tn q).toInt = 0) := zp_0 c_9
                refine lv_iinc (v := nI (q + 1)) (lv' := [(4, .int (nI (q + 1))), (0, .ref k0), (1, .int (nI f)), (2, .int 1), (3, .int (nI b))]) hx hb dX11_isLawful_59 hl (k := 0) rfl (nI_add q 1) (Nat.le_of_ble_eq_true rfl) rfl (fun ls hl => ?_)
                refine lv_goto (tgt := 21) hx hb dX11_isLawful_62 rfl ?_
                exact ih_21 (q + 1) z9 S1 T1 P1 Q1 H locs ls (by first | with_reducible assumption | omega) (by first | with_reducible assumption | omega) (by intro j hj h1 h2; rcases Nat.lt_or_ge j q with h | h; exact hall j h h1 h2; obtain rfl : j = q := (by first | with_reducible assumption | omega); first | (exfalso; omega) | exact absurd h1 (by first | with_reducible assumption | assumption) | assumption) hP hD hS (lv_sub hl [0, 1, 2, 3, 4] rfl)
              · have c_9 : q < ft ∧ (st q).toInt = 1 ∧ (tn q).toInt = 0 := zp_1 c_9
                have hw9 := hwf q (by first | with_reducible assumption | assumption) (by omega)
                have hm9 := hw9.1
                have hn9 := hw9.2.1
                have hp9 := hw9.2.2
                refine lv_aload_n hx hb dX11_isLawful_45 rfl (lv_at hl 1 rfl) ?_
                refine lv_iload_n hx hb dX11_isLawful_46 rfl (lv_at hl 2 rfl) ?_
                refine lv_iload hx hb dX11_isLawful_47 (lv_at hl 0 rfl) ?_
                refine lv_iload_n hx hb dX11_isLawful_49 rfl (lv_at hl 3 rfl) ?_
                refine lv_iload_n hx hb dX11_isLawful_50 rfl (lv_at hl 4 rfl) ?_
                obtain ⟨hPc, hDc, hFc⟩ := zo_sub (wc := [_, _, _, _, _, _, _, _, _, _, _, _, _, _]) hP hD hS hA [0, 3, 4, 5, 6, 7, 8, 9, 10, 11, 12, 13, 14, 15] (by decide +kernel) rfl
                refine zcall (st1 := [.int (pI (lawTo (ox 0) (oy 0) (kd f).toInt n (cF40 cx f) (cF40 cy f) (kd q).toInt (nN (mn q)) (cF40 cx q) (cF40 cy q) (MT q) (WI q) (IN q) (fun k => swB on ox oy b (cF40 cx q k).toInt (cF40 cy q k).toInt)))]) (va_runV (As := [.int (nI f), .int (nI q), .int 1, .int (nI b)]) (rest := []) ⟨hx, hb, hml, hown, hts⟩ (k_M_isLawfulTo_p l dC dI cI cZ cF H.size k0 a (upd I0 31 z9) J0 f n q (nN (mn q)) on b kd mn cx cy S1 T1 P1 Q1 ox oy mt wi ins (MT q) (WI q) (IN q) (by first | with_reducible assumption | omega) (by first | with_reducible assumption | assumption) (by first | with_reducible assumption | omega) (by first | with_reducible assumption | assumption) (by first | with_reducible assumption | omega) (by first | with_reducible assumption | assumption) (by first | with_reducible assumption | omega) (by first | with_reducible assumption | assumption) (by first | with_reducible assumption | assumption) (by first | with_reducible assumption | omega) (ho1) (hpo) (hmt q (by first | with_reducible assumption | assumption) (by first | with_reducible assumption | omega)) (hwi q (by first | with_reducible assumption | assumption) (by first | with_reducible assumption | omega)) (hin q (by first | with_reducible assumption | assumption) (by first | with_reducible assumption | omega)) (by first | with_reducible assumption | omega)) (csV_188 hts rfl rfl ⟨Nat.le_of_ble_eq_true rfl, Nat.le_of_ble_eq_true rfl⟩) (zPV2 (q0 := 0) (ci := 9) hPc hDc hK hXN rfl rfl) rfl rfl hl.1 rfl (lv_room (Nat.le_of_ble_eq_true rfl)) dX11_isLawful_51 ⟨Nat.le_of_ble_eq_true rfl, Nat.le_of_ble_eq_true rfl⟩) hS hFc hFc rfl (fun t H locs ht hB hk1 hS => ?_)
                obtain ⟨q_10, q_11, q_12, q_13, q_14, hP1, hD1⟩ := hB
                rw [ht] at hP1
                obtain ⟨hP, hD⟩ := zn (W2 := [(om k0 a (upd I0 31 q_10) J0), _, _, _, _, _, _, (oa (a 32) cI 8 q_11), (oa (a 40) cI 6 q_12), (oa (a 29) cI 42 q_13), (oa (a 30) cI 42 q_14), _, _, _, _, _]) hP hD hk1 hFc hP1 hD1 zl_155 [false, true, true] zl_156 zl_155 (by decide +kernel) rfl rfl rfl rfl rfl
                clear hk1 hPc hDc hFc hP1 hD1 ht
                refine zz_i (v := pI (lawTo (ox 0) (oy 0) (kd f).toInt n (cF40 cx f) (cF40 cy f) (kd q).toInt (nN (mn q)) (cF40 cx q) (cF40 cy q) (MT q) (WI q) (IN q) ((sWp on ox oy cx cy b) q))) (rfl) ?_
                refine lv_if_ne (tgt := 59) hx hb dX11_isLawful_54 rfl (fun c_15 => ?_) (fun c_15 => ?_)
                · have c_15 : lawTo (ox 0) (oy 0) (kd f).toInt n (cF40 cx f) (cF40 cy f) (kd q).toInt (nN (mn q)) (cF40 cx q) (cF40 cy q) (MT q) (WI q) (IN q) ((sWp on ox oy cx cy b) q) := zp_1 c_15
                  refine lv_iinc (v := nI (q + 1)) (lv' := [(4, .int (nI (q + 1))), (0, .ref k0), (1, .int (nI f)), (2, .int 1), (3, .int (nI b))]) hx hb dX11_isLawful_59 hl (k := 0) rfl (nI_add q 1) (Nat.le_of_ble_eq_true rfl) rfl (fun ls hl => ?_)
                  refine lv_goto (tgt := 21) hx hb dX11_isLawful_62 rfl ?_
                  exact ih_21 (q + 1) q_10 q_11 q_12 q_13 q_14 H locs ls (by first | with_reducible assumption | omega) (by first | with_reducible assumption | omega) (by intro j hj h1 h2; rcases Nat.lt_or_ge j q with h | h; exact hall j h h1 h2; obtain rfl : j = q := (by first | with_reducible assumption | omega); first | (exfalso; omega) | exact absurd h1 (by first | with_reducible assumption | assumption) | assumption) hP hD hS (lv_sub hl [0, 1, 2, 3, 4] rfl)
                · have c_15 : ¬ (lawTo (ox 0) (oy 0) (kd f).toInt n (cF40 cx f) (cF40 cy f) (kd q).toInt (nN (mn q)) (cF40 cx q) (cF40 cy q) (MT q) (WI q) (IN q) ((sWp on ox oy cx cy b) q)) := zp_0 c_15
                  refine lv_iconst (v := 0) hx hb dX11_isLawful_57 rfl ?_
                  obtain ⟨hP9, hD9⟩ := zu_sub (wc := [_, _, _, _, _, _, _, _, _, _, _, _, _, _, _, _]) hP hD [true, true, true, true, true, true, true, true, true, true, true, true, true, true, true, true] rfl rfl
                  rw [hQ9]
                  exact W.zret (ty := .boolean) (v := 0) hx hb hr (rfl) (fun t ht hW => ⟨⟨congrArg (fun z => Outcome.returned (some (Value.int z))) (show (0 : Int32) = pI (lwA ft st tn kd mn cx cy f n (ox 0) (oy 0) MT WI IN (sWp on ox oy cx cy b)) from (zp_f (fun h => absurd (h.2.2 q (by first | with_reducible assumption | assumption) (by omega)) (by first | with_reducible assumption | assumption))).symm), q_10, q_11, q_12, q_13, q_14, by rw [ht]; exact hP9, hD9⟩, hS.F ht⟩) hS.2.2 dX11_isLawful_58
      exact hl_21 _ 0 (I0 31) q_2 T0 P0 Q0 H locs ls (Nat.lt_succ_self _) (by first | with_reducible assumption | omega) (by intro j hj; omega) hP hD hS (lv_sub hl [0, 1, 2, 3, 4] rfl)
    · have c_3 : ¬ (mSm (kd f).toInt n (cF40 cx f) (cF40 cy f)) := zp_0 c_3
      refine lv_iconst (v := 0) hx hb dX11_isLawful_16 rfl ?_
      obtain ⟨hP9, hD9⟩ := zu_sub (wc := [_, _, _, _, _, _, _, _, _, _, _, _, _, _, _, _]) hP hD [true, true, true, true, true, true, true, true, true, true, true, true, true, true, true, true] rfl rfl
      rw [hQ9]
      exact W.zret (ty := .boolean) (v := 0) hx hb hr (rfl) (fun t ht hW => ⟨⟨congrArg (fun z => Outcome.returned (some (Value.int z))) (show (0 : Int32) = pI (lwA ft st tn kd mn cx cy f n (ox 0) (oy 0) MT WI IN (sWp on ox oy cx cy b)) from (zp_f (by unfold lwA; first | exact fun h => absurd h.1 (by first | with_reducible assumption | assumption) | exact fun h => absurd h.2.1 (by first | with_reducible assumption | assumption))).symm), (I0 31), q_2, T0, P0, Q0, by rw [ht]; exact hP9, hD9⟩, hS.F ht⟩) hS.2.2 dX11_isLawful_17
set_option maxHeartbeats 4000000 in
set_option maxRecDepth 100000 in
theorem k_M_isLawful_s (l : Launch) (dC : Nat → ClassId) (dI : Nat → Nat → Nat) (cI cZ cF : ClassId) (sz : Nat) (k0 : Nat) (a : Nat → Nat) (I0 : Nat → Int32) (J0 : Nat → Int64) (f : Nat) (n : Nat) (ft : Nat) (on : Nat) (st : Nat → Int32) (tn : Nat → Int32) (kd : Nat → Int32) (mn : Nat → Int32) (cx : Nat → Int32) (cy : Nat → Int32) (S0 : Nat → Int32) (T0 : Nat → Int32) (P0 : Nat → Int32) (Q0 : Nat → Int32) (ox : Nat → Int32) (oy : Nat → Int32) (mt : Nat → Int32) (wi : Nat → Int32) (ins : Nat → Int32) (MT : Nat → Prop) (WI : Nat → Prop) (IN : Nat → Nat → Prop) (hft : I0 0 = nI ft) (h200 : ft ≤ 200) (hf_f : f ≤ 200) (hm_f : mn f = nI n) (hn_f : n ≤ 40) (hwf : ∀ q, lvF ft st tn q → q ≠ f → wfM mn cx cy q) (hon : I0 35 = nI on) (ho40 : on ≤ 40) (ho1 : 1 ≤ on) (hpo : pls on ox oy) (hmt : ∀ q, lvF ft st tn q → q ≠ f → mt q = pI (MT q)) (hwi : ∀ q, lvF ft st tn q → q ≠ f → 5 ≤ (kd q).toInt → wi q = pI (WI q)) (hin : ∀ q, lvF ft st tn q → q ≠ f → ∀ k, k < nN (mn q) → 5 ≤ (kd f).toInt → ins (40 * q + k) = pI (IN q k)) : zM l yX11_isLawful cX11_isLawful 5 (some .boolean) ({ frames := 5, cells := 0, slots := 0, locals := 135 } : Room) [.ref k0, .int (nI f), .int 5, .int (-1)] (dC, dI) (zTy cI cZ cF) [(om k0 a I0 J0), (oa (a 5) cI 201 st), (oa (a 6) cZ 201 tn), (oa (a 1) cI 201 kd), (oa (a 11) cI 201 mn), (oa (a 12) cI 8040 cx), (oa (a 13) cI 8040 cy), (oa (a 32) cI 8 S0), (oa (a 40) cI 6 T0), (oa (a 29) cI 42 P0), (oa (a 30) cI 42 Q0), (oa (a 33) cI 42 ox), (oa (a 34) cI 42 oy), (oa (a 37) cZ 201 mt), (oa (a 38) cZ 201 wi), (oa (a 39) cZ 8040 ins)] sz (some (.int (pI (lwA ft st tn kd mn cx cy f n (ox 0) (oy 0) MT WI IN (sW0))))) (fun A t => ∃ (z9 : Int32), ∃ (S1 : Nat → Int32), ∃ (T1 : Nat → Int32), ∃ (P1 : Nat → Int32), ∃ (Q1 : Nat → Int32), zPD (dC, dI) classes A [(om k0 a (upd I0 31 z9) J0), (oa (a 5) cI 201 st), (oa (a 6) cZ 201 tn), (oa (a 1) cI 201 kd), (oa (a 11) cI 201 mn), (oa (a 12) cI 8040 cx), (oa (a 13) cI 8040 cy), (oa (a 32) cI 8 S1), (oa (a 40) cI 6 T1), (oa (a 29) cI 42 P1), (oa (a 30) cI 42 Q1), (oa (a 33) cI 42 ox), (oa (a 34) cI 42 oy), (oa (a 37) cZ 201 mt), (oa (a 38) cZ 201 wi), (oa (a 39) cZ 8040 ins)] t.heap) 0 0 := by
  refine zIn (own := "ScaleShopModel") (loc := [(0, .ref k0), (1, .int (nI f)), (2, .int 5), (3, .int (-1))]) rfl rfl rfl rfl (fun p e s m below meth c hx hb hr hts hown hlocks hml hnm9 A hA hS hP hD hK hXN Q9 hQ9 ls hl => ?_)
  refine lv_aload_n hx hb dX11_isLawful_0 rfl (lv_at hl 0 rfl) ?_
  refine lv_iload_n hx hb dX11_isLawful_1 rfl (lv_at hl 1 rfl) ?_
  obtain ⟨hPc, hDc, hFc, hI1⟩ := zi_sub (wc := [_, _, _, _]) hP hD hS hA [0, 4, 5, 6] (by decide +kernel) rfl
  refine zcall (st1 := [.int (pI (pls n (cF40 cx f) (cF40 cy f)))]) (va_runV (As := [.int (nI f)]) (rest := []) ⟨hx, hb, hml, hown, hts⟩ (k_M_arePlaces l dC dI cI cZ cF s.heap.size k0 a I0 J0 f n mn cx cy (by first | with_reducible assumption | omega) (by first | with_reducible assumption | assumption) (by first | with_reducible assumption | omega)) (csV_186 hts rfl rfl ⟨Nat.le_of_ble_eq_true rfl, Nat.le_of_ble_eq_true rfl⟩) (zPV2 (q0 := 0) (ci := 9) hPc hDc hK hXN rfl rfl) rfl rfl hl.1 rfl (lv_room (Nat.le_of_ble_eq_true rfl)) dX11_isLawful_2 ⟨Nat.le_of_ble_eq_true rfl, Nat.le_of_ble_eq_true rfl⟩) hS hFc hFc rfl (fun t H locs ht hB hk1 hS => ?_)
  obtain ⟨hP1, hD1⟩ := hB
  rw [ht] at hP1
  replace hP := z0 hP hD hk1 hP1 hI1
  clear hk1 hPc hDc hFc hP1 hD1 ht hI1
  refine lv_if_eq (tgt := 16) hx hb dX11_isLawful_5 rfl (fun c_1 => ?_) (fun c_1 => ?_)
  · have c_1 : ¬ (pls n (cF40 cx f) (cF40 cy f)) := zp_0 c_1
    refine lv_iconst (v := 0) hx hb dX11_isLawful_16 rfl ?_
    obtain ⟨hP9, hD9⟩ := zu_sub (wc := [_, _, _, _, _, _, _, _, _, _, _, _, _, _, _, _]) hP hD [true, true, true, true, true, true, true, true, true, true, true, true, true, true, true, true] rfl rfl
    rw [hQ9]
    exact W.zret (ty := .boolean) (v := 0) hx hb hr (rfl) (fun t ht hW => ⟨⟨congrArg (fun z => Outcome.returned (some (Value.int z))) (show (0 : Int32) = pI (lwA ft st tn kd mn cx cy f n (ox 0) (oy 0) MT WI IN (sW0)) from (zp_f (by unfold lwA; first | exact fun h => absurd h.1 (by first | with_reducible assumption | assumption) | exact fun h => absurd h.2.1 (by first | with_reducible assumption | assumption))).symm), (I0 31), S0, T0, P0, Q0, by rw [ht]; exact hP9, hD9⟩, hS.F ht⟩) hS.2.2 dX11_isLawful_17
  · have c_1 : pls n (cF40 cx f) (cF40 cy f) := zp_1 c_1
    refine lv_aload_n hx hb dX11_isLawful_8 rfl (lv_at hl 0 rfl) ?_
    refine lv_iload_n hx hb dX11_isLawful_9 rfl (lv_at hl 1 rfl) ?_
    obtain ⟨hPc, hDc, hFc⟩ := zo_sub (wc := [_, _, _, _, _, _]) hP hD hS hA [0, 3, 4, 5, 6, 7] (by decide +kernel) rfl
    refine zcall (st1 := [.int (pI (mSm (kd f).toInt n (cF40 cx f) (cF40 cy f)))]) (va_runV (As := [.int (nI f)]) (rest := []) ⟨hx, hb, hml, hown, hts⟩ (k_M_isSimple l dC dI cI cZ cF H.size k0 a I0 J0 f n kd mn cx cy S0 (by first | with_reducible assumption | omega) (by first | with_reducible assumption | assumption) (by first | with_reducible assumption | assumption) (by first | with_reducible assumption | omega)) (csV_187 hts rfl rfl ⟨Nat.le_of_ble_eq_true rfl, Nat.le_of_ble_eq_true rfl⟩) (zPV2 (q0 := 0) (ci := 9) hPc hDc hK hXN rfl rfl) rfl rfl hl.1 rfl (lv_room (Nat.le_of_ble_eq_true rfl)) dX11_isLawful_10 ⟨Nat.le_of_ble_eq_true rfl, Nat.le_of_ble_eq_true rfl⟩) hS hFc hFc rfl (fun t H locs ht hB hk1 hS => ?_)
    obtain ⟨q_2, hP1, hD1⟩ := hB
    rw [ht] at hP1
    obtain ⟨hP, hD⟩ := zn (W2 := [_, _, _, _, _, _, _, (oa (a 32) cI 8 q_2), _, _, _, _, _, _, _, _]) hP hD hk1 hFc hP1 hD1 [0, 3, 4, 5, 6, 7] zl_154 zl_154 [0, 3, 4, 5, 6, 7] (by decide +kernel) rfl rfl rfl rfl rfl
    clear hk1 hPc hDc hFc hP1 hD1 ht
    refine lv_if_ne (tgt := 18) hx hb dX11_isLawful_13 rfl (fun c_3 => ?_) (fun c_3 => ?_)
    · have c_3 : mSm (kd f).toInt n (cF40 cx f) (cF40 cy f) := zp_1 c_3
      have hn1 := mSm_pos (by first | with_reducible assumption | assumption)
      have hpf : pls n (cF40 cx f) (cF40 cy f) := (by first | with_reducible assumption | assumption)
      refine lv_iconst (v := 0) hx hb dX11_isLawful_18 rfl ?_
      refine lv_istore (lv' := [(4, .int 0), (0, .ref k0), (1, .int (nI f)), (2, .int 5), (3, .int (-1))]) hx hb dX11_isLawful_19 hl (Nat.le_of_ble_eq_true rfl) rfl (fun ls hl => ?_)
      have hl_21 : ∀ (n9 : Nat) (q : Nat) (z9 : Int32) (S1 : Nat → Int32) (T1 : Nat → Int32) (P1 : Nat → Int32) (Q1 : Nat → Int32) (H : Heap) (locs : List Loc) (ls : Array Slot), ft - q < n9 → (q ≤ ft) → (∀ j, j < q → lvF ft st tn j → j ≠ f → lawTo (ox 0) (oy 0) (kd f).toInt n (cF40 cx f) (cF40 cy f) (kd j).toInt (nN (mn j)) (cF40 cx j) (cF40 cy j) (MT j) (WI j) (IN j) (sW0 j)) → va_P (dC, dI) classes [(om k0 a (upd I0 31 z9) J0), (oa (a 5) cI 201 st), (oa (a 6) cZ 201 tn), (oa (a 1) cI 201 kd), (oa (a 11) cI 201 mn), (oa (a 12) cI 8040 cx), (oa (a 13) cI 8040 cy), (oa (a 32) cI 8 S1), (oa (a 40) cI 6 T1), (oa (a 29) cI 42 P1), (oa (a 30) cI 42 Q1), (oa (a 33) cI 42 ox), (oa (a 34) cI 42 oy), (oa (a 37) cZ 201 mt), (oa (a 38) cZ 201 wi), (oa (a 39) cZ 8040 ins)] H → va_D A [(om k0 a (upd I0 31 z9) J0), (oa (a 5) cI 201 st), (oa (a 6) cZ 201 tn), (oa (a 1) cI 201 kd), (oa (a 11) cI 201 mn), (oa (a 12) cI 8040 cx), (oa (a 13) cI 8040 cy), (oa (a 32) cI 8 S1), (oa (a 40) cI 6 T1), (oa (a 29) cI 42 P1), (oa (a 30) cI 42 Q1), (oa (a 33) cI 42 ox), (oa (a 34) cI 42 oy), (oa (a 37) cZ 201 mt), (oa (a 38) cZ 201 wi), (oa (a 39) cZ 8040 ins)] → va_S A s.heap H locs → lv_has ls 5 [(4, .int (nI q)), (0, .ref k0), (1, .int (nI f)), (2, .int 5), (3, .int (-1))] → W p l e ({ frames := 5, cells := 0, slots := 0, locals := 135 } : Room) s m ([.ref k0, .int (nI f), .int 5, .int (-1)] : List Value).toArray below meth c H locs 0 0 Q9 (F0 m 21 ls []) := by
        intro n9
        induction n9 with
        | zero => intro q z9 S1 T1 P1 Q1 H locs ls hm; exact absurd hm (Nat.not_lt_zero _)
        | succ n9 ih_21 =>
          intro q z9 S1 T1 P1 Q1 H locs ls hm hq hall hP hD hS hl
          refine lv_iload hx hb dX11_isLawful_21 (lv_at hl 0 rfl) ?_
          refine lv_aload_n hx hb dX11_isLawful_23 rfl (lv_at hl 1 rfl) ?_
          refine va_get (D := (dC, dI)) (ci := 9) (v := .int (I0 0)) (C := RX11) (T := TX11) (N := 55) hx hb hts inX11 hown hK hP 0 rfl rfl 0 (Nat.le_of_ble_eq_true rfl) (hts _ mw_1159) (fun _ h9 => h9) rfl dX11_isLawful_24 ?_
          refine zz_i (v := nI ft) (hft) ?_
          have b9_5 : zlt (q) := show q < 2147483648 by omega
          have b9_6 : zlt (ft) := show ft < 2147483648 by omega
          refine lv_icmp_ge (tgt := 65) hx hb dX11_isLawful_27 rfl (fun c_4 => ?_) (fun c_4 => ?_)
          · have c_4 : ((ft : Nat) : Int) ≤ ((q : Nat) : Int) := zc_le (nI_toInt b9_6) (nI_toInt b9_5) c_4
            refine lv_iconst (v := 1) hx hb dX11_isLawful_65 rfl ?_
            obtain ⟨hP9, hD9⟩ := zu_sub (wc := [_, _, _, _, _, _, _, _, _, _, _, _, _, _, _, _]) hP hD [true, true, true, true, true, true, true, true, true, true, true, true, true, true, true, true] rfl rfl
            rw [hQ9]
            exact W.zret (ty := .boolean) (v := 1) hx hb hr (rfl) (fun t ht hW => ⟨⟨congrArg (fun z => Outcome.returned (some (Value.int z))) (show (1 : Int32) = pI (lwA ft st tn kd mn cx cy f n (ox 0) (oy 0) MT WI IN (sW0)) from (zp_t (⟨by assumption, by assumption, fun j h1 h2 => hall j (by omega) h1 h2⟩)).symm), z9, S1, T1, P1, Q1, by rw [ht]; exact hP9, hD9⟩, hS.F ht⟩) hS.2.2 dX11_isLawful_66
          · have c_4 : ((q : Nat) : Int) < ((ft : Nat) : Int) := zc_nle (nI_toInt b9_6) (nI_toInt b9_5) c_4
            refine lv_iload hx hb dX11_isLawful_30 (lv_at hl 0 rfl) ?_
            refine lv_iload_n hx hb dX11_isLawful_32 rfl (lv_at hl 2 rfl) ?_
            have b9_8 : zlt (f) := show f < 2147483648 by omega
            refine lv_icmp_eq (tgt := 59) hx hb dX11_isLawful_33 rfl (fun c_7 => ?_) (fun c_7 => ?_)
            · have c_7 : ((q : Nat) : Int) = ((f : Nat) : Int) := zc_eq (nI_toInt b9_5) (nI_toInt b9_8) c_7
              refine lv_iinc (v := nI (q + 1)) (lv' := [(4, .int (nI (q + 1))), (0, .ref k0), (1, .int (nI f)), (2, .int 5), (3, .int (-1))]) hx hb dX11_isLawful_59 hl (k := 0) rfl (nI_add q 1) (Nat.le_of_ble_eq_true rfl) rfl (fun ls hl => ?_)
              refine lv_goto (tgt := 21) hx hb dX11_isLawful_62 rfl ?_
              exact ih_21 (q + 1) z9 S1 T1 P1 Q1 H locs ls (by first | with_reducible assumption | omega) (by first | with_reducible assumption | omega) (by intro j hj h1 h2; rcases Nat.lt_or_ge j q with h | h; exact hall j h h1 h2; obtain rfl : j = q := (by first | with_reducible assumption | omega); first | (exfalso; omega) | exact absurd h1 (by first | with_reducible assumption | assumption) | assumption) hP hD hS (lv_sub hl [0, 1, 2, 3, 4] rfl)
            · have c_7 : ¬ ((q : Nat) : Int) = ((f : Nat) : Int) := zc_ne (nI_toInt b9_5) (nI_toInt b9_8) c_7
              refine lv_aload_n hx hb dX11_isLawful_36 rfl (lv_at hl 1 rfl) ?_
              refine lv_iload hx hb dX11_isLawful_37 (lv_at hl 0 rfl) ?_
              obtain ⟨hPc, hDc, hFc, hI1⟩ := zi_sub (wc := [_, _, _]) hP hD hS hA [0, 1, 2] rfl rfl
              refine zcall (st1 := [.int (pI (q < ft ∧ (st q).toInt = 1 ∧ (tn q).toInt = 0))]) (va_runV (As := [.int (nI q)]) (rest := []) ⟨hx, hb, hml, hown, hts⟩ (k_M_is_n l dC dI cI cZ cF H.size k0 a (upd I0 31 z9) J0 q ft st tn (by first | with_reducible assumption | assumption) (by first | with_reducible assumption | omega) (by first | with_reducible assumption | omega)) (csV_179 hts rfl rfl ⟨Nat.le_of_ble_eq_true rfl, Nat.le_of_ble_eq_true rfl⟩) (zPV2 (q0 := 0) (ci := 9) hPc hDc hK hXN rfl rfl) rfl rfl hl.1 rfl (lv_room (Nat.le_of_ble_eq_true rfl)) dX11_isLawful_39 ⟨Nat.le_of_ble_eq_true rfl, Nat.le_of_ble_eq_true rfl⟩) hS hFc hFc rfl (fun t H locs ht hB hk1 hS => ?_)
              obtain ⟨hP1, hD1⟩ := hB
              rw [ht] at hP1
              replace hP := z0 hP hD hk1 hP1 hI1
              clear hk1 hPc hDc hFc hP1 hD1 ht hI1
              refine lv_if_eq (tgt := 59) hx hb dX11_isLawful_42 rfl (fun c_9 => ?_) (fun c_9 => ?_)
              · have c_9 : ¬ (q < ft ∧ (st q).toInt = 1 ∧ (tn q).toInt = 0) := zp_0 c_9
                refine lv_iinc (v := nI (q + 1)) (lv' := [(4, .int (nI (q + 1))), (0, .ref k0), (1, .int (nI f)), (2, .int 5), (3, .int (-1))]) hx hb dX11_isLawful_59 hl (k := 0) rfl (nI_add q 1) (Nat.le_of_ble_eq_true rfl) rfl (fun ls hl => ?_)
                refine lv_goto (tgt := 21) hx hb dX11_isLawful_62 rfl ?_
                exact ih_21 (q + 1) z9 S1 T1 P1 Q1 H locs ls (by first | with_reducible assumption | omega) (by first | with_reducible assumption | omega) (by intro j hj h1 h2; rcases Nat.lt_or_ge j q with h | h; exact hall j h h1 h2; obtain rfl : j = q := (by first | with_reducible assumption | omega); first | (exfalso; omega) | exact absurd h1 (by first | with_reducible assumption | assumption) | assumption) hP hD hS (lv_sub hl [0, 1, 2, 3, 4] rfl)
              · have c_9 : q < ft ∧ (st q).toInt = 1 ∧ (tn q).toInt = 0 := zp_1 c_9
                have hw9 := hwf q (by first | with_reducible assumption | assumption) (by omega)
                have hm9 := hw9.1
                have hn9 := hw9.2.1
                have hp9 := hw9.2.2
                refine lv_aload_n hx hb dX11_isLawful_45 rfl (lv_at hl 1 rfl) ?_
                refine lv_iload_n hx hb dX11_isLawful_46 rfl (lv_at hl 2 rfl) ?_
                refine lv_iload hx hb dX11_isLawful_47 (lv_at hl 0 rfl) ?_
                refine lv_iload_n hx hb dX11_isLawful_49 rfl (lv_at hl 3 rfl) ?_
                refine lv_iload_n hx hb dX11_isLawful_50 rfl (lv_at hl 4 rfl) ?_
                obtain ⟨hPc, hDc, hFc⟩ := zo_sub (wc := [_, _, _, _, _, _, _, _, _, _, _, _, _, _]) hP hD hS hA [0, 3, 4, 5, 6, 7, 8, 9, 10, 11, 12, 13, 14, 15] (by decide +kernel) rfl
                refine zcall (st1 := [.int (pI (lawTo (ox 0) (oy 0) (kd f).toInt n (cF40 cx f) (cF40 cy f) (kd q).toInt (nN (mn q)) (cF40 cx q) (cF40 cy q) (MT q) (WI q) (IN q) (fun _ => False)))]) (va_runV (As := [.int (nI f), .int (nI q), .int 5, .int (-1)]) (rest := []) ⟨hx, hb, hml, hown, hts⟩ (k_M_isLawfulTo_s l dC dI cI cZ cF H.size k0 a (upd I0 31 z9) J0 f n q (nN (mn q)) on kd mn cx cy S1 T1 P1 Q1 ox oy mt wi ins (MT q) (WI q) (IN q) (by first | with_reducible assumption | omega) (by first | with_reducible assumption | assumption) (by first | with_reducible assumption | omega) (by first | with_reducible assumption | assumption) (by first | with_reducible assumption | omega) (by first | with_reducible assumption | assumption) (by first | with_reducible assumption | omega) (by first | with_reducible assumption | assumption) (by first | with_reducible assumption | assumption) (by first | with_reducible assumption | omega) (ho1) (hpo) (hmt q (by first | with_reducible assumption | assumption) (by first | with_reducible assumption | omega)) (hwi q (by first | with_reducible assumption | assumption) (by first | with_reducible assumption | omega)) (hin q (by first | with_reducible assumption | assumption) (by first | with_reducible assumption | omega))) (csV_188 hts rfl rfl ⟨Nat.le_of_ble_eq_true rfl, Nat.le_of_ble_eq_true rfl⟩) (zPV2 (q0 := 0) (ci := 9) hPc hDc hK hXN rfl rfl) rfl rfl hl.1 rfl (lv_room (Nat.le_of_ble_eq_true rfl)) dX11_isLawful_51 ⟨Nat.le_of_ble_eq_true rfl, Nat.le_of_ble_eq_true rfl⟩) hS hFc hFc rfl (fun t H locs ht hB hk1 hS => ?_)
                obtain ⟨q_10, q_11, q_12, q_13, q_14, hP1, hD1⟩ := hB
                rw [ht] at hP1
                obtain ⟨hP, hD⟩ := zn (W2 := [(om k0 a (upd I0 31 q_10) J0), _, _, _, _, _, _, (oa (a 32) cI 8 q_11), (oa (a 40) cI 6 q_12), (oa (a 29) cI 42 q_13), (oa (a 30) cI 42 q_14), _, _, _, _, _]) hP hD hk1 hFc hP1 hD1 zl_155 [false, true, true] zl_156 zl_155 (by decide +kernel) rfl rfl rfl rfl rfl
                clear hk1 hPc hDc hFc hP1 hD1 ht
                refine zz_i (v := pI (lawTo (ox 0) (oy 0) (kd f).toInt n (cF40 cx f) (cF40 cy f) (kd q).toInt (nN (mn q)) (cF40 cx q) (cF40 cy q) (MT q) (WI q) (IN q) (sW0 q))) (rfl) ?_
                refine lv_if_ne (tgt := 59) hx hb dX11_isLawful_54 rfl (fun c_15 => ?_) (fun c_15 => ?_)
                · have c_15 : lawTo (ox 0) (oy 0) (kd f).toInt n (cF40 cx f) (cF40 cy f) (kd q).toInt (nN (mn q)) (cF40 cx q) (cF40 cy q) (MT q) (WI q) (IN q) (sW0 q) := zp_1 c_15
                  refine lv_iinc (v := nI (q + 1)) (lv' := [(4, .int (nI (q + 1))), (0, .ref k0), (1, .int (nI f)), (2, .int 5), (3, .int (-1))]) hx hb dX11_isLawful_59 hl (k := 0) rfl (nI_add q 1) (Nat.le_of_ble_eq_true rfl) rfl (fun ls hl => ?_)
                  refine lv_goto (tgt := 21) hx hb dX11_isLawful_62 rfl ?_
                  exact ih_21 (q + 1) q_10 q_11 q_12 q_13 q_14 H locs ls (by first | with_reducible assumption | omega) (by first | with_reducible assumption | omega) (by intro j hj h1 h2; rcases Nat.lt_or_ge j q with h | h; exact hall j h h1 h2; obtain rfl : j = q := (by first | with_reducible assumption | omega); first | (exfalso; omega) | exact absurd h1 (by first | with_reducible assumption | assumption) | assumption) hP hD hS (lv_sub hl [0, 1, 2, 3, 4] rfl)
                · have c_15 : ¬ (lawTo (ox 0) (oy 0) (kd f).toInt n (cF40 cx f) (cF40 cy f) (kd q).toInt (nN (mn q)) (cF40 cx q) (cF40 cy q) (MT q) (WI q) (IN q) (sW0 q)) := zp_0 c_15
                  refine lv_iconst (v := 0) hx hb dX11_isLawful_57 rfl ?_
                  obtain ⟨hP9, hD9⟩ := zu_sub (wc := [_, _, _, _, _, _, _, _, _, _, _, _, _, _, _, _]) hP hD [true, true, true, true, true, true, true, true, true, true, true, true, true, true, true, true] rfl rfl
                  rw [hQ9]
                  exact W.zret (ty := .boolean) (v := 0) hx hb hr (rfl) (fun t ht hW => ⟨⟨congrArg (fun z => Outcome.returned (some (Value.int z))) (show (0 : Int32) = pI (lwA ft st tn kd mn cx cy f n (ox 0) (oy 0) MT WI IN (sW0)) from (zp_f (fun h => absurd (h.2.2 q (by first | with_reducible assumption | assumption) (by omega)) (by first | with_reducible assumption | assumption))).symm), q_10, q_11, q_12, q_13, q_14, by rw [ht]; exact hP9, hD9⟩, hS.F ht⟩) hS.2.2 dX11_isLawful_58
      exact hl_21 _ 0 (I0 31) q_2 T0 P0 Q0 H locs ls (Nat.lt_succ_self _) (by first | with_reducible assumption | omega) (by intro j hj; omega) hP hD hS (lv_sub hl [0, 1, 2, 3, 4] rfl)
    · have c_3 : ¬ (mSm (kd f).toInt n (cF40 cx f) (cF40 cy f)) := zp_0 c_3
      refine lv_iconst (v := 0) hx hb dX11_isLawful_16 rfl ?_
      obtain ⟨hP9, hD9⟩ := zu_sub (wc := [_, _, _, _, _, _, _, _, _, _, _, _, _, _, _, _]) hP hD [true, true, true, true, true, true, true, true, true, true, true, true, true, true, true, true] rfl rfl
      rw [hQ9]
      exact W.zret (ty := .boolean) (v := 0) hx hb hr (rfl) (fun t ht hW => ⟨⟨congrArg (fun z => Outcome.returned (some (Value.int z))) (show (0 : Int32) = pI (lwA ft st tn kd mn cx cy f n (ox 0) (oy 0) MT WI IN (sW0)) from (zp_f (by unfold lwA; first | exact fun h => absurd h.1 (by first | with_reducible assumption | assumption) | exact fun h => absurd h.2.1 (by first | with_reducible assumption | assumption))).symm), (I0 31), q_2, T0, P0, Q0, by rw [ht]; exact hP9, hD9⟩, hS.F ht⟩) hS.2.2 dX11_isLawful_17
set_option maxHeartbeats 4000000 in
set_option maxRecDepth 100000 in
theorem k_M_isLawful_m (l : Launch) (dC : Nat → ClassId) (dI : Nat → Nat → Nat) (cI cZ cF : ClassId) (sz : Nat) (k0 : Nat) (a : Nat → Nat) (I0 : Nat → Int32) (J0 : Nat → Int64) (f : Nat) (n : Nat) (ft : Nat) (on : Nat) (h : Nat) (st : Nat → Int32) (tn : Nat → Int32) (kd : Nat → Int32) (mn : Nat → Int32) (cx : Nat → Int32) (cy : Nat → Int32) (S0 : Nat → Int32) (T0 : Nat → Int32) (P0 : Nat → Int32) (Q0 : Nat → Int32) (ox : Nat → Int32) (oy : Nat → Int32) (mt : Nat → Int32) (wi : Nat → Int32) (ins : Nat → Int32) (MT : Nat → Prop) (WI : Nat → Prop) (IN : Nat → Nat → Prop) (hft : I0 0 = nI ft) (h200 : ft ≤ 200) (hf_f : f ≤ 200) (hm_f : mn f = nI n) (hn_f : n ≤ 40) (hwf : ∀ q, lvF ft st tn q → q ≠ f → wfM mn cx cy q) (hon : I0 35 = nI on) (ho40 : on ≤ 40) (ho1 : 1 ≤ on) (hpo : pls on ox oy) (hmt : ∀ q, lvF ft st tn q → q ≠ f → mt q = pI (MT q)) (hwi : ∀ q, lvF ft st tn q → q ≠ f → 5 ≤ (kd q).toInt → wi q = pI (WI q)) (hin : ∀ q, lvF ft st tn q → q ≠ f → ∀ k, k < nN (mn q) → 5 ≤ (kd f).toInt → ins (40 * q + k) = pI (IN q k)) (hh : h < 5) (hon2 : n = on) : zM l yX11_isLawful cX11_isLawful 5 (some .boolean) ({ frames := 6, cells := 0, slots := 0, locals := 162 } : Room) [.ref k0, .int (nI f), .int (nI h), .int (-1)] (dC, dI) (zTy cI cZ cF) [(om k0 a I0 J0), (oa (a 5) cI 201 st), (oa (a 6) cZ 201 tn), (oa (a 1) cI 201 kd), (oa (a 11) cI 201 mn), (oa (a 12) cI 8040 cx), (oa (a 13) cI 8040 cy), (oa (a 32) cI 8 S0), (oa (a 40) cI 6 T0), (oa (a 29) cI 42 P0), (oa (a 30) cI 42 Q0), (oa (a 33) cI 42 ox), (oa (a 34) cI 42 oy), (oa (a 37) cZ 201 mt), (oa (a 38) cZ 201 wi), (oa (a 39) cZ 8040 ins)] sz (some (.int (pI (lwA ft st tn kd mn cx cy f n (ox 0) (oy 0) MT WI IN (sWm (kd f).toInt on ox oy cx cy f))))) (fun A t => ∃ (z9 : Int32), ∃ (S1 : Nat → Int32), ∃ (T1 : Nat → Int32), ∃ (P1 : Nat → Int32), ∃ (Q1 : Nat → Int32), zPD (dC, dI) classes A [(om k0 a (upd I0 31 z9) J0), (oa (a 5) cI 201 st), (oa (a 6) cZ 201 tn), (oa (a 1) cI 201 kd), (oa (a 11) cI 201 mn), (oa (a 12) cI 8040 cx), (oa (a 13) cI 8040 cy), (oa (a 32) cI 8 S1), (oa (a 40) cI 6 T1), (oa (a 29) cI 42 P1), (oa (a 30) cI 42 Q1), (oa (a 33) cI 42 ox), (oa (a 34) cI 42 oy), (oa (a 37) cZ 201 mt), (oa (a 38) cZ 201 wi), (oa (a 39) cZ 8040 ins)] t.heap) 0 0 := by
  refine zIn (own := "ScaleShopModel") (loc := [(0, .ref k0), (1, .int (nI f)), (2, .int (nI h)), (3, .int (-1))]) rfl rfl rfl rfl (fun p e s m below meth c hx hb hr hts hown hlocks hml hnm9 A hA hS hP hD hK hXN Q9 hQ9 ls hl => ?_)
  refine lv_aload_n hx hb dX11_isLawful_0 rfl (lv_at hl 0 rfl) ?_
  refine lv_iload_n hx hb dX11_isLawful_1 rfl (lv_at hl 1 rfl) ?_
  obtain ⟨hPc, hDc, hFc, hI1⟩ := zi_sub (wc := [_, _, _, _]) hP hD hS hA [0, 4, 5, 6] (by decide +kernel) rfl
  refine zcall (st1 := [.int (pI (pls n (cF40 cx f) (cF40 cy f)))]) (va_runV (As := [.int (nI f)]) (rest := []) ⟨hx, hb, hml, hown, hts⟩ (k_M_arePlaces l dC dI cI cZ cF s.heap.size k0 a I0 J0 f n mn cx cy (by first | with_reducible assumption | omega) (by first | with_reducible assumption | assumption) (by first | with_reducible assumption | omega)) (csV_186 hts rfl rfl ⟨Nat.le_of_ble_eq_true rfl, Nat.le_of_ble_eq_true rfl⟩) (zPV2 (q0 := 0) (ci := 9) hPc hDc hK hXN rfl rfl) rfl rfl hl.1 rfl (lv_room (Nat.le_of_ble_eq_true rfl)) dX11_isLawful_2 ⟨Nat.le_of_ble_eq_true rfl, Nat.le_of_ble_eq_true rfl⟩) hS hFc hFc rfl (fun t H locs ht hB hk1 hS => ?_)
  obtain ⟨hP1, hD1⟩ := hB
  rw [ht] at hP1
  replace hP := z0 hP hD hk1 hP1 hI1
  clear hk1 hPc hDc hFc hP1 hD1 ht hI1
  refine lv_if_eq (tgt := 16) hx hb dX11_isLawful_5 rfl (fun c_1 => ?_) (fun c_1 => ?_)
  · have c_1 : ¬ (pls n (cF40 cx f) (cF40 cy f)) := zp_0 c_1
    refine lv_iconst (v := 0) hx hb dX11_isLawful_16 rfl ?_
    obtain ⟨hP9, hD9⟩ := zu_sub (wc := [_, _, _, _, _, _, _, _, _, _, _, _, _, _, _, _]) hP hD [true, true, true, true, true, true, true, true, true, true, true, true, true, true, true, true] rfl rfl
    rw [hQ9]
    exact W.zret (ty := .boolean) (v := 0) hx hb hr (rfl) (fun t ht hW => ⟨⟨congrArg (fun z => Outcome.returned (some (Value.int z))) (show (0 : Int32) = pI (lwA ft st tn kd mn cx cy f n (ox 0) (oy 0) MT WI IN (sWm (kd f).toInt on ox oy cx cy f)) from (zp_f (by unfold lwA; first | exact fun h => absurd h.1 (by first | with_reducible assumption | assumption) | exact fun h => absurd h.2.1 (by first | with_reducible assumption | assumption))).symm), (I0 31), S0, T0, P0, Q0, by rw [ht]; exact hP9, hD9⟩, hS.F ht⟩) hS.2.2 dX11_isLawful_17
  · have c_1 : pls n (cF40 cx f) (cF40 cy f) := zp_1 c_1
    refine lv_aload_n hx hb dX11_isLawful_8 rfl (lv_at hl 0 rfl) ?_
    refine lv_iload_n hx hb dX11_isLawful_9 rfl (lv_at hl 1 rfl) ?_
    obtain ⟨hPc, hDc, hFc⟩ := zo_sub (wc := [_, _, _, _, _, _]) hP hD hS hA [0, 3, 4, 5, 6, 7] (by decide +kernel) rfl
    refine zcall (st1 := [.int (pI (mSm (kd f).toInt n (cF40 cx f) (cF40 cy f)))]) (va_runV (As := [.int (nI f)]) (rest := []) ⟨hx, hb, hml, hown, hts⟩ (k_M_isSimple l dC dI cI cZ cF H.size k0 a I0 J0 f n kd mn cx cy S0 (by first | with_reducible assumption | omega) (by first | with_reducible assumption | assumption) (by first | with_reducible assumption | assumption) (by first | with_reducible assumption | omega)) (csV_187 hts rfl rfl ⟨Nat.le_of_ble_eq_true rfl, Nat.le_of_ble_eq_true rfl⟩) (zPV2 (q0 := 0) (ci := 9) hPc hDc hK hXN rfl rfl) rfl rfl hl.1 rfl (lv_room (Nat.le_of_ble_eq_true rfl)) dX11_isLawful_10 ⟨Nat.le_of_ble_eq_true rfl, Nat.le_of_ble_eq_true rfl⟩) hS hFc hFc rfl (fun t H locs ht hB hk1 hS => ?_)
    obtain ⟨q_2, hP1, hD1⟩ := hB
    rw [ht] at hP1
    obtain ⟨hP, hD⟩ := zn (W2 := [_, _, _, _, _, _, _, (oa (a 32) cI 8 q_2), _, _, _, _, _, _, _, _]) hP hD hk1 hFc hP1 hD1 [0, 3, 4, 5, 6, 7] zl_154 zl_154 [0, 3, 4, 5, 6, 7] (by decide +kernel) rfl rfl rfl rfl rfl
    clear hk1 hPc hDc hFc hP1 hD1 ht
    refine lv_if_ne (tgt := 18) hx hb dX11_isLawful_13 rfl (fun c_3 => ?_) (fun c_3 => ?_)
    · have c_3 : mSm (kd f).toInt n (cF40 cx f) (cF40 cy f) := zp_1 c_3
      have hn1 := mSm_pos (by first | with_reducible assumption | assumption)
      have hpf : pls n (cF40 cx f) (cF40 cy f) := (by first | with_reducible assumption | assumption)
      refine lv_iconst (v := 0) hx hb dX11_isLawful_18 rfl ?_
      refine lv_istore (lv' := [(4, .int 0), (0, .ref k0), (1, .int (nI f)), (2, .int (nI h)), (3, .int (-1))]) hx hb dX11_isLawful_19 hl (Nat.le_of_ble_eq_true rfl) rfl (fun ls hl => ?_)
      have hl_21 : ∀ (n9 : Nat) (q : Nat) (z9 : Int32) (S1 : Nat → Int32) (T1 : Nat → Int32) (P1 : Nat → Int32) (Q1 : Nat → Int32) (H : Heap) (locs : List Loc) (ls : Array Slot), ft - q < n9 → (q ≤ ft) → (∀ j, j < q → lvF ft st tn j → j ≠ f → lawTo (ox 0) (oy 0) (kd f).toInt n (cF40 cx f) (cF40 cy f) (kd j).toInt (nN (mn j)) (cF40 cx j) (cF40 cy j) (MT j) (WI j) (IN j) ((sWm (kd f).toInt on ox oy cx cy f) j)) → va_P (dC, dI) classes [(om k0 a (upd I0 31 z9) J0), (oa (a 5) cI 201 st), (oa (a 6) cZ 201 tn), (oa (a 1) cI 201 kd), (oa (a 11) cI 201 mn), (oa (a 12) cI 8040 cx), (oa (a 13) cI 8040 cy), (oa (a 32) cI 8 S1), (oa (a 40) cI 6 T1), (oa (a 29) cI 42 P1), (oa (a 30) cI 42 Q1), (oa (a 33) cI 42 ox), (oa (a 34) cI 42 oy), (oa (a 37) cZ 201 mt), (oa (a 38) cZ 201 wi), (oa (a 39) cZ 8040 ins)] H → va_D A [(om k0 a (upd I0 31 z9) J0), (oa (a 5) cI 201 st), (oa (a 6) cZ 201 tn), (oa (a 1) cI 201 kd), (oa (a 11) cI 201 mn), (oa (a 12) cI 8040 cx), (oa (a 13) cI 8040 cy), (oa (a 32) cI 8 S1), (oa (a 40) cI 6 T1), (oa (a 29) cI 42 P1), (oa (a 30) cI 42 Q1), (oa (a 33) cI 42 ox), (oa (a 34) cI 42 oy), (oa (a 37) cZ 201 mt), (oa (a 38) cZ 201 wi), (oa (a 39) cZ 8040 ins)] → va_S A s.heap H locs → lv_has ls 5 [(4, .int (nI q)), (0, .ref k0), (1, .int (nI f)), (2, .int (nI h)), (3, .int (-1))] → W p l e ({ frames := 6, cells := 0, slots := 0, locals := 162 } : Room) s m ([.ref k0, .int (nI f), .int (nI h), .int (-1)] : List Value).toArray below meth c H locs 0 0 Q9 (F0 m 21 ls []) := by
        intro n9
        induction n9 with
        | zero => intro q z9 S1 T1 P1 Q1 H locs ls hm; exact absurd hm (Nat.not_lt_zero _)
        | succ n9 ih_21 =>
          intro q z9 S1 T1 P1 Q1 H locs ls hm hq hall hP hD hS hl
          refine lv_iload hx hb dX11_isLawful_21 (lv_at hl 0 rfl) ?_
          refine lv_aload_n hx hb dX11_isLawful_23 rfl (lv_at hl 1 rfl) ?_
          refine va_get (D := (dC, dI)) (ci := 9) (v := .int (I0 0)) (C := RX11) (T := TX11) (N := 55) hx hb hts inX11 hown hK hP 0 rfl rfl 0 (Nat.le_of_ble_eq_true rfl) (hts _ mw_1159) (fun _ h9 => h9) rfl dX11_isLawful_24 ?_
          refine zz_i (v := nI ft) (hft) ?_
          have b9_5 : zlt (q) := show q < 2147483648 by omega
          have b9_6 : zlt (ft) := show ft < 2147483648 by omega
          refine lv_icmp_ge (tgt := 65) hx hb dX11_isLawful_27 rfl (fun c_4 => ?_) (fun c_4 => ?_)
          · have c_4 : ((ft : Nat) : Int) ≤ ((q : Nat) : Int) := zc_le (nI_toInt b9_6) (nI_toInt b9_5) c_4
            refine lv_iconst (v := 1) hx hb dX11_isLawful_65 rfl ?_
            obtain ⟨hP9, hD9⟩ := zu_sub (wc := [_, _, _, _, _, _, _, _, _, _, _, _, _, _, _, _]) hP hD [true, true, true, true, true, true, true, true, true, true, true, true, true, true, true, true] rfl rfl
            rw [hQ9]
            exact W.zret (ty := .boolean) (v := 1) hx hb hr (rfl) (fun t ht hW => ⟨⟨congrArg (fun z => Outcome.returned (some (Value.int z))) (show (1 : Int32) = pI (lwA ft st tn kd mn cx cy f n (ox 0) (oy 0) MT WI IN (sWm (kd f).toInt on ox oy cx cy f)) from (zp_t (⟨by assumption, by assumption, fun j h1 h2 => hall j (by omega) h1 h2⟩)).symm), z9, S1, T1, P1, Q1, by rw [ht]; exact hP9, hD9⟩, hS.F ht⟩) hS.2.2 dX11_isLawful_66
          · have c_4 : ((q : Nat) : Int) < ((ft : Nat) : Int) := zc_nle (nI_toInt b9_6) (nI_toInt b9_5) c_4
            refine lv_iload hx hb dX11_isLawful_30 (lv_at hl 0 rfl) ?_
            refine lv_iload_n hx hb dX11_isLawful_32 rfl (lv_at hl 2 rfl) ?_
            have b9_8 : zlt (f) := show f < 2147483648 by omega
            refine lv_icmp_eq (tgt := 59) hx hb dX11_isLawful_33 rfl (fun c_7 => ?_) (fun c_7 => ?_)
            · have c_7 : ((q : Nat) : Int) = ((f : Nat) : Int) := zc_eq (nI_toInt b9_5) (nI_toInt b9_8) c_7
              refine lv_iinc (v := nI (q + 1)) (lv' := [(4, .int (nI (q + 1))), (0, .ref k0), (1, .int (nI f)), (2, .int (nI h)), (3, .int (-1))]) hx hb dX11_isLawful_59 hl (k := 0) rfl (nI_add q 1) (Nat.le_of_ble_eq_true rfl) rfl (fun ls hl => ?_)
              refine lv_goto (tgt := 21) hx hb dX11_isLawful_62 rfl ?_
              exact ih_21 (q + 1) z9 S1 T1 P1 Q1 H locs ls (by first | with_reducible assumption | omega) (by first | with_reducible assumption | omega) (by intro j hj h1 h2; rcases Nat.lt_or_ge j q with h | h; exact hall j h h1 h2; obtain rfl : j = q := (by first | with_reducible assumption | omega); first | (exfalso; omega) | exact absurd h1 (by first | with_reducible assumption | assumption) | assumption) hP hD hS (lv_sub hl [0, 1, 2, 3, 4] rfl)
            · have c_7 : ¬ ((q : Nat) : Int) = ((f : Nat) : Int) := zc_ne (nI_toInt b9_5) (nI_toInt b9_8) c_7
              refine lv_aload_n hx hb dX11_isLawful_36 rfl (lv_at hl 1 rfl) ?_
              refine lv_iload hx hb dX11_isLawful_37 (lv_at hl 0 rfl) ?_
              obtain ⟨hPc, hDc, hFc, hI1⟩ := zi_sub (wc := [_, _, _]) hP hD hS hA [0, 1, 2] rfl rfl
              refine zcall (st1 := [.int (pI (q < ft ∧ (st q).toInt = 1 ∧ (tn q).toInt = 0))]) (va_runV (As := [.int (nI q)]) (rest := []) ⟨hx, hb, hml, hown, hts⟩ (k_M_is_n l dC dI cI cZ cF H.size k0 a (upd I0 31 z9) J0 q ft st tn (by first | with_reducible assumption | assumption) (by first | with_reducible assumption | omega) (by first | with_reducible assumption | omega)) (csV_179 hts rfl rfl ⟨Nat.le_of_ble_eq_true rfl, Nat.le_of_ble_eq_true rfl⟩) (zPV2 (q0 := 0) (ci := 9) hPc hDc hK hXN rfl rfl) rfl rfl hl.1 rfl (lv_room (Nat.le_of_ble_eq_true rfl)) dX11_isLawful_39 ⟨Nat.le_of_ble_eq_true rfl, Nat.le_of_ble_eq_true rfl⟩) hS hFc hFc rfl (fun t H locs ht hB hk1 hS => ?_)
              obtain ⟨hP1, hD1⟩ := hB
              rw [ht] at hP1
              replace hP := z0 hP hD hk1 hP1 hI1
              clear hk1 hPc hDc hFc hP1 hD1 ht hI1
              refine lv_if_eq (tgt := 59) hx hb dX11_isLawful_42 rfl (fun c_9 => ?_) (fun c_9 => ?_)
              · have c_9 : ¬ (q < ft ∧ (st q).toInt = 1 ∧ (tn q).toInt = 0) := zp_0 c_9
                refine lv_iinc (v := nI (q + 1)) (lv' := [(4, .int (nI (q + 1))), (0, .ref k0), (1, .int (nI f)), (2, .int (nI h)), (3, .int (-1))]) hx hb dX11_isLawful_59 hl (k := 0) rfl (nI_add q 1) (Nat.le_of_ble_eq_true rfl) rfl (fun ls hl => ?_)
                refine lv_goto (tgt := 21) hx hb dX11_isLawful_62 rfl ?_
                exact ih_21 (q + 1) z9 S1 T1 P1 Q1 H locs ls (by first | with_reducible assumption | omega) (by first | with_reducible assumption | omega) (by intro j hj h1 h2; rcases Nat.lt_or_ge j q with h | h; exact hall j h h1 h2; obtain rfl : j = q := (by first | with_reducible assumption | omega); first | (exfalso; omega) | exact absurd h1 (by first | with_reducible assumption | assumption) | assumption) hP hD hS (lv_sub hl [0, 1, 2, 3, 4] rfl)
              · have c_9 : q < ft ∧ (st q).toInt = 1 ∧ (tn q).toInt = 0 := zp_1 c_9
                have hw9 := hwf q (by first | with_reducible assumption | assumption) (by omega)
                have hm9 := hw9.1
                have hn9 := hw9.2.1
                have hp9 := hw9.2.2
                refine lv_aload_n hx hb dX11_isLawful_45 rfl (lv_at hl 1 rfl) ?_
                refine lv_iload_n hx hb dX11_isLawful_46 rfl (lv_at hl 2 rfl) ?_
                refine lv_iload hx hb dX11_isLawful_47 (lv_at hl 0 rfl) ?_
                refine lv_iload_n hx hb dX11_isLawful_49 rfl (lv_at hl 3 rfl) ?_
                refine lv_iload_n hx hb dX11_isLawful_50 rfl (lv_at hl 4 rfl) ?_
                obtain ⟨hPc, hDc, hFc⟩ := zo_sub (wc := [_, _, _, _, _, _, _, _, _, _, _, _, _, _]) hP hD hS hA [0, 3, 4, 5, 6, 7, 8, 9, 10, 11, 12, 13, 14, 15] (by decide +kernel) rfl
                refine zcall (st1 := [.int (pI (lawTo (ox 0) (oy 0) (kd f).toInt n (cF40 cx f) (cF40 cy f) (kd q).toInt (nN (mn q)) (cF40 cx q) (cF40 cy q) (MT q) (WI q) (IN q) (fun k => ∃ e, e < eO (kd f).toInt on ∧ swp on ox oy (cF40 cx f) (cF40 cy f) (cF40 cx q k).toInt (cF40 cy q k).toInt e)))]) (va_runV (As := [.int (nI f), .int (nI q), .int (nI h), .int (-1)]) (rest := []) ⟨hx, hb, hml, hown, hts⟩ (k_M_isLawfulTo_m l dC dI cI cZ cF H.size k0 a (upd I0 31 z9) J0 f n q (nN (mn q)) on h kd mn cx cy S1 T1 P1 Q1 ox oy mt wi ins (MT q) (WI q) (IN q) (by first | with_reducible assumption | omega) (by first | with_reducible assumption | assumption) (by first | with_reducible assumption | omega) (by first | with_reducible assumption | assumption) (by first | with_reducible assumption | omega) (by first | with_reducible assumption | assumption) (by first | with_reducible assumption | omega) (by first | with_reducible assumption | assumption) (by first | with_reducible assumption | assumption) (by first | with_reducible assumption | omega) (ho1) (hpo) (hmt q (by first | with_reducible assumption | assumption) (by first | with_reducible assumption | omega)) (hwi q (by first | with_reducible assumption | assumption) (by first | with_reducible assumption | omega)) (hin q (by first | with_reducible assumption | assumption) (by first | with_reducible assumption | omega)) (by first | with_reducible assumption | omega) (by first | with_reducible assumption | omega)) (csV_188 hts rfl rfl ⟨Nat.le_of_ble_eq_true rfl, Nat.le_of_ble_eq_true rfl⟩) (zPV2 (q0 := 0) (ci := 9) hPc hDc hK hXN rfl rfl) rfl rfl hl.1 rfl (lv_room (Nat.le_of_ble_eq_true rfl)) dX11_isLawful_51 ⟨Nat.le_of_ble_eq_true rfl, Nat.le_of_ble_eq_true rfl⟩) hS hFc hFc rfl (fun t H locs ht hB hk1 hS => ?_)
                obtain ⟨q_10, q_11, q_12, q_13, q_14, hP1, hD1⟩ := hB
                rw [ht] at hP1
                obtain ⟨hP, hD⟩ := zn (W2 := [(om k0 a (upd I0 31 q_10) J0), _, _, _, _, _, _, (oa (a 32) cI 8 q_11), (oa (a 40) cI 6 q_12), (oa (a 29) cI 42 q_13), (oa (a 30) cI 42 q_14), _, _, _, _, _]) hP hD hk1 hFc hP1 hD1 zl_155 [false, true, true] zl_156 zl_155 (by decide +kernel) rfl rfl rfl rfl rfl
                clear hk1 hPc hDc hFc hP1 hD1 ht
                refine zz_i (v := pI (lawTo (ox 0) (oy 0) (kd f).toInt n (cF40 cx f) (cF40 cy f) (kd q).toInt (nN (mn q)) (cF40 cx q) (cF40 cy q) (MT q) (WI q) (IN q) ((sWm (kd f).toInt on ox oy cx cy f) q))) (rfl) ?_
                refine lv_if_ne (tgt := 59) hx hb dX11_isLawful_54 rfl (fun c_15 => ?_) (fun c_15 => ?_)
                · have c_15 : lawTo (ox 0) (oy 0) (kd f).toInt n (cF40 cx f) (cF40 cy f) (kd q).toInt (nN (mn q)) (cF40 cx q) (cF40 cy q) (MT q) (WI q) (IN q) ((sWm (kd f).toInt on ox oy cx cy f) q) := zp_1 c_15
                  refine lv_iinc (v := nI (q + 1)) (lv' := [(4, .int (nI (q + 1))), (0, .ref k0), (1, .int (nI f)), (2, .int (nI h)), (3, .int (-1))]) hx hb dX11_isLawful_59 hl (k := 0) rfl (nI_add q 1) (Nat.le_of_ble_eq_true rfl) rfl (fun ls hl => ?_)
                  refine lv_goto (tgt := 21) hx hb dX11_isLawful_62 rfl ?_
                  exact ih_21 (q + 1) q_10 q_11 q_12 q_13 q_14 H locs ls (by first | with_reducible assumption | omega) (by first | with_reducible assumption | omega) (by intro j hj h1 h2; rcases Nat.lt_or_ge j q with h | h; exact hall j h h1 h2; obtain rfl : j = q := (by first | with_reducible assumption | omega); first | (exfalso; omega) | exact absurd h1 (by first | with_reducible assumption | assumption) | assumption) hP hD hS (lv_sub hl [0, 1, 2, 3, 4] rfl)
                · have c_15 : ¬ (lawTo (ox 0) (oy 0) (kd f).toInt n (cF40 cx f) (cF40 cy f) (kd q).toInt (nN (mn q)) (cF40 cx q) (cF40 cy q) (MT q) (WI q) (IN q) ((sWm (kd f).toInt on ox oy cx cy f) q)) := zp_0 c_15
                  refine lv_iconst (v := 0) hx hb dX11_isLawful_57 rfl ?_
                  obtain ⟨hP9, hD9⟩ := zu_sub (wc := [_, _, _, _, _, _, _, _, _, _, _, _, _, _, _, _]) hP hD [true, true, true, true, true, true, true, true, true, true, true, true, true, true, true, true] rfl rfl
                  rw [hQ9]
                  exact W.zret (ty := .boolean) (v := 0) hx hb hr (rfl) (fun t ht hW => ⟨⟨congrArg (fun z => Outcome.returned (some (Value.int z))) (show (0 : Int32) = pI (lwA ft st tn kd mn cx cy f n (ox 0) (oy 0) MT WI IN (sWm (kd f).toInt on ox oy cx cy f)) from (zp_f (fun h => absurd (h.2.2 q (by first | with_reducible assumption | assumption) (by omega)) (by first | with_reducible assumption | assumption))).symm), q_10, q_11, q_12, q_13, q_14, by rw [ht]; exact hP9, hD9⟩, hS.F ht⟩) hS.2.2 dX11_isLawful_58
      exact hl_21 _ 0 (I0 31) q_2 T0 P0 Q0 H locs ls (Nat.lt_succ_self _) (by first | with_reducible assumption | omega) (by intro j hj; omega) hP hD hS (lv_sub hl [0, 1, 2, 3, 4] rfl)
    · have c_3 : ¬ (mSm (kd f).toInt n (cF40 cx f) (cF40 cy f)) := zp_0 c_3
      refine lv_iconst (v := 0) hx hb dX11_isLawful_16 rfl ?_
      obtain ⟨hP9, hD9⟩ := zu_sub (wc := [_, _, _, _, _, _, _, _, _, _, _, _, _, _, _, _]) hP hD [true, true, true, true, true, true, true, true, true, true, true, true, true, true, true, true] rfl rfl
      rw [hQ9]
      exact W.zret (ty := .boolean) (v := 0) hx hb hr (rfl) (fun t ht hW => ⟨⟨congrArg (fun z => Outcome.returned (some (Value.int z))) (show (0 : Int32) = pI (lwA ft st tn kd mn cx cy f n (ox 0) (oy 0) MT WI IN (sWm (kd f).toInt on ox oy cx cy f)) from (zp_f (by unfold lwA; first | exact fun h => absurd h.1 (by first | with_reducible assumption | assumption) | exact fun h => absurd h.2.1 (by first | with_reducible assumption | assumption))).symm), (I0 31), q_2, T0, P0, Q0, by rw [ht]; exact hP9, hD9⟩, hS.F ht⟩) hS.2.2 dX11_isLawful_17
end
section
set_option maxHeartbeats 4000000 in
set_option maxRecDepth 100000 in
theorem k_M_mayGo (l : Launch) (dC : Nat → ClassId) (dI : Nat → Nat → Nat) (cI cZ cF : ClassId) (sz : Nat) (k0 : Nat) (a : Nat → Nat) (I0 : Nat → Int32) (J0 : Nat → Int64) (f : Nat) (n : Nat) (k : Nat) (ft : Nat) (st : Nat → Int32) (tn : Nat → Int32) (kd : Nat → Int32) (mn : Nat → Int32) (cx : Nat → Int32) (cy : Nat → Int32) (S0 : Nat → Int32) (hft : I0 0 = nI ft) (h200 : ft ≤ 200) (hf_f : f ≤ 200) (hm_f : mn f = nI n) (hn_f : 1 ≤ n ∧ n ≤ 40) (hp_f : pls n (cF40 cx f) (cF40 cy f)) (hk9 : k < n) (hwf : ∀ q, lvF ft st tn q → wfM mn cx cy q) : zM l yX11_mayGo cX11_mayGo 3 (some .boolean) ({ frames := 4, cells := 0, slots := 0, locals := 104 } : Room) [.ref k0, .int (nI f), .int (nI k)] (dC, dI) (zTy cI cZ cF) [(om k0 a I0 J0), (oa (a 5) cI 201 st), (oa (a 6) cZ 201 tn), (oa (a 1) cI 201 kd), (oa (a 11) cI 201 mn), (oa (a 12) cI 8040 cx), (oa (a 13) cI 8040 cy), (oa (a 32) cI 8 S0)] sz (some (.int (pI (mGo ft st tn kd mn cx cy f n k)))) (fun A t => ∃ (S1 : Nat → Int32), zPD (dC, dI) classes A [(om k0 a I0 J0), (oa (a 5) cI 201 st), (oa (a 6) cZ 201 tn), (oa (a 1) cI 201 kd), (oa (a 11) cI 201 mn), (oa (a 12) cI 8040 cx), (oa (a 13) cI 8040 cy), (oa (a 32) cI 8 S1)] t.heap) 0 0 := by
  refine zIn (own := "ScaleShopModel") (loc := [(0, .ref k0), (1, .int (nI f)), (2, .int (nI k))]) rfl rfl rfl rfl (fun p e s m below meth c hx hb hr hts hown hlocks hml hnm9 A hA hS hP hD hK hXN Q9 hQ9 ls hl => ?_)
  refine lv_aload_n hx hb dX11_mayGo_0 rfl (lv_at hl 0 rfl) ?_
  refine lv_iload_n hx hb dX11_mayGo_1 rfl (lv_at hl 1 rfl) ?_
  obtain ⟨hPc, hDc, hFc, hI1⟩ := zi_sub (wc := [_, _]) hP hD hS hA [0, 3] rfl rfl
  refine zcall (st1 := [.int (pI (5 ≤ (kd f).toInt))]) (va_runV (As := [.int (nI f)]) (rest := []) ⟨hx, hb, hml, hown, hts⟩ (k_M_isRing l dC dI cI cZ cF s.heap.size k0 a I0 J0 f kd (by first | with_reducible assumption | omega)) (csV_165 hts rfl rfl ⟨Nat.le_of_ble_eq_true rfl, Nat.le_of_ble_eq_true rfl⟩) (zPV2 (q0 := 0) (ci := 9) hPc hDc hK hXN rfl rfl) rfl rfl hl.1 rfl (lv_room (Nat.le_of_ble_eq_true rfl)) dX11_mayGo_2 ⟨Nat.le_of_ble_eq_true rfl, Nat.le_of_ble_eq_true rfl⟩) hS hFc hFc rfl (fun t H locs ht hB hk1 hS => ?_)
  obtain ⟨hP1, hD1⟩ := hB
  rw [ht] at hP1
  replace hP := z0 hP hD hk1 hP1 hI1
  clear hk1 hPc hDc hFc hP1 hD1 ht hI1
  refine lv_if_eq (tgt := 21) hx hb dX11_mayGo_5 rfl (fun c_1 => ?_) (fun c_1 => ?_)
  · have c_1 : ¬ (5 ≤ (kd f).toInt) := zp_0 c_1
    refine lv_iload_n hx hb dX11_mayGo_21 rfl (lv_at hl 2 rfl) ?_
    have b9_3 : zlt (k) := show k < 2147483648 by omega
    refine lv_if_eq (tgt := 37) hx hb dX11_mayGo_22 rfl (fun c_2 => ?_) (fun c_2 => ?_)
    · have c_2 : ((k : Nat) : Int) = 0 := zc_eq (nI_toInt b9_3) rfl c_2
      refine lv_iconst (v := 0) hx hb dX11_mayGo_37 rfl ?_
      obtain ⟨hP9, hD9⟩ := zu_sub (wc := [_, _, _, _, _, _, _, _]) hP hD [true, true, true, true, true, true, true, true] rfl rfl
      rw [hQ9]
      exact W.zret (ty := .boolean) (v := 0) hx hb hr (rfl) (fun t ht hW => ⟨⟨congrArg (fun z => Outcome.returned (some (Value.int z))) (show (0 : Int32) = pI (mGo ft st tn kd mn cx cy f n k) from (zp_f (by unfold mGo; intro h; rcases h.1 with h9 | h9 <;> first | omega | exact absurd h9.1 (by first | with_reducible assumption | assumption))).symm), S0, by rw [ht]; exact hP9, hD9⟩, hS.F ht⟩) hS.2.2 dX11_mayGo_38
    · have c_2 : ¬ ((k : Nat) : Int) = 0 := zc_ne (nI_toInt b9_3) rfl c_2
      refine lv_iload_n hx hb dX11_mayGo_25 rfl (lv_at hl 2 rfl) ?_
      refine lv_aload_n hx hb dX11_mayGo_26 rfl (lv_at hl 0 rfl) ?_
      refine va_get (D := (dC, dI)) (ci := 9) (v := .ref (a 11)) (C := RX11) (T := TX11) (N := 55) hx hb hts inX11 hown hK hP 0 rfl rfl 11 (Nat.le_of_ble_eq_true rfl) (hts _ mw_1170) (fun _ h9 => h9) rfl dX11_mayGo_27 ?_
      refine lv_iload_n hx hb dX11_mayGo_30 rfl (lv_at hl 1 rfl) ?_
      have b9_4 : f < 201 := by omega
      refine z_iald hx hb hK hP 4 0 rfl rfl (e := f) rfl b9_4 (Nat.le_of_ble_eq_true rfl) dX11_mayGo_31 ?_
      refine zz_i (v := nI n) (hm_f) ?_
      refine lv_iconst (v := 1) hx hb dX11_mayGo_32 rfl ?_
      refine lv_isub hx hb dX11_mayGo_33 ?_
      refine zz_i (v := nI (n - 1)) (pk_sub (a := n) (b := 1) (by omega)) ?_
      have b9_6 : zlt ((n - 1)) := show (n - 1) < 2147483648 by omega
      refine lv_icmp_ne (tgt := 39) hx hb dX11_mayGo_34 rfl (fun c_5 => ?_) (fun c_5 => ?_)
      · have c_5 : ¬ ((k : Nat) : Int) = ((n - 1 : Nat) : Int) := zc_ne (nI_toInt b9_3) (nI_toInt b9_6) c_5
        refine lv_aload_n hx hb dX11_mayGo_39 rfl (lv_at hl 0 rfl) ?_
        refine lv_iload_n hx hb dX11_mayGo_40 rfl (lv_at hl 1 rfl) ?_
        refine lv_aload_n hx hb dX11_mayGo_41 rfl (lv_at hl 0 rfl) ?_
        refine va_get (D := (dC, dI)) (ci := 9) (v := .ref (a 12)) (C := RX11) (T := TX11) (N := 55) hx hb hts inX11 hown hK hP 0 rfl rfl 12 (Nat.le_of_ble_eq_true rfl) (hts _ mw_1171) (fun _ h9 => h9) rfl dX11_mayGo_42 ?_
        refine lv_bipush (v := 40) hx hb dX11_mayGo_45 rfl ?_
        refine lv_iload_n hx hb dX11_mayGo_47 rfl (lv_at hl 1 rfl) ?_
        refine lv_imul hx hb dX11_mayGo_48 ?_
        refine zz_i (v := nI (40 * f)) (pk_mul 40 f) ?_
        refine lv_iload_n hx hb dX11_mayGo_49 rfl (lv_at hl 2 rfl) ?_
        refine lv_iadd hx hb dX11_mayGo_50 ?_
        refine zz_i (v := nI (40 * f + k)) (nI_add (40 * f) k) ?_
        have b9_7 : 40 * f + k < 8040 := by omega
        refine z_iald hx hb hK hP 5 0 rfl rfl (e := 40 * f + k) rfl b9_7 (Nat.le_of_ble_eq_true rfl) dX11_mayGo_51 ?_
        refine lv_aload_n hx hb dX11_mayGo_52 rfl (lv_at hl 0 rfl) ?_
        refine va_get (D := (dC, dI)) (ci := 9) (v := .ref (a 13)) (C := RX11) (T := TX11) (N := 55) hx hb hts inX11 hown hK hP 0 rfl rfl 13 (Nat.le_of_ble_eq_true rfl) (hts _ mw_1172) (fun _ h9 => h9) rfl dX11_mayGo_53 ?_
        refine lv_bipush (v := 40) hx hb dX11_mayGo_56 rfl ?_
        refine lv_iload_n hx hb dX11_mayGo_58 rfl (lv_at hl 1 rfl) ?_
        refine lv_imul hx hb dX11_mayGo_59 ?_
        refine zz_i (v := nI (40 * f)) (pk_mul 40 f) ?_
        refine lv_iload_n hx hb dX11_mayGo_60 rfl (lv_at hl 2 rfl) ?_
        refine lv_iadd hx hb dX11_mayGo_61 ?_
        refine zz_i (v := nI (40 * f + k)) (nI_add (40 * f) k) ?_
        refine z_iald hx hb hK hP 6 0 rfl rfl (e := 40 * f + k) rfl b9_7 (Nat.le_of_ble_eq_true rfl) dX11_mayGo_62 ?_
        obtain ⟨hPc, hDc, hFc⟩ := zo_sub (wc := [_, _, _, _, _, _, _, _]) hP hD hS hA [0, 1, 2, 3, 4, 5, 6, 7] (by decide +kernel) rfl
        refine zcall (st1 := [.int (pI (∃ q, (q < ft ∧ (st q).toInt = 1 ∧ (tn q).toInt = 0) ∧ q ≠ f ∧ onF kd mn cx cy q (cx (40 * f + k)).toInt (cy (40 * f + k)).toInt))]) (va_runV (As := [.int (nI f), .int (cx (40 * f + k)), .int (cy (40 * f + k))]) (rest := []) ⟨hx, hb, hml, hown, hts⟩ (k_M_isHeld l dC dI cI cZ cF H.size k0 a I0 J0 f ft st tn kd mn cx cy S0 (cx (40 * f + k)) (cy (40 * f + k)) (by first | with_reducible assumption | assumption) (by first | with_reducible assumption | omega) (by first | with_reducible assumption | assumption) (by first | with_reducible assumption | omega) ((hp_f k hk9).1) ((hp_f k hk9).2)) (csV_189 hts rfl rfl ⟨Nat.le_of_ble_eq_true rfl, Nat.le_of_ble_eq_true rfl⟩) (zPV2 (q0 := 0) (ci := 9) hPc hDc hK hXN rfl rfl) rfl rfl hl.1 rfl (lv_room (Nat.le_of_ble_eq_true rfl)) dX11_mayGo_63 ⟨Nat.le_of_ble_eq_true rfl, Nat.le_of_ble_eq_true rfl⟩) hS hFc hFc rfl (fun t H locs ht hB hk1 hS => ?_)
        obtain ⟨q_8, hP1, hD1⟩ := hB
        rw [ht] at hP1
        obtain ⟨hP, hD⟩ := zn (W2 := [_, _, _, _, _, _, _, (oa (a 32) cI 8 q_8)]) hP hD hk1 hFc hP1 hD1 zl_157 [] zl_158 zl_157 (by decide +kernel) rfl rfl rfl rfl rfl
        clear hk1 hPc hDc hFc hP1 hD1 ht
        refine lv_if_ne (tgt := 73) hx hb dX11_mayGo_66 rfl (fun c_9 => ?_) (fun c_9 => ?_)
        · have c_9 : ∃ q, (q < ft ∧ (st q).toInt = 1 ∧ (tn q).toInt = 0) ∧ q ≠ f ∧ onF kd mn cx cy q (cx (40 * f + k)).toInt (cy (40 * f + k)).toInt := zp_1 c_9
          refine lv_iconst (v := 0) hx hb dX11_mayGo_73 rfl ?_
          obtain ⟨hP9, hD9⟩ := zu_sub (wc := [_, _, _, _, _, _, _, _]) hP hD [true, true, true, true, true, true, true, true] rfl rfl
          rw [hQ9]
          exact W.zret (ty := .boolean) (v := 0) hx hb hr (rfl) (fun t ht hW => ⟨⟨congrArg (fun z => Outcome.returned (some (Value.int z))) (show (0 : Int32) = pI (mGo ft st tn kd mn cx cy f n k) from (zp_f (by unfold mGo; first | exact ⟨by first | exact Or.inl ⟨by assumption, by omega⟩ | exact Or.inr ⟨by assumption, by omega, by omega⟩, by assumption⟩ | exact fun h => h.2 (by first | with_reducible assumption | assumption))).symm), q_8, by rw [ht]; exact hP9, hD9⟩, hS.F ht⟩) hS.2.2 dX11_mayGo_74
        · have c_9 : ¬ (∃ q, (q < ft ∧ (st q).toInt = 1 ∧ (tn q).toInt = 0) ∧ q ≠ f ∧ onF kd mn cx cy q (cx (40 * f + k)).toInt (cy (40 * f + k)).toInt) := zp_0 c_9
          refine lv_iconst (v := 1) hx hb dX11_mayGo_69 rfl ?_
          refine lv_goto (tgt := 74) hx hb dX11_mayGo_70 rfl ?_
          obtain ⟨hP9, hD9⟩ := zu_sub (wc := [_, _, _, _, _, _, _, _]) hP hD [true, true, true, true, true, true, true, true] rfl rfl
          rw [hQ9]
          exact W.zret (ty := .boolean) (v := 1) hx hb hr (rfl) (fun t ht hW => ⟨⟨congrArg (fun z => Outcome.returned (some (Value.int z))) (show (1 : Int32) = pI (mGo ft st tn kd mn cx cy f n k) from (zp_t (by unfold mGo; first | exact ⟨by first | exact Or.inl ⟨by assumption, by omega⟩ | exact Or.inr ⟨by assumption, by omega, by omega⟩, by assumption⟩ | exact fun h => h.2 (by first | with_reducible assumption | assumption))).symm), q_8, by rw [ht]; exact hP9, hD9⟩, hS.F ht⟩) hS.2.2 dX11_mayGo_74
      · have c_5 : ((k : Nat) : Int) = ((n - 1 : Nat) : Int) := zc_eq (nI_toInt b9_3) (nI_toInt b9_6) c_5
        refine lv_iconst (v := 0) hx hb dX11_mayGo_37 rfl ?_
        obtain ⟨hP9, hD9⟩ := zu_sub (wc := [_, _, _, _, _, _, _, _]) hP hD [true, true, true, true, true, true, true, true] rfl rfl
        rw [hQ9]
        exact W.zret (ty := .boolean) (v := 0) hx hb hr (rfl) (fun t ht hW => ⟨⟨congrArg (fun z => Outcome.returned (some (Value.int z))) (show (0 : Int32) = pI (mGo ft st tn kd mn cx cy f n k) from (zp_f (by unfold mGo; intro h; rcases h.1 with h9 | h9 <;> first | omega | exact absurd h9.1 (by first | with_reducible assumption | assumption))).symm), S0, by rw [ht]; exact hP9, hD9⟩, hS.F ht⟩) hS.2.2 dX11_mayGo_38
  · have c_1 : 5 ≤ (kd f).toInt := zp_1 c_1
    refine lv_aload_n hx hb dX11_mayGo_8 rfl (lv_at hl 0 rfl) ?_
    refine va_get (D := (dC, dI)) (ci := 9) (v := .ref (a 11)) (C := RX11) (T := TX11) (N := 55) hx hb hts inX11 hown hK hP 0 rfl rfl 11 (Nat.le_of_ble_eq_true rfl) (hts _ mw_1170) (fun _ h9 => h9) rfl dX11_mayGo_9 ?_
    refine lv_iload_n hx hb dX11_mayGo_12 rfl (lv_at hl 1 rfl) ?_
    have b9_10 : f < 201 := by omega
    refine z_iald hx hb hK hP 4 0 rfl rfl (e := f) rfl b9_10 (Nat.le_of_ble_eq_true rfl) dX11_mayGo_13 ?_
    refine zz_i (v := nI n) (hm_f) ?_
    refine lv_iconst (v := 3) hx hb dX11_mayGo_14 rfl ?_
    have b9_12 : zlt (n) := show n < 2147483648 by omega
    refine lv_icmp_ne (tgt := 39) hx hb dX11_mayGo_15 rfl (fun c_11 => ?_) (fun c_11 => ?_)
    · have c_11 : ¬ ((n : Nat) : Int) = 3 := zc_ne (nI_toInt b9_12) rfl c_11
      refine lv_aload_n hx hb dX11_mayGo_39 rfl (lv_at hl 0 rfl) ?_
      refine lv_iload_n hx hb dX11_mayGo_40 rfl (lv_at hl 1 rfl) ?_
      refine lv_aload_n hx hb dX11_mayGo_41 rfl (lv_at hl 0 rfl) ?_
      refine va_get (D := (dC, dI)) (ci := 9) (v := .ref (a 12)) (C := RX11) (T := TX11) (N := 55) hx hb hts inX11 hown hK hP 0 rfl rfl 12 (Nat.le_of_ble_eq_true rfl) (hts _ mw_1171) (fun _ h9 => h9) rfl dX11_mayGo_42 ?_
      refine lv_bipush (v := 40) hx hb dX11_mayGo_45 rfl ?_
      refine lv_iload_n hx hb dX11_mayGo_47 rfl (lv_at hl 1 rfl) ?_
      refine lv_imul hx hb dX11_mayGo_48 ?_
      refine zz_i (v := nI (40 * f)) (pk_mul 40 f) ?_
      refine lv_iload_n hx hb dX11_mayGo_49 rfl (lv_at hl 2 rfl) ?_
      refine lv_iadd hx hb dX11_mayGo_50 ?_
      refine zz_i (v := nI (40 * f + k)) (nI_add (40 * f) k) ?_
      have b9_13 : 40 * f + k < 8040 := by omega
      refine z_iald hx hb hK hP 5 0 rfl rfl (e := 40 * f + k) rfl b9_13 (Nat.le_of_ble_eq_true rfl) dX11_mayGo_51 ?_
      refine lv_aload_n hx hb dX11_mayGo_52 rfl (lv_at hl 0 rfl) ?_
      refine va_get (D := (dC, dI)) (ci := 9) (v := .ref (a 13)) (C := RX11) (T := TX11) (N := 55) hx hb hts inX11 hown hK hP 0 rfl rfl 13 (Nat.le_of_ble_eq_true rfl) (hts _ mw_1172) (fun _ h9 => h9) rfl dX11_mayGo_53 ?_
      refine lv_bipush (v := 40) hx hb dX11_mayGo_56 rfl ?_
      refine lv_iload_n hx hb dX11_mayGo_58 rfl (lv_at hl 1 rfl) ?_
      refine lv_imul hx hb dX11_mayGo_59 ?_
      refine zz_i (v := nI (40 * f)) (pk_mul 40 f) ?_
      refine lv_iload_n hx hb dX11_mayGo_60 rfl (lv_at hl 2 rfl) ?_
      refine lv_iadd hx hb dX11_mayGo_61 ?_
      refine zz_i (v := nI (40 * f + k)) (nI_add (40 * f) k) ?_
      refine z_iald hx hb hK hP 6 0 rfl rfl (e := 40 * f + k) rfl b9_13 (Nat.le_of_ble_eq_true rfl) dX11_mayGo_62 ?_
      obtain ⟨hPc, hDc, hFc⟩ := zo_sub (wc := [_, _, _, _, _, _, _, _]) hP hD hS hA [0, 1, 2, 3, 4, 5, 6, 7] (by decide +kernel) rfl
      refine zcall (st1 := [.int (pI (∃ q, (q < ft ∧ (st q).toInt = 1 ∧ (tn q).toInt = 0) ∧ q ≠ f ∧ onF kd mn cx cy q (cx (40 * f + k)).toInt (cy (40 * f + k)).toInt))]) (va_runV (As := [.int (nI f), .int (cx (40 * f + k)), .int (cy (40 * f + k))]) (rest := []) ⟨hx, hb, hml, hown, hts⟩ (k_M_isHeld l dC dI cI cZ cF H.size k0 a I0 J0 f ft st tn kd mn cx cy S0 (cx (40 * f + k)) (cy (40 * f + k)) (by first | with_reducible assumption | assumption) (by first | with_reducible assumption | omega) (by first | with_reducible assumption | assumption) (by first | with_reducible assumption | omega) ((hp_f k hk9).1) ((hp_f k hk9).2)) (csV_189 hts rfl rfl ⟨Nat.le_of_ble_eq_true rfl, Nat.le_of_ble_eq_true rfl⟩) (zPV2 (q0 := 0) (ci := 9) hPc hDc hK hXN rfl rfl) rfl rfl hl.1 rfl (lv_room (Nat.le_of_ble_eq_true rfl)) dX11_mayGo_63 ⟨Nat.le_of_ble_eq_true rfl, Nat.le_of_ble_eq_true rfl⟩) hS hFc hFc rfl (fun t H locs ht hB hk1 hS => ?_)
      obtain ⟨q_14, hP1, hD1⟩ := hB
      rw [ht] at hP1
      obtain ⟨hP, hD⟩ := zn (W2 := [_, _, _, _, _, _, _, (oa (a 32) cI 8 q_14)]) hP hD hk1 hFc hP1 hD1 zl_157 [] zl_158 zl_157 (by decide +kernel) rfl rfl rfl rfl rfl
      clear hk1 hPc hDc hFc hP1 hD1 ht
      refine lv_if_ne (tgt := 73) hx hb dX11_mayGo_66 rfl (fun c_15 => ?_) (fun c_15 => ?_)
      · have c_15 : ∃ q, (q < ft ∧ (st q).toInt = 1 ∧ (tn q).toInt = 0) ∧ q ≠ f ∧ onF kd mn cx cy q (cx (40 * f + k)).toInt (cy (40 * f + k)).toInt := zp_1 c_15
        refine lv_iconst (v := 0) hx hb dX11_mayGo_73 rfl ?_
        obtain ⟨hP9, hD9⟩ := zu_sub (wc := [_, _, _, _, _, _, _, _]) hP hD [true, true, true, true, true, true, true, true] rfl rfl
        rw [hQ9]
        exact W.zret (ty := .boolean) (v := 0) hx hb hr (rfl) (fun t ht hW => ⟨⟨congrArg (fun z => Outcome.returned (some (Value.int z))) (show (0 : Int32) = pI (mGo ft st tn kd mn cx cy f n k) from (zp_f (by unfold mGo; first | exact ⟨by first | exact Or.inl ⟨by assumption, by omega⟩ | exact Or.inr ⟨by assumption, by omega, by omega⟩, by assumption⟩ | exact fun h => h.2 (by first | with_reducible assumption | assumption))).symm), q_14, by rw [ht]; exact hP9, hD9⟩, hS.F ht⟩) hS.2.2 dX11_mayGo_74
      · have c_15 : ¬ (∃ q, (q < ft ∧ (st q).toInt = 1 ∧ (tn q).toInt = 0) ∧ q ≠ f ∧ onF kd mn cx cy q (cx (40 * f + k)).toInt (cy (40 * f + k)).toInt) := zp_0 c_15
        refine lv_iconst (v := 1) hx hb dX11_mayGo_69 rfl ?_
        refine lv_goto (tgt := 74) hx hb dX11_mayGo_70 rfl ?_
        obtain ⟨hP9, hD9⟩ := zu_sub (wc := [_, _, _, _, _, _, _, _]) hP hD [true, true, true, true, true, true, true, true] rfl rfl
        rw [hQ9]
        exact W.zret (ty := .boolean) (v := 1) hx hb hr (rfl) (fun t ht hW => ⟨⟨congrArg (fun z => Outcome.returned (some (Value.int z))) (show (1 : Int32) = pI (mGo ft st tn kd mn cx cy f n k) from (zp_t (by unfold mGo; first | exact ⟨by first | exact Or.inl ⟨by assumption, by omega⟩ | exact Or.inr ⟨by assumption, by omega, by omega⟩, by assumption⟩ | exact fun h => h.2 (by first | with_reducible assumption | assumption))).symm), q_14, by rw [ht]; exact hP9, hD9⟩, hS.F ht⟩) hS.2.2 dX11_mayGo_74
    · have c_11 : ((n : Nat) : Int) = 3 := zc_eq (nI_toInt b9_12) rfl c_11
      refine lv_goto (tgt := 37) hx hb dX11_mayGo_18 rfl ?_
      refine lv_iconst (v := 0) hx hb dX11_mayGo_37 rfl ?_
      obtain ⟨hP9, hD9⟩ := zu_sub (wc := [_, _, _, _, _, _, _, _]) hP hD [true, true, true, true, true, true, true, true] rfl rfl
      rw [hQ9]
      exact W.zret (ty := .boolean) (v := 0) hx hb hr (rfl) (fun t ht hW => ⟨⟨congrArg (fun z => Outcome.returned (some (Value.int z))) (show (0 : Int32) = pI (mGo ft st tn kd mn cx cy f n k) from (zp_f (by unfold mGo; intro h; rcases h.1 with h9 | h9 <;> first | omega | exact absurd h9.1 (by first | with_reducible assumption | assumption))).symm), S0, by rw [ht]; exact hP9, hD9⟩, hS.F ht⟩) hS.2.2 dX11_mayGo_38
set_option maxHeartbeats 4000000 in
set_option maxRecDepth 100000 in
theorem k_M_goes (l : Launch) (dC : Nat → ClassId) (dI : Nat → Nat → Nat) (cI cZ cF : ClassId) (sz : Nat) (k0 : Nat) (a : Nat → Nat) (I0 : Nat → Int32) (J0 : Nat → Int64) (f : Nat) (n : Nat) (k : Nat) (ft : Nat) (st : Nat → Int32) (tn : Nat → Int32) (kd : Nat → Int32) (mn : Nat → Int32) (cx : Nat → Int32) (cy : Nat → Int32) (S0 : Nat → Int32) (T0 : Nat → Int32) (P0 : Nat → Int32) (Q0 : Nat → Int32) (ox : Nat → Int32) (oy : Nat → Int32) (mt : Nat → Int32) (wi : Nat → Int32) (ins : Nat → Int32) (hft : I0 0 = nI ft) (h200 : ft ≤ 200) (hf_f : f ≤ 200) (hm_f : mn f = nI n) (hn_f : 1 ≤ n ∧ n ≤ 40) (hp_f : pls n (cF40 cx f) (cF40 cy f)) (hk9 : k < n) (hn2 : 2 ≤ n) (hwf : ∀ q, lvF ft st tn q → wfM mn cx cy q) : zM l yX11_goes cX11_goes 4 (some .boolean) ({ frames := 6, cells := 0, slots := 0, locals := 159 } : Room) [.ref k0, .int (nI f), .int (nI k)] (dC, dI) (zTy cI cZ cF) [(om k0 a I0 J0), (oa (a 5) cI 201 st), (oa (a 6) cZ 201 tn), (oa (a 1) cI 201 kd), (oa (a 11) cI 201 mn), (oa (a 12) cI 8040 cx), (oa (a 13) cI 8040 cy), (oa (a 32) cI 8 S0), (oa (a 40) cI 6 T0), (oa (a 29) cI 42 P0), (oa (a 30) cI 42 Q0), (oa (a 33) cI 42 ox), (oa (a 34) cI 42 oy), (oa (a 37) cZ 201 mt), (oa (a 38) cZ 201 wi), (oa (a 39) cZ 8040 ins)] sz (some (.int (pI (lwP ft st tn kd mn cx cy f n k)))) (fun A t => ∃ (z9 : Int32), ∃ (mn1 : Nat → Int32), ∃ (cx1 : Nat → Int32), ∃ (cy1 : Nat → Int32), ∃ (S1 : Nat → Int32), ∃ (T1 : Nat → Int32), ∃ (P1 : Nat → Int32), ∃ (Q1 : Nat → Int32), ∃ (ox1 : Nat → Int32), ∃ (oy1 : Nat → Int32), ∃ (mt1 : Nat → Int32), ∃ (wi1 : Nat → Int32), ∃ (ins1 : Nat → Int32), (lwP ft st tn kd mn cx cy f n k → mn1 = upd mn f (nI (n - 1)) ∧ cx1 = shp f k (n - 1) cx ∧ cy1 = shp f k (n - 1) cy) ∧ (¬ lwP ft st tn kd mn cx cy f n k → mn1 = mn ∧ cx1 = cx ∧ cy1 = cy) ∧ zPD (dC, dI) classes A [(om k0 a (upd (upd (upd I0 31 z9) 35 (nI n)) 36 (kd f)) J0), (oa (a 5) cI 201 st), (oa (a 6) cZ 201 tn), (oa (a 1) cI 201 kd), (oa (a 11) cI 201 mn1), (oa (a 12) cI 8040 cx1), (oa (a 13) cI 8040 cy1), (oa (a 32) cI 8 S1), (oa (a 40) cI 6 T1), (oa (a 29) cI 42 P1), (oa (a 30) cI 42 Q1), (oa (a 33) cI 42 ox1), (oa (a 34) cI 42 oy1), (oa (a 37) cZ 201 mt1), (oa (a 38) cZ 201 wi1), (oa (a 39) cZ 8040 ins1)] t.heap) 0 0 := by
  refine zIn (own := "ScaleShopModel") (loc := [(0, .ref k0), (1, .int (nI f)), (2, .int (nI k))]) rfl rfl rfl rfl (fun p e s m below meth c hx hb hr hts hown hlocks hml hnm9 A hA hS hP hD hK hXN Q9 hQ9 ls hl => ?_)
  refine lv_aload_n hx hb dX11_goes_0 rfl (lv_at hl 0 rfl) ?_
  refine lv_iload_n hx hb dX11_goes_1 rfl (lv_at hl 1 rfl) ?_
  obtain ⟨hPc, hDc, hFc⟩ := zo_sub (wc := [_, _, _, _, _, _, _, _, _, _, _, _, _]) hP hD hS hA [0, 1, 2, 3, 4, 5, 6, 7, 11, 12, 13, 14, 15] (by decide +kernel) rfl
  refine zcall (st1 := []) (va_runV (As := [.int (nI f)]) (rest := []) ⟨hx, hb, hml, hown, hts⟩ (k_M_remember l dC dI cI cZ cF s.heap.size k0 a I0 J0 f n ft st tn kd mn cx cy S0 ox oy mt wi ins (by first | with_reducible assumption | assumption) (by first | with_reducible assumption | omega) (by first | with_reducible assumption | omega) (by first | with_reducible assumption | assumption) (by first | with_reducible assumption | omega) (by first | with_reducible assumption | assumption) (fun q h1 _ => hwf q h1)) (csV_190 hts rfl rfl ⟨Nat.le_of_ble_eq_true rfl, Nat.le_of_ble_eq_true rfl⟩) (zPV2 (q0 := 0) (ci := 9) hPc hDc hK hXN rfl rfl) rfl rfl hl.1 rfl (lv_room (Nat.le_of_ble_eq_true rfl)) dX11_goes_2 ⟨Nat.le_of_ble_eq_true rfl, Nat.le_of_ble_eq_true rfl⟩) hS hFc hFc rfl (fun t H locs ht hB hk1 hS => ?_)
  refine ex6 hB (fun S1 ox1 oy1 mt1 wi1 ins1 hB0 => ?_)
  clear hB
  obtain ⟨hox, hmt, hwi, hin, hP1, hD1⟩ := hB0
  rw [ht] at hP1
  obtain ⟨hP, hD⟩ := zn (W2 := [(om k0 a (upd (upd I0 35 (nI n)) 36 (kd f)) J0), _, _, _, _, _, _, (oa (a 32) cI 8 S1), _, _, _, (oa (a 33) cI 42 ox1), (oa (a 34) cI 42 oy1), (oa (a 37) cZ 201 mt1), (oa (a 38) cZ 201 wi1), (oa (a 39) cZ 8040 ins1)]) hP hD hk1 hFc hP1 hD1 zl_159 zl_160 zl_161 zl_159 (by decide +kernel) rfl rfl rfl rfl rfl
  clear hk1 hPc hDc hFc hP1 hD1 ht
  refine lv_iload_n hx hb dX11_goes_5 rfl (lv_at hl 2 rfl) ?_
  refine lv_istore_n (lv' := [(3, .int (nI k)), (0, .ref k0), (1, .int (nI f)), (2, .int (nI k))]) hx hb dX11_goes_6 rfl hl (Nat.le_of_ble_eq_true rfl) rfl (fun ls hl => ?_)
  have hl_7 : ∀ (n9 : Nat) (i : Nat) (cx1 : Nat → Int32) (cy1 : Nat → Int32) (H : Heap) (locs : List Loc) (ls : Array Slot), n - i < n9 → (i ≤ n - 1) → (k ≤ i) → (cx1 = shp f k i cx) → (cy1 = shp f k i cy) → va_P (dC, dI) classes [(om k0 a (upd (upd I0 35 (nI n)) 36 (kd f)) J0), (oa (a 5) cI 201 st), (oa (a 6) cZ 201 tn), (oa (a 1) cI 201 kd), (oa (a 11) cI 201 mn), (oa (a 12) cI 8040 cx1), (oa (a 13) cI 8040 cy1), (oa (a 32) cI 8 S1), (oa (a 40) cI 6 T0), (oa (a 29) cI 42 P0), (oa (a 30) cI 42 Q0), (oa (a 33) cI 42 ox1), (oa (a 34) cI 42 oy1), (oa (a 37) cZ 201 mt1), (oa (a 38) cZ 201 wi1), (oa (a 39) cZ 8040 ins1)] H → va_D A [(om k0 a (upd (upd I0 35 (nI n)) 36 (kd f)) J0), (oa (a 5) cI 201 st), (oa (a 6) cZ 201 tn), (oa (a 1) cI 201 kd), (oa (a 11) cI 201 mn), (oa (a 12) cI 8040 cx1), (oa (a 13) cI 8040 cy1), (oa (a 32) cI 8 S1), (oa (a 40) cI 6 T0), (oa (a 29) cI 42 P0), (oa (a 30) cI 42 Q0), (oa (a 33) cI 42 ox1), (oa (a 34) cI 42 oy1), (oa (a 37) cZ 201 mt1), (oa (a 38) cZ 201 wi1), (oa (a 39) cZ 8040 ins1)] → va_S A s.heap H locs → lv_has ls 4 [(3, .int (nI i)), (0, .ref k0), (1, .int (nI f)), (2, .int (nI k))] → W p l e ({ frames := 6, cells := 0, slots := 0, locals := 159 } : Room) s m ([.ref k0, .int (nI f), .int (nI k)] : List Value).toArray below meth c H locs 0 0 Q9 (F0 m 7 ls []) := by
    intro n9
    induction n9 with
    | zero => intro i cx1 cy1 H locs ls hm; exact absurd hm (Nat.not_lt_zero _)
    | succ n9 ih_7 =>
      intro i cx1 cy1 H locs ls hm hi hki hcx hcy hP hD hS hl
      refine lv_iload_n hx hb dX11_goes_7 rfl (lv_at hl 0 rfl) ?_
      refine lv_aload_n hx hb dX11_goes_8 rfl (lv_at hl 1 rfl) ?_
      refine va_get (D := (dC, dI)) (ci := 9) (v := .int (nI n)) (C := RX11) (T := TX11) (N := 55) hx hb hts inX11 hown hK hP 0 rfl rfl 35 (Nat.le_of_ble_eq_true rfl) (hts _ mw_1194) (fun _ h9 => h9) rfl dX11_goes_9 ?_
      refine lv_iconst (v := 1) hx hb dX11_goes_12 rfl ?_
      refine lv_isub hx hb dX11_goes_13 ?_
      refine zz_i (v := nI (n - 1)) (pk_sub (a := n) (b := 1) (by omega)) ?_
      have b9_2 : zlt (i) := show i < 2147483648 by omega
      have b9_3 : zlt ((n - 1)) := show (n - 1) < 2147483648 by omega
      refine lv_icmp_ge (tgt := 61) hx hb dX11_goes_14 rfl (fun c_1 => ?_) (fun c_1 => ?_)
      · have c_1 : ((n - 1 : Nat) : Int) ≤ ((i : Nat) : Int) := zc_le (nI_toInt b9_3) (nI_toInt b9_2) c_1
        have hin9 : i = n - 1 := (by omega)
        rw [hin9] at hcx hcy
        have hpo : pls n ox1 oy1 := fun j hj => by rw [(hox j hj).1, (hox j hj).2]; exact hp_f j hj
        have hwf2 : ∀ q, lvF ft st tn q → q ≠ f → wfM (upd mn f (nI (n - 1))) cx1 cy1 q := fun q h1 h2 => wfM_o (hwf q h1) h2 (fun j hj => by simp only [upd, if_neg hj]) (fun j hj => by rw [hcx, hcy]; exact ⟨shp_o (by omega) hj, shp_o (by omega) hj⟩)
        have hmq : ∀ q, q ≠ f → upd mn f (nI (n - 1)) q = mn q := fun q hq => by simp only [upd, if_neg hq]
        refine lv_aload_n hx hb dX11_goes_61 rfl (lv_at hl 1 rfl) ?_
        refine va_get (D := (dC, dI)) (ci := 9) (v := .ref (a 11)) (C := RX11) (T := TX11) (N := 55) hx hb hts inX11 hown hK hP 0 rfl rfl 11 (Nat.le_of_ble_eq_true rfl) (hts _ mw_1170) (fun _ h9 => h9) rfl dX11_goes_62 ?_
        refine lv_iload_n hx hb dX11_goes_65 rfl (lv_at hl 2 rfl) ?_
        refine lv_aload_n hx hb dX11_goes_66 rfl (lv_at hl 1 rfl) ?_
        refine va_get (D := (dC, dI)) (ci := 9) (v := .int (nI n)) (C := RX11) (T := TX11) (N := 55) hx hb hts inX11 hown hK hP 0 rfl rfl 35 (Nat.le_of_ble_eq_true rfl) (hts _ mw_1194) (fun _ h9 => h9) rfl dX11_goes_67 ?_
        refine lv_iconst (v := 1) hx hb dX11_goes_70 rfl ?_
        refine lv_isub hx hb dX11_goes_71 ?_
        refine zz_i (v := nI (n - 1)) (pk_sub (a := n) (b := 1) (by omega)) ?_
        have b9_4 : f < 201 := by omega
        refine z_iast hx hb hK hP hD hS 4 0 rfl rfl (e := f) (x := nI (n - 1)) rfl b9_4 (Nat.le_of_ble_eq_true rfl) dX11_goes_72 (fun H locs hP hD hS => ?_)
        obtain ⟨hP, hD⟩ := zre (W2 := [_, _, _, _, (oa (a 11) cI 201 (upd mn f (nI (n - 1)))), _, _, _, _, _, _, _, _, _, _, _]) hP hD rfl
        refine lv_aload_n hx hb dX11_goes_73 rfl (lv_at hl 1 rfl) ?_
        refine lv_iload_n hx hb dX11_goes_74 rfl (lv_at hl 2 rfl) ?_
        refine lv_iconst (v := 1) hx hb dX11_goes_75 rfl ?_
        refine lv_iload_n hx hb dX11_goes_76 rfl (lv_at hl 3 rfl) ?_
        obtain ⟨hPc, hDc, hFc⟩ := zo_sub (wc := [_, _, _, _, _, _, _, _, _, _, _, _, _, _, _, _]) hP hD hS hA [0, 1, 2, 3, 4, 5, 6, 7, 8, 9, 10, 11, 12, 13, 14, 15] (by decide +kernel) rfl
        refine zcall (st1 := [.int (pI (lwA ft st tn kd (upd mn f (nI (n - 1))) cx1 cy1 f (n - 1) (ox1 0) (oy1 0) (bMt kd mn cx cy f n) (bWi kd mn cx cy f) (bIn kd cx cy f n) (sWp n ox1 oy1 cx1 cy1 k)))]) (va_runV (As := [.int (nI f), .int 1, .int (nI k)]) (rest := []) ⟨hx, hb, hml, hown, hts⟩ (k_M_isLawful_p l dC dI cI cZ cF H.size k0 a (upd (upd I0 35 (nI n)) 36 (kd f)) J0 f (n - 1) ft n k st tn kd (upd mn f (nI (n - 1))) cx1 cy1 S1 T0 P0 Q0 ox1 oy1 mt1 wi1 ins1 (bMt kd mn cx cy f n) (bWi kd mn cx cy f) (bIn kd cx cy f n) (by first | with_reducible assumption | assumption) (by first | with_reducible assumption | omega) (by first | with_reducible assumption | omega) (by simp only [upd, if_true]) (by first | with_reducible assumption | omega) (hwf2) (rfl) (by first | with_reducible assumption | omega) (by first | with_reducible assumption | omega) (hpo) (hmt) (fun q h1 h2 h5 => by rw [hwi q h1 h2]; exact zp_iff ⟨fun h => h.2, fun h => ⟨h5, h⟩⟩) (fun q h1 h2 i hi h5 => hin q h1 h2 h5 i (by rw [hmq q h2] at hi; exact hi)) (by first | with_reducible assumption | omega)) (csV_191 hts rfl rfl ⟨Nat.le_of_ble_eq_true rfl, Nat.le_of_ble_eq_true rfl⟩) (zPV2 (q0 := 0) (ci := 9) hPc hDc hK hXN rfl rfl) rfl rfl hl.1 rfl (lv_room (Nat.le_of_ble_eq_true rfl)) dX11_goes_77 ⟨Nat.le_of_ble_eq_true rfl, Nat.le_of_ble_eq_true rfl⟩) hS hFc hFc rfl (fun t H locs ht hB hk1 hS => ?_)
        obtain ⟨z9, S2, T1, P1, Q1, hP1, hD1⟩ := hB
        rw [ht] at hP1
        obtain ⟨hP, hD⟩ := zn (W2 := [(om k0 a (upd (upd (upd I0 31 z9) 35 (nI n)) 36 (kd f)) J0), _, _, _, _, _, _, (oa (a 32) cI 8 S2), (oa (a 40) cI 6 T1), (oa (a 29) cI 42 P1), (oa (a 30) cI 42 Q1), _, _, _, _, _]) hP hD hk1 hFc hP1 hD1 zl_80 [] zl_79 zl_80 (by decide +kernel) rfl rfl rfl rfl rfl
        clear hk1 hPc hDc hFc hP1 hD1 ht
        refine zz_i (v := pI (lwP ft st tn kd mn cx cy f n k)) (by unfold lwP; rw [hcx, hcy, (hox 0 (by omega)).1, (hox 0 (by omega)).2]; congr 2; funext q i; exact swB_c hk9 hox) ?_
        refine lv_if_eq (tgt := 85) hx hb dX11_goes_80 rfl (fun c_5 => ?_) (fun c_5 => ?_)
        · have c_5 : ¬ (lwP ft st tn kd mn cx cy f n k) := zp_0 c_5
          refine lv_aload_n hx hb dX11_goes_85 rfl (lv_at hl 1 rfl) ?_
          refine lv_iload_n hx hb dX11_goes_86 rfl (lv_at hl 2 rfl) ?_
          obtain ⟨hPc, hDc, hFc⟩ := zo_sub (wc := [_, _, _, _, _, _, _]) hP hD hS hA [0, 3, 4, 5, 6, 11, 12] (by decide +kernel) rfl
          refine zcall (st1 := []) (va_runV (As := [.int (nI f)]) (rest := []) ⟨hx, hb, hml, hown, hts⟩ (k_M_forgetNew l dC dI cI cZ cF H.size k0 a (upd (upd (upd I0 31 z9) 35 (nI n)) 36 (kd f)) J0 f n kd (upd mn f (nI (n - 1))) cx1 cy1 ox1 oy1 (by first | with_reducible assumption | omega) (rfl) (by first | with_reducible assumption | omega)) (csV_192 hts rfl rfl ⟨Nat.le_of_ble_eq_true rfl, Nat.le_of_ble_eq_true rfl⟩) (zPV2 (q0 := 0) (ci := 9) hPc hDc hK hXN rfl rfl) rfl rfl hl.1 rfl (lv_room (Nat.le_of_ble_eq_true rfl)) dX11_goes_87 ⟨Nat.le_of_ble_eq_true rfl, Nat.le_of_ble_eq_true rfl⟩) hS hFc hFc rfl (fun t H locs ht hB hk1 hS => ?_)
          obtain ⟨cx2, cy2, hc1, hc2, hP1, hD1⟩ := hB
          rw [ht] at hP1
          obtain ⟨hP, hD⟩ := zn (W2 := [_, _, _, (oa (a 1) cI 201 (upd kd f ((upd (upd (upd I0 31 z9) 35 (nI n)) 36 (kd f)) 36))), (oa (a 11) cI 201 (upd (upd mn f (nI (n - 1))) f (nI n))), (oa (a 12) cI 8040 cx2), (oa (a 13) cI 8040 cy2), _, _, _, _, _, _, _, _, _]) hP hD hk1 hFc hP1 hD1 [0, 3, 4, 5, 6, 11, 12] zl_162 zl_162 [0, 3, 4, 5, 6, 11, 12] (by decide +kernel) rfl rfl rfl rfl rfl
          clear hk1 hPc hDc hFc hP1 hD1 ht
          refine lv_iconst (v := 0) hx hb dX11_goes_90 rfl ?_
          have hz1 := fn_c (c := cx) (fun j hj => (hc1 j hj).1) (fun j hj => (hox j hj).1) (fun j hj => ((hc2 j hj).1).trans (by rw [hcx]; unfold shp; rw [if_neg (by omega)]))
          have hz2 := fn_c (c := cy) (fun j hj => (hc1 j hj).2) (fun j hj => (hox j hj).2) (fun j hj => ((hc2 j hj).2).trans (by rw [hcy]; unfold shp; rw [if_neg (by omega)]))
          obtain ⟨hP9, hD9⟩ := zu_sub (wc := [(om k0 a (upd (upd (upd I0 31 z9) 35 (nI n)) 36 (kd f)) J0), (oa (a 5) cI 201 st), (oa (a 6) cZ 201 tn), (oa (a 1) cI 201 (upd kd f ((upd (upd (upd I0 31 z9) 35 (nI n)) 36 (kd f)) 36))), (oa (a 11) cI 201 (upd (upd mn f (nI (n - 1))) f (nI n))), (oa (a 12) cI 8040 cx2), (oa (a 13) cI 8040 cy2), (oa (a 32) cI 8 S2), (oa (a 40) cI 6 T1), (oa (a 29) cI 42 P1), (oa (a 30) cI 42 Q1), (oa (a 33) cI 42 ox1), (oa (a 34) cI 42 oy1), (oa (a 37) cZ 201 mt1), (oa (a 38) cZ 201 wi1), (oa (a 39) cZ 8040 ins1)]) hP hD [true, true, true, true, true, true, true, true, true, true, true, true, true, true, true, true] rfl rfl
          have hE9 : ([(om k0 a (upd (upd (upd I0 31 z9) 35 (nI n)) 36 (kd f)) J0), (oa (a 5) cI 201 st), (oa (a 6) cZ 201 tn), (oa (a 1) cI 201 (upd kd f ((upd (upd (upd I0 31 z9) 35 (nI n)) 36 (kd f)) 36))), (oa (a 11) cI 201 (upd (upd mn f (nI (n - 1))) f (nI n))), (oa (a 12) cI 8040 cx2), (oa (a 13) cI 8040 cy2), (oa (a 32) cI 8 S2), (oa (a 40) cI 6 T1), (oa (a 29) cI 42 P1), (oa (a 30) cI 42 Q1), (oa (a 33) cI 42 ox1), (oa (a 34) cI 42 oy1), (oa (a 37) cZ 201 mt1), (oa (a 38) cZ 201 wi1), (oa (a 39) cZ 8040 ins1)] : va_W) = [(om k0 a (upd (upd (upd I0 31 z9) 35 (nI n)) 36 (kd f)) J0), (oa (a 5) cI 201 st), (oa (a 6) cZ 201 tn), (oa (a 1) cI 201 kd), (oa (a 11) cI 201 (upd (upd mn f (nI (n - 1))) f (nI n))), (oa (a 12) cI 8040 cx2), (oa (a 13) cI 8040 cy2), (oa (a 32) cI 8 S2), (oa (a 40) cI 6 T1), (oa (a 29) cI 42 P1), (oa (a 30) cI 42 Q1), (oa (a 33) cI 42 ox1), (oa (a 34) cI 42 oy1), (oa (a 37) cZ 201 mt1), (oa (a 38) cZ 201 wi1), (oa (a 39) cZ 8040 ins1)] := by rw [show (upd kd f ((upd (upd (upd I0 31 z9) 35 (nI n)) 36 (kd f)) 36) : Nat → Int32) = kd from upd_self rfl]
          rw [hE9] at hP9 hD9
          rw [hQ9]
          exact W.zret (ty := .boolean) (v := 0) hx hb hr (rfl) (fun t ht hW => ⟨⟨congrArg (fun z => Outcome.returned (some (Value.int z))) (show (0 : Int32) = pI (lwP ft st tn kd mn cx cy f n k) from (zp_f (by simp_all)).symm), z9, (upd (upd mn f (nI (n - 1))) f (nI n)), cx2, cy2, S2, T1, P1, Q1, ox1, oy1, mt1, wi1, ins1, (fun h => absurd h (by first | with_reducible assumption | assumption)), (fun _ => ⟨upd_back hm_f, hz1, hz2⟩), by rw [ht]; exact hP9, hD9⟩, hS.F ht⟩) hS.2.2 dX11_goes_91
        · have c_5 : lwP ft st tn kd mn cx cy f n k := zp_1 c_5
          refine lv_iconst (v := 1) hx hb dX11_goes_83 rfl ?_
          obtain ⟨hP9, hD9⟩ := zu_sub (wc := [_, _, _, _, _, _, _, _, _, _, _, _, _, _, _, _]) hP hD [true, true, true, true, true, true, true, true, true, true, true, true, true, true, true, true] rfl rfl
          rw [hQ9]
          exact W.zret (ty := .boolean) (v := 1) hx hb hr (rfl) (fun t ht hW => ⟨⟨congrArg (fun z => Outcome.returned (some (Value.int z))) (show (1 : Int32) = pI (lwP ft st tn kd mn cx cy f n k) from (zp_t (by simp_all)).symm), z9, (upd mn f (nI (n - 1))), cx1, cy1, S2, T1, P1, Q1, ox1, oy1, mt1, wi1, ins1, (fun _ => ⟨rfl, hcx, hcy⟩), (fun h => absurd (by first | with_reducible assumption | assumption) h), by rw [ht]; exact hP9, hD9⟩, hS.F ht⟩) hS.2.2 dX11_goes_84
      · have c_1 : ((i : Nat) : Int) < ((n - 1 : Nat) : Int) := zc_nle (nI_toInt b9_3) (nI_toInt b9_2) c_1
        refine lv_aload_n hx hb dX11_goes_17 rfl (lv_at hl 1 rfl) ?_
        refine va_get (D := (dC, dI)) (ci := 9) (v := .ref (a 12)) (C := RX11) (T := TX11) (N := 55) hx hb hts inX11 hown hK hP 0 rfl rfl 12 (Nat.le_of_ble_eq_true rfl) (hts _ mw_1171) (fun _ h9 => h9) rfl dX11_goes_18 ?_
        refine lv_bipush (v := 40) hx hb dX11_goes_21 rfl ?_
        refine lv_iload_n hx hb dX11_goes_23 rfl (lv_at hl 2 rfl) ?_
        refine lv_imul hx hb dX11_goes_24 ?_
        refine zz_i (v := nI (40 * f)) (pk_mul 40 f) ?_
        refine lv_iload_n hx hb dX11_goes_25 rfl (lv_at hl 0 rfl) ?_
        refine lv_iadd hx hb dX11_goes_26 ?_
        refine zz_i (v := nI (40 * f + i)) (nI_add (40 * f) i) ?_
        refine lv_aload_n hx hb dX11_goes_27 rfl (lv_at hl 1 rfl) ?_
        refine va_get (D := (dC, dI)) (ci := 9) (v := .ref (a 33)) (C := RX11) (T := TX11) (N := 55) hx hb hts inX11 hown hK hP 0 rfl rfl 33 (Nat.le_of_ble_eq_true rfl) (hts _ mw_1192) (fun _ h9 => h9) rfl dX11_goes_28 ?_
        refine lv_iload_n hx hb dX11_goes_31 rfl (lv_at hl 0 rfl) ?_
        refine lv_iconst (v := 1) hx hb dX11_goes_32 rfl ?_
        refine lv_iadd hx hb dX11_goes_33 ?_
        refine zz_i (v := nI (i + 1)) (nI_add i 1) ?_
        have b9_6 : i + 1 < 42 := by omega
        refine z_iald hx hb hK hP 11 0 rfl rfl (e := i + 1) rfl b9_6 (Nat.le_of_ble_eq_true rfl) dX11_goes_34 ?_
        have b9_7 : 40 * f + i < 8040 := by omega
        refine z_iast hx hb hK hP hD hS 5 0 rfl rfl (e := 40 * f + i) (x := ox1 (i + 1)) rfl b9_7 (Nat.le_of_ble_eq_true rfl) dX11_goes_35 (fun H locs hP hD hS => ?_)
        obtain ⟨hP, hD⟩ := zre (W2 := [_, _, _, _, _, (oa (a 12) cI 8040 (upd cx1 (40 * f + i) (ox1 (i + 1)))), _, _, _, _, _, _, _, _, _, _]) hP hD rfl
        refine lv_aload_n hx hb dX11_goes_36 rfl (lv_at hl 1 rfl) ?_
        refine va_get (D := (dC, dI)) (ci := 9) (v := .ref (a 13)) (C := RX11) (T := TX11) (N := 55) hx hb hts inX11 hown hK hP 0 rfl rfl 13 (Nat.le_of_ble_eq_true rfl) (hts _ mw_1172) (fun _ h9 => h9) rfl dX11_goes_37 ?_
        refine lv_bipush (v := 40) hx hb dX11_goes_40 rfl ?_
        refine lv_iload_n hx hb dX11_goes_42 rfl (lv_at hl 2 rfl) ?_
        refine lv_imul hx hb dX11_goes_43 ?_
        refine zz_i (v := nI (40 * f)) (pk_mul 40 f) ?_
        refine lv_iload_n hx hb dX11_goes_44 rfl (lv_at hl 0 rfl) ?_
        refine lv_iadd hx hb dX11_goes_45 ?_
        refine zz_i (v := nI (40 * f + i)) (nI_add (40 * f) i) ?_
        refine lv_aload_n hx hb dX11_goes_46 rfl (lv_at hl 1 rfl) ?_
        refine va_get (D := (dC, dI)) (ci := 9) (v := .ref (a 34)) (C := RX11) (T := TX11) (N := 55) hx hb hts inX11 hown hK hP 0 rfl rfl 34 (Nat.le_of_ble_eq_true rfl) (hts _ mw_1193) (fun _ h9 => h9) rfl dX11_goes_47 ?_
        refine lv_iload_n hx hb dX11_goes_50 rfl (lv_at hl 0 rfl) ?_
        refine lv_iconst (v := 1) hx hb dX11_goes_51 rfl ?_
        refine lv_iadd hx hb dX11_goes_52 ?_
        refine zz_i (v := nI (i + 1)) (nI_add i 1) ?_
        refine z_iald hx hb hK hP 12 0 rfl rfl (e := i + 1) rfl b9_6 (Nat.le_of_ble_eq_true rfl) dX11_goes_53 ?_
        refine z_iast hx hb hK hP hD hS 6 0 rfl rfl (e := 40 * f + i) (x := oy1 (i + 1)) rfl b9_7 (Nat.le_of_ble_eq_true rfl) dX11_goes_54 (fun H locs hP hD hS => ?_)
        obtain ⟨hP, hD⟩ := zre (W2 := [_, _, _, _, _, _, (oa (a 13) cI 8040 (upd cy1 (40 * f + i) (oy1 (i + 1)))), _, _, _, _, _, _, _, _, _]) hP hD rfl
        refine lv_iinc (v := nI (i + 1)) (lv' := [(3, .int (nI (i + 1))), (0, .ref k0), (1, .int (nI f)), (2, .int (nI k))]) hx hb dX11_goes_55 hl (k := 0) rfl (nI_add i 1) (Nat.le_of_ble_eq_true rfl) rfl (fun ls hl => ?_)
        refine lv_goto (tgt := 7) hx hb dX11_goes_58 rfl ?_
        exact ih_7 (i + 1) (upd cx1 (40 * f + i) (ox1 (i + 1))) (upd cy1 (40 * f + i) (oy1 (i + 1))) H locs ls (by first | with_reducible assumption | omega) (by first | with_reducible assumption | omega) (by first | with_reducible assumption | omega) (shp_s hki hcx (hox (i + 1) (by first | with_reducible assumption | omega)).1) (shp_s hki hcy (hox (i + 1) (by first | with_reducible assumption | omega)).2) hP hD hS (lv_sub hl [0, 1, 2, 3] rfl)
  exact hl_7 _ k cx cy H locs ls (Nat.lt_succ_self _) (by first | with_reducible assumption | omega) (by first | with_reducible assumption | omega) (shp_0 f k cx) (shp_0 f k cy) hP hD hS (lv_sub hl [0, 1, 2, 3] rfl)
end
section
set_option maxHeartbeats 4000000 in
set_option maxRecDepth 100000 in
theorem k_M_write (l : Launch) (dC : Nat → ClassId) (dI : Nat → Nat → Nat) (cI cZ cF : ClassId) (sz : Nat) (k0 : Nat) (a : Nat → Nat) (I0 : Nat → Int32) (J0 : Nat → Int64) (wa : Nat) (cp : Nat) (v : Int32) (sh : Nat → Int32) (hwa : I0 41 = nI wa) (hwc : wa ≤ 4096 * cp) (hc1 : 1 ≤ cp) (hcm : cp ≤ 512) : zM l yX11_write cX11_write 4 none ({ frames := 0, cells := dc cp wa - cp, slots := 8192 * (dc cp wa - cp), locals := 0 } : Room) [.ref k0, .int v] (dC, dI) (zTy cI cZ cF) [(om k0 a I0 J0), (oa (a 28) cI (4096 * cp) sh)] sz none (fun A t => ∃ (b1 : Nat), ∃ (c1 : Nat), ∃ (sh1 : Nat → Int32), (c1 = dc cp wa) ∧ (sh1 wa = v) ∧ (∀ j, j < wa → sh1 j = sh j) ∧ (∀ j, j ≠ wa → j < 4096 * cp → sh1 j = sh j) ∧ zPD (dC, dI) classes A [(om k0 (va_up a 28 b1) (upd I0 41 (nI (wa + 1))) J0), (oa b1 cI (4096 * c1) sh1)] t.heap) (dc cp wa - cp) (8192 * (dc cp wa - cp)) := by
  refine zIn (own := "ScaleShopModel") (loc := [(0, .ref k0), (1, .int v)]) rfl rfl rfl rfl (fun p e s m below meth c hx hb hr hts hown hlocks hml hnm9 A hA hS hP hD hK hXN Q9 hQ9 ls hl => ?_)
  have hdc : dc cp wa = if wa = 4096 * cp then 2 * cp else cp := rfl
  refine lv_aload_n hx hb dX11_write_0 rfl (lv_at hl 0 rfl) ?_
  refine va_get (D := (dC, dI)) (ci := 9) (v := .int (I0 41)) (C := RX11) (T := TX11) (N := 55) hx hb hts inX11 hown hK hP 0 rfl rfl 41 (Nat.le_of_ble_eq_true rfl) (hts _ mw_1200) (fun _ h9 => h9) rfl dX11_write_1 ?_
  refine zz_i (v := nI wa) (hwa) ?_
  refine lv_aload_n hx hb dX11_write_4 rfl (lv_at hl 0 rfl) ?_
  refine va_get (D := (dC, dI)) (ci := 9) (v := .ref (a 28)) (C := RX11) (T := TX11) (N := 55) hx hb hts inX11 hown hK hP 0 rfl rfl 28 (Nat.le_of_ble_eq_true rfl) (hts _ mw_1187) (fun _ h9 => h9) rfl dX11_write_5 ?_
  refine va_alen (v := nI (4096 * cp)) hx hb hK hP 1 0 rfl rfl rfl dX11_write_8 ?_
  have b9_2 : zlt (wa) := show wa < 2147483648 by omega
  have b9_3 : zlt ((4096 * cp)) := show (4096 * cp) < 2147483648 by omega
  refine lv_icmp_ne (tgt := 51) hx hb dX11_write_9 rfl (fun c_1 => ?_) (fun c_1 => ?_)
  · have c_1 : ¬ ((wa : Nat) : Int) = ((4096 * cp : Nat) : Int) := zc_ne (nI_toInt b9_2) (nI_toInt b9_3) c_1
    refine lv_aload_n hx hb dX11_write_51 rfl (lv_at hl 0 rfl) ?_
    refine va_get (D := (dC, dI)) (ci := 9) (v := .ref (a 28)) (C := RX11) (T := TX11) (N := 55) hx hb hts inX11 hown hK hP 0 rfl rfl 28 (Nat.le_of_ble_eq_true rfl) (hts _ mw_1187) (fun _ h9 => h9) rfl dX11_write_52 ?_
    refine lv_aload_n hx hb dX11_write_55 rfl (lv_at hl 0 rfl) ?_
    refine va_get (D := (dC, dI)) (ci := 9) (v := .int (I0 41)) (C := RX11) (T := TX11) (N := 55) hx hb hts inX11 hown hK hP 0 rfl rfl 41 (Nat.le_of_ble_eq_true rfl) (hts _ mw_1200) (fun _ h9 => h9) rfl dX11_write_56 ?_
    refine zz_i (v := nI wa) (hwa) ?_
    refine lv_iload_n hx hb dX11_write_59 rfl (lv_at hl 1 rfl) ?_
    have b9_4 : wa < (4096 * cp) := by omega
    refine z_iast hx hb hK hP hD hS 1 0 rfl rfl (e := wa) (x := v) rfl b9_4 b9_3 dX11_write_60 (fun H locs hP hD hS => ?_)
    obtain ⟨hP, hD⟩ := zre (W2 := [_, (oa (a 28) cI (4096 * cp) (upd sh wa v))]) hP hD rfl
    refine lv_aload_n hx hb dX11_write_61 rfl (lv_at hl 0 rfl) ?_
    refine lv_dup hx hb dX11_write_62 rfl ?_
    refine va_get (D := (dC, dI)) (ci := 9) (v := .int (I0 41)) (C := RX11) (T := TX11) (N := 55) hx hb hts inX11 hown hK hP 0 rfl rfl 41 (Nat.le_of_ble_eq_true rfl) (hts _ mw_1200) (fun _ h9 => h9) rfl dX11_write_63 ?_
    refine zz_i (v := nI wa) (hwa) ?_
    refine lv_iconst (v := 1) hx hb dX11_write_66 rfl ?_
    refine lv_iadd hx hb dX11_write_67 ?_
    refine zz_i (v := nI (wa + 1)) (nI_add wa 1) ?_
    refine va_put (D := (dC, dI)) (ci := 9) (v := .int (nI (wa + 1))) (ty := .int) (C := RX11) (T := TX11) (N := 55) hx hb hts inX11 tyX11 tyX11_ok nmX11 hown hK hP hD hS 0 rfl rfl 41 (by decide) (hts _ mw_1200) (fun _ h9 => h9) rfl (by decide +kernel) rfl rfl (Nat.le_of_ble_eq_true rfl) dX11_write_68 (fun H locs hP hD hS => ?_)
    obtain ⟨hP, hD⟩ := zre (W2 := [(om k0 a (upd I0 41 (nI (wa + 1))) J0), _]) hP hD rfl
    obtain ⟨hP9, hD9⟩ := zu_sub (wc := [_, _]) hP hD [true, true] rfl rfl
    refine W.widen (k := dc cp wa - cp) (n := 8192 * (dc cp wa - cp)) (by omega) (by omega) ?_
    rw [hQ9]
    exact W.vret hx hb hr (fun t ht hW => ⟨⟨rfl, (a 28), cp, (upd sh wa v), (by first | (rw [hdc, if_neg (by omega)]) | (rw [hdc])), (by exact up_at _ _ _), (by first | exact up_lo (fun j hj => hall j (by omega)) (Nat.le_refl _) | exact up_lo (fun j hj => rfl) (Nat.le_refl _)), (by first | exact up_ne (fun j hj => hall j (by omega)) | exact up_ne (fun j hj => rfl)), by rw [ht]; exact hP9, hD9⟩, hS.F ht⟩) hS.2.2 dX11_write_71
  · have c_1 : ((wa : Nat) : Int) = ((4096 * cp : Nat) : Int) := zc_eq (nI_toInt b9_2) (nI_toInt b9_3) c_1
    have hwe : wa = 4096 * cp := (by omega)
    rw [if_pos hwe] at hdc
    refine lv_iconst (v := 2) hx hb dX11_write_12 rfl ?_
    refine lv_aload_n hx hb dX11_write_13 rfl (lv_at hl 0 rfl) ?_
    refine va_get (D := (dC, dI)) (ci := 9) (v := .int (I0 41)) (C := RX11) (T := TX11) (N := 55) hx hb hts inX11 hown hK hP 0 rfl rfl 41 (Nat.le_of_ble_eq_true rfl) (hts _ mw_1200) (fun _ h9 => h9) rfl dX11_write_14 ?_
    refine zz_i (v := nI wa) (hwa) ?_
    refine lv_imul hx hb dX11_write_17 ?_
    refine zz_i (v := nI (2 * wa)) (pk_mul 2 wa) ?_
    refine zz_i (v := nI (4096 * (2 * cp))) (zn_eq (by omega)) ?_
    refine zz_newa (atype := .int) (a0 := (4096 * (2 * cp), .inl (fun _ => 0))) hx hb (hts _ mw_195) (ty := .int) rfl hK hP hD hS hA (n := nI (4096 * (2 * cp))) (N' := 4096 * (2 * cp)) (cA := cI) 0 rfl (fun _ => rfl) (nI_pos (by omega)) (nI_clamp (by omega)) (show (4096 * (2 * cp)) * 4 ≤ 536870912 by omega) (show 1 ≤ dc cp wa - cp by omega) (show (0 + (4096 * (2 * cp))) ≤ 8192 * (dc cp wa - cp) by omega) dX11_write_18 (fun nb H hP hD hS => ?_)
    obtain ⟨hP, hD⟩ := zre (W2 := [_, _, (oa nb cI (4096 * (2 * cp)) (fun _ => 0))]) hP hD rfl
    refine lv_astore_n (lv' := [(2, .ref nb), (0, .ref k0), (1, .int v)]) hx hb dX11_write_20 rfl hl (Nat.le_of_ble_eq_true rfl) rfl (fun ls hl => ?_)
    refine lv_iconst (v := 0) hx hb dX11_write_21 rfl ?_
    refine lv_istore_n (lv' := [(3, .int 0), (2, .ref nb), (0, .ref k0), (1, .int v)]) hx hb dX11_write_22 rfl hl (Nat.le_of_ble_eq_true rfl) rfl (fun ls hl => ?_)
    have hl_23 : ∀ (n9 : Nat) (k : Nat) (f1 : Nat → Int32) (H : Heap) (locs : List Loc) (ls : Array Slot), wa - k < n9 → (k ≤ wa) → (∀ j, j < k → f1 j = sh j) → va_P (dC, dI) classes [(om k0 a I0 J0), (oa (a 28) cI (4096 * cp) sh), (oa nb cI (4096 * (2 * cp)) f1)] H → va_D A [(om k0 a I0 J0), (oa (a 28) cI (4096 * cp) sh), (oa nb cI (4096 * (2 * cp)) f1)] → va_S A s.heap H locs → lv_has ls 4 [(3, .int (nI k)), (2, .ref nb), (0, .ref k0), (1, .int v)] → W p l e ({ frames := 0, cells := dc cp wa - cp, slots := 8192 * (dc cp wa - cp), locals := 0 } : Room) s m ([.ref k0, .int v] : List Value).toArray below meth c H locs 1 (0 + (4096 * (2 * cp))) Q9 (F0 m 23 ls []) := by
      intro n9
      induction n9 with
      | zero => intro k f1 H locs ls hm; exact absurd hm (Nat.not_lt_zero _)
      | succ n9 ih_23 =>
        intro k f1 H locs ls hm hk hall hP hD hS hl
        refine lv_iload_n hx hb dX11_write_23 rfl (lv_at hl 0 rfl) ?_
        refine lv_aload_n hx hb dX11_write_24 rfl (lv_at hl 2 rfl) ?_
        refine va_get (D := (dC, dI)) (ci := 9) (v := .int (I0 41)) (C := RX11) (T := TX11) (N := 55) hx hb hts inX11 hown hK hP 0 rfl rfl 41 (Nat.le_of_ble_eq_true rfl) (hts _ mw_1200) (fun _ h9 => h9) rfl dX11_write_25 ?_
        refine zz_i (v := nI wa) (hwa) ?_
        have b9_6 : zlt (k) := show k < 2147483648 by omega
        refine lv_icmp_ge (tgt := 46) hx hb dX11_write_28 rfl (fun c_5 => ?_) (fun c_5 => ?_)
        · have c_5 : ((wa : Nat) : Int) ≤ ((k : Nat) : Int) := zc_le (nI_toInt b9_2) (nI_toInt b9_6) c_5
          refine lv_aload_n hx hb dX11_write_46 rfl (lv_at hl 2 rfl) ?_
          refine lv_aload_n hx hb dX11_write_47 rfl (lv_at hl 1 rfl) ?_
          refine va_put (D := (dC, dI)) (ci := 9) (v := .ref nb) (ty := .array .int) (C := RX11) (T := TX11) (N := 55) hx hb hts inX11 tyX11 tyX11_ok nmX11 hown hK hP hD hS 0 rfl rfl 28 (by decide) (hts _ mw_1187) (fun _ h9 => h9) rfl (by decide +kernel) rfl rfl (Nat.le_of_ble_eq_true rfl) dX11_write_48 (fun H locs hP hD hS => ?_)
          obtain ⟨hP, hD⟩ := zre (W2 := [(om k0 (va_up a 28 nb) I0 J0), _, _]) hP hD rfl
          refine lv_aload_n hx hb dX11_write_51 rfl (lv_at hl 2 rfl) ?_
          refine va_get (D := (dC, dI)) (ci := 9) (v := .ref nb) (C := RX11) (T := TX11) (N := 55) hx hb hts inX11 hown hK hP 0 rfl rfl 28 (Nat.le_of_ble_eq_true rfl) (hts _ mw_1187) (fun _ h9 => h9) rfl dX11_write_52 ?_
          refine lv_aload_n hx hb dX11_write_55 rfl (lv_at hl 2 rfl) ?_
          refine va_get (D := (dC, dI)) (ci := 9) (v := .int (I0 41)) (C := RX11) (T := TX11) (N := 55) hx hb hts inX11 hown hK hP 0 rfl rfl 41 (Nat.le_of_ble_eq_true rfl) (hts _ mw_1200) (fun _ h9 => h9) rfl dX11_write_56 ?_
          refine zz_i (v := nI wa) (hwa) ?_
          refine lv_iload_n hx hb dX11_write_59 rfl (lv_at hl 3 rfl) ?_
          have b9_7 : wa < (4096 * (2 * cp)) := by omega
          have b9_8 : zlt ((4096 * (2 * cp))) := show (4096 * (2 * cp)) < 2147483648 by omega
          refine z_iast hx hb hK hP hD hS 2 0 rfl rfl (e := wa) (x := v) rfl b9_7 b9_8 dX11_write_60 (fun H locs hP hD hS => ?_)
          obtain ⟨hP, hD⟩ := zre (W2 := [_, _, (oa nb cI (4096 * (2 * cp)) (upd f1 wa v))]) hP hD rfl
          refine lv_aload_n hx hb dX11_write_61 rfl (lv_at hl 2 rfl) ?_
          refine lv_dup hx hb dX11_write_62 rfl ?_
          refine va_get (D := (dC, dI)) (ci := 9) (v := .int (I0 41)) (C := RX11) (T := TX11) (N := 55) hx hb hts inX11 hown hK hP 0 rfl rfl 41 (Nat.le_of_ble_eq_true rfl) (hts _ mw_1200) (fun _ h9 => h9) rfl dX11_write_63 ?_
          refine zz_i (v := nI wa) (hwa) ?_
          refine lv_iconst (v := 1) hx hb dX11_write_66 rfl ?_
          refine lv_iadd hx hb dX11_write_67 ?_
          refine zz_i (v := nI (wa + 1)) (nI_add wa 1) ?_
          refine va_put (D := (dC, dI)) (ci := 9) (v := .int (nI (wa + 1))) (ty := .int) (C := RX11) (T := TX11) (N := 55) hx hb hts inX11 tyX11 tyX11_ok nmX11 hown hK hP hD hS 0 rfl rfl 41 (by decide) (hts _ mw_1200) (fun _ h9 => h9) rfl (by decide +kernel) rfl rfl (Nat.le_of_ble_eq_true rfl) dX11_write_68 (fun H locs hP hD hS => ?_)
          obtain ⟨hP, hD⟩ := zre (W2 := [(om k0 (va_up a 28 nb) (upd I0 41 (nI (wa + 1))) J0), _, _]) hP hD rfl
          obtain ⟨hP9, hD9⟩ := zu_sub (wc := [_, _]) hP hD [true, false, true] rfl rfl
          refine W.widen (k := dc cp wa - cp) (n := 8192 * (dc cp wa - cp)) (by omega) (by omega) ?_
          rw [hQ9]
          exact W.vret hx hb hr (fun t ht hW => ⟨⟨rfl, nb, (2 * cp), (upd f1 wa v), (by first | (rw [hdc, if_neg (by omega)]) | (rw [hdc])), (by exact up_at _ _ _), (by first | exact up_lo (fun j hj => hall j (by omega)) (Nat.le_refl _) | exact up_lo (fun j hj => rfl) (Nat.le_refl _)), (by first | exact up_ne (fun j hj => hall j (by omega)) | exact up_ne (fun j hj => rfl)), by rw [ht]; exact hP9, hD9⟩, hS.F ht⟩) hS.2.2 dX11_write_71
        · have c_5 : ((k : Nat) : Int) < ((wa : Nat) : Int) := zc_nle (nI_toInt b9_2) (nI_toInt b9_6) c_5
          refine lv_aload_n hx hb dX11_write_31 rfl (lv_at hl 1 rfl) ?_
          refine lv_iload_n hx hb dX11_write_32 rfl (lv_at hl 0 rfl) ?_
          refine lv_aload_n hx hb dX11_write_33 rfl (lv_at hl 2 rfl) ?_
          refine va_get (D := (dC, dI)) (ci := 9) (v := .ref (a 28)) (C := RX11) (T := TX11) (N := 55) hx hb hts inX11 hown hK hP 0 rfl rfl 28 (Nat.le_of_ble_eq_true rfl) (hts _ mw_1187) (fun _ h9 => h9) rfl dX11_write_34 ?_
          refine lv_iload_n hx hb dX11_write_37 rfl (lv_at hl 0 rfl) ?_
          have b9_9 : k < (4096 * cp) := by omega
          refine z_iald hx hb hK hP 1 0 rfl rfl (e := k) rfl b9_9 b9_3 dX11_write_38 ?_
          have b9_10 : k < (4096 * (2 * cp)) := by omega
          have b9_11 : zlt ((4096 * (2 * cp))) := show (4096 * (2 * cp)) < 2147483648 by omega
          refine z_iast hx hb hK hP hD hS 2 0 rfl rfl (e := k) (x := sh k) rfl b9_10 b9_11 dX11_write_39 (fun H locs hP hD hS => ?_)
          obtain ⟨hP, hD⟩ := zre (W2 := [_, _, (oa nb cI (4096 * (2 * cp)) (upd f1 k (sh k)))]) hP hD rfl
          refine lv_iinc (v := nI (k + 1)) (lv' := [(3, .int (nI (k + 1))), (2, .ref nb), (0, .ref k0), (1, .int v)]) hx hb dX11_write_40 hl (k := 0) rfl (nI_add k 1) (Nat.le_of_ble_eq_true rfl) rfl (fun ls hl => ?_)
          refine lv_goto (tgt := 23) hx hb dX11_write_43 rfl ?_
          exact ih_23 (k + 1) (upd f1 k (sh k)) H locs ls (by first | with_reducible assumption | omega) (by first | with_reducible assumption | omega) (up_sn hall rfl) hP hD hS (lv_sub hl [0, 1, 2, 3] rfl)
    exact hl_23 _ 0 (fun _ => 0) H [] ls (Nat.lt_succ_self _) (by first | with_reducible assumption | omega) (by intro j hj; omega) hP hD hS (lv_sub hl [0, 1, 2, 3] rfl)
set_option maxHeartbeats 4000000 in
set_option maxRecDepth 100000 in
theorem k_M_next (l : Launch) (dC : Nat → ClassId) (dI : Nat → Nat → Nat) (cI cZ cF : ClassId) (sz : Nat) (k0 : Nat) (a : Nat → Nat) (I0 : Nat → Int32) (J0 : Nat → Int64) (ra : Nat) (cp : Nat) (sh : Nat → Int32) (hra : I0 42 = nI ra) (hrc : ra < 4096 * cp) (hcm : cp ≤ 512) : zM l yX11_next cX11_next 1 (some .int) ({ frames := 0, cells := 0, slots := 0, locals := 0 } : Room) [.ref k0] (dC, dI) (zTy cI cZ cF) [(om k0 a I0 J0), (oa (a 28) cI (4096 * cp) sh)] sz (some (.int (sh ra))) (fun A t => zPD (dC, dI) classes A [(om k0 a (upd I0 42 (nI (ra + 1))) J0), (oa (a 28) cI (4096 * cp) sh)] t.heap) 0 0 := by
  refine zIn (own := "ScaleShopModel") (loc := [(0, .ref k0)]) rfl rfl rfl rfl (fun p e s m below meth c hx hb hr hts hown hlocks hml hnm9 A hA hS hP hD hK hXN Q9 hQ9 ls hl => ?_)
  refine lv_aload_n hx hb dX11_next_0 rfl (lv_at hl 0 rfl) ?_
  refine lv_dup hx hb dX11_next_1 rfl ?_
  refine va_get (D := (dC, dI)) (ci := 9) (v := .int (I0 42)) (C := RX11) (T := TX11) (N := 55) hx hb hts inX11 hown hK hP 0 rfl rfl 42 (Nat.le_of_ble_eq_true rfl) (hts _ mw_1201) (fun _ h9 => h9) rfl dX11_next_2 ?_
  refine zz_i (v := nI ra) (hra) ?_
  refine lv_iconst (v := 1) hx hb dX11_next_5 rfl ?_
  refine lv_iadd hx hb dX11_next_6 ?_
  refine zz_i (v := nI (ra + 1)) (nI_add ra 1) ?_
  refine va_put (D := (dC, dI)) (ci := 9) (v := .int (nI (ra + 1))) (ty := .int) (C := RX11) (T := TX11) (N := 55) hx hb hts inX11 tyX11 tyX11_ok nmX11 hown hK hP hD hS 0 rfl rfl 42 (by decide) (hts _ mw_1201) (fun _ h9 => h9) rfl (by decide +kernel) rfl rfl (Nat.le_of_ble_eq_true rfl) dX11_next_7 (fun H locs hP hD hS => ?_)
  obtain ⟨hP, hD⟩ := zre (W2 := [(om k0 a (upd I0 42 (nI (ra + 1))) J0), _]) hP hD rfl
  refine lv_aload_n hx hb dX11_next_10 rfl (lv_at hl 0 rfl) ?_
  refine va_get (D := (dC, dI)) (ci := 9) (v := .ref (a 28)) (C := RX11) (T := TX11) (N := 55) hx hb hts inX11 hown hK hP 0 rfl rfl 28 (Nat.le_of_ble_eq_true rfl) (hts _ mw_1187) (fun _ h9 => h9) rfl dX11_next_11 ?_
  refine lv_aload_n hx hb dX11_next_14 rfl (lv_at hl 0 rfl) ?_
  refine va_get (D := (dC, dI)) (ci := 9) (v := .int (nI (ra + 1))) (C := RX11) (T := TX11) (N := 55) hx hb hts inX11 hown hK hP 0 rfl rfl 42 (Nat.le_of_ble_eq_true rfl) (hts _ mw_1201) (fun _ h9 => h9) rfl dX11_next_15 ?_
  refine lv_iconst (v := 1) hx hb dX11_next_18 rfl ?_
  refine lv_isub hx hb dX11_next_19 ?_
  refine zz_i (v := nI ((ra + 1) - 1)) (pk_sub (a := ra + 1) (b := 1) (by omega)) ?_
  have b9_1 : zlt ((4096 * cp)) := show (4096 * cp) < 2147483648 by omega
  refine z_iald hx hb hK hP 1 0 rfl rfl (e := (ra + 1) - 1) rfl (by omega) b9_1 dX11_next_20 ?_
  refine zz_i (v := sh ra) (by first | rfl | (congr 1; omega)) ?_
  obtain ⟨hP9, hD9⟩ := zu_sub (wc := [_, _]) hP hD [true, true] rfl rfl
  rw [hQ9]
  exact W.iret (v := sh ra) hx hb hr (fun t ht hW => ⟨⟨rfl, by rw [ht]; exact hP9, hD9⟩, hS.F ht⟩) hS.2.2 dX11_next_21
end
