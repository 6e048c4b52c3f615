section
set_option maxHeartbeats 4000000 in
set_option maxRecDepth 100000 in
theorem k_M_isInside (l : Launch) (dC : Nat → ClassId) (dI : Nat → Nat → Nat) (cI cZ cF : ClassId) (sz : Nat) (k0 : Nat) (a : Nat → Nat) (I0 : Nat → Int32) (J0 : Nat → Int64) (f : Nat) (n : Nat) (kd : Nat → Int32) (mn : Nat → Int32) (cx : Nat → Int32) (cy : Nat → Int32) (S0 : Nat → Int32) (px : Int32) (py : Int32) (hf_f : f ≤ 200) (hm_f : mn f = nI n) (hn_f : 1 ≤ n ∧ n ≤ 40) (hp_f : pls n (cF40 cx f) (cF40 cy f)) (hpx : pl px) (hpy : pl py) : zM l yX11_isInside cX11_isInside 8 (some .boolean) ({ frames := 3, cells := 0, slots := 0, locals := 80 } : Room) [.ref k0, .int (nI f), .int px, .int py] (dC, dI) (zTy cI cZ cF) [(om k0 a I0 J0), (oa (a 1) cI 201 kd), (oa (a 11) cI 201 mn), (oa (a 12) cI 8040 cx), (oa (a 13) cI 8040 cy), (oa (a 32) cI 8 S0)] sz (some (.int (pI (¬ (∃ i, i < eO (kd f).toInt n ∧ eOn n (cF40 cx f) (cF40 cy f) i px.toInt py.toInt) ∧ par2 (eTg n (cF40 cx f) (cF40 cy f) px.toInt py.toInt) (eO (kd f).toInt n))))) (fun A t => ∃ (S1 : Nat → Int32), zPD (dC, dI) classes A [(om k0 a I0 J0), (oa (a 1) cI 201 kd), (oa (a 11) cI 201 mn), (oa (a 12) cI 8040 cx), (oa (a 13) cI 8040 cy), (oa (a 32) cI 8 S1)] t.heap) 0 0 := by
  refine zIn (own := "ScaleShopModel") (loc := [(0, .ref k0), (1, .int (nI f)), (2, .int px), (3, .int py)]) rfl rfl rfl rfl (fun p e s m below meth c hx hb hr hts hown hlocks hml hnm9 A hA hS hP hD hK hXN Q9 hQ9 ls hl => ?_)
  have hef := eO_le (k := (kd f).toInt) hn_f.1
  refine lv_aload_n hx hb dX11_isInside_0 rfl (lv_at hl 0 rfl) ?_
  refine lv_iload_n hx hb dX11_isInside_1 rfl (lv_at hl 1 rfl) ?_
  refine lv_iload_n hx hb dX11_isInside_2 rfl (lv_at hl 2 rfl) ?_
  refine lv_iload_n hx hb dX11_isInside_3 rfl (lv_at hl 3 rfl) ?_
  obtain ⟨hPc, hDc, hFc⟩ := zo_sub (wc := [_, _, _, _, _, _]) hP hD hS hA [0, 1, 2, 3, 4, 5] (by decide +kernel) rfl
  refine zcall (st1 := [.int (pI (∃ i, i < eO (kd f).toInt n ∧ eOn n (cF40 cx f) (cF40 cy f) i px.toInt py.toInt))]) (va_runV (As := [.int (nI f), .int px, .int py]) (rest := []) ⟨hx, hb, hml, hown, hts⟩ (k_M_isOnSet l dC dI cI cZ cF s.heap.size k0 a I0 J0 f n kd mn cx cy S0 px py (by first | with_reducible assumption | omega) (by first | with_reducible assumption | assumption) (by first | with_reducible assumption | omega) (by first | with_reducible assumption | assumption) (by first | with_reducible assumption | assumption) (by first | with_reducible assumption | assumption)) (csV_169 hts rfl rfl ⟨Nat.le_of_ble_eq_true rfl, Nat.le_of_ble_eq_true rfl⟩) (zPV2 (q0 := 0) (ci := 9) hPc hDc hK hXN rfl rfl) rfl rfl hl.1 rfl (lv_room (Nat.le_of_ble_eq_true rfl)) dX11_isInside_4 ⟨Nat.le_of_ble_eq_true rfl, Nat.le_of_ble_eq_true rfl⟩) hS hFc hFc rfl (fun t H locs ht hB hk1 hS => ?_)
  obtain ⟨q_1, hP1, hD1⟩ := hB
  rw [ht] at hP1
  obtain ⟨hP, hD⟩ := zn (W2 := [_, _, _, _, _, (oa (a 32) cI 8 q_1)]) hP hD hk1 hFc hP1 hD1 [0, 1, 2, 3, 4, 5] [] [false, false, false, false, false, false] [0, 1, 2, 3, 4, 5] (by decide +kernel) rfl rfl rfl rfl rfl
  clear hk1 hPc hDc hFc hP1 hD1 ht
  refine lv_if_eq (tgt := 12) hx hb dX11_isInside_7 rfl (fun c_2 => ?_) (fun c_2 => ?_)
  · have c_2 : ¬ (∃ i, i < eO (kd f).toInt n ∧ eOn n (cF40 cx f) (cF40 cy f) i px.toInt py.toInt) := zp_0 c_2
    refine lv_iconst (v := 0) hx hb dX11_isInside_12 rfl ?_
    refine lv_istore (lv' := [(4, .int 0), (0, .ref k0), (1, .int (nI f)), (2, .int px), (3, .int py)]) hx hb dX11_isInside_13 hl (Nat.le_of_ble_eq_true rfl) rfl (fun ls hl => ?_)
    refine lv_iconst (v := 0) hx hb dX11_isInside_15 rfl ?_
    refine lv_istore (lv' := [(5, .int 0), (4, .int 0), (0, .ref k0), (1, .int (nI f)), (2, .int px), (3, .int py)]) hx hb dX11_isInside_16 hl (Nat.le_of_ble_eq_true rfl) rfl (fun ls hl => ?_)
    have hl_18 : ∀ (n9 : Nat) (i : Nat) (S1 : Nat → Int32) (H : Heap) (locs : List Loc) (ls : Array Slot), eO (kd f).toInt n - i < n9 → (i ≤ eO (kd f).toInt n) → va_P (dC, dI) classes [(om k0 a I0 J0), (oa (a 1) cI 201 kd), (oa (a 11) cI 201 mn), (oa (a 12) cI 8040 cx), (oa (a 13) cI 8040 cy), (oa (a 32) cI 8 S1)] H → va_D A [(om k0 a I0 J0), (oa (a 1) cI 201 kd), (oa (a 11) cI 201 mn), (oa (a 12) cI 8040 cx), (oa (a 13) cI 8040 cy), (oa (a 32) cI 8 S1)] → va_S A s.heap H locs → lv_has ls 8 [(5, .int (nI i)), (4, .int (pI (par2 (eTg n (cF40 cx f) (cF40 cy f) px.toInt py.toInt) i))), (0, .ref k0), (1, .int (nI f)), (2, .int px), (3, .int py)] → W p l e ({ frames := 3, cells := 0, slots := 0, locals := 80 } : Room) s m ([.ref k0, .int (nI f), .int px, .int py] : List Value).toArray below meth c H locs 0 0 Q9 (F0 m 18 ls []) := by
      intro n9
      induction n9 with
      | zero => intro i S1 H locs ls hm; exact absurd hm (Nat.not_lt_zero _)
      | succ n9 ih_18 =>
        intro i S1 H locs ls hm hi hP hD hS hl
        refine lv_iload hx hb dX11_isInside_18 (lv_at hl 0 rfl) ?_
        refine lv_aload_n hx hb dX11_isInside_20 rfl (lv_at hl 2 rfl) ?_
        refine lv_iload_n hx hb dX11_isInside_21 rfl (lv_at hl 3 rfl) ?_
        obtain ⟨hPc, hDc, hFc, hI1⟩ := zi_sub (wc := [_, _, _]) hP hD hS hA [0, 1, 2] rfl rfl
        refine zcall (st1 := [.int (nI (eO (kd f).toInt n)), .int (nI i)]) (va_runV (As := [.int (nI f)]) (rest := [.int (nI i)]) ⟨hx, hb, hml, hown, hts⟩ (k_M_edgesOf l dC dI cI cZ cF H.size k0 a I0 J0 f n kd mn (by first | with_reducible assumption | omega) (by first | with_reducible assumption | assumption) (by first | with_reducible assumption | omega)) (csV_166 hts rfl rfl ⟨Nat.le_of_ble_eq_true rfl, Nat.le_of_ble_eq_true rfl⟩) (zPV2 (q0 := 0) (ci := 9) hPc hDc hK hXN rfl rfl) rfl rfl hl.1 rfl (lv_room (Nat.le_of_ble_eq_true rfl)) dX11_isInside_22 ⟨Nat.le_of_ble_eq_true rfl, Nat.le_of_ble_eq_true rfl⟩) hS hFc hFc rfl (fun t H locs ht hB hk1 hS => ?_)
        obtain ⟨hP1, hD1⟩ := hB
        rw [ht] at hP1
        replace hP := z0 hP hD hk1 hP1 hI1
        clear hk1 hPc hDc hFc hP1 hD1 ht hI1
        have b9_4 : zlt (i) := show i < 2147483648 by omega
        have b9_5 : zlt ((eO (kd f).toInt n)) := show (eO (kd f).toInt n) < 2147483648 by omega
        refine lv_icmp_ge (tgt := 159) hx hb dX11_isInside_25 rfl (fun c_3 => ?_) (fun c_3 => ?_)
        · have c_3 : ((eO (kd f).toInt n : Nat) : Int) ≤ ((i : Nat) : Int) := zc_le (nI_toInt b9_5) (nI_toInt b9_4) c_3
          refine lv_iload hx hb dX11_isInside_159 (lv_at hl 1 rfl) ?_
          obtain ⟨hP9, hD9⟩ := zu_sub (wc := [_, _, _, _, _, _]) hP hD [true, true, true, true, true, true] rfl rfl
          rw [hQ9]
          exact W.zret (ty := .boolean) (v := pI (par2 (eTg n (cF40 cx f) (cF40 cy f) px.toInt py.toInt) i)) hx hb hr (zp_nar _) (fun t ht hW => ⟨⟨congrArg (fun z => Outcome.returned (some (Value.int z))) (show (pI (par2 (eTg n (cF40 cx f) (cF40 cy f) px.toInt py.toInt) i) : Int32) = pI (¬ (∃ i, i < eO (kd f).toInt n ∧ eOn n (cF40 cx f) (cF40 cy f) i px.toInt py.toInt) ∧ par2 (eTg n (cF40 cx f) (cF40 cy f) px.toInt py.toInt) (eO (kd f).toInt n)) from zp_iff ⟨fun h => ⟨by assumption, (by rw [show eO (kd f).toInt n = i by omega]; exact h)⟩, fun h => (by rw [show i = eO (kd f).toInt n by omega]; exact h.2)⟩), S1, by rw [ht]; exact hP9, hD9⟩, hS.F ht⟩) hS.2.2 dX11_isInside_161
        · have c_3 : ((i : Nat) : Int) < ((eO (kd f).toInt n : Nat) : Int) := zc_nle (nI_toInt b9_5) (nI_toInt b9_4) c_3
          have hin9 : i < n := (by omega)
          have hnx := nxt_lt (n := n) (i := i) (by omega)
          refine lv_aload_n hx hb dX11_isInside_28 rfl (lv_at hl 2 rfl) ?_
          refine lv_iload_n hx hb dX11_isInside_29 rfl (lv_at hl 3 rfl) ?_
          refine lv_iload hx hb dX11_isInside_30 (lv_at hl 0 rfl) ?_
          refine lv_iconst (v := 0) hx hb dX11_isInside_32 rfl ?_
          obtain ⟨hPc, hDc, hFc⟩ := zo_sub (wc := [_, _, _, _, _]) hP hD hS hA [0, 2, 3, 4, 5] (by decide +kernel) rfl
          refine zcall (st1 := []) (va_runV (As := [.int (nI f), .int (nI i), .int 0]) (rest := []) ⟨hx, hb, hml, hown, hts⟩ (k_M_edge l dC dI cI cZ cF H.size k0 a I0 J0 f n i 0 mn cx cy S1 (by first | with_reducible assumption | omega) (by first | with_reducible assumption | assumption) (by first | with_reducible assumption | omega) (by first | with_reducible assumption | omega) (by first | with_reducible assumption | omega)) (csV_167 hts rfl rfl ⟨Nat.le_of_ble_eq_true rfl, Nat.le_of_ble_eq_true rfl⟩) (zPV2 (q0 := 0) (ci := 9) hPc hDc hK hXN rfl rfl) rfl rfl hl.1 rfl (lv_room (Nat.le_of_ble_eq_true rfl)) dX11_isInside_33 ⟨Nat.le_of_ble_eq_true rfl, Nat.le_of_ble_eq_true rfl⟩) hS hFc hFc rfl (fun t H locs ht hB hk1 hS => ?_)
          obtain ⟨S2, t0, t1, t2, t3, tr, hP1, hD1⟩ := hB
          rw [ht] at hP1
          obtain ⟨hP, hD⟩ := zn (W2 := [_, _, _, _, _, (oa (a 32) cI 8 S2)]) hP hD hk1 hFc hP1 hD1 [0, 2, 3, 4, 5] [false, true] [false, true, false, false, false, false] [0, 2, 3, 4, 5] (by decide +kernel) rfl rfl rfl rfl rfl
          clear hk1 hPc hDc hFc hP1 hD1 ht
          have v0 : S2 0 = cF40 cx f i := t0
          have v1 : S2 1 = cF40 cy f i := t1
          have v2 : S2 2 = cF40 cx f (nxt n i) := t2
          have v3 : S2 3 = cF40 cy f (nxt n i) := t3
          refine lv_aload_n hx hb dX11_isInside_36 rfl (lv_at hl 2 rfl) ?_
          refine va_get (D := (dC, dI)) (ci := 9) (v := .ref (a 32)) (C := RX11) (T := TX11) (N := 55) hx hb hts inX11 hown hK hP 0 rfl rfl 32 (Nat.le_of_ble_eq_true rfl) (hts _ mw_1191) (fun _ h9 => h9) rfl dX11_isInside_37 ?_
          refine lv_iconst (v := 1) hx hb dX11_isInside_40 rfl ?_
          refine z_iald hx hb hK hP 5 0 rfl rfl (e := 1) rfl (Nat.le_of_ble_eq_true rfl) (Nat.le_of_ble_eq_true rfl) dX11_isInside_41 ?_
          refine zz_i (v := cF40 cy f i) (v1) ?_
          refine lv_iload_n hx hb dX11_isInside_42 rfl (lv_at hl 5 rfl) ?_
          refine lv_icmp_le (tgt := 50) hx hb dX11_isInside_43 rfl (fun c_6 => ?_) (fun c_6 => ?_)
          · have c_6 : (cF40 cy f i).toInt ≤ py.toInt := zc_le rfl rfl c_6
            refine lv_iconst (v := 0) hx hb dX11_isInside_50 rfl ?_
            refine lv_aload_n hx hb dX11_isInside_51 rfl (lv_at hl 2 rfl) ?_
            refine va_get (D := (dC, dI)) (ci := 9) (v := .ref (a 32)) (C := RX11) (T := TX11) (N := 55) hx hb hts inX11 hown hK hP 0 rfl rfl 32 (Nat.le_of_ble_eq_true rfl) (hts _ mw_1191) (fun _ h9 => h9) rfl dX11_isInside_52 ?_
            refine lv_iconst (v := 3) hx hb dX11_isInside_55 rfl ?_
            refine z_iald hx hb hK hP 5 0 rfl rfl (e := 3) rfl (Nat.le_of_ble_eq_true rfl) (Nat.le_of_ble_eq_true rfl) dX11_isInside_56 ?_
            refine zz_i (v := cF40 cy f (nxt n i)) (v3) ?_
            refine lv_iload_n hx hb dX11_isInside_57 rfl (lv_at hl 5 rfl) ?_
            refine lv_icmp_le (tgt := 65) hx hb dX11_isInside_58 rfl (fun c_7 => ?_) (fun c_7 => ?_)
            · have c_7 : (cF40 cy f (nxt n i)).toInt ≤ py.toInt := zc_le rfl rfl c_7
              refine lv_iconst (v := 0) hx hb dX11_isInside_65 rfl ?_
              refine lv_icmp_ne (tgt := 72) hx hb dX11_isInside_66 rfl (fun c_8 => ?_) (fun c_8 => ?_)
              · exact absurd (by decide) c_8
              · refine lv_goto (tgt := 153) hx hb dX11_isInside_69 rfl ?_
                refine lv_iinc (v := nI (i + 1)) (lv' := [(5, .int (nI (i + 1))), (4, .int (pI (par2 (eTg n (cF40 cx f) (cF40 cy f) px.toInt py.toInt) i))), (0, .ref k0), (1, .int (nI f)), (2, .int px), (3, .int py)]) hx hb dX11_isInside_153 hl (k := 0) rfl (nI_add i 1) (Nat.le_of_ble_eq_true rfl) rfl (fun ls hl => ?_)
                refine lv_goto (tgt := 18) hx hb dX11_isInside_156 rfl ?_
                have hl9 := lv_sub hl [0, 1, 2, 3, 4, 5] rfl
                have e9_4 : pI (par2 (eTg n (cF40 cx f) (cF40 cy f) px.toInt py.toInt) (i + 1)) = (pI (par2 (eTg n (cF40 cx f) (cF40 cy f) px.toInt py.toInt) i) : Int32) := by first | exact zp_iff (par2_n (by unfold eTg; omega)) | exact zp_t ((par2_y (P := (eTg n (cF40 cx f) (cF40 cy f) px.toInt py.toInt)) (i := i) (by unfold eTg; omega)).mpr (by first | with_reducible assumption | assumption)) | exact zp_f (fun q => (par2_y (P := (eTg n (cF40 cx f) (cF40 cy f) px.toInt py.toInt)) (i := i) (by unfold eTg; omega)).mp q (by first | with_reducible assumption | assumption))
                have hl9 : lv_has ls 8 [(5, .int (nI (i + 1))), (4, .int (pI (par2 (eTg n (cF40 cx f) (cF40 cy f) px.toInt py.toInt) (i + 1)))), (0, .ref k0), (1, .int (nI f)), (2, .int px), (3, .int py)] := by rw [e9_4]; exact hl9
                exact ih_18 (i + 1) S2 H locs ls (by first | with_reducible assumption | omega) (by first | with_reducible assumption | omega) hP hD hS hl9
            · have c_7 : py.toInt < (cF40 cy f (nxt n i)).toInt := zc_nle rfl rfl c_7
              refine lv_iconst (v := 1) hx hb dX11_isInside_61 rfl ?_
              refine lv_goto (tgt := 66) hx hb dX11_isInside_62 rfl ?_
              refine lv_icmp_ne (tgt := 72) hx hb dX11_isInside_66 rfl (fun c_9 => ?_) (fun c_9 => ?_)
              · refine lv_aload_n hx hb dX11_isInside_72 rfl (lv_at hl 2 rfl) ?_
                refine va_get (D := (dC, dI)) (ci := 9) (v := .ref (a 32)) (C := RX11) (T := TX11) (N := 55) hx hb hts inX11 hown hK hP 0 rfl rfl 32 (Nat.le_of_ble_eq_true rfl) (hts _ mw_1191) (fun _ h9 => h9) rfl dX11_isInside_73 ?_
                refine lv_iconst (v := 0) hx hb dX11_isInside_76 rfl ?_
                refine z_iald hx hb hK hP 5 0 rfl rfl (e := 0) rfl (Nat.le_of_ble_eq_true rfl) (Nat.le_of_ble_eq_true rfl) dX11_isInside_77 ?_
                refine zz_i (v := cF40 cx f i) (v0) ?_
                refine lv_i2l (v := (cF40 cx f i).toInt64) hx hb dX11_isInside_78 (rfl) ?_
                refine lv_aload_n hx hb dX11_isInside_79 rfl (lv_at hl 2 rfl) ?_
                refine va_get (D := (dC, dI)) (ci := 9) (v := .ref (a 32)) (C := RX11) (T := TX11) (N := 55) hx hb hts inX11 hown hK hP 0 rfl rfl 32 (Nat.le_of_ble_eq_true rfl) (hts _ mw_1191) (fun _ h9 => h9) rfl dX11_isInside_80 ?_
                refine lv_iconst (v := 1) hx hb dX11_isInside_83 rfl ?_
                refine z_iald hx hb hK hP 5 0 rfl rfl (e := 1) rfl (Nat.le_of_ble_eq_true rfl) (Nat.le_of_ble_eq_true rfl) dX11_isInside_84 ?_
                refine zz_i (v := cF40 cy f i) (v1) ?_
                refine lv_i2l (v := (cF40 cy f i).toInt64) hx hb dX11_isInside_85 (rfl) ?_
                refine lv_aload_n hx hb dX11_isInside_86 rfl (lv_at hl 2 rfl) ?_
                refine va_get (D := (dC, dI)) (ci := 9) (v := .ref (a 32)) (C := RX11) (T := TX11) (N := 55) hx hb hts inX11 hown hK hP 0 rfl rfl 32 (Nat.le_of_ble_eq_true rfl) (hts _ mw_1191) (fun _ h9 => h9) rfl dX11_isInside_87 ?_
                refine lv_iconst (v := 2) hx hb dX11_isInside_90 rfl ?_
                refine z_iald hx hb hK hP 5 0 rfl rfl (e := 2) rfl (Nat.le_of_ble_eq_true rfl) (Nat.le_of_ble_eq_true rfl) dX11_isInside_91 ?_
                refine zz_i (v := cF40 cx f (nxt n i)) (v2) ?_
                refine lv_i2l (v := (cF40 cx f (nxt n i)).toInt64) hx hb dX11_isInside_92 (rfl) ?_
                refine lv_aload_n hx hb dX11_isInside_93 rfl (lv_at hl 2 rfl) ?_
                refine va_get (D := (dC, dI)) (ci := 9) (v := .ref (a 32)) (C := RX11) (T := TX11) (N := 55) hx hb hts inX11 hown hK hP 0 rfl rfl 32 (Nat.le_of_ble_eq_true rfl) (hts _ mw_1191) (fun _ h9 => h9) rfl dX11_isInside_94 ?_
                refine lv_iconst (v := 3) hx hb dX11_isInside_97 rfl ?_
                refine z_iald hx hb hK hP 5 0 rfl rfl (e := 3) rfl (Nat.le_of_ble_eq_true rfl) (Nat.le_of_ble_eq_true rfl) dX11_isInside_98 ?_
                refine zz_i (v := cF40 cy f (nxt n i)) (v3) ?_
                refine lv_i2l (v := (cF40 cy f (nxt n i)).toInt64) hx hb dX11_isInside_99 (rfl) ?_
                refine lv_iload_n hx hb dX11_isInside_100 rfl (lv_at hl 4 rfl) ?_
                refine lv_i2l (v := px.toInt64) hx hb dX11_isInside_101 (rfl) ?_
                refine lv_iload_n hx hb dX11_isInside_102 rfl (lv_at hl 5 rfl) ?_
                refine lv_i2l (v := py.toInt64) hx hb dX11_isInside_103 (rfl) ?_
                have hB1 := crBp (hp_f i hin9).1 (hp_f i hin9).2 (hp_f _ hnx).1 (hp_f _ hnx).2 hpx hpy
                have hB1 : -2000000 ≤ eCr n (cF40 cx f) (cF40 cy f) i px.toInt py.toInt ∧ eCr n (cF40 cx f) (cF40 cy f) i px.toInt py.toInt ≤ 2000000 := hB1
                obtain ⟨hPc, hDc, hFc, hI1⟩ := zi_sub (wc := []) hP hD hS hA [] rfl rfl
                refine zcall (st1 := [.long (jI (cr (cF40 cx f i).toInt (cF40 cy f i).toInt (cF40 cx f (nxt n i)).toInt (cF40 cy f (nxt n i)).toInt px.toInt py.toInt))]) (va_runS (As := [.long ((cF40 cx f i).toInt64), .long ((cF40 cy f i).toInt64), .long ((cF40 cx f (nxt n i)).toInt64), .long ((cF40 cy f (nxt n i)).toInt64), .long px.toInt64, .long py.toInt64]) (rest := []) ⟨hx, hb, hml, hown, hts⟩ (k_M_cross l dC dI cI cZ cF H.size (cF40 cx f i) (cF40 cy f i) (cF40 cx f (nxt n i)) (cF40 cy f (nxt n i)) px py ((hp_f i hin9).1) ((hp_f i hin9).2) ((hp_f _ hnx).1) ((hp_f _ hnx).2) (hpx) (hpy)) (csS_162 hts rfl rfl ⟨Nat.le_of_ble_eq_true rfl, Nat.le_of_ble_eq_true rfl⟩) (zPS2 hPc hDc hK hXN) rfl rfl hl.1 rfl (lv_room (Nat.le_of_ble_eq_true rfl)) dX11_isInside_104 ⟨Nat.le_of_ble_eq_true rfl, Nat.le_of_ble_eq_true rfl⟩) hS hFc hFc rfl (fun t H locs ht hB hk1 hS => ?_)
                obtain ⟨hP1, hD1⟩ := hB
                rw [ht] at hP1
                replace hP := z0 hP hD hk1 hP1 hI1
                clear hk1 hPc hDc hFc hP1 hD1 ht hI1
                refine zz_l (v := jI (eCr n (cF40 cx f) (cF40 cy f) i px.toInt py.toInt)) (rfl) ?_
                refine lv_lstore (lv' := [(6, .long (jI (eCr n (cF40 cx f) (cF40 cy f) i px.toInt py.toInt))), (5, .int (nI i)), (4, .int (pI (par2 (eTg n (cF40 cx f) (cF40 cy f) px.toInt py.toInt) i))), (0, .ref k0), (1, .int (nI f)), (2, .int px), (3, .int py)]) hx hb dX11_isInside_107 hl (Nat.le_of_ble_eq_true rfl) rfl (fun ls hl => ?_)
                refine lv_aload_n hx hb dX11_isInside_109 rfl (lv_at hl 3 rfl) ?_
                refine va_get (D := (dC, dI)) (ci := 9) (v := .ref (a 32)) (C := RX11) (T := TX11) (N := 55) hx hb hts inX11 hown hK hP 0 rfl rfl 32 (Nat.le_of_ble_eq_true rfl) (hts _ mw_1191) (fun _ h9 => h9) rfl dX11_isInside_110 ?_
                refine lv_iconst (v := 3) hx hb dX11_isInside_113 rfl ?_
                refine z_iald hx hb hK hP 5 0 rfl rfl (e := 3) rfl (Nat.le_of_ble_eq_true rfl) (Nat.le_of_ble_eq_true rfl) dX11_isInside_114 ?_
                refine zz_i (v := cF40 cy f (nxt n i)) (v3) ?_
                refine lv_aload_n hx hb dX11_isInside_115 rfl (lv_at hl 3 rfl) ?_
                refine va_get (D := (dC, dI)) (ci := 9) (v := .ref (a 32)) (C := RX11) (T := TX11) (N := 55) hx hb hts inX11 hown hK hP 0 rfl rfl 32 (Nat.le_of_ble_eq_true rfl) (hts _ mw_1191) (fun _ h9 => h9) rfl dX11_isInside_116 ?_
                refine lv_iconst (v := 1) hx hb dX11_isInside_119 rfl ?_
                refine z_iald hx hb hK hP 5 0 rfl rfl (e := 1) rfl (Nat.le_of_ble_eq_true rfl) (Nat.le_of_ble_eq_true rfl) dX11_isInside_120 ?_
                refine zz_i (v := cF40 cy f i) (v1) ?_
                refine lv_icmp_le (tgt := 134) hx hb dX11_isInside_121 rfl (fun c_10 => ?_) (fun c_10 => ?_)
                · have c_10 : (cF40 cy f (nxt n i)).toInt ≤ (cF40 cy f i).toInt := zc_le rfl rfl c_10
                  refine lv_lload hx hb dX11_isInside_134 (lv_at hl 0 rfl) ?_
                  refine lv_lconst (v := 0) hx hb dX11_isInside_136 rfl ?_
                  refine W.lcmp hx hb dX11_isInside_137 ?_
                  refine lv_if_ge (tgt := 153) hx hb dX11_isInside_138 rfl (fun c_11 => ?_) (fun c_11 => ?_)
                  · have c_11 : 0 ≤ (eCr n (cF40 cx f) (cF40 cy f) i px.toInt py.toInt) := zl_ge (jI_toInt (by omega)) rfl c_11
                    refine lv_iinc (v := nI (i + 1)) (lv' := [(5, .int (nI (i + 1))), (6, .long (jI (eCr n (cF40 cx f) (cF40 cy f) i px.toInt py.toInt))), (4, .int (pI (par2 (eTg n (cF40 cx f) (cF40 cy f) px.toInt py.toInt) i))), (0, .ref k0), (1, .int (nI f)), (2, .int px), (3, .int py)]) hx hb dX11_isInside_153 hl (k := 1) rfl (nI_add i 1) (Nat.le_of_ble_eq_true rfl) rfl (fun ls hl => ?_)
                    refine lv_goto (tgt := 18) hx hb dX11_isInside_156 rfl ?_
                    have hl9 := lv_sub hl [0, 2, 3, 4, 5, 6] rfl
                    have e9_4 : pI (par2 (eTg n (cF40 cx f) (cF40 cy f) px.toInt py.toInt) (i + 1)) = (pI (par2 (eTg n (cF40 cx f) (cF40 cy f) px.toInt py.toInt) i) : Int32) := by first | exact zp_iff (par2_n (by unfold eTg; omega)) | exact zp_t ((par2_y (P := (eTg n (cF40 cx f) (cF40 cy f) px.toInt py.toInt)) (i := i) (by unfold eTg; omega)).mpr (by first | with_reducible assumption | assumption)) | exact zp_f (fun q => (par2_y (P := (eTg n (cF40 cx f) (cF40 cy f) px.toInt py.toInt)) (i := i) (by unfold eTg; omega)).mp q (by first | with_reducible assumption | assumption))
                    have hl9 : lv_has ls 8 [(5, .int (nI (i + 1))), (4, .int (pI (par2 (eTg n (cF40 cx f) (cF40 cy f) px.toInt py.toInt) (i + 1)))), (0, .ref k0), (1, .int (nI f)), (2, .int px), (3, .int py)] := by rw [e9_4]; exact hl9
                    exact ih_18 (i + 1) S2 H locs ls (by first | with_reducible assumption | omega) (by first | with_reducible assumption | omega) hP hD hS hl9
                  · have c_11 : (eCr n (cF40 cx f) (cF40 cy f) i px.toInt py.toInt) < 0 := zl_nge (jI_toInt (by omega)) rfl c_11
                    refine lv_iload hx hb dX11_isInside_141 (lv_at hl 2 rfl) ?_
                    refine lv_if_ne (tgt := 150) hx hb dX11_isInside_143 rfl (fun c_12 => ?_) (fun c_12 => ?_)
                    · have c_12 : par2 (eTg n (cF40 cx f) (cF40 cy f) px.toInt py.toInt) i := zp_1 c_12
                      refine lv_iconst (v := 0) hx hb dX11_isInside_150 rfl ?_
                      refine lv_istore (lv' := [(4, .int 0), (6, .long (jI (eCr n (cF40 cx f) (cF40 cy f) i px.toInt py.toInt))), (5, .int (nI i)), (0, .ref k0), (1, .int (nI f)), (2, .int px), (3, .int py)]) hx hb dX11_isInside_151 hl (Nat.le_of_ble_eq_true rfl) rfl (fun ls hl => ?_)
                      refine lv_iinc (v := nI (i + 1)) (lv' := [(5, .int (nI (i + 1))), (4, .int 0), (6, .long (jI (eCr n (cF40 cx f) (cF40 cy f) i px.toInt py.toInt))), (0, .ref k0), (1, .int (nI f)), (2, .int px), (3, .int py)]) hx hb dX11_isInside_153 hl (k := 2) rfl (nI_add i 1) (Nat.le_of_ble_eq_true rfl) rfl (fun ls hl => ?_)
                      refine lv_goto (tgt := 18) hx hb dX11_isInside_156 rfl ?_
                      have hl9 := lv_sub hl [0, 1, 3, 4, 5, 6] rfl
                      have e9_4 : pI (par2 (eTg n (cF40 cx f) (cF40 cy f) px.toInt py.toInt) (i + 1)) = (0 : Int32) := by first | exact zp_iff (par2_n (by unfold eTg; omega)) | exact zp_t ((par2_y (P := (eTg n (cF40 cx f) (cF40 cy f) px.toInt py.toInt)) (i := i) (by unfold eTg; omega)).mpr (by first | with_reducible assumption | assumption)) | exact zp_f (fun q => (par2_y (P := (eTg n (cF40 cx f) (cF40 cy f) px.toInt py.toInt)) (i := i) (by unfold eTg; omega)).mp q (by first | with_reducible assumption | assumption))
                      have hl9 : lv_has ls 8 [(5, .int (nI (i + 1))), (4, .int (pI (par2 (eTg n (cF40 cx f) (cF40 cy f) px.toInt py.toInt) (i + 1)))), (0, .ref k0), (1, .int (nI f)), (2, .int px), (3, .int py)] := by rw [e9_4]; exact hl9
                      exact ih_18 (i + 1) S2 H locs ls (by first | with_reducible assumption | omega) (by first | with_reducible assumption | omega) hP hD hS hl9
                    · have c_12 : ¬ (par2 (eTg n (cF40 cx f) (cF40 cy f) px.toInt py.toInt) i) := zp_0 c_12
                      refine lv_iconst (v := 1) hx hb dX11_isInside_146 rfl ?_
                      refine lv_goto (tgt := 151) hx hb dX11_isInside_147 rfl ?_
                      refine lv_istore (lv' := [(4, .int 1), (6, .long (jI (eCr n (cF40 cx f) (cF40 cy f) i px.toInt py.toInt))), (5, .int (nI i)), (0, .ref k0), (1, .int (nI f)), (2, .int px), (3, .int py)]) hx hb dX11_isInside_151 hl (Nat.le_of_ble_eq_true rfl) rfl (fun ls hl => ?_)
                      refine lv_iinc (v := nI (i + 1)) (lv' := [(5, .int (nI (i + 1))), (4, .int 1), (6, .long (jI (eCr n (cF40 cx f) (cF40 cy f) i px.toInt py.toInt))), (0, .ref k0), (1, .int (nI f)), (2, .int px), (3, .int py)]) hx hb dX11_isInside_153 hl (k := 2) rfl (nI_add i 1) (Nat.le_of_ble_eq_true rfl) rfl (fun ls hl => ?_)
                      refine lv_goto (tgt := 18) hx hb dX11_isInside_156 rfl ?_
                      have hl9 := lv_sub hl [0, 1, 3, 4, 5, 6] rfl
                      have e9_4 : pI (par2 (eTg n (cF40 cx f) (cF40 cy f) px.toInt py.toInt) (i + 1)) = (1 : Int32) := by first | exact zp_iff (par2_n (by unfold eTg; omega)) | exact zp_t ((par2_y (P := (eTg n (cF40 cx f) (cF40 cy f) px.toInt py.toInt)) (i := i) (by unfold eTg; omega)).mpr (by first | with_reducible assumption | assumption)) | exact zp_f (fun q => (par2_y (P := (eTg n (cF40 cx f) (cF40 cy f) px.toInt py.toInt)) (i := i) (by unfold eTg; omega)).mp q (by first | with_reducible assumption | assumption))
                      have hl9 : lv_has ls 8 [(5, .int (nI (i + 1))), (4, .int (pI (par2 (eTg n (cF40 cx f) (cF40 cy f) px.toInt py.toInt) (i + 1)))), (0, .ref k0), (1, .int (nI f)), (2, .int px), (3, .int py)] := by rw [e9_4]; exact hl9
                      exact ih_18 (i + 1) S2 H locs ls (by first | with_reducible assumption | omega) (by first | with_reducible assumption | omega) hP hD hS hl9
                · have c_10 : (cF40 cy f i).toInt < (cF40 cy f (nxt n i)).toInt := zc_nle rfl rfl c_10
                  refine lv_lload hx hb dX11_isInside_124 (lv_at hl 0 rfl) ?_
                  refine lv_lconst (v := 0) hx hb dX11_isInside_126 rfl ?_
                  refine W.lcmp hx hb dX11_isInside_127 ?_
                  refine lv_if_le (tgt := 153) hx hb dX11_isInside_128 rfl (fun c_13 => ?_) (fun c_13 => ?_)
                  · have c_13 : (eCr n (cF40 cx f) (cF40 cy f) i px.toInt py.toInt) ≤ 0 := zl_le (jI_toInt (by omega)) rfl c_13
                    refine lv_iinc (v := nI (i + 1)) (lv' := [(5, .int (nI (i + 1))), (6, .long (jI (eCr n (cF40 cx f) (cF40 cy f) i px.toInt py.toInt))), (4, .int (pI (par2 (eTg n (cF40 cx f) (cF40 cy f) px.toInt py.toInt) i))), (0, .ref k0), (1, .int (nI f)), (2, .int px), (3, .int py)]) hx hb dX11_isInside_153 hl (k := 1) rfl (nI_add i 1) (Nat.le_of_ble_eq_true rfl) rfl (fun ls hl => ?_)
                    refine lv_goto (tgt := 18) hx hb dX11_isInside_156 rfl ?_
                    have hl9 := lv_sub hl [0, 2, 3, 4, 5, 6] rfl
                    have e9_4 : pI (par2 (eTg n (cF40 cx f) (cF40 cy f) px.toInt py.toInt) (i + 1)) = (pI (par2 (eTg n (cF40 cx f) (cF40 cy f) px.toInt py.toInt) i) : Int32) := by first | exact zp_iff (par2_n (by unfold eTg; omega)) | exact zp_t ((par2_y (P := (eTg n (cF40 cx f) (cF40 cy f) px.toInt py.toInt)) (i := i) (by unfold eTg; omega)).mpr (by first | with_reducible assumption | assumption)) | exact zp_f (fun q => (par2_y (P := (eTg n (cF40 cx f) (cF40 cy f) px.toInt py.toInt)) (i := i) (by unfold eTg; omega)).mp q (by first | with_reducible assumption | assumption))
                    have hl9 : lv_has ls 8 [(5, .int (nI (i + 1))), (4, .int (pI (par2 (eTg n (cF40 cx f) (cF40 cy f) px.toInt py.toInt) (i + 1)))), (0, .ref k0), (1, .int (nI f)), (2, .int px), (3, .int py)] := by rw [e9_4]; exact hl9
                    exact ih_18 (i + 1) S2 H locs ls (by first | with_reducible assumption | omega) (by first | with_reducible assumption | omega) hP hD hS hl9
                  · have c_13 : 0 < (eCr n (cF40 cx f) (cF40 cy f) i px.toInt py.toInt) := zl_nle (jI_toInt (by omega)) rfl c_13
                    refine lv_goto (tgt := 141) hx hb dX11_isInside_131 rfl ?_
                    refine lv_iload hx hb dX11_isInside_141 (lv_at hl 2 rfl) ?_
                    refine lv_if_ne (tgt := 150) hx hb dX11_isInside_143 rfl (fun c_14 => ?_) (fun c_14 => ?_)
                    · have c_14 : par2 (eTg n (cF40 cx f) (cF40 cy f) px.toInt py.toInt) i := zp_1 c_14
                      refine lv_iconst (v := 0) hx hb dX11_isInside_150 rfl ?_
                      refine lv_istore (lv' := [(4, .int 0), (6, .long (jI (eCr n (cF40 cx f) (cF40 cy f) i px.toInt py.toInt))), (5, .int (nI i)), (0, .ref k0), (1, .int (nI f)), (2, .int px), (3, .int py)]) hx hb dX11_isInside_151 hl (Nat.le_of_ble_eq_true rfl) rfl (fun ls hl => ?_)
                      refine lv_iinc (v := nI (i + 1)) (lv' := [(5, .int (nI (i + 1))), (4, .int 0), (6, .long (jI (eCr n (cF40 cx f) (cF40 cy f) i px.toInt py.toInt))), (0, .ref k0), (1, .int (nI f)), (2, .int px), (3, .int py)]) hx hb dX11_isInside_153 hl (k := 2) rfl (nI_add i 1) (Nat.le_of_ble_eq_true rfl) rfl (fun ls hl => ?_)
                      refine lv_goto (tgt := 18) hx hb dX11_isInside_156 rfl ?_
                      have hl9 := lv_sub hl [0, 1, 3, 4, 5, 6] rfl
                      have e9_4 : pI (par2 (eTg n (cF40 cx f) (cF40 cy f) px.toInt py.toInt) (i + 1)) = (0 : Int32) := by first | exact zp_iff (par2_n (by unfold eTg; omega)) | exact zp_t ((par2_y (P := (eTg n (cF40 cx f) (cF40 cy f) px.toInt py.toInt)) (i := i) (by unfold eTg; omega)).mpr (by first | with_reducible assumption | assumption)) | exact zp_f (fun q => (par2_y (P := (eTg n (cF40 cx f) (cF40 cy f) px.toInt py.toInt)) (i := i) (by unfold eTg; omega)).mp q (by first | with_reducible assumption | assumption))
                      have hl9 : lv_has ls 8 [(5, .int (nI (i + 1))), (4, .int (pI (par2 (eTg n (cF40 cx f) (cF40 cy f) px.toInt py.toInt) (i + 1)))), (0, .ref k0), (1, .int (nI f)), (2, .int px), (3, .int py)] := by rw [e9_4]; exact hl9
                      exact ih_18 (i + 1) S2 H locs ls (by first | with_reducible assumption | omega) (by first | with_reducible assumption | omega) hP hD hS hl9
                    · have c_14 : ¬ (par2 (eTg n (cF40 cx f) (cF40 cy f) px.toInt py.toInt) i) := zp_0 c_14
                      refine lv_iconst (v := 1) hx hb dX11_isInside_146 rfl ?_
                      refine lv_goto (tgt := 151) hx hb dX11_isInside_147 rfl ?_
                      refine lv_istore (lv' := [(4, .int 1), (6, .long (jI (eCr n (cF40 cx f) (cF40 cy f) i px.toInt py.toInt))), (5, .int (nI i)), (0, .ref k0), (1, .int (nI f)), (2, .int px), (3, .int py)]) hx hb dX11_isInside_151 hl (Nat.le_of_ble_eq_true rfl) rfl (fun ls hl => ?_)
                      refine lv_iinc (v := nI (i + 1)) (lv' := [(5, .int (nI (i + 1))), (4, .int 1), (6, .long (jI (eCr n (cF40 cx f) (cF40 cy f) i px.toInt py.toInt))), (0, .ref k0), (1, .int (nI f)), (2, .int px), (3, .int py)]) hx hb dX11_isInside_153 hl (k := 2) rfl (nI_add i 1) (Nat.le_of_ble_eq_true rfl) rfl (fun ls hl => ?_)
                      refine lv_goto (tgt := 18) hx hb dX11_isInside_156 rfl ?_
                      have hl9 := lv_sub hl [0, 1, 3, 4, 5, 6] rfl
                      have e9_4 : pI (par2 (eTg n (cF40 cx f) (cF40 cy f) px.toInt py.toInt) (i + 1)) = (1 : Int32) := by first | exact zp_iff (par2_n (by unfold eTg; omega)) | exact zp_t ((par2_y (P := (eTg n (cF40 cx f) (cF40 cy f) px.toInt py.toInt)) (i := i) (by unfold eTg; omega)).mpr (by first | with_reducible assumption | assumption)) | exact zp_f (fun q => (par2_y (P := (eTg n (cF40 cx f) (cF40 cy f) px.toInt py.toInt)) (i := i) (by unfold eTg; omega)).mp q (by first | with_reducible assumption | assumption))
                      have hl9 : lv_has ls 8 [(5, .int (nI (i + 1))), (4, .int (pI (par2 (eTg n (cF40 cx f) (cF40 cy f) px.toInt py.toInt) (i + 1)))), (0, .ref k0), (1, .int (nI f)), (2, .int px), (3, .int py)] := by rw [e9_4]; exact hl9
                      exact ih_18 (i + 1) S2 H locs ls (by first | with_reducible assumption | omega) (by first | with_reducible assumption | omega) hP hD hS hl9
              · exact absurd c_9 (by decide)
          · have c_6 : py.toInt < (cF40 cy f i).toInt := zc_nle rfl rfl c_6
            refine lv_iconst (v := 1) hx hb dX11_isInside_46 rfl ?_
            refine lv_goto (tgt := 51) hx hb dX11_isInside_47 rfl ?_
            refine lv_aload_n hx hb dX11_isInside_51 rfl (lv_at hl 2 rfl) ?_
            refine va_get (D := (dC, dI)) (ci := 9) (v := .ref (a 32)) (C := RX11) (T := TX11) (N := 55) hx hb hts inX11 hown hK hP 0 rfl rfl 32 (Nat.le_of_ble_eq_true rfl) (hts _ mw_1191) (fun _ h9 => h9) rfl dX11_isInside_52 ?_
            refine lv_iconst (v := 3) hx hb dX11_isInside_55 rfl ?_
            refine z_iald hx hb hK hP 5 0 rfl rfl (e := 3) rfl (Nat.le_of_ble_eq_true rfl) (Nat.le_of_ble_eq_true rfl) dX11_isInside_56 ?_
            refine zz_i (v := cF40 cy f (nxt n i)) (v3) ?_
            refine lv_iload_n hx hb dX11_isInside_57 rfl (lv_at hl 5 rfl) ?_
            refine lv_icmp_le (tgt := 65) hx hb dX11_isInside_58 rfl (fun c_15 => ?_) (fun c_15 => ?_)
            · have c_15 : (cF40 cy f (nxt n i)).toInt ≤ py.toInt := zc_le rfl rfl c_15
              refine lv_iconst (v := 0) hx hb dX11_isInside_65 rfl ?_
              refine lv_icmp_ne (tgt := 72) hx hb dX11_isInside_66 rfl (fun c_16 => ?_) (fun c_16 => ?_)
              · refine lv_aload_n hx hb dX11_isInside_72 rfl (lv_at hl 2 rfl) ?_
                refine va_get (D := (dC, dI)) (ci := 9) (v := .ref (a 32)) (C := RX11) (T := TX11) (N := 55) hx hb hts inX11 hown hK hP 0 rfl rfl 32 (Nat.le_of_ble_eq_true rfl) (hts _ mw_1191) (fun _ h9 => h9) rfl dX11_isInside_73 ?_
                refine lv_iconst (v := 0) hx hb dX11_isInside_76 rfl ?_
                refine z_iald hx hb hK hP 5 0 rfl rfl (e := 0) rfl (Nat.le_of_ble_eq_true rfl) (Nat.le_of_ble_eq_true rfl) dX11_isInside_77 ?_
                refine zz_i (v := cF40 cx f i) (v0) ?_
                refine lv_i2l (v := (cF40 cx f i).toInt64) hx hb dX11_isInside_78 (rfl) ?_
                refine lv_aload_n hx hb dX11_isInside_79 rfl (lv_at hl 2 rfl) ?_
                refine va_get (D := (dC, dI)) (ci := 9) (v := .ref (a 32)) (C := RX11) (T := TX11) (N := 55) hx hb hts inX11 hown hK hP 0 rfl rfl 32 (Nat.le_of_ble_eq_true rfl) (hts _ mw_1191) (fun _ h9 => h9) rfl dX11_isInside_80 ?_
                refine lv_iconst (v := 1) hx hb dX11_isInside_83 rfl ?_
                refine z_iald hx hb hK hP 5 0 rfl rfl (e := 1) rfl (Nat.le_of_ble_eq_true rfl) (Nat.le_of_ble_eq_true rfl) dX11_isInside_84 ?_
                refine zz_i (v := cF40 cy f i) (v1) ?_
                refine lv_i2l (v := (cF40 cy f i).toInt64) hx hb dX11_isInside_85 (rfl) ?_
                refine lv_aload_n hx hb dX11_isInside_86 rfl (lv_at hl 2 rfl) ?_
                refine va_get (D := (dC, dI)) (ci := 9) (v := .ref (a 32)) (C := RX11) (T := TX11) (N := 55) hx hb hts inX11 hown hK hP 0 rfl rfl 32 (Nat.le_of_ble_eq_true rfl) (hts _ mw_1191) (fun _ h9 => h9) rfl dX11_isInside_87 ?_
                refine lv_iconst (v := 2) hx hb dX11_isInside_90 rfl ?_
                refine z_iald hx hb hK hP 5 0 rfl rfl (e := 2) rfl (Nat.le_of_ble_eq_true rfl) (Nat.le_of_ble_eq_true rfl) dX11_isInside_91 ?_
                refine zz_i (v := cF40 cx f (nxt n i)) (v2) ?_
                refine lv_i2l (v := (cF40 cx f (nxt n i)).toInt64) hx hb dX11_isInside_92 (rfl) ?_
                refine lv_aload_n hx hb dX11_isInside_93 rfl (lv_at hl 2 rfl) ?_
                refine va_get (D := (dC, dI)) (ci := 9) (v := .ref (a 32)) (C := RX11) (T := TX11) (N := 55) hx hb hts inX11 hown hK hP 0 rfl rfl 32 (Nat.le_of_ble_eq_true rfl) (hts _ mw_1191) (fun _ h9 => h9) rfl dX11_isInside_94 ?_
                refine lv_iconst (v := 3) hx hb dX11_isInside_97 rfl ?_
                refine z_iald hx hb hK hP 5 0 rfl rfl (e := 3) rfl (Nat.le_of_ble_eq_true rfl) (Nat.le_of_ble_eq_true rfl) dX11_isInside_98 ?_
                refine zz_i (v := cF40 cy f (nxt n i)) (v3) ?_
                refine lv_i2l (v := (cF40 cy f (nxt n i)).toInt64) hx hb dX11_isInside_99 (rfl) ?_
                refine lv_iload_n hx hb dX11_isInside_100 rfl (lv_at hl 4 rfl) ?_
                refine lv_i2l (v := px.toInt64) hx hb dX11_isInside_101 (rfl) ?_
                refine lv_iload_n hx hb dX11_isInside_102 rfl (lv_at hl 5 rfl) ?_
                refine lv_i2l (v := py.toInt64) hx hb dX11_isInside_103 (rfl) ?_
                have hB1 := crBp (hp_f i hin9).1 (hp_f i hin9).2 (hp_f _ hnx).1 (hp_f _ hnx).2 hpx hpy
                have hB1 : -2000000 ≤ eCr n (cF40 cx f) (cF40 cy f) i px.toInt py.toInt ∧ eCr n (cF40 cx f) (cF40 cy f) i px.toInt py.toInt ≤ 2000000 := hB1
                obtain ⟨hPc, hDc, hFc, hI1⟩ := zi_sub (wc := []) hP hD hS hA [] rfl rfl
                refine zcall (st1 := [.long (jI (cr (cF40 cx f i).toInt (cF40 cy f i).toInt (cF40 cx f (nxt n i)).toInt (cF40 cy f (nxt n i)).toInt px.toInt py.toInt))]) (va_runS (As := [.long ((cF40 cx f i).toInt64), .long ((cF40 cy f i).toInt64), .long ((cF40 cx f (nxt n i)).toInt64), .long ((cF40 cy f (nxt n i)).toInt64), .long px.toInt64, .long py.toInt64]) (rest := []) ⟨hx, hb, hml, hown, hts⟩ (k_M_cross l dC dI cI cZ cF H.size (cF40 cx f i) (cF40 cy f i) (cF40 cx f (nxt n i)) (cF40 cy f (nxt n i)) px py ((hp_f i hin9).1) ((hp_f i hin9).2) ((hp_f _ hnx).1) ((hp_f _ hnx).2) (hpx) (hpy)) (csS_162 hts rfl rfl ⟨Nat.le_of_ble_eq_true rfl, Nat.le_of_ble_eq_true rfl⟩) (zPS2 hPc hDc hK hXN) rfl rfl hl.1 rfl (lv_room (Nat.le_of_ble_eq_true rfl)) dX11_isInside_104 ⟨Nat.le_of_ble_eq_true rfl, Nat.le_of_ble_eq_true rfl⟩) hS hFc hFc rfl (fun t H locs ht hB hk1 hS => ?_)
                obtain ⟨hP1, hD1⟩ := hB
                rw [ht] at hP1
                replace hP := z0 hP hD hk1 hP1 hI1
                clear hk1 hPc hDc hFc hP1 hD1 ht hI1
                refine zz_l (v := jI (eCr n (cF40 cx f) (cF40 cy f) i px.toInt py.toInt)) (rfl) ?_
                refine lv_lstore (lv' := [(6, .long (jI (eCr n (cF40 cx f) (cF40 cy f) i px.toInt py.toInt))), (5, .int (nI i)), (4, .int (pI (par2 (eTg n (cF40 cx f) (cF40 cy f) px.toInt py.toInt) i))), (0, .ref k0), (1, .int (nI f)), (2, .int px), (3, .int py)]) hx hb dX11_isInside_107 hl (Nat.le_of_ble_eq_true rfl) rfl (fun ls hl => ?_)
                refine lv_aload_n hx hb dX11_isInside_109 rfl (lv_at hl 3 rfl) ?_
                refine va_get (D := (dC, dI)) (ci := 9) (v := .ref (a 32)) (C := RX11) (T := TX11) (N := 55) hx hb hts inX11 hown hK hP 0 rfl rfl 32 (Nat.le_of_ble_eq_true rfl) (hts _ mw_1191) (fun _ h9 => h9) rfl dX11_isInside_110 ?_
                refine lv_iconst (v := 3) hx hb dX11_isInside_113 rfl ?_
                refine z_iald hx hb hK hP 5 0 rfl rfl (e := 3) rfl (Nat.le_of_ble_eq_true rfl) (Nat.le_of_ble_eq_true rfl) dX11_isInside_114 ?_
                refine zz_i (v := cF40 cy f (nxt n i)) (v3) ?_
                refine lv_aload_n hx hb dX11_isInside_115 rfl (lv_at hl 3 rfl) ?_
                refine va_get (D := (dC, dI)) (ci := 9) (v := .ref (a 32)) (C := RX11) (T := TX11) (N := 55) hx hb hts inX11 hown hK hP 0 rfl rfl 32 (Nat.le_of_ble_eq_true rfl) (hts _ mw_1191) (fun _ h9 => h9) rfl dX11_isInside_116 ?_
                refine lv_iconst (v := 1) hx hb dX11_isInside_119 rfl ?_
                refine z_iald hx hb hK hP 5 0 rfl rfl (e := 1) rfl (Nat.le_of_ble_eq_true rfl) (Nat.le_of_ble_eq_true rfl) dX11_isInside_120 ?_
                refine zz_i (v := cF40 cy f i) (v1) ?_
                refine lv_icmp_le (tgt := 134) hx hb dX11_isInside_121 rfl (fun c_17 => ?_) (fun c_17 => ?_)
                · have c_17 : (cF40 cy f (nxt n i)).toInt ≤ (cF40 cy f i).toInt := zc_le rfl rfl c_17
                  refine lv_lload hx hb dX11_isInside_134 (lv_at hl 0 rfl) ?_
                  refine lv_lconst (v := 0) hx hb dX11_isInside_136 rfl ?_
                  refine W.lcmp hx hb dX11_isInside_137 ?_
                  refine lv_if_ge (tgt := 153) hx hb dX11_isInside_138 rfl (fun c_18 => ?_) (fun c_18 => ?_)
                  · have c_18 : 0 ≤ (eCr n (cF40 cx f) (cF40 cy f) i px.toInt py.toInt) := zl_ge (jI_toInt (by omega)) rfl c_18
                    refine lv_iinc (v := nI (i + 1)) (lv' := [(5, .int (nI (i + 1))), (6, .long (jI (eCr n (cF40 cx f) (cF40 cy f) i px.toInt py.toInt))), (4, .int (pI (par2 (eTg n (cF40 cx f) (cF40 cy f) px.toInt py.toInt) i))), (0, .ref k0), (1, .int (nI f)), (2, .int px), (3, .int py)]) hx hb dX11_isInside_153 hl (k := 1) rfl (nI_add i 1) (Nat.le_of_ble_eq_true rfl) rfl (fun ls hl => ?_)
                    refine lv_goto (tgt := 18) hx hb dX11_isInside_156 rfl ?_
                    have hl9 := lv_sub hl [0, 2, 3, 4, 5, 6] rfl
                    have e9_4 : pI (par2 (eTg n (cF40 cx f) (cF40 cy f) px.toInt py.toInt) (i + 1)) = (pI (par2 (eTg n (cF40 cx f) (cF40 cy f) px.toInt py.toInt) i) : Int32) := by first | exact zp_iff (par2_n (by unfold eTg; omega)) | exact zp_t ((par2_y (P := (eTg n (cF40 cx f) (cF40 cy f) px.toInt py.toInt)) (i := i) (by unfold eTg; omega)).mpr (by first | with_reducible assumption | assumption)) | exact zp_f (fun q => (par2_y (P := (eTg n (cF40 cx f) (cF40 cy f) px.toInt py.toInt)) (i := i) (by unfold eTg; omega)).mp q (by first | with_reducible assumption | assumption))
                    have hl9 : lv_has ls 8 [(5, .int (nI (i + 1))), (4, .int (pI (par2 (eTg n (cF40 cx f) (cF40 cy f) px.toInt py.toInt) (i + 1)))), (0, .ref k0), (1, .int (nI f)), (2, .int px), (3, .int py)] := by rw [e9_4]; exact hl9
                    exact ih_18 (i + 1) S2 H locs ls (by first | with_reducible assumption | omega) (by first | with_reducible assumption | omega) hP hD hS hl9
                  · have c_18 : (eCr n (cF40 cx f) (cF40 cy f) i px.toInt py.toInt) < 0 := zl_nge (jI_toInt (by omega)) rfl c_18
                    refine lv_iload hx hb dX11_isInside_141 (lv_at hl 2 rfl) ?_
                    refine lv_if_ne (tgt := 150) hx hb dX11_isInside_143 rfl (fun c_19 => ?_) (fun c_19 => ?_)
                    · have c_19 : par2 (eTg n (cF40 cx f) (cF40 cy f) px.toInt py.toInt) i := zp_1 c_19
                      refine lv_iconst (v := 0) hx hb dX11_isInside_150 rfl ?_
                      refine lv_istore (lv' := [(4, .int 0), (6, .long (jI (eCr n (cF40 cx f) (cF40 cy f) i px.toInt py.toInt))), (5, .int (nI i)), (0, .ref k0), (1, .int (nI f)), (2, .int px), (3, .int py)]) hx hb dX11_isInside_151 hl (Nat.le_of_ble_eq_true rfl) rfl (fun ls hl => ?_)
                      refine lv_iinc (v := nI (i + 1)) (lv' := [(5, .int (nI (i + 1))), (4, .int 0), (6, .long (jI (eCr n (cF40 cx f) (cF40 cy f) i px.toInt py.toInt))), (0, .ref k0), (1, .int (nI f)), (2, .int px), (3, .int py)]) hx hb dX11_isInside_153 hl (k := 2) rfl (nI_add i 1) (Nat.le_of_ble_eq_true rfl) rfl (fun ls hl => ?_)
                      refine lv_goto (tgt := 18) hx hb dX11_isInside_156 rfl ?_
                      have hl9 := lv_sub hl [0, 1, 3, 4, 5, 6] rfl
                      have e9_4 : pI (par2 (eTg n (cF40 cx f) (cF40 cy f) px.toInt py.toInt) (i + 1)) = (0 : Int32) := by first | exact zp_iff (par2_n (by unfold eTg; omega)) | exact zp_t ((par2_y (P := (eTg n (cF40 cx f) (cF40 cy f) px.toInt py.toInt)) (i := i) (by unfold eTg; omega)).mpr (by first | with_reducible assumption | assumption)) | exact zp_f (fun q => (par2_y (P := (eTg n (cF40 cx f) (cF40 cy f) px.toInt py.toInt)) (i := i) (by unfold eTg; omega)).mp q (by first | with_reducible assumption | assumption))
                      have hl9 : lv_has ls 8 [(5, .int (nI (i + 1))), (4, .int (pI (par2 (eTg n (cF40 cx f) (cF40 cy f) px.toInt py.toInt) (i + 1)))), (0, .ref k0), (1, .int (nI f)), (2, .int px), (3, .int py)] := by rw [e9_4]; exact hl9
                      exact ih_18 (i + 1) S2 H locs ls (by first | with_reducible assumption | omega) (by first | with_reducible assumption | omega) hP hD hS hl9
                    · have c_19 : ¬ (par2 (eTg n (cF40 cx f) (cF40 cy f) px.toInt py.toInt) i) := zp_0 c_19
                      refine lv_iconst (v := 1) hx hb dX11_isInside_146 rfl ?_
                      refine lv_goto (tgt := 151) hx hb dX11_isInside_147 rfl ?_
                      refine lv_istore (lv' := [(4, .int 1), (6, .long (jI (eCr n (cF40 cx f) (cF40 cy f) i px.toInt py.toInt))), (5, .int (nI i)), (0, .ref k0), (1, .int (nI f)), (2, .int px), (3, .int py)]) hx hb dX11_isInside_151 hl (Nat.le_of_ble_eq_true rfl) rfl (fun ls hl => ?_)
                      refine lv_iinc (v := nI (i + 1)) (lv' := [(5, .int (nI (i + 1))), (4, .int 1), (6, .long (jI (eCr n (cF40 cx f) (cF40 cy f) i px.toInt py.toInt))), (0, .ref k0), (1, .int (nI f)), (2, .int px), (3, .int py)]) hx hb dX11_isInside_153 hl (k := 2) rfl (nI_add i 1) (Nat.le_of_ble_eq_true rfl) rfl (fun ls hl => ?_)
                      refine lv_goto (tgt := 18) hx hb dX11_isInside_156 rfl ?_
                      have hl9 := lv_sub hl [0, 1, 3, 4, 5, 6] rfl
                      have e9_4 : pI (par2 (eTg n (cF40 cx f) (cF40 cy f) px.toInt py.toInt) (i + 1)) = (1 : Int32) := by first | exact zp_iff (par2_n (by unfold eTg; omega)) | exact zp_t ((par2_y (P := (eTg n (cF40 cx f) (cF40 cy f) px.toInt py.toInt)) (i := i) (by unfold eTg; omega)).mpr (by first | with_reducible assumption | assumption)) | exact zp_f (fun q => (par2_y (P := (eTg n (cF40 cx f) (cF40 cy f) px.toInt py.toInt)) (i := i) (by unfold eTg; omega)).mp q (by first | with_reducible assumption | assumption))
                      have hl9 : lv_has ls 8 [(5, .int (nI (i + 1))), (4, .int (pI (par2 (eTg n (cF40 cx f) (cF40 cy f) px.toInt py.toInt) (i + 1)))), (0, .ref k0), (1, .int (nI f)), (2, .int px), (3, .int py)] := by rw [e9_4]; exact hl9
                      exact ih_18 (i + 1) S2 H locs ls (by first | with_reducible assumption | omega) (by first | with_reducible assumption | omega) hP hD hS hl9
                · have c_17 : (cF40 cy f i).toInt < (cF40 cy f (nxt n i)).toInt := zc_nle rfl rfl c_17
                  refine lv_lload hx hb dX11_isInside_124 (lv_at hl 0 rfl) ?_
                  refine lv_lconst (v := 0) hx hb dX11_isInside_126 rfl ?_
                  refine W.lcmp hx hb dX11_isInside_127 ?_
                  refine lv_if_le (tgt := 153) hx hb dX11_isInside_128 rfl (fun c_20 => ?_) (fun c_20 => ?_)
                  · have c_20 : (eCr n (cF40 cx f) (cF40 cy f) i px.toInt py.toInt) ≤ 0 := zl_le (jI_toInt (by omega)) rfl c_20
                    refine lv_iinc (v := nI (i + 1)) (lv' := [(5, .int (nI (i + 1))), (6, .long (jI (eCr n (cF40 cx f) (cF40 cy f) i px.toInt py.toInt))), (4, .int (pI (par2 (eTg n (cF40 cx f) (cF40 cy f) px.toInt py.toInt) i))), (0, .ref k0), (1, .int (nI f)), (2, .int px), (3, .int py)]) hx hb dX11_isInside_153 hl (k := 1) rfl (nI_add i 1) (Nat.le_of_ble_eq_true rfl) rfl (fun ls hl => ?_)
                    refine lv_goto (tgt := 18) hx hb dX11_isInside_156 rfl ?_
                    have hl9 := lv_sub hl [0, 2, 3, 4, 5, 6] rfl
                    have e9_4 : pI (par2 (eTg n (cF40 cx f) (cF40 cy f) px.toInt py.toInt) (i + 1)) = (pI (par2 (eTg n (cF40 cx f) (cF40 cy f) px.toInt py.toInt) i) : Int32) := by first | exact zp_iff (par2_n (by unfold eTg; omega)) | exact zp_t ((par2_y (P := (eTg n (cF40 cx f) (cF40 cy f) px.toInt py.toInt)) (i := i) (by unfold eTg; omega)).mpr (by first | with_reducible assumption | assumption)) | exact zp_f (fun q => (par2_y (P := (eTg n (cF40 cx f) (cF40 cy f) px.toInt py.toInt)) (i := i) (by unfold eTg; omega)).mp q (by first | with_reducible assumption | assumption))
                    have hl9 : lv_has ls 8 [(5, .int (nI (i + 1))), (4, .int (pI (par2 (eTg n (cF40 cx f) (cF40 cy f) px.toInt py.toInt) (i + 1)))), (0, .ref k0), (1, .int (nI f)), (2, .int px), (3, .int py)] := by rw [e9_4]; exact hl9
                    exact ih_18 (i + 1) S2 H locs ls (by first | with_reducible assumption | omega) (by first | with_reducible assumption | omega) hP hD hS hl9
                  · have c_20 : 0 < (eCr n (cF40 cx f) (cF40 cy f) i px.toInt py.toInt) := zl_nle (jI_toInt (by omega)) rfl c_20
                    refine lv_goto (tgt := 141) hx hb dX11_isInside_131 rfl ?_
                    refine lv_iload hx hb dX11_isInside_141 (lv_at hl 2 rfl) ?_
                    refine lv_if_ne (tgt := 150) hx hb dX11_isInside_143 rfl (fun c_21 => ?_) (fun c_21 => ?_)
                    · have c_21 : par2 (eTg n (cF40 cx f) (cF40 cy f) px.toInt py.toInt) i := zp_1 c_21
                      refine lv_iconst (v := 0) hx hb dX11_isInside_150 rfl ?_
                      refine lv_istore (lv' := [(4, .int 0), (6, .long (jI (eCr n (cF40 cx f) (cF40 cy f) i px.toInt py.toInt))), (5, .int (nI i)), (0, .ref k0), (1, .int (nI f)), (2, .int px), (3, .int py)]) hx hb dX11_isInside_151 hl (Nat.le_of_ble_eq_true rfl) rfl (fun ls hl => ?_)
                      refine lv_iinc (v := nI (i + 1)) (lv' := [(5, .int (nI (i + 1))), (4, .int 0), (6, .long (jI (eCr n (cF40 cx f) (cF40 cy f) i px.toInt py.toInt))), (0, .ref k0), (1, .int (nI f)), (2, .int px), (3, .int py)]) hx hb dX11_isInside_153 hl (k := 2) rfl (nI_add i 1) (Nat.le_of_ble_eq_true rfl) rfl (fun ls hl => ?_)
                      refine lv_goto (tgt := 18) hx hb dX11_isInside_156 rfl ?_
                      have hl9 := lv_sub hl [0, 1, 3, 4, 5, 6] rfl
                      have e9_4 : pI (par2 (eTg n (cF40 cx f) (cF40 cy f) px.toInt py.toInt) (i + 1)) = (0 : Int32) := by first | exact zp_iff (par2_n (by unfold eTg; omega)) | exact zp_t ((par2_y (P := (eTg n (cF40 cx f) (cF40 cy f) px.toInt py.toInt)) (i := i) (by unfold eTg; omega)).mpr (by first | with_reducible assumption | assumption)) | exact zp_f (fun q => (par2_y (P := (eTg n (cF40 cx f) (cF40 cy f) px.toInt py.toInt)) (i := i) (by unfold eTg; omega)).mp q (by first | with_reducible assumption | assumption))
                      have hl9 : lv_has ls 8 [(5, .int (nI (i + 1))), (4, .int (pI (par2 (eTg n (cF40 cx f) (cF40 cy f) px.toInt py.toInt) (i + 1)))), (0, .ref k0), (1, .int (nI f)), (2, .int px), (3, .int py)] := by rw [e9_4]; exact hl9
                      exact ih_18 (i + 1) S2 H locs ls (by first | with_reducible assumption | omega) (by first | with_reducible assumption | omega) hP hD hS hl9
                    · have c_21 : ¬ (par2 (eTg n (cF40 cx f) (cF40 cy f) px.toInt py.toInt) i) := zp_0 c_21
                      refine lv_iconst (v := 1) hx hb dX11_isInside_146 rfl ?_
                      refine lv_goto (tgt := 151) hx hb dX11_isInside_147 rfl ?_
                      refine lv_istore (lv' := [(4, .int 1), (6, .long (jI (eCr n (cF40 cx f) (cF40 cy f) i px.toInt py.toInt))), (5, .int (nI i)), (0, .ref k0), (1, .int (nI f)), (2, .int px), (3, .int py)]) hx hb dX11_isInside_151 hl (Nat.le_of_ble_eq_true rfl) rfl (fun ls hl => ?_)
                      refine lv_iinc (v := nI (i + 1)) (lv' := [(5, .int (nI (i + 1))), (4, .int 1), (6, .long (jI (eCr n (cF40 cx f) (cF40 cy f) i px.toInt py.toInt))), (0, .ref k0), (1, .int (nI f)), (2, .int px), (3, .int py)]) hx hb dX11_isInside_153 hl (k := 2) rfl (nI_add i 1) (Nat.le_of_ble_eq_true rfl) rfl (fun ls hl => ?_)
                      refine lv_goto (tgt := 18) hx hb dX11_isInside_156 rfl ?_
                      have hl9 := lv_sub hl [0, 1, 3, 4, 5, 6] rfl
                      have e9_4 : pI (par2 (eTg n (cF40 cx f) (cF40 cy f) px.toInt py.toInt) (i + 1)) = (1 : Int32) := by first | exact zp_iff (par2_n (by unfold eTg; omega)) | exact zp_t ((par2_y (P := (eTg n (cF40 cx f) (cF40 cy f) px.toInt py.toInt)) (i := i) (by unfold eTg; omega)).mpr (by first | with_reducible assumption | assumption)) | exact zp_f (fun q => (par2_y (P := (eTg n (cF40 cx f) (cF40 cy f) px.toInt py.toInt)) (i := i) (by unfold eTg; omega)).mp q (by first | with_reducible assumption | assumption))
                      have hl9 : lv_has ls 8 [(5, .int (nI (i + 1))), (4, .int (pI (par2 (eTg n (cF40 cx f) (cF40 cy f) px.toInt py.toInt) (i + 1)))), (0, .ref k0), (1, .int (nI f)), (2, .int px), (3, .int py)] := by rw [e9_4]; exact hl9
                      exact ih_18 (i + 1) S2 H locs ls (by first | with_reducible assumption | omega) (by first | with_reducible assumption | omega) hP hD hS hl9
              · exact absurd c_16 (by decide)
            · have c_15 : py.toInt < (cF40 cy f (nxt n i)).toInt := zc_nle rfl rfl c_15
              refine lv_iconst (v := 1) hx hb dX11_isInside_61 rfl ?_
              refine lv_goto (tgt := 66) hx hb dX11_isInside_62 rfl ?_
              refine lv_icmp_ne (tgt := 72) hx hb dX11_isInside_66 rfl (fun c_22 => ?_) (fun c_22 => ?_)
              · exact absurd (by decide) c_22
              · refine lv_goto (tgt := 153) hx hb dX11_isInside_69 rfl ?_
                refine lv_iinc (v := nI (i + 1)) (lv' := [(5, .int (nI (i + 1))), (4, .int (pI (par2 (eTg n (cF40 cx f) (cF40 cy f) px.toInt py.toInt) i))), (0, .ref k0), (1, .int (nI f)), (2, .int px), (3, .int py)]) hx hb dX11_isInside_153 hl (k := 0) rfl (nI_add i 1) (Nat.le_of_ble_eq_true rfl) rfl (fun ls hl => ?_)
                refine lv_goto (tgt := 18) hx hb dX11_isInside_156 rfl ?_
                have hl9 := lv_sub hl [0, 1, 2, 3, 4, 5] rfl
                have e9_4 : pI (par2 (eTg n (cF40 cx f) (cF40 cy f) px.toInt py.toInt) (i + 1)) = (pI (par2 (eTg n (cF40 cx f) (cF40 cy f) px.toInt py.toInt) i) : Int32) := by first | exact zp_iff (par2_n (by unfold eTg; omega)) | exact zp_t ((par2_y (P := (eTg n (cF40 cx f) (cF40 cy f) px.toInt py.toInt)) (i := i) (by unfold eTg; omega)).mpr (by first | with_reducible assumption | assumption)) | exact zp_f (fun q => (par2_y (P := (eTg n (cF40 cx f) (cF40 cy f) px.toInt py.toInt)) (i := i) (by unfold eTg; omega)).mp q (by first | with_reducible assumption | assumption))
                have hl9 : lv_has ls 8 [(5, .int (nI (i + 1))), (4, .int (pI (par2 (eTg n (cF40 cx f) (cF40 cy f) px.toInt py.toInt) (i + 1)))), (0, .ref k0), (1, .int (nI f)), (2, .int px), (3, .int py)] := by rw [e9_4]; exact hl9
                exact ih_18 (i + 1) S2 H locs ls (by first | with_reducible assumption | omega) (by first | with_reducible assumption | omega) hP hD hS hl9
    have e9_4 : pI (par2 (eTg n (cF40 cx f) (cF40 cy f) px.toInt py.toInt) 0) = (0 : Int32) := by exact zp_f (fun h => h)
    have hl9 : lv_has ls 8 [(5, .int (nI 0)), (4, .int (pI (par2 (eTg n (cF40 cx f) (cF40 cy f) px.toInt py.toInt) 0))), (0, .ref k0), (1, .int (nI f)), (2, .int px), (3, .int py)] := by rw [e9_4]; exact lv_sub hl [0, 1, 2, 3, 4, 5] rfl
    exact hl_18 _ 0 q_1 H locs ls (Nat.lt_succ_self _) (by first | with_reducible assumption | omega) hP hD hS hl9
  · have c_2 : ∃ i, i < eO (kd f).toInt n ∧ eOn n (cF40 cx f) (cF40 cy f) i px.toInt py.toInt := zp_1 c_2
    refine lv_iconst (v := 0) hx hb dX11_isInside_10 rfl ?_
    obtain ⟨hP9, hD9⟩ := zu_sub (wc := [_, _, _, _, _, _]) hP hD [true, true, true, true, true, true] rfl rfl
    rw [hQ9]
    exact W.zret (ty := .boolean) (v := 0) hx hb hr (rfl) (fun t ht hW => ⟨⟨congrArg (fun z => Outcome.returned (some (Value.int z))) (show (0 : Int32) = pI (¬ (∃ i, i < eO (kd f).toInt n ∧ eOn n (cF40 cx f) (cF40 cy f) i px.toInt py.toInt) ∧ par2 (eTg n (cF40 cx f) (cF40 cy f) px.toInt py.toInt) (eO (kd f).toInt n)) from (zp_f (fun h => h.1 (by first | with_reducible assumption | assumption))).symm), q_1, by rw [ht]; exact hP9, hD9⟩, hS.F ht⟩) hS.2.2 dX11_isInside_11
set_option maxHeartbeats 4000000 in
set_option maxRecDepth 100000 in
theorem k_M_meetsEdge (l : Launch) (dC : Nat → ClassId) (dI : Nat → Nat → Nat) (cI cZ cF : ClassId) (sz : Nat) (k0 : Nat) (a : Nat → Nat) (I0 : Nat → Int32) (J0 : Nat → Int64) (f : Nat) (n : Nat) (i : Nat) (k : Nat) (mn : Nat → Int32) (cx : Nat → Int32) (cy : Nat → Int32) (S0 : Nat → Int32) (hf_f : f ≤ 200) (hm_f : mn f = nI n) (hn_f : 1 ≤ n ∧ n ≤ 40) (hp_f : pls n (cF40 cx f) (cF40 cy f)) (hi9 : i < n) (hk9 : k < n) : zM l yX11_meetsEdge cX11_meetsEdge 4 (some .boolean) ({ frames := 3, cells := 0, slots := 0, locals := 81 } : Room) [.ref k0, .int (nI f), .int (nI i), .int (nI k)] (dC, dI) (zTy cI cZ cF) [(om k0 a I0 J0), (oa (a 11) cI 201 mn), (oa (a 12) cI 8040 cx), (oa (a 13) cI 8040 cy), (oa (a 32) cI 8 S0)] sz (some (.int (pI (eMt n (cF40 cx f) (cF40 cy f) i n (cF40 cx f) (cF40 cy f) k)))) (fun A t => ∃ (S1 : Nat → Int32), zPD (dC, dI) classes A [(om k0 a I0 J0), (oa (a 11) cI 201 mn), (oa (a 12) cI 8040 cx), (oa (a 13) cI 8040 cy), (oa (a 32) cI 8 S1)] t.heap) 0 0 := by
  refine zIn (own := "ScaleShopModel") (loc := [(0, .ref k0), (1, .int (nI f)), (2, .int (nI i)), (3, .int (nI k))]) rfl rfl rfl rfl (fun p e s m below meth c hx hb hr hts hown hlocks hml hnm9 A hA hS hP hD hK hXN Q9 hQ9 ls hl => ?_)
  have hnx := nxt_lt (n := n) (i := i) (by omega)
  have hnk := nxt_lt (n := n) (i := k) (by omega)
  refine lv_aload_n hx hb dX11_meetsEdge_0 rfl (lv_at hl 0 rfl) ?_
  refine lv_iload_n hx hb dX11_meetsEdge_1 rfl (lv_at hl 1 rfl) ?_
  refine lv_iload_n hx hb dX11_meetsEdge_2 rfl (lv_at hl 2 rfl) ?_
  refine lv_iconst (v := 0) hx hb dX11_meetsEdge_3 rfl ?_
  obtain ⟨hPc, hDc, hFc⟩ := zo_sub (wc := [_, _, _, _, _]) hP hD hS hA [0, 1, 2, 3, 4] (by decide +kernel) rfl
  refine zcall (st1 := []) (va_runV (As := [.int (nI f), .int (nI i), .int 0]) (rest := []) ⟨hx, hb, hml, hown, hts⟩ (k_M_edge l dC dI cI cZ cF s.heap.size k0 a I0 J0 f n i 0 mn cx cy S0 (by first | with_reducible assumption | omega) (by first | with_reducible assumption | assumption) (by first | with_reducible assumption | omega) (by first | with_reducible assumption | omega) (by first | with_reducible assumption | omega)) (csV_167 hts rfl rfl ⟨Nat.le_of_ble_eq_true rfl, Nat.le_of_ble_eq_true rfl⟩) (zPV2 (q0 := 0) (ci := 9) hPc hDc hK hXN rfl rfl) rfl rfl hl.1 rfl (lv_room (Nat.le_of_ble_eq_true rfl)) dX11_meetsEdge_4 ⟨Nat.le_of_ble_eq_true rfl, Nat.le_of_ble_eq_true rfl⟩) hS hFc hFc rfl (fun t H locs ht hB hk1 hS => ?_)
  obtain ⟨S2, t0, t1, t2, t3, tr, hP1, hD1⟩ := hB
  rw [ht] at hP1
  obtain ⟨hP, hD⟩ := zn (W2 := [_, _, _, _, (oa (a 32) cI 8 S2)]) hP hD hk1 hFc hP1 hD1 [0, 1, 2, 3, 4] [] [false, false, false, false, false] [0, 1, 2, 3, 4] (by decide +kernel) rfl rfl rfl rfl rfl
  clear hk1 hPc hDc hFc hP1 hD1 ht
  refine lv_aload_n hx hb dX11_meetsEdge_7 rfl (lv_at hl 0 rfl) ?_
  refine lv_iload_n hx hb dX11_meetsEdge_8 rfl (lv_at hl 1 rfl) ?_
  refine lv_iload_n hx hb dX11_meetsEdge_9 rfl (lv_at hl 3 rfl) ?_
  refine lv_iconst (v := 4) hx hb dX11_meetsEdge_10 rfl ?_
  obtain ⟨hPc, hDc, hFc⟩ := zo_sub (wc := [_, _, _, _, _]) hP hD hS hA [0, 1, 2, 3, 4] (by decide +kernel) rfl
  refine zcall (st1 := []) (va_runV (As := [.int (nI f), .int (nI k), .int 4]) (rest := []) ⟨hx, hb, hml, hown, hts⟩ (k_M_edge l dC dI cI cZ cF H.size k0 a I0 J0 f n k 4 mn cx cy S2 (by first | with_reducible assumption | omega) (by first | with_reducible assumption | assumption) (by first | with_reducible assumption | omega) (by first | with_reducible assumption | omega) (by first | with_reducible assumption | omega)) (csV_167 hts rfl rfl ⟨Nat.le_of_ble_eq_true rfl, Nat.le_of_ble_eq_true rfl⟩) (zPV2 (q0 := 0) (ci := 9) hPc hDc hK hXN rfl rfl) rfl rfl hl.1 rfl (lv_room (Nat.le_of_ble_eq_true rfl)) dX11_meetsEdge_11 ⟨Nat.le_of_ble_eq_true rfl, Nat.le_of_ble_eq_true rfl⟩) hS hFc hFc rfl (fun t H locs ht hB hk1 hS => ?_)
  obtain ⟨S3, u0, u1, u2, u3, ur, hP1, hD1⟩ := hB
  rw [ht] at hP1
  obtain ⟨hP, hD⟩ := zn (W2 := [_, _, _, _, (oa (a 32) cI 8 S3)]) hP hD hk1 hFc hP1 hD1 [0, 1, 2, 3, 4] [] [false, false, false, false, false] [0, 1, 2, 3, 4] (by decide +kernel) rfl rfl rfl rfl rfl
  clear hk1 hPc hDc hFc hP1 hD1 ht
  have v0 : S3 0 = cF40 cx f i := (ur 0 (by omega)).trans t0
  have v1 : S3 1 = cF40 cy f i := (ur 1 (by omega)).trans t1
  have v2 : S3 2 = cF40 cx f (nxt n i) := (ur 2 (by omega)).trans t2
  have v3 : S3 3 = cF40 cy f (nxt n i) := (ur 3 (by omega)).trans t3
  have v4 : S3 4 = cF40 cx f k := u0
  have v5 : S3 5 = cF40 cy f k := u1
  have v6 : S3 6 = cF40 cx f (nxt n k) := u2
  have v7 : S3 7 = cF40 cy f (nxt n k) := u3
  have hs3 := sPl (S := S3) (by rw [v0]; exact (hp_f i hi9).1) (by rw [v1]; exact (hp_f i hi9).2) (by rw [v2]; exact (hp_f _ hnx).1) (by rw [v3]; exact (hp_f _ hnx).2) (by rw [v4]; exact (hp_f k hk9).1) (by rw [v5]; exact (hp_f k hk9).2) (by rw [v6]; exact (hp_f _ hnk).1) (by rw [v7]; exact (hp_f _ hnk).2)
  refine lv_aload_n hx hb dX11_meetsEdge_14 rfl (lv_at hl 0 rfl) ?_
  refine va_get (D := (dC, dI)) (ci := 9) (v := .ref (a 32)) (C := RX11) (T := TX11) (N := 55) hx hb hts inX11 hown hK hP 0 rfl rfl 32 (Nat.le_of_ble_eq_true rfl) (hts _ mw_1191) (fun _ h9 => h9) rfl dX11_meetsEdge_15 ?_
  obtain ⟨hPc, hDc, hFc, hI1⟩ := zi_sub (wc := [_]) hP hD hS hA [4] rfl rfl
  refine zcall (st1 := [.int (pI (mtC (S3 0).toInt (S3 1).toInt (S3 2).toInt (S3 3).toInt (S3 4).toInt (S3 5).toInt (S3 6).toInt (S3 7).toInt))]) (va_runS (As := [.ref (a 32)]) (rest := []) ⟨hx, hb, hml, hown, hts⟩ (k_M_touch l dC dI cI cZ cF H.size (a 32) S3 (hs3)) (csS_168 hts rfl rfl ⟨Nat.le_of_ble_eq_true rfl, Nat.le_of_ble_eq_true rfl⟩) (zPS2 hPc hDc hK hXN) rfl rfl hl.1 rfl (lv_room (Nat.le_of_ble_eq_true rfl)) dX11_meetsEdge_18 ⟨Nat.le_of_ble_eq_true rfl, Nat.le_of_ble_eq_true rfl⟩) hS hFc hFc rfl (fun t H locs ht hB hk1 hS => ?_)
  obtain ⟨hP1, hD1⟩ := hB
  rw [ht] at hP1
  replace hP := z0 hP hD hk1 hP1 hI1
  clear hk1 hPc hDc hFc hP1 hD1 ht hI1
  refine zz_i (v := pI (eMt n (cF40 cx f) (cF40 cy f) i n (cF40 cx f) (cF40 cy f) k)) (zp_iff (met_of v0 v1 v2 v3 v4 v5 v6 v7)) ?_
  obtain ⟨hP9, hD9⟩ := zu_sub (wc := [_, _, _, _, _]) hP hD [true, true, true, true, true] rfl rfl
  rw [hQ9]
  exact W.zret (ty := .boolean) (v := pI (eMt n (cF40 cx f) (cF40 cy f) i n (cF40 cx f) (cF40 cy f) k)) hx hb hr (zp_nar _) (fun t ht hW => ⟨⟨rfl, S3, by rw [ht]; exact hP9, hD9⟩, hS.F ht⟩) hS.2.2 dX11_meetsEdge_21
set_option maxHeartbeats 4000000 in
set_option maxRecDepth 100000 in
theorem k_M_folds (l : Launch) (dC : Nat → ClassId) (dI : Nat → Nat → Nat) (cI cZ cF : ClassId) (sz : Nat) (k0 : Nat) (a : Nat → Nat) (I0 : Nat → Int32) (J0 : Nat → Int64) (f : Nat) (n : Nat) (i : Nat) (k : Nat) (mn : Nat → Int32) (cx : Nat → Int32) (cy : Nat → Int32) (S0 : Nat → Int32) (hf_f : f ≤ 200) (hm_f : mn f = nI n) (hn_f : 1 ≤ n ∧ n ≤ 40) (hp_f : pls n (cF40 cx f) (cF40 cy f)) (hi9 : i < n) (hk9 : k < n) : zM l yX11_folds cX11_folds 6 (some .boolean) ({ frames := 1, cells := 0, slots := 0, locals := 31 } : Room) [.ref k0, .int (nI f), .int (nI i), .int (nI k)] (dC, dI) (zTy cI cZ cF) [(om k0 a I0 J0), (oa (a 11) cI 201 mn), (oa (a 12) cI 8040 cx), (oa (a 13) cI 8040 cy), (oa (a 32) cI 8 S0)] sz (some (.int (pI (mFl n (cF40 cx f) (cF40 cy f) i k)))) (fun A t => ∃ (S1 : Nat → Int32), zPD (dC, dI) classes A [(om k0 a I0 J0), (oa (a 11) cI 201 mn), (oa (a 12) cI 8040 cx), (oa (a 13) cI 8040 cy), (oa (a 32) cI 8 S1)] t.heap) 0 0 := by
  refine zIn (own := "ScaleShopModel") (loc := [(0, .ref k0), (1, .int (nI f)), (2, .int (nI i)), (3, .int (nI k))]) rfl rfl rfl rfl (fun p e s m below meth c hx hb hr hts hown hlocks hml hnm9 A hA hS hP hD hK hXN Q9 hQ9 ls hl => ?_)
  have hnx := nxt_lt (n := n) (i := i) (by omega)
  have hnk := nxt_lt (n := n) (i := k) (by omega)
  refine lv_aload_n hx hb dX11_folds_0 rfl (lv_at hl 0 rfl) ?_
  refine lv_iload_n hx hb dX11_folds_1 rfl (lv_at hl 1 rfl) ?_
  refine lv_iload_n hx hb dX11_folds_2 rfl (lv_at hl 2 rfl) ?_
  refine lv_iconst (v := 0) hx hb dX11_folds_3 rfl ?_
  obtain ⟨hPc, hDc, hFc⟩ := zo_sub (wc := [_, _, _, _, _]) hP hD hS hA [0, 1, 2, 3, 4] (by decide +kernel) rfl
  refine zcall (st1 := []) (va_runV (As := [.int (nI f), .int (nI i), .int 0]) (rest := []) ⟨hx, hb, hml, hown, hts⟩ (k_M_edge l dC dI cI cZ cF s.heap.size k0 a I0 J0 f n i 0 mn cx cy S0 (by first | with_reducible assumption | omega) (by first | with_reducible assumption | assumption) (by first | with_reducible assumption | omega) (by first | with_reducible assumption | omega) (by first | with_reducible assumption | omega)) (csV_167 hts rfl rfl ⟨Nat.le_of_ble_eq_true rfl, Nat.le_of_ble_eq_true rfl⟩) (zPV2 (q0 := 0) (ci := 9) hPc hDc hK hXN rfl rfl) rfl rfl hl.1 rfl (lv_room (Nat.le_of_ble_eq_true rfl)) dX11_folds_4 ⟨Nat.le_of_ble_eq_true rfl, Nat.le_of_ble_eq_true rfl⟩) hS hFc hFc rfl (fun t H locs ht hB hk1 hS => ?_)
  obtain ⟨S2, t0, t1, t2, t3, tr, hP1, hD1⟩ := hB
  rw [ht] at hP1
  obtain ⟨hP, hD⟩ := zn (W2 := [_, _, _, _, (oa (a 32) cI 8 S2)]) hP hD hk1 hFc hP1 hD1 [0, 1, 2, 3, 4] [] [false, false, false, false, false] [0, 1, 2, 3, 4] (by decide +kernel) rfl rfl rfl rfl rfl
  clear hk1 hPc hDc hFc hP1 hD1 ht
  refine lv_aload_n hx hb dX11_folds_7 rfl (lv_at hl 0 rfl) ?_
  refine lv_iload_n hx hb dX11_folds_8 rfl (lv_at hl 1 rfl) ?_
  refine lv_iload_n hx hb dX11_folds_9 rfl (lv_at hl 3 rfl) ?_
  refine lv_iconst (v := 4) hx hb dX11_folds_10 rfl ?_
  obtain ⟨hPc, hDc, hFc⟩ := zo_sub (wc := [_, _, _, _, _]) hP hD hS hA [0, 1, 2, 3, 4] (by decide +kernel) rfl
  refine zcall (st1 := []) (va_runV (As := [.int (nI f), .int (nI k), .int 4]) (rest := []) ⟨hx, hb, hml, hown, hts⟩ (k_M_edge l dC dI cI cZ cF H.size k0 a I0 J0 f n k 4 mn cx cy S2 (by first | with_reducible assumption | omega) (by first | with_reducible assumption | assumption) (by first | with_reducible assumption | omega) (by first | with_reducible assumption | omega) (by first | with_reducible assumption | omega)) (csV_167 hts rfl rfl ⟨Nat.le_of_ble_eq_true rfl, Nat.le_of_ble_eq_true rfl⟩) (zPV2 (q0 := 0) (ci := 9) hPc hDc hK hXN rfl rfl) rfl rfl hl.1 rfl (lv_room (Nat.le_of_ble_eq_true rfl)) dX11_folds_11 ⟨Nat.le_of_ble_eq_true rfl, Nat.le_of_ble_eq_true rfl⟩) hS hFc hFc rfl (fun t H locs ht hB hk1 hS => ?_)
  obtain ⟨S3, u0, u1, u2, u3, ur, hP1, hD1⟩ := hB
  rw [ht] at hP1
  obtain ⟨hP, hD⟩ := zn (W2 := [_, _, _, _, (oa (a 32) cI 8 S3)]) hP hD hk1 hFc hP1 hD1 [0, 1, 2, 3, 4] [] [false, false, false, false, false] [0, 1, 2, 3, 4] (by decide +kernel) rfl rfl rfl rfl rfl
  clear hk1 hPc hDc hFc hP1 hD1 ht
  have v0 : S3 0 = cF40 cx f i := (ur 0 (by omega)).trans t0
  have v1 : S3 1 = cF40 cy f i := (ur 1 (by omega)).trans t1
  have v2 : S3 2 = cF40 cx f (nxt n i) := (ur 2 (by omega)).trans t2
  have v3 : S3 3 = cF40 cy f (nxt n i) := (ur 3 (by omega)).trans t3
  have v4 : S3 4 = cF40 cx f k := u0
  have v5 : S3 5 = cF40 cy f k := u1
  have v6 : S3 6 = cF40 cx f (nxt n k) := u2
  have v7 : S3 7 = cF40 cy f (nxt n k) := u3
  refine lv_aload_n hx hb dX11_folds_14 rfl (lv_at hl 0 rfl) ?_
  refine va_get (D := (dC, dI)) (ci := 9) (v := .ref (a 32)) (C := RX11) (T := TX11) (N := 55) hx hb hts inX11 hown hK hP 0 rfl rfl 32 (Nat.le_of_ble_eq_true rfl) (hts _ mw_1191) (fun _ h9 => h9) rfl dX11_folds_15 ?_
  refine lv_iconst (v := 0) hx hb dX11_folds_18 rfl ?_
  refine z_iald hx hb hK hP 4 0 rfl rfl (e := 0) rfl (Nat.le_of_ble_eq_true rfl) (Nat.le_of_ble_eq_true rfl) dX11_folds_19 ?_
  refine zz_i (v := cF40 cx f i) (v0) ?_
  refine lv_i2l (v := (cF40 cx f i).toInt64) hx hb dX11_folds_20 (rfl) ?_
  refine lv_aload_n hx hb dX11_folds_21 rfl (lv_at hl 0 rfl) ?_
  refine va_get (D := (dC, dI)) (ci := 9) (v := .ref (a 32)) (C := RX11) (T := TX11) (N := 55) hx hb hts inX11 hown hK hP 0 rfl rfl 32 (Nat.le_of_ble_eq_true rfl) (hts _ mw_1191) (fun _ h9 => h9) rfl dX11_folds_22 ?_
  refine lv_iconst (v := 1) hx hb dX11_folds_25 rfl ?_
  refine z_iald hx hb hK hP 4 0 rfl rfl (e := 1) rfl (Nat.le_of_ble_eq_true rfl) (Nat.le_of_ble_eq_true rfl) dX11_folds_26 ?_
  refine zz_i (v := cF40 cy f i) (v1) ?_
  refine lv_i2l (v := (cF40 cy f i).toInt64) hx hb dX11_folds_27 (rfl) ?_
  refine lv_aload_n hx hb dX11_folds_28 rfl (lv_at hl 0 rfl) ?_
  refine va_get (D := (dC, dI)) (ci := 9) (v := .ref (a 32)) (C := RX11) (T := TX11) (N := 55) hx hb hts inX11 hown hK hP 0 rfl rfl 32 (Nat.le_of_ble_eq_true rfl) (hts _ mw_1191) (fun _ h9 => h9) rfl dX11_folds_29 ?_
  refine lv_iconst (v := 2) hx hb dX11_folds_32 rfl ?_
  refine z_iald hx hb hK hP 4 0 rfl rfl (e := 2) rfl (Nat.le_of_ble_eq_true rfl) (Nat.le_of_ble_eq_true rfl) dX11_folds_33 ?_
  refine zz_i (v := cF40 cx f (nxt n i)) (v2) ?_
  refine lv_i2l (v := (cF40 cx f (nxt n i)).toInt64) hx hb dX11_folds_34 (rfl) ?_
  refine lv_aload_n hx hb dX11_folds_35 rfl (lv_at hl 0 rfl) ?_
  refine va_get (D := (dC, dI)) (ci := 9) (v := .ref (a 32)) (C := RX11) (T := TX11) (N := 55) hx hb hts inX11 hown hK hP 0 rfl rfl 32 (Nat.le_of_ble_eq_true rfl) (hts _ mw_1191) (fun _ h9 => h9) rfl dX11_folds_36 ?_
  refine lv_iconst (v := 3) hx hb dX11_folds_39 rfl ?_
  refine z_iald hx hb hK hP 4 0 rfl rfl (e := 3) rfl (Nat.le_of_ble_eq_true rfl) (Nat.le_of_ble_eq_true rfl) dX11_folds_40 ?_
  refine zz_i (v := cF40 cy f (nxt n i)) (v3) ?_
  refine lv_i2l (v := (cF40 cy f (nxt n i)).toInt64) hx hb dX11_folds_41 (rfl) ?_
  refine lv_aload_n hx hb dX11_folds_42 rfl (lv_at hl 0 rfl) ?_
  refine va_get (D := (dC, dI)) (ci := 9) (v := .ref (a 32)) (C := RX11) (T := TX11) (N := 55) hx hb hts inX11 hown hK hP 0 rfl rfl 32 (Nat.le_of_ble_eq_true rfl) (hts _ mw_1191) (fun _ h9 => h9) rfl dX11_folds_43 ?_
  refine lv_bipush (v := 6) hx hb dX11_folds_46 rfl ?_
  refine z_iald hx hb hK hP 4 0 rfl rfl (e := 6) rfl (Nat.le_of_ble_eq_true rfl) (Nat.le_of_ble_eq_true rfl) dX11_folds_48 ?_
  refine zz_i (v := cF40 cx f (nxt n k)) (v6) ?_
  refine lv_i2l (v := (cF40 cx f (nxt n k)).toInt64) hx hb dX11_folds_49 (rfl) ?_
  refine lv_aload_n hx hb dX11_folds_50 rfl (lv_at hl 0 rfl) ?_
  refine va_get (D := (dC, dI)) (ci := 9) (v := .ref (a 32)) (C := RX11) (T := TX11) (N := 55) hx hb hts inX11 hown hK hP 0 rfl rfl 32 (Nat.le_of_ble_eq_true rfl) (hts _ mw_1191) (fun _ h9 => h9) rfl dX11_folds_51 ?_
  refine lv_bipush (v := 7) hx hb dX11_folds_54 rfl ?_
  refine z_iald hx hb hK hP 4 0 rfl rfl (e := 7) rfl (Nat.le_of_ble_eq_true rfl) (Nat.le_of_ble_eq_true rfl) dX11_folds_56 ?_
  refine zz_i (v := cF40 cy f (nxt n k)) (v7) ?_
  refine lv_i2l (v := (cF40 cy f (nxt n k)).toInt64) hx hb dX11_folds_57 (rfl) ?_
  have hB1 := crBp (hp_f i hi9).1 (hp_f i hi9).2 (hp_f _ hnx).1 (hp_f _ hnx).2 (hp_f _ hnk).1 (hp_f _ hnk).2
  obtain ⟨hPc, hDc, hFc, hI1⟩ := zi_sub (wc := []) hP hD hS hA [] rfl rfl
  refine zcall (st1 := [.long (jI (cr (cF40 cx f i).toInt (cF40 cy f i).toInt (cF40 cx f (nxt n i)).toInt (cF40 cy f (nxt n i)).toInt (cF40 cx f (nxt n k)).toInt (cF40 cy f (nxt n k)).toInt))]) (va_runS (As := [.long ((cF40 cx f i).toInt64), .long ((cF40 cy f i).toInt64), .long ((cF40 cx f (nxt n i)).toInt64), .long ((cF40 cy f (nxt n i)).toInt64), .long ((cF40 cx f (nxt n k)).toInt64), .long ((cF40 cy f (nxt n k)).toInt64)]) (rest := []) ⟨hx, hb, hml, hown, hts⟩ (k_M_cross l dC dI cI cZ cF H.size (cF40 cx f i) (cF40 cy f i) (cF40 cx f (nxt n i)) (cF40 cy f (nxt n i)) (cF40 cx f (nxt n k)) (cF40 cy f (nxt n k)) ((hp_f i hi9).1) ((hp_f i hi9).2) ((hp_f _ hnx).1) ((hp_f _ hnx).2) ((hp_f _ hnk).1) ((hp_f _ hnk).2)) (csS_162 hts rfl rfl ⟨Nat.le_of_ble_eq_true rfl, Nat.le_of_ble_eq_true rfl⟩) (zPS2 hPc hDc hK hXN) rfl rfl hl.1 rfl (lv_room (Nat.le_of_ble_eq_true rfl)) dX11_folds_58 ⟨Nat.le_of_ble_eq_true rfl, Nat.le_of_ble_eq_true rfl⟩) hS hFc hFc rfl (fun t H locs ht hB hk1 hS => ?_)
  obtain ⟨hP1, hD1⟩ := hB
  rw [ht] at hP1
  replace hP := z0 hP hD hk1 hP1 hI1
  clear hk1 hPc hDc hFc hP1 hD1 ht hI1
  refine lv_lconst (v := 0) hx hb dX11_folds_61 rfl ?_
  refine W.lcmp hx hb dX11_folds_62 ?_
  refine lv_if_eq (tgt := 68) hx hb dX11_folds_63 rfl (fun c_1 => ?_) (fun c_1 => ?_)
  · have c_1 : (cr (cF40 cx f i).toInt (cF40 cy f i).toInt (cF40 cx f (nxt n i)).toInt (cF40 cy f (nxt n i)).toInt (cF40 cx f (nxt n k)).toInt (cF40 cy f (nxt n k)).toInt) = 0 := zl_eq (jI_toInt (by omega)) rfl c_1
    refine lv_aload_n hx hb dX11_folds_68 rfl (lv_at hl 0 rfl) ?_
    refine va_get (D := (dC, dI)) (ci := 9) (v := .ref (a 32)) (C := RX11) (T := TX11) (N := 55) hx hb hts inX11 hown hK hP 0 rfl rfl 32 (Nat.le_of_ble_eq_true rfl) (hts _ mw_1191) (fun _ h9 => h9) rfl dX11_folds_69 ?_
    refine lv_iconst (v := 0) hx hb dX11_folds_72 rfl ?_
    refine z_iald hx hb hK hP 4 0 rfl rfl (e := 0) rfl (Nat.le_of_ble_eq_true rfl) (Nat.le_of_ble_eq_true rfl) dX11_folds_73 ?_
    refine zz_i (v := cF40 cx f i) (v0) ?_
    refine lv_aload_n hx hb dX11_folds_74 rfl (lv_at hl 0 rfl) ?_
    refine va_get (D := (dC, dI)) (ci := 9) (v := .ref (a 32)) (C := RX11) (T := TX11) (N := 55) hx hb hts inX11 hown hK hP 0 rfl rfl 32 (Nat.le_of_ble_eq_true rfl) (hts _ mw_1191) (fun _ h9 => h9) rfl dX11_folds_75 ?_
    refine lv_iconst (v := 2) hx hb dX11_folds_78 rfl ?_
    refine z_iald hx hb hK hP 4 0 rfl rfl (e := 2) rfl (Nat.le_of_ble_eq_true rfl) (Nat.le_of_ble_eq_true rfl) dX11_folds_79 ?_
    refine zz_i (v := cF40 cx f (nxt n i)) (v2) ?_
    refine lv_isub hx hb dX11_folds_80 ?_
    refine lv_i2l (v := ((cF40 cx f i) - (cF40 cx f (nxt n i))).toInt64) hx hb dX11_folds_81 (rfl) ?_
    refine lv_aload_n hx hb dX11_folds_82 rfl (lv_at hl 0 rfl) ?_
    refine va_get (D := (dC, dI)) (ci := 9) (v := .ref (a 32)) (C := RX11) (T := TX11) (N := 55) hx hb hts inX11 hown hK hP 0 rfl rfl 32 (Nat.le_of_ble_eq_true rfl) (hts _ mw_1191) (fun _ h9 => h9) rfl dX11_folds_83 ?_
    refine lv_bipush (v := 6) hx hb dX11_folds_86 rfl ?_
    refine z_iald hx hb hK hP 4 0 rfl rfl (e := 6) rfl (Nat.le_of_ble_eq_true rfl) (Nat.le_of_ble_eq_true rfl) dX11_folds_88 ?_
    refine zz_i (v := cF40 cx f (nxt n k)) (v6) ?_
    refine lv_aload_n hx hb dX11_folds_89 rfl (lv_at hl 0 rfl) ?_
    refine va_get (D := (dC, dI)) (ci := 9) (v := .ref (a 32)) (C := RX11) (T := TX11) (N := 55) hx hb hts inX11 hown hK hP 0 rfl rfl 32 (Nat.le_of_ble_eq_true rfl) (hts _ mw_1191) (fun _ h9 => h9) rfl dX11_folds_90 ?_
    refine lv_iconst (v := 2) hx hb dX11_folds_93 rfl ?_
    refine z_iald hx hb hK hP 4 0 rfl rfl (e := 2) rfl (Nat.le_of_ble_eq_true rfl) (Nat.le_of_ble_eq_true rfl) dX11_folds_94 ?_
    refine zz_i (v := cF40 cx f (nxt n i)) (v2) ?_
    refine lv_isub hx hb dX11_folds_95 ?_
    refine lv_i2l (v := ((cF40 cx f (nxt n k)) - (cF40 cx f (nxt n i))).toInt64) hx hb dX11_folds_96 (rfl) ?_
    refine lv_lmul hx hb dX11_folds_97 ?_
    refine zz_l (v := jI (((cF40 cx f i).toInt - (cF40 cx f (nxt n i)).toInt) * ((cF40 cx f (nxt n k)).toInt - (cF40 cx f (nxt n i)).toInt))) (mlL (hp_f i hi9).1 (hp_f _ hnx).1 (hp_f _ hnk).1 (hp_f _ hnx).1) ?_
    have hB2 := mlB (hp_f i hi9).1 (hp_f _ hnx).1 (hp_f _ hnk).1 (hp_f _ hnx).1
    refine lv_aload_n hx hb dX11_folds_98 rfl (lv_at hl 0 rfl) ?_
    refine va_get (D := (dC, dI)) (ci := 9) (v := .ref (a 32)) (C := RX11) (T := TX11) (N := 55) hx hb hts inX11 hown hK hP 0 rfl rfl 32 (Nat.le_of_ble_eq_true rfl) (hts _ mw_1191) (fun _ h9 => h9) rfl dX11_folds_99 ?_
    refine lv_iconst (v := 1) hx hb dX11_folds_102 rfl ?_
    refine z_iald hx hb hK hP 4 0 rfl rfl (e := 1) rfl (Nat.le_of_ble_eq_true rfl) (Nat.le_of_ble_eq_true rfl) dX11_folds_103 ?_
    refine zz_i (v := cF40 cy f i) (v1) ?_
    refine lv_aload_n hx hb dX11_folds_104 rfl (lv_at hl 0 rfl) ?_
    refine va_get (D := (dC, dI)) (ci := 9) (v := .ref (a 32)) (C := RX11) (T := TX11) (N := 55) hx hb hts inX11 hown hK hP 0 rfl rfl 32 (Nat.le_of_ble_eq_true rfl) (hts _ mw_1191) (fun _ h9 => h9) rfl dX11_folds_105 ?_
    refine lv_iconst (v := 3) hx hb dX11_folds_108 rfl ?_
    refine z_iald hx hb hK hP 4 0 rfl rfl (e := 3) rfl (Nat.le_of_ble_eq_true rfl) (Nat.le_of_ble_eq_true rfl) dX11_folds_109 ?_
    refine zz_i (v := cF40 cy f (nxt n i)) (v3) ?_
    refine lv_isub hx hb dX11_folds_110 ?_
    refine lv_i2l (v := ((cF40 cy f i) - (cF40 cy f (nxt n i))).toInt64) hx hb dX11_folds_111 (rfl) ?_
    refine lv_aload_n hx hb dX11_folds_112 rfl (lv_at hl 0 rfl) ?_
    refine va_get (D := (dC, dI)) (ci := 9) (v := .ref (a 32)) (C := RX11) (T := TX11) (N := 55) hx hb hts inX11 hown hK hP 0 rfl rfl 32 (Nat.le_of_ble_eq_true rfl) (hts _ mw_1191) (fun _ h9 => h9) rfl dX11_folds_113 ?_
    refine lv_bipush (v := 7) hx hb dX11_folds_116 rfl ?_
    refine z_iald hx hb hK hP 4 0 rfl rfl (e := 7) rfl (Nat.le_of_ble_eq_true rfl) (Nat.le_of_ble_eq_true rfl) dX11_folds_118 ?_
    refine zz_i (v := cF40 cy f (nxt n k)) (v7) ?_
    refine lv_aload_n hx hb dX11_folds_119 rfl (lv_at hl 0 rfl) ?_
    refine va_get (D := (dC, dI)) (ci := 9) (v := .ref (a 32)) (C := RX11) (T := TX11) (N := 55) hx hb hts inX11 hown hK hP 0 rfl rfl 32 (Nat.le_of_ble_eq_true rfl) (hts _ mw_1191) (fun _ h9 => h9) rfl dX11_folds_120 ?_
    refine lv_iconst (v := 3) hx hb dX11_folds_123 rfl ?_
    refine z_iald hx hb hK hP 4 0 rfl rfl (e := 3) rfl (Nat.le_of_ble_eq_true rfl) (Nat.le_of_ble_eq_true rfl) dX11_folds_124 ?_
    refine zz_i (v := cF40 cy f (nxt n i)) (v3) ?_
    refine lv_isub hx hb dX11_folds_125 ?_
    refine lv_i2l (v := ((cF40 cy f (nxt n k)) - (cF40 cy f (nxt n i))).toInt64) hx hb dX11_folds_126 (rfl) ?_
    refine lv_lmul hx hb dX11_folds_127 ?_
    refine zz_l (v := jI (((cF40 cy f i).toInt - (cF40 cy f (nxt n i)).toInt) * ((cF40 cy f (nxt n k)).toInt - (cF40 cy f (nxt n i)).toInt))) (mlL (hp_f i hi9).2 (hp_f _ hnx).2 (hp_f _ hnk).2 (hp_f _ hnx).2) ?_
    have hB3 := mlB (hp_f i hi9).2 (hp_f _ hnx).2 (hp_f _ hnk).2 (hp_f _ hnx).2
    refine lv_ladd hx hb dX11_folds_128 ?_
    refine zz_l (v := jI (((cF40 cx f i).toInt - (cF40 cx f (nxt n i)).toInt) * ((cF40 cx f (nxt n k)).toInt - (cF40 cx f (nxt n i)).toInt) + ((cF40 cy f i).toInt - (cF40 cy f (nxt n i)).toInt) * ((cF40 cy f (nxt n k)).toInt - (cF40 cy f (nxt n i)).toInt))) (jI_add (by omega) (by omega)) ?_
    refine lv_lstore (lv' := [(4, .long (jI (((cF40 cx f i).toInt - (cF40 cx f (nxt n i)).toInt) * ((cF40 cx f (nxt n k)).toInt - (cF40 cx f (nxt n i)).toInt) + ((cF40 cy f i).toInt - (cF40 cy f (nxt n i)).toInt) * ((cF40 cy f (nxt n k)).toInt - (cF40 cy f (nxt n i)).toInt)))), (0, .ref k0), (1, .int (nI f)), (2, .int (nI i)), (3, .int (nI k))]) hx hb dX11_folds_129 hl (Nat.le_of_ble_eq_true rfl) rfl (fun ls hl => ?_)
    refine lv_lload hx hb dX11_folds_131 (lv_at hl 0 rfl) ?_
    refine lv_lconst (v := 0) hx hb dX11_folds_133 rfl ?_
    refine W.lcmp hx hb dX11_folds_134 ?_
    refine lv_if_le (tgt := 142) hx hb dX11_folds_135 rfl (fun c_2 => ?_) (fun c_2 => ?_)
    · have c_2 : (((cF40 cx f i).toInt - (cF40 cx f (nxt n i)).toInt) * ((cF40 cx f (nxt n k)).toInt - (cF40 cx f (nxt n i)).toInt) + ((cF40 cy f i).toInt - (cF40 cy f (nxt n i)).toInt) * ((cF40 cy f (nxt n k)).toInt - (cF40 cy f (nxt n i)).toInt)) ≤ 0 := zl_le (jI_toInt (by omega)) rfl c_2
      refine lv_iconst (v := 0) hx hb dX11_folds_142 rfl ?_
      obtain ⟨hP9, hD9⟩ := zu_sub (wc := [_, _, _, _, _]) hP hD [true, true, true, true, true] rfl rfl
      rw [hQ9]
      exact W.zret (ty := .boolean) (v := 0) hx hb hr (rfl) (fun t ht hW => ⟨⟨congrArg (fun z => Outcome.returned (some (Value.int z))) (show (0 : Int32) = pI (mFl n (cF40 cx f) (cF40 cy f) i k) from (zp_f (by unfold mFl fld dt; omega)).symm), S3, by rw [ht]; exact hP9, hD9⟩, hS.F ht⟩) hS.2.2 dX11_folds_143
    · have c_2 : 0 < (((cF40 cx f i).toInt - (cF40 cx f (nxt n i)).toInt) * ((cF40 cx f (nxt n k)).toInt - (cF40 cx f (nxt n i)).toInt) + ((cF40 cy f i).toInt - (cF40 cy f (nxt n i)).toInt) * ((cF40 cy f (nxt n k)).toInt - (cF40 cy f (nxt n i)).toInt)) := zl_nle (jI_toInt (by omega)) rfl c_2
      refine lv_iconst (v := 1) hx hb dX11_folds_138 rfl ?_
      refine lv_goto (tgt := 143) hx hb dX11_folds_139 rfl ?_
      obtain ⟨hP9, hD9⟩ := zu_sub (wc := [_, _, _, _, _]) hP hD [true, true, true, true, true] rfl rfl
      rw [hQ9]
      exact W.zret (ty := .boolean) (v := 1) hx hb hr (rfl) (fun t ht hW => ⟨⟨congrArg (fun z => Outcome.returned (some (Value.int z))) (show (1 : Int32) = pI (mFl n (cF40 cx f) (cF40 cy f) i k) from (zp_t (by unfold mFl fld dt; omega)).symm), S3, by rw [ht]; exact hP9, hD9⟩, hS.F ht⟩) hS.2.2 dX11_folds_143
  · have c_1 : ¬ (cr (cF40 cx f i).toInt (cF40 cy f i).toInt (cF40 cx f (nxt n i)).toInt (cF40 cy f (nxt n i)).toInt (cF40 cx f (nxt n k)).toInt (cF40 cy f (nxt n k)).toInt) = 0 := zl_ne (jI_toInt (by omega)) rfl c_1
    refine lv_iconst (v := 0) hx hb dX11_folds_66 rfl ?_
    obtain ⟨hP9, hD9⟩ := zu_sub (wc := [_, _, _, _, _]) hP hD [true, true, true, true, true] rfl rfl
    rw [hQ9]
    exact W.zret (ty := .boolean) (v := 0) hx hb hr (rfl) (fun t ht hW => ⟨⟨congrArg (fun z => Outcome.returned (some (Value.int z))) (show (0 : Int32) = pI (mFl n (cF40 cx f) (cF40 cy f) i k) from (zp_f (by unfold mFl fld; omega)).symm), S3, by rw [ht]; exact hP9, hD9⟩, hS.F ht⟩) hS.2.2 dX11_folds_67
set_option maxHeartbeats 4000000 in
set_option maxRecDepth 100000 in
theorem k_M_arePlaces (l : Launch) (dC : Nat → ClassId) (dI : Nat → Nat → Nat) (cI cZ cF : ClassId) (sz : Nat) (k0 : Nat) (a : Nat → Nat) (I0 : Nat → Int32) (J0 : Nat → Int64) (f : Nat) (n : Nat) (mn : Nat → Int32) (cx : Nat → Int32) (cy : Nat → Int32) (hf_f : f ≤ 200) (hm_f : mn f = nI n) (hn_f : n ≤ 40) : zM l yX11_arePlaces cX11_arePlaces 5 (some .boolean) ({ frames := 0, cells := 0, slots := 0, locals := 0 } : Room) [.ref k0, .int (nI f)] (dC, dI) (zTy cI cZ cF) [(om k0 a I0 J0), (oa (a 11) cI 201 mn), (oa (a 12) cI 8040 cx), (oa (a 13) cI 8040 cy)] sz (some (.int (pI (pls n (cF40 cx f) (cF40 cy f))))) (fun A t => zPD (dC, dI) classes A [(om k0 a I0 J0), (oa (a 11) cI 201 mn), (oa (a 12) cI 8040 cx), (oa (a 13) cI 8040 cy)] t.heap) 0 0 := by
  refine zIn (own := "ScaleShopModel") (loc := [(0, .ref k0), (1, .int (nI f))]) rfl rfl rfl rfl (fun p e s m below meth c hx hb hr hts hown hlocks hml hnm9 A hA hS hP hD hK hXN Q9 hQ9 ls hl => ?_)
  refine lv_iconst (v := 0) hx hb dX11_arePlaces_0 rfl ?_
  refine lv_istore_n (lv' := [(2, .int 0), (0, .ref k0), (1, .int (nI f))]) hx hb dX11_arePlaces_1 rfl hl (Nat.le_of_ble_eq_true rfl) rfl (fun ls hl => ?_)
  have hl_2 : ∀ (n9 : Nat) (i : Nat) (H : Heap) (locs : List Loc) (ls : Array Slot), n - i < n9 → (i ≤ n) → (∀ k, k < i → pl (cF40 cx f k) ∧ pl (cF40 cy f k)) → va_P (dC, dI) classes [(om k0 a I0 J0), (oa (a 11) cI 201 mn), (oa (a 12) cI 8040 cx), (oa (a 13) cI 8040 cy)] H → va_D A [(om k0 a I0 J0), (oa (a 11) cI 201 mn), (oa (a 12) cI 8040 cx), (oa (a 13) cI 8040 cy)] → va_S A s.heap H locs → lv_has ls 5 [(2, .int (nI i)), (0, .ref k0), (1, .int (nI f))] → W p l e ({ frames := 0, cells := 0, slots := 0, locals := 0 } : Room) s m ([.ref k0, .int (nI f)] : List Value).toArray below meth c H locs 0 0 Q9 (F0 m 2 ls []) := by
    intro n9
    induction n9 with
    | zero => intro i H locs ls hm; exact absurd hm (Nat.not_lt_zero _)
    | succ n9 ih_2 =>
      intro i H locs ls hm hi hall hP hD hS hl
      refine lv_iload_n hx hb dX11_arePlaces_2 rfl (lv_at hl 0 rfl) ?_
      refine lv_aload_n hx hb dX11_arePlaces_3 rfl (lv_at hl 1 rfl) ?_
      refine va_get (D := (dC, dI)) (ci := 9) (v := .ref (a 11)) (C := RX11) (T := TX11) (N := 55) hx hb hts inX11 hown hK hP 0 rfl rfl 11 (Nat.le_of_ble_eq_true rfl) (hts _ mw_1170) (fun _ h9 => h9) rfl dX11_arePlaces_4 ?_
      refine lv_iload_n hx hb dX11_arePlaces_7 rfl (lv_at hl 2 rfl) ?_
      have b9_1 : f < 201 := by omega
      refine z_iald hx hb hK hP 1 0 rfl rfl (e := f) rfl b9_1 (Nat.le_of_ble_eq_true rfl) dX11_arePlaces_8 ?_
      refine zz_i (v := nI n) (hm_f) ?_
      have b9_3 : zlt (i) := show i < 2147483648 by omega
      have b9_4 : zlt (n) := show n < 2147483648 by omega
      refine lv_icmp_ge (tgt := 69) hx hb dX11_arePlaces_9 rfl (fun c_2 => ?_) (fun c_2 => ?_)
      · have c_2 : ((n : Nat) : Int) ≤ ((i : Nat) : Int) := zc_le (nI_toInt b9_4) (nI_toInt b9_3) c_2
        refine lv_iconst (v := 1) hx hb dX11_arePlaces_69 rfl ?_
        obtain ⟨hP9, hD9⟩ := zu_sub (wc := [_, _, _, _]) hP hD [true, true, true, true] rfl rfl
        rw [hQ9]
        exact W.zret (ty := .boolean) (v := 1) hx hb hr (rfl) (fun t ht hW => ⟨⟨congrArg (fun z => Outcome.returned (some (Value.int z))) (show (1 : Int32) = pI (pls n (cF40 cx f) (cF40 cy f)) from (zp_t (fun k hk => hall k (by omega))).symm), by rw [ht]; exact hP9, hD9⟩, hS.F ht⟩) hS.2.2 dX11_arePlaces_70
      · have c_2 : ((i : Nat) : Int) < ((n : Nat) : Int) := zc_nle (nI_toInt b9_4) (nI_toInt b9_3) c_2
        refine lv_aload_n hx hb dX11_arePlaces_12 rfl (lv_at hl 1 rfl) ?_
        refine va_get (D := (dC, dI)) (ci := 9) (v := .ref (a 12)) (C := RX11) (T := TX11) (N := 55) hx hb hts inX11 hown hK hP 0 rfl rfl 12 (Nat.le_of_ble_eq_true rfl) (hts _ mw_1171) (fun _ h9 => h9) rfl dX11_arePlaces_13 ?_
        refine lv_bipush (v := 40) hx hb dX11_arePlaces_16 rfl ?_
        refine lv_iload_n hx hb dX11_arePlaces_18 rfl (lv_at hl 2 rfl) ?_
        refine lv_imul hx hb dX11_arePlaces_19 ?_
        refine zz_i (v := nI (40 * f)) (pk_mul 40 f) ?_
        refine lv_iload_n hx hb dX11_arePlaces_20 rfl (lv_at hl 0 rfl) ?_
        refine lv_iadd hx hb dX11_arePlaces_21 ?_
        refine zz_i (v := nI (40 * f + i)) (nI_add (40 * f) i) ?_
        have b9_5 : 40 * f + i < 8040 := by omega
        refine z_iald hx hb hK hP 2 0 rfl rfl (e := 40 * f + i) rfl b9_5 (Nat.le_of_ble_eq_true rfl) dX11_arePlaces_22 ?_
        refine lv_istore_n (lv' := [(3, .int (cx (40 * f + i))), (2, .int (nI i)), (0, .ref k0), (1, .int (nI f))]) hx hb dX11_arePlaces_23 rfl hl (Nat.le_of_ble_eq_true rfl) rfl (fun ls hl => ?_)
        refine lv_aload_n hx hb dX11_arePlaces_24 rfl (lv_at hl 2 rfl) ?_
        refine va_get (D := (dC, dI)) (ci := 9) (v := .ref (a 13)) (C := RX11) (T := TX11) (N := 55) hx hb hts inX11 hown hK hP 0 rfl rfl 13 (Nat.le_of_ble_eq_true rfl) (hts _ mw_1172) (fun _ h9 => h9) rfl dX11_arePlaces_25 ?_
        refine lv_bipush (v := 40) hx hb dX11_arePlaces_28 rfl ?_
        refine lv_iload_n hx hb dX11_arePlaces_30 rfl (lv_at hl 3 rfl) ?_
        refine lv_imul hx hb dX11_arePlaces_31 ?_
        refine zz_i (v := nI (40 * f)) (pk_mul 40 f) ?_
        refine lv_iload_n hx hb dX11_arePlaces_32 rfl (lv_at hl 1 rfl) ?_
        refine lv_iadd hx hb dX11_arePlaces_33 ?_
        refine zz_i (v := nI (40 * f + i)) (nI_add (40 * f) i) ?_
        refine z_iald hx hb hK hP 3 0 rfl rfl (e := 40 * f + i) rfl b9_5 (Nat.le_of_ble_eq_true rfl) dX11_arePlaces_34 ?_
        refine lv_istore (lv' := [(4, .int (cy (40 * f + i))), (3, .int (cx (40 * f + i))), (2, .int (nI i)), (0, .ref k0), (1, .int (nI f))]) hx hb dX11_arePlaces_35 hl (Nat.le_of_ble_eq_true rfl) rfl (fun ls hl => ?_)
        refine lv_iload_n hx hb dX11_arePlaces_37 rfl (lv_at hl 1 rfl) ?_
        refine lv_if_lt (tgt := 61) hx hb dX11_arePlaces_38 rfl (fun c_6 => ?_) (fun c_6 => ?_)
        · have c_6 : (cx (40 * f + i)).toInt < 0 := zc_lt rfl rfl c_6
          refine lv_iconst (v := 0) hx hb dX11_arePlaces_61 rfl ?_
          obtain ⟨hP9, hD9⟩ := zu_sub (wc := [_, _, _, _]) hP hD [true, true, true, true] rfl rfl
          rw [hQ9]
          exact W.zret (ty := .boolean) (v := 0) hx hb hr (rfl) (fun t ht hW => ⟨⟨congrArg (fun z => Outcome.returned (some (Value.int z))) (show (0 : Int32) = pI (pls n (cF40 cx f) (cF40 cy f)) from (zp_f (fun h => by have h9 := h i (by omega); have h91 : pl (cx (40 * f + i)) := h9.1; have h92 : pl (cy (40 * f + i)) := h9.2; unfold pl at h91 h92; omega)).symm), by rw [ht]; exact hP9, hD9⟩, hS.F ht⟩) hS.2.2 dX11_arePlaces_62
        · have c_6 : 0 ≤ (cx (40 * f + i)).toInt := zc_nlt rfl rfl c_6
          refine lv_iload_n hx hb dX11_arePlaces_41 rfl (lv_at hl 1 rfl) ?_
          refine lv_sipush (v := 1000) hx hb dX11_arePlaces_42 rfl ?_
          refine lv_icmp_gt (tgt := 61) hx hb dX11_arePlaces_45 rfl (fun c_7 => ?_) (fun c_7 => ?_)
          · have c_7 : 1000 < (cx (40 * f + i)).toInt := zc_lt rfl rfl c_7
            refine lv_iconst (v := 0) hx hb dX11_arePlaces_61 rfl ?_
            obtain ⟨hP9, hD9⟩ := zu_sub (wc := [_, _, _, _]) hP hD [true, true, true, true] rfl rfl
            rw [hQ9]
            exact W.zret (ty := .boolean) (v := 0) hx hb hr (rfl) (fun t ht hW => ⟨⟨congrArg (fun z => Outcome.returned (some (Value.int z))) (show (0 : Int32) = pI (pls n (cF40 cx f) (cF40 cy f)) from (zp_f (fun h => by have h9 := h i (by omega); have h91 : pl (cx (40 * f + i)) := h9.1; have h92 : pl (cy (40 * f + i)) := h9.2; unfold pl at h91 h92; omega)).symm), by rw [ht]; exact hP9, hD9⟩, hS.F ht⟩) hS.2.2 dX11_arePlaces_62
          · have c_7 : (cx (40 * f + i)).toInt ≤ 1000 := zc_nlt rfl rfl c_7
            refine lv_iload hx hb dX11_arePlaces_48 (lv_at hl 0 rfl) ?_
            refine lv_if_lt (tgt := 61) hx hb dX11_arePlaces_50 rfl (fun c_8 => ?_) (fun c_8 => ?_)
            · have c_8 : (cy (40 * f + i)).toInt < 0 := zc_lt rfl rfl c_8
              refine lv_iconst (v := 0) hx hb dX11_arePlaces_61 rfl ?_
              obtain ⟨hP9, hD9⟩ := zu_sub (wc := [_, _, _, _]) hP hD [true, true, true, true] rfl rfl
              rw [hQ9]
              exact W.zret (ty := .boolean) (v := 0) hx hb hr (rfl) (fun t ht hW => ⟨⟨congrArg (fun z => Outcome.returned (some (Value.int z))) (show (0 : Int32) = pI (pls n (cF40 cx f) (cF40 cy f)) from (zp_f (fun h => by have h9 := h i (by omega); have h91 : pl (cx (40 * f + i)) := h9.1; have h92 : pl (cy (40 * f + i)) := h9.2; unfold pl at h91 h92; omega)).symm), by rw [ht]; exact hP9, hD9⟩, hS.F ht⟩) hS.2.2 dX11_arePlaces_62
            · have c_8 : 0 ≤ (cy (40 * f + i)).toInt := zc_nlt rfl rfl c_8
              refine lv_iload hx hb dX11_arePlaces_53 (lv_at hl 0 rfl) ?_
              refine lv_sipush (v := 1000) hx hb dX11_arePlaces_55 rfl ?_
              refine lv_icmp_le (tgt := 63) hx hb dX11_arePlaces_58 rfl (fun c_9 => ?_) (fun c_9 => ?_)
              · have c_9 : (cy (40 * f + i)).toInt ≤ 1000 := zc_le rfl rfl c_9
                refine lv_iinc (v := nI (i + 1)) (lv' := [(2, .int (nI (i + 1))), (4, .int (cy (40 * f + i))), (3, .int (cx (40 * f + i))), (0, .ref k0), (1, .int (nI f))]) hx hb dX11_arePlaces_63 hl (k := 2) rfl (nI_add i 1) (Nat.le_of_ble_eq_true rfl) rfl (fun ls hl => ?_)
                refine lv_goto (tgt := 2) hx hb dX11_arePlaces_66 rfl ?_
                exact ih_2 (i + 1) H locs ls (by first | with_reducible assumption | omega) (by first | with_reducible assumption | omega) (by intro k hk; rcases Nat.lt_or_ge k i with h | h; exact hall k h; rw [show k = i by omega]; show pl (cx (40 * f + i)) ∧ pl (cy (40 * f + i)); unfold pl; omega) hP hD hS (lv_sub hl [0, 3, 4] rfl)
              · have c_9 : 1000 < (cy (40 * f + i)).toInt := zc_nle rfl rfl c_9
                refine lv_iconst (v := 0) hx hb dX11_arePlaces_61 rfl ?_
                obtain ⟨hP9, hD9⟩ := zu_sub (wc := [_, _, _, _]) hP hD [true, true, true, true] rfl rfl
                rw [hQ9]
                exact W.zret (ty := .boolean) (v := 0) hx hb hr (rfl) (fun t ht hW => ⟨⟨congrArg (fun z => Outcome.returned (some (Value.int z))) (show (0 : Int32) = pI (pls n (cF40 cx f) (cF40 cy f)) from (zp_f (fun h => by have h9 := h i (by omega); have h91 : pl (cx (40 * f + i)) := h9.1; have h92 : pl (cy (40 * f + i)) := h9.2; unfold pl at h91 h92; omega)).symm), by rw [ht]; exact hP9, hD9⟩, hS.F ht⟩) hS.2.2 dX11_arePlaces_62
  exact hl_2 _ 0 s.heap [] ls (Nat.lt_succ_self _) (by first | with_reducible assumption | omega) (by intro k hk; omega) hP hD hS (lv_sub hl [0, 1, 2] rfl)
set_option maxHeartbeats 4000000 in
set_option maxRecDepth 100000 in
theorem k_M_isSquare (l : Launch) (dC : Nat → ClassId) (dI : Nat → Nat → Nat) (cI cZ cF : ClassId) (sz : Nat) (k0 : Nat) (a : Nat → Nat) (I0 : Nat → Int32) (J0 : Nat → Int64) (f : Nat) (n : Nat) (mn : Nat → Int32) (cx : Nat → Int32) (cy : Nat → Int32) (S0 : Nat → Int32) (hf_f : f ≤ 200) (hm_f : mn f = nI n) (hn_f : 1 ≤ n ∧ n ≤ 40) (hp_f : pls n (cF40 cx f) (cF40 cy f)) : zM l yX11_isSquare cX11_isSquare 3 (some .boolean) ({ frames := 1, cells := 0, slots := 0, locals := 25 } : Room) [.ref k0, .int (nI f)] (dC, dI) (zTy cI cZ cF) [(om k0 a I0 J0), (oa (a 11) cI 201 mn), (oa (a 12) cI 8040 cx), (oa (a 13) cI 8040 cy), (oa (a 32) cI 8 S0)] sz (some (.int (pI (∀ k, k < n → eRt n (cF40 cx f) (cF40 cy f) k)))) (fun A t => ∃ (S1 : Nat → Int32), zPD (dC, dI) classes A [(om k0 a I0 J0), (oa (a 11) cI 201 mn), (oa (a 12) cI 8040 cx), (oa (a 13) cI 8040 cy), (oa (a 32) cI 8 S1)] t.heap) 0 0 := by
  refine zIn (own := "ScaleShopModel") (loc := [(0, .ref k0), (1, .int (nI f))]) rfl rfl rfl rfl (fun p e s m below meth c hx hb hr hts hown hlocks hml hnm9 A hA hS hP hD hK hXN Q9 hQ9 ls hl => ?_)
  refine lv_iconst (v := 0) hx hb dX11_isSquare_0 rfl ?_
  refine lv_istore_n (lv' := [(2, .int 0), (0, .ref k0), (1, .int (nI f))]) hx hb dX11_isSquare_1 rfl hl (Nat.le_of_ble_eq_true rfl) rfl (fun ls hl => ?_)
  have hl_2 : ∀ (n9 : Nat) (i : Nat) (S1 : Nat → Int32) (H : Heap) (locs : List Loc) (ls : Array Slot), n - i < n9 → (i ≤ n) → (∀ j, j < i → eRt n (cF40 cx f) (cF40 cy f) (nxt n j)) → va_P (dC, dI) classes [(om k0 a I0 J0), (oa (a 11) cI 201 mn), (oa (a 12) cI 8040 cx), (oa (a 13) cI 8040 cy), (oa (a 32) cI 8 S1)] H → va_D A [(om k0 a I0 J0), (oa (a 11) cI 201 mn), (oa (a 12) cI 8040 cx), (oa (a 13) cI 8040 cy), (oa (a 32) cI 8 S1)] → va_S A s.heap H locs → lv_has ls 3 [(2, .int (nI i)), (0, .ref k0), (1, .int (nI f))] → W p l e ({ frames := 1, cells := 0, slots := 0, locals := 25 } : Room) s m ([.ref k0, .int (nI f)] : List Value).toArray below meth c H locs 0 0 Q9 (F0 m 2 ls []) := by
    intro n9
    induction n9 with
    | zero => intro i S1 H locs ls hm; exact absurd hm (Nat.not_lt_zero _)
    | succ n9 ih_2 =>
      intro i S1 H locs ls hm hi hall hP hD hS hl
      refine lv_iload_n hx hb dX11_isSquare_2 rfl (lv_at hl 0 rfl) ?_
      refine lv_aload_n hx hb dX11_isSquare_3 rfl (lv_at hl 1 rfl) ?_
      refine va_get (D := (dC, dI)) (ci := 9) (v := .ref (a 11)) (C := RX11) (T := TX11) (N := 55) hx hb hts inX11 hown hK hP 0 rfl rfl 11 (Nat.le_of_ble_eq_true rfl) (hts _ mw_1170) (fun _ h9 => h9) rfl dX11_isSquare_4 ?_
      refine lv_iload_n hx hb dX11_isSquare_7 rfl (lv_at hl 2 rfl) ?_
      have b9_1 : f < 201 := by omega
      refine z_iald hx hb hK hP 1 0 rfl rfl (e := f) rfl b9_1 (Nat.le_of_ble_eq_true rfl) dX11_isSquare_8 ?_
      refine zz_i (v := nI n) (hm_f) ?_
      have b9_3 : zlt (i) := show i < 2147483648 by omega
      have b9_4 : zlt (n) := show n < 2147483648 by omega
      refine lv_icmp_ge (tgt := 118) hx hb dX11_isSquare_9 rfl (fun c_2 => ?_) (fun c_2 => ?_)
      · have c_2 : ((n : Nat) : Int) ≤ ((i : Nat) : Int) := zc_le (nI_toInt b9_4) (nI_toInt b9_3) c_2
        refine lv_iconst (v := 1) hx hb dX11_isSquare_118 rfl ?_
        obtain ⟨hP9, hD9⟩ := zu_sub (wc := [_, _, _, _, _]) hP hD [true, true, true, true, true] rfl rfl
        rw [hQ9]
        exact W.zret (ty := .boolean) (v := 1) hx hb hr (rfl) (fun t ht hW => ⟨⟨congrArg (fun z => Outcome.returned (some (Value.int z))) (show (1 : Int32) = pI (∀ k, k < n → eRt n (cF40 cx f) (cF40 cy f) k) from (zp_t (fun k hk => by have h9 := hall (prv n k) (by have := prv_lt (n := n) (i := k) hk; omega); rw [nxt_prv hk] at h9; exact h9)).symm), S1, by rw [ht]; exact hP9, hD9⟩, hS.F ht⟩) hS.2.2 dX11_isSquare_119
      · have c_2 : ((i : Nat) : Int) < ((n : Nat) : Int) := zc_nle (nI_toInt b9_4) (nI_toInt b9_3) c_2
        have hi9 : i < n := (by omega)
        have hnx := nxt_lt (n := n) (i := i) (by omega)
        have hnk := nxt_lt (n := n) (i := nxt n i) (by omega)
        refine lv_aload_n hx hb dX11_isSquare_12 rfl (lv_at hl 1 rfl) ?_
        refine lv_iload_n hx hb dX11_isSquare_13 rfl (lv_at hl 2 rfl) ?_
        refine lv_iload_n hx hb dX11_isSquare_14 rfl (lv_at hl 0 rfl) ?_
        refine lv_iconst (v := 0) hx hb dX11_isSquare_15 rfl ?_
        obtain ⟨hPc, hDc, hFc⟩ := zo_sub (wc := [_, _, _, _, _]) hP hD hS hA [0, 1, 2, 3, 4] (by decide +kernel) rfl
        refine zcall (st1 := []) (va_runV (As := [.int (nI f), .int (nI i), .int 0]) (rest := []) ⟨hx, hb, hml, hown, hts⟩ (k_M_edge l dC dI cI cZ cF H.size k0 a I0 J0 f n i 0 mn cx cy S1 (by first | with_reducible assumption | omega) (by first | with_reducible assumption | assumption) (by first | with_reducible assumption | omega) (by first | with_reducible assumption | omega) (by first | with_reducible assumption | omega)) (csV_167 hts rfl rfl ⟨Nat.le_of_ble_eq_true rfl, Nat.le_of_ble_eq_true rfl⟩) (zPV2 (q0 := 0) (ci := 9) hPc hDc hK hXN rfl rfl) rfl rfl hl.1 rfl (lv_room (Nat.le_of_ble_eq_true rfl)) dX11_isSquare_16 ⟨Nat.le_of_ble_eq_true rfl, Nat.le_of_ble_eq_true rfl⟩) hS hFc hFc rfl (fun t H locs ht hB hk1 hS => ?_)
        obtain ⟨S2, t0, t1, t2, t3, tr, hP1, hD1⟩ := hB
        rw [ht] at hP1
        obtain ⟨hP, hD⟩ := zn (W2 := [_, _, _, _, (oa (a 32) cI 8 S2)]) hP hD hk1 hFc hP1 hD1 [0, 1, 2, 3, 4] [] [false, false, false, false, false] [0, 1, 2, 3, 4] (by decide +kernel) rfl rfl rfl rfl rfl
        clear hk1 hPc hDc hFc hP1 hD1 ht
        refine lv_aload_n hx hb dX11_isSquare_19 rfl (lv_at hl 1 rfl) ?_
        refine lv_iload_n hx hb dX11_isSquare_20 rfl (lv_at hl 2 rfl) ?_
        refine lv_iload_n hx hb dX11_isSquare_21 rfl (lv_at hl 0 rfl) ?_
        refine lv_iconst (v := 1) hx hb dX11_isSquare_22 rfl ?_
        refine lv_iadd hx hb dX11_isSquare_23 ?_
        refine zz_i (v := nI (i + 1)) (nI_add i 1) ?_
        refine lv_aload_n hx hb dX11_isSquare_24 rfl (lv_at hl 1 rfl) ?_
        refine va_get (D := (dC, dI)) (ci := 9) (v := .ref (a 11)) (C := RX11) (T := TX11) (N := 55) hx hb hts inX11 hown hK hP 0 rfl rfl 11 (Nat.le_of_ble_eq_true rfl) (hts _ mw_1170) (fun _ h9 => h9) rfl dX11_isSquare_25 ?_
        refine lv_iload_n hx hb dX11_isSquare_28 rfl (lv_at hl 2 rfl) ?_
        refine z_iald hx hb hK hP 1 0 rfl rfl (e := f) rfl b9_1 (Nat.le_of_ble_eq_true rfl) dX11_isSquare_29 ?_
        refine zz_i (v := nI n) (hm_f) ?_
        have hj_5 : W p l e ({ frames := 1, cells := 0, slots := 0, locals := 25 } : Room) s m ([.ref k0, .int (nI f)] : List Value).toArray below meth c H locs 0 0 Q9 (F0 m 40 ls [.int (nI (nxt n i)), .int (nI f), .ref k0]) := by
          refine lv_iconst (v := 4) hx hb dX11_isSquare_40 rfl ?_
          obtain ⟨hPc, hDc, hFc⟩ := zo_sub (wc := [_, _, _, _, _]) hP hD hS hA [0, 1, 2, 3, 4] (by decide +kernel) rfl
          refine zcall (st1 := []) (va_runV (As := [.int (nI f), .int (nI (nxt n i)), .int 4]) (rest := []) ⟨hx, hb, hml, hown, hts⟩ (k_M_edge l dC dI cI cZ cF H.size k0 a I0 J0 f n (nxt n i) 4 mn cx cy S2 (by first | with_reducible assumption | omega) (by first | with_reducible assumption | assumption) (by first | with_reducible assumption | omega) (by first | with_reducible assumption | omega) (by first | with_reducible assumption | omega)) (csV_167 hts rfl rfl ⟨Nat.le_of_ble_eq_true rfl, Nat.le_of_ble_eq_true rfl⟩) (zPV2 (q0 := 0) (ci := 9) hPc hDc hK hXN rfl rfl) rfl rfl hl.1 rfl (lv_room (Nat.le_of_ble_eq_true rfl)) dX11_isSquare_41 ⟨Nat.le_of_ble_eq_true rfl, Nat.le_of_ble_eq_true rfl⟩) hS hFc hFc rfl (fun t H locs ht hB hk1 hS => ?_)
          obtain ⟨S3, u0, u1, u2, u3, ur, hP1, hD1⟩ := hB
          rw [ht] at hP1
          obtain ⟨hP, hD⟩ := zn (W2 := [_, _, _, _, (oa (a 32) cI 8 S3)]) hP hD hk1 hFc hP1 hD1 [0, 1, 2, 3, 4] [] [false, false, false, false, false] [0, 1, 2, 3, 4] (by decide +kernel) rfl rfl rfl rfl rfl
          clear hk1 hPc hDc hFc hP1 hD1 ht
          have v0 : S3 0 = cF40 cx f i := (ur 0 (by omega)).trans t0
          have v1 : S3 1 = cF40 cy f i := (ur 1 (by omega)).trans t1
          have v2 : S3 2 = cF40 cx f (nxt n i) := (ur 2 (by omega)).trans t2
          have v3 : S3 3 = cF40 cy f (nxt n i) := (ur 3 (by omega)).trans t3
          have v4 : S3 4 = cF40 cx f (nxt n i) := u0
          have v5 : S3 5 = cF40 cy f (nxt n i) := u1
          have v6 : S3 6 = cF40 cx f (nxt n (nxt n i)) := u2
          have v7 : S3 7 = cF40 cy f (nxt n (nxt n i)) := u3
          refine lv_aload_n hx hb dX11_isSquare_44 rfl (lv_at hl 1 rfl) ?_
          refine va_get (D := (dC, dI)) (ci := 9) (v := .ref (a 32)) (C := RX11) (T := TX11) (N := 55) hx hb hts inX11 hown hK hP 0 rfl rfl 32 (Nat.le_of_ble_eq_true rfl) (hts _ mw_1191) (fun _ h9 => h9) rfl dX11_isSquare_45 ?_
          refine lv_iconst (v := 2) hx hb dX11_isSquare_48 rfl ?_
          refine z_iald hx hb hK hP 4 0 rfl rfl (e := 2) rfl (Nat.le_of_ble_eq_true rfl) (Nat.le_of_ble_eq_true rfl) dX11_isSquare_49 ?_
          refine zz_i (v := cF40 cx f (nxt n i)) (v2) ?_
          refine lv_aload_n hx hb dX11_isSquare_50 rfl (lv_at hl 1 rfl) ?_
          refine va_get (D := (dC, dI)) (ci := 9) (v := .ref (a 32)) (C := RX11) (T := TX11) (N := 55) hx hb hts inX11 hown hK hP 0 rfl rfl 32 (Nat.le_of_ble_eq_true rfl) (hts _ mw_1191) (fun _ h9 => h9) rfl dX11_isSquare_51 ?_
          refine lv_iconst (v := 0) hx hb dX11_isSquare_54 rfl ?_
          refine z_iald hx hb hK hP 4 0 rfl rfl (e := 0) rfl (Nat.le_of_ble_eq_true rfl) (Nat.le_of_ble_eq_true rfl) dX11_isSquare_55 ?_
          refine zz_i (v := cF40 cx f i) (v0) ?_
          refine lv_isub hx hb dX11_isSquare_56 ?_
          refine lv_i2l (v := ((cF40 cx f (nxt n i)) - (cF40 cx f i)).toInt64) hx hb dX11_isSquare_57 (rfl) ?_
          refine lv_aload_n hx hb dX11_isSquare_58 rfl (lv_at hl 1 rfl) ?_
          refine va_get (D := (dC, dI)) (ci := 9) (v := .ref (a 32)) (C := RX11) (T := TX11) (N := 55) hx hb hts inX11 hown hK hP 0 rfl rfl 32 (Nat.le_of_ble_eq_true rfl) (hts _ mw_1191) (fun _ h9 => h9) rfl dX11_isSquare_59 ?_
          refine lv_bipush (v := 6) hx hb dX11_isSquare_62 rfl ?_
          refine z_iald hx hb hK hP 4 0 rfl rfl (e := 6) rfl (Nat.le_of_ble_eq_true rfl) (Nat.le_of_ble_eq_true rfl) dX11_isSquare_64 ?_
          refine zz_i (v := cF40 cx f (nxt n (nxt n i))) (v6) ?_
          refine lv_aload_n hx hb dX11_isSquare_65 rfl (lv_at hl 1 rfl) ?_
          refine va_get (D := (dC, dI)) (ci := 9) (v := .ref (a 32)) (C := RX11) (T := TX11) (N := 55) hx hb hts inX11 hown hK hP 0 rfl rfl 32 (Nat.le_of_ble_eq_true rfl) (hts _ mw_1191) (fun _ h9 => h9) rfl dX11_isSquare_66 ?_
          refine lv_iconst (v := 4) hx hb dX11_isSquare_69 rfl ?_
          refine z_iald hx hb hK hP 4 0 rfl rfl (e := 4) rfl (Nat.le_of_ble_eq_true rfl) (Nat.le_of_ble_eq_true rfl) dX11_isSquare_70 ?_
          refine zz_i (v := cF40 cx f (nxt n i)) (v4) ?_
          refine lv_isub hx hb dX11_isSquare_71 ?_
          refine lv_i2l (v := ((cF40 cx f (nxt n (nxt n i))) - (cF40 cx f (nxt n i))).toInt64) hx hb dX11_isSquare_72 (rfl) ?_
          refine lv_lmul hx hb dX11_isSquare_73 ?_
          refine zz_l (v := jI (((cF40 cx f (nxt n i)).toInt - (cF40 cx f i).toInt) * ((cF40 cx f (nxt n (nxt n i))).toInt - (cF40 cx f (nxt n i)).toInt))) (mlL (hp_f _ hnx).1 (hp_f i hi9).1 (hp_f _ hnk).1 (hp_f _ hnx).1) ?_
          have hB2 := mlB (hp_f _ hnx).1 (hp_f i hi9).1 (hp_f _ hnk).1 (hp_f _ hnx).1
          refine lv_aload_n hx hb dX11_isSquare_74 rfl (lv_at hl 1 rfl) ?_
          refine va_get (D := (dC, dI)) (ci := 9) (v := .ref (a 32)) (C := RX11) (T := TX11) (N := 55) hx hb hts inX11 hown hK hP 0 rfl rfl 32 (Nat.le_of_ble_eq_true rfl) (hts _ mw_1191) (fun _ h9 => h9) rfl dX11_isSquare_75 ?_
          refine lv_iconst (v := 3) hx hb dX11_isSquare_78 rfl ?_
          refine z_iald hx hb hK hP 4 0 rfl rfl (e := 3) rfl (Nat.le_of_ble_eq_true rfl) (Nat.le_of_ble_eq_true rfl) dX11_isSquare_79 ?_
          refine zz_i (v := cF40 cy f (nxt n i)) (v3) ?_
          refine lv_aload_n hx hb dX11_isSquare_80 rfl (lv_at hl 1 rfl) ?_
          refine va_get (D := (dC, dI)) (ci := 9) (v := .ref (a 32)) (C := RX11) (T := TX11) (N := 55) hx hb hts inX11 hown hK hP 0 rfl rfl 32 (Nat.le_of_ble_eq_true rfl) (hts _ mw_1191) (fun _ h9 => h9) rfl dX11_isSquare_81 ?_
          refine lv_iconst (v := 1) hx hb dX11_isSquare_84 rfl ?_
          refine z_iald hx hb hK hP 4 0 rfl rfl (e := 1) rfl (Nat.le_of_ble_eq_true rfl) (Nat.le_of_ble_eq_true rfl) dX11_isSquare_85 ?_
          refine zz_i (v := cF40 cy f i) (v1) ?_
          refine lv_isub hx hb dX11_isSquare_86 ?_
          refine lv_i2l (v := ((cF40 cy f (nxt n i)) - (cF40 cy f i)).toInt64) hx hb dX11_isSquare_87 (rfl) ?_
          refine lv_aload_n hx hb dX11_isSquare_88 rfl (lv_at hl 1 rfl) ?_
          refine va_get (D := (dC, dI)) (ci := 9) (v := .ref (a 32)) (C := RX11) (T := TX11) (N := 55) hx hb hts inX11 hown hK hP 0 rfl rfl 32 (Nat.le_of_ble_eq_true rfl) (hts _ mw_1191) (fun _ h9 => h9) rfl dX11_isSquare_89 ?_
          refine lv_bipush (v := 7) hx hb dX11_isSquare_92 rfl ?_
          refine z_iald hx hb hK hP 4 0 rfl rfl (e := 7) rfl (Nat.le_of_ble_eq_true rfl) (Nat.le_of_ble_eq_true rfl) dX11_isSquare_94 ?_
          refine zz_i (v := cF40 cy f (nxt n (nxt n i))) (v7) ?_
          refine lv_aload_n hx hb dX11_isSquare_95 rfl (lv_at hl 1 rfl) ?_
          refine va_get (D := (dC, dI)) (ci := 9) (v := .ref (a 32)) (C := RX11) (T := TX11) (N := 55) hx hb hts inX11 hown hK hP 0 rfl rfl 32 (Nat.le_of_ble_eq_true rfl) (hts _ mw_1191) (fun _ h9 => h9) rfl dX11_isSquare_96 ?_
          refine lv_iconst (v := 5) hx hb dX11_isSquare_99 rfl ?_
          refine z_iald hx hb hK hP 4 0 rfl rfl (e := 5) rfl (Nat.le_of_ble_eq_true rfl) (Nat.le_of_ble_eq_true rfl) dX11_isSquare_100 ?_
          refine zz_i (v := cF40 cy f (nxt n i)) (v5) ?_
          refine lv_isub hx hb dX11_isSquare_101 ?_
          refine lv_i2l (v := ((cF40 cy f (nxt n (nxt n i))) - (cF40 cy f (nxt n i))).toInt64) hx hb dX11_isSquare_102 (rfl) ?_
          refine lv_lmul hx hb dX11_isSquare_103 ?_
          refine zz_l (v := jI (((cF40 cy f (nxt n i)).toInt - (cF40 cy f i).toInt) * ((cF40 cy f (nxt n (nxt n i))).toInt - (cF40 cy f (nxt n i)).toInt))) (mlL (hp_f _ hnx).2 (hp_f i hi9).2 (hp_f _ hnk).2 (hp_f _ hnx).2) ?_
          have hB3 := mlB (hp_f _ hnx).2 (hp_f i hi9).2 (hp_f _ hnk).2 (hp_f _ hnx).2
          refine lv_ladd hx hb dX11_isSquare_104 ?_
          refine zz_l (v := jI (((cF40 cx f (nxt n i)).toInt - (cF40 cx f i).toInt) * ((cF40 cx f (nxt n (nxt n i))).toInt - (cF40 cx f (nxt n i)).toInt) + ((cF40 cy f (nxt n i)).toInt - (cF40 cy f i).toInt) * ((cF40 cy f (nxt n (nxt n i))).toInt - (cF40 cy f (nxt n i)).toInt))) (jI_add (by omega) (by omega)) ?_
          refine lv_lconst (v := 0) hx hb dX11_isSquare_105 rfl ?_
          refine W.lcmp hx hb dX11_isSquare_106 ?_
          refine lv_if_eq (tgt := 112) hx hb dX11_isSquare_107 rfl (fun c_6 => ?_) (fun c_6 => ?_)
          · have c_6 : (((cF40 cx f (nxt n i)).toInt - (cF40 cx f i).toInt) * ((cF40 cx f (nxt n (nxt n i))).toInt - (cF40 cx f (nxt n i)).toInt) + ((cF40 cy f (nxt n i)).toInt - (cF40 cy f i).toInt) * ((cF40 cy f (nxt n (nxt n i))).toInt - (cF40 cy f (nxt n i)).toInt)) = 0 := zl_eq (jI_toInt (by omega)) rfl c_6
            refine lv_iinc (v := nI (i + 1)) (lv' := [(2, .int (nI (i + 1))), (0, .ref k0), (1, .int (nI f))]) hx hb dX11_isSquare_112 hl (k := 0) rfl (nI_add i 1) (Nat.le_of_ble_eq_true rfl) rfl (fun ls hl => ?_)
            refine lv_goto (tgt := 2) hx hb dX11_isSquare_115 rfl ?_
            exact ih_2 (i + 1) S3 H locs ls (by first | with_reducible assumption | omega) (by first | with_reducible assumption | omega) (by intro j hj; rcases Nat.lt_or_ge j i with h | h; exact hall j h; rw [show j = i by omega]; unfold eRt; rw [prv_nxt hi9]; have h9 := dt_neg (cF40 cx f i).toInt (cF40 cy f i).toInt (cF40 cx f (nxt n i)).toInt (cF40 cy f (nxt n i)).toInt (cF40 cx f (nxt n (nxt n i))).toInt (cF40 cy f (nxt n (nxt n i))).toInt; omega) hP hD hS (lv_sub hl [0, 1, 2] rfl)
          · have c_6 : ¬ (((cF40 cx f (nxt n i)).toInt - (cF40 cx f i).toInt) * ((cF40 cx f (nxt n (nxt n i))).toInt - (cF40 cx f (nxt n i)).toInt) + ((cF40 cy f (nxt n i)).toInt - (cF40 cy f i).toInt) * ((cF40 cy f (nxt n (nxt n i))).toInt - (cF40 cy f (nxt n i)).toInt)) = 0 := zl_ne (jI_toInt (by omega)) rfl c_6
            refine lv_iconst (v := 0) hx hb dX11_isSquare_110 rfl ?_
            obtain ⟨hP9, hD9⟩ := zu_sub (wc := [_, _, _, _, _]) hP hD [true, true, true, true, true] rfl rfl
            rw [hQ9]
            exact W.zret (ty := .boolean) (v := 0) hx hb hr (rfl) (fun t ht hW => ⟨⟨congrArg (fun z => Outcome.returned (some (Value.int z))) (show (0 : Int32) = pI (∀ k, k < n → eRt n (cF40 cx f) (cF40 cy f) k) from (zp_f (fun h => by have h8 := h (nxt n i) hnx; unfold eRt at h8; rw [prv_nxt hi9] at h8; have h9 := dt_neg (cF40 cx f i).toInt (cF40 cy f i).toInt (cF40 cx f (nxt n i)).toInt (cF40 cy f (nxt n i)).toInt (cF40 cx f (nxt n (nxt n i))).toInt (cF40 cy f (nxt n (nxt n i))).toInt; omega)).symm), S3, by rw [ht]; exact hP9, hD9⟩, hS.F ht⟩) hS.2.2 dX11_isSquare_111
        have b9_8 : zlt ((i + 1)) := show (i + 1) < 2147483648 by omega
        have b9_9 : zlt (n) := show n < 2147483648 by omega
        refine lv_icmp_ne (tgt := 37) hx hb dX11_isSquare_30 rfl (fun c_7 => ?_) (fun c_7 => ?_)
        · have c_7 : ¬ ((i + 1 : Nat) : Int) = ((n : Nat) : Int) := zc_ne (nI_toInt b9_8) (nI_toInt b9_9) c_7
          refine lv_iload_n hx hb dX11_isSquare_37 rfl (lv_at hl 0 rfl) ?_
          refine lv_iconst (v := 1) hx hb dX11_isSquare_38 rfl ?_
          refine lv_iadd hx hb dX11_isSquare_39 ?_
          refine zz_i (v := nI (i + 1)) (nI_add i 1) ?_
          refine zz_i (v := nI (nxt n i)) (by first | (rw [nxt, if_pos (by omega)]) | (rw [nxt, if_neg (by omega)]; first | done | rfl)) ?_
          exact hj_5 
        · have c_7 : ((i + 1 : Nat) : Int) = ((n : Nat) : Int) := zc_eq (nI_toInt b9_8) (nI_toInt b9_9) c_7
          refine lv_iconst (v := 0) hx hb dX11_isSquare_33 rfl ?_
          refine lv_goto (tgt := 40) hx hb dX11_isSquare_34 rfl ?_
          refine zz_i (v := nI (nxt n i)) (by first | (rw [nxt, if_pos (by omega)]) | (rw [nxt, if_neg (by omega)]; first | done | rfl)) ?_
          exact hj_5 
  exact hl_2 _ 0 S0 s.heap [] ls (Nat.lt_succ_self _) (by first | with_reducible assumption | omega) (by intro j hj; omega) hP hD hS (lv_sub hl [0, 1, 2] rfl)
end
section
set_option maxHeartbeats 4000000 in
set_option maxRecDepth 100000 in
theorem k_M_isSimple (l : Launch) (dC : Nat → ClassId) (dI : Nat → Nat → Nat) (cI cZ cF : ClassId) (sz : Nat) (k0 : Nat) (a : Nat → Nat) (I0 : Nat → Int32) (J0 : Nat → Int64) (f : Nat) (n : Nat) (kd : Nat → Int32) (mn : Nat → Int32) (cx : Nat → Int32) (cy : Nat → Int32) (S0 : Nat → Int32) (hf_f : f ≤ 200) (hm_f : mn f = nI n) (hp_f : pls n (cF40 cx f) (cF40 cy f)) (hn_f : n ≤ 40) : zM l yX11_isSimple cX11_isSimple 8 (some .boolean) ({ frames := 4, cells := 0, slots := 0, locals := 104 } : Room) [.ref k0, .int (nI f)] (dC, dI) (zTy cI cZ cF) [(om k0 a I0 J0), (oa (a 1) cI 201 kd), (oa (a 11) cI 201 mn), (oa (a 12) cI 8040 cx), (oa (a 13) cI 8040 cy), (oa (a 32) cI 8 S0)] sz (some (.int (pI (mSm (kd f).toInt n (cF40 cx f) (cF40 cy f))))) (fun A t => ∃ (S1 : Nat → Int32), zPD (dC, dI) classes A [(om k0 a I0 J0), (oa (a 1) cI 201 kd), (oa (a 11) cI 201 mn), (oa (a 12) cI 8040 cx), (oa (a 13) cI 8040 cy), (oa (a 32) cI 8 S1)] t.heap) 0 0 := by
  refine zIn (own := "ScaleShopModel") (loc := [(0, .ref k0), (1, .int (nI f))]) rfl rfl rfl rfl (fun p e s m below meth c hx hb hr hts hown hlocks hml hnm9 A hA hS hP hD hK hXN Q9 hQ9 ls hl => ?_)
  refine lv_aload_n hx hb dX11_isSimple_0 rfl (lv_at hl 0 rfl) ?_
  refine va_get (D := (dC, dI)) (ci := 9) (v := .ref (a 11)) (C := RX11) (T := TX11) (N := 55) hx hb hts inX11 hown hK hP 0 rfl rfl 11 (Nat.le_of_ble_eq_true rfl) (hts _ mw_1170) (fun _ h9 => h9) rfl dX11_isSimple_1 ?_
  refine lv_iload_n hx hb dX11_isSimple_4 rfl (lv_at hl 1 rfl) ?_
  have b9_1 : f < 201 := by omega
  refine z_iald hx hb hK hP 2 0 rfl rfl (e := f) rfl b9_1 (Nat.le_of_ble_eq_true rfl) dX11_isSimple_5 ?_
  refine zz_i (v := nI n) (hm_f) ?_
  refine lv_istore_n (lv' := [(2, .int (nI n)), (0, .ref k0), (1, .int (nI f))]) hx hb dX11_isSimple_6 rfl hl (Nat.le_of_ble_eq_true rfl) rfl (fun ls hl => ?_)
  refine lv_aload_n hx hb dX11_isSimple_7 rfl (lv_at hl 1 rfl) ?_
  refine va_get (D := (dC, dI)) (ci := 9) (v := .ref (a 1)) (C := RX11) (T := TX11) (N := 55) hx hb hts inX11 hown hK hP 0 rfl rfl 1 (Nat.le_of_ble_eq_true rfl) (hts _ mw_1160) (fun _ h9 => h9) rfl dX11_isSimple_8 ?_
  refine lv_iload_n hx hb dX11_isSimple_11 rfl (lv_at hl 2 rfl) ?_
  refine z_iald hx hb hK hP 1 0 rfl rfl (e := f) rfl b9_1 (Nat.le_of_ble_eq_true rfl) dX11_isSimple_12 ?_
  refine lv_if_ne (tgt := 27) hx hb dX11_isSimple_13 rfl (fun c_2 => ?_) (fun c_2 => ?_)
  · have c_2 : ¬ (kd f).toInt = 0 := zc_ne rfl rfl c_2
    have hmc := mnc_s (kd f).toInt
    refine lv_iload_n hx hb dX11_isSimple_27 rfl (lv_at hl 0 rfl) ?_
    refine lv_aload_n hx hb dX11_isSimple_28 rfl (lv_at hl 1 rfl) ?_
    refine lv_iload_n hx hb dX11_isSimple_29 rfl (lv_at hl 2 rfl) ?_
    obtain ⟨hPc, hDc, hFc, hI1⟩ := zi_sub (wc := [_, _]) hP hD hS hA [0, 1] rfl rfl
    refine zcall (st1 := [.int (pI (5 ≤ (kd f).toInt)), .int (nI n)]) (va_runV (As := [.int (nI f)]) (rest := [.int (nI n)]) ⟨hx, hb, hml, hown, hts⟩ (k_M_isRing l dC dI cI cZ cF s.heap.size k0 a I0 J0 f kd (by first | with_reducible assumption | omega)) (csV_165 hts rfl rfl ⟨Nat.le_of_ble_eq_true rfl, Nat.le_of_ble_eq_true rfl⟩) (zPV2 (q0 := 0) (ci := 9) hPc hDc hK hXN rfl rfl) rfl rfl hl.1 rfl (lv_room (Nat.le_of_ble_eq_true rfl)) dX11_isSimple_30 ⟨Nat.le_of_ble_eq_true rfl, Nat.le_of_ble_eq_true rfl⟩) hS hFc hFc rfl (fun t H locs ht hB hk1 hS => ?_)
    obtain ⟨hP1, hD1⟩ := hB
    rw [ht] at hP1
    replace hP := z0 hP hD hk1 hP1 hI1
    clear hk1 hPc hDc hFc hP1 hD1 ht hI1
    have hj_3 : W p l e ({ frames := 4, cells := 0, slots := 0, locals := 104 } : Room) s m ([.ref k0, .int (nI f)] : List Value).toArray below meth c H locs 0 0 Q9 (F0 m 41 ls [.int (nI (mnc (kd f).toInt)), .int (nI n)]) := by
      have b9_5 : zlt (n) := show n < 2147483648 by omega
      have b9_6 : zlt ((mnc (kd f).toInt)) := show (mnc (kd f).toInt) < 2147483648 by omega
      refine lv_icmp_ge (tgt := 46) hx hb dX11_isSimple_41 rfl (fun c_4 => ?_) (fun c_4 => ?_)
      · have c_4 : ((mnc (kd f).toInt : Nat) : Int) ≤ ((n : Nat) : Int) := zc_le (nI_toInt b9_6) (nI_toInt b9_5) c_4
        have hn1 : 1 ≤ n := (by omega)
        have hef := eO_le (k := (kd f).toInt) hn1
        refine lv_aload_n hx hb dX11_isSimple_46 rfl (lv_at hl 1 rfl) ?_
        refine lv_iload_n hx hb dX11_isSimple_47 rfl (lv_at hl 2 rfl) ?_
        obtain ⟨hPc, hDc, hFc, hI1⟩ := zi_sub (wc := [_, _, _]) hP hD hS hA [0, 1, 2] rfl rfl
        refine zcall (st1 := [.int (nI (eO (kd f).toInt n))]) (va_runV (As := [.int (nI f)]) (rest := []) ⟨hx, hb, hml, hown, hts⟩ (k_M_edgesOf l dC dI cI cZ cF H.size k0 a I0 J0 f n kd mn (by first | with_reducible assumption | omega) (by first | with_reducible assumption | assumption) (by first | with_reducible assumption | omega)) (csV_166 hts rfl rfl ⟨Nat.le_of_ble_eq_true rfl, Nat.le_of_ble_eq_true rfl⟩) (zPV2 (q0 := 0) (ci := 9) hPc hDc hK hXN rfl rfl) rfl rfl hl.1 rfl (lv_room (Nat.le_of_ble_eq_true rfl)) dX11_isSimple_48 ⟨Nat.le_of_ble_eq_true rfl, Nat.le_of_ble_eq_true rfl⟩) hS hFc hFc rfl (fun t H locs ht hB hk1 hS => ?_)
        obtain ⟨hP1, hD1⟩ := hB
        rw [ht] at hP1
        replace hP := z0 hP hD hk1 hP1 hI1
        clear hk1 hPc hDc hFc hP1 hD1 ht hI1
        refine lv_istore_n (lv' := [(3, .int (nI (eO (kd f).toInt n))), (2, .int (nI n)), (0, .ref k0), (1, .int (nI f))]) hx hb dX11_isSimple_51 rfl hl (Nat.le_of_ble_eq_true rfl) rfl (fun ls hl => ?_)
        refine lv_iconst (v := 0) hx hb dX11_isSimple_52 rfl ?_
        refine lv_istore (lv' := [(4, .int 0), (3, .int (nI (eO (kd f).toInt n))), (2, .int (nI n)), (0, .ref k0), (1, .int (nI f))]) hx hb dX11_isSimple_53 hl (Nat.le_of_ble_eq_true rfl) rfl (fun ls hl => ?_)
        have hl_55 : ∀ (n9 : Nat) (i : Nat) (S1 : Nat → Int32) (H : Heap) (locs : List Loc) (ls : Array Slot), eO (kd f).toInt n - i < n9 → (i ≤ eO (kd f).toInt n) → (∀ j, j < i → ¬ ((cF40 cx f j).toInt = (cF40 cx f (nxt n j)).toInt ∧ (cF40 cy f j).toInt = (cF40 cy f (nxt n j)).toInt)) → va_P (dC, dI) classes [(om k0 a I0 J0), (oa (a 1) cI 201 kd), (oa (a 11) cI 201 mn), (oa (a 12) cI 8040 cx), (oa (a 13) cI 8040 cy), (oa (a 32) cI 8 S1)] H → va_D A [(om k0 a I0 J0), (oa (a 1) cI 201 kd), (oa (a 11) cI 201 mn), (oa (a 12) cI 8040 cx), (oa (a 13) cI 8040 cy), (oa (a 32) cI 8 S1)] → va_S A s.heap H locs → lv_has ls 8 [(4, .int (nI i)), (3, .int (nI (eO (kd f).toInt n))), (2, .int (nI n)), (0, .ref k0), (1, .int (nI f))] → W p l e ({ frames := 4, cells := 0, slots := 0, locals := 104 } : Room) s m ([.ref k0, .int (nI f)] : List Value).toArray below meth c H locs 0 0 Q9 (F0 m 55 ls []) := by
          intro n9
          induction n9 with
          | zero => intro i S1 H locs ls hm; exact absurd hm (Nat.not_lt_zero _)
          | succ n9 ih_55 =>
            intro i S1 H locs ls hm hi hall hP hD hS hl
            refine lv_iload hx hb dX11_isSimple_55 (lv_at hl 0 rfl) ?_
            refine lv_iload_n hx hb dX11_isSimple_57 rfl (lv_at hl 1 rfl) ?_
            have b9_8 : zlt (i) := show i < 2147483648 by omega
            have b9_9 : zlt ((eO (kd f).toInt n)) := show (eO (kd f).toInt n) < 2147483648 by omega
            refine lv_icmp_ge (tgt := 107) hx hb dX11_isSimple_58 rfl (fun c_7 => ?_) (fun c_7 => ?_)
            · have c_7 : ((eO (kd f).toInt n : Nat) : Int) ≤ ((i : Nat) : Int) := zc_le (nI_toInt b9_9) (nI_toInt b9_8) c_7
              refine lv_iconst (v := 0) hx hb dX11_isSimple_107 rfl ?_
              refine lv_istore (lv' := [(4, .int 0), (3, .int (nI (eO (kd f).toInt n))), (2, .int (nI n)), (0, .ref k0), (1, .int (nI f))]) hx hb dX11_isSimple_108 hl (Nat.le_of_ble_eq_true rfl) rfl (fun ls hl => ?_)
              have hl_110 : ∀ (n9 : Nat) (i2 : Nat) (S4 : Nat → Int32) (H : Heap) (locs : List Loc) (ls : Array Slot), eO (kd f).toInt n - i2 < n9 → (i2 ≤ eO (kd f).toInt n) → (∀ i k, i < i2 → i < k → k < eO (kd f).toInt n → mCn (kd f).toInt n (cF40 cx f) (cF40 cy f) i k) → va_P (dC, dI) classes [(om k0 a I0 J0), (oa (a 1) cI 201 kd), (oa (a 11) cI 201 mn), (oa (a 12) cI 8040 cx), (oa (a 13) cI 8040 cy), (oa (a 32) cI 8 S4)] H → va_D A [(om k0 a I0 J0), (oa (a 1) cI 201 kd), (oa (a 11) cI 201 mn), (oa (a 12) cI 8040 cx), (oa (a 13) cI 8040 cy), (oa (a 32) cI 8 S4)] → va_S A s.heap H locs → lv_has ls 8 [(4, .int (nI i2)), (3, .int (nI (eO (kd f).toInt n))), (2, .int (nI n)), (0, .ref k0), (1, .int (nI f))] → W p l e ({ frames := 4, cells := 0, slots := 0, locals := 104 } : Room) s m ([.ref k0, .int (nI f)] : List Value).toArray below meth c H locs 0 0 Q9 (F0 m 110 ls []) := by
                intro n9
                induction n9 with
                | zero => intro i2 S4 H locs ls hm; exact absurd hm (Nat.not_lt_zero _)
                | succ n9 ih_110 =>
                  intro i2 S4 H locs ls hm hi2 hal2 hP hD hS hl
                  refine lv_iload hx hb dX11_isSimple_110 (lv_at hl 0 rfl) ?_
                  refine lv_iload_n hx hb dX11_isSimple_112 rfl (lv_at hl 1 rfl) ?_
                  have b9_11 : zlt (i2) := show i2 < 2147483648 by omega
                  refine lv_icmp_ge (tgt := 238) hx hb dX11_isSimple_113 rfl (fun c_10 => ?_) (fun c_10 => ?_)
                  · have c_10 : ((eO (kd f).toInt n : Nat) : Int) ≤ ((i2 : Nat) : Int) := zc_le (nI_toInt b9_9) (nI_toInt b9_11) c_10
                    refine lv_aload_n hx hb dX11_isSimple_238 rfl (lv_at hl 3 rfl) ?_
                    refine va_get (D := (dC, dI)) (ci := 9) (v := .ref (a 1)) (C := RX11) (T := TX11) (N := 55) hx hb hts inX11 hown hK hP 0 rfl rfl 1 (Nat.le_of_ble_eq_true rfl) (hts _ mw_1160) (fun _ h9 => h9) rfl dX11_isSimple_239 ?_
                    refine lv_iload_n hx hb dX11_isSimple_242 rfl (lv_at hl 4 rfl) ?_
                    refine z_iald hx hb hK hP 1 0 rfl rfl (e := f) rfl b9_1 (Nat.le_of_ble_eq_true rfl) dX11_isSimple_243 ?_
                    refine lv_bipush (v := 6) hx hb dX11_isSimple_244 rfl ?_
                    refine lv_icmp_ne (tgt := 257) hx hb dX11_isSimple_246 rfl (fun c_12 => ?_) (fun c_12 => ?_)
                    · have c_12 : ¬ (kd f).toInt = 6 := zc_ne rfl rfl c_12
                      refine lv_iconst (v := 1) hx hb dX11_isSimple_257 rfl ?_
                      refine lv_goto (tgt := 262) hx hb dX11_isSimple_258 rfl ?_
                      obtain ⟨hP9, hD9⟩ := zu_sub (wc := [_, _, _, _, _, _]) hP hD [true, true, true, true, true, true] rfl rfl
                      rw [hQ9]
                      exact W.zret (ty := .boolean) (v := 1) hx hb hr (rfl) (fun t ht hW => ⟨⟨congrArg (fun z => Outcome.returned (some (Value.int z))) (show (1 : Int32) = pI (mSm (kd f).toInt n (cF40 cx f) (cF40 cy f)) from (zp_t (by unfold mSm; first | exact ⟨fun h => absurd h (by first | with_reducible assumption | assumption), fun _ => ⟨by omega, fun j hj => hall j (by omega), fun i k h1 h2 => hal2 i k (by omega) h1 h2, Or.inl (by first | with_reducible assumption | assumption)⟩⟩ | exact ⟨fun h => absurd h (by first | with_reducible assumption | assumption), fun _ => ⟨by omega, fun j hj => hall j (by omega), fun i k h1 h2 => hal2 i k (by omega) h1 h2, Or.inr (by first | with_reducible assumption | assumption)⟩⟩ | exact fun h => (h.2 (by first | with_reducible assumption | assumption)).2.2.2.elim (fun h => h (by first | with_reducible assumption | assumption)) (by first | with_reducible assumption | assumption))).symm), S4, by rw [ht]; exact hP9, hD9⟩, hS.F ht⟩) hS.2.2 dX11_isSimple_262
                    · have c_12 : (kd f).toInt = 6 := zc_eq rfl rfl c_12
                      refine lv_aload_n hx hb dX11_isSimple_249 rfl (lv_at hl 3 rfl) ?_
                      refine lv_iload_n hx hb dX11_isSimple_250 rfl (lv_at hl 4 rfl) ?_
                      obtain ⟨hPc, hDc, hFc⟩ := zo_sub (wc := [_, _, _, _, _]) hP hD hS hA [0, 2, 3, 4, 5] (by decide +kernel) rfl
                      refine zcall (st1 := [.int (pI (∀ k, k < n → eRt n (cF40 cx f) (cF40 cy f) k))]) (va_runV (As := [.int (nI f)]) (rest := []) ⟨hx, hb, hml, hown, hts⟩ (k_M_isSquare l dC dI cI cZ cF H.size k0 a I0 J0 f n mn cx cy S4 (by first | with_reducible assumption | omega) (by first | with_reducible assumption | assumption) (by first | with_reducible assumption | omega) (by first | with_reducible assumption | assumption)) (csV_170 hts rfl rfl ⟨Nat.le_of_ble_eq_true rfl, Nat.le_of_ble_eq_true rfl⟩) (zPV2 (q0 := 0) (ci := 9) hPc hDc hK hXN rfl rfl) rfl rfl hl.1 rfl (lv_room (Nat.le_of_ble_eq_true rfl)) dX11_isSimple_251 ⟨Nat.le_of_ble_eq_true rfl, Nat.le_of_ble_eq_true rfl⟩) hS hFc hFc rfl (fun t H locs ht hB hk1 hS => ?_)
                      obtain ⟨q_13, hP1, hD1⟩ := hB
                      rw [ht] at hP1
                      obtain ⟨hP, hD⟩ := zn (W2 := [_, _, _, _, _, (oa (a 32) cI 8 q_13)]) hP hD hk1 hFc hP1 hD1 [0, 2, 3, 4, 5] [false, true] [false, true, false, false, false, false] [0, 2, 3, 4, 5] (by decide +kernel) rfl rfl rfl rfl rfl
                      clear hk1 hPc hDc hFc hP1 hD1 ht
                      refine lv_if_eq (tgt := 261) hx hb dX11_isSimple_254 rfl (fun c_14 => ?_) (fun c_14 => ?_)
                      · have c_14 : ¬ (∀ k, k < n → eRt n (cF40 cx f) (cF40 cy f) k) := zp_0 c_14
                        refine lv_iconst (v := 0) hx hb dX11_isSimple_261 rfl ?_
                        obtain ⟨hP9, hD9⟩ := zu_sub (wc := [_, _, _, _, _, _]) hP hD [true, true, true, true, true, true] rfl rfl
                        rw [hQ9]
                        exact W.zret (ty := .boolean) (v := 0) hx hb hr (rfl) (fun t ht hW => ⟨⟨congrArg (fun z => Outcome.returned (some (Value.int z))) (show (0 : Int32) = pI (mSm (kd f).toInt n (cF40 cx f) (cF40 cy f)) from (zp_f (by unfold mSm; first | exact ⟨fun h => absurd h (by first | with_reducible assumption | assumption), fun _ => ⟨by omega, fun j hj => hall j (by omega), fun i k h1 h2 => hal2 i k (by omega) h1 h2, Or.inl (by first | with_reducible assumption | assumption)⟩⟩ | exact ⟨fun h => absurd h (by first | with_reducible assumption | assumption), fun _ => ⟨by omega, fun j hj => hall j (by omega), fun i k h1 h2 => hal2 i k (by omega) h1 h2, Or.inr (by first | with_reducible assumption | assumption)⟩⟩ | exact fun h => (h.2 (by first | with_reducible assumption | assumption)).2.2.2.elim (fun h => h (by first | with_reducible assumption | assumption)) (by first | with_reducible assumption | assumption))).symm), q_13, by rw [ht]; exact hP9, hD9⟩, hS.F ht⟩) hS.2.2 dX11_isSimple_262
                      · have c_14 : ∀ k, k < n → eRt n (cF40 cx f) (cF40 cy f) k := zp_1 c_14
                        refine lv_iconst (v := 1) hx hb dX11_isSimple_257 rfl ?_
                        refine lv_goto (tgt := 262) hx hb dX11_isSimple_258 rfl ?_
                        obtain ⟨hP9, hD9⟩ := zu_sub (wc := [_, _, _, _, _, _]) hP hD [true, true, true, true, true, true] rfl rfl
                        rw [hQ9]
                        exact W.zret (ty := .boolean) (v := 1) hx hb hr (rfl) (fun t ht hW => ⟨⟨congrArg (fun z => Outcome.returned (some (Value.int z))) (show (1 : Int32) = pI (mSm (kd f).toInt n (cF40 cx f) (cF40 cy f)) from (zp_t (by unfold mSm; first | exact ⟨fun h => absurd h (by first | with_reducible assumption | assumption), fun _ => ⟨by omega, fun j hj => hall j (by omega), fun i k h1 h2 => hal2 i k (by omega) h1 h2, Or.inl (by first | with_reducible assumption | assumption)⟩⟩ | exact ⟨fun h => absurd h (by first | with_reducible assumption | assumption), fun _ => ⟨by omega, fun j hj => hall j (by omega), fun i k h1 h2 => hal2 i k (by omega) h1 h2, Or.inr (by first | with_reducible assumption | assumption)⟩⟩ | exact fun h => (h.2 (by first | with_reducible assumption | assumption)).2.2.2.elim (fun h => h (by first | with_reducible assumption | assumption)) (by first | with_reducible assumption | assumption))).symm), q_13, by rw [ht]; exact hP9, hD9⟩, hS.F ht⟩) hS.2.2 dX11_isSimple_262
                  · have c_10 : ((i2 : Nat) : Int) < ((eO (kd f).toInt n : Nat) : Int) := zc_nle (nI_toInt b9_9) (nI_toInt b9_11) c_10
                    refine lv_iload hx hb dX11_isSimple_116 (lv_at hl 0 rfl) ?_
                    refine lv_iconst (v := 1) hx hb dX11_isSimple_118 rfl ?_
                    refine lv_iadd hx hb dX11_isSimple_119 ?_
                    refine zz_i (v := nI (i2 + 1)) (nI_add i2 1) ?_
                    refine lv_istore (lv' := [(5, .int (nI (i2 + 1))), (4, .int (nI i2)), (3, .int (nI (eO (kd f).toInt n))), (2, .int (nI n)), (0, .ref k0), (1, .int (nI f))]) hx hb dX11_isSimple_120 hl (Nat.le_of_ble_eq_true rfl) rfl (fun ls hl => ?_)
                    have hl_122 : ∀ (n9 : Nat) (k : Nat) (S5 : Nat → Int32) (H : Heap) (locs : List Loc) (ls : Array Slot), eO (kd f).toInt n - k < n9 → (k ≤ eO (kd f).toInt n) → (i2 < k) → (∀ q, i2 < q → q < k → mCn (kd f).toInt n (cF40 cx f) (cF40 cy f) i2 q) → va_P (dC, dI) classes [(om k0 a I0 J0), (oa (a 1) cI 201 kd), (oa (a 11) cI 201 mn), (oa (a 12) cI 8040 cx), (oa (a 13) cI 8040 cy), (oa (a 32) cI 8 S5)] H → va_D A [(om k0 a I0 J0), (oa (a 1) cI 201 kd), (oa (a 11) cI 201 mn), (oa (a 12) cI 8040 cx), (oa (a 13) cI 8040 cy), (oa (a 32) cI 8 S5)] → va_S A s.heap H locs → lv_has ls 8 [(5, .int (nI k)), (4, .int (nI i2)), (3, .int (nI (eO (kd f).toInt n))), (2, .int (nI n)), (0, .ref k0), (1, .int (nI f))] → W p l e ({ frames := 4, cells := 0, slots := 0, locals := 104 } : Room) s m ([.ref k0, .int (nI f)] : List Value).toArray below meth c H locs 0 0 Q9 (F0 m 122 ls []) := by
                      intro n9
                      induction n9 with
                      | zero => intro k S5 H locs ls hm; exact absurd hm (Nat.not_lt_zero _)
                      | succ n9 ih_122 =>
                        intro k S5 H locs ls hm hk hik hal3 hP hD hS hl
                        refine lv_iload hx hb dX11_isSimple_122 (lv_at hl 0 rfl) ?_
                        refine lv_iload_n hx hb dX11_isSimple_124 rfl (lv_at hl 2 rfl) ?_
                        have b9_16 : zlt (k) := show k < 2147483648 by omega
                        refine lv_icmp_ge (tgt := 232) hx hb dX11_isSimple_125 rfl (fun c_15 => ?_) (fun c_15 => ?_)
                        · have c_15 : ((eO (kd f).toInt n : Nat) : Int) ≤ ((k : Nat) : Int) := zc_le (nI_toInt b9_9) (nI_toInt b9_16) c_15
                          refine lv_iinc (v := nI (i2 + 1)) (lv' := [(4, .int (nI (i2 + 1))), (5, .int (nI k)), (3, .int (nI (eO (kd f).toInt n))), (2, .int (nI n)), (0, .ref k0), (1, .int (nI f))]) hx hb dX11_isSimple_232 hl (k := 1) rfl (nI_add i2 1) (Nat.le_of_ble_eq_true rfl) rfl (fun ls hl => ?_)
                          refine lv_goto (tgt := 110) hx hb dX11_isSimple_235 rfl ?_
                          exact ih_110 (i2 + 1) S5 H locs ls (by first | with_reducible assumption | omega) (by first | with_reducible assumption | omega) (by intro i9 k9 h1 h2 h3; rcases Nat.lt_or_ge i9 i2 with h | h; exact hal2 i9 k9 h h2 h3; have e9 : i9 = i2 := (by first | with_reducible assumption | omega); rw [e9]; exact hal3 k9 (by first | with_reducible assumption | omega) (by first | with_reducible assumption | omega)) hP hD hS (lv_sub hl [0, 2, 3, 4, 5] rfl)
                        · have c_15 : ((k : Nat) : Int) < ((eO (kd f).toInt n : Nat) : Int) := zc_nle (nI_toInt b9_9) (nI_toInt b9_16) c_15
                          refine lv_iload hx hb dX11_isSimple_128 (lv_at hl 0 rfl) ?_
                          refine lv_iload hx hb dX11_isSimple_130 (lv_at hl 1 rfl) ?_
                          refine lv_iconst (v := 1) hx hb dX11_isSimple_132 rfl ?_
                          refine lv_iadd hx hb dX11_isSimple_133 ?_
                          refine zz_i (v := nI (i2 + 1)) (nI_add i2 1) ?_
                          have hj_17 : W p l e ({ frames := 4, cells := 0, slots := 0, locals := 104 } : Room) s m ([.ref k0, .int (nI f)] : List Value).toArray below meth c H locs 0 0 Q9 (F0 m 142 ls [.int (pI (k = i2 + 1))]) := by
                            refine lv_istore (lv' := [(6, .int (pI (k = i2 + 1))), (5, .int (nI k)), (4, .int (nI i2)), (3, .int (nI (eO (kd f).toInt n))), (2, .int (nI n)), (0, .ref k0), (1, .int (nI f))]) hx hb dX11_isSimple_142 hl (Nat.le_of_ble_eq_true rfl) rfl (fun ls hl => ?_)
                            refine lv_aload_n hx hb dX11_isSimple_144 rfl (lv_at hl 5 rfl) ?_
                            refine lv_iload_n hx hb dX11_isSimple_145 rfl (lv_at hl 6 rfl) ?_
                            obtain ⟨hPc, hDc, hFc, hI1⟩ := zi_sub (wc := [_, _]) hP hD hS hA [0, 1] rfl rfl
                            refine zcall (st1 := [.int (pI (5 ≤ (kd f).toInt))]) (va_runV (As := [.int (nI f)]) (rest := []) ⟨hx, hb, hml, hown, hts⟩ (k_M_isRing l dC dI cI cZ cF H.size k0 a I0 J0 f kd (by first | with_reducible assumption | omega)) (csV_165 hts rfl rfl ⟨Nat.le_of_ble_eq_true rfl, Nat.le_of_ble_eq_true rfl⟩) (zPV2 (q0 := 0) (ci := 9) hPc hDc hK hXN rfl rfl) rfl rfl hl.1 rfl (lv_room (Nat.le_of_ble_eq_true rfl)) dX11_isSimple_146 ⟨Nat.le_of_ble_eq_true rfl, Nat.le_of_ble_eq_true rfl⟩) hS hFc hFc rfl (fun t H locs ht hB hk1 hS => ?_)
                            obtain ⟨hP1, hD1⟩ := hB
                            rw [ht] at hP1
                            replace hP := z0 hP hD hk1 hP1 hI1
                            clear hk1 hPc hDc hFc hP1 hD1 ht hI1
                            have hj_18 : W p l e ({ frames := 4, cells := 0, slots := 0, locals := 104 } : Room) s m ([.ref k0, .int (nI f)] : List Value).toArray below meth c H locs 0 0 Q9 (F0 m 170 ls [.int (pI (5 ≤ (kd f).toInt ∧ i2 = 0 ∧ k = eO (kd f).toInt n - 1))]) := by
                              refine lv_istore (lv' := [(7, .int (pI (5 ≤ (kd f).toInt ∧ i2 = 0 ∧ k = eO (kd f).toInt n - 1))), (6, .int (pI (k = i2 + 1))), (5, .int (nI k)), (4, .int (nI i2)), (3, .int (nI (eO (kd f).toInt n))), (2, .int (nI n)), (0, .ref k0), (1, .int (nI f))]) hx hb dX11_isSimple_170 hl (Nat.le_of_ble_eq_true rfl) rfl (fun ls hl => ?_)
                              refine lv_iload hx hb dX11_isSimple_172 (lv_at hl 1 rfl) ?_
                              refine lv_if_eq (tgt := 192) hx hb dX11_isSimple_174 rfl (fun c_19 => ?_) (fun c_19 => ?_)
                              · have c_19 : ¬ (k = i2 + 1) := zp_0 c_19
                                refine lv_iload hx hb dX11_isSimple_192 (lv_at hl 0 rfl) ?_
                                refine lv_if_eq (tgt := 212) hx hb dX11_isSimple_194 rfl (fun c_20 => ?_) (fun c_20 => ?_)
                                · have c_20 : ¬ (5 ≤ (kd f).toInt ∧ i2 = 0 ∧ k = eO (kd f).toInt n - 1) := zp_0 c_20
                                  refine lv_aload_n hx hb dX11_isSimple_212 rfl (lv_at hl 6 rfl) ?_
                                  refine lv_iload_n hx hb dX11_isSimple_213 rfl (lv_at hl 7 rfl) ?_
                                  refine lv_iload hx hb dX11_isSimple_214 (lv_at hl 3 rfl) ?_
                                  refine lv_iload hx hb dX11_isSimple_216 (lv_at hl 2 rfl) ?_
                                  obtain ⟨hPc, hDc, hFc⟩ := zo_sub (wc := [_, _, _, _, _]) hP hD hS hA [0, 2, 3, 4, 5] (by decide +kernel) rfl
                                  refine zcall (st1 := [.int (pI (eMt n (cF40 cx f) (cF40 cy f) i2 n (cF40 cx f) (cF40 cy f) k))]) (va_runV (As := [.int (nI f), .int (nI i2), .int (nI k)]) (rest := []) ⟨hx, hb, hml, hown, hts⟩ (k_M_meetsEdge l dC dI cI cZ cF H.size k0 a I0 J0 f n i2 k mn cx cy S5 (by first | with_reducible assumption | omega) (by first | with_reducible assumption | assumption) (by first | with_reducible assumption | omega) (by first | with_reducible assumption | assumption) (by first | with_reducible assumption | omega) (by first | with_reducible assumption | omega)) (csV_171 hts rfl rfl ⟨Nat.le_of_ble_eq_true rfl, Nat.le_of_ble_eq_true rfl⟩) (zPV2 (q0 := 0) (ci := 9) hPc hDc hK hXN rfl rfl) rfl rfl hl.1 rfl (lv_room (Nat.le_of_ble_eq_true rfl)) dX11_isSimple_218 ⟨Nat.le_of_ble_eq_true rfl, Nat.le_of_ble_eq_true rfl⟩) hS hFc hFc rfl (fun t H locs ht hB hk1 hS => ?_)
                                  obtain ⟨q_21, hP1, hD1⟩ := hB
                                  rw [ht] at hP1
                                  obtain ⟨hP, hD⟩ := zn (W2 := [_, _, _, _, _, (oa (a 32) cI 8 q_21)]) hP hD hk1 hFc hP1 hD1 [0, 2, 3, 4, 5] [false, true] [false, true, false, false, false, false] [0, 2, 3, 4, 5] (by decide +kernel) rfl rfl rfl rfl rfl
                                  clear hk1 hPc hDc hFc hP1 hD1 ht
                                  refine lv_if_eq (tgt := 226) hx hb dX11_isSimple_221 rfl (fun c_22 => ?_) (fun c_22 => ?_)
                                  · have c_22 : ¬ (eMt n (cF40 cx f) (cF40 cy f) i2 n (cF40 cx f) (cF40 cy f) k) := zp_0 c_22
                                    refine lv_iinc (v := nI (k + 1)) (lv' := [(5, .int (nI (k + 1))), (7, .int (pI (5 ≤ (kd f).toInt ∧ i2 = 0 ∧ k = eO (kd f).toInt n - 1))), (6, .int (pI (k = i2 + 1))), (4, .int (nI i2)), (3, .int (nI (eO (kd f).toInt n))), (2, .int (nI n)), (0, .ref k0), (1, .int (nI f))]) hx hb dX11_isSimple_226 hl (k := 2) rfl (nI_add k 1) (Nat.le_of_ble_eq_true rfl) rfl (fun ls hl => ?_)
                                    refine lv_goto (tgt := 122) hx hb dX11_isSimple_229 rfl ?_
                                    exact ih_122 (k + 1) q_21 H locs ls (by first | with_reducible assumption | omega) (by first | with_reducible assumption | omega) (by first | with_reducible assumption | omega) (by intro q h1 h2; rcases Nat.lt_or_ge q k with h | h; exact hal3 q h1 h; rw [show q = k by omega]; unfold mCn; refine ⟨fun h => ?_, fun h h4 => ?_, fun h h4 => ?_⟩ <;> first | assumption | (exfalso; omega) | (exfalso; exact absurd h4 (by first | with_reducible assumption | assumption)) | (exfalso; exact absurd (by first | with_reducible assumption | assumption) h4)) hP hD hS (lv_sub hl [0, 3, 4, 5, 6, 7] rfl)
                                  · have c_22 : eMt n (cF40 cx f) (cF40 cy f) i2 n (cF40 cx f) (cF40 cy f) k := zp_1 c_22
                                    refine lv_iconst (v := 0) hx hb dX11_isSimple_224 rfl ?_
                                    obtain ⟨hP9, hD9⟩ := zu_sub (wc := [_, _, _, _, _, _]) hP hD [true, true, true, true, true, true] rfl rfl
                                    rw [hQ9]
                                    exact W.zret (ty := .boolean) (v := 0) hx hb hr (rfl) (fun t ht hW => ⟨⟨congrArg (fun z => Outcome.returned (some (Value.int z))) (show (0 : Int32) = pI (mSm (kd f).toInt n (cF40 cx f) (cF40 cy f)) from (zp_f (by unfold mSm; intro h; have h9 := (h.2 (by first | with_reducible assumption | assumption)).2.2.1 i2 k (by omega) (by omega); unfold mCn at h9; first | exact h9.1 (by first | with_reducible assumption | assumption) (by first | with_reducible assumption | assumption) | exact h9.2.1 (by first | with_reducible assumption | assumption) (by first | with_reducible assumption | assumption) (by first | with_reducible assumption | assumption) | exact h9.2.2 (by first | with_reducible assumption | assumption) (by first | with_reducible assumption | assumption) (by first | with_reducible assumption | assumption))).symm), q_21, by rw [ht]; exact hP9, hD9⟩, hS.F ht⟩) hS.2.2 dX11_isSimple_225
                                · have c_20 : 5 ≤ (kd f).toInt ∧ i2 = 0 ∧ k = eO (kd f).toInt n - 1 := zp_1 c_20
                                  refine lv_aload_n hx hb dX11_isSimple_197 rfl (lv_at hl 6 rfl) ?_
                                  refine lv_iload_n hx hb dX11_isSimple_198 rfl (lv_at hl 7 rfl) ?_
                                  refine lv_iload hx hb dX11_isSimple_199 (lv_at hl 2 rfl) ?_
                                  refine lv_iload hx hb dX11_isSimple_201 (lv_at hl 3 rfl) ?_
                                  obtain ⟨hPc, hDc, hFc⟩ := zo_sub (wc := [_, _, _, _, _]) hP hD hS hA [0, 2, 3, 4, 5] (by decide +kernel) rfl
                                  refine zcall (st1 := [.int (pI (mFl n (cF40 cx f) (cF40 cy f) k i2))]) (va_runV (As := [.int (nI f), .int (nI k), .int (nI i2)]) (rest := []) ⟨hx, hb, hml, hown, hts⟩ (k_M_folds l dC dI cI cZ cF H.size k0 a I0 J0 f n k i2 mn cx cy S5 (by first | with_reducible assumption | omega) (by first | with_reducible assumption | assumption) (by first | with_reducible assumption | omega) (by first | with_reducible assumption | assumption) (by first | with_reducible assumption | omega) (by first | with_reducible assumption | omega)) (csV_172 hts rfl rfl ⟨Nat.le_of_ble_eq_true rfl, Nat.le_of_ble_eq_true rfl⟩) (zPV2 (q0 := 0) (ci := 9) hPc hDc hK hXN rfl rfl) rfl rfl hl.1 rfl (lv_room (Nat.le_of_ble_eq_true rfl)) dX11_isSimple_203 ⟨Nat.le_of_ble_eq_true rfl, Nat.le_of_ble_eq_true rfl⟩) hS hFc hFc rfl (fun t H locs ht hB hk1 hS => ?_)
                                  obtain ⟨q_23, hP1, hD1⟩ := hB
                                  rw [ht] at hP1
                                  obtain ⟨hP, hD⟩ := zn (W2 := [_, _, _, _, _, (oa (a 32) cI 8 q_23)]) hP hD hk1 hFc hP1 hD1 [0, 2, 3, 4, 5] [false, true] [false, true, false, false, false, false] [0, 2, 3, 4, 5] (by decide +kernel) rfl rfl rfl rfl rfl
                                  clear hk1 hPc hDc hFc hP1 hD1 ht
                                  refine lv_if_eq (tgt := 226) hx hb dX11_isSimple_206 rfl (fun c_24 => ?_) (fun c_24 => ?_)
                                  · have c_24 : ¬ (mFl n (cF40 cx f) (cF40 cy f) k i2) := zp_0 c_24
                                    refine lv_iinc (v := nI (k + 1)) (lv' := [(5, .int (nI (k + 1))), (7, .int (pI (5 ≤ (kd f).toInt ∧ i2 = 0 ∧ k = eO (kd f).toInt n - 1))), (6, .int (pI (k = i2 + 1))), (4, .int (nI i2)), (3, .int (nI (eO (kd f).toInt n))), (2, .int (nI n)), (0, .ref k0), (1, .int (nI f))]) hx hb dX11_isSimple_226 hl (k := 2) rfl (nI_add k 1) (Nat.le_of_ble_eq_true rfl) rfl (fun ls hl => ?_)
                                    refine lv_goto (tgt := 122) hx hb dX11_isSimple_229 rfl ?_
                                    exact ih_122 (k + 1) q_23 H locs ls (by first | with_reducible assumption | omega) (by first | with_reducible assumption | omega) (by first | with_reducible assumption | omega) (by intro q h1 h2; rcases Nat.lt_or_ge q k with h | h; exact hal3 q h1 h; rw [show q = k by omega]; unfold mCn; refine ⟨fun h => ?_, fun h h4 => ?_, fun h h4 => ?_⟩ <;> first | assumption | (exfalso; omega) | (exfalso; exact absurd h4 (by first | with_reducible assumption | assumption)) | (exfalso; exact absurd (by first | with_reducible assumption | assumption) h4)) hP hD hS (lv_sub hl [0, 3, 4, 5, 6, 7] rfl)
                                  · have c_24 : mFl n (cF40 cx f) (cF40 cy f) k i2 := zp_1 c_24
                                    refine lv_goto (tgt := 224) hx hb dX11_isSimple_209 rfl ?_
                                    refine lv_iconst (v := 0) hx hb dX11_isSimple_224 rfl ?_
                                    obtain ⟨hP9, hD9⟩ := zu_sub (wc := [_, _, _, _, _, _]) hP hD [true, true, true, true, true, true] rfl rfl
                                    rw [hQ9]
                                    exact W.zret (ty := .boolean) (v := 0) hx hb hr (rfl) (fun t ht hW => ⟨⟨congrArg (fun z => Outcome.returned (some (Value.int z))) (show (0 : Int32) = pI (mSm (kd f).toInt n (cF40 cx f) (cF40 cy f)) from (zp_f (by unfold mSm; intro h; have h9 := (h.2 (by first | with_reducible assumption | assumption)).2.2.1 i2 k (by omega) (by omega); unfold mCn at h9; first | exact h9.1 (by first | with_reducible assumption | assumption) (by first | with_reducible assumption | assumption) | exact h9.2.1 (by first | with_reducible assumption | assumption) (by first | with_reducible assumption | assumption) (by first | with_reducible assumption | assumption) | exact h9.2.2 (by first | with_reducible assumption | assumption) (by first | with_reducible assumption | assumption) (by first | with_reducible assumption | assumption))).symm), q_23, by rw [ht]; exact hP9, hD9⟩, hS.F ht⟩) hS.2.2 dX11_isSimple_225
                              · have c_19 : k = i2 + 1 := zp_1 c_19
                                refine lv_aload_n hx hb dX11_isSimple_177 rfl (lv_at hl 6 rfl) ?_
                                refine lv_iload_n hx hb dX11_isSimple_178 rfl (lv_at hl 7 rfl) ?_
                                refine lv_iload hx hb dX11_isSimple_179 (lv_at hl 3 rfl) ?_
                                refine lv_iload hx hb dX11_isSimple_181 (lv_at hl 2 rfl) ?_
                                obtain ⟨hPc, hDc, hFc⟩ := zo_sub (wc := [_, _, _, _, _]) hP hD hS hA [0, 2, 3, 4, 5] (by decide +kernel) rfl
                                refine zcall (st1 := [.int (pI (mFl n (cF40 cx f) (cF40 cy f) i2 k))]) (va_runV (As := [.int (nI f), .int (nI i2), .int (nI k)]) (rest := []) ⟨hx, hb, hml, hown, hts⟩ (k_M_folds l dC dI cI cZ cF H.size k0 a I0 J0 f n i2 k mn cx cy S5 (by first | with_reducible assumption | omega) (by first | with_reducible assumption | assumption) (by first | with_reducible assumption | omega) (by first | with_reducible assumption | assumption) (by first | with_reducible assumption | omega) (by first | with_reducible assumption | omega)) (csV_172 hts rfl rfl ⟨Nat.le_of_ble_eq_true rfl, Nat.le_of_ble_eq_true rfl⟩) (zPV2 (q0 := 0) (ci := 9) hPc hDc hK hXN rfl rfl) rfl rfl hl.1 rfl (lv_room (Nat.le_of_ble_eq_true rfl)) dX11_isSimple_183 ⟨Nat.le_of_ble_eq_true rfl, Nat.le_of_ble_eq_true rfl⟩) hS hFc hFc rfl (fun t H locs ht hB hk1 hS => ?_)
                                obtain ⟨q_25, hP1, hD1⟩ := hB
                                rw [ht] at hP1
                                obtain ⟨hP, hD⟩ := zn (W2 := [_, _, _, _, _, (oa (a 32) cI 8 q_25)]) hP hD hk1 hFc hP1 hD1 [0, 2, 3, 4, 5] [false, true] [false, true, false, false, false, false] [0, 2, 3, 4, 5] (by decide +kernel) rfl rfl rfl rfl rfl
                                clear hk1 hPc hDc hFc hP1 hD1 ht
                                refine lv_if_eq (tgt := 226) hx hb dX11_isSimple_186 rfl (fun c_26 => ?_) (fun c_26 => ?_)
                                · have c_26 : ¬ (mFl n (cF40 cx f) (cF40 cy f) i2 k) := zp_0 c_26
                                  refine lv_iinc (v := nI (k + 1)) (lv' := [(5, .int (nI (k + 1))), (7, .int (pI (5 ≤ (kd f).toInt ∧ i2 = 0 ∧ k = eO (kd f).toInt n - 1))), (6, .int (pI (k = i2 + 1))), (4, .int (nI i2)), (3, .int (nI (eO (kd f).toInt n))), (2, .int (nI n)), (0, .ref k0), (1, .int (nI f))]) hx hb dX11_isSimple_226 hl (k := 2) rfl (nI_add k 1) (Nat.le_of_ble_eq_true rfl) rfl (fun ls hl => ?_)
                                  refine lv_goto (tgt := 122) hx hb dX11_isSimple_229 rfl ?_
                                  exact ih_122 (k + 1) q_25 H locs ls (by first | with_reducible assumption | omega) (by first | with_reducible assumption | omega) (by first | with_reducible assumption | omega) (by intro q h1 h2; rcases Nat.lt_or_ge q k with h | h; exact hal3 q h1 h; rw [show q = k by omega]; unfold mCn; refine ⟨fun h => ?_, fun h h4 => ?_, fun h h4 => ?_⟩ <;> first | assumption | (exfalso; omega) | (exfalso; exact absurd h4 (by first | with_reducible assumption | assumption)) | (exfalso; exact absurd (by first | with_reducible assumption | assumption) h4)) hP hD hS (lv_sub hl [0, 3, 4, 5, 6, 7] rfl)
                                · have c_26 : mFl n (cF40 cx f) (cF40 cy f) i2 k := zp_1 c_26
                                  refine lv_goto (tgt := 224) hx hb dX11_isSimple_189 rfl ?_
                                  refine lv_iconst (v := 0) hx hb dX11_isSimple_224 rfl ?_
                                  obtain ⟨hP9, hD9⟩ := zu_sub (wc := [_, _, _, _, _, _]) hP hD [true, true, true, true, true, true] rfl rfl
                                  rw [hQ9]
                                  exact W.zret (ty := .boolean) (v := 0) hx hb hr (rfl) (fun t ht hW => ⟨⟨congrArg (fun z => Outcome.returned (some (Value.int z))) (show (0 : Int32) = pI (mSm (kd f).toInt n (cF40 cx f) (cF40 cy f)) from (zp_f (by unfold mSm; intro h; have h9 := (h.2 (by first | with_reducible assumption | assumption)).2.2.1 i2 k (by omega) (by omega); unfold mCn at h9; first | exact h9.1 (by first | with_reducible assumption | assumption) (by first | with_reducible assumption | assumption) | exact h9.2.1 (by first | with_reducible assumption | assumption) (by first | with_reducible assumption | assumption) (by first | with_reducible assumption | assumption) | exact h9.2.2 (by first | with_reducible assumption | assumption) (by first | with_reducible assumption | assumption) (by first | with_reducible assumption | assumption))).symm), q_25, by rw [ht]; exact hP9, hD9⟩, hS.F ht⟩) hS.2.2 dX11_isSimple_225
                            refine lv_if_eq (tgt := 169) hx hb dX11_isSimple_149 rfl (fun c_27 => ?_) (fun c_27 => ?_)
                            · have c_27 : ¬ (5 ≤ (kd f).toInt) := zp_0 c_27
                              refine lv_iconst (v := 0) hx hb dX11_isSimple_169 rfl ?_
                              refine zz_i (v := pI (5 ≤ (kd f).toInt ∧ i2 = 0 ∧ k = eO (kd f).toInt n - 1)) (by first | exact (zp_t ⟨by assumption, by omega, by omega⟩).symm | exact (zp_f (fun h => absurd h.1 (by first | with_reducible assumption | assumption))).symm | exact (zp_f (by omega)).symm) ?_
                              exact hj_18 
                            · have c_27 : 5 ≤ (kd f).toInt := zp_1 c_27
                              refine lv_iload hx hb dX11_isSimple_152 (lv_at hl 2 rfl) ?_
                              have b9_29 : zlt (i2) := show i2 < 2147483648 by omega
                              refine lv_if_ne (tgt := 169) hx hb dX11_isSimple_154 rfl (fun c_28 => ?_) (fun c_28 => ?_)
                              · have c_28 : ¬ ((i2 : Nat) : Int) = 0 := zc_ne (nI_toInt b9_29) rfl c_28
                                refine lv_iconst (v := 0) hx hb dX11_isSimple_169 rfl ?_
                                refine zz_i (v := pI (5 ≤ (kd f).toInt ∧ i2 = 0 ∧ k = eO (kd f).toInt n - 1)) (by first | exact (zp_t ⟨by assumption, by omega, by omega⟩).symm | exact (zp_f (fun h => absurd h.1 (by first | with_reducible assumption | assumption))).symm | exact (zp_f (by omega)).symm) ?_
                                exact hj_18 
                              · have c_28 : ((i2 : Nat) : Int) = 0 := zc_eq (nI_toInt b9_29) rfl c_28
                                refine lv_iload hx hb dX11_isSimple_157 (lv_at hl 1 rfl) ?_
                                refine lv_iload_n hx hb dX11_isSimple_159 rfl (lv_at hl 3 rfl) ?_
                                refine lv_iconst (v := 1) hx hb dX11_isSimple_160 rfl ?_
                                refine lv_isub hx hb dX11_isSimple_161 ?_
                                refine zz_i (v := nI ((eO (kd f).toInt n) - 1)) (pk_sub (a := eO (kd f).toInt n) (b := 1) (by omega)) ?_
                                have b9_31 : zlt (k) := show k < 2147483648 by omega
                                have b9_32 : zlt (((eO (kd f).toInt n) - 1)) := show ((eO (kd f).toInt n) - 1) < 2147483648 by omega
                                refine lv_icmp_ne (tgt := 169) hx hb dX11_isSimple_162 rfl (fun c_30 => ?_) (fun c_30 => ?_)
                                · have c_30 : ¬ ((k : Nat) : Int) = (((eO (kd f).toInt n) - 1 : Nat) : Int) := zc_ne (nI_toInt b9_31) (nI_toInt b9_32) c_30
                                  refine lv_iconst (v := 0) hx hb dX11_isSimple_169 rfl ?_
                                  refine zz_i (v := pI (5 ≤ (kd f).toInt ∧ i2 = 0 ∧ k = eO (kd f).toInt n - 1)) (by first | exact (zp_t ⟨by assumption, by omega, by omega⟩).symm | exact (zp_f (fun h => absurd h.1 (by first | with_reducible assumption | assumption))).symm | exact (zp_f (by omega)).symm) ?_
                                  exact hj_18 
                                · have c_30 : ((k : Nat) : Int) = (((eO (kd f).toInt n) - 1 : Nat) : Int) := zc_eq (nI_toInt b9_31) (nI_toInt b9_32) c_30
                                  refine lv_iconst (v := 1) hx hb dX11_isSimple_165 rfl ?_
                                  refine lv_goto (tgt := 170) hx hb dX11_isSimple_166 rfl ?_
                                  refine zz_i (v := pI (5 ≤ (kd f).toInt ∧ i2 = 0 ∧ k = eO (kd f).toInt n - 1)) (by first | exact (zp_t ⟨by assumption, by omega, by omega⟩).symm | exact (zp_f (fun h => absurd h.1 (by first | with_reducible assumption | assumption))).symm | exact (zp_f (by omega)).symm) ?_
                                  exact hj_18 
                          have b9_34 : zlt (k) := show k < 2147483648 by omega
                          have b9_35 : zlt ((i2 + 1)) := show (i2 + 1) < 2147483648 by omega
                          refine lv_icmp_ne (tgt := 141) hx hb dX11_isSimple_134 rfl (fun c_33 => ?_) (fun c_33 => ?_)
                          · have c_33 : ¬ ((k : Nat) : Int) = ((i2 + 1 : Nat) : Int) := zc_ne (nI_toInt b9_34) (nI_toInt b9_35) c_33
                            refine lv_iconst (v := 0) hx hb dX11_isSimple_141 rfl ?_
                            refine zz_i (v := pI (k = i2 + 1)) (by first | exact (zp_t (by omega)).symm | exact (zp_f (by omega)).symm) ?_
                            exact hj_17 
                          · have c_33 : ((k : Nat) : Int) = ((i2 + 1 : Nat) : Int) := zc_eq (nI_toInt b9_34) (nI_toInt b9_35) c_33
                            refine lv_iconst (v := 1) hx hb dX11_isSimple_137 rfl ?_
                            refine lv_goto (tgt := 142) hx hb dX11_isSimple_138 rfl ?_
                            refine zz_i (v := pI (k = i2 + 1)) (by first | exact (zp_t (by omega)).symm | exact (zp_f (by omega)).symm) ?_
                            exact hj_17 
                    exact hl_122 _ (i2 + 1) S4 H locs ls (Nat.lt_succ_self _) (by first | with_reducible assumption | omega) (by first | with_reducible assumption | omega) (by intro q h1 h2; omega) hP hD hS (lv_sub hl [0, 1, 2, 3, 4, 5] rfl)
              exact hl_110 _ 0 S1 H locs ls (Nat.lt_succ_self _) (by first | with_reducible assumption | omega) (by intro i k hi; omega) hP hD hS (lv_sub hl [0, 1, 2, 3, 4] rfl)
            · have c_7 : ((i : Nat) : Int) < ((eO (kd f).toInt n : Nat) : Int) := zc_nle (nI_toInt b9_9) (nI_toInt b9_8) c_7
              have hin9 : i < n := (by omega)
              have hnx := nxt_lt (n := n) (i := i) (by omega)
              refine lv_aload_n hx hb dX11_isSimple_61 rfl (lv_at hl 3 rfl) ?_
              refine lv_iload_n hx hb dX11_isSimple_62 rfl (lv_at hl 4 rfl) ?_
              refine lv_iload hx hb dX11_isSimple_63 (lv_at hl 0 rfl) ?_
              refine lv_iconst (v := 0) hx hb dX11_isSimple_65 rfl ?_
              obtain ⟨hPc, hDc, hFc⟩ := zo_sub (wc := [_, _, _, _, _]) hP hD hS hA [0, 2, 3, 4, 5] (by decide +kernel) rfl
              refine zcall (st1 := []) (va_runV (As := [.int (nI f), .int (nI i), .int 0]) (rest := []) ⟨hx, hb, hml, hown, hts⟩ (k_M_edge l dC dI cI cZ cF H.size k0 a I0 J0 f n i 0 mn cx cy S1 (by first | with_reducible assumption | omega) (by first | with_reducible assumption | assumption) (by first | with_reducible assumption | omega) (by first | with_reducible assumption | omega) (by first | with_reducible assumption | omega)) (csV_167 hts rfl rfl ⟨Nat.le_of_ble_eq_true rfl, Nat.le_of_ble_eq_true rfl⟩) (zPV2 (q0 := 0) (ci := 9) hPc hDc hK hXN rfl rfl) rfl rfl hl.1 rfl (lv_room (Nat.le_of_ble_eq_true rfl)) dX11_isSimple_66 ⟨Nat.le_of_ble_eq_true rfl, Nat.le_of_ble_eq_true rfl⟩) hS hFc hFc rfl (fun t H locs ht hB hk1 hS => ?_)
              obtain ⟨S2, t0, t1, t2, t3, tr, hP1, hD1⟩ := hB
              rw [ht] at hP1
              obtain ⟨hP, hD⟩ := zn (W2 := [_, _, _, _, _, (oa (a 32) cI 8 S2)]) hP hD hk1 hFc hP1 hD1 [0, 2, 3, 4, 5] [false, true] [false, true, false, false, false, false] [0, 2, 3, 4, 5] (by decide +kernel) rfl rfl rfl rfl rfl
              clear hk1 hPc hDc hFc hP1 hD1 ht
              have v0 : S2 0 = cF40 cx f i := t0
              have v1 : S2 1 = cF40 cy f i := t1
              have v2 : S2 2 = cF40 cx f (nxt n i) := t2
              have v3 : S2 3 = cF40 cy f (nxt n i) := t3
              refine lv_aload_n hx hb dX11_isSimple_69 rfl (lv_at hl 3 rfl) ?_
              refine va_get (D := (dC, dI)) (ci := 9) (v := .ref (a 32)) (C := RX11) (T := TX11) (N := 55) hx hb hts inX11 hown hK hP 0 rfl rfl 32 (Nat.le_of_ble_eq_true rfl) (hts _ mw_1191) (fun _ h9 => h9) rfl dX11_isSimple_70 ?_
              refine lv_iconst (v := 0) hx hb dX11_isSimple_73 rfl ?_
              refine z_iald hx hb hK hP 5 0 rfl rfl (e := 0) rfl (Nat.le_of_ble_eq_true rfl) (Nat.le_of_ble_eq_true rfl) dX11_isSimple_74 ?_
              refine zz_i (v := cF40 cx f i) (v0) ?_
              refine lv_aload_n hx hb dX11_isSimple_75 rfl (lv_at hl 3 rfl) ?_
              refine va_get (D := (dC, dI)) (ci := 9) (v := .ref (a 32)) (C := RX11) (T := TX11) (N := 55) hx hb hts inX11 hown hK hP 0 rfl rfl 32 (Nat.le_of_ble_eq_true rfl) (hts _ mw_1191) (fun _ h9 => h9) rfl dX11_isSimple_76 ?_
              refine lv_iconst (v := 2) hx hb dX11_isSimple_79 rfl ?_
              refine z_iald hx hb hK hP 5 0 rfl rfl (e := 2) rfl (Nat.le_of_ble_eq_true rfl) (Nat.le_of_ble_eq_true rfl) dX11_isSimple_80 ?_
              refine zz_i (v := cF40 cx f (nxt n i)) (v2) ?_
              refine lv_icmp_ne (tgt := 101) hx hb dX11_isSimple_81 rfl (fun c_36 => ?_) (fun c_36 => ?_)
              · have c_36 : ¬ (cF40 cx f i).toInt = (cF40 cx f (nxt n i)).toInt := zc_ne rfl rfl c_36
                refine lv_iinc (v := nI (i + 1)) (lv' := [(4, .int (nI (i + 1))), (3, .int (nI (eO (kd f).toInt n))), (2, .int (nI n)), (0, .ref k0), (1, .int (nI f))]) hx hb dX11_isSimple_101 hl (k := 0) rfl (nI_add i 1) (Nat.le_of_ble_eq_true rfl) rfl (fun ls hl => ?_)
                refine lv_goto (tgt := 55) hx hb dX11_isSimple_104 rfl ?_
                exact ih_55 (i + 1) S2 H locs ls (by first | with_reducible assumption | omega) (by first | with_reducible assumption | omega) (by intro j hj; rcases Nat.lt_or_ge j i with h | h; exact hall j h; rw [show j = i by omega]; omega) hP hD hS (lv_sub hl [0, 1, 2, 3, 4] rfl)
              · have c_36 : (cF40 cx f i).toInt = (cF40 cx f (nxt n i)).toInt := zc_eq rfl rfl c_36
                refine lv_aload_n hx hb dX11_isSimple_84 rfl (lv_at hl 3 rfl) ?_
                refine va_get (D := (dC, dI)) (ci := 9) (v := .ref (a 32)) (C := RX11) (T := TX11) (N := 55) hx hb hts inX11 hown hK hP 0 rfl rfl 32 (Nat.le_of_ble_eq_true rfl) (hts _ mw_1191) (fun _ h9 => h9) rfl dX11_isSimple_85 ?_
                refine lv_iconst (v := 1) hx hb dX11_isSimple_88 rfl ?_
                refine z_iald hx hb hK hP 5 0 rfl rfl (e := 1) rfl (Nat.le_of_ble_eq_true rfl) (Nat.le_of_ble_eq_true rfl) dX11_isSimple_89 ?_
                refine zz_i (v := cF40 cy f i) (v1) ?_
                refine lv_aload_n hx hb dX11_isSimple_90 rfl (lv_at hl 3 rfl) ?_
                refine va_get (D := (dC, dI)) (ci := 9) (v := .ref (a 32)) (C := RX11) (T := TX11) (N := 55) hx hb hts inX11 hown hK hP 0 rfl rfl 32 (Nat.le_of_ble_eq_true rfl) (hts _ mw_1191) (fun _ h9 => h9) rfl dX11_isSimple_91 ?_
                refine lv_iconst (v := 3) hx hb dX11_isSimple_94 rfl ?_
                refine z_iald hx hb hK hP 5 0 rfl rfl (e := 3) rfl (Nat.le_of_ble_eq_true rfl) (Nat.le_of_ble_eq_true rfl) dX11_isSimple_95 ?_
                refine zz_i (v := cF40 cy f (nxt n i)) (v3) ?_
                refine lv_icmp_ne (tgt := 101) hx hb dX11_isSimple_96 rfl (fun c_37 => ?_) (fun c_37 => ?_)
                · have c_37 : ¬ (cF40 cy f i).toInt = (cF40 cy f (nxt n i)).toInt := zc_ne rfl rfl c_37
                  refine lv_iinc (v := nI (i + 1)) (lv' := [(4, .int (nI (i + 1))), (3, .int (nI (eO (kd f).toInt n))), (2, .int (nI n)), (0, .ref k0), (1, .int (nI f))]) hx hb dX11_isSimple_101 hl (k := 0) rfl (nI_add i 1) (Nat.le_of_ble_eq_true rfl) rfl (fun ls hl => ?_)
                  refine lv_goto (tgt := 55) hx hb dX11_isSimple_104 rfl ?_
                  exact ih_55 (i + 1) S2 H locs ls (by first | with_reducible assumption | omega) (by first | with_reducible assumption | omega) (by intro j hj; rcases Nat.lt_or_ge j i with h | h; exact hall j h; rw [show j = i by omega]; omega) hP hD hS (lv_sub hl [0, 1, 2, 3, 4] rfl)
                · have c_37 : (cF40 cy f i).toInt = (cF40 cy f (nxt n i)).toInt := zc_eq rfl rfl c_37
                  refine lv_iconst (v := 0) hx hb dX11_isSimple_99 rfl ?_
                  obtain ⟨hP9, hD9⟩ := zu_sub (wc := [_, _, _, _, _, _]) hP hD [true, true, true, true, true, true] rfl rfl
                  rw [hQ9]
                  exact W.zret (ty := .boolean) (v := 0) hx hb hr (rfl) (fun t ht hW => ⟨⟨congrArg (fun z => Outcome.returned (some (Value.int z))) (show (0 : Int32) = pI (mSm (kd f).toInt n (cF40 cx f) (cF40 cy f)) from (zp_f (by unfold mSm; intro h; exact (h.2 (by first | with_reducible assumption | assumption)).2.1 i (by omega) (by omega))).symm), S2, by rw [ht]; exact hP9, hD9⟩, hS.F ht⟩) hS.2.2 dX11_isSimple_100
        exact hl_55 _ 0 S0 H locs ls (Nat.lt_succ_self _) (by first | with_reducible assumption | omega) (by intro j hj; omega) hP hD hS (lv_sub hl [0, 1, 2, 3, 4] rfl)
      · have c_4 : ((n : Nat) : Int) < ((mnc (kd f).toInt : Nat) : Int) := zc_nle (nI_toInt b9_6) (nI_toInt b9_5) c_4
        refine lv_iconst (v := 0) hx hb dX11_isSimple_44 rfl ?_
        obtain ⟨hP9, hD9⟩ := zu_sub (wc := [_, _, _, _, _, _]) hP hD [true, true, true, true, true, true] rfl rfl
        rw [hQ9]
        exact W.zret (ty := .boolean) (v := 0) hx hb hr (rfl) (fun t ht hW => ⟨⟨congrArg (fun z => Outcome.returned (some (Value.int z))) (show (0 : Int32) = pI (mSm (kd f).toInt n (cF40 cx f) (cF40 cy f)) from (zp_f (by unfold mSm; intro h; have h9 := (h.2 (by first | with_reducible assumption | assumption)).1; omega)).symm), S0, by rw [ht]; exact hP9, hD9⟩, hS.F ht⟩) hS.2.2 dX11_isSimple_45
    refine lv_if_eq (tgt := 40) hx hb dX11_isSimple_33 rfl (fun c_38 => ?_) (fun c_38 => ?_)
    · have c_38 : ¬ (5 ≤ (kd f).toInt) := zp_0 c_38
      refine lv_iconst (v := 2) hx hb dX11_isSimple_40 rfl ?_
      refine zz_i (v := nI (mnc (kd f).toInt)) (by first | (rw [hmc.1 (by first | with_reducible assumption | assumption)]; rfl) | (rw [hmc.2 (by first | with_reducible assumption | assumption)]; rfl)) ?_
      exact hj_3 
    · have c_38 : 5 ≤ (kd f).toInt := zp_1 c_38
      refine lv_iconst (v := 3) hx hb dX11_isSimple_36 rfl ?_
      refine lv_goto (tgt := 41) hx hb dX11_isSimple_37 rfl ?_
      refine zz_i (v := nI (mnc (kd f).toInt)) (by first | (rw [hmc.1 (by first | with_reducible assumption | assumption)]; rfl) | (rw [hmc.2 (by first | with_reducible assumption | assumption)]; rfl)) ?_
      exact hj_3 
  · have c_2 : (kd f).toInt = 0 := zc_eq rfl rfl c_2
    refine lv_iload_n hx hb dX11_isSimple_16 rfl (lv_at hl 0 rfl) ?_
    refine lv_iconst (v := 1) hx hb dX11_isSimple_17 rfl ?_
    have b9_40 : zlt (n) := show n < 2147483648 by omega
    refine lv_icmp_ne (tgt := 25) hx hb dX11_isSimple_18 rfl (fun c_39 => ?_) (fun c_39 => ?_)
    · have c_39 : ¬ ((n : Nat) : Int) = 1 := zc_ne (nI_toInt b9_40) rfl c_39
      refine lv_iconst (v := 0) hx hb dX11_isSimple_25 rfl ?_
      obtain ⟨hP9, hD9⟩ := zu_sub (wc := [_, _, _, _, _, _]) hP hD [true, true, true, true, true, true] rfl rfl
      rw [hQ9]
      exact W.zret (ty := .boolean) (v := 0) hx hb hr (rfl) (fun t ht hW => ⟨⟨congrArg (fun z => Outcome.returned (some (Value.int z))) (show (0 : Int32) = pI (mSm (kd f).toInt n (cF40 cx f) (cF40 cy f)) from (zp_f (by unfold mSm; omega)).symm), S0, by rw [ht]; exact hP9, hD9⟩, hS.F ht⟩) hS.2.2 dX11_isSimple_26
    · have c_39 : ((n : Nat) : Int) = 1 := zc_eq (nI_toInt b9_40) rfl c_39
      refine lv_iconst (v := 1) hx hb dX11_isSimple_21 rfl ?_
      refine lv_goto (tgt := 26) hx hb dX11_isSimple_22 rfl ?_
      obtain ⟨hP9, hD9⟩ := zu_sub (wc := [_, _, _, _, _, _]) hP hD [true, true, true, true, true, true] rfl rfl
      rw [hQ9]
      exact W.zret (ty := .boolean) (v := 1) hx hb hr (rfl) (fun t ht hW => ⟨⟨congrArg (fun z => Outcome.returned (some (Value.int z))) (show (1 : Int32) = pI (mSm (kd f).toInt n (cF40 cx f) (cF40 cy f)) from (zp_t (by unfold mSm; omega)).symm), S0, by rw [ht]; exact hP9, hD9⟩, hS.F ht⟩) hS.2.2 dX11_isSimple_26
end
section
set_option maxHeartbeats 4000000 in
set_option maxRecDepth 100000 in
theorem k_M_isWithin (l : Launch) (dC : Nat → ClassId) (dI : Nat → Nat → Nat) (cI cZ cF : ClassId) (sz : Nat) (ta : Nat) (T0 : Nat → Int32) (px : Int32) (py : Int32) (ht : ∀ k, k < 6 → pl (T0 k)) (hpx : pl px) (hpy : pl py) : zM l yX11_isWithin cX11_isWithin 6 (some .boolean) ({ frames := 2, cells := 0, slots := 0, locals := 56 } : Room) [.ref ta, .int px, .int py] (dC, dI) (zTy cI cZ cF) [(oa ta cI 6 T0)] sz (some (.int (pI (wtM (T0 0).toInt (T0 1).toInt (T0 2).toInt (T0 3).toInt (T0 4).toInt (T0 5).toInt px.toInt py.toInt)))) (fun A t => zPD (dC, dI) classes A [(oa ta cI 6 T0)] t.heap) 0 0 := by
  refine zIn (own := "ScaleShopModel") (loc := [(0, .ref ta), (1, .int px), (2, .int py)]) rfl rfl rfl rfl (fun p e s m below meth c hx hb hr hts hown hlocks hml hnm9 A hA hS hP hD hK hXN Q9 hQ9 ls hl => ?_)
  have hB0 := crBp (ht 0 (by omega)) (ht 1 (by omega)) (ht 2 (by omega)) (ht 3 (by omega)) hpx hpy
  have hB1 := crBp (ht 2 (by omega)) (ht 3 (by omega)) (ht 4 (by omega)) (ht 5 (by omega)) hpx hpy
  have hB2 := crBp (ht 4 (by omega)) (ht 5 (by omega)) (ht 0 (by omega)) (ht 1 (by omega)) hpx hpy
  have hB3 := crBp (ht 0 (by omega)) (ht 1 (by omega)) (ht 2 (by omega)) (ht 3 (by omega)) (ht 4 (by omega)) (ht 5 (by omega))
  have hg0 := sg_s (cr (T0 0).toInt (T0 1).toInt (T0 2).toInt (T0 3).toInt px.toInt py.toInt)
  have hg1 := sg_s (cr (T0 2).toInt (T0 3).toInt (T0 4).toInt (T0 5).toInt px.toInt py.toInt)
  have hg2 := sg_s (cr (T0 4).toInt (T0 5).toInt (T0 0).toInt (T0 1).toInt px.toInt py.toInt)
  refine lv_aload_n hx hb dX11_isWithin_0 rfl (lv_at hl 0 rfl) ?_
  refine lv_iconst (v := 0) hx hb dX11_isWithin_1 rfl ?_
  refine z_iald hx hb hK hP 0 0 rfl rfl (e := 0) rfl (Nat.le_of_ble_eq_true rfl) (Nat.le_of_ble_eq_true rfl) dX11_isWithin_2 ?_
  refine lv_i2l (v := (T0 0).toInt64) hx hb dX11_isWithin_3 (rfl) ?_
  refine lv_aload_n hx hb dX11_isWithin_4 rfl (lv_at hl 0 rfl) ?_
  refine lv_iconst (v := 1) hx hb dX11_isWithin_5 rfl ?_
  refine z_iald hx hb hK hP 0 0 rfl rfl (e := 1) rfl (Nat.le_of_ble_eq_true rfl) (Nat.le_of_ble_eq_true rfl) dX11_isWithin_6 ?_
  refine lv_i2l (v := (T0 1).toInt64) hx hb dX11_isWithin_7 (rfl) ?_
  refine lv_aload_n hx hb dX11_isWithin_8 rfl (lv_at hl 0 rfl) ?_
  refine lv_iconst (v := 2) hx hb dX11_isWithin_9 rfl ?_
  refine z_iald hx hb hK hP 0 0 rfl rfl (e := 2) rfl (Nat.le_of_ble_eq_true rfl) (Nat.le_of_ble_eq_true rfl) dX11_isWithin_10 ?_
  refine lv_i2l (v := (T0 2).toInt64) hx hb dX11_isWithin_11 (rfl) ?_
  refine lv_aload_n hx hb dX11_isWithin_12 rfl (lv_at hl 0 rfl) ?_
  refine lv_iconst (v := 3) hx hb dX11_isWithin_13 rfl ?_
  refine z_iald hx hb hK hP 0 0 rfl rfl (e := 3) rfl (Nat.le_of_ble_eq_true rfl) (Nat.le_of_ble_eq_true rfl) dX11_isWithin_14 ?_
  refine lv_i2l (v := (T0 3).toInt64) hx hb dX11_isWithin_15 (rfl) ?_
  refine lv_iload_n hx hb dX11_isWithin_16 rfl (lv_at hl 1 rfl) ?_
  refine lv_i2l (v := px.toInt64) hx hb dX11_isWithin_17 (rfl) ?_
  refine lv_iload_n hx hb dX11_isWithin_18 rfl (lv_at hl 2 rfl) ?_
  refine lv_i2l (v := py.toInt64) hx hb dX11_isWithin_19 (rfl) ?_
  obtain ⟨hPc, hDc, hFc, hI1⟩ := zi_sub (wc := []) hP hD hS hA [] rfl rfl
  refine zcall (st1 := [.long (jI (cr (T0 0).toInt (T0 1).toInt (T0 2).toInt (T0 3).toInt px.toInt py.toInt))]) (va_runS (As := [.long ((T0 0).toInt64), .long ((T0 1).toInt64), .long ((T0 2).toInt64), .long ((T0 3).toInt64), .long px.toInt64, .long py.toInt64]) (rest := []) ⟨hx, hb, hml, hown, hts⟩ (k_M_cross l dC dI cI cZ cF s.heap.size (T0 0) (T0 1) (T0 2) (T0 3) px py (by first | exact ht _ (by first | with_reducible assumption | omega) | assumption) (by first | exact ht _ (by first | with_reducible assumption | omega) | assumption) (by first | exact ht _ (by first | with_reducible assumption | omega) | assumption) (by first | exact ht _ (by first | with_reducible assumption | omega) | assumption) (by first | exact ht _ (by first | with_reducible assumption | omega) | assumption) (by first | exact ht _ (by first | with_reducible assumption | omega) | assumption)) (csS_162 hts rfl rfl ⟨Nat.le_of_ble_eq_true rfl, Nat.le_of_ble_eq_true rfl⟩) (zPS2 hPc hDc hK hXN) rfl rfl hl.1 rfl (lv_room (Nat.le_of_ble_eq_true rfl)) dX11_isWithin_20 ⟨Nat.le_of_ble_eq_true rfl, Nat.le_of_ble_eq_true rfl⟩) hS hFc hFc rfl (fun t H locs ht hB hk1 hS => ?_)
  obtain ⟨hP1, hD1⟩ := hB
  rw [ht] at hP1
  replace hP := z0 hP hD hk1 hP1 hI1
  clear hk1 hPc hDc hFc hP1 hD1 ht hI1
  obtain ⟨hPc, hDc, hFc, hI1⟩ := zi_sub (wc := []) hP hD hS hA [] rfl rfl
  refine zcall (st1 := [.int (iI (sg (cr (T0 0).toInt (T0 1).toInt (T0 2).toInt (T0 3).toInt px.toInt py.toInt)))]) (va_runS (As := [.long (jI (cr (T0 0).toInt (T0 1).toInt (T0 2).toInt (T0 3).toInt px.toInt py.toInt))]) (rest := []) ⟨hx, hb, hml, hown, hts⟩ (k_M_signOf l dC dI cI cZ cF H.size (cr (T0 0).toInt (T0 1).toInt (T0 2).toInt (T0 3).toInt px.toInt py.toInt) (by first | with_reducible assumption | omega)) (csS_163 hts rfl rfl ⟨Nat.le_of_ble_eq_true rfl, Nat.le_of_ble_eq_true rfl⟩) (zPS2 hPc hDc hK hXN) rfl rfl hl.1 rfl (lv_room (Nat.le_of_ble_eq_true rfl)) dX11_isWithin_23 ⟨Nat.le_of_ble_eq_true rfl, Nat.le_of_ble_eq_true rfl⟩) hS hFc hFc rfl (fun t H locs ht hB hk1 hS => ?_)
  obtain ⟨hP1, hD1⟩ := hB
  rw [ht] at hP1
  replace hP := z0 hP hD hk1 hP1 hI1
  clear hk1 hPc hDc hFc hP1 hD1 ht hI1
  refine lv_istore_n (lv' := [(3, .int (iI (sg (cr (T0 0).toInt (T0 1).toInt (T0 2).toInt (T0 3).toInt px.toInt py.toInt)))), (0, .ref ta), (1, .int px), (2, .int py)]) hx hb dX11_isWithin_26 rfl hl (Nat.le_of_ble_eq_true rfl) rfl (fun ls hl => ?_)
  refine lv_aload_n hx hb dX11_isWithin_27 rfl (lv_at hl 1 rfl) ?_
  refine lv_iconst (v := 2) hx hb dX11_isWithin_28 rfl ?_
  refine z_iald hx hb hK hP 0 0 rfl rfl (e := 2) rfl (Nat.le_of_ble_eq_true rfl) (Nat.le_of_ble_eq_true rfl) dX11_isWithin_29 ?_
  refine lv_i2l (v := (T0 2).toInt64) hx hb dX11_isWithin_30 (rfl) ?_
  refine lv_aload_n hx hb dX11_isWithin_31 rfl (lv_at hl 1 rfl) ?_
  refine lv_iconst (v := 3) hx hb dX11_isWithin_32 rfl ?_
  refine z_iald hx hb hK hP 0 0 rfl rfl (e := 3) rfl (Nat.le_of_ble_eq_true rfl) (Nat.le_of_ble_eq_true rfl) dX11_isWithin_33 ?_
  refine lv_i2l (v := (T0 3).toInt64) hx hb dX11_isWithin_34 (rfl) ?_
  refine lv_aload_n hx hb dX11_isWithin_35 rfl (lv_at hl 1 rfl) ?_
  refine lv_iconst (v := 4) hx hb dX11_isWithin_36 rfl ?_
  refine z_iald hx hb hK hP 0 0 rfl rfl (e := 4) rfl (Nat.le_of_ble_eq_true rfl) (Nat.le_of_ble_eq_true rfl) dX11_isWithin_37 ?_
  refine lv_i2l (v := (T0 4).toInt64) hx hb dX11_isWithin_38 (rfl) ?_
  refine lv_aload_n hx hb dX11_isWithin_39 rfl (lv_at hl 1 rfl) ?_
  refine lv_iconst (v := 5) hx hb dX11_isWithin_40 rfl ?_
  refine z_iald hx hb hK hP 0 0 rfl rfl (e := 5) rfl (Nat.le_of_ble_eq_true rfl) (Nat.le_of_ble_eq_true rfl) dX11_isWithin_41 ?_
  refine lv_i2l (v := (T0 5).toInt64) hx hb dX11_isWithin_42 (rfl) ?_
  refine lv_iload_n hx hb dX11_isWithin_43 rfl (lv_at hl 2 rfl) ?_
  refine lv_i2l (v := px.toInt64) hx hb dX11_isWithin_44 (rfl) ?_
  refine lv_iload_n hx hb dX11_isWithin_45 rfl (lv_at hl 3 rfl) ?_
  refine lv_i2l (v := py.toInt64) hx hb dX11_isWithin_46 (rfl) ?_
  obtain ⟨hPc, hDc, hFc, hI1⟩ := zi_sub (wc := []) hP hD hS hA [] rfl rfl
  refine zcall (st1 := [.long (jI (cr (T0 2).toInt (T0 3).toInt (T0 4).toInt (T0 5).toInt px.toInt py.toInt))]) (va_runS (As := [.long ((T0 2).toInt64), .long ((T0 3).toInt64), .long ((T0 4).toInt64), .long ((T0 5).toInt64), .long px.toInt64, .long py.toInt64]) (rest := []) ⟨hx, hb, hml, hown, hts⟩ (k_M_cross l dC dI cI cZ cF H.size (T0 2) (T0 3) (T0 4) (T0 5) px py (by first | exact ht _ (by first | with_reducible assumption | omega) | assumption) (by first | exact ht _ (by first | with_reducible assumption | omega) | assumption) (by first | exact ht _ (by first | with_reducible assumption | omega) | assumption) (by first | exact ht _ (by first | with_reducible assumption | omega) | assumption) (by first | exact ht _ (by first | with_reducible assumption | omega) | assumption) (by first | exact ht _ (by first | with_reducible assumption | omega) | assumption)) (csS_162 hts rfl rfl ⟨Nat.le_of_ble_eq_true rfl, Nat.le_of_ble_eq_true rfl⟩) (zPS2 hPc hDc hK hXN) rfl rfl hl.1 rfl (lv_room (Nat.le_of_ble_eq_true rfl)) dX11_isWithin_47 ⟨Nat.le_of_ble_eq_true rfl, Nat.le_of_ble_eq_true rfl⟩) hS hFc hFc rfl (fun t H locs ht hB hk1 hS => ?_)
  obtain ⟨hP1, hD1⟩ := hB
  rw [ht] at hP1
  replace hP := z0 hP hD hk1 hP1 hI1
  clear hk1 hPc hDc hFc hP1 hD1 ht hI1
  obtain ⟨hPc, hDc, hFc, hI1⟩ := zi_sub (wc := []) hP hD hS hA [] rfl rfl
  refine zcall (st1 := [.int (iI (sg (cr (T0 2).toInt (T0 3).toInt (T0 4).toInt (T0 5).toInt px.toInt py.toInt)))]) (va_runS (As := [.long (jI (cr (T0 2).toInt (T0 3).toInt (T0 4).toInt (T0 5).toInt px.toInt py.toInt))]) (rest := []) ⟨hx, hb, hml, hown, hts⟩ (k_M_signOf l dC dI cI cZ cF H.size (cr (T0 2).toInt (T0 3).toInt (T0 4).toInt (T0 5).toInt px.toInt py.toInt) (by first | with_reducible assumption | omega)) (csS_163 hts rfl rfl ⟨Nat.le_of_ble_eq_true rfl, Nat.le_of_ble_eq_true rfl⟩) (zPS2 hPc hDc hK hXN) rfl rfl hl.1 rfl (lv_room (Nat.le_of_ble_eq_true rfl)) dX11_isWithin_50 ⟨Nat.le_of_ble_eq_true rfl, Nat.le_of_ble_eq_true rfl⟩) hS hFc hFc rfl (fun t H locs ht hB hk1 hS => ?_)
  obtain ⟨hP1, hD1⟩ := hB
  rw [ht] at hP1
  replace hP := z0 hP hD hk1 hP1 hI1
  clear hk1 hPc hDc hFc hP1 hD1 ht hI1
  refine lv_istore (lv' := [(4, .int (iI (sg (cr (T0 2).toInt (T0 3).toInt (T0 4).toInt (T0 5).toInt px.toInt py.toInt)))), (3, .int (iI (sg (cr (T0 0).toInt (T0 1).toInt (T0 2).toInt (T0 3).toInt px.toInt py.toInt)))), (0, .ref ta), (1, .int px), (2, .int py)]) hx hb dX11_isWithin_53 hl (Nat.le_of_ble_eq_true rfl) rfl (fun ls hl => ?_)
  refine lv_aload_n hx hb dX11_isWithin_55 rfl (lv_at hl 2 rfl) ?_
  refine lv_iconst (v := 4) hx hb dX11_isWithin_56 rfl ?_
  refine z_iald hx hb hK hP 0 0 rfl rfl (e := 4) rfl (Nat.le_of_ble_eq_true rfl) (Nat.le_of_ble_eq_true rfl) dX11_isWithin_57 ?_
  refine lv_i2l (v := (T0 4).toInt64) hx hb dX11_isWithin_58 (rfl) ?_
  refine lv_aload_n hx hb dX11_isWithin_59 rfl (lv_at hl 2 rfl) ?_
  refine lv_iconst (v := 5) hx hb dX11_isWithin_60 rfl ?_
  refine z_iald hx hb hK hP 0 0 rfl rfl (e := 5) rfl (Nat.le_of_ble_eq_true rfl) (Nat.le_of_ble_eq_true rfl) dX11_isWithin_61 ?_
  refine lv_i2l (v := (T0 5).toInt64) hx hb dX11_isWithin_62 (rfl) ?_
  refine lv_aload_n hx hb dX11_isWithin_63 rfl (lv_at hl 2 rfl) ?_
  refine lv_iconst (v := 0) hx hb dX11_isWithin_64 rfl ?_
  refine z_iald hx hb hK hP 0 0 rfl rfl (e := 0) rfl (Nat.le_of_ble_eq_true rfl) (Nat.le_of_ble_eq_true rfl) dX11_isWithin_65 ?_
  refine lv_i2l (v := (T0 0).toInt64) hx hb dX11_isWithin_66 (rfl) ?_
  refine lv_aload_n hx hb dX11_isWithin_67 rfl (lv_at hl 2 rfl) ?_
  refine lv_iconst (v := 1) hx hb dX11_isWithin_68 rfl ?_
  refine z_iald hx hb hK hP 0 0 rfl rfl (e := 1) rfl (Nat.le_of_ble_eq_true rfl) (Nat.le_of_ble_eq_true rfl) dX11_isWithin_69 ?_
  refine lv_i2l (v := (T0 1).toInt64) hx hb dX11_isWithin_70 (rfl) ?_
  refine lv_iload_n hx hb dX11_isWithin_71 rfl (lv_at hl 3 rfl) ?_
  refine lv_i2l (v := px.toInt64) hx hb dX11_isWithin_72 (rfl) ?_
  refine lv_iload_n hx hb dX11_isWithin_73 rfl (lv_at hl 4 rfl) ?_
  refine lv_i2l (v := py.toInt64) hx hb dX11_isWithin_74 (rfl) ?_
  obtain ⟨hPc, hDc, hFc, hI1⟩ := zi_sub (wc := []) hP hD hS hA [] rfl rfl
  refine zcall (st1 := [.long (jI (cr (T0 4).toInt (T0 5).toInt (T0 0).toInt (T0 1).toInt px.toInt py.toInt))]) (va_runS (As := [.long ((T0 4).toInt64), .long ((T0 5).toInt64), .long ((T0 0).toInt64), .long ((T0 1).toInt64), .long px.toInt64, .long py.toInt64]) (rest := []) ⟨hx, hb, hml, hown, hts⟩ (k_M_cross l dC dI cI cZ cF H.size (T0 4) (T0 5) (T0 0) (T0 1) px py (by first | exact ht _ (by first | with_reducible assumption | omega) | assumption) (by first | exact ht _ (by first | with_reducible assumption | omega) | assumption) (by first | exact ht _ (by first | with_reducible assumption | omega) | assumption) (by first | exact ht _ (by first | with_reducible assumption | omega) | assumption) (by first | exact ht _ (by first | with_reducible assumption | omega) | assumption) (by first | exact ht _ (by first | with_reducible assumption | omega) | assumption)) (csS_162 hts rfl rfl ⟨Nat.le_of_ble_eq_true rfl, Nat.le_of_ble_eq_true rfl⟩) (zPS2 hPc hDc hK hXN) rfl rfl hl.1 rfl (lv_room (Nat.le_of_ble_eq_true rfl)) dX11_isWithin_75 ⟨Nat.le_of_ble_eq_true rfl, Nat.le_of_ble_eq_true rfl⟩) hS hFc hFc rfl (fun t H locs ht hB hk1 hS => ?_)
  obtain ⟨hP1, hD1⟩ := hB
  rw [ht] at hP1
  replace hP := z0 hP hD hk1 hP1 hI1
  clear hk1 hPc hDc hFc hP1 hD1 ht hI1
  obtain ⟨hPc, hDc, hFc, hI1⟩ := zi_sub (wc := []) hP hD hS hA [] rfl rfl
  refine zcall (st1 := [.int (iI (sg (cr (T0 4).toInt (T0 5).toInt (T0 0).toInt (T0 1).toInt px.toInt py.toInt)))]) (va_runS (As := [.long (jI (cr (T0 4).toInt (T0 5).toInt (T0 0).toInt (T0 1).toInt px.toInt py.toInt))]) (rest := []) ⟨hx, hb, hml, hown, hts⟩ (k_M_signOf l dC dI cI cZ cF H.size (cr (T0 4).toInt (T0 5).toInt (T0 0).toInt (T0 1).toInt px.toInt py.toInt) (by first | with_reducible assumption | omega)) (csS_163 hts rfl rfl ⟨Nat.le_of_ble_eq_true rfl, Nat.le_of_ble_eq_true rfl⟩) (zPS2 hPc hDc hK hXN) rfl rfl hl.1 rfl (lv_room (Nat.le_of_ble_eq_true rfl)) dX11_isWithin_78 ⟨Nat.le_of_ble_eq_true rfl, Nat.le_of_ble_eq_true rfl⟩) hS hFc hFc rfl (fun t H locs ht hB hk1 hS => ?_)
  obtain ⟨hP1, hD1⟩ := hB
  rw [ht] at hP1
  replace hP := z0 hP hD hk1 hP1 hI1
  clear hk1 hPc hDc hFc hP1 hD1 ht hI1
  refine lv_istore (lv' := [(5, .int (iI (sg (cr (T0 4).toInt (T0 5).toInt (T0 0).toInt (T0 1).toInt px.toInt py.toInt)))), (4, .int (iI (sg (cr (T0 2).toInt (T0 3).toInt (T0 4).toInt (T0 5).toInt px.toInt py.toInt)))), (3, .int (iI (sg (cr (T0 0).toInt (T0 1).toInt (T0 2).toInt (T0 3).toInt px.toInt py.toInt)))), (0, .ref ta), (1, .int px), (2, .int py)]) hx hb dX11_isWithin_81 hl (Nat.le_of_ble_eq_true rfl) rfl (fun ls hl => ?_)
  refine lv_aload_n hx hb dX11_isWithin_83 rfl (lv_at hl 3 rfl) ?_
  refine lv_iconst (v := 0) hx hb dX11_isWithin_84 rfl ?_
  refine z_iald hx hb hK hP 0 0 rfl rfl (e := 0) rfl (Nat.le_of_ble_eq_true rfl) (Nat.le_of_ble_eq_true rfl) dX11_isWithin_85 ?_
  refine lv_i2l (v := (T0 0).toInt64) hx hb dX11_isWithin_86 (rfl) ?_
  refine lv_aload_n hx hb dX11_isWithin_87 rfl (lv_at hl 3 rfl) ?_
  refine lv_iconst (v := 1) hx hb dX11_isWithin_88 rfl ?_
  refine z_iald hx hb hK hP 0 0 rfl rfl (e := 1) rfl (Nat.le_of_ble_eq_true rfl) (Nat.le_of_ble_eq_true rfl) dX11_isWithin_89 ?_
  refine lv_i2l (v := (T0 1).toInt64) hx hb dX11_isWithin_90 (rfl) ?_
  refine lv_aload_n hx hb dX11_isWithin_91 rfl (lv_at hl 3 rfl) ?_
  refine lv_iconst (v := 2) hx hb dX11_isWithin_92 rfl ?_
  refine z_iald hx hb hK hP 0 0 rfl rfl (e := 2) rfl (Nat.le_of_ble_eq_true rfl) (Nat.le_of_ble_eq_true rfl) dX11_isWithin_93 ?_
  refine lv_i2l (v := (T0 2).toInt64) hx hb dX11_isWithin_94 (rfl) ?_
  refine lv_aload_n hx hb dX11_isWithin_95 rfl (lv_at hl 3 rfl) ?_
  refine lv_iconst (v := 3) hx hb dX11_isWithin_96 rfl ?_
  refine z_iald hx hb hK hP 0 0 rfl rfl (e := 3) rfl (Nat.le_of_ble_eq_true rfl) (Nat.le_of_ble_eq_true rfl) dX11_isWithin_97 ?_
  refine lv_i2l (v := (T0 3).toInt64) hx hb dX11_isWithin_98 (rfl) ?_
  refine lv_aload_n hx hb dX11_isWithin_99 rfl (lv_at hl 3 rfl) ?_
  refine lv_iconst (v := 4) hx hb dX11_isWithin_100 rfl ?_
  refine z_iald hx hb hK hP 0 0 rfl rfl (e := 4) rfl (Nat.le_of_ble_eq_true rfl) (Nat.le_of_ble_eq_true rfl) dX11_isWithin_101 ?_
  refine lv_i2l (v := (T0 4).toInt64) hx hb dX11_isWithin_102 (rfl) ?_
  refine lv_aload_n hx hb dX11_isWithin_103 rfl (lv_at hl 3 rfl) ?_
  refine lv_iconst (v := 5) hx hb dX11_isWithin_104 rfl ?_
  refine z_iald hx hb hK hP 0 0 rfl rfl (e := 5) rfl (Nat.le_of_ble_eq_true rfl) (Nat.le_of_ble_eq_true rfl) dX11_isWithin_105 ?_
  refine lv_i2l (v := (T0 5).toInt64) hx hb dX11_isWithin_106 (rfl) ?_
  obtain ⟨hPc, hDc, hFc, hI1⟩ := zi_sub (wc := []) hP hD hS hA [] rfl rfl
  refine zcall (st1 := [.long (jI (cr (T0 0).toInt (T0 1).toInt (T0 2).toInt (T0 3).toInt (T0 4).toInt (T0 5).toInt))]) (va_runS (As := [.long ((T0 0).toInt64), .long ((T0 1).toInt64), .long ((T0 2).toInt64), .long ((T0 3).toInt64), .long ((T0 4).toInt64), .long ((T0 5).toInt64)]) (rest := []) ⟨hx, hb, hml, hown, hts⟩ (k_M_cross l dC dI cI cZ cF H.size (T0 0) (T0 1) (T0 2) (T0 3) (T0 4) (T0 5) (by first | exact ht _ (by first | with_reducible assumption | omega) | assumption) (by first | exact ht _ (by first | with_reducible assumption | omega) | assumption) (by first | exact ht _ (by first | with_reducible assumption | omega) | assumption) (by first | exact ht _ (by first | with_reducible assumption | omega) | assumption) (by first | exact ht _ (by first | with_reducible assumption | omega) | assumption) (by first | exact ht _ (by first | with_reducible assumption | omega) | assumption)) (csS_162 hts rfl rfl ⟨Nat.le_of_ble_eq_true rfl, Nat.le_of_ble_eq_true rfl⟩) (zPS2 hPc hDc hK hXN) rfl rfl hl.1 rfl (lv_room (Nat.le_of_ble_eq_true rfl)) dX11_isWithin_107 ⟨Nat.le_of_ble_eq_true rfl, Nat.le_of_ble_eq_true rfl⟩) hS hFc hFc rfl (fun t H locs ht hB hk1 hS => ?_)
  obtain ⟨hP1, hD1⟩ := hB
  rw [ht] at hP1
  replace hP := z0 hP hD hk1 hP1 hI1
  clear hk1 hPc hDc hFc hP1 hD1 ht hI1
  refine lv_lconst (v := 0) hx hb dX11_isWithin_110 rfl ?_
  refine W.lcmp hx hb dX11_isWithin_111 ?_
  refine lv_if_ne (tgt := 181) hx hb dX11_isWithin_112 rfl (fun c_1 => ?_) (fun c_1 => ?_)
  · have c_1 : ¬ (cr (T0 0).toInt (T0 1).toInt (T0 2).toInt (T0 3).toInt (T0 4).toInt (T0 5).toInt) = 0 := zl_ne (jI_toInt (by omega)) rfl c_1
    refine lv_iload_n hx hb dX11_isWithin_181 rfl (lv_at hl 2 rfl) ?_
    refine lv_if_lt (tgt := 195) hx hb dX11_isWithin_182 rfl (fun c_2 => ?_) (fun c_2 => ?_)
    · have c_2 : (sg (cr (T0 0).toInt (T0 1).toInt (T0 2).toInt (T0 3).toInt px.toInt py.toInt)) < 0 := zc_lt (iI_toInt (by omega)) rfl c_2
      refine lv_iload_n hx hb dX11_isWithin_195 rfl (lv_at hl 2 rfl) ?_
      refine lv_if_gt (tgt := 213) hx hb dX11_isWithin_196 rfl (fun c_3 => ?_) (fun c_3 => ?_)
      · have c_3 : 0 < (sg (cr (T0 0).toInt (T0 1).toInt (T0 2).toInt (T0 3).toInt px.toInt py.toInt)) := zc_lt rfl (iI_toInt (by omega)) c_3
        refine lv_iconst (v := 0) hx hb dX11_isWithin_213 rfl ?_
        obtain ⟨hP9, hD9⟩ := zu_sub (wc := [_]) hP hD [true] rfl rfl
        rw [hQ9]
        exact W.zret (ty := .boolean) (v := 0) hx hb hr (rfl) (fun t ht hW => ⟨⟨congrArg (fun z => Outcome.returned (some (Value.int z))) (show (0 : Int32) = pI (wtM (T0 0).toInt (T0 1).toInt (T0 2).toInt (T0 3).toInt (T0 4).toInt (T0 5).toInt px.toInt py.toInt) from (zp_f (by unfold wtM; omega)).symm), by rw [ht]; exact hP9, hD9⟩, hS.F ht⟩) hS.2.2 dX11_isWithin_214
      · have c_3 : (sg (cr (T0 0).toInt (T0 1).toInt (T0 2).toInt (T0 3).toInt px.toInt py.toInt)) ≤ 0 := zc_nlt rfl (iI_toInt (by omega)) c_3
        refine lv_iload hx hb dX11_isWithin_199 (lv_at hl 1 rfl) ?_
        refine lv_if_gt (tgt := 213) hx hb dX11_isWithin_201 rfl (fun c_4 => ?_) (fun c_4 => ?_)
        · have c_4 : 0 < (sg (cr (T0 2).toInt (T0 3).toInt (T0 4).toInt (T0 5).toInt px.toInt py.toInt)) := zc_lt rfl (iI_toInt (by omega)) c_4
          refine lv_iconst (v := 0) hx hb dX11_isWithin_213 rfl ?_
          obtain ⟨hP9, hD9⟩ := zu_sub (wc := [_]) hP hD [true] rfl rfl
          rw [hQ9]
          exact W.zret (ty := .boolean) (v := 0) hx hb hr (rfl) (fun t ht hW => ⟨⟨congrArg (fun z => Outcome.returned (some (Value.int z))) (show (0 : Int32) = pI (wtM (T0 0).toInt (T0 1).toInt (T0 2).toInt (T0 3).toInt (T0 4).toInt (T0 5).toInt px.toInt py.toInt) from (zp_f (by unfold wtM; omega)).symm), by rw [ht]; exact hP9, hD9⟩, hS.F ht⟩) hS.2.2 dX11_isWithin_214
        · have c_4 : (sg (cr (T0 2).toInt (T0 3).toInt (T0 4).toInt (T0 5).toInt px.toInt py.toInt)) ≤ 0 := zc_nlt rfl (iI_toInt (by omega)) c_4
          refine lv_iload hx hb dX11_isWithin_204 (lv_at hl 0 rfl) ?_
          refine lv_if_gt (tgt := 213) hx hb dX11_isWithin_206 rfl (fun c_5 => ?_) (fun c_5 => ?_)
          · have c_5 : 0 < (sg (cr (T0 4).toInt (T0 5).toInt (T0 0).toInt (T0 1).toInt px.toInt py.toInt)) := zc_lt rfl (iI_toInt (by omega)) c_5
            refine lv_iconst (v := 0) hx hb dX11_isWithin_213 rfl ?_
            obtain ⟨hP9, hD9⟩ := zu_sub (wc := [_]) hP hD [true] rfl rfl
            rw [hQ9]
            exact W.zret (ty := .boolean) (v := 0) hx hb hr (rfl) (fun t ht hW => ⟨⟨congrArg (fun z => Outcome.returned (some (Value.int z))) (show (0 : Int32) = pI (wtM (T0 0).toInt (T0 1).toInt (T0 2).toInt (T0 3).toInt (T0 4).toInt (T0 5).toInt px.toInt py.toInt) from (zp_f (by unfold wtM; omega)).symm), by rw [ht]; exact hP9, hD9⟩, hS.F ht⟩) hS.2.2 dX11_isWithin_214
          · have c_5 : (sg (cr (T0 4).toInt (T0 5).toInt (T0 0).toInt (T0 1).toInt px.toInt py.toInt)) ≤ 0 := zc_nlt rfl (iI_toInt (by omega)) c_5
            refine lv_iconst (v := 1) hx hb dX11_isWithin_209 rfl ?_
            refine lv_goto (tgt := 214) hx hb dX11_isWithin_210 rfl ?_
            obtain ⟨hP9, hD9⟩ := zu_sub (wc := [_]) hP hD [true] rfl rfl
            rw [hQ9]
            exact W.zret (ty := .boolean) (v := 1) hx hb hr (rfl) (fun t ht hW => ⟨⟨congrArg (fun z => Outcome.returned (some (Value.int z))) (show (1 : Int32) = pI (wtM (T0 0).toInt (T0 1).toInt (T0 2).toInt (T0 3).toInt (T0 4).toInt (T0 5).toInt px.toInt py.toInt) from (zp_t (by unfold wtM; omega)).symm), by rw [ht]; exact hP9, hD9⟩, hS.F ht⟩) hS.2.2 dX11_isWithin_214
    · have c_2 : 0 ≤ (sg (cr (T0 0).toInt (T0 1).toInt (T0 2).toInt (T0 3).toInt px.toInt py.toInt)) := zc_nlt (iI_toInt (by omega)) rfl c_2
      refine lv_iload hx hb dX11_isWithin_185 (lv_at hl 1 rfl) ?_
      refine lv_if_lt (tgt := 195) hx hb dX11_isWithin_187 rfl (fun c_6 => ?_) (fun c_6 => ?_)
      · have c_6 : (sg (cr (T0 2).toInt (T0 3).toInt (T0 4).toInt (T0 5).toInt px.toInt py.toInt)) < 0 := zc_lt (iI_toInt (by omega)) rfl c_6
        refine lv_iload_n hx hb dX11_isWithin_195 rfl (lv_at hl 2 rfl) ?_
        refine lv_if_gt (tgt := 213) hx hb dX11_isWithin_196 rfl (fun c_7 => ?_) (fun c_7 => ?_)
        · have c_7 : 0 < (sg (cr (T0 0).toInt (T0 1).toInt (T0 2).toInt (T0 3).toInt px.toInt py.toInt)) := zc_lt rfl (iI_toInt (by omega)) c_7
          refine lv_iconst (v := 0) hx hb dX11_isWithin_213 rfl ?_
          obtain ⟨hP9, hD9⟩ := zu_sub (wc := [_]) hP hD [true] rfl rfl
          rw [hQ9]
          exact W.zret (ty := .boolean) (v := 0) hx hb hr (rfl) (fun t ht hW => ⟨⟨congrArg (fun z => Outcome.returned (some (Value.int z))) (show (0 : Int32) = pI (wtM (T0 0).toInt (T0 1).toInt (T0 2).toInt (T0 3).toInt (T0 4).toInt (T0 5).toInt px.toInt py.toInt) from (zp_f (by unfold wtM; omega)).symm), by rw [ht]; exact hP9, hD9⟩, hS.F ht⟩) hS.2.2 dX11_isWithin_214
        · have c_7 : (sg (cr (T0 0).toInt (T0 1).toInt (T0 2).toInt (T0 3).toInt px.toInt py.toInt)) ≤ 0 := zc_nlt rfl (iI_toInt (by omega)) c_7
          refine lv_iload hx hb dX11_isWithin_199 (lv_at hl 1 rfl) ?_
          refine lv_if_gt (tgt := 213) hx hb dX11_isWithin_201 rfl (fun c_8 => ?_) (fun c_8 => ?_)
          · have c_8 : 0 < (sg (cr (T0 2).toInt (T0 3).toInt (T0 4).toInt (T0 5).toInt px.toInt py.toInt)) := zc_lt rfl (iI_toInt (by omega)) c_8
            refine lv_iconst (v := 0) hx hb dX11_isWithin_213 rfl ?_
            obtain ⟨hP9, hD9⟩ := zu_sub (wc := [_]) hP hD [true] rfl rfl
            rw [hQ9]
            exact W.zret (ty := .boolean) (v := 0) hx hb hr (rfl) (fun t ht hW => ⟨⟨congrArg (fun z => Outcome.returned (some (Value.int z))) (show (0 : Int32) = pI (wtM (T0 0).toInt (T0 1).toInt (T0 2).toInt (T0 3).toInt (T0 4).toInt (T0 5).toInt px.toInt py.toInt) from (zp_f (by unfold wtM; omega)).symm), by rw [ht]; exact hP9, hD9⟩, hS.F ht⟩) hS.2.2 dX11_isWithin_214
          · have c_8 : (sg (cr (T0 2).toInt (T0 3).toInt (T0 4).toInt (T0 5).toInt px.toInt py.toInt)) ≤ 0 := zc_nlt rfl (iI_toInt (by omega)) c_8
            refine lv_iload hx hb dX11_isWithin_204 (lv_at hl 0 rfl) ?_
            refine lv_if_gt (tgt := 213) hx hb dX11_isWithin_206 rfl (fun c_9 => ?_) (fun c_9 => ?_)
            · have c_9 : 0 < (sg (cr (T0 4).toInt (T0 5).toInt (T0 0).toInt (T0 1).toInt px.toInt py.toInt)) := zc_lt rfl (iI_toInt (by omega)) c_9
              refine lv_iconst (v := 0) hx hb dX11_isWithin_213 rfl ?_
              obtain ⟨hP9, hD9⟩ := zu_sub (wc := [_]) hP hD [true] rfl rfl
              rw [hQ9]
              exact W.zret (ty := .boolean) (v := 0) hx hb hr (rfl) (fun t ht hW => ⟨⟨congrArg (fun z => Outcome.returned (some (Value.int z))) (show (0 : Int32) = pI (wtM (T0 0).toInt (T0 1).toInt (T0 2).toInt (T0 3).toInt (T0 4).toInt (T0 5).toInt px.toInt py.toInt) from (zp_f (by unfold wtM; omega)).symm), by rw [ht]; exact hP9, hD9⟩, hS.F ht⟩) hS.2.2 dX11_isWithin_214
            · have c_9 : (sg (cr (T0 4).toInt (T0 5).toInt (T0 0).toInt (T0 1).toInt px.toInt py.toInt)) ≤ 0 := zc_nlt rfl (iI_toInt (by omega)) c_9
              refine lv_iconst (v := 1) hx hb dX11_isWithin_209 rfl ?_
              refine lv_goto (tgt := 214) hx hb dX11_isWithin_210 rfl ?_
              obtain ⟨hP9, hD9⟩ := zu_sub (wc := [_]) hP hD [true] rfl rfl
              rw [hQ9]
              exact W.zret (ty := .boolean) (v := 1) hx hb hr (rfl) (fun t ht hW => ⟨⟨congrArg (fun z => Outcome.returned (some (Value.int z))) (show (1 : Int32) = pI (wtM (T0 0).toInt (T0 1).toInt (T0 2).toInt (T0 3).toInt (T0 4).toInt (T0 5).toInt px.toInt py.toInt) from (zp_t (by unfold wtM; omega)).symm), by rw [ht]; exact hP9, hD9⟩, hS.F ht⟩) hS.2.2 dX11_isWithin_214
      · have c_6 : 0 ≤ (sg (cr (T0 2).toInt (T0 3).toInt (T0 4).toInt (T0 5).toInt px.toInt py.toInt)) := zc_nlt (iI_toInt (by omega)) rfl c_6
        refine lv_iload hx hb dX11_isWithin_190 (lv_at hl 0 rfl) ?_
        refine lv_if_ge (tgt := 209) hx hb dX11_isWithin_192 rfl (fun c_10 => ?_) (fun c_10 => ?_)
        · have c_10 : 0 ≤ (sg (cr (T0 4).toInt (T0 5).toInt (T0 0).toInt (T0 1).toInt px.toInt py.toInt)) := zc_le rfl (iI_toInt (by omega)) c_10
          refine lv_iconst (v := 1) hx hb dX11_isWithin_209 rfl ?_
          refine lv_goto (tgt := 214) hx hb dX11_isWithin_210 rfl ?_
          obtain ⟨hP9, hD9⟩ := zu_sub (wc := [_]) hP hD [true] rfl rfl
          rw [hQ9]
          exact W.zret (ty := .boolean) (v := 1) hx hb hr (rfl) (fun t ht hW => ⟨⟨congrArg (fun z => Outcome.returned (some (Value.int z))) (show (1 : Int32) = pI (wtM (T0 0).toInt (T0 1).toInt (T0 2).toInt (T0 3).toInt (T0 4).toInt (T0 5).toInt px.toInt py.toInt) from (zp_t (by unfold wtM; omega)).symm), by rw [ht]; exact hP9, hD9⟩, hS.F ht⟩) hS.2.2 dX11_isWithin_214
        · have c_10 : (sg (cr (T0 4).toInt (T0 5).toInt (T0 0).toInt (T0 1).toInt px.toInt py.toInt)) < 0 := zc_nle rfl (iI_toInt (by omega)) c_10
          refine lv_iload_n hx hb dX11_isWithin_195 rfl (lv_at hl 2 rfl) ?_
          refine lv_if_gt (tgt := 213) hx hb dX11_isWithin_196 rfl (fun c_11 => ?_) (fun c_11 => ?_)
          · have c_11 : 0 < (sg (cr (T0 0).toInt (T0 1).toInt (T0 2).toInt (T0 3).toInt px.toInt py.toInt)) := zc_lt rfl (iI_toInt (by omega)) c_11
            refine lv_iconst (v := 0) hx hb dX11_isWithin_213 rfl ?_
            obtain ⟨hP9, hD9⟩ := zu_sub (wc := [_]) hP hD [true] rfl rfl
            rw [hQ9]
            exact W.zret (ty := .boolean) (v := 0) hx hb hr (rfl) (fun t ht hW => ⟨⟨congrArg (fun z => Outcome.returned (some (Value.int z))) (show (0 : Int32) = pI (wtM (T0 0).toInt (T0 1).toInt (T0 2).toInt (T0 3).toInt (T0 4).toInt (T0 5).toInt px.toInt py.toInt) from (zp_f (by unfold wtM; omega)).symm), by rw [ht]; exact hP9, hD9⟩, hS.F ht⟩) hS.2.2 dX11_isWithin_214
          · have c_11 : (sg (cr (T0 0).toInt (T0 1).toInt (T0 2).toInt (T0 3).toInt px.toInt py.toInt)) ≤ 0 := zc_nlt rfl (iI_toInt (by omega)) c_11
            refine lv_iload hx hb dX11_isWithin_199 (lv_at hl 1 rfl) ?_
            refine lv_if_gt (tgt := 213) hx hb dX11_isWithin_201 rfl (fun c_12 => ?_) (fun c_12 => ?_)
            · have c_12 : 0 < (sg (cr (T0 2).toInt (T0 3).toInt (T0 4).toInt (T0 5).toInt px.toInt py.toInt)) := zc_lt rfl (iI_toInt (by omega)) c_12
              refine lv_iconst (v := 0) hx hb dX11_isWithin_213 rfl ?_
              obtain ⟨hP9, hD9⟩ := zu_sub (wc := [_]) hP hD [true] rfl rfl
              rw [hQ9]
              exact W.zret (ty := .boolean) (v := 0) hx hb hr (rfl) (fun t ht hW => ⟨⟨congrArg (fun z => Outcome.returned (some (Value.int z))) (show (0 : Int32) = pI (wtM (T0 0).toInt (T0 1).toInt (T0 2).toInt (T0 3).toInt (T0 4).toInt (T0 5).toInt px.toInt py.toInt) from (zp_f (by unfold wtM; omega)).symm), by rw [ht]; exact hP9, hD9⟩, hS.F ht⟩) hS.2.2 dX11_isWithin_214
            · have c_12 : (sg (cr (T0 2).toInt (T0 3).toInt (T0 4).toInt (T0 5).toInt px.toInt py.toInt)) ≤ 0 := zc_nlt rfl (iI_toInt (by omega)) c_12
              refine lv_iload hx hb dX11_isWithin_204 (lv_at hl 0 rfl) ?_
              refine lv_if_gt (tgt := 213) hx hb dX11_isWithin_206 rfl (fun c_13 => ?_) (fun c_13 => ?_)
              · have c_13 : 0 < (sg (cr (T0 4).toInt (T0 5).toInt (T0 0).toInt (T0 1).toInt px.toInt py.toInt)) := zc_lt rfl (iI_toInt (by omega)) c_13
                refine lv_iconst (v := 0) hx hb dX11_isWithin_213 rfl ?_
                obtain ⟨hP9, hD9⟩ := zu_sub (wc := [_]) hP hD [true] rfl rfl
                rw [hQ9]
                exact W.zret (ty := .boolean) (v := 0) hx hb hr (rfl) (fun t ht hW => ⟨⟨congrArg (fun z => Outcome.returned (some (Value.int z))) (show (0 : Int32) = pI (wtM (T0 0).toInt (T0 1).toInt (T0 2).toInt (T0 3).toInt (T0 4).toInt (T0 5).toInt px.toInt py.toInt) from (zp_f (by unfold wtM; omega)).symm), by rw [ht]; exact hP9, hD9⟩, hS.F ht⟩) hS.2.2 dX11_isWithin_214
              · have c_13 : (sg (cr (T0 4).toInt (T0 5).toInt (T0 0).toInt (T0 1).toInt px.toInt py.toInt)) ≤ 0 := zc_nlt rfl (iI_toInt (by omega)) c_13
                refine lv_iconst (v := 1) hx hb dX11_isWithin_209 rfl ?_
                refine lv_goto (tgt := 214) hx hb dX11_isWithin_210 rfl ?_
                obtain ⟨hP9, hD9⟩ := zu_sub (wc := [_]) hP hD [true] rfl rfl
                rw [hQ9]
                exact W.zret (ty := .boolean) (v := 1) hx hb hr (rfl) (fun t ht hW => ⟨⟨congrArg (fun z => Outcome.returned (some (Value.int z))) (show (1 : Int32) = pI (wtM (T0 0).toInt (T0 1).toInt (T0 2).toInt (T0 3).toInt (T0 4).toInt (T0 5).toInt px.toInt py.toInt) from (zp_t (by unfold wtM; omega)).symm), by rw [ht]; exact hP9, hD9⟩, hS.F ht⟩) hS.2.2 dX11_isWithin_214
  · have c_1 : (cr (T0 0).toInt (T0 1).toInt (T0 2).toInt (T0 3).toInt (T0 4).toInt (T0 5).toInt) = 0 := zl_eq (jI_toInt (by omega)) rfl c_1
    refine lv_aload_n hx hb dX11_isWithin_115 rfl (lv_at hl 3 rfl) ?_
    refine lv_iconst (v := 0) hx hb dX11_isWithin_116 rfl ?_
    refine z_iald hx hb hK hP 0 0 rfl rfl (e := 0) rfl (Nat.le_of_ble_eq_true rfl) (Nat.le_of_ble_eq_true rfl) dX11_isWithin_117 ?_
    refine lv_aload_n hx hb dX11_isWithin_118 rfl (lv_at hl 3 rfl) ?_
    refine lv_iconst (v := 1) hx hb dX11_isWithin_119 rfl ?_
    refine z_iald hx hb hK hP 0 0 rfl rfl (e := 1) rfl (Nat.le_of_ble_eq_true rfl) (Nat.le_of_ble_eq_true rfl) dX11_isWithin_120 ?_
    refine lv_aload_n hx hb dX11_isWithin_121 rfl (lv_at hl 3 rfl) ?_
    refine lv_iconst (v := 2) hx hb dX11_isWithin_122 rfl ?_
    refine z_iald hx hb hK hP 0 0 rfl rfl (e := 2) rfl (Nat.le_of_ble_eq_true rfl) (Nat.le_of_ble_eq_true rfl) dX11_isWithin_123 ?_
    refine lv_aload_n hx hb dX11_isWithin_124 rfl (lv_at hl 3 rfl) ?_
    refine lv_iconst (v := 3) hx hb dX11_isWithin_125 rfl ?_
    refine z_iald hx hb hK hP 0 0 rfl rfl (e := 3) rfl (Nat.le_of_ble_eq_true rfl) (Nat.le_of_ble_eq_true rfl) dX11_isWithin_126 ?_
    refine lv_iload_n hx hb dX11_isWithin_127 rfl (lv_at hl 4 rfl) ?_
    refine lv_iload_n hx hb dX11_isWithin_128 rfl (lv_at hl 5 rfl) ?_
    obtain ⟨hPc, hDc, hFc, hI1⟩ := zi_sub (wc := []) hP hD hS hA [] rfl rfl
    refine zcall (st1 := [.int (pI (onS (T0 0).toInt (T0 1).toInt (T0 2).toInt (T0 3).toInt px.toInt py.toInt))]) (va_runS (As := [.int (T0 0), .int (T0 1), .int (T0 2), .int (T0 3), .int px, .int py]) (rest := []) ⟨hx, hb, hml, hown, hts⟩ (k_M_isOn l dC dI cI cZ cF H.size (T0 0) (T0 1) (T0 2) (T0 3) px py (by first | exact ht _ (by first | with_reducible assumption | omega) | assumption) (by first | exact ht _ (by first | with_reducible assumption | omega) | assumption) (by first | exact ht _ (by first | with_reducible assumption | omega) | assumption) (by first | exact ht _ (by first | with_reducible assumption | omega) | assumption) (by first | exact ht _ (by first | with_reducible assumption | omega) | assumption) (by first | exact ht _ (by first | with_reducible assumption | omega) | assumption)) (csS_164 hts rfl rfl ⟨Nat.le_of_ble_eq_true rfl, Nat.le_of_ble_eq_true rfl⟩) (zPS2 hPc hDc hK hXN) rfl rfl hl.1 rfl (lv_room (Nat.le_of_ble_eq_true rfl)) dX11_isWithin_129 ⟨Nat.le_of_ble_eq_true rfl, Nat.le_of_ble_eq_true rfl⟩) hS hFc hFc rfl (fun t H locs ht hB hk1 hS => ?_)
    obtain ⟨hP1, hD1⟩ := hB
    rw [ht] at hP1
    replace hP := z0 hP hD hk1 hP1 hI1
    clear hk1 hPc hDc hFc hP1 hD1 ht hI1
    refine lv_if_ne (tgt := 175) hx hb dX11_isWithin_132 rfl (fun c_14 => ?_) (fun c_14 => ?_)
    · have c_14 : onS (T0 0).toInt (T0 1).toInt (T0 2).toInt (T0 3).toInt px.toInt py.toInt := zp_1 c_14
      refine lv_iconst (v := 1) hx hb dX11_isWithin_175 rfl ?_
      refine lv_goto (tgt := 180) hx hb dX11_isWithin_176 rfl ?_
      obtain ⟨hP9, hD9⟩ := zu_sub (wc := [_]) hP hD [true] rfl rfl
      rw [hQ9]
      exact W.zret (ty := .boolean) (v := 1) hx hb hr (rfl) (fun t ht hW => ⟨⟨congrArg (fun z => Outcome.returned (some (Value.int z))) (show (1 : Int32) = pI (wtM (T0 0).toInt (T0 1).toInt (T0 2).toInt (T0 3).toInt (T0 4).toInt (T0 5).toInt px.toInt py.toInt) from (zp_t (by unfold wtM; first | exact Or.inl ⟨by assumption, by simp only [*, true_or, or_true]⟩ | (intro h; rcases h with ⟨_, h | h | h⟩ | ⟨h, _⟩ <;> contradiction))).symm), by rw [ht]; exact hP9, hD9⟩, hS.F ht⟩) hS.2.2 dX11_isWithin_180
    · have c_14 : ¬ (onS (T0 0).toInt (T0 1).toInt (T0 2).toInt (T0 3).toInt px.toInt py.toInt) := zp_0 c_14
      refine lv_aload_n hx hb dX11_isWithin_135 rfl (lv_at hl 3 rfl) ?_
      refine lv_iconst (v := 2) hx hb dX11_isWithin_136 rfl ?_
      refine z_iald hx hb hK hP 0 0 rfl rfl (e := 2) rfl (Nat.le_of_ble_eq_true rfl) (Nat.le_of_ble_eq_true rfl) dX11_isWithin_137 ?_
      refine lv_aload_n hx hb dX11_isWithin_138 rfl (lv_at hl 3 rfl) ?_
      refine lv_iconst (v := 3) hx hb dX11_isWithin_139 rfl ?_
      refine z_iald hx hb hK hP 0 0 rfl rfl (e := 3) rfl (Nat.le_of_ble_eq_true rfl) (Nat.le_of_ble_eq_true rfl) dX11_isWithin_140 ?_
      refine lv_aload_n hx hb dX11_isWithin_141 rfl (lv_at hl 3 rfl) ?_
      refine lv_iconst (v := 4) hx hb dX11_isWithin_142 rfl ?_
      refine z_iald hx hb hK hP 0 0 rfl rfl (e := 4) rfl (Nat.le_of_ble_eq_true rfl) (Nat.le_of_ble_eq_true rfl) dX11_isWithin_143 ?_
      refine lv_aload_n hx hb dX11_isWithin_144 rfl (lv_at hl 3 rfl) ?_
      refine lv_iconst (v := 5) hx hb dX11_isWithin_145 rfl ?_
      refine z_iald hx hb hK hP 0 0 rfl rfl (e := 5) rfl (Nat.le_of_ble_eq_true rfl) (Nat.le_of_ble_eq_true rfl) dX11_isWithin_146 ?_
      refine lv_iload_n hx hb dX11_isWithin_147 rfl (lv_at hl 4 rfl) ?_
      refine lv_iload_n hx hb dX11_isWithin_148 rfl (lv_at hl 5 rfl) ?_
      obtain ⟨hPc, hDc, hFc, hI1⟩ := zi_sub (wc := []) hP hD hS hA [] rfl rfl
      refine zcall (st1 := [.int (pI (onS (T0 2).toInt (T0 3).toInt (T0 4).toInt (T0 5).toInt px.toInt py.toInt))]) (va_runS (As := [.int (T0 2), .int (T0 3), .int (T0 4), .int (T0 5), .int px, .int py]) (rest := []) ⟨hx, hb, hml, hown, hts⟩ (k_M_isOn l dC dI cI cZ cF H.size (T0 2) (T0 3) (T0 4) (T0 5) px py (by first | exact ht _ (by first | with_reducible assumption | omega) | assumption) (by first | exact ht _ (by first | with_reducible assumption | omega) | assumption) (by first | exact ht _ (by first | with_reducible assumption | omega) | assumption) (by first | exact ht _ (by first | with_reducible assumption | omega) | assumption) (by first | exact ht _ (by first | with_reducible assumption | omega) | assumption) (by first | exact ht _ (by first | with_reducible assumption | omega) | assumption)) (csS_164 hts rfl rfl ⟨Nat.le_of_ble_eq_true rfl, Nat.le_of_ble_eq_true rfl⟩) (zPS2 hPc hDc hK hXN) rfl rfl hl.1 rfl (lv_room (Nat.le_of_ble_eq_true rfl)) dX11_isWithin_149 ⟨Nat.le_of_ble_eq_true rfl, Nat.le_of_ble_eq_true rfl⟩) hS hFc hFc rfl (fun t H locs ht hB hk1 hS => ?_)
      obtain ⟨hP1, hD1⟩ := hB
      rw [ht] at hP1
      replace hP := z0 hP hD hk1 hP1 hI1
      clear hk1 hPc hDc hFc hP1 hD1 ht hI1
      refine lv_if_ne (tgt := 175) hx hb dX11_isWithin_152 rfl (fun c_15 => ?_) (fun c_15 => ?_)
      · have c_15 : onS (T0 2).toInt (T0 3).toInt (T0 4).toInt (T0 5).toInt px.toInt py.toInt := zp_1 c_15
        refine lv_iconst (v := 1) hx hb dX11_isWithin_175 rfl ?_
        refine lv_goto (tgt := 180) hx hb dX11_isWithin_176 rfl ?_
        obtain ⟨hP9, hD9⟩ := zu_sub (wc := [_]) hP hD [true] rfl rfl
        rw [hQ9]
        exact W.zret (ty := .boolean) (v := 1) hx hb hr (rfl) (fun t ht hW => ⟨⟨congrArg (fun z => Outcome.returned (some (Value.int z))) (show (1 : Int32) = pI (wtM (T0 0).toInt (T0 1).toInt (T0 2).toInt (T0 3).toInt (T0 4).toInt (T0 5).toInt px.toInt py.toInt) from (zp_t (by unfold wtM; first | exact Or.inl ⟨by assumption, by simp only [*, true_or, or_true]⟩ | (intro h; rcases h with ⟨_, h | h | h⟩ | ⟨h, _⟩ <;> contradiction))).symm), by rw [ht]; exact hP9, hD9⟩, hS.F ht⟩) hS.2.2 dX11_isWithin_180
      · have c_15 : ¬ (onS (T0 2).toInt (T0 3).toInt (T0 4).toInt (T0 5).toInt px.toInt py.toInt) := zp_0 c_15
        refine lv_aload_n hx hb dX11_isWithin_155 rfl (lv_at hl 3 rfl) ?_
        refine lv_iconst (v := 4) hx hb dX11_isWithin_156 rfl ?_
        refine z_iald hx hb hK hP 0 0 rfl rfl (e := 4) rfl (Nat.le_of_ble_eq_true rfl) (Nat.le_of_ble_eq_true rfl) dX11_isWithin_157 ?_
        refine lv_aload_n hx hb dX11_isWithin_158 rfl (lv_at hl 3 rfl) ?_
        refine lv_iconst (v := 5) hx hb dX11_isWithin_159 rfl ?_
        refine z_iald hx hb hK hP 0 0 rfl rfl (e := 5) rfl (Nat.le_of_ble_eq_true rfl) (Nat.le_of_ble_eq_true rfl) dX11_isWithin_160 ?_
        refine lv_aload_n hx hb dX11_isWithin_161 rfl (lv_at hl 3 rfl) ?_
        refine lv_iconst (v := 0) hx hb dX11_isWithin_162 rfl ?_
        refine z_iald hx hb hK hP 0 0 rfl rfl (e := 0) rfl (Nat.le_of_ble_eq_true rfl) (Nat.le_of_ble_eq_true rfl) dX11_isWithin_163 ?_
        refine lv_aload_n hx hb dX11_isWithin_164 rfl (lv_at hl 3 rfl) ?_
        refine lv_iconst (v := 1) hx hb dX11_isWithin_165 rfl ?_
        refine z_iald hx hb hK hP 0 0 rfl rfl (e := 1) rfl (Nat.le_of_ble_eq_true rfl) (Nat.le_of_ble_eq_true rfl) dX11_isWithin_166 ?_
        refine lv_iload_n hx hb dX11_isWithin_167 rfl (lv_at hl 4 rfl) ?_
        refine lv_iload_n hx hb dX11_isWithin_168 rfl (lv_at hl 5 rfl) ?_
        obtain ⟨hPc, hDc, hFc, hI1⟩ := zi_sub (wc := []) hP hD hS hA [] rfl rfl
        refine zcall (st1 := [.int (pI (onS (T0 4).toInt (T0 5).toInt (T0 0).toInt (T0 1).toInt px.toInt py.toInt))]) (va_runS (As := [.int (T0 4), .int (T0 5), .int (T0 0), .int (T0 1), .int px, .int py]) (rest := []) ⟨hx, hb, hml, hown, hts⟩ (k_M_isOn l dC dI cI cZ cF H.size (T0 4) (T0 5) (T0 0) (T0 1) px py (by first | exact ht _ (by first | with_reducible assumption | omega) | assumption) (by first | exact ht _ (by first | with_reducible assumption | omega) | assumption) (by first | exact ht _ (by first | with_reducible assumption | omega) | assumption) (by first | exact ht _ (by first | with_reducible assumption | omega) | assumption) (by first | exact ht _ (by first | with_reducible assumption | omega) | assumption) (by first | exact ht _ (by first | with_reducible assumption | omega) | assumption)) (csS_164 hts rfl rfl ⟨Nat.le_of_ble_eq_true rfl, Nat.le_of_ble_eq_true rfl⟩) (zPS2 hPc hDc hK hXN) rfl rfl hl.1 rfl (lv_room (Nat.le_of_ble_eq_true rfl)) dX11_isWithin_169 ⟨Nat.le_of_ble_eq_true rfl, Nat.le_of_ble_eq_true rfl⟩) hS hFc hFc rfl (fun t H locs ht hB hk1 hS => ?_)
        obtain ⟨hP1, hD1⟩ := hB
        rw [ht] at hP1
        replace hP := z0 hP hD hk1 hP1 hI1
        clear hk1 hPc hDc hFc hP1 hD1 ht hI1
        refine lv_if_eq (tgt := 179) hx hb dX11_isWithin_172 rfl (fun c_16 => ?_) (fun c_16 => ?_)
        · have c_16 : ¬ (onS (T0 4).toInt (T0 5).toInt (T0 0).toInt (T0 1).toInt px.toInt py.toInt) := zp_0 c_16
          refine lv_iconst (v := 0) hx hb dX11_isWithin_179 rfl ?_
          obtain ⟨hP9, hD9⟩ := zu_sub (wc := [_]) hP hD [true] rfl rfl
          rw [hQ9]
          exact W.zret (ty := .boolean) (v := 0) hx hb hr (rfl) (fun t ht hW => ⟨⟨congrArg (fun z => Outcome.returned (some (Value.int z))) (show (0 : Int32) = pI (wtM (T0 0).toInt (T0 1).toInt (T0 2).toInt (T0 3).toInt (T0 4).toInt (T0 5).toInt px.toInt py.toInt) from (zp_f (by unfold wtM; first | exact Or.inl ⟨by assumption, by simp only [*, true_or, or_true]⟩ | (intro h; rcases h with ⟨_, h | h | h⟩ | ⟨h, _⟩ <;> contradiction))).symm), by rw [ht]; exact hP9, hD9⟩, hS.F ht⟩) hS.2.2 dX11_isWithin_180
        · have c_16 : onS (T0 4).toInt (T0 5).toInt (T0 0).toInt (T0 1).toInt px.toInt py.toInt := zp_1 c_16
          refine lv_iconst (v := 1) hx hb dX11_isWithin_175 rfl ?_
          refine lv_goto (tgt := 180) hx hb dX11_isWithin_176 rfl ?_
          obtain ⟨hP9, hD9⟩ := zu_sub (wc := [_]) hP hD [true] rfl rfl
          rw [hQ9]
          exact W.zret (ty := .boolean) (v := 1) hx hb hr (rfl) (fun t ht hW => ⟨⟨congrArg (fun z => Outcome.returned (some (Value.int z))) (show (1 : Int32) = pI (wtM (T0 0).toInt (T0 1).toInt (T0 2).toInt (T0 3).toInt (T0 4).toInt (T0 5).toInt px.toInt py.toInt) from (zp_t (by unfold wtM; first | exact Or.inl ⟨by assumption, by simp only [*, true_or, or_true]⟩ | (intro h; rcases h with ⟨_, h | h | h⟩ | ⟨h, _⟩ <;> contradiction))).symm), by rw [ht]; exact hP9, hD9⟩, hS.F ht⟩) hS.2.2 dX11_isWithin_180
set_option maxHeartbeats 4000000 in
set_option maxRecDepth 100000 in
theorem k_M_take (l : Launch) (dC : Nat → ClassId) (dI : Nat → Nat → Nat) (cI cZ cF : ClassId) (sz : Nat) (k0 : Nat) (a : Nat → Nat) (I0 : Nat → Int32) (J0 : Nat → Int64) (f : Nat) (n : Nat) (mn : Nat → Int32) (cx : Nat → Int32) (cy : Nat → Int32) (P0 : Nat → Int32) (Q0 : Nat → Int32) (hf_f : f ≤ 200) (hm_f : mn f = nI n) (hn_f : n ≤ 40) : zM l yX11_take cX11_take 3 none ({ frames := 0, cells := 0, slots := 0, locals := 0 } : Room) [.ref k0, .int (nI f)] (dC, dI) (zTy cI cZ cF) [(om k0 a I0 J0), (oa (a 11) cI 201 mn), (oa (a 12) cI 8040 cx), (oa (a 13) cI 8040 cy), (oa (a 29) cI 42 P0), (oa (a 30) cI 42 Q0)] sz none (fun A t => ∃ (P1 : Nat → Int32), ∃ (Q1 : Nat → Int32), (∀ j, j < n → P1 j = cx (40 * f + j) ∧ Q1 j = cy (40 * f + j)) ∧ zPD (dC, dI) classes A [(om k0 a (upd I0 31 (nI n)) J0), (oa (a 11) cI 201 mn), (oa (a 12) cI 8040 cx), (oa (a 13) cI 8040 cy), (oa (a 29) cI 42 P1), (oa (a 30) cI 42 Q1)] t.heap) 0 0 := by
  refine zIn (own := "ScaleShopModel") (loc := [(0, .ref k0), (1, .int (nI f))]) rfl rfl rfl rfl (fun p e s m below meth c hx hb hr hts hown hlocks hml hnm9 A hA hS hP hD hK hXN Q9 hQ9 ls hl => ?_)
  refine lv_aload_n hx hb dX11_take_0 rfl (lv_at hl 0 rfl) ?_
  refine lv_aload_n hx hb dX11_take_1 rfl (lv_at hl 0 rfl) ?_
  refine va_get (D := (dC, dI)) (ci := 9) (v := .ref (a 11)) (C := RX11) (T := TX11) (N := 55) hx hb hts inX11 hown hK hP 0 rfl rfl 11 (Nat.le_of_ble_eq_true rfl) (hts _ mw_1170) (fun _ h9 => h9) rfl dX11_take_2 ?_
  refine lv_iload_n hx hb dX11_take_5 rfl (lv_at hl 1 rfl) ?_
  have b9_1 : f < 201 := by omega
  refine z_iald hx hb hK hP 1 0 rfl rfl (e := f) rfl b9_1 (Nat.le_of_ble_eq_true rfl) dX11_take_6 ?_
  refine zz_i (v := nI n) (hm_f) ?_
  refine va_put (D := (dC, dI)) (ci := 9) (v := .int (nI n)) (ty := .int) (C := RX11) (T := TX11) (N := 55) hx hb hts inX11 tyX11 tyX11_ok nmX11 hown hK hP hD hS 0 rfl rfl 31 (by decide) (hts _ mw_1190) (fun _ h9 => h9) rfl (by decide +kernel) rfl rfl (Nat.le_of_ble_eq_true rfl) dX11_take_7 (fun H locs hP hD hS => ?_)
  obtain ⟨hP, hD⟩ := zre (W2 := [(om k0 a (upd I0 31 (nI n)) J0), _, _, _, _, _]) hP hD rfl
  refine lv_iconst (v := 0) hx hb dX11_take_10 rfl ?_
  refine lv_istore_n (lv' := [(2, .int 0), (0, .ref k0), (1, .int (nI f))]) hx hb dX11_take_11 rfl hl (Nat.le_of_ble_eq_true rfl) rfl (fun ls hl => ?_)
  have hl_12 : ∀ (n9 : Nat) (k : Nat) (P1 : Nat → Int32) (Q1 : Nat → Int32) (H : Heap) (locs : List Loc) (ls : Array Slot), n - k < n9 → (k ≤ n) → (∀ j, j < k → P1 j = cx (40 * f + j) ∧ Q1 j = cy (40 * f + j)) → va_P (dC, dI) classes [(om k0 a (upd I0 31 (nI n)) J0), (oa (a 11) cI 201 mn), (oa (a 12) cI 8040 cx), (oa (a 13) cI 8040 cy), (oa (a 29) cI 42 P1), (oa (a 30) cI 42 Q1)] H → va_D A [(om k0 a (upd I0 31 (nI n)) J0), (oa (a 11) cI 201 mn), (oa (a 12) cI 8040 cx), (oa (a 13) cI 8040 cy), (oa (a 29) cI 42 P1), (oa (a 30) cI 42 Q1)] → va_S A s.heap H locs → lv_has ls 3 [(2, .int (nI k)), (0, .ref k0), (1, .int (nI f))] → W p l e ({ frames := 0, cells := 0, slots := 0, locals := 0 } : Room) s m ([.ref k0, .int (nI f)] : List Value).toArray below meth c H locs 0 0 Q9 (F0 m 12 ls []) := by
    intro n9
    induction n9 with
    | zero => intro k P1 Q1 H locs ls hm; exact absurd hm (Nat.not_lt_zero _)
    | succ n9 ih_12 =>
      intro k P1 Q1 H locs ls hm hk hall hP hD hS hl
      refine lv_iload_n hx hb dX11_take_12 rfl (lv_at hl 0 rfl) ?_
      refine lv_aload_n hx hb dX11_take_13 rfl (lv_at hl 1 rfl) ?_
      refine va_get (D := (dC, dI)) (ci := 9) (v := .int (nI n)) (C := RX11) (T := TX11) (N := 55) hx hb hts inX11 hown hK hP 0 rfl rfl 31 (Nat.le_of_ble_eq_true rfl) (hts _ mw_1190) (fun _ h9 => h9) rfl dX11_take_14 ?_
      have b9_3 : zlt (k) := show k < 2147483648 by omega
      have b9_4 : zlt (n) := show n < 2147483648 by omega
      refine lv_icmp_ge (tgt := 60) hx hb dX11_take_17 rfl (fun c_2 => ?_) (fun c_2 => ?_)
      · have c_2 : ((n : Nat) : Int) ≤ ((k : Nat) : Int) := zc_le (nI_toInt b9_4) (nI_toInt b9_3) c_2
        obtain ⟨hP9, hD9⟩ := zu_sub (wc := [_, _, _, _, _, _]) hP hD [true, true, true, true, true, true] rfl rfl
        rw [hQ9]
        exact W.vret hx hb hr (fun t ht hW => ⟨⟨rfl, P1, Q1, (fun j hj => hall j (by omega)), by rw [ht]; exact hP9, hD9⟩, hS.F ht⟩) hS.2.2 dX11_take_60
      · have c_2 : ((k : Nat) : Int) < ((n : Nat) : Int) := zc_nle (nI_toInt b9_4) (nI_toInt b9_3) c_2
        refine lv_aload_n hx hb dX11_take_20 rfl (lv_at hl 1 rfl) ?_
        refine va_get (D := (dC, dI)) (ci := 9) (v := .ref (a 29)) (C := RX11) (T := TX11) (N := 55) hx hb hts inX11 hown hK hP 0 rfl rfl 29 (Nat.le_of_ble_eq_true rfl) (hts _ mw_1188) (fun _ h9 => h9) rfl dX11_take_21 ?_
        refine lv_iload_n hx hb dX11_take_24 rfl (lv_at hl 0 rfl) ?_
        refine lv_aload_n hx hb dX11_take_25 rfl (lv_at hl 1 rfl) ?_
        refine va_get (D := (dC, dI)) (ci := 9) (v := .ref (a 12)) (C := RX11) (T := TX11) (N := 55) hx hb hts inX11 hown hK hP 0 rfl rfl 12 (Nat.le_of_ble_eq_true rfl) (hts _ mw_1171) (fun _ h9 => h9) rfl dX11_take_26 ?_
        refine lv_bipush (v := 40) hx hb dX11_take_29 rfl ?_
        refine lv_iload_n hx hb dX11_take_31 rfl (lv_at hl 2 rfl) ?_
        refine lv_imul hx hb dX11_take_32 ?_
        refine zz_i (v := nI (40 * f)) (pk_mul 40 f) ?_
        refine lv_iload_n hx hb dX11_take_33 rfl (lv_at hl 0 rfl) ?_
        refine lv_iadd hx hb dX11_take_34 ?_
        refine zz_i (v := nI (40 * f + k)) (nI_add (40 * f) k) ?_
        have b9_5 : 40 * f + k < 8040 := by omega
        refine z_iald hx hb hK hP 2 0 rfl rfl (e := 40 * f + k) rfl b9_5 (Nat.le_of_ble_eq_true rfl) dX11_take_35 ?_
        have b9_6 : k < 42 := by omega
        refine z_iast hx hb hK hP hD hS 4 0 rfl rfl (e := k) (x := cx (40 * f + k)) rfl b9_6 (Nat.le_of_ble_eq_true rfl) dX11_take_36 (fun H locs hP hD hS => ?_)
        obtain ⟨hP, hD⟩ := zre (W2 := [_, _, _, _, (oa (a 29) cI 42 (upd P1 k (cx (40 * f + k)))), _]) hP hD rfl
        refine lv_aload_n hx hb dX11_take_37 rfl (lv_at hl 1 rfl) ?_
        refine va_get (D := (dC, dI)) (ci := 9) (v := .ref (a 30)) (C := RX11) (T := TX11) (N := 55) hx hb hts inX11 hown hK hP 0 rfl rfl 30 (Nat.le_of_ble_eq_true rfl) (hts _ mw_1189) (fun _ h9 => h9) rfl dX11_take_38 ?_
        refine lv_iload_n hx hb dX11_take_41 rfl (lv_at hl 0 rfl) ?_
        refine lv_aload_n hx hb dX11_take_42 rfl (lv_at hl 1 rfl) ?_
        refine va_get (D := (dC, dI)) (ci := 9) (v := .ref (a 13)) (C := RX11) (T := TX11) (N := 55) hx hb hts inX11 hown hK hP 0 rfl rfl 13 (Nat.le_of_ble_eq_true rfl) (hts _ mw_1172) (fun _ h9 => h9) rfl dX11_take_43 ?_
        refine lv_bipush (v := 40) hx hb dX11_take_46 rfl ?_
        refine lv_iload_n hx hb dX11_take_48 rfl (lv_at hl 2 rfl) ?_
        refine lv_imul hx hb dX11_take_49 ?_
        refine zz_i (v := nI (40 * f)) (pk_mul 40 f) ?_
        refine lv_iload_n hx hb dX11_take_50 rfl (lv_at hl 0 rfl) ?_
        refine lv_iadd hx hb dX11_take_51 ?_
        refine zz_i (v := nI (40 * f + k)) (nI_add (40 * f) k) ?_
        refine z_iald hx hb hK hP 3 0 rfl rfl (e := 40 * f + k) rfl b9_5 (Nat.le_of_ble_eq_true rfl) dX11_take_52 ?_
        refine z_iast hx hb hK hP hD hS 5 0 rfl rfl (e := k) (x := cy (40 * f + k)) rfl b9_6 (Nat.le_of_ble_eq_true rfl) dX11_take_53 (fun H locs hP hD hS => ?_)
        obtain ⟨hP, hD⟩ := zre (W2 := [_, _, _, _, _, (oa (a 30) cI 42 (upd Q1 k (cy (40 * f + k))))]) hP hD rfl
        refine lv_iinc (v := nI (k + 1)) (lv' := [(2, .int (nI (k + 1))), (0, .ref k0), (1, .int (nI f))]) hx hb dX11_take_54 hl (k := 0) rfl (nI_add k 1) (Nat.le_of_ble_eq_true rfl) rfl (fun ls hl => ?_)
        refine lv_goto (tgt := 12) hx hb dX11_take_57 rfl ?_
        exact ih_12 (k + 1) (upd P1 k (cx (40 * f + k))) (upd Q1 k (cy (40 * f + k))) H locs ls (by first | with_reducible assumption | omega) (by first | with_reducible assumption | omega) (by intro j hj; rcases Nat.lt_or_ge j k with h | h; simp only [upd, if_neg (show j ≠ k by omega)]; exact hall j h; rw [show j = k by omega]; simp only [upd, if_true]; first | exact ⟨rfl, rfl⟩ | exact ⟨trivial, trivial⟩) hP hD hS (lv_sub hl [0, 1, 2] rfl)
  exact hl_12 _ 0 P0 Q0 H locs ls (Nat.lt_succ_self _) (by first | with_reducible assumption | omega) (by intro j hj; omega) hP hD hS (lv_sub hl [0, 1, 2] rfl)
set_option maxHeartbeats 4000000 in
set_option maxRecDepth 100000 in
theorem k_M_moves (l : Launch) (dC : Nat → ClassId) (dI : Nat → Nat → Nat) (cI cZ cF : ClassId) (sz : Nat) (k0 : Nat) (a : Nat → Nat) (I0 : Nat → Int32) (J0 : Nat → Int64) (f : Nat) (on : Nat) (cx : Nat → Int32) (cy : Nat → Int32) (ox : Nat → Int32) (oy : Nat → Int32) (hf_f : f ≤ 200) (hon : I0 35 = nI on) (ho40 : on ≤ 40) : zM l yX11_moves cX11_moves 3 (some .boolean) ({ frames := 0, cells := 0, slots := 0, locals := 0 } : Room) [.ref k0, .int (nI f)] (dC, dI) (zTy cI cZ cF) [(om k0 a I0 J0), (oa (a 12) cI 8040 cx), (oa (a 13) cI 8040 cy), (oa (a 33) cI 42 ox), (oa (a 34) cI 42 oy)] sz (some (.int (pI (∃ k, k < on ∧ ¬ ((cx (40 * f + k)).toInt = (ox k).toInt ∧ (cy (40 * f + k)).toInt = (oy k).toInt))))) (fun A t => zPD (dC, dI) classes A [(om k0 a I0 J0), (oa (a 12) cI 8040 cx), (oa (a 13) cI 8040 cy), (oa (a 33) cI 42 ox), (oa (a 34) cI 42 oy)] t.heap) 0 0 := by
  refine zIn (own := "ScaleShopModel") (loc := [(0, .ref k0), (1, .int (nI f))]) rfl rfl rfl rfl (fun p e s m below meth c hx hb hr hts hown hlocks hml hnm9 A hA hS hP hD hK hXN Q9 hQ9 ls hl => ?_)
  refine lv_iconst (v := 0) hx hb dX11_moves_0 rfl ?_
  refine lv_istore_n (lv' := [(2, .int 0), (0, .ref k0), (1, .int (nI f))]) hx hb dX11_moves_1 rfl hl (Nat.le_of_ble_eq_true rfl) rfl (fun ls hl => ?_)
  have hl_2 : ∀ (n9 : Nat) (k : Nat) (H : Heap) (locs : List Loc) (ls : Array Slot), on - k < n9 → (k ≤ on) → (∀ j, j < k → (cx (40 * f + j)).toInt = (ox j).toInt ∧ (cy (40 * f + j)).toInt = (oy j).toInt) → va_P (dC, dI) classes [(om k0 a I0 J0), (oa (a 12) cI 8040 cx), (oa (a 13) cI 8040 cy), (oa (a 33) cI 42 ox), (oa (a 34) cI 42 oy)] H → va_D A [(om k0 a I0 J0), (oa (a 12) cI 8040 cx), (oa (a 13) cI 8040 cy), (oa (a 33) cI 42 ox), (oa (a 34) cI 42 oy)] → va_S A s.heap H locs → lv_has ls 3 [(2, .int (nI k)), (0, .ref k0), (1, .int (nI f))] → W p l e ({ frames := 0, cells := 0, slots := 0, locals := 0 } : Room) s m ([.ref k0, .int (nI f)] : List Value).toArray below meth c H locs 0 0 Q9 (F0 m 2 ls []) := by
    intro n9
    induction n9 with
    | zero => intro k H locs ls hm; exact absurd hm (Nat.not_lt_zero _)
    | succ n9 ih_2 =>
      intro k H locs ls hm hk hall hP hD hS hl
      refine lv_iload_n hx hb dX11_moves_2 rfl (lv_at hl 0 rfl) ?_
      refine lv_aload_n hx hb dX11_moves_3 rfl (lv_at hl 1 rfl) ?_
      refine va_get (D := (dC, dI)) (ci := 9) (v := .int (I0 35)) (C := RX11) (T := TX11) (N := 55) hx hb hts inX11 hown hK hP 0 rfl rfl 35 (Nat.le_of_ble_eq_true rfl) (hts _ mw_1194) (fun _ h9 => h9) rfl dX11_moves_4 ?_
      refine zz_i (v := nI on) (hon) ?_
      have b9_2 : zlt (k) := show k < 2147483648 by omega
      have b9_3 : zlt (on) := show on < 2147483648 by omega
      refine lv_icmp_ge (tgt := 58) hx hb dX11_moves_7 rfl (fun c_1 => ?_) (fun c_1 => ?_)
      · have c_1 : ((on : Nat) : Int) ≤ ((k : Nat) : Int) := zc_le (nI_toInt b9_3) (nI_toInt b9_2) c_1
        refine lv_iconst (v := 0) hx hb dX11_moves_58 rfl ?_
        obtain ⟨hP9, hD9⟩ := zu_sub (wc := [_, _, _, _, _]) hP hD [true, true, true, true, true] rfl rfl
        rw [hQ9]
        exact W.zret (ty := .boolean) (v := 0) hx hb hr (rfl) (fun t ht hW => ⟨⟨congrArg (fun z => Outcome.returned (some (Value.int z))) (show (0 : Int32) = pI (∃ k, k < on ∧ ¬ ((cx (40 * f + k)).toInt = (ox k).toInt ∧ (cy (40 * f + k)).toInt = (oy k).toInt)) from (zp_f (by first | exact ⟨k, by omega, by omega⟩ | exact fun ⟨j, hj, h⟩ => h (hall j (by omega)))).symm), by rw [ht]; exact hP9, hD9⟩, hS.F ht⟩) hS.2.2 dX11_moves_59
      · have c_1 : ((k : Nat) : Int) < ((on : Nat) : Int) := zc_nle (nI_toInt b9_3) (nI_toInt b9_2) c_1
        refine lv_aload_n hx hb dX11_moves_10 rfl (lv_at hl 1 rfl) ?_
        refine va_get (D := (dC, dI)) (ci := 9) (v := .ref (a 12)) (C := RX11) (T := TX11) (N := 55) hx hb hts inX11 hown hK hP 0 rfl rfl 12 (Nat.le_of_ble_eq_true rfl) (hts _ mw_1171) (fun _ h9 => h9) rfl dX11_moves_11 ?_
        refine lv_bipush (v := 40) hx hb dX11_moves_14 rfl ?_
        refine lv_iload_n hx hb dX11_moves_16 rfl (lv_at hl 2 rfl) ?_
        refine lv_imul hx hb dX11_moves_17 ?_
        refine zz_i (v := nI (40 * f)) (pk_mul 40 f) ?_
        refine lv_iload_n hx hb dX11_moves_18 rfl (lv_at hl 0 rfl) ?_
        refine lv_iadd hx hb dX11_moves_19 ?_
        refine zz_i (v := nI (40 * f + k)) (nI_add (40 * f) k) ?_
        have b9_4 : 40 * f + k < 8040 := by omega
        refine z_iald hx hb hK hP 1 0 rfl rfl (e := 40 * f + k) rfl b9_4 (Nat.le_of_ble_eq_true rfl) dX11_moves_20 ?_
        refine lv_aload_n hx hb dX11_moves_21 rfl (lv_at hl 1 rfl) ?_
        refine va_get (D := (dC, dI)) (ci := 9) (v := .ref (a 33)) (C := RX11) (T := TX11) (N := 55) hx hb hts inX11 hown hK hP 0 rfl rfl 33 (Nat.le_of_ble_eq_true rfl) (hts _ mw_1192) (fun _ h9 => h9) rfl dX11_moves_22 ?_
        refine lv_iload_n hx hb dX11_moves_25 rfl (lv_at hl 0 rfl) ?_
        have b9_5 : k < 42 := by omega
        refine z_iald hx hb hK hP 3 0 rfl rfl (e := k) rfl b9_5 (Nat.le_of_ble_eq_true rfl) dX11_moves_26 ?_
        refine lv_icmp_ne (tgt := 50) hx hb dX11_moves_27 rfl (fun c_6 => ?_) (fun c_6 => ?_)
        · have c_6 : ¬ (cx (40 * f + k)).toInt = (ox k).toInt := zc_ne rfl rfl c_6
          refine lv_iconst (v := 1) hx hb dX11_moves_50 rfl ?_
          obtain ⟨hP9, hD9⟩ := zu_sub (wc := [_, _, _, _, _]) hP hD [true, true, true, true, true] rfl rfl
          rw [hQ9]
          exact W.zret (ty := .boolean) (v := 1) hx hb hr (rfl) (fun t ht hW => ⟨⟨congrArg (fun z => Outcome.returned (some (Value.int z))) (show (1 : Int32) = pI (∃ k, k < on ∧ ¬ ((cx (40 * f + k)).toInt = (ox k).toInt ∧ (cy (40 * f + k)).toInt = (oy k).toInt)) from (zp_t (by first | exact ⟨k, by omega, by omega⟩ | exact fun ⟨j, hj, h⟩ => h (hall j (by omega)))).symm), by rw [ht]; exact hP9, hD9⟩, hS.F ht⟩) hS.2.2 dX11_moves_51
        · have c_6 : (cx (40 * f + k)).toInt = (ox k).toInt := zc_eq rfl rfl c_6
          refine lv_aload_n hx hb dX11_moves_30 rfl (lv_at hl 1 rfl) ?_
          refine va_get (D := (dC, dI)) (ci := 9) (v := .ref (a 13)) (C := RX11) (T := TX11) (N := 55) hx hb hts inX11 hown hK hP 0 rfl rfl 13 (Nat.le_of_ble_eq_true rfl) (hts _ mw_1172) (fun _ h9 => h9) rfl dX11_moves_31 ?_
          refine lv_bipush (v := 40) hx hb dX11_moves_34 rfl ?_
          refine lv_iload_n hx hb dX11_moves_36 rfl (lv_at hl 2 rfl) ?_
          refine lv_imul hx hb dX11_moves_37 ?_
          refine zz_i (v := nI (40 * f)) (pk_mul 40 f) ?_
          refine lv_iload_n hx hb dX11_moves_38 rfl (lv_at hl 0 rfl) ?_
          refine lv_iadd hx hb dX11_moves_39 ?_
          refine zz_i (v := nI (40 * f + k)) (nI_add (40 * f) k) ?_
          refine z_iald hx hb hK hP 2 0 rfl rfl (e := 40 * f + k) rfl b9_4 (Nat.le_of_ble_eq_true rfl) dX11_moves_40 ?_
          refine lv_aload_n hx hb dX11_moves_41 rfl (lv_at hl 1 rfl) ?_
          refine va_get (D := (dC, dI)) (ci := 9) (v := .ref (a 34)) (C := RX11) (T := TX11) (N := 55) hx hb hts inX11 hown hK hP 0 rfl rfl 34 (Nat.le_of_ble_eq_true rfl) (hts _ mw_1193) (fun _ h9 => h9) rfl dX11_moves_42 ?_
          refine lv_iload_n hx hb dX11_moves_45 rfl (lv_at hl 0 rfl) ?_
          refine z_iald hx hb hK hP 4 0 rfl rfl (e := k) rfl b9_5 (Nat.le_of_ble_eq_true rfl) dX11_moves_46 ?_
          refine lv_icmp_eq (tgt := 52) hx hb dX11_moves_47 rfl (fun c_7 => ?_) (fun c_7 => ?_)
          · have c_7 : (cy (40 * f + k)).toInt = (oy k).toInt := zc_eq rfl rfl c_7
            refine lv_iinc (v := nI (k + 1)) (lv' := [(2, .int (nI (k + 1))), (0, .ref k0), (1, .int (nI f))]) hx hb dX11_moves_52 hl (k := 0) rfl (nI_add k 1) (Nat.le_of_ble_eq_true rfl) rfl (fun ls hl => ?_)
            refine lv_goto (tgt := 2) hx hb dX11_moves_55 rfl ?_
            exact ih_2 (k + 1) H locs ls (by first | with_reducible assumption | omega) (by first | with_reducible assumption | omega) (by intro j hj; rcases Nat.lt_or_ge j k with h | h; exact hall j h; rw [show j = k by omega]; omega) hP hD hS (lv_sub hl [0, 1, 2] rfl)
          · have c_7 : ¬ (cy (40 * f + k)).toInt = (oy k).toInt := zc_ne rfl rfl c_7
            refine lv_iconst (v := 1) hx hb dX11_moves_50 rfl ?_
            obtain ⟨hP9, hD9⟩ := zu_sub (wc := [_, _, _, _, _]) hP hD [true, true, true, true, true] rfl rfl
            rw [hQ9]
            exact W.zret (ty := .boolean) (v := 1) hx hb hr (rfl) (fun t ht hW => ⟨⟨congrArg (fun z => Outcome.returned (some (Value.int z))) (show (1 : Int32) = pI (∃ k, k < on ∧ ¬ ((cx (40 * f + k)).toInt = (ox k).toInt ∧ (cy (40 * f + k)).toInt = (oy k).toInt)) from (zp_t (by first | exact ⟨k, by omega, by omega⟩ | exact fun ⟨j, hj, h⟩ => h (hall j (by omega)))).symm), by rw [ht]; exact hP9, hD9⟩, hS.F ht⟩) hS.2.2 dX11_moves_51
  exact hl_2 _ 0 s.heap [] ls (Nat.lt_succ_self _) (by first | with_reducible assumption | omega) (by intro j hj; omega) hP hD hS (lv_sub hl [0, 1, 2] rfl)
set_option maxHeartbeats 4000000 in
set_option maxRecDepth 100000 in
theorem k_M_area (l : Launch) (dC : Nat → ClassId) (dI : Nat → Nat → Nat) (cI cZ cF : ClassId) (sz : Nat) (k0 : Nat) (a : Nat → Nat) (I0 : Nat → Int32) (J0 : Nat → Int64) (f : Nat) (n : Nat) (mn : Nat → Int32) (cx : Nat → Int32) (cy : Nat → Int32) (S0 : Nat → Int32) (hf_f : f ≤ 200) (hm_f : mn f = nI n) (hn_f : 1 ≤ n ∧ n ≤ 40) (hp_f : pls n (cF40 cx f) (cF40 cy f)) : zM l yX11_area cX11_area 5 (some .long) ({ frames := 1, cells := 0, slots := 0, locals := 25 } : Room) [.ref k0, .int (nI f)] (dC, dI) (zTy cI cZ cF) [(om k0 a I0 J0), (oa (a 11) cI 201 mn), (oa (a 12) cI 8040 cx), (oa (a 13) cI 8040 cy), (oa (a 32) cI 8 S0)] sz (some (.long (jI ((Int.natAbs (ar2 n (cF40 cx f) (cF40 cy f) n) : Nat) : Int)))) (fun A t => ∃ (S1 : Nat → Int32), zPD (dC, dI) classes A [(om k0 a I0 J0), (oa (a 11) cI 201 mn), (oa (a 12) cI 8040 cx), (oa (a 13) cI 8040 cy), (oa (a 32) cI 8 S1)] t.heap) 0 0 := by
  refine zIn (own := "ScaleShopModel") (loc := [(0, .ref k0), (1, .int (nI f))]) rfl rfl rfl rfl (fun p e s m below meth c hx hb hr hts hown hlocks hml hnm9 A hA hS hP hD hK hXN Q9 hQ9 ls hl => ?_)
  refine lv_lconst (v := 0) hx hb dX11_area_0 rfl ?_
  refine lv_lstore_n (lv' := [(2, .long 0), (0, .ref k0), (1, .int (nI f))]) hx hb dX11_area_1 rfl hl (Nat.le_of_ble_eq_true rfl) rfl (fun ls hl => ?_)
  refine lv_iconst (v := 0) hx hb dX11_area_2 rfl ?_
  refine lv_istore (lv' := [(4, .int 0), (2, .long 0), (0, .ref k0), (1, .int (nI f))]) hx hb dX11_area_3 hl (Nat.le_of_ble_eq_true rfl) rfl (fun ls hl => ?_)
  have hl_5 : ∀ (n9 : Nat) (i : Nat) (S1 : Nat → Int32) (H : Heap) (locs : List Loc) (ls : Array Slot), n - i < n9 → (i ≤ n) → va_P (dC, dI) classes [(om k0 a I0 J0), (oa (a 11) cI 201 mn), (oa (a 12) cI 8040 cx), (oa (a 13) cI 8040 cy), (oa (a 32) cI 8 S1)] H → va_D A [(om k0 a I0 J0), (oa (a 11) cI 201 mn), (oa (a 12) cI 8040 cx), (oa (a 13) cI 8040 cy), (oa (a 32) cI 8 S1)] → va_S A s.heap H locs → lv_has ls 5 [(4, .int (nI i)), (2, .long (jI (ar2 n (cF40 cx f) (cF40 cy f) i))), (0, .ref k0), (1, .int (nI f))] → W p l e ({ frames := 1, cells := 0, slots := 0, locals := 25 } : Room) s m ([.ref k0, .int (nI f)] : List Value).toArray below meth c H locs 0 0 Q9 (F0 m 5 ls []) := by
    intro n9
    induction n9 with
    | zero => intro i S1 H locs ls hm; exact absurd hm (Nat.not_lt_zero _)
    | succ n9 ih_5 =>
      intro i S1 H locs ls hm hi hP hD hS hl
      have hB := ar2B hp_f i hi
      refine lv_iload hx hb dX11_area_5 (lv_at hl 0 rfl) ?_
      refine lv_aload_n hx hb dX11_area_7 rfl (lv_at hl 2 rfl) ?_
      refine va_get (D := (dC, dI)) (ci := 9) (v := .ref (a 11)) (C := RX11) (T := TX11) (N := 55) hx hb hts inX11 hown hK hP 0 rfl rfl 11 (Nat.le_of_ble_eq_true rfl) (hts _ mw_1170) (fun _ h9 => h9) rfl dX11_area_8 ?_
      refine lv_iload_n hx hb dX11_area_11 rfl (lv_at hl 3 rfl) ?_
      have b9_1 : f < 201 := by omega
      refine z_iald hx hb hK hP 1 0 rfl rfl (e := f) rfl b9_1 (Nat.le_of_ble_eq_true rfl) dX11_area_12 ?_
      refine zz_i (v := nI n) (hm_f) ?_
      have b9_3 : zlt (i) := show i < 2147483648 by omega
      have b9_4 : zlt (n) := show n < 2147483648 by omega
      refine lv_icmp_ge (tgt := 64) hx hb dX11_area_13 rfl (fun c_2 => ?_) (fun c_2 => ?_)
      · have c_2 : ((n : Nat) : Int) ≤ ((i : Nat) : Int) := zc_le (nI_toInt b9_4) (nI_toInt b9_3) c_2
        refine lv_lload_n hx hb dX11_area_64 rfl (lv_at hl 1 rfl) ?_
        refine lv_lconst (v := 0) hx hb dX11_area_65 rfl ?_
        refine W.lcmp hx hb dX11_area_66 ?_
        refine lv_if_ge (tgt := 75) hx hb dX11_area_67 rfl (fun c_5 => ?_) (fun c_5 => ?_)
        · have c_5 : 0 ≤ (ar2 n (cF40 cx f) (cF40 cy f) i) := zl_ge (jI_toInt (by omega)) rfl c_5
          refine lv_lload_n hx hb dX11_area_75 rfl (lv_at hl 1 rfl) ?_
          obtain ⟨hP9, hD9⟩ := zu_sub (wc := [_, _, _, _, _]) hP hD [true, true, true, true, true] rfl rfl
          rw [hQ9]
          exact W.lret (v := jI (ar2 n (cF40 cx f) (cF40 cy f) i)) hx hb hr (fun t ht hW => ⟨⟨congrArg (fun z => Outcome.returned (some (Value.long z))) (show (jI (ar2 n (cF40 cx f) (cF40 cy f) i) : Int64) = jI ((Int.natAbs (ar2 n (cF40 cx f) (cF40 cy f) n) : Nat) : Int) from by obtain rfl : i = n := (by omega); first | (rw [jI_neg (by omega)]; congr 1; omega) | (congr 1; omega)), S1, by rw [ht]; exact hP9, hD9⟩, hS.F ht⟩) hS.2.2 dX11_area_76
        · have c_5 : (ar2 n (cF40 cx f) (cF40 cy f) i) < 0 := zl_nge (jI_toInt (by omega)) rfl c_5
          refine lv_lload_n hx hb dX11_area_70 rfl (lv_at hl 1 rfl) ?_
          refine lv_lneg hx hb dX11_area_71 ?_
          refine lv_goto (tgt := 76) hx hb dX11_area_72 rfl ?_
          obtain ⟨hP9, hD9⟩ := zu_sub (wc := [_, _, _, _, _]) hP hD [true, true, true, true, true] rfl rfl
          rw [hQ9]
          exact W.lret (v := -(jI (ar2 n (cF40 cx f) (cF40 cy f) i))) hx hb hr (fun t ht hW => ⟨⟨congrArg (fun z => Outcome.returned (some (Value.long z))) (show (-(jI (ar2 n (cF40 cx f) (cF40 cy f) i)) : Int64) = jI ((Int.natAbs (ar2 n (cF40 cx f) (cF40 cy f) n) : Nat) : Int) from by obtain rfl : i = n := (by omega); first | (rw [jI_neg (by omega)]; congr 1; omega) | (congr 1; omega)), S1, by rw [ht]; exact hP9, hD9⟩, hS.F ht⟩) hS.2.2 dX11_area_76
      · have c_2 : ((i : Nat) : Int) < ((n : Nat) : Int) := zc_nle (nI_toInt b9_4) (nI_toInt b9_3) c_2
        have hin9 : i < n := (by omega)
        have hnx := nxt_lt (n := n) (i := i) (by omega)
        have hq1 := xyB (hp_f i hin9).1 (hp_f _ hnx).2
        have hq2 := xyB (hp_f _ hnx).1 (hp_f i hin9).2
        refine lv_aload_n hx hb dX11_area_16 rfl (lv_at hl 2 rfl) ?_
        refine lv_iload_n hx hb dX11_area_17 rfl (lv_at hl 3 rfl) ?_
        refine lv_iload hx hb dX11_area_18 (lv_at hl 0 rfl) ?_
        refine lv_iconst (v := 0) hx hb dX11_area_20 rfl ?_
        obtain ⟨hPc, hDc, hFc⟩ := zo_sub (wc := [_, _, _, _, _]) hP hD hS hA [0, 1, 2, 3, 4] (by decide +kernel) rfl
        refine zcall (st1 := []) (va_runV (As := [.int (nI f), .int (nI i), .int 0]) (rest := []) ⟨hx, hb, hml, hown, hts⟩ (k_M_edge l dC dI cI cZ cF H.size k0 a I0 J0 f n i 0 mn cx cy S1 (by first | with_reducible assumption | omega) (by first | with_reducible assumption | assumption) (by first | with_reducible assumption | omega) (by first | with_reducible assumption | omega) (by first | with_reducible assumption | omega)) (csV_167 hts rfl rfl ⟨Nat.le_of_ble_eq_true rfl, Nat.le_of_ble_eq_true rfl⟩) (zPV2 (q0 := 0) (ci := 9) hPc hDc hK hXN rfl rfl) rfl rfl hl.1 rfl (lv_room (Nat.le_of_ble_eq_true rfl)) dX11_area_21 ⟨Nat.le_of_ble_eq_true rfl, Nat.le_of_ble_eq_true rfl⟩) hS hFc hFc rfl (fun t H locs ht hB hk1 hS => ?_)
        obtain ⟨S2, t0, t1, t2, t3, tr, hP1, hD1⟩ := hB
        rw [ht] at hP1
        obtain ⟨hP, hD⟩ := zn (W2 := [_, _, _, _, (oa (a 32) cI 8 S2)]) hP hD hk1 hFc hP1 hD1 [0, 1, 2, 3, 4] [] [false, false, false, false, false] [0, 1, 2, 3, 4] (by decide +kernel) rfl rfl rfl rfl rfl
        clear hk1 hPc hDc hFc hP1 hD1 ht
        have v0 : S2 0 = cF40 cx f i := t0
        have v1 : S2 1 = cF40 cy f i := t1
        have v2 : S2 2 = cF40 cx f (nxt n i) := t2
        have v3 : S2 3 = cF40 cy f (nxt n i) := t3
        refine lv_lload_n hx hb dX11_area_24 rfl (lv_at hl 1 rfl) ?_
        refine lv_aload_n hx hb dX11_area_25 rfl (lv_at hl 2 rfl) ?_
        refine va_get (D := (dC, dI)) (ci := 9) (v := .ref (a 32)) (C := RX11) (T := TX11) (N := 55) hx hb hts inX11 hown hK hP 0 rfl rfl 32 (Nat.le_of_ble_eq_true rfl) (hts _ mw_1191) (fun _ h9 => h9) rfl dX11_area_26 ?_
        refine lv_iconst (v := 0) hx hb dX11_area_29 rfl ?_
        refine z_iald hx hb hK hP 4 0 rfl rfl (e := 0) rfl (Nat.le_of_ble_eq_true rfl) (Nat.le_of_ble_eq_true rfl) dX11_area_30 ?_
        refine zz_i (v := cF40 cx f i) (v0) ?_
        refine lv_i2l (v := (cF40 cx f i).toInt64) hx hb dX11_area_31 (rfl) ?_
        refine lv_aload_n hx hb dX11_area_32 rfl (lv_at hl 2 rfl) ?_
        refine va_get (D := (dC, dI)) (ci := 9) (v := .ref (a 32)) (C := RX11) (T := TX11) (N := 55) hx hb hts inX11 hown hK hP 0 rfl rfl 32 (Nat.le_of_ble_eq_true rfl) (hts _ mw_1191) (fun _ h9 => h9) rfl dX11_area_33 ?_
        refine lv_iconst (v := 3) hx hb dX11_area_36 rfl ?_
        refine z_iald hx hb hK hP 4 0 rfl rfl (e := 3) rfl (Nat.le_of_ble_eq_true rfl) (Nat.le_of_ble_eq_true rfl) dX11_area_37 ?_
        refine zz_i (v := cF40 cy f (nxt n i)) (v3) ?_
        refine lv_i2l (v := (cF40 cy f (nxt n i)).toInt64) hx hb dX11_area_38 (rfl) ?_
        refine lv_lmul hx hb dX11_area_39 ?_
        refine lv_aload_n hx hb dX11_area_40 rfl (lv_at hl 2 rfl) ?_
        refine va_get (D := (dC, dI)) (ci := 9) (v := .ref (a 32)) (C := RX11) (T := TX11) (N := 55) hx hb hts inX11 hown hK hP 0 rfl rfl 32 (Nat.le_of_ble_eq_true rfl) (hts _ mw_1191) (fun _ h9 => h9) rfl dX11_area_41 ?_
        refine lv_iconst (v := 2) hx hb dX11_area_44 rfl ?_
        refine z_iald hx hb hK hP 4 0 rfl rfl (e := 2) rfl (Nat.le_of_ble_eq_true rfl) (Nat.le_of_ble_eq_true rfl) dX11_area_45 ?_
        refine zz_i (v := cF40 cx f (nxt n i)) (v2) ?_
        refine lv_i2l (v := (cF40 cx f (nxt n i)).toInt64) hx hb dX11_area_46 (rfl) ?_
        refine lv_aload_n hx hb dX11_area_47 rfl (lv_at hl 2 rfl) ?_
        refine va_get (D := (dC, dI)) (ci := 9) (v := .ref (a 32)) (C := RX11) (T := TX11) (N := 55) hx hb hts inX11 hown hK hP 0 rfl rfl 32 (Nat.le_of_ble_eq_true rfl) (hts _ mw_1191) (fun _ h9 => h9) rfl dX11_area_48 ?_
        refine lv_iconst (v := 1) hx hb dX11_area_51 rfl ?_
        refine z_iald hx hb hK hP 4 0 rfl rfl (e := 1) rfl (Nat.le_of_ble_eq_true rfl) (Nat.le_of_ble_eq_true rfl) dX11_area_52 ?_
        refine zz_i (v := cF40 cy f i) (v1) ?_
        refine lv_i2l (v := (cF40 cy f i).toInt64) hx hb dX11_area_53 (rfl) ?_
        refine lv_lmul hx hb dX11_area_54 ?_
        refine lv_lsub hx hb dX11_area_55 ?_
        refine zz_l (v := jI ((cF40 cx f i).toInt * (cF40 cy f (nxt n i)).toInt - (cF40 cx f (nxt n i)).toInt * (cF40 cy f i).toInt)) (xyL (hp_f i hin9).1 (hp_f _ hnx).2 (hp_f _ hnx).1 (hp_f i hin9).2) ?_
        refine lv_ladd hx hb dX11_area_56 ?_
        refine zz_l (v := jI (ar2 n (cF40 cx f) (cF40 cy f) i + ((cF40 cx f i).toInt * (cF40 cy f (nxt n i)).toInt - (cF40 cx f (nxt n i)).toInt * (cF40 cy f i).toInt))) (jI_add (by omega) (by omega)) ?_
        refine lv_lstore_n (lv' := [(2, .long (jI (ar2 n (cF40 cx f) (cF40 cy f) i + ((cF40 cx f i).toInt * (cF40 cy f (nxt n i)).toInt - (cF40 cx f (nxt n i)).toInt * (cF40 cy f i).toInt)))), (4, .int (nI i)), (0, .ref k0), (1, .int (nI f))]) hx hb dX11_area_57 rfl hl (Nat.le_of_ble_eq_true rfl) rfl (fun ls hl => ?_)
        refine lv_iinc (v := nI (i + 1)) (lv' := [(4, .int (nI (i + 1))), (2, .long (jI (ar2 n (cF40 cx f) (cF40 cy f) i + ((cF40 cx f i).toInt * (cF40 cy f (nxt n i)).toInt - (cF40 cx f (nxt n i)).toInt * (cF40 cy f i).toInt)))), (0, .ref k0), (1, .int (nI f))]) hx hb dX11_area_58 hl (k := 1) rfl (nI_add i 1) (Nat.le_of_ble_eq_true rfl) rfl (fun ls hl => ?_)
        refine lv_goto (tgt := 5) hx hb dX11_area_61 rfl ?_
        have hl9 := lv_sub hl [0, 1, 2, 3] rfl
        have e9_2 : jI (ar2 n (cF40 cx f) (cF40 cy f) (i + 1)) = (jI (ar2 n (cF40 cx f) (cF40 cy f) i + ((cF40 cx f i).toInt * (cF40 cy f (nxt n i)).toInt - (cF40 cx f (nxt n i)).toInt * (cF40 cy f i).toInt)) : Int64) := by rfl
        have hl9 : lv_has ls 5 [(4, .int (nI (i + 1))), (2, .long (jI (ar2 n (cF40 cx f) (cF40 cy f) (i + 1)))), (0, .ref k0), (1, .int (nI f))] := by rw [e9_2]; exact hl9
        exact ih_5 (i + 1) S2 H locs ls (by first | with_reducible assumption | omega) (by first | with_reducible assumption | omega) hP hD hS hl9
  have e9_2 : jI (ar2 n (cF40 cx f) (cF40 cy f) 0) = (0 : Int64) := by rfl
  have hl9 : lv_has ls 5 [(4, .int (nI 0)), (2, .long (jI (ar2 n (cF40 cx f) (cF40 cy f) 0))), (0, .ref k0), (1, .int (nI f))] := by rw [e9_2]; exact lv_sub hl [0, 1, 2, 3] rfl
  exact hl_5 _ 0 S0 s.heap [] ls (Nat.lt_succ_self _) (by first | with_reducible assumption | omega) hP hD hS hl9
end
section
set_option maxHeartbeats 4000000 in
set_option maxRecDepth 100000 in
theorem k_M_isThree (l : Launch) (dC : Nat → ClassId) (dI : Nat → Nat → Nat) (cI cZ cF : ClassId) (sz : Nat) (k0 : Nat) (a : Nat → Nat) (I0 : Nat → Int32) (J0 : Nat → Int64) (e1 : Int32) (e2 : Int32) (f1 : Int32) (f2 : Int32) (w : Nat) (px : Int32) (py : Int32) (T0 : Nat → Int32) (P0 : Nat → Int32) (Q0 : Nat → Int32) (k1 : pl e1) (k2 : pl e2) (k3 : pl f1) (k4 : pl f2) (hw : w < 42) (k5 : pl (P0 w)) (k6 : pl (Q0 w)) (hpx : pl px) (hpy : pl py) : zM l yX11_isThree cX11_isThree 8 (some .boolean) ({ frames := 3, cells := 0, slots := 0, locals := 81 } : Room) [.ref k0, .int e1, .int e2, .int f1, .int f2, .int (nI w), .int px, .int py] (dC, dI) (zTy cI cZ cF) [(om k0 a I0 J0), (oa (a 40) cI 6 T0), (oa (a 29) cI 42 P0), (oa (a 30) cI 42 Q0)] sz (some (.int (pI (wtM e1.toInt e2.toInt f1.toInt f2.toInt (P0 w).toInt (Q0 w).toInt px.toInt py.toInt)))) (fun A t => ∃ (T1 : Nat → Int32), zPD (dC, dI) classes A [(om k0 a I0 J0), (oa (a 40) cI 6 T1), (oa (a 29) cI 42 P0), (oa (a 30) cI 42 Q0)] t.heap) 0 0 := by
  refine zIn (own := "ScaleShopModel") (loc := [(0, .ref k0), (1, .int e1), (2, .int e2), (3, .int f1), (4, .int f2), (5, .int (nI w)), (6, .int px), (7, .int py)]) rfl rfl rfl rfl (fun p e s m below meth c hx hb hr hts hown hlocks hml hnm9 A hA hS hP hD hK hXN Q9 hQ9 ls hl => ?_)
  refine lv_aload_n hx hb dX11_isThree_0 rfl (lv_at hl 0 rfl) ?_
  refine va_get (D := (dC, dI)) (ci := 9) (v := .ref (a 40)) (C := RX11) (T := TX11) (N := 55) hx hb hts inX11 hown hK hP 0 rfl rfl 40 (Nat.le_of_ble_eq_true rfl) (hts _ mw_1199) (fun _ h9 => h9) rfl dX11_isThree_1 ?_
  refine lv_iconst (v := 0) hx hb dX11_isThree_4 rfl ?_
  refine lv_iload_n hx hb dX11_isThree_5 rfl (lv_at hl 1 rfl) ?_
  refine z_iast hx hb hK hP hD hS 1 0 rfl rfl (e := 0) (x := e1) rfl (Nat.le_of_ble_eq_true rfl) (Nat.le_of_ble_eq_true rfl) dX11_isThree_6 (fun H locs hP hD hS => ?_)
  obtain ⟨hP, hD⟩ := zre (W2 := [_, (oa (a 40) cI 6 (upd T0 0 e1)), _, _]) hP hD rfl
  refine lv_aload_n hx hb dX11_isThree_7 rfl (lv_at hl 0 rfl) ?_
  refine va_get (D := (dC, dI)) (ci := 9) (v := .ref (a 40)) (C := RX11) (T := TX11) (N := 55) hx hb hts inX11 hown hK hP 0 rfl rfl 40 (Nat.le_of_ble_eq_true rfl) (hts _ mw_1199) (fun _ h9 => h9) rfl dX11_isThree_8 ?_
  refine lv_iconst (v := 1) hx hb dX11_isThree_11 rfl ?_
  refine lv_iload_n hx hb dX11_isThree_12 rfl (lv_at hl 2 rfl) ?_
  refine z_iast hx hb hK hP hD hS 1 0 rfl rfl (e := 1) (x := e2) rfl (Nat.le_of_ble_eq_true rfl) (Nat.le_of_ble_eq_true rfl) dX11_isThree_13 (fun H locs hP hD hS => ?_)
  obtain ⟨hP, hD⟩ := zre (W2 := [_, (oa (a 40) cI 6 (upd (upd T0 0 e1) 1 e2)), _, _]) hP hD rfl
  refine lv_aload_n hx hb dX11_isThree_14 rfl (lv_at hl 0 rfl) ?_
  refine va_get (D := (dC, dI)) (ci := 9) (v := .ref (a 40)) (C := RX11) (T := TX11) (N := 55) hx hb hts inX11 hown hK hP 0 rfl rfl 40 (Nat.le_of_ble_eq_true rfl) (hts _ mw_1199) (fun _ h9 => h9) rfl dX11_isThree_15 ?_
  refine lv_iconst (v := 2) hx hb dX11_isThree_18 rfl ?_
  refine lv_iload_n hx hb dX11_isThree_19 rfl (lv_at hl 3 rfl) ?_
  refine z_iast hx hb hK hP hD hS 1 0 rfl rfl (e := 2) (x := f1) rfl (Nat.le_of_ble_eq_true rfl) (Nat.le_of_ble_eq_true rfl) dX11_isThree_20 (fun H locs hP hD hS => ?_)
  obtain ⟨hP, hD⟩ := zre (W2 := [_, (oa (a 40) cI 6 (upd (upd (upd T0 0 e1) 1 e2) 2 f1)), _, _]) hP hD rfl
  refine lv_aload_n hx hb dX11_isThree_21 rfl (lv_at hl 0 rfl) ?_
  refine va_get (D := (dC, dI)) (ci := 9) (v := .ref (a 40)) (C := RX11) (T := TX11) (N := 55) hx hb hts inX11 hown hK hP 0 rfl rfl 40 (Nat.le_of_ble_eq_true rfl) (hts _ mw_1199) (fun _ h9 => h9) rfl dX11_isThree_22 ?_
  refine lv_iconst (v := 3) hx hb dX11_isThree_25 rfl ?_
  refine lv_iload hx hb dX11_isThree_26 (lv_at hl 4 rfl) ?_
  refine z_iast hx hb hK hP hD hS 1 0 rfl rfl (e := 3) (x := f2) rfl (Nat.le_of_ble_eq_true rfl) (Nat.le_of_ble_eq_true rfl) dX11_isThree_28 (fun H locs hP hD hS => ?_)
  obtain ⟨hP, hD⟩ := zre (W2 := [_, (oa (a 40) cI 6 (upd (upd (upd (upd T0 0 e1) 1 e2) 2 f1) 3 f2)), _, _]) hP hD rfl
  refine lv_aload_n hx hb dX11_isThree_29 rfl (lv_at hl 0 rfl) ?_
  refine va_get (D := (dC, dI)) (ci := 9) (v := .ref (a 40)) (C := RX11) (T := TX11) (N := 55) hx hb hts inX11 hown hK hP 0 rfl rfl 40 (Nat.le_of_ble_eq_true rfl) (hts _ mw_1199) (fun _ h9 => h9) rfl dX11_isThree_30 ?_
  refine lv_iconst (v := 4) hx hb dX11_isThree_33 rfl ?_
  refine lv_aload_n hx hb dX11_isThree_34 rfl (lv_at hl 0 rfl) ?_
  refine va_get (D := (dC, dI)) (ci := 9) (v := .ref (a 29)) (C := RX11) (T := TX11) (N := 55) hx hb hts inX11 hown hK hP 0 rfl rfl 29 (Nat.le_of_ble_eq_true rfl) (hts _ mw_1188) (fun _ h9 => h9) rfl dX11_isThree_35 ?_
  refine lv_iload hx hb dX11_isThree_38 (lv_at hl 5 rfl) ?_
  have b9_1 : w < 42 := by omega
  refine z_iald hx hb hK hP 2 0 rfl rfl (e := w) rfl b9_1 (Nat.le_of_ble_eq_true rfl) dX11_isThree_40 ?_
  refine z_iast hx hb hK hP hD hS 1 0 rfl rfl (e := 4) (x := P0 w) rfl (Nat.le_of_ble_eq_true rfl) (Nat.le_of_ble_eq_true rfl) dX11_isThree_41 (fun H locs hP hD hS => ?_)
  obtain ⟨hP, hD⟩ := zre (W2 := [_, (oa (a 40) cI 6 (upd (upd (upd (upd (upd T0 0 e1) 1 e2) 2 f1) 3 f2) 4 (P0 w))), _, _]) hP hD rfl
  refine lv_aload_n hx hb dX11_isThree_42 rfl (lv_at hl 0 rfl) ?_
  refine va_get (D := (dC, dI)) (ci := 9) (v := .ref (a 40)) (C := RX11) (T := TX11) (N := 55) hx hb hts inX11 hown hK hP 0 rfl rfl 40 (Nat.le_of_ble_eq_true rfl) (hts _ mw_1199) (fun _ h9 => h9) rfl dX11_isThree_43 ?_
  refine lv_iconst (v := 5) hx hb dX11_isThree_46 rfl ?_
  refine lv_aload_n hx hb dX11_isThree_47 rfl (lv_at hl 0 rfl) ?_
  refine va_get (D := (dC, dI)) (ci := 9) (v := .ref (a 30)) (C := RX11) (T := TX11) (N := 55) hx hb hts inX11 hown hK hP 0 rfl rfl 30 (Nat.le_of_ble_eq_true rfl) (hts _ mw_1189) (fun _ h9 => h9) rfl dX11_isThree_48 ?_
  refine lv_iload hx hb dX11_isThree_51 (lv_at hl 5 rfl) ?_
  refine z_iald hx hb hK hP 3 0 rfl rfl (e := w) rfl b9_1 (Nat.le_of_ble_eq_true rfl) dX11_isThree_53 ?_
  refine z_iast hx hb hK hP hD hS 1 0 rfl rfl (e := 5) (x := Q0 w) rfl (Nat.le_of_ble_eq_true rfl) (Nat.le_of_ble_eq_true rfl) dX11_isThree_54 (fun H locs hP hD hS => ?_)
  obtain ⟨hP, hD⟩ := zre (W2 := [_, (oa (a 40) cI 6 (upd (upd (upd (upd (upd (upd T0 0 e1) 1 e2) 2 f1) 3 f2) 4 (P0 w)) 5 (Q0 w))), _, _]) hP hD rfl
  refine lv_aload_n hx hb dX11_isThree_55 rfl (lv_at hl 0 rfl) ?_
  refine va_get (D := (dC, dI)) (ci := 9) (v := .ref (a 40)) (C := RX11) (T := TX11) (N := 55) hx hb hts inX11 hown hK hP 0 rfl rfl 40 (Nat.le_of_ble_eq_true rfl) (hts _ mw_1199) (fun _ h9 => h9) rfl dX11_isThree_56 ?_
  refine lv_iload hx hb dX11_isThree_59 (lv_at hl 6 rfl) ?_
  refine lv_iload hx hb dX11_isThree_61 (lv_at hl 7 rfl) ?_
  obtain ⟨hPc, hDc, hFc, hI1⟩ := zi_sub (wc := [_]) hP hD hS hA [1] rfl rfl
  refine zcall (st1 := [.int (pI (wtM ((upd (upd (upd (upd (upd (upd T0 0 e1) 1 e2) 2 f1) 3 f2) 4 (P0 w)) 5 (Q0 w)) 0).toInt ((upd (upd (upd (upd (upd (upd T0 0 e1) 1 e2) 2 f1) 3 f2) 4 (P0 w)) 5 (Q0 w)) 1).toInt ((upd (upd (upd (upd (upd (upd T0 0 e1) 1 e2) 2 f1) 3 f2) 4 (P0 w)) 5 (Q0 w)) 2).toInt ((upd (upd (upd (upd (upd (upd T0 0 e1) 1 e2) 2 f1) 3 f2) 4 (P0 w)) 5 (Q0 w)) 3).toInt ((upd (upd (upd (upd (upd (upd T0 0 e1) 1 e2) 2 f1) 3 f2) 4 (P0 w)) 5 (Q0 w)) 4).toInt ((upd (upd (upd (upd (upd (upd T0 0 e1) 1 e2) 2 f1) 3 f2) 4 (P0 w)) 5 (Q0 w)) 5).toInt px.toInt py.toInt))]) (va_runS (As := [.ref (a 40), .int px, .int py]) (rest := []) ⟨hx, hb, hml, hown, hts⟩ (k_M_isWithin l dC dI cI cZ cF H.size (a 40) (upd (upd (upd (upd (upd (upd T0 0 e1) 1 e2) 2 f1) 3 f2) 4 (P0 w)) 5 (Q0 w)) px py (tPl (T := upd (upd (upd (upd (upd (upd T0 0 e1) 1 e2) 2 f1) 3 f2) 4 (P0 w)) 5 (Q0 w)) k1 k2 k3 k4 k5 k6) (by first | with_reducible assumption | assumption) (by first | with_reducible assumption | assumption)) (csS_175 hts rfl rfl ⟨Nat.le_of_ble_eq_true rfl, Nat.le_of_ble_eq_true rfl⟩) (zPS2 hPc hDc hK hXN) rfl rfl hl.1 rfl (lv_room (Nat.le_of_ble_eq_true rfl)) dX11_isThree_63 ⟨Nat.le_of_ble_eq_true rfl, Nat.le_of_ble_eq_true rfl⟩) hS hFc hFc rfl (fun t H locs ht hB hk1 hS => ?_)
  obtain ⟨hP1, hD1⟩ := hB
  rw [ht] at hP1
  replace hP := z0 hP hD hk1 hP1 hI1
  clear hk1 hPc hDc hFc hP1 hD1 ht hI1
  refine zz_i (v := pI (wtM e1.toInt e2.toInt f1.toInt f2.toInt (P0 w).toInt (Q0 w).toInt px.toInt py.toInt)) (zp_iff Iff.rfl) ?_
  obtain ⟨hP9, hD9⟩ := zu_sub (wc := [_, _, _, _]) hP hD [true, true, true, true] rfl rfl
  rw [hQ9]
  exact W.zret (ty := .boolean) (v := pI (wtM e1.toInt e2.toInt f1.toInt f2.toInt (P0 w).toInt (Q0 w).toInt px.toInt py.toInt)) hx hb hr (zp_nar _) (fun t ht hW => ⟨⟨rfl, (upd (upd (upd (upd (upd (upd T0 0 e1) 1 e2) 2 f1) 3 f2) 4 (P0 w)) 5 (Q0 w)), by rw [ht]; exact hP9, hD9⟩, hS.F ht⟩) hS.2.2 dX11_isThree_66
set_option maxHeartbeats 4000000 in
set_option maxRecDepth 100000 in
theorem k_M_isSweptBy (l : Launch) (dC : Nat → ClassId) (dI : Nat → Nat → Nat) (cI cZ cF : ClassId) (sz : Nat) (k0 : Nat) (a : Nat → Nat) (I0 : Nat → Int32) (J0 : Nat → Int64) (b : Nat) (on : Nat) (px : Int32) (py : Int32) (T0 : Nat → Int32) (ox : Nat → Int32) (oy : Nat → Int32) (hon : I0 35 = nI on) (ho40 : on ≤ 40) (hb9 : b < on) (hpo : pls on ox oy) (hpx : pl px) (hpy : pl py) : zM l yX11_isSweptBy cX11_isSweptBy 6 (some .boolean) ({ frames := 3, cells := 0, slots := 0, locals := 81 } : Room) [.ref k0, .int (nI b), .int px, .int py] (dC, dI) (zTy cI cZ cF) [(om k0 a I0 J0), (oa (a 40) cI 6 T0), (oa (a 33) cI 42 ox), (oa (a 34) cI 42 oy)] sz (some (.int (pI (swB on ox oy b px.toInt py.toInt)))) (fun A t => ∃ (T1 : Nat → Int32), zPD (dC, dI) classes A [(om k0 a I0 J0), (oa (a 40) cI 6 T1), (oa (a 33) cI 42 ox), (oa (a 34) cI 42 oy)] t.heap) 0 0 := by
  refine zIn (own := "ScaleShopModel") (loc := [(0, .ref k0), (1, .int (nI b)), (2, .int px), (3, .int py)]) rfl rfl rfl rfl (fun p e s m below meth c hx hb hr hts hown hlocks hml hnm9 A hA hS hP hD hK hXN Q9 hQ9 ls hl => ?_)
  have hpv := prv_lt (n := on) (i := b) (by omega)
  have hnx := nxt_lt (n := on) (i := b) (by omega)
  refine lv_iload_n hx hb dX11_isSweptBy_0 rfl (lv_at hl 1 rfl) ?_
  have hj_1 : W p l e ({ frames := 3, cells := 0, slots := 0, locals := 81 } : Room) s m ([.ref k0, .int (nI b), .int px, .int py] : List Value).toArray below meth c s.heap [] 0 0 Q9 (F0 m 16 ls [.int (nI (prv on b))]) := by
    refine lv_istore (lv' := [(4, .int (nI (prv on b))), (0, .ref k0), (1, .int (nI b)), (2, .int px), (3, .int py)]) hx hb dX11_isSweptBy_16 hl (Nat.le_of_ble_eq_true rfl) rfl (fun ls hl => ?_)
    refine lv_iload_n hx hb dX11_isSweptBy_18 rfl (lv_at hl 2 rfl) ?_
    refine lv_iconst (v := 1) hx hb dX11_isSweptBy_19 rfl ?_
    refine lv_iadd hx hb dX11_isSweptBy_20 ?_
    refine zz_i (v := nI (b + 1)) (nI_add b 1) ?_
    refine lv_aload_n hx hb dX11_isSweptBy_21 rfl (lv_at hl 1 rfl) ?_
    refine va_get (D := (dC, dI)) (ci := 9) (v := .int (I0 35)) (C := RX11) (T := TX11) (N := 55) hx hb hts inX11 hown hK hP 0 rfl rfl 35 (Nat.le_of_ble_eq_true rfl) (hts _ mw_1194) (fun _ h9 => h9) rfl dX11_isSweptBy_22 ?_
    refine zz_i (v := nI on) (hon) ?_
    have hj_2 : W p l e ({ frames := 3, cells := 0, slots := 0, locals := 81 } : Room) s m ([.ref k0, .int (nI b), .int px, .int py] : List Value).toArray below meth c s.heap [] 0 0 Q9 (F0 m 35 ls [.int (nI (nxt on b))]) := by
      refine lv_istore (lv' := [(5, .int (nI (nxt on b))), (4, .int (nI (prv on b))), (0, .ref k0), (1, .int (nI b)), (2, .int px), (3, .int py)]) hx hb dX11_isSweptBy_35 hl (Nat.le_of_ble_eq_true rfl) rfl (fun ls hl => ?_)
      have hj_3 : (¬ (px.toInt = (ox (prv on b)).toInt ∧ py.toInt = (oy (prv on b)).toInt) ∧ ¬ (px.toInt = (ox (nxt on b)).toInt ∧ py.toInt = (oy (nxt on b)).toInt)) → W p l e ({ frames := 3, cells := 0, slots := 0, locals := 81 } : Room) s m ([.ref k0, .int (nI b), .int px, .int py] : List Value).toArray below meth c s.heap [] 0 0 Q9 (F0 m 83 ls []) := by
        intro hsp
        refine lv_aload_n hx hb dX11_isSweptBy_83 rfl (lv_at hl 2 rfl) ?_
        refine va_get (D := (dC, dI)) (ci := 9) (v := .ref (a 40)) (C := RX11) (T := TX11) (N := 55) hx hb hts inX11 hown hK hP 0 rfl rfl 40 (Nat.le_of_ble_eq_true rfl) (hts _ mw_1199) (fun _ h9 => h9) rfl dX11_isSweptBy_84 ?_
        refine lv_iconst (v := 0) hx hb dX11_isSweptBy_87 rfl ?_
        refine lv_aload_n hx hb dX11_isSweptBy_88 rfl (lv_at hl 2 rfl) ?_
        refine va_get (D := (dC, dI)) (ci := 9) (v := .ref (a 33)) (C := RX11) (T := TX11) (N := 55) hx hb hts inX11 hown hK hP 0 rfl rfl 33 (Nat.le_of_ble_eq_true rfl) (hts _ mw_1192) (fun _ h9 => h9) rfl dX11_isSweptBy_89 ?_
        refine lv_iload hx hb dX11_isSweptBy_92 (lv_at hl 1 rfl) ?_
        have b9_4 : prv on b < 42 := by omega
        refine z_iald hx hb hK hP 2 0 rfl rfl (e := prv on b) rfl b9_4 (Nat.le_of_ble_eq_true rfl) dX11_isSweptBy_94 ?_
        refine z_iast hx hb hK hP hD hS 1 0 rfl rfl (e := 0) (x := ox (prv on b)) rfl (Nat.le_of_ble_eq_true rfl) (Nat.le_of_ble_eq_true rfl) dX11_isSweptBy_95 (fun H locs hP hD hS => ?_)
        obtain ⟨hP, hD⟩ := zre (W2 := [_, (oa (a 40) cI 6 (upd T0 0 (ox (prv on b)))), _, _]) hP hD rfl
        refine lv_aload_n hx hb dX11_isSweptBy_96 rfl (lv_at hl 2 rfl) ?_
        refine va_get (D := (dC, dI)) (ci := 9) (v := .ref (a 40)) (C := RX11) (T := TX11) (N := 55) hx hb hts inX11 hown hK hP 0 rfl rfl 40 (Nat.le_of_ble_eq_true rfl) (hts _ mw_1199) (fun _ h9 => h9) rfl dX11_isSweptBy_97 ?_
        refine lv_iconst (v := 1) hx hb dX11_isSweptBy_100 rfl ?_
        refine lv_aload_n hx hb dX11_isSweptBy_101 rfl (lv_at hl 2 rfl) ?_
        refine va_get (D := (dC, dI)) (ci := 9) (v := .ref (a 34)) (C := RX11) (T := TX11) (N := 55) hx hb hts inX11 hown hK hP 0 rfl rfl 34 (Nat.le_of_ble_eq_true rfl) (hts _ mw_1193) (fun _ h9 => h9) rfl dX11_isSweptBy_102 ?_
        refine lv_iload hx hb dX11_isSweptBy_105 (lv_at hl 1 rfl) ?_
        refine z_iald hx hb hK hP 3 0 rfl rfl (e := prv on b) rfl b9_4 (Nat.le_of_ble_eq_true rfl) dX11_isSweptBy_107 ?_
        refine z_iast hx hb hK hP hD hS 1 0 rfl rfl (e := 1) (x := oy (prv on b)) rfl (Nat.le_of_ble_eq_true rfl) (Nat.le_of_ble_eq_true rfl) dX11_isSweptBy_108 (fun H locs hP hD hS => ?_)
        obtain ⟨hP, hD⟩ := zre (W2 := [_, (oa (a 40) cI 6 (upd (upd T0 0 (ox (prv on b))) 1 (oy (prv on b)))), _, _]) hP hD rfl
        refine lv_aload_n hx hb dX11_isSweptBy_109 rfl (lv_at hl 2 rfl) ?_
        refine va_get (D := (dC, dI)) (ci := 9) (v := .ref (a 40)) (C := RX11) (T := TX11) (N := 55) hx hb hts inX11 hown hK hP 0 rfl rfl 40 (Nat.le_of_ble_eq_true rfl) (hts _ mw_1199) (fun _ h9 => h9) rfl dX11_isSweptBy_110 ?_
        refine lv_iconst (v := 2) hx hb dX11_isSweptBy_113 rfl ?_
        refine lv_aload_n hx hb dX11_isSweptBy_114 rfl (lv_at hl 2 rfl) ?_
        refine va_get (D := (dC, dI)) (ci := 9) (v := .ref (a 33)) (C := RX11) (T := TX11) (N := 55) hx hb hts inX11 hown hK hP 0 rfl rfl 33 (Nat.le_of_ble_eq_true rfl) (hts _ mw_1192) (fun _ h9 => h9) rfl dX11_isSweptBy_115 ?_
        refine lv_iload_n hx hb dX11_isSweptBy_118 rfl (lv_at hl 3 rfl) ?_
        have b9_5 : b < 42 := by omega
        refine z_iald hx hb hK hP 2 0 rfl rfl (e := b) rfl b9_5 (Nat.le_of_ble_eq_true rfl) dX11_isSweptBy_119 ?_
        refine z_iast hx hb hK hP hD hS 1 0 rfl rfl (e := 2) (x := ox b) rfl (Nat.le_of_ble_eq_true rfl) (Nat.le_of_ble_eq_true rfl) dX11_isSweptBy_120 (fun H locs hP hD hS => ?_)
        obtain ⟨hP, hD⟩ := zre (W2 := [_, (oa (a 40) cI 6 (upd (upd (upd T0 0 (ox (prv on b))) 1 (oy (prv on b))) 2 (ox b))), _, _]) hP hD rfl
        refine lv_aload_n hx hb dX11_isSweptBy_121 rfl (lv_at hl 2 rfl) ?_
        refine va_get (D := (dC, dI)) (ci := 9) (v := .ref (a 40)) (C := RX11) (T := TX11) (N := 55) hx hb hts inX11 hown hK hP 0 rfl rfl 40 (Nat.le_of_ble_eq_true rfl) (hts _ mw_1199) (fun _ h9 => h9) rfl dX11_isSweptBy_122 ?_
        refine lv_iconst (v := 3) hx hb dX11_isSweptBy_125 rfl ?_
        refine lv_aload_n hx hb dX11_isSweptBy_126 rfl (lv_at hl 2 rfl) ?_
        refine va_get (D := (dC, dI)) (ci := 9) (v := .ref (a 34)) (C := RX11) (T := TX11) (N := 55) hx hb hts inX11 hown hK hP 0 rfl rfl 34 (Nat.le_of_ble_eq_true rfl) (hts _ mw_1193) (fun _ h9 => h9) rfl dX11_isSweptBy_127 ?_
        refine lv_iload_n hx hb dX11_isSweptBy_130 rfl (lv_at hl 3 rfl) ?_
        refine z_iald hx hb hK hP 3 0 rfl rfl (e := b) rfl b9_5 (Nat.le_of_ble_eq_true rfl) dX11_isSweptBy_131 ?_
        refine z_iast hx hb hK hP hD hS 1 0 rfl rfl (e := 3) (x := oy b) rfl (Nat.le_of_ble_eq_true rfl) (Nat.le_of_ble_eq_true rfl) dX11_isSweptBy_132 (fun H locs hP hD hS => ?_)
        obtain ⟨hP, hD⟩ := zre (W2 := [_, (oa (a 40) cI 6 (upd (upd (upd (upd T0 0 (ox (prv on b))) 1 (oy (prv on b))) 2 (ox b)) 3 (oy b))), _, _]) hP hD rfl
        refine lv_aload_n hx hb dX11_isSweptBy_133 rfl (lv_at hl 2 rfl) ?_
        refine va_get (D := (dC, dI)) (ci := 9) (v := .ref (a 40)) (C := RX11) (T := TX11) (N := 55) hx hb hts inX11 hown hK hP 0 rfl rfl 40 (Nat.le_of_ble_eq_true rfl) (hts _ mw_1199) (fun _ h9 => h9) rfl dX11_isSweptBy_134 ?_
        refine lv_iconst (v := 4) hx hb dX11_isSweptBy_137 rfl ?_
        refine lv_aload_n hx hb dX11_isSweptBy_138 rfl (lv_at hl 2 rfl) ?_
        refine va_get (D := (dC, dI)) (ci := 9) (v := .ref (a 33)) (C := RX11) (T := TX11) (N := 55) hx hb hts inX11 hown hK hP 0 rfl rfl 33 (Nat.le_of_ble_eq_true rfl) (hts _ mw_1192) (fun _ h9 => h9) rfl dX11_isSweptBy_139 ?_
        refine lv_iload hx hb dX11_isSweptBy_142 (lv_at hl 0 rfl) ?_
        have b9_6 : nxt on b < 42 := by omega
        refine z_iald hx hb hK hP 2 0 rfl rfl (e := nxt on b) rfl b9_6 (Nat.le_of_ble_eq_true rfl) dX11_isSweptBy_144 ?_
        refine z_iast hx hb hK hP hD hS 1 0 rfl rfl (e := 4) (x := ox (nxt on b)) rfl (Nat.le_of_ble_eq_true rfl) (Nat.le_of_ble_eq_true rfl) dX11_isSweptBy_145 (fun H locs hP hD hS => ?_)
        obtain ⟨hP, hD⟩ := zre (W2 := [_, (oa (a 40) cI 6 (upd (upd (upd (upd (upd T0 0 (ox (prv on b))) 1 (oy (prv on b))) 2 (ox b)) 3 (oy b)) 4 (ox (nxt on b)))), _, _]) hP hD rfl
        refine lv_aload_n hx hb dX11_isSweptBy_146 rfl (lv_at hl 2 rfl) ?_
        refine va_get (D := (dC, dI)) (ci := 9) (v := .ref (a 40)) (C := RX11) (T := TX11) (N := 55) hx hb hts inX11 hown hK hP 0 rfl rfl 40 (Nat.le_of_ble_eq_true rfl) (hts _ mw_1199) (fun _ h9 => h9) rfl dX11_isSweptBy_147 ?_
        refine lv_iconst (v := 5) hx hb dX11_isSweptBy_150 rfl ?_
        refine lv_aload_n hx hb dX11_isSweptBy_151 rfl (lv_at hl 2 rfl) ?_
        refine va_get (D := (dC, dI)) (ci := 9) (v := .ref (a 34)) (C := RX11) (T := TX11) (N := 55) hx hb hts inX11 hown hK hP 0 rfl rfl 34 (Nat.le_of_ble_eq_true rfl) (hts _ mw_1193) (fun _ h9 => h9) rfl dX11_isSweptBy_152 ?_
        refine lv_iload hx hb dX11_isSweptBy_155 (lv_at hl 0 rfl) ?_
        refine z_iald hx hb hK hP 3 0 rfl rfl (e := nxt on b) rfl b9_6 (Nat.le_of_ble_eq_true rfl) dX11_isSweptBy_157 ?_
        refine z_iast hx hb hK hP hD hS 1 0 rfl rfl (e := 5) (x := oy (nxt on b)) rfl (Nat.le_of_ble_eq_true rfl) (Nat.le_of_ble_eq_true rfl) dX11_isSweptBy_158 (fun H locs hP hD hS => ?_)
        obtain ⟨hP, hD⟩ := zre (W2 := [_, (oa (a 40) cI 6 (upd (upd (upd (upd (upd (upd T0 0 (ox (prv on b))) 1 (oy (prv on b))) 2 (ox b)) 3 (oy b)) 4 (ox (nxt on b))) 5 (oy (nxt on b)))), _, _]) hP hD rfl
        refine lv_aload_n hx hb dX11_isSweptBy_159 rfl (lv_at hl 2 rfl) ?_
        refine va_get (D := (dC, dI)) (ci := 9) (v := .ref (a 40)) (C := RX11) (T := TX11) (N := 55) hx hb hts inX11 hown hK hP 0 rfl rfl 40 (Nat.le_of_ble_eq_true rfl) (hts _ mw_1199) (fun _ h9 => h9) rfl dX11_isSweptBy_160 ?_
        refine lv_iload_n hx hb dX11_isSweptBy_163 rfl (lv_at hl 4 rfl) ?_
        refine lv_iload_n hx hb dX11_isSweptBy_164 rfl (lv_at hl 5 rfl) ?_
        obtain ⟨hPc, hDc, hFc, hI1⟩ := zi_sub (wc := [_]) hP hD hS hA [1] rfl rfl
        refine zcall (st1 := [.int (pI (wtM ((upd (upd (upd (upd (upd (upd T0 0 (ox (prv on b))) 1 (oy (prv on b))) 2 (ox b)) 3 (oy b)) 4 (ox (nxt on b))) 5 (oy (nxt on b))) 0).toInt ((upd (upd (upd (upd (upd (upd T0 0 (ox (prv on b))) 1 (oy (prv on b))) 2 (ox b)) 3 (oy b)) 4 (ox (nxt on b))) 5 (oy (nxt on b))) 1).toInt ((upd (upd (upd (upd (upd (upd T0 0 (ox (prv on b))) 1 (oy (prv on b))) 2 (ox b)) 3 (oy b)) 4 (ox (nxt on b))) 5 (oy (nxt on b))) 2).toInt ((upd (upd (upd (upd (upd (upd T0 0 (ox (prv on b))) 1 (oy (prv on b))) 2 (ox b)) 3 (oy b)) 4 (ox (nxt on b))) 5 (oy (nxt on b))) 3).toInt ((upd (upd (upd (upd (upd (upd T0 0 (ox (prv on b))) 1 (oy (prv on b))) 2 (ox b)) 3 (oy b)) 4 (ox (nxt on b))) 5 (oy (nxt on b))) 4).toInt ((upd (upd (upd (upd (upd (upd T0 0 (ox (prv on b))) 1 (oy (prv on b))) 2 (ox b)) 3 (oy b)) 4 (ox (nxt on b))) 5 (oy (nxt on b))) 5).toInt px.toInt py.toInt))]) (va_runS (As := [.ref (a 40), .int px, .int py]) (rest := []) ⟨hx, hb, hml, hown, hts⟩ (k_M_isWithin l dC dI cI cZ cF H.size (a 40) (upd (upd (upd (upd (upd (upd T0 0 (ox (prv on b))) 1 (oy (prv on b))) 2 (ox b)) 3 (oy b)) 4 (ox (nxt on b))) 5 (oy (nxt on b))) px py (tPl (T := upd (upd (upd (upd (upd (upd T0 0 (ox (prv on b))) 1 (oy (prv on b))) 2 (ox b)) 3 (oy b)) 4 (ox (nxt on b))) 5 (oy (nxt on b))) (hpo _ hpv).1 (hpo _ hpv).2 (hpo b hb9).1 (hpo b hb9).2 (hpo _ hnx).1 (hpo _ hnx).2) (by first | with_reducible assumption | assumption) (by first | with_reducible assumption | assumption)) (csS_175 hts rfl rfl ⟨Nat.le_of_ble_eq_true rfl, Nat.le_of_ble_eq_true rfl⟩) (zPS2 hPc hDc hK hXN) rfl rfl hl.1 rfl (lv_room (Nat.le_of_ble_eq_true rfl)) dX11_isSweptBy_165 ⟨Nat.le_of_ble_eq_true rfl, Nat.le_of_ble_eq_true rfl⟩) hS hFc hFc rfl (fun t H locs ht hB hk1 hS => ?_)
        obtain ⟨hP1, hD1⟩ := hB
        rw [ht] at hP1
        replace hP := z0 hP hD hk1 hP1 hI1
        clear hk1 hPc hDc hFc hP1 hD1 ht hI1
        refine zz_i (v := pI (wtM (ox (prv on b)).toInt (oy (prv on b)).toInt (ox b).toInt (oy b).toInt (ox (nxt on b)).toInt (oy (nxt on b)).toInt px.toInt py.toInt)) (zp_iff Iff.rfl) ?_
        obtain ⟨hP9, hD9⟩ := zu_sub (wc := [_, _, _, _]) hP hD [true, true, true, true] rfl rfl
        rw [hQ9]
        exact W.zret (ty := .boolean) (v := pI (wtM (ox (prv on b)).toInt (oy (prv on b)).toInt (ox b).toInt (oy b).toInt (ox (nxt on b)).toInt (oy (nxt on b)).toInt px.toInt py.toInt)) hx hb hr (zp_nar _) (fun t ht hW => ⟨⟨congrArg (fun z => Outcome.returned (some (Value.int z))) (show (pI (wtM (ox (prv on b)).toInt (oy (prv on b)).toInt (ox b).toInt (oy b).toInt (ox (nxt on b)).toInt (oy (nxt on b)).toInt px.toInt py.toInt) : Int32) = pI (swB on ox oy b px.toInt py.toInt) from zp_iff ⟨fun h => ⟨hsp.1, hsp.2, h⟩, fun h => h.2.2⟩), (upd (upd (upd (upd (upd (upd T0 0 (ox (prv on b))) 1 (oy (prv on b))) 2 (ox b)) 3 (oy b)) 4 (ox (nxt on b))) 5 (oy (nxt on b))), by rw [ht]; exact hP9, hD9⟩, hS.F ht⟩) hS.2.2 dX11_isSweptBy_168
      refine lv_iload_n hx hb dX11_isSweptBy_37 rfl (lv_at hl 4 rfl) ?_
      refine lv_aload_n hx hb dX11_isSweptBy_38 rfl (lv_at hl 2 rfl) ?_
      refine va_get (D := (dC, dI)) (ci := 9) (v := .ref (a 33)) (C := RX11) (T := TX11) (N := 55) hx hb hts inX11 hown hK hP 0 rfl rfl 33 (Nat.le_of_ble_eq_true rfl) (hts _ mw_1192) (fun _ h9 => h9) rfl dX11_isSweptBy_39 ?_
      refine lv_iload hx hb dX11_isSweptBy_42 (lv_at hl 1 rfl) ?_
      have b9_7 : prv on b < 42 := by omega
      refine z_iald hx hb hK hP 2 0 rfl rfl (e := prv on b) rfl b9_7 (Nat.le_of_ble_eq_true rfl) dX11_isSweptBy_44 ?_
      refine lv_icmp_ne (tgt := 59) hx hb dX11_isSweptBy_45 rfl (fun c_8 => ?_) (fun c_8 => ?_)
      · have c_8 : ¬ px.toInt = (ox (prv on b)).toInt := zc_ne rfl rfl c_8
        refine lv_iload_n hx hb dX11_isSweptBy_59 rfl (lv_at hl 4 rfl) ?_
        refine lv_aload_n hx hb dX11_isSweptBy_60 rfl (lv_at hl 2 rfl) ?_
        refine va_get (D := (dC, dI)) (ci := 9) (v := .ref (a 33)) (C := RX11) (T := TX11) (N := 55) hx hb hts inX11 hown hK hP 0 rfl rfl 33 (Nat.le_of_ble_eq_true rfl) (hts _ mw_1192) (fun _ h9 => h9) rfl dX11_isSweptBy_61 ?_
        refine lv_iload hx hb dX11_isSweptBy_64 (lv_at hl 0 rfl) ?_
        have b9_9 : nxt on b < 42 := by omega
        refine z_iald hx hb hK hP 2 0 rfl rfl (e := nxt on b) rfl b9_9 (Nat.le_of_ble_eq_true rfl) dX11_isSweptBy_66 ?_
        refine lv_icmp_ne (tgt := 83) hx hb dX11_isSweptBy_67 rfl (fun c_10 => ?_) (fun c_10 => ?_)
        · have c_10 : ¬ px.toInt = (ox (nxt on b)).toInt := zc_ne rfl rfl c_10
          exact hj_3 (by omega)
        · have c_10 : px.toInt = (ox (nxt on b)).toInt := zc_eq rfl rfl c_10
          refine lv_iload_n hx hb dX11_isSweptBy_70 rfl (lv_at hl 5 rfl) ?_
          refine lv_aload_n hx hb dX11_isSweptBy_71 rfl (lv_at hl 2 rfl) ?_
          refine va_get (D := (dC, dI)) (ci := 9) (v := .ref (a 34)) (C := RX11) (T := TX11) (N := 55) hx hb hts inX11 hown hK hP 0 rfl rfl 34 (Nat.le_of_ble_eq_true rfl) (hts _ mw_1193) (fun _ h9 => h9) rfl dX11_isSweptBy_72 ?_
          refine lv_iload hx hb dX11_isSweptBy_75 (lv_at hl 0 rfl) ?_
          refine z_iald hx hb hK hP 3 0 rfl rfl (e := nxt on b) rfl b9_9 (Nat.le_of_ble_eq_true rfl) dX11_isSweptBy_77 ?_
          refine lv_icmp_ne (tgt := 83) hx hb dX11_isSweptBy_78 rfl (fun c_11 => ?_) (fun c_11 => ?_)
          · have c_11 : ¬ py.toInt = (oy (nxt on b)).toInt := zc_ne rfl rfl c_11
            exact hj_3 (by omega)
          · have c_11 : py.toInt = (oy (nxt on b)).toInt := zc_eq rfl rfl c_11
            refine lv_iconst (v := 0) hx hb dX11_isSweptBy_81 rfl ?_
            obtain ⟨hP9, hD9⟩ := zu_sub (wc := [_, _, _, _]) hP hD [true, true, true, true] rfl rfl
            rw [hQ9]
            exact W.zret (ty := .boolean) (v := 0) hx hb hr (rfl) (fun t ht hW => ⟨⟨congrArg (fun z => Outcome.returned (some (Value.int z))) (show (0 : Int32) = pI (swB on ox oy b px.toInt py.toInt) from (zp_f (by unfold swB; omega)).symm), T0, by rw [ht]; exact hP9, hD9⟩, hS.F ht⟩) hS.2.2 dX11_isSweptBy_82
      · have c_8 : px.toInt = (ox (prv on b)).toInt := zc_eq rfl rfl c_8
        refine lv_iload_n hx hb dX11_isSweptBy_48 rfl (lv_at hl 5 rfl) ?_
        refine lv_aload_n hx hb dX11_isSweptBy_49 rfl (lv_at hl 2 rfl) ?_
        refine va_get (D := (dC, dI)) (ci := 9) (v := .ref (a 34)) (C := RX11) (T := TX11) (N := 55) hx hb hts inX11 hown hK hP 0 rfl rfl 34 (Nat.le_of_ble_eq_true rfl) (hts _ mw_1193) (fun _ h9 => h9) rfl dX11_isSweptBy_50 ?_
        refine lv_iload hx hb dX11_isSweptBy_53 (lv_at hl 1 rfl) ?_
        refine z_iald hx hb hK hP 3 0 rfl rfl (e := prv on b) rfl b9_7 (Nat.le_of_ble_eq_true rfl) dX11_isSweptBy_55 ?_
        refine lv_icmp_eq (tgt := 81) hx hb dX11_isSweptBy_56 rfl (fun c_12 => ?_) (fun c_12 => ?_)
        · have c_12 : py.toInt = (oy (prv on b)).toInt := zc_eq rfl rfl c_12
          refine lv_iconst (v := 0) hx hb dX11_isSweptBy_81 rfl ?_
          obtain ⟨hP9, hD9⟩ := zu_sub (wc := [_, _, _, _]) hP hD [true, true, true, true] rfl rfl
          rw [hQ9]
          exact W.zret (ty := .boolean) (v := 0) hx hb hr (rfl) (fun t ht hW => ⟨⟨congrArg (fun z => Outcome.returned (some (Value.int z))) (show (0 : Int32) = pI (swB on ox oy b px.toInt py.toInt) from (zp_f (by unfold swB; omega)).symm), T0, by rw [ht]; exact hP9, hD9⟩, hS.F ht⟩) hS.2.2 dX11_isSweptBy_82
        · have c_12 : ¬ py.toInt = (oy (prv on b)).toInt := zc_ne rfl rfl c_12
          refine lv_iload_n hx hb dX11_isSweptBy_59 rfl (lv_at hl 4 rfl) ?_
          refine lv_aload_n hx hb dX11_isSweptBy_60 rfl (lv_at hl 2 rfl) ?_
          refine va_get (D := (dC, dI)) (ci := 9) (v := .ref (a 33)) (C := RX11) (T := TX11) (N := 55) hx hb hts inX11 hown hK hP 0 rfl rfl 33 (Nat.le_of_ble_eq_true rfl) (hts _ mw_1192) (fun _ h9 => h9) rfl dX11_isSweptBy_61 ?_
          refine lv_iload hx hb dX11_isSweptBy_64 (lv_at hl 0 rfl) ?_
          have b9_13 : nxt on b < 42 := by omega
          refine z_iald hx hb hK hP 2 0 rfl rfl (e := nxt on b) rfl b9_13 (Nat.le_of_ble_eq_true rfl) dX11_isSweptBy_66 ?_
          refine lv_icmp_ne (tgt := 83) hx hb dX11_isSweptBy_67 rfl (fun c_14 => ?_) (fun c_14 => ?_)
          · have c_14 : ¬ px.toInt = (ox (nxt on b)).toInt := zc_ne rfl rfl c_14
            exact hj_3 (by omega)
          · have c_14 : px.toInt = (ox (nxt on b)).toInt := zc_eq rfl rfl c_14
            refine lv_iload_n hx hb dX11_isSweptBy_70 rfl (lv_at hl 5 rfl) ?_
            refine lv_aload_n hx hb dX11_isSweptBy_71 rfl (lv_at hl 2 rfl) ?_
            refine va_get (D := (dC, dI)) (ci := 9) (v := .ref (a 34)) (C := RX11) (T := TX11) (N := 55) hx hb hts inX11 hown hK hP 0 rfl rfl 34 (Nat.le_of_ble_eq_true rfl) (hts _ mw_1193) (fun _ h9 => h9) rfl dX11_isSweptBy_72 ?_
            refine lv_iload hx hb dX11_isSweptBy_75 (lv_at hl 0 rfl) ?_
            refine z_iald hx hb hK hP 3 0 rfl rfl (e := nxt on b) rfl b9_13 (Nat.le_of_ble_eq_true rfl) dX11_isSweptBy_77 ?_
            refine lv_icmp_ne (tgt := 83) hx hb dX11_isSweptBy_78 rfl (fun c_15 => ?_) (fun c_15 => ?_)
            · have c_15 : ¬ py.toInt = (oy (nxt on b)).toInt := zc_ne rfl rfl c_15
              exact hj_3 (by omega)
            · have c_15 : py.toInt = (oy (nxt on b)).toInt := zc_eq rfl rfl c_15
              refine lv_iconst (v := 0) hx hb dX11_isSweptBy_81 rfl ?_
              obtain ⟨hP9, hD9⟩ := zu_sub (wc := [_, _, _, _]) hP hD [true, true, true, true] rfl rfl
              rw [hQ9]
              exact W.zret (ty := .boolean) (v := 0) hx hb hr (rfl) (fun t ht hW => ⟨⟨congrArg (fun z => Outcome.returned (some (Value.int z))) (show (0 : Int32) = pI (swB on ox oy b px.toInt py.toInt) from (zp_f (by unfold swB; omega)).symm), T0, by rw [ht]; exact hP9, hD9⟩, hS.F ht⟩) hS.2.2 dX11_isSweptBy_82
    have b9_17 : zlt ((b + 1)) := show (b + 1) < 2147483648 by omega
    have b9_18 : zlt (on) := show on < 2147483648 by omega
    refine lv_icmp_ne (tgt := 32) hx hb dX11_isSweptBy_25 rfl (fun c_16 => ?_) (fun c_16 => ?_)
    · have c_16 : ¬ ((b + 1 : Nat) : Int) = ((on : Nat) : Int) := zc_ne (nI_toInt b9_17) (nI_toInt b9_18) c_16
      refine lv_iload_n hx hb dX11_isSweptBy_32 rfl (lv_at hl 2 rfl) ?_
      refine lv_iconst (v := 1) hx hb dX11_isSweptBy_33 rfl ?_
      refine lv_iadd hx hb dX11_isSweptBy_34 ?_
      refine zz_i (v := nI (b + 1)) (nI_add b 1) ?_
      refine zz_i (v := nI (nxt on b)) (by first | (rw [nxt, if_pos (by omega)]) | (rw [nxt, if_neg (by omega)]; first | done | rfl)) ?_
      exact hj_2 
    · have c_16 : ((b + 1 : Nat) : Int) = ((on : Nat) : Int) := zc_eq (nI_toInt b9_17) (nI_toInt b9_18) c_16
      refine lv_iconst (v := 0) hx hb dX11_isSweptBy_28 rfl ?_
      refine lv_goto (tgt := 35) hx hb dX11_isSweptBy_29 rfl ?_
      refine zz_i (v := nI (nxt on b)) (by first | (rw [nxt, if_pos (by omega)]) | (rw [nxt, if_neg (by omega)]; first | done | rfl)) ?_
      exact hj_2 
  have b9_20 : zlt (b) := show b < 2147483648 by omega
  refine lv_if_ne (tgt := 13) hx hb dX11_isSweptBy_1 rfl (fun c_19 => ?_) (fun c_19 => ?_)
  · have c_19 : ¬ ((b : Nat) : Int) = 0 := zc_ne (nI_toInt b9_20) rfl c_19
    refine lv_iload_n hx hb dX11_isSweptBy_13 rfl (lv_at hl 1 rfl) ?_
    refine lv_iconst (v := 1) hx hb dX11_isSweptBy_14 rfl ?_
    refine lv_isub hx hb dX11_isSweptBy_15 ?_
    refine zz_i (v := nI (b - 1)) (pk_sub (a := b) (b := 1) (by omega)) ?_
    refine zz_i (v := nI (prv on b)) (by first | (rw [prv, if_pos (by omega)]) | (rw [prv, if_neg (by omega)])) ?_
    exact hj_1 
  · have c_19 : ((b : Nat) : Int) = 0 := zc_eq (nI_toInt b9_20) rfl c_19
    refine lv_aload_n hx hb dX11_isSweptBy_4 rfl (lv_at hl 0 rfl) ?_
    refine va_get (D := (dC, dI)) (ci := 9) (v := .int (I0 35)) (C := RX11) (T := TX11) (N := 55) hx hb hts inX11 hown hK hP 0 rfl rfl 35 (Nat.le_of_ble_eq_true rfl) (hts _ mw_1194) (fun _ h9 => h9) rfl dX11_isSweptBy_5 ?_
    refine zz_i (v := nI on) (hon) ?_
    refine lv_iconst (v := 1) hx hb dX11_isSweptBy_8 rfl ?_
    refine lv_isub hx hb dX11_isSweptBy_9 ?_
    refine zz_i (v := nI (on - 1)) (pk_sub (a := on) (b := 1) (by omega)) ?_
    refine lv_goto (tgt := 16) hx hb dX11_isSweptBy_10 rfl ?_
    refine zz_i (v := nI (prv on b)) (by first | (rw [prv, if_pos (by omega)]) | (rw [prv, if_neg (by omega)])) ?_
    exact hj_1 
set_option maxHeartbeats 4000000 in
set_option maxRecDepth 100000 in
theorem k_M_isSwept (l : Launch) (dC : Nat → ClassId) (dI : Nat → Nat → Nat) (cI cZ cF : ClassId) (sz : Nat) (k0 : Nat) (a : Nat → Nat) (I0 : Nat → Int32) (J0 : Nat → Int64) (f : Nat) (on : Nat) (px : Int32) (py : Int32) (kd : Nat → Int32) (mn : Nat → Int32) (cx : Nat → Int32) (cy : Nat → Int32) (T0 : Nat → Int32) (P0 : Nat → Int32) (Q0 : Nat → Int32) (ox : Nat → Int32) (oy : Nat → Int32) (hon : I0 35 = nI on) (ho40 : on ≤ 40) (hf_f : f ≤ 200) (hm_f : mn f = nI on) (hn_f : 1 ≤ on ∧ on ≤ 40) (hp_f : pls on (cF40 cx f) (cF40 cy f)) (hpo : pls on ox oy) (hpx : pl px) (hpy : pl py) : zM l yX11_isSwept cX11_isSwept 8 (some .boolean) ({ frames := 4, cells := 0, slots := 0, locals := 108 } : Room) [.ref k0, .int (nI f), .int px, .int py] (dC, dI) (zTy cI cZ cF) [(om k0 a I0 J0), (oa (a 1) cI 201 kd), (oa (a 11) cI 201 mn), (oa (a 12) cI 8040 cx), (oa (a 13) cI 8040 cy), (oa (a 40) cI 6 T0), (oa (a 29) cI 42 P0), (oa (a 30) cI 42 Q0), (oa (a 33) cI 42 ox), (oa (a 34) cI 42 oy)] sz (some (.int (pI (∃ e9, e9 < eO (kd f).toInt on ∧ swp on ox oy (cF40 cx f) (cF40 cy f) px.toInt py.toInt e9)))) (fun A t => ∃ (T1 : Nat → Int32), ∃ (P1 : Nat → Int32), ∃ (Q1 : Nat → Int32), zPD (dC, dI) classes A [(om k0 a (upd I0 31 (nI on)) J0), (oa (a 1) cI 201 kd), (oa (a 11) cI 201 mn), (oa (a 12) cI 8040 cx), (oa (a 13) cI 8040 cy), (oa (a 40) cI 6 T1), (oa (a 29) cI 42 P1), (oa (a 30) cI 42 Q1), (oa (a 33) cI 42 ox), (oa (a 34) cI 42 oy)] t.heap) 0 0 := by
  refine zIn (own := "ScaleShopModel") (loc := [(0, .ref k0), (1, .int (nI f)), (2, .int px), (3, .int py)]) rfl rfl rfl rfl (fun p e s m below meth c hx hb hr hts hown hlocks hml hnm9 A hA hS hP hD hK hXN Q9 hQ9 ls hl => ?_)
  have hef := eO_le (k := (kd f).toInt) hn_f.1
  refine lv_aload_n hx hb dX11_isSwept_0 rfl (lv_at hl 0 rfl) ?_
  refine lv_iload_n hx hb dX11_isSwept_1 rfl (lv_at hl 1 rfl) ?_
  obtain ⟨hPc, hDc, hFc⟩ := zo_sub (wc := [_, _, _, _, _, _]) hP hD hS hA [0, 2, 3, 4, 6, 7] (by decide +kernel) rfl
  refine zcall (st1 := []) (va_runV (As := [.int (nI f)]) (rest := []) ⟨hx, hb, hml, hown, hts⟩ (k_M_take l dC dI cI cZ cF s.heap.size k0 a I0 J0 f on mn cx cy P0 Q0 (by first | with_reducible assumption | omega) (by first | with_reducible assumption | assumption) (by first | with_reducible assumption | omega)) (csV_173 hts rfl rfl ⟨Nat.le_of_ble_eq_true rfl, Nat.le_of_ble_eq_true rfl⟩) (zPV2 (q0 := 0) (ci := 9) hPc hDc hK hXN rfl rfl) rfl rfl hl.1 rfl (lv_room (Nat.le_of_ble_eq_true rfl)) dX11_isSwept_2 ⟨Nat.le_of_ble_eq_true rfl, Nat.le_of_ble_eq_true rfl⟩) hS hFc hFc rfl (fun t H locs ht hB hk1 hS => ?_)
  obtain ⟨P1, Q1, hpq, hP1, hD1⟩ := hB
  rw [ht] at hP1
  obtain ⟨hP, hD⟩ := zn (W2 := [(om k0 a (upd I0 31 (nI on)) J0), _, _, _, _, _, (oa (a 29) cI 42 P1), (oa (a 30) cI 42 Q1), _, _]) hP hD hk1 hFc hP1 hD1 [0, 2, 3, 4, 6, 7] zl_143 zl_143 [0, 2, 3, 4, 6, 7] (by decide +kernel) rfl rfl rfl rfl rfl
  clear hk1 hPc hDc hFc hP1 hD1 ht
  have hP1 : pls on P1 Q1 := fun j hj => by rw [(hpq j hj).1, (hpq j hj).2]; exact hp_f j hj
  have hsw : ∀ j, j < on → (swp on ox oy P1 Q1 px.toInt py.toInt j ↔ swp on ox oy (cF40 cx f) (cF40 cy f) px.toInt py.toInt j) := fun j hj => by have hj2 := nxt_lt (n := on) (i := j) (by omega); unfold swp spr stay; rw [(hpq j hj).1, (hpq j hj).2, (hpq _ hj2).1, (hpq _ hj2).2]
  refine lv_iconst (v := 0) hx hb dX11_isSwept_5 rfl ?_
  refine lv_istore (lv' := [(4, .int 0), (0, .ref k0), (1, .int (nI f)), (2, .int px), (3, .int py)]) hx hb dX11_isSwept_6 hl (Nat.le_of_ble_eq_true rfl) rfl (fun ls hl => ?_)
  have hl_8 : ∀ (n9 : Nat) (k : Nat) (T2 : Nat → Int32) (H : Heap) (locs : List Loc) (ls : Array Slot), eO (kd f).toInt on - k < n9 → (k ≤ eO (kd f).toInt on) → (∀ j, j < k → ¬ swp on ox oy P1 Q1 px.toInt py.toInt j) → va_P (dC, dI) classes [(om k0 a (upd I0 31 (nI on)) J0), (oa (a 1) cI 201 kd), (oa (a 11) cI 201 mn), (oa (a 12) cI 8040 cx), (oa (a 13) cI 8040 cy), (oa (a 40) cI 6 T2), (oa (a 29) cI 42 P1), (oa (a 30) cI 42 Q1), (oa (a 33) cI 42 ox), (oa (a 34) cI 42 oy)] H → va_D A [(om k0 a (upd I0 31 (nI on)) J0), (oa (a 1) cI 201 kd), (oa (a 11) cI 201 mn), (oa (a 12) cI 8040 cx), (oa (a 13) cI 8040 cy), (oa (a 40) cI 6 T2), (oa (a 29) cI 42 P1), (oa (a 30) cI 42 Q1), (oa (a 33) cI 42 ox), (oa (a 34) cI 42 oy)] → va_S A s.heap H locs → lv_has ls 8 [(4, .int (nI k)), (0, .ref k0), (1, .int (nI f)), (2, .int px), (3, .int py)] → W p l e ({ frames := 4, cells := 0, slots := 0, locals := 108 } : Room) s m ([.ref k0, .int (nI f), .int px, .int py] : List Value).toArray below meth c H locs 0 0 Q9 (F0 m 8 ls []) := by
    intro n9
    induction n9 with
    | zero => intro k T2 H locs ls hm; exact absurd hm (Nat.not_lt_zero _)
    | succ n9 ih_8 =>
      intro k T2 H locs ls hm hk hno hP hD hS hl
      refine lv_iload hx hb dX11_isSwept_8 (lv_at hl 0 rfl) ?_
      refine lv_aload_n hx hb dX11_isSwept_10 rfl (lv_at hl 1 rfl) ?_
      refine lv_iload_n hx hb dX11_isSwept_11 rfl (lv_at hl 2 rfl) ?_
      obtain ⟨hPc, hDc, hFc, hI1⟩ := zi_sub (wc := [_, _, _]) hP hD hS hA [0, 1, 2] rfl rfl
      refine zcall (st1 := [.int (nI (eO (kd f).toInt on)), .int (nI k)]) (va_runV (As := [.int (nI f)]) (rest := [.int (nI k)]) ⟨hx, hb, hml, hown, hts⟩ (k_M_edgesOf l dC dI cI cZ cF H.size k0 a (upd I0 31 (nI on)) J0 f on kd mn (by first | with_reducible assumption | omega) (by first | with_reducible assumption | assumption) (by first | with_reducible assumption | omega)) (csV_166 hts rfl rfl ⟨Nat.le_of_ble_eq_true rfl, Nat.le_of_ble_eq_true rfl⟩) (zPV2 (q0 := 0) (ci := 9) hPc hDc hK hXN rfl rfl) rfl rfl hl.1 rfl (lv_room (Nat.le_of_ble_eq_true rfl)) dX11_isSwept_12 ⟨Nat.le_of_ble_eq_true rfl, Nat.le_of_ble_eq_true rfl⟩) hS hFc hFc rfl (fun t H locs ht hB hk1 hS => ?_)
      obtain ⟨hP1, hD1⟩ := hB
      rw [ht] at hP1
      replace hP := z0 hP hD hk1 hP1 hI1
      clear hk1 hPc hDc hFc hP1 hD1 ht hI1
      have b9_2 : zlt (k) := show k < 2147483648 by omega
      have b9_3 : zlt ((eO (kd f).toInt on)) := show (eO (kd f).toInt on) < 2147483648 by omega
      refine lv_icmp_ge (tgt := 274) hx hb dX11_isSwept_15 rfl (fun c_1 => ?_) (fun c_1 => ?_)
      · have c_1 : ((eO (kd f).toInt on : Nat) : Int) ≤ ((k : Nat) : Int) := zc_le (nI_toInt b9_3) (nI_toInt b9_2) c_1
        refine lv_iconst (v := 0) hx hb dX11_isSwept_274 rfl ?_
        obtain ⟨hP9, hD9⟩ := zu_sub (wc := [_, _, _, _, _, _, _, _, _, _]) hP hD [true, true, true, true, true, true, true, true, true, true] rfl rfl
        rw [hQ9]
        exact W.zret (ty := .boolean) (v := 0) hx hb hr (rfl) (fun t ht hW => ⟨⟨congrArg (fun z => Outcome.returned (some (Value.int z))) (show (0 : Int32) = pI (∃ e9, e9 < eO (kd f).toInt on ∧ swp on ox oy (cF40 cx f) (cF40 cy f) px.toInt py.toInt e9) from (zp_f (fun ⟨j, hj, h⟩ => hno j (by omega) ((hsw j (by omega)).mpr h))).symm), T2, P1, Q1, by rw [ht]; exact hP9, hD9⟩, hS.F ht⟩) hS.2.2 dX11_isSwept_275
      · have c_1 : ((k : Nat) : Int) < ((eO (kd f).toInt on : Nat) : Int) := zc_nle (nI_toInt b9_3) (nI_toInt b9_2) c_1
        have hk9 : k < on := (by omega)
        have hnx := nxt_lt (n := on) (i := k) (by omega)
        refine lv_iload hx hb dX11_isSwept_18 (lv_at hl 0 rfl) ?_
        refine lv_iconst (v := 1) hx hb dX11_isSwept_20 rfl ?_
        refine lv_iadd hx hb dX11_isSwept_21 ?_
        refine zz_i (v := nI (k + 1)) (nI_add k 1) ?_
        refine lv_aload_n hx hb dX11_isSwept_22 rfl (lv_at hl 1 rfl) ?_
        refine va_get (D := (dC, dI)) (ci := 9) (v := .int (I0 35)) (C := RX11) (T := TX11) (N := 55) hx hb hts inX11 hown hK hP 0 rfl rfl 35 (Nat.le_of_ble_eq_true rfl) (hts _ mw_1194) (fun _ h9 => h9) rfl dX11_isSwept_23 ?_
        refine zz_i (v := nI on) (hon) ?_
        have hj_4 : W p l e ({ frames := 4, cells := 0, slots := 0, locals := 108 } : Room) s m ([.ref k0, .int (nI f), .int px, .int py] : List Value).toArray below meth c H locs 0 0 Q9 (F0 m 37 ls [.int (nI (nxt on k))]) := by
          refine lv_istore (lv' := [(5, .int (nI (nxt on k))), (4, .int (nI k)), (0, .ref k0), (1, .int (nI f)), (2, .int px), (3, .int py)]) hx hb dX11_isSwept_37 hl (Nat.le_of_ble_eq_true rfl) rfl (fun ls hl => ?_)
          refine lv_aload_n hx hb dX11_isSwept_39 rfl (lv_at hl 2 rfl) ?_
          refine va_get (D := (dC, dI)) (ci := 9) (v := .ref (a 33)) (C := RX11) (T := TX11) (N := 55) hx hb hts inX11 hown hK hP 0 rfl rfl 33 (Nat.le_of_ble_eq_true rfl) (hts _ mw_1192) (fun _ h9 => h9) rfl dX11_isSwept_40 ?_
          refine lv_iload hx hb dX11_isSwept_43 (lv_at hl 1 rfl) ?_
          have b9_5 : k < 42 := by omega
          refine z_iald hx hb hK hP 8 0 rfl rfl (e := k) rfl b9_5 (Nat.le_of_ble_eq_true rfl) dX11_isSwept_45 ?_
          refine lv_aload_n hx hb dX11_isSwept_46 rfl (lv_at hl 2 rfl) ?_
          refine va_get (D := (dC, dI)) (ci := 9) (v := .ref (a 29)) (C := RX11) (T := TX11) (N := 55) hx hb hts inX11 hown hK hP 0 rfl rfl 29 (Nat.le_of_ble_eq_true rfl) (hts _ mw_1188) (fun _ h9 => h9) rfl dX11_isSwept_47 ?_
          refine lv_iload hx hb dX11_isSwept_50 (lv_at hl 1 rfl) ?_
          refine z_iald hx hb hK hP 6 0 rfl rfl (e := k) rfl b9_5 (Nat.le_of_ble_eq_true rfl) dX11_isSwept_52 ?_
          have hj_6 : W p l e ({ frames := 4, cells := 0, slots := 0, locals := 108 } : Room) s m ([.ref k0, .int (nI f), .int px, .int py] : List Value).toArray below meth c H locs 0 0 Q9 (F0 m 78 ls [.int (pI (stay ox oy P1 Q1 k))]) := by
            refine lv_istore (lv' := [(6, .int (pI (stay ox oy P1 Q1 k))), (5, .int (nI (nxt on k))), (4, .int (nI k)), (0, .ref k0), (1, .int (nI f)), (2, .int px), (3, .int py)]) hx hb dX11_isSwept_78 hl (Nat.le_of_ble_eq_true rfl) rfl (fun ls hl => ?_)
            refine lv_aload_n hx hb dX11_isSwept_80 rfl (lv_at hl 3 rfl) ?_
            refine va_get (D := (dC, dI)) (ci := 9) (v := .ref (a 33)) (C := RX11) (T := TX11) (N := 55) hx hb hts inX11 hown hK hP 0 rfl rfl 33 (Nat.le_of_ble_eq_true rfl) (hts _ mw_1192) (fun _ h9 => h9) rfl dX11_isSwept_81 ?_
            refine lv_iload hx hb dX11_isSwept_84 (lv_at hl 1 rfl) ?_
            have b9_7 : nxt on k < 42 := by omega
            refine z_iald hx hb hK hP 8 0 rfl rfl (e := nxt on k) rfl b9_7 (Nat.le_of_ble_eq_true rfl) dX11_isSwept_86 ?_
            refine lv_aload_n hx hb dX11_isSwept_87 rfl (lv_at hl 3 rfl) ?_
            refine va_get (D := (dC, dI)) (ci := 9) (v := .ref (a 29)) (C := RX11) (T := TX11) (N := 55) hx hb hts inX11 hown hK hP 0 rfl rfl 29 (Nat.le_of_ble_eq_true rfl) (hts _ mw_1188) (fun _ h9 => h9) rfl dX11_isSwept_88 ?_
            refine lv_iload hx hb dX11_isSwept_91 (lv_at hl 1 rfl) ?_
            refine z_iald hx hb hK hP 6 0 rfl rfl (e := nxt on k) rfl b9_7 (Nat.le_of_ble_eq_true rfl) dX11_isSwept_93 ?_
            have hj_8 : W p l e ({ frames := 4, cells := 0, slots := 0, locals := 108 } : Room) s m ([.ref k0, .int (nI f), .int px, .int py] : List Value).toArray below meth c H locs 0 0 Q9 (F0 m 119 ls [.int (pI (stay ox oy P1 Q1 (nxt on k)))]) := by
              refine lv_istore (lv' := [(7, .int (pI (stay ox oy P1 Q1 (nxt on k)))), (6, .int (pI (stay ox oy P1 Q1 k))), (5, .int (nI (nxt on k))), (4, .int (nI k)), (0, .ref k0), (1, .int (nI f)), (2, .int px), (3, .int py)]) hx hb dX11_isSwept_119 hl (Nat.le_of_ble_eq_true rfl) rfl (fun ls hl => ?_)
              have hj_9 : (¬ spr on ox oy P1 Q1 k px.toInt py.toInt) → W p l e ({ frames := 4, cells := 0, slots := 0, locals := 108 } : Room) s m ([.ref k0, .int (nI f), .int px, .int py] : List Value).toArray below meth c H locs 0 0 Q9 (F0 m 188 ls []) := by
                intro hsp
                refine lv_aload_n hx hb dX11_isSwept_188 rfl (lv_at hl 4 rfl) ?_
                refine lv_aload_n hx hb dX11_isSwept_189 rfl (lv_at hl 4 rfl) ?_
                refine va_get (D := (dC, dI)) (ci := 9) (v := .ref (a 33)) (C := RX11) (T := TX11) (N := 55) hx hb hts inX11 hown hK hP 0 rfl rfl 33 (Nat.le_of_ble_eq_true rfl) (hts _ mw_1192) (fun _ h9 => h9) rfl dX11_isSwept_190 ?_
                refine lv_iload hx hb dX11_isSwept_193 (lv_at hl 3 rfl) ?_
                refine z_iald hx hb hK hP 8 0 rfl rfl (e := k) rfl b9_5 (Nat.le_of_ble_eq_true rfl) dX11_isSwept_195 ?_
                refine lv_aload_n hx hb dX11_isSwept_196 rfl (lv_at hl 4 rfl) ?_
                refine va_get (D := (dC, dI)) (ci := 9) (v := .ref (a 34)) (C := RX11) (T := TX11) (N := 55) hx hb hts inX11 hown hK hP 0 rfl rfl 34 (Nat.le_of_ble_eq_true rfl) (hts _ mw_1193) (fun _ h9 => h9) rfl dX11_isSwept_197 ?_
                refine lv_iload hx hb dX11_isSwept_200 (lv_at hl 3 rfl) ?_
                refine z_iald hx hb hK hP 9 0 rfl rfl (e := k) rfl b9_5 (Nat.le_of_ble_eq_true rfl) dX11_isSwept_202 ?_
                refine lv_aload_n hx hb dX11_isSwept_203 rfl (lv_at hl 4 rfl) ?_
                refine va_get (D := (dC, dI)) (ci := 9) (v := .ref (a 33)) (C := RX11) (T := TX11) (N := 55) hx hb hts inX11 hown hK hP 0 rfl rfl 33 (Nat.le_of_ble_eq_true rfl) (hts _ mw_1192) (fun _ h9 => h9) rfl dX11_isSwept_204 ?_
                refine lv_iload hx hb dX11_isSwept_207 (lv_at hl 2 rfl) ?_
                refine z_iald hx hb hK hP 8 0 rfl rfl (e := nxt on k) rfl b9_7 (Nat.le_of_ble_eq_true rfl) dX11_isSwept_209 ?_
                refine lv_aload_n hx hb dX11_isSwept_210 rfl (lv_at hl 4 rfl) ?_
                refine va_get (D := (dC, dI)) (ci := 9) (v := .ref (a 34)) (C := RX11) (T := TX11) (N := 55) hx hb hts inX11 hown hK hP 0 rfl rfl 34 (Nat.le_of_ble_eq_true rfl) (hts _ mw_1193) (fun _ h9 => h9) rfl dX11_isSwept_211 ?_
                refine lv_iload hx hb dX11_isSwept_214 (lv_at hl 2 rfl) ?_
                refine z_iald hx hb hK hP 9 0 rfl rfl (e := nxt on k) rfl b9_7 (Nat.le_of_ble_eq_true rfl) dX11_isSwept_216 ?_
                refine lv_iload hx hb dX11_isSwept_217 (lv_at hl 2 rfl) ?_
                refine lv_iload_n hx hb dX11_isSwept_219 rfl (lv_at hl 6 rfl) ?_
                refine lv_iload_n hx hb dX11_isSwept_220 rfl (lv_at hl 7 rfl) ?_
                obtain ⟨hPc, hDc, hFc⟩ := zo_sub (wc := [_, _, _, _]) hP hD hS hA [0, 5, 6, 7] (by decide +kernel) rfl
                refine zcall (st1 := [.int (pI (wtM (ox k).toInt (oy k).toInt (ox (nxt on k)).toInt (oy (nxt on k)).toInt (P1 (nxt on k)).toInt (Q1 (nxt on k)).toInt px.toInt py.toInt))]) (va_runV (As := [.int (ox k), .int (oy k), .int (ox (nxt on k)), .int (oy (nxt on k)), .int (nI (nxt on k)), .int px, .int py]) (rest := []) ⟨hx, hb, hml, hown, hts⟩ (k_M_isThree l dC dI cI cZ cF H.size k0 a (upd I0 31 (nI on)) J0 (ox k) (oy k) (ox (nxt on k)) (oy (nxt on k)) (nxt on k) px py T2 P1 Q1 (by first | exact (hpo k hk9).1 | exact (hpo k hk9).2 | exact (hpo _ hnx).1 | exact (hpo _ hnx).2 | exact (hP1 k hk9).1 | exact (hP1 k hk9).2 | exact (hP1 _ hnx).1 | exact (hP1 _ hnx).2) (by first | exact (hpo k hk9).1 | exact (hpo k hk9).2 | exact (hpo _ hnx).1 | exact (hpo _ hnx).2 | exact (hP1 k hk9).1 | exact (hP1 k hk9).2 | exact (hP1 _ hnx).1 | exact (hP1 _ hnx).2) (by first | exact (hpo k hk9).1 | exact (hpo k hk9).2 | exact (hpo _ hnx).1 | exact (hpo _ hnx).2 | exact (hP1 k hk9).1 | exact (hP1 k hk9).2 | exact (hP1 _ hnx).1 | exact (hP1 _ hnx).2) (by first | exact (hpo k hk9).1 | exact (hpo k hk9).2 | exact (hpo _ hnx).1 | exact (hpo _ hnx).2 | exact (hP1 k hk9).1 | exact (hP1 k hk9).2 | exact (hP1 _ hnx).1 | exact (hP1 _ hnx).2) (by first | with_reducible assumption | omega) (by first | exact (hpo k hk9).1 | exact (hpo k hk9).2 | exact (hpo _ hnx).1 | exact (hpo _ hnx).2 | exact (hP1 k hk9).1 | exact (hP1 k hk9).2 | exact (hP1 _ hnx).1 | exact (hP1 _ hnx).2) (by first | exact (hpo k hk9).1 | exact (hpo k hk9).2 | exact (hpo _ hnx).1 | exact (hpo _ hnx).2 | exact (hP1 k hk9).1 | exact (hP1 k hk9).2 | exact (hP1 _ hnx).1 | exact (hP1 _ hnx).2) (by first | with_reducible assumption | assumption) (by first | with_reducible assumption | assumption)) (csV_174 hts rfl rfl ⟨Nat.le_of_ble_eq_true rfl, Nat.le_of_ble_eq_true rfl⟩) (zPV2 (q0 := 0) (ci := 9) hPc hDc hK hXN rfl rfl) rfl rfl hl.1 rfl (lv_room (Nat.le_of_ble_eq_true rfl)) dX11_isSwept_221 ⟨Nat.le_of_ble_eq_true rfl, Nat.le_of_ble_eq_true rfl⟩) hS hFc hFc rfl (fun t H locs ht hB hk1 hS => ?_)
                obtain ⟨q_10, hP1, hD1⟩ := hB
                rw [ht] at hP1
                obtain ⟨hP, hD⟩ := zn (W2 := [_, _, _, _, _, (oa (a 40) cI 6 q_10), _, _, _, _]) hP hD hk1 hFc hP1 hD1 [0, 5, 6, 7] zl_144 zl_144 [0, 5, 6, 7] (by decide +kernel) rfl rfl rfl rfl rfl
                clear hk1 hPc hDc hFc hP1 hD1 ht
                refine lv_if_ne (tgt := 266) hx hb dX11_isSwept_224 rfl (fun c_11 => ?_) (fun c_11 => ?_)
                · have c_11 : wtM (ox k).toInt (oy k).toInt (ox (nxt on k)).toInt (oy (nxt on k)).toInt (P1 (nxt on k)).toInt (Q1 (nxt on k)).toInt px.toInt py.toInt := zp_1 c_11
                  refine lv_iconst (v := 1) hx hb dX11_isSwept_266 rfl ?_
                  obtain ⟨hP9, hD9⟩ := zu_sub (wc := [_, _, _, _, _, _, _, _, _, _]) hP hD [true, true, true, true, true, true, true, true, true, true] rfl rfl
                  rw [hQ9]
                  exact W.zret (ty := .boolean) (v := 1) hx hb hr (rfl) (fun t ht hW => ⟨⟨congrArg (fun z => Outcome.returned (some (Value.int z))) (show (1 : Int32) = pI (∃ e9, e9 < eO (kd f).toInt on ∧ swp on ox oy (cF40 cx f) (cF40 cy f) px.toInt py.toInt e9) from (zp_t (⟨k, by omega, (hsw k hk9).mp ⟨hsp, by first | exact Or.inl (by first | with_reducible assumption | assumption) | exact Or.inr (by first | with_reducible assumption | assumption)⟩⟩)).symm), q_10, P1, Q1, by rw [ht]; exact hP9, hD9⟩, hS.F ht⟩) hS.2.2 dX11_isSwept_267
                · have c_11 : ¬ (wtM (ox k).toInt (oy k).toInt (ox (nxt on k)).toInt (oy (nxt on k)).toInt (P1 (nxt on k)).toInt (Q1 (nxt on k)).toInt px.toInt py.toInt) := zp_0 c_11
                  refine lv_aload_n hx hb dX11_isSwept_227 rfl (lv_at hl 4 rfl) ?_
                  refine lv_aload_n hx hb dX11_isSwept_228 rfl (lv_at hl 4 rfl) ?_
                  refine va_get (D := (dC, dI)) (ci := 9) (v := .ref (a 33)) (C := RX11) (T := TX11) (N := 55) hx hb hts inX11 hown hK hP 0 rfl rfl 33 (Nat.le_of_ble_eq_true rfl) (hts _ mw_1192) (fun _ h9 => h9) rfl dX11_isSwept_229 ?_
                  refine lv_iload hx hb dX11_isSwept_232 (lv_at hl 3 rfl) ?_
                  refine z_iald hx hb hK hP 8 0 rfl rfl (e := k) rfl b9_5 (Nat.le_of_ble_eq_true rfl) dX11_isSwept_234 ?_
                  refine lv_aload_n hx hb dX11_isSwept_235 rfl (lv_at hl 4 rfl) ?_
                  refine va_get (D := (dC, dI)) (ci := 9) (v := .ref (a 34)) (C := RX11) (T := TX11) (N := 55) hx hb hts inX11 hown hK hP 0 rfl rfl 34 (Nat.le_of_ble_eq_true rfl) (hts _ mw_1193) (fun _ h9 => h9) rfl dX11_isSwept_236 ?_
                  refine lv_iload hx hb dX11_isSwept_239 (lv_at hl 3 rfl) ?_
                  refine z_iald hx hb hK hP 9 0 rfl rfl (e := k) rfl b9_5 (Nat.le_of_ble_eq_true rfl) dX11_isSwept_241 ?_
                  refine lv_aload_n hx hb dX11_isSwept_242 rfl (lv_at hl 4 rfl) ?_
                  refine va_get (D := (dC, dI)) (ci := 9) (v := .ref (a 29)) (C := RX11) (T := TX11) (N := 55) hx hb hts inX11 hown hK hP 0 rfl rfl 29 (Nat.le_of_ble_eq_true rfl) (hts _ mw_1188) (fun _ h9 => h9) rfl dX11_isSwept_243 ?_
                  refine lv_iload hx hb dX11_isSwept_246 (lv_at hl 3 rfl) ?_
                  refine z_iald hx hb hK hP 6 0 rfl rfl (e := k) rfl b9_5 (Nat.le_of_ble_eq_true rfl) dX11_isSwept_248 ?_
                  refine lv_aload_n hx hb dX11_isSwept_249 rfl (lv_at hl 4 rfl) ?_
                  refine va_get (D := (dC, dI)) (ci := 9) (v := .ref (a 30)) (C := RX11) (T := TX11) (N := 55) hx hb hts inX11 hown hK hP 0 rfl rfl 30 (Nat.le_of_ble_eq_true rfl) (hts _ mw_1189) (fun _ h9 => h9) rfl dX11_isSwept_250 ?_
                  refine lv_iload hx hb dX11_isSwept_253 (lv_at hl 3 rfl) ?_
                  refine z_iald hx hb hK hP 7 0 rfl rfl (e := k) rfl b9_5 (Nat.le_of_ble_eq_true rfl) dX11_isSwept_255 ?_
                  refine lv_iload hx hb dX11_isSwept_256 (lv_at hl 2 rfl) ?_
                  refine lv_iload_n hx hb dX11_isSwept_258 rfl (lv_at hl 6 rfl) ?_
                  refine lv_iload_n hx hb dX11_isSwept_259 rfl (lv_at hl 7 rfl) ?_
                  obtain ⟨hPc, hDc, hFc⟩ := zo_sub (wc := [_, _, _, _]) hP hD hS hA [0, 5, 6, 7] (by decide +kernel) rfl
                  refine zcall (st1 := [.int (pI (wtM (ox k).toInt (oy k).toInt (P1 k).toInt (Q1 k).toInt (P1 (nxt on k)).toInt (Q1 (nxt on k)).toInt px.toInt py.toInt))]) (va_runV (As := [.int (ox k), .int (oy k), .int (P1 k), .int (Q1 k), .int (nI (nxt on k)), .int px, .int py]) (rest := []) ⟨hx, hb, hml, hown, hts⟩ (k_M_isThree l dC dI cI cZ cF H.size k0 a (upd I0 31 (nI on)) J0 (ox k) (oy k) (P1 k) (Q1 k) (nxt on k) px py q_10 P1 Q1 (by first | exact (hpo k hk9).1 | exact (hpo k hk9).2 | exact (hpo _ hnx).1 | exact (hpo _ hnx).2 | exact (hP1 k hk9).1 | exact (hP1 k hk9).2 | exact (hP1 _ hnx).1 | exact (hP1 _ hnx).2) (by first | exact (hpo k hk9).1 | exact (hpo k hk9).2 | exact (hpo _ hnx).1 | exact (hpo _ hnx).2 | exact (hP1 k hk9).1 | exact (hP1 k hk9).2 | exact (hP1 _ hnx).1 | exact (hP1 _ hnx).2) (by first | exact (hpo k hk9).1 | exact (hpo k hk9).2 | exact (hpo _ hnx).1 | exact (hpo _ hnx).2 | exact (hP1 k hk9).1 | exact (hP1 k hk9).2 | exact (hP1 _ hnx).1 | exact (hP1 _ hnx).2) (by first | exact (hpo k hk9).1 | exact (hpo k hk9).2 | exact (hpo _ hnx).1 | exact (hpo _ hnx).2 | exact (hP1 k hk9).1 | exact (hP1 k hk9).2 | exact (hP1 _ hnx).1 | exact (hP1 _ hnx).2) (by first | with_reducible assumption | omega) (by first | exact (hpo k hk9).1 | exact (hpo k hk9).2 | exact (hpo _ hnx).1 | exact (hpo _ hnx).2 | exact (hP1 k hk9).1 | exact (hP1 k hk9).2 | exact (hP1 _ hnx).1 | exact (hP1 _ hnx).2) (by first | exact (hpo k hk9).1 | exact (hpo k hk9).2 | exact (hpo _ hnx).1 | exact (hpo _ hnx).2 | exact (hP1 k hk9).1 | exact (hP1 k hk9).2 | exact (hP1 _ hnx).1 | exact (hP1 _ hnx).2) (by first | with_reducible assumption | assumption) (by first | with_reducible assumption | assumption)) (csV_174 hts rfl rfl ⟨Nat.le_of_ble_eq_true rfl, Nat.le_of_ble_eq_true rfl⟩) (zPV2 (q0 := 0) (ci := 9) hPc hDc hK hXN rfl rfl) rfl rfl hl.1 rfl (lv_room (Nat.le_of_ble_eq_true rfl)) dX11_isSwept_260 ⟨Nat.le_of_ble_eq_true rfl, Nat.le_of_ble_eq_true rfl⟩) hS hFc hFc rfl (fun t H locs ht hB hk1 hS => ?_)
                  obtain ⟨q_12, hP1, hD1⟩ := hB
                  rw [ht] at hP1
                  obtain ⟨hP, hD⟩ := zn (W2 := [_, _, _, _, _, (oa (a 40) cI 6 q_12), _, _, _, _]) hP hD hk1 hFc hP1 hD1 [0, 5, 6, 7] zl_144 zl_144 [0, 5, 6, 7] (by decide +kernel) rfl rfl rfl rfl rfl
                  clear hk1 hPc hDc hFc hP1 hD1 ht
                  refine lv_if_eq (tgt := 268) hx hb dX11_isSwept_263 rfl (fun c_13 => ?_) (fun c_13 => ?_)
                  · have c_13 : ¬ (wtM (ox k).toInt (oy k).toInt (P1 k).toInt (Q1 k).toInt (P1 (nxt on k)).toInt (Q1 (nxt on k)).toInt px.toInt py.toInt) := zp_0 c_13
                    refine lv_iinc (v := nI (k + 1)) (lv' := [(4, .int (nI (k + 1))), (7, .int (pI (stay ox oy P1 Q1 (nxt on k)))), (6, .int (pI (stay ox oy P1 Q1 k))), (5, .int (nI (nxt on k))), (0, .ref k0), (1, .int (nI f)), (2, .int px), (3, .int py)]) hx hb dX11_isSwept_268 hl (k := 3) rfl (nI_add k 1) (Nat.le_of_ble_eq_true rfl) rfl (fun ls hl => ?_)
                    refine lv_goto (tgt := 8) hx hb dX11_isSwept_271 rfl ?_
                    exact ih_8 (k + 1) q_12 H locs ls (by first | with_reducible assumption | omega) (by first | with_reducible assumption | omega) (by intro j hj; rcases Nat.lt_or_ge j k with h | h; exact hno j h; rw [show j = k by omega]; unfold swp; intro h9; first | exact h9.2.elim (by first | with_reducible assumption | assumption) (by first | with_reducible assumption | assumption) | exact h9.1 (by unfold spr; unfold stay at *; omega)) hP hD hS (lv_sub hl [0, 4, 5, 6, 7] rfl)
                  · have c_13 : wtM (ox k).toInt (oy k).toInt (P1 k).toInt (Q1 k).toInt (P1 (nxt on k)).toInt (Q1 (nxt on k)).toInt px.toInt py.toInt := zp_1 c_13
                    refine lv_iconst (v := 1) hx hb dX11_isSwept_266 rfl ?_
                    obtain ⟨hP9, hD9⟩ := zu_sub (wc := [_, _, _, _, _, _, _, _, _, _]) hP hD [true, true, true, true, true, true, true, true, true, true] rfl rfl
                    rw [hQ9]
                    exact W.zret (ty := .boolean) (v := 1) hx hb hr (rfl) (fun t ht hW => ⟨⟨congrArg (fun z => Outcome.returned (some (Value.int z))) (show (1 : Int32) = pI (∃ e9, e9 < eO (kd f).toInt on ∧ swp on ox oy (cF40 cx f) (cF40 cy f) px.toInt py.toInt e9) from (zp_t (⟨k, by omega, (hsw k hk9).mp ⟨hsp, by first | exact Or.inl (by first | with_reducible assumption | assumption) | exact Or.inr (by first | with_reducible assumption | assumption)⟩⟩)).symm), q_12, P1, Q1, by rw [ht]; exact hP9, hD9⟩, hS.F ht⟩) hS.2.2 dX11_isSwept_267
              refine lv_iload hx hb dX11_isSwept_121 (lv_at hl 1 rfl) ?_
              refine lv_if_eq (tgt := 131) hx hb dX11_isSwept_123 rfl (fun c_14 => ?_) (fun c_14 => ?_)
              · have c_14 : ¬ (stay ox oy P1 Q1 k) := zp_0 c_14
                refine lv_iload hx hb dX11_isSwept_131 (lv_at hl 1 rfl) ?_
                refine lv_if_eq (tgt := 158) hx hb dX11_isSwept_133 rfl (fun c_15 => ?_) (fun c_15 => ?_)
                · have c_15 : ¬ (stay ox oy P1 Q1 k) := zp_0 c_15
                  refine lv_iload hx hb dX11_isSwept_158 (lv_at hl 0 rfl) ?_
                  refine lv_if_eq (tgt := 188) hx hb dX11_isSwept_160 rfl (fun c_16 => ?_) (fun c_16 => ?_)
                  · have c_16 : ¬ (stay ox oy P1 Q1 (nxt on k)) := zp_0 c_16
                    exact hj_9 (by unfold spr; (try unfold stay at *); omega)
                  · have c_16 : stay ox oy P1 Q1 (nxt on k) := zp_1 c_16
                    refine lv_iload_n hx hb dX11_isSwept_163 rfl (lv_at hl 6 rfl) ?_
                    refine lv_aload_n hx hb dX11_isSwept_164 rfl (lv_at hl 4 rfl) ?_
                    refine va_get (D := (dC, dI)) (ci := 9) (v := .ref (a 33)) (C := RX11) (T := TX11) (N := 55) hx hb hts inX11 hown hK hP 0 rfl rfl 33 (Nat.le_of_ble_eq_true rfl) (hts _ mw_1192) (fun _ h9 => h9) rfl dX11_isSwept_165 ?_
                    refine lv_iload hx hb dX11_isSwept_168 (lv_at hl 2 rfl) ?_
                    have b9_17 : nxt on k < 42 := by omega
                    refine z_iald hx hb hK hP 8 0 rfl rfl (e := nxt on k) rfl b9_17 (Nat.le_of_ble_eq_true rfl) dX11_isSwept_170 ?_
                    refine lv_icmp_ne (tgt := 188) hx hb dX11_isSwept_171 rfl (fun c_18 => ?_) (fun c_18 => ?_)
                    · have c_18 : ¬ px.toInt = (ox (nxt on k)).toInt := zc_ne rfl rfl c_18
                      exact hj_9 (by unfold spr; (try unfold stay at *); omega)
                    · have c_18 : px.toInt = (ox (nxt on k)).toInt := zc_eq rfl rfl c_18
                      refine lv_iload_n hx hb dX11_isSwept_174 rfl (lv_at hl 7 rfl) ?_
                      refine lv_aload_n hx hb dX11_isSwept_175 rfl (lv_at hl 4 rfl) ?_
                      refine va_get (D := (dC, dI)) (ci := 9) (v := .ref (a 34)) (C := RX11) (T := TX11) (N := 55) hx hb hts inX11 hown hK hP 0 rfl rfl 34 (Nat.le_of_ble_eq_true rfl) (hts _ mw_1193) (fun _ h9 => h9) rfl dX11_isSwept_176 ?_
                      refine lv_iload hx hb dX11_isSwept_179 (lv_at hl 2 rfl) ?_
                      refine z_iald hx hb hK hP 9 0 rfl rfl (e := nxt on k) rfl b9_17 (Nat.le_of_ble_eq_true rfl) dX11_isSwept_181 ?_
                      refine lv_icmp_ne (tgt := 188) hx hb dX11_isSwept_182 rfl (fun c_19 => ?_) (fun c_19 => ?_)
                      · have c_19 : ¬ py.toInt = (oy (nxt on k)).toInt := zc_ne rfl rfl c_19
                        exact hj_9 (by unfold spr; (try unfold stay at *); omega)
                      · have c_19 : py.toInt = (oy (nxt on k)).toInt := zc_eq rfl rfl c_19
                        refine lv_goto (tgt := 268) hx hb dX11_isSwept_185 rfl ?_
                        refine lv_iinc (v := nI (k + 1)) (lv' := [(4, .int (nI (k + 1))), (7, .int (pI (stay ox oy P1 Q1 (nxt on k)))), (6, .int (pI (stay ox oy P1 Q1 k))), (5, .int (nI (nxt on k))), (0, .ref k0), (1, .int (nI f)), (2, .int px), (3, .int py)]) hx hb dX11_isSwept_268 hl (k := 3) rfl (nI_add k 1) (Nat.le_of_ble_eq_true rfl) rfl (fun ls hl => ?_)
                        refine lv_goto (tgt := 8) hx hb dX11_isSwept_271 rfl ?_
                        exact ih_8 (k + 1) T2 H locs ls (by first | with_reducible assumption | omega) (by first | with_reducible assumption | omega) (by intro j hj; rcases Nat.lt_or_ge j k with h | h; exact hno j h; rw [show j = k by omega]; unfold swp; intro h9; first | exact h9.2.elim (by first | with_reducible assumption | assumption) (by first | with_reducible assumption | assumption) | exact h9.1 (by unfold spr; unfold stay at *; omega)) hP hD hS (lv_sub hl [0, 4, 5, 6, 7] rfl)
                · have c_15 : stay ox oy P1 Q1 k := zp_1 c_15
                  refine lv_iload_n hx hb dX11_isSwept_136 rfl (lv_at hl 6 rfl) ?_
                  refine lv_aload_n hx hb dX11_isSwept_137 rfl (lv_at hl 4 rfl) ?_
                  refine va_get (D := (dC, dI)) (ci := 9) (v := .ref (a 33)) (C := RX11) (T := TX11) (N := 55) hx hb hts inX11 hown hK hP 0 rfl rfl 33 (Nat.le_of_ble_eq_true rfl) (hts _ mw_1192) (fun _ h9 => h9) rfl dX11_isSwept_138 ?_
                  refine lv_iload hx hb dX11_isSwept_141 (lv_at hl 3 rfl) ?_
                  have b9_20 : k < 42 := by omega
                  refine z_iald hx hb hK hP 8 0 rfl rfl (e := k) rfl b9_20 (Nat.le_of_ble_eq_true rfl) dX11_isSwept_143 ?_
                  refine lv_icmp_ne (tgt := 158) hx hb dX11_isSwept_144 rfl (fun c_21 => ?_) (fun c_21 => ?_)
                  · have c_21 : ¬ px.toInt = (ox k).toInt := zc_ne rfl rfl c_21
                    refine lv_iload hx hb dX11_isSwept_158 (lv_at hl 0 rfl) ?_
                    refine lv_if_eq (tgt := 188) hx hb dX11_isSwept_160 rfl (fun c_22 => ?_) (fun c_22 => ?_)
                    · have c_22 : ¬ (stay ox oy P1 Q1 (nxt on k)) := zp_0 c_22
                      exact hj_9 (by unfold spr; (try unfold stay at *); omega)
                    · have c_22 : stay ox oy P1 Q1 (nxt on k) := zp_1 c_22
                      refine lv_iload_n hx hb dX11_isSwept_163 rfl (lv_at hl 6 rfl) ?_
                      refine lv_aload_n hx hb dX11_isSwept_164 rfl (lv_at hl 4 rfl) ?_
                      refine va_get (D := (dC, dI)) (ci := 9) (v := .ref (a 33)) (C := RX11) (T := TX11) (N := 55) hx hb hts inX11 hown hK hP 0 rfl rfl 33 (Nat.le_of_ble_eq_true rfl) (hts _ mw_1192) (fun _ h9 => h9) rfl dX11_isSwept_165 ?_
                      refine lv_iload hx hb dX11_isSwept_168 (lv_at hl 2 rfl) ?_
                      have b9_23 : nxt on k < 42 := by omega
                      refine z_iald hx hb hK hP 8 0 rfl rfl (e := nxt on k) rfl b9_23 (Nat.le_of_ble_eq_true rfl) dX11_isSwept_170 ?_
                      refine lv_icmp_ne (tgt := 188) hx hb dX11_isSwept_171 rfl (fun c_24 => ?_) (fun c_24 => ?_)
                      · have c_24 : ¬ px.toInt = (ox (nxt on k)).toInt := zc_ne rfl rfl c_24
                        exact hj_9 (by unfold spr; (try unfold stay at *); omega)
                      · have c_24 : px.toInt = (ox (nxt on k)).toInt := zc_eq rfl rfl c_24
                        refine lv_iload_n hx hb dX11_isSwept_174 rfl (lv_at hl 7 rfl) ?_
                        refine lv_aload_n hx hb dX11_isSwept_175 rfl (lv_at hl 4 rfl) ?_
                        refine va_get (D := (dC, dI)) (ci := 9) (v := .ref (a 34)) (C := RX11) (T := TX11) (N := 55) hx hb hts inX11 hown hK hP 0 rfl rfl 34 (Nat.le_of_ble_eq_true rfl) (hts _ mw_1193) (fun _ h9 => h9) rfl dX11_isSwept_176 ?_
                        refine lv_iload hx hb dX11_isSwept_179 (lv_at hl 2 rfl) ?_
                        refine z_iald hx hb hK hP 9 0 rfl rfl (e := nxt on k) rfl b9_23 (Nat.le_of_ble_eq_true rfl) dX11_isSwept_181 ?_
                        refine lv_icmp_ne (tgt := 188) hx hb dX11_isSwept_182 rfl (fun c_25 => ?_) (fun c_25 => ?_)
                        · have c_25 : ¬ py.toInt = (oy (nxt on k)).toInt := zc_ne rfl rfl c_25
                          exact hj_9 (by unfold spr; (try unfold stay at *); omega)
                        · have c_25 : py.toInt = (oy (nxt on k)).toInt := zc_eq rfl rfl c_25
                          refine lv_goto (tgt := 268) hx hb dX11_isSwept_185 rfl ?_
                          refine lv_iinc (v := nI (k + 1)) (lv' := [(4, .int (nI (k + 1))), (7, .int (pI (stay ox oy P1 Q1 (nxt on k)))), (6, .int (pI (stay ox oy P1 Q1 k))), (5, .int (nI (nxt on k))), (0, .ref k0), (1, .int (nI f)), (2, .int px), (3, .int py)]) hx hb dX11_isSwept_268 hl (k := 3) rfl (nI_add k 1) (Nat.le_of_ble_eq_true rfl) rfl (fun ls hl => ?_)
                          refine lv_goto (tgt := 8) hx hb dX11_isSwept_271 rfl ?_
                          exact ih_8 (k + 1) T2 H locs ls (by first | with_reducible assumption | omega) (by first | with_reducible assumption | omega) (by intro j hj; rcases Nat.lt_or_ge j k with h | h; exact hno j h; rw [show j = k by omega]; unfold swp; intro h9; first | exact h9.2.elim (by first | with_reducible assumption | assumption) (by first | with_reducible assumption | assumption) | exact h9.1 (by unfold spr; unfold stay at *; omega)) hP hD hS (lv_sub hl [0, 4, 5, 6, 7] rfl)
                  · have c_21 : px.toInt = (ox k).toInt := zc_eq rfl rfl c_21
                    refine lv_iload_n hx hb dX11_isSwept_147 rfl (lv_at hl 7 rfl) ?_
                    refine lv_aload_n hx hb dX11_isSwept_148 rfl (lv_at hl 4 rfl) ?_
                    refine va_get (D := (dC, dI)) (ci := 9) (v := .ref (a 34)) (C := RX11) (T := TX11) (N := 55) hx hb hts inX11 hown hK hP 0 rfl rfl 34 (Nat.le_of_ble_eq_true rfl) (hts _ mw_1193) (fun _ h9 => h9) rfl dX11_isSwept_149 ?_
                    refine lv_iload hx hb dX11_isSwept_152 (lv_at hl 3 rfl) ?_
                    have b9_26 : k < 42 := by omega
                    refine z_iald hx hb hK hP 9 0 rfl rfl (e := k) rfl b9_26 (Nat.le_of_ble_eq_true rfl) dX11_isSwept_154 ?_
                    refine lv_icmp_eq (tgt := 268) hx hb dX11_isSwept_155 rfl (fun c_27 => ?_) (fun c_27 => ?_)
                    · have c_27 : py.toInt = (oy k).toInt := zc_eq rfl rfl c_27
                      refine lv_iinc (v := nI (k + 1)) (lv' := [(4, .int (nI (k + 1))), (7, .int (pI (stay ox oy P1 Q1 (nxt on k)))), (6, .int (pI (stay ox oy P1 Q1 k))), (5, .int (nI (nxt on k))), (0, .ref k0), (1, .int (nI f)), (2, .int px), (3, .int py)]) hx hb dX11_isSwept_268 hl (k := 3) rfl (nI_add k 1) (Nat.le_of_ble_eq_true rfl) rfl (fun ls hl => ?_)
                      refine lv_goto (tgt := 8) hx hb dX11_isSwept_271 rfl ?_
                      exact ih_8 (k + 1) T2 H locs ls (by first | with_reducible assumption | omega) (by first | with_reducible assumption | omega) (by intro j hj; rcases Nat.lt_or_ge j k with h | h; exact hno j h; rw [show j = k by omega]; unfold swp; intro h9; first | exact h9.2.elim (by first | with_reducible assumption | assumption) (by first | with_reducible assumption | assumption) | exact h9.1 (by unfold spr; unfold stay at *; omega)) hP hD hS (lv_sub hl [0, 4, 5, 6, 7] rfl)
                    · have c_27 : ¬ py.toInt = (oy k).toInt := zc_ne rfl rfl c_27
                      refine lv_iload hx hb dX11_isSwept_158 (lv_at hl 0 rfl) ?_
                      refine lv_if_eq (tgt := 188) hx hb dX11_isSwept_160 rfl (fun c_28 => ?_) (fun c_28 => ?_)
                      · have c_28 : ¬ (stay ox oy P1 Q1 (nxt on k)) := zp_0 c_28
                        exact hj_9 (by unfold spr; (try unfold stay at *); omega)
                      · have c_28 : stay ox oy P1 Q1 (nxt on k) := zp_1 c_28
                        refine lv_iload_n hx hb dX11_isSwept_163 rfl (lv_at hl 6 rfl) ?_
                        refine lv_aload_n hx hb dX11_isSwept_164 rfl (lv_at hl 4 rfl) ?_
                        refine va_get (D := (dC, dI)) (ci := 9) (v := .ref (a 33)) (C := RX11) (T := TX11) (N := 55) hx hb hts inX11 hown hK hP 0 rfl rfl 33 (Nat.le_of_ble_eq_true rfl) (hts _ mw_1192) (fun _ h9 => h9) rfl dX11_isSwept_165 ?_
                        refine lv_iload hx hb dX11_isSwept_168 (lv_at hl 2 rfl) ?_
                        have b9_29 : nxt on k < 42 := by omega
                        refine z_iald hx hb hK hP 8 0 rfl rfl (e := nxt on k) rfl b9_29 (Nat.le_of_ble_eq_true rfl) dX11_isSwept_170 ?_
                        refine lv_icmp_ne (tgt := 188) hx hb dX11_isSwept_171 rfl (fun c_30 => ?_) (fun c_30 => ?_)
                        · have c_30 : ¬ px.toInt = (ox (nxt on k)).toInt := zc_ne rfl rfl c_30
                          exact hj_9 (by unfold spr; (try unfold stay at *); omega)
                        · have c_30 : px.toInt = (ox (nxt on k)).toInt := zc_eq rfl rfl c_30
                          refine lv_iload_n hx hb dX11_isSwept_174 rfl (lv_at hl 7 rfl) ?_
                          refine lv_aload_n hx hb dX11_isSwept_175 rfl (lv_at hl 4 rfl) ?_
                          refine va_get (D := (dC, dI)) (ci := 9) (v := .ref (a 34)) (C := RX11) (T := TX11) (N := 55) hx hb hts inX11 hown hK hP 0 rfl rfl 34 (Nat.le_of_ble_eq_true rfl) (hts _ mw_1193) (fun _ h9 => h9) rfl dX11_isSwept_176 ?_
                          refine lv_iload hx hb dX11_isSwept_179 (lv_at hl 2 rfl) ?_
                          refine z_iald hx hb hK hP 9 0 rfl rfl (e := nxt on k) rfl b9_29 (Nat.le_of_ble_eq_true rfl) dX11_isSwept_181 ?_
                          refine lv_icmp_ne (tgt := 188) hx hb dX11_isSwept_182 rfl (fun c_31 => ?_) (fun c_31 => ?_)
                          · have c_31 : ¬ py.toInt = (oy (nxt on k)).toInt := zc_ne rfl rfl c_31
                            exact hj_9 (by unfold spr; (try unfold stay at *); omega)
                          · have c_31 : py.toInt = (oy (nxt on k)).toInt := zc_eq rfl rfl c_31
                            refine lv_goto (tgt := 268) hx hb dX11_isSwept_185 rfl ?_
                            refine lv_iinc (v := nI (k + 1)) (lv' := [(4, .int (nI (k + 1))), (7, .int (pI (stay ox oy P1 Q1 (nxt on k)))), (6, .int (pI (stay ox oy P1 Q1 k))), (5, .int (nI (nxt on k))), (0, .ref k0), (1, .int (nI f)), (2, .int px), (3, .int py)]) hx hb dX11_isSwept_268 hl (k := 3) rfl (nI_add k 1) (Nat.le_of_ble_eq_true rfl) rfl (fun ls hl => ?_)
                            refine lv_goto (tgt := 8) hx hb dX11_isSwept_271 rfl ?_
                            exact ih_8 (k + 1) T2 H locs ls (by first | with_reducible assumption | omega) (by first | with_reducible assumption | omega) (by intro j hj; rcases Nat.lt_or_ge j k with h | h; exact hno j h; rw [show j = k by omega]; unfold swp; intro h9; first | exact h9.2.elim (by first | with_reducible assumption | assumption) (by first | with_reducible assumption | assumption) | exact h9.1 (by unfold spr; unfold stay at *; omega)) hP hD hS (lv_sub hl [0, 4, 5, 6, 7] rfl)
              · have c_14 : stay ox oy P1 Q1 k := zp_1 c_14
                refine lv_iload hx hb dX11_isSwept_126 (lv_at hl 0 rfl) ?_
                refine lv_if_ne (tgt := 268) hx hb dX11_isSwept_128 rfl (fun c_32 => ?_) (fun c_32 => ?_)
                · have c_32 : stay ox oy P1 Q1 (nxt on k) := zp_1 c_32
                  refine lv_iinc (v := nI (k + 1)) (lv' := [(4, .int (nI (k + 1))), (7, .int (pI (stay ox oy P1 Q1 (nxt on k)))), (6, .int (pI (stay ox oy P1 Q1 k))), (5, .int (nI (nxt on k))), (0, .ref k0), (1, .int (nI f)), (2, .int px), (3, .int py)]) hx hb dX11_isSwept_268 hl (k := 3) rfl (nI_add k 1) (Nat.le_of_ble_eq_true rfl) rfl (fun ls hl => ?_)
                  refine lv_goto (tgt := 8) hx hb dX11_isSwept_271 rfl ?_
                  exact ih_8 (k + 1) T2 H locs ls (by first | with_reducible assumption | omega) (by first | with_reducible assumption | omega) (by intro j hj; rcases Nat.lt_or_ge j k with h | h; exact hno j h; rw [show j = k by omega]; unfold swp; intro h9; first | exact h9.2.elim (by first | with_reducible assumption | assumption) (by first | with_reducible assumption | assumption) | exact h9.1 (by unfold spr; unfold stay at *; omega)) hP hD hS (lv_sub hl [0, 4, 5, 6, 7] rfl)
                · have c_32 : ¬ (stay ox oy P1 Q1 (nxt on k)) := zp_0 c_32
                  refine lv_iload hx hb dX11_isSwept_131 (lv_at hl 1 rfl) ?_
                  refine lv_if_eq (tgt := 158) hx hb dX11_isSwept_133 rfl (fun c_33 => ?_) (fun c_33 => ?_)
                  · have c_33 : ¬ (stay ox oy P1 Q1 k) := zp_0 c_33
                    refine lv_iload hx hb dX11_isSwept_158 (lv_at hl 0 rfl) ?_
                    refine lv_if_eq (tgt := 188) hx hb dX11_isSwept_160 rfl (fun c_34 => ?_) (fun c_34 => ?_)
                    · have c_34 : ¬ (stay ox oy P1 Q1 (nxt on k)) := zp_0 c_34
                      exact hj_9 (by unfold spr; (try unfold stay at *); omega)
                    · have c_34 : stay ox oy P1 Q1 (nxt on k) := zp_1 c_34
                      refine lv_iload_n hx hb dX11_isSwept_163 rfl (lv_at hl 6 rfl) ?_
                      refine lv_aload_n hx hb dX11_isSwept_164 rfl (lv_at hl 4 rfl) ?_
                      refine va_get (D := (dC, dI)) (ci := 9) (v := .ref (a 33)) (C := RX11) (T := TX11) (N := 55) hx hb hts inX11 hown hK hP 0 rfl rfl 33 (Nat.le_of_ble_eq_true rfl) (hts _ mw_1192) (fun _ h9 => h9) rfl dX11_isSwept_165 ?_
                      refine lv_iload hx hb dX11_isSwept_168 (lv_at hl 2 rfl) ?_
                      have b9_35 : nxt on k < 42 := by omega
                      refine z_iald hx hb hK hP 8 0 rfl rfl (e := nxt on k) rfl b9_35 (Nat.le_of_ble_eq_true rfl) dX11_isSwept_170 ?_
                      refine lv_icmp_ne (tgt := 188) hx hb dX11_isSwept_171 rfl (fun c_36 => ?_) (fun c_36 => ?_)
                      · have c_36 : ¬ px.toInt = (ox (nxt on k)).toInt := zc_ne rfl rfl c_36
                        exact hj_9 (by unfold spr; (try unfold stay at *); omega)
                      · have c_36 : px.toInt = (ox (nxt on k)).toInt := zc_eq rfl rfl c_36
                        refine lv_iload_n hx hb dX11_isSwept_174 rfl (lv_at hl 7 rfl) ?_
                        refine lv_aload_n hx hb dX11_isSwept_175 rfl (lv_at hl 4 rfl) ?_
                        refine va_get (D := (dC, dI)) (ci := 9) (v := .ref (a 34)) (C := RX11) (T := TX11) (N := 55) hx hb hts inX11 hown hK hP 0 rfl rfl 34 (Nat.le_of_ble_eq_true rfl) (hts _ mw_1193) (fun _ h9 => h9) rfl dX11_isSwept_176 ?_
                        refine lv_iload hx hb dX11_isSwept_179 (lv_at hl 2 rfl) ?_
                        refine z_iald hx hb hK hP 9 0 rfl rfl (e := nxt on k) rfl b9_35 (Nat.le_of_ble_eq_true rfl) dX11_isSwept_181 ?_
                        refine lv_icmp_ne (tgt := 188) hx hb dX11_isSwept_182 rfl (fun c_37 => ?_) (fun c_37 => ?_)
                        · have c_37 : ¬ py.toInt = (oy (nxt on k)).toInt := zc_ne rfl rfl c_37
                          exact hj_9 (by unfold spr; (try unfold stay at *); omega)
                        · have c_37 : py.toInt = (oy (nxt on k)).toInt := zc_eq rfl rfl c_37
                          refine lv_goto (tgt := 268) hx hb dX11_isSwept_185 rfl ?_
                          refine lv_iinc (v := nI (k + 1)) (lv' := [(4, .int (nI (k + 1))), (7, .int (pI (stay ox oy P1 Q1 (nxt on k)))), (6, .int (pI (stay ox oy P1 Q1 k))), (5, .int (nI (nxt on k))), (0, .ref k0), (1, .int (nI f)), (2, .int px), (3, .int py)]) hx hb dX11_isSwept_268 hl (k := 3) rfl (nI_add k 1) (Nat.le_of_ble_eq_true rfl) rfl (fun ls hl => ?_)
                          refine lv_goto (tgt := 8) hx hb dX11_isSwept_271 rfl ?_
                          exact ih_8 (k + 1) T2 H locs ls (by first | with_reducible assumption | omega) (by first | with_reducible assumption | omega) (by intro j hj; rcases Nat.lt_or_ge j k with h | h; exact hno j h; rw [show j = k by omega]; unfold swp; intro h9; first | exact h9.2.elim (by first | with_reducible assumption | assumption) (by first | with_reducible assumption | assumption) | exact h9.1 (by unfold spr; unfold stay at *; omega)) hP hD hS (lv_sub hl [0, 4, 5, 6, 7] rfl)
                  · have c_33 : stay ox oy P1 Q1 k := zp_1 c_33
                    refine lv_iload_n hx hb dX11_isSwept_136 rfl (lv_at hl 6 rfl) ?_
                    refine lv_aload_n hx hb dX11_isSwept_137 rfl (lv_at hl 4 rfl) ?_
                    refine va_get (D := (dC, dI)) (ci := 9) (v := .ref (a 33)) (C := RX11) (T := TX11) (N := 55) hx hb hts inX11 hown hK hP 0 rfl rfl 33 (Nat.le_of_ble_eq_true rfl) (hts _ mw_1192) (fun _ h9 => h9) rfl dX11_isSwept_138 ?_
                    refine lv_iload hx hb dX11_isSwept_141 (lv_at hl 3 rfl) ?_
                    have b9_38 : k < 42 := by omega
                    refine z_iald hx hb hK hP 8 0 rfl rfl (e := k) rfl b9_38 (Nat.le_of_ble_eq_true rfl) dX11_isSwept_143 ?_
                    refine lv_icmp_ne (tgt := 158) hx hb dX11_isSwept_144 rfl (fun c_39 => ?_) (fun c_39 => ?_)
                    · have c_39 : ¬ px.toInt = (ox k).toInt := zc_ne rfl rfl c_39
                      refine lv_iload hx hb dX11_isSwept_158 (lv_at hl 0 rfl) ?_
                      refine lv_if_eq (tgt := 188) hx hb dX11_isSwept_160 rfl (fun c_40 => ?_) (fun c_40 => ?_)
                      · have c_40 : ¬ (stay ox oy P1 Q1 (nxt on k)) := zp_0 c_40
                        exact hj_9 (by unfold spr; (try unfold stay at *); omega)
                      · have c_40 : stay ox oy P1 Q1 (nxt on k) := zp_1 c_40
                        refine lv_iload_n hx hb dX11_isSwept_163 rfl (lv_at hl 6 rfl) ?_
                        refine lv_aload_n hx hb dX11_isSwept_164 rfl (lv_at hl 4 rfl) ?_
                        refine va_get (D := (dC, dI)) (ci := 9) (v := .ref (a 33)) (C := RX11) (T := TX11) (N := 55) hx hb hts inX11 hown hK hP 0 rfl rfl 33 (Nat.le_of_ble_eq_true rfl) (hts _ mw_1192) (fun _ h9 => h9) rfl dX11_isSwept_165 ?_
                        refine lv_iload hx hb dX11_isSwept_168 (lv_at hl 2 rfl) ?_
                        have b9_41 : nxt on k < 42 := by omega
                        refine z_iald hx hb hK hP 8 0 rfl rfl (e := nxt on k) rfl b9_41 (Nat.le_of_ble_eq_true rfl) dX11_isSwept_170 ?_
                        refine lv_icmp_ne (tgt := 188) hx hb dX11_isSwept_171 rfl (fun c_42 => ?_) (fun c_42 => ?_)
                        · have c_42 : ¬ px.toInt = (ox (nxt on k)).toInt := zc_ne rfl rfl c_42
                          exact hj_9 (by unfold spr; (try unfold stay at *); omega)
                        · have c_42 : px.toInt = (ox (nxt on k)).toInt := zc_eq rfl rfl c_42
                          refine lv_iload_n hx hb dX11_isSwept_174 rfl (lv_at hl 7 rfl) ?_
                          refine lv_aload_n hx hb dX11_isSwept_175 rfl (lv_at hl 4 rfl) ?_
                          refine va_get (D := (dC, dI)) (ci := 9) (v := .ref (a 34)) (C := RX11) (T := TX11) (N := 55) hx hb hts inX11 hown hK hP 0 rfl rfl 34 (Nat.le_of_ble_eq_true rfl) (hts _ mw_1193) (fun _ h9 => h9) rfl dX11_isSwept_176 ?_
                          refine lv_iload hx hb dX11_isSwept_179 (lv_at hl 2 rfl) ?_
                          refine z_iald hx hb hK hP 9 0 rfl rfl (e := nxt on k) rfl b9_41 (Nat.le_of_ble_eq_true rfl) dX11_isSwept_181 ?_
                          refine lv_icmp_ne (tgt := 188) hx hb dX11_isSwept_182 rfl (fun c_43 => ?_) (fun c_43 => ?_)
                          · have c_43 : ¬ py.toInt = (oy (nxt on k)).toInt := zc_ne rfl rfl c_43
                            exact hj_9 (by unfold spr; (try unfold stay at *); omega)
                          · have c_43 : py.toInt = (oy (nxt on k)).toInt := zc_eq rfl rfl c_43
                            refine lv_goto (tgt := 268) hx hb dX11_isSwept_185 rfl ?_
                            refine lv_iinc (v := nI (k + 1)) (lv' := [(4, .int (nI (k + 1))), (7, .int (pI (stay ox oy P1 Q1 (nxt on k)))), (6, .int (pI (stay ox oy P1 Q1 k))), (5, .int (nI (nxt on k))), (0, .ref k0), (1, .int (nI f)), (2, .int px), (3, .int py)]) hx hb dX11_isSwept_268 hl (k := 3) rfl (nI_add k 1) (Nat.le_of_ble_eq_true rfl) rfl (fun ls hl => ?_)
                            refine lv_goto (tgt := 8) hx hb dX11_isSwept_271 rfl ?_
                            exact ih_8 (k + 1) T2 H locs ls (by first | with_reducible assumption | omega) (by first | with_reducible assumption | omega) (by intro j hj; rcases Nat.lt_or_ge j k with h | h; exact hno j h; rw [show j = k by omega]; unfold swp; intro h9; first | exact h9.2.elim (by first | with_reducible assumption | assumption) (by first | with_reducible assumption | assumption) | exact h9.1 (by unfold spr; unfold stay at *; omega)) hP hD hS (lv_sub hl [0, 4, 5, 6, 7] rfl)
                    · have c_39 : px.toInt = (ox k).toInt := zc_eq rfl rfl c_39
                      refine lv_iload_n hx hb dX11_isSwept_147 rfl (lv_at hl 7 rfl) ?_
                      refine lv_aload_n hx hb dX11_isSwept_148 rfl (lv_at hl 4 rfl) ?_
                      refine va_get (D := (dC, dI)) (ci := 9) (v := .ref (a 34)) (C := RX11) (T := TX11) (N := 55) hx hb hts inX11 hown hK hP 0 rfl rfl 34 (Nat.le_of_ble_eq_true rfl) (hts _ mw_1193) (fun _ h9 => h9) rfl dX11_isSwept_149 ?_
                      refine lv_iload hx hb dX11_isSwept_152 (lv_at hl 3 rfl) ?_
                      have b9_44 : k < 42 := by omega
                      refine z_iald hx hb hK hP 9 0 rfl rfl (e := k) rfl b9_44 (Nat.le_of_ble_eq_true rfl) dX11_isSwept_154 ?_
                      refine lv_icmp_eq (tgt := 268) hx hb dX11_isSwept_155 rfl (fun c_45 => ?_) (fun c_45 => ?_)
                      · have c_45 : py.toInt = (oy k).toInt := zc_eq rfl rfl c_45
                        refine lv_iinc (v := nI (k + 1)) (lv' := [(4, .int (nI (k + 1))), (7, .int (pI (stay ox oy P1 Q1 (nxt on k)))), (6, .int (pI (stay ox oy P1 Q1 k))), (5, .int (nI (nxt on k))), (0, .ref k0), (1, .int (nI f)), (2, .int px), (3, .int py)]) hx hb dX11_isSwept_268 hl (k := 3) rfl (nI_add k 1) (Nat.le_of_ble_eq_true rfl) rfl (fun ls hl => ?_)
                        refine lv_goto (tgt := 8) hx hb dX11_isSwept_271 rfl ?_
                        exact ih_8 (k + 1) T2 H locs ls (by first | with_reducible assumption | omega) (by first | with_reducible assumption | omega) (by intro j hj; rcases Nat.lt_or_ge j k with h | h; exact hno j h; rw [show j = k by omega]; unfold swp; intro h9; first | exact h9.2.elim (by first | with_reducible assumption | assumption) (by first | with_reducible assumption | assumption) | exact h9.1 (by unfold spr; unfold stay at *; omega)) hP hD hS (lv_sub hl [0, 4, 5, 6, 7] rfl)
                      · have c_45 : ¬ py.toInt = (oy k).toInt := zc_ne rfl rfl c_45
                        refine lv_iload hx hb dX11_isSwept_158 (lv_at hl 0 rfl) ?_
                        refine lv_if_eq (tgt := 188) hx hb dX11_isSwept_160 rfl (fun c_46 => ?_) (fun c_46 => ?_)
                        · have c_46 : ¬ (stay ox oy P1 Q1 (nxt on k)) := zp_0 c_46
                          exact hj_9 (by unfold spr; (try unfold stay at *); omega)
                        · have c_46 : stay ox oy P1 Q1 (nxt on k) := zp_1 c_46
                          refine lv_iload_n hx hb dX11_isSwept_163 rfl (lv_at hl 6 rfl) ?_
                          refine lv_aload_n hx hb dX11_isSwept_164 rfl (lv_at hl 4 rfl) ?_
                          refine va_get (D := (dC, dI)) (ci := 9) (v := .ref (a 33)) (C := RX11) (T := TX11) (N := 55) hx hb hts inX11 hown hK hP 0 rfl rfl 33 (Nat.le_of_ble_eq_true rfl) (hts _ mw_1192) (fun _ h9 => h9) rfl dX11_isSwept_165 ?_
                          refine lv_iload hx hb dX11_isSwept_168 (lv_at hl 2 rfl) ?_
                          have b9_47 : nxt on k < 42 := by omega
                          refine z_iald hx hb hK hP 8 0 rfl rfl (e := nxt on k) rfl b9_47 (Nat.le_of_ble_eq_true rfl) dX11_isSwept_170 ?_
                          refine lv_icmp_ne (tgt := 188) hx hb dX11_isSwept_171 rfl (fun c_48 => ?_) (fun c_48 => ?_)
                          · have c_48 : ¬ px.toInt = (ox (nxt on k)).toInt := zc_ne rfl rfl c_48
                            exact hj_9 (by unfold spr; (try unfold stay at *); omega)
                          · have c_48 : px.toInt = (ox (nxt on k)).toInt := zc_eq rfl rfl c_48
                            refine lv_iload_n hx hb dX11_isSwept_174 rfl (lv_at hl 7 rfl) ?_
                            refine lv_aload_n hx hb dX11_isSwept_175 rfl (lv_at hl 4 rfl) ?_
                            refine va_get (D := (dC, dI)) (ci := 9) (v := .ref (a 34)) (C := RX11) (T := TX11) (N := 55) hx hb hts inX11 hown hK hP 0 rfl rfl 34 (Nat.le_of_ble_eq_true rfl) (hts _ mw_1193) (fun _ h9 => h9) rfl dX11_isSwept_176 ?_
                            refine lv_iload hx hb dX11_isSwept_179 (lv_at hl 2 rfl) ?_
                            refine z_iald hx hb hK hP 9 0 rfl rfl (e := nxt on k) rfl b9_47 (Nat.le_of_ble_eq_true rfl) dX11_isSwept_181 ?_
                            refine lv_icmp_ne (tgt := 188) hx hb dX11_isSwept_182 rfl (fun c_49 => ?_) (fun c_49 => ?_)
                            · have c_49 : ¬ py.toInt = (oy (nxt on k)).toInt := zc_ne rfl rfl c_49
                              exact hj_9 (by unfold spr; (try unfold stay at *); omega)
                            · have c_49 : py.toInt = (oy (nxt on k)).toInt := zc_eq rfl rfl c_49
                              refine lv_goto (tgt := 268) hx hb dX11_isSwept_185 rfl ?_
                              refine lv_iinc (v := nI (k + 1)) (lv' := [(4, .int (nI (k + 1))), (7, .int (pI (stay ox oy P1 Q1 (nxt on k)))), (6, .int (pI (stay ox oy P1 Q1 k))), (5, .int (nI (nxt on k))), (0, .ref k0), (1, .int (nI f)), (2, .int px), (3, .int py)]) hx hb dX11_isSwept_268 hl (k := 3) rfl (nI_add k 1) (Nat.le_of_ble_eq_true rfl) rfl (fun ls hl => ?_)
                              refine lv_goto (tgt := 8) hx hb dX11_isSwept_271 rfl ?_
                              exact ih_8 (k + 1) T2 H locs ls (by first | with_reducible assumption | omega) (by first | with_reducible assumption | omega) (by intro j hj; rcases Nat.lt_or_ge j k with h | h; exact hno j h; rw [show j = k by omega]; unfold swp; intro h9; first | exact h9.2.elim (by first | with_reducible assumption | assumption) (by first | with_reducible assumption | assumption) | exact h9.1 (by unfold spr; unfold stay at *; omega)) hP hD hS (lv_sub hl [0, 4, 5, 6, 7] rfl)
            refine lv_icmp_ne (tgt := 118) hx hb dX11_isSwept_94 rfl (fun c_50 => ?_) (fun c_50 => ?_)
            · have c_50 : ¬ (ox (nxt on k)).toInt = (P1 (nxt on k)).toInt := zc_ne rfl rfl c_50
              refine lv_iconst (v := 0) hx hb dX11_isSwept_118 rfl ?_
              refine zz_i (v := pI (stay ox oy P1 Q1 (nxt on k))) (by first | exact (zp_t (by unfold stay; omega)).symm | exact (zp_f (by unfold stay; omega)).symm) ?_
              exact hj_8 
            · have c_50 : (ox (nxt on k)).toInt = (P1 (nxt on k)).toInt := zc_eq rfl rfl c_50
              refine lv_aload_n hx hb dX11_isSwept_97 rfl (lv_at hl 3 rfl) ?_
              refine va_get (D := (dC, dI)) (ci := 9) (v := .ref (a 34)) (C := RX11) (T := TX11) (N := 55) hx hb hts inX11 hown hK hP 0 rfl rfl 34 (Nat.le_of_ble_eq_true rfl) (hts _ mw_1193) (fun _ h9 => h9) rfl dX11_isSwept_98 ?_
              refine lv_iload hx hb dX11_isSwept_101 (lv_at hl 1 rfl) ?_
              have b9_51 : nxt on k < 42 := by omega
              refine z_iald hx hb hK hP 9 0 rfl rfl (e := nxt on k) rfl b9_51 (Nat.le_of_ble_eq_true rfl) dX11_isSwept_103 ?_
              refine lv_aload_n hx hb dX11_isSwept_104 rfl (lv_at hl 3 rfl) ?_
              refine va_get (D := (dC, dI)) (ci := 9) (v := .ref (a 30)) (C := RX11) (T := TX11) (N := 55) hx hb hts inX11 hown hK hP 0 rfl rfl 30 (Nat.le_of_ble_eq_true rfl) (hts _ mw_1189) (fun _ h9 => h9) rfl dX11_isSwept_105 ?_
              refine lv_iload hx hb dX11_isSwept_108 (lv_at hl 1 rfl) ?_
              refine z_iald hx hb hK hP 7 0 rfl rfl (e := nxt on k) rfl b9_51 (Nat.le_of_ble_eq_true rfl) dX11_isSwept_110 ?_
              refine lv_icmp_ne (tgt := 118) hx hb dX11_isSwept_111 rfl (fun c_52 => ?_) (fun c_52 => ?_)
              · have c_52 : ¬ (oy (nxt on k)).toInt = (Q1 (nxt on k)).toInt := zc_ne rfl rfl c_52
                refine lv_iconst (v := 0) hx hb dX11_isSwept_118 rfl ?_
                refine zz_i (v := pI (stay ox oy P1 Q1 (nxt on k))) (by first | exact (zp_t (by unfold stay; omega)).symm | exact (zp_f (by unfold stay; omega)).symm) ?_
                exact hj_8 
              · have c_52 : (oy (nxt on k)).toInt = (Q1 (nxt on k)).toInt := zc_eq rfl rfl c_52
                refine lv_iconst (v := 1) hx hb dX11_isSwept_114 rfl ?_
                refine lv_goto (tgt := 119) hx hb dX11_isSwept_115 rfl ?_
                refine zz_i (v := pI (stay ox oy P1 Q1 (nxt on k))) (by first | exact (zp_t (by unfold stay; omega)).symm | exact (zp_f (by unfold stay; omega)).symm) ?_
                exact hj_8 
          refine lv_icmp_ne (tgt := 77) hx hb dX11_isSwept_53 rfl (fun c_53 => ?_) (fun c_53 => ?_)
          · have c_53 : ¬ (ox k).toInt = (P1 k).toInt := zc_ne rfl rfl c_53
            refine lv_iconst (v := 0) hx hb dX11_isSwept_77 rfl ?_
            refine zz_i (v := pI (stay ox oy P1 Q1 k)) (by first | exact (zp_t (by unfold stay; omega)).symm | exact (zp_f (by unfold stay; omega)).symm) ?_
            exact hj_6 
          · have c_53 : (ox k).toInt = (P1 k).toInt := zc_eq rfl rfl c_53
            refine lv_aload_n hx hb dX11_isSwept_56 rfl (lv_at hl 2 rfl) ?_
            refine va_get (D := (dC, dI)) (ci := 9) (v := .ref (a 34)) (C := RX11) (T := TX11) (N := 55) hx hb hts inX11 hown hK hP 0 rfl rfl 34 (Nat.le_of_ble_eq_true rfl) (hts _ mw_1193) (fun _ h9 => h9) rfl dX11_isSwept_57 ?_
            refine lv_iload hx hb dX11_isSwept_60 (lv_at hl 1 rfl) ?_
            have b9_54 : k < 42 := by omega
            refine z_iald hx hb hK hP 9 0 rfl rfl (e := k) rfl b9_54 (Nat.le_of_ble_eq_true rfl) dX11_isSwept_62 ?_
            refine lv_aload_n hx hb dX11_isSwept_63 rfl (lv_at hl 2 rfl) ?_
            refine va_get (D := (dC, dI)) (ci := 9) (v := .ref (a 30)) (C := RX11) (T := TX11) (N := 55) hx hb hts inX11 hown hK hP 0 rfl rfl 30 (Nat.le_of_ble_eq_true rfl) (hts _ mw_1189) (fun _ h9 => h9) rfl dX11_isSwept_64 ?_
            refine lv_iload hx hb dX11_isSwept_67 (lv_at hl 1 rfl) ?_
            refine z_iald hx hb hK hP 7 0 rfl rfl (e := k) rfl b9_54 (Nat.le_of_ble_eq_true rfl) dX11_isSwept_69 ?_
            refine lv_icmp_ne (tgt := 77) hx hb dX11_isSwept_70 rfl (fun c_55 => ?_) (fun c_55 => ?_)
            · have c_55 : ¬ (oy k).toInt = (Q1 k).toInt := zc_ne rfl rfl c_55
              refine lv_iconst (v := 0) hx hb dX11_isSwept_77 rfl ?_
              refine zz_i (v := pI (stay ox oy P1 Q1 k)) (by first | exact (zp_t (by unfold stay; omega)).symm | exact (zp_f (by unfold stay; omega)).symm) ?_
              exact hj_6 
            · have c_55 : (oy k).toInt = (Q1 k).toInt := zc_eq rfl rfl c_55
              refine lv_iconst (v := 1) hx hb dX11_isSwept_73 rfl ?_
              refine lv_goto (tgt := 78) hx hb dX11_isSwept_74 rfl ?_
              refine zz_i (v := pI (stay ox oy P1 Q1 k)) (by first | exact (zp_t (by unfold stay; omega)).symm | exact (zp_f (by unfold stay; omega)).symm) ?_
              exact hj_6 
        have b9_57 : zlt ((k + 1)) := show (k + 1) < 2147483648 by omega
        have b9_58 : zlt (on) := show on < 2147483648 by omega
        refine lv_icmp_ne (tgt := 33) hx hb dX11_isSwept_26 rfl (fun c_56 => ?_) (fun c_56 => ?_)
        · have c_56 : ¬ ((k + 1 : Nat) : Int) = ((on : Nat) : Int) := zc_ne (nI_toInt b9_57) (nI_toInt b9_58) c_56
          refine lv_iload hx hb dX11_isSwept_33 (lv_at hl 0 rfl) ?_
          refine lv_iconst (v := 1) hx hb dX11_isSwept_35 rfl ?_
          refine lv_iadd hx hb dX11_isSwept_36 ?_
          refine zz_i (v := nI (k + 1)) (nI_add k 1) ?_
          refine zz_i (v := nI (nxt on k)) (by first | (rw [nxt, if_pos (by omega)]) | (rw [nxt, if_neg (by omega)]; first | done | rfl)) ?_
          exact hj_4 
        · have c_56 : ((k + 1 : Nat) : Int) = ((on : Nat) : Int) := zc_eq (nI_toInt b9_57) (nI_toInt b9_58) c_56
          refine lv_iconst (v := 0) hx hb dX11_isSwept_29 rfl ?_
          refine lv_goto (tgt := 37) hx hb dX11_isSwept_30 rfl ?_
          refine zz_i (v := nI (nxt on k)) (by first | (rw [nxt, if_pos (by omega)]) | (rw [nxt, if_neg (by omega)]; first | done | rfl)) ?_
          exact hj_4 
  exact hl_8 _ 0 T0 H locs ls (Nat.lt_succ_self _) (by first | with_reducible assumption | omega) (by intro j hj; omega) hP hD hS (lv_sub hl [0, 1, 2, 3, 4] rfl)
end
section
set_option maxHeartbeats 4000000 in
set_option maxRecDepth 100000 in
theorem k_M_isAhead (l : Launch) (dC : Nat → ClassId) (dI : Nat → Nat → Nat) (cI cZ cF : ClassId) (sz : Nat) (k0 : Nat) (a : Nat → Nat) (I0 : Nat → Int32) (J0 : Nat → Int64) (ex : Int32) (ey : Int32) (px : Int32) (py : Int32) (S0 : Nat → Int32) (hs : ∀ k, k < 8 → pl (S0 k)) (k1 : pl ex) (k2 : pl ey) (hpx : pl px) (hpy : pl py) : zM l yX11_isAhead cX11_isAhead 5 (some .boolean) ({ frames := 0, cells := 0, slots := 0, locals := 0 } : Room) [.ref k0, .int ex, .int ey, .int px, .int py] (dC, dI) (zTy cI cZ cF) [(om k0 a I0 J0), (oa (a 32) cI 8 S0)] sz (some (.int (pI (0 < dt ex.toInt ey.toInt px.toInt py.toInt (S0 2).toInt (S0 3).toInt)))) (fun A t => zPD (dC, dI) classes A [(om k0 a I0 J0), (oa (a 32) cI 8 S0)] t.heap) 0 0 := by
  refine zIn (own := "ScaleShopModel") (loc := [(0, .ref k0), (1, .int ex), (2, .int ey), (3, .int px), (4, .int py)]) rfl rfl rfl rfl (fun p e s m below meth c hx hb hr hts hown hlocks hml hnm9 A hA hS hP hD hK hXN Q9 hQ9 ls hl => ?_)
  have hB1 := mlB k1 hpx (hs 2 (by omega)) hpx
  have hB2 := mlB k2 hpy (hs 3 (by omega)) hpy
  refine lv_iload_n hx hb dX11_isAhead_0 rfl (lv_at hl 1 rfl) ?_
  refine lv_iload_n hx hb dX11_isAhead_1 rfl (lv_at hl 3 rfl) ?_
  refine lv_isub hx hb dX11_isAhead_2 ?_
  refine lv_i2l (v := (ex - px).toInt64) hx hb dX11_isAhead_3 (rfl) ?_
  refine lv_aload_n hx hb dX11_isAhead_4 rfl (lv_at hl 0 rfl) ?_
  refine va_get (D := (dC, dI)) (ci := 9) (v := .ref (a 32)) (C := RX11) (T := TX11) (N := 55) hx hb hts inX11 hown hK hP 0 rfl rfl 32 (Nat.le_of_ble_eq_true rfl) (hts _ mw_1191) (fun _ h9 => h9) rfl dX11_isAhead_5 ?_
  refine lv_iconst (v := 2) hx hb dX11_isAhead_8 rfl ?_
  refine z_iald hx hb hK hP 1 0 rfl rfl (e := 2) rfl (Nat.le_of_ble_eq_true rfl) (Nat.le_of_ble_eq_true rfl) dX11_isAhead_9 ?_
  refine lv_iload_n hx hb dX11_isAhead_10 rfl (lv_at hl 3 rfl) ?_
  refine lv_isub hx hb dX11_isAhead_11 ?_
  refine lv_i2l (v := ((S0 2) - px).toInt64) hx hb dX11_isAhead_12 (rfl) ?_
  refine lv_lmul hx hb dX11_isAhead_13 ?_
  refine zz_l (v := jI ((ex.toInt - px.toInt) * ((S0 2).toInt - px.toInt))) (mlL k1 hpx (hs 2 (by omega)) hpx) ?_
  refine lv_iload_n hx hb dX11_isAhead_14 rfl (lv_at hl 2 rfl) ?_
  refine lv_iload hx hb dX11_isAhead_15 (lv_at hl 4 rfl) ?_
  refine lv_isub hx hb dX11_isAhead_17 ?_
  refine lv_i2l (v := (ey - py).toInt64) hx hb dX11_isAhead_18 (rfl) ?_
  refine lv_aload_n hx hb dX11_isAhead_19 rfl (lv_at hl 0 rfl) ?_
  refine va_get (D := (dC, dI)) (ci := 9) (v := .ref (a 32)) (C := RX11) (T := TX11) (N := 55) hx hb hts inX11 hown hK hP 0 rfl rfl 32 (Nat.le_of_ble_eq_true rfl) (hts _ mw_1191) (fun _ h9 => h9) rfl dX11_isAhead_20 ?_
  refine lv_iconst (v := 3) hx hb dX11_isAhead_23 rfl ?_
  refine z_iald hx hb hK hP 1 0 rfl rfl (e := 3) rfl (Nat.le_of_ble_eq_true rfl) (Nat.le_of_ble_eq_true rfl) dX11_isAhead_24 ?_
  refine lv_iload hx hb dX11_isAhead_25 (lv_at hl 4 rfl) ?_
  refine lv_isub hx hb dX11_isAhead_27 ?_
  refine lv_i2l (v := ((S0 3) - py).toInt64) hx hb dX11_isAhead_28 (rfl) ?_
  refine lv_lmul hx hb dX11_isAhead_29 ?_
  refine zz_l (v := jI ((ey.toInt - py.toInt) * ((S0 3).toInt - py.toInt))) (mlL k2 hpy (hs 3 (by omega)) hpy) ?_
  refine lv_ladd hx hb dX11_isAhead_30 ?_
  refine zz_l (v := jI ((ex.toInt - px.toInt) * ((S0 2).toInt - px.toInt) + (ey.toInt - py.toInt) * ((S0 3).toInt - py.toInt))) (jI_add (by omega) (by omega)) ?_
  refine lv_lconst (v := 0) hx hb dX11_isAhead_31 rfl ?_
  refine W.lcmp hx hb dX11_isAhead_32 ?_
  refine lv_if_le (tgt := 40) hx hb dX11_isAhead_33 rfl (fun c_1 => ?_) (fun c_1 => ?_)
  · have c_1 : ((ex.toInt - px.toInt) * ((S0 2).toInt - px.toInt) + (ey.toInt - py.toInt) * ((S0 3).toInt - py.toInt)) ≤ 0 := zl_le (jI_toInt (by omega)) rfl c_1
    refine lv_iconst (v := 0) hx hb dX11_isAhead_40 rfl ?_
    obtain ⟨hP9, hD9⟩ := zu_sub (wc := [_, _]) hP hD [true, true] rfl rfl
    rw [hQ9]
    exact W.zret (ty := .boolean) (v := 0) hx hb hr (rfl) (fun t ht hW => ⟨⟨congrArg (fun z => Outcome.returned (some (Value.int z))) (show (0 : Int32) = pI (0 < dt ex.toInt ey.toInt px.toInt py.toInt (S0 2).toInt (S0 3).toInt) from (zp_f (by unfold dt; omega)).symm), by rw [ht]; exact hP9, hD9⟩, hS.F ht⟩) hS.2.2 dX11_isAhead_41
  · have c_1 : 0 < ((ex.toInt - px.toInt) * ((S0 2).toInt - px.toInt) + (ey.toInt - py.toInt) * ((S0 3).toInt - py.toInt)) := zl_nle (jI_toInt (by omega)) rfl c_1
    refine lv_iconst (v := 1) hx hb dX11_isAhead_36 rfl ?_
    refine lv_goto (tgt := 41) hx hb dX11_isAhead_37 rfl ?_
    obtain ⟨hP9, hD9⟩ := zu_sub (wc := [_, _]) hP hD [true, true] rfl rfl
    rw [hQ9]
    exact W.zret (ty := .boolean) (v := 1) hx hb hr (rfl) (fun t ht hW => ⟨⟨congrArg (fun z => Outcome.returned (some (Value.int z))) (show (1 : Int32) = pI (0 < dt ex.toInt ey.toInt px.toInt py.toInt (S0 2).toInt (S0 3).toInt) from (zp_t (by unfold dt; omega)).symm), by rw [ht]; exact hP9, hD9⟩, hS.F ht⟩) hS.2.2 dX11_isAhead_41
set_option maxHeartbeats 4000000 in
set_option maxRecDepth 100000 in
theorem k_M_isOnlyAt (l : Launch) (dC : Nat → ClassId) (dI : Nat → Nat → Nat) (cI cZ cF : ClassId) (sz : Nat) (k0 : Nat) (a : Nat → Nat) (I0 : Nat → Int32) (J0 : Nat → Int64) (px : Int32) (py : Int32) (S0 : Nat → Int32) (hs : ∀ k, k < 8 → pl (S0 k)) (hpx : pl px) (hpy : pl py) : zM l yX11_isOnlyAt cX11_isOnlyAt 5 (some .boolean) ({ frames := 2, cells := 0, slots := 0, locals := 56 } : Room) [.ref k0, .int px, .int py] (dC, dI) (zTy cI cZ cF) [(om k0 a I0 J0), (oa (a 32) cI 8 S0)] sz (some (.int (pI (oAt (S0 0).toInt (S0 1).toInt (S0 2).toInt (S0 3).toInt (S0 4).toInt (S0 5).toInt (S0 6).toInt (S0 7).toInt px.toInt py.toInt)))) (fun A t => zPD (dC, dI) classes A [(om k0 a I0 J0), (oa (a 32) cI 8 S0)] t.heap) 0 0 := by
  refine zIn (own := "ScaleShopModel") (loc := [(0, .ref k0), (1, .int px), (2, .int py)]) rfl rfl rfl rfl (fun p e s m below meth c hx hb hr hts hown hlocks hml hnm9 A hA hS hP hD hK hXN Q9 hQ9 ls hl => ?_)
  have hB1 := mlB (hs 2 (by omega)) (hs 0 (by omega)) (hs 7 (by omega)) (hs 5 (by omega))
  have hB2 := mlB (hs 3 (by omega)) (hs 1 (by omega)) (hs 6 (by omega)) (hs 4 (by omega))
  refine lv_aload_n hx hb dX11_isOnlyAt_0 rfl (lv_at hl 0 rfl) ?_
  refine va_get (D := (dC, dI)) (ci := 9) (v := .ref (a 32)) (C := RX11) (T := TX11) (N := 55) hx hb hts inX11 hown hK hP 0 rfl rfl 32 (Nat.le_of_ble_eq_true rfl) (hts _ mw_1191) (fun _ h9 => h9) rfl dX11_isOnlyAt_1 ?_
  refine lv_iconst (v := 4) hx hb dX11_isOnlyAt_4 rfl ?_
  refine z_iald hx hb hK hP 1 0 rfl rfl (e := 4) rfl (Nat.le_of_ble_eq_true rfl) (Nat.le_of_ble_eq_true rfl) dX11_isOnlyAt_5 ?_
  refine lv_aload_n hx hb dX11_isOnlyAt_6 rfl (lv_at hl 0 rfl) ?_
  refine va_get (D := (dC, dI)) (ci := 9) (v := .ref (a 32)) (C := RX11) (T := TX11) (N := 55) hx hb hts inX11 hown hK hP 0 rfl rfl 32 (Nat.le_of_ble_eq_true rfl) (hts _ mw_1191) (fun _ h9 => h9) rfl dX11_isOnlyAt_7 ?_
  refine lv_iconst (v := 5) hx hb dX11_isOnlyAt_10 rfl ?_
  refine z_iald hx hb hK hP 1 0 rfl rfl (e := 5) rfl (Nat.le_of_ble_eq_true rfl) (Nat.le_of_ble_eq_true rfl) dX11_isOnlyAt_11 ?_
  refine lv_aload_n hx hb dX11_isOnlyAt_12 rfl (lv_at hl 0 rfl) ?_
  refine va_get (D := (dC, dI)) (ci := 9) (v := .ref (a 32)) (C := RX11) (T := TX11) (N := 55) hx hb hts inX11 hown hK hP 0 rfl rfl 32 (Nat.le_of_ble_eq_true rfl) (hts _ mw_1191) (fun _ h9 => h9) rfl dX11_isOnlyAt_13 ?_
  refine lv_bipush (v := 6) hx hb dX11_isOnlyAt_16 rfl ?_
  refine z_iald hx hb hK hP 1 0 rfl rfl (e := 6) rfl (Nat.le_of_ble_eq_true rfl) (Nat.le_of_ble_eq_true rfl) dX11_isOnlyAt_18 ?_
  refine lv_aload_n hx hb dX11_isOnlyAt_19 rfl (lv_at hl 0 rfl) ?_
  refine va_get (D := (dC, dI)) (ci := 9) (v := .ref (a 32)) (C := RX11) (T := TX11) (N := 55) hx hb hts inX11 hown hK hP 0 rfl rfl 32 (Nat.le_of_ble_eq_true rfl) (hts _ mw_1191) (fun _ h9 => h9) rfl dX11_isOnlyAt_20 ?_
  refine lv_bipush (v := 7) hx hb dX11_isOnlyAt_23 rfl ?_
  refine z_iald hx hb hK hP 1 0 rfl rfl (e := 7) rfl (Nat.le_of_ble_eq_true rfl) (Nat.le_of_ble_eq_true rfl) dX11_isOnlyAt_25 ?_
  refine lv_iload_n hx hb dX11_isOnlyAt_26 rfl (lv_at hl 1 rfl) ?_
  refine lv_iload_n hx hb dX11_isOnlyAt_27 rfl (lv_at hl 2 rfl) ?_
  obtain ⟨hPc, hDc, hFc, hI1⟩ := zi_sub (wc := []) hP hD hS hA [] rfl rfl
  refine zcall (st1 := [.int (pI (onS (S0 4).toInt (S0 5).toInt (S0 6).toInt (S0 7).toInt px.toInt py.toInt))]) (va_runS (As := [.int (S0 4), .int (S0 5), .int (S0 6), .int (S0 7), .int px, .int py]) (rest := []) ⟨hx, hb, hml, hown, hts⟩ (k_M_isOn l dC dI cI cZ cF s.heap.size (S0 4) (S0 5) (S0 6) (S0 7) px py ((hs 4 (by first | with_reducible assumption | omega))) ((hs 5 (by first | with_reducible assumption | omega))) ((hs 6 (by first | with_reducible assumption | omega))) ((hs 7 (by first | with_reducible assumption | omega))) (hpx) (hpy)) (csS_164 hts rfl rfl ⟨Nat.le_of_ble_eq_true rfl, Nat.le_of_ble_eq_true rfl⟩) (zPS2 hPc hDc hK hXN) rfl rfl hl.1 rfl (lv_room (Nat.le_of_ble_eq_true rfl)) dX11_isOnlyAt_28 ⟨Nat.le_of_ble_eq_true rfl, Nat.le_of_ble_eq_true rfl⟩) hS hFc hFc rfl (fun t H locs ht hB hk1 hS => ?_)
  obtain ⟨hP1, hD1⟩ := hB
  rw [ht] at hP1
  replace hP := z0 hP hD hk1 hP1 hI1
  clear hk1 hPc hDc hFc hP1 hD1 ht hI1
  refine lv_if_ne (tgt := 36) hx hb dX11_isOnlyAt_31 rfl (fun c_1 => ?_) (fun c_1 => ?_)
  · have c_1 : onS (S0 4).toInt (S0 5).toInt (S0 6).toInt (S0 7).toInt px.toInt py.toInt := zp_1 c_1
    have hj_2 : (¬ ((S0 0).toInt = (S0 2).toInt ∧ (S0 1).toInt = (S0 3).toInt) ∧ ¬ ((S0 4).toInt = (S0 6).toInt ∧ (S0 5).toInt = (S0 7).toInt)) → W p l e ({ frames := 2, cells := 0, slots := 0, locals := 56 } : Room) s m ([.ref k0, .int px, .int py] : List Value).toArray below meth c H locs 0 0 Q9 (F0 m 100 ls []) := by
      intro hne
      refine lv_aload_n hx hb dX11_isOnlyAt_100 rfl (lv_at hl 0 rfl) ?_
      refine va_get (D := (dC, dI)) (ci := 9) (v := .ref (a 32)) (C := RX11) (T := TX11) (N := 55) hx hb hts inX11 hown hK hP 0 rfl rfl 32 (Nat.le_of_ble_eq_true rfl) (hts _ mw_1191) (fun _ h9 => h9) rfl dX11_isOnlyAt_101 ?_
      refine lv_iconst (v := 2) hx hb dX11_isOnlyAt_104 rfl ?_
      refine z_iald hx hb hK hP 1 0 rfl rfl (e := 2) rfl (Nat.le_of_ble_eq_true rfl) (Nat.le_of_ble_eq_true rfl) dX11_isOnlyAt_105 ?_
      refine lv_aload_n hx hb dX11_isOnlyAt_106 rfl (lv_at hl 0 rfl) ?_
      refine va_get (D := (dC, dI)) (ci := 9) (v := .ref (a 32)) (C := RX11) (T := TX11) (N := 55) hx hb hts inX11 hown hK hP 0 rfl rfl 32 (Nat.le_of_ble_eq_true rfl) (hts _ mw_1191) (fun _ h9 => h9) rfl dX11_isOnlyAt_107 ?_
      refine lv_iconst (v := 0) hx hb dX11_isOnlyAt_110 rfl ?_
      refine z_iald hx hb hK hP 1 0 rfl rfl (e := 0) rfl (Nat.le_of_ble_eq_true rfl) (Nat.le_of_ble_eq_true rfl) dX11_isOnlyAt_111 ?_
      refine lv_isub hx hb dX11_isOnlyAt_112 ?_
      refine lv_i2l (v := ((S0 2) - (S0 0)).toInt64) hx hb dX11_isOnlyAt_113 (rfl) ?_
      refine lv_aload_n hx hb dX11_isOnlyAt_114 rfl (lv_at hl 0 rfl) ?_
      refine va_get (D := (dC, dI)) (ci := 9) (v := .ref (a 32)) (C := RX11) (T := TX11) (N := 55) hx hb hts inX11 hown hK hP 0 rfl rfl 32 (Nat.le_of_ble_eq_true rfl) (hts _ mw_1191) (fun _ h9 => h9) rfl dX11_isOnlyAt_115 ?_
      refine lv_bipush (v := 7) hx hb dX11_isOnlyAt_118 rfl ?_
      refine z_iald hx hb hK hP 1 0 rfl rfl (e := 7) rfl (Nat.le_of_ble_eq_true rfl) (Nat.le_of_ble_eq_true rfl) dX11_isOnlyAt_120 ?_
      refine lv_aload_n hx hb dX11_isOnlyAt_121 rfl (lv_at hl 0 rfl) ?_
      refine va_get (D := (dC, dI)) (ci := 9) (v := .ref (a 32)) (C := RX11) (T := TX11) (N := 55) hx hb hts inX11 hown hK hP 0 rfl rfl 32 (Nat.le_of_ble_eq_true rfl) (hts _ mw_1191) (fun _ h9 => h9) rfl dX11_isOnlyAt_122 ?_
      refine lv_iconst (v := 5) hx hb dX11_isOnlyAt_125 rfl ?_
      refine z_iald hx hb hK hP 1 0 rfl rfl (e := 5) rfl (Nat.le_of_ble_eq_true rfl) (Nat.le_of_ble_eq_true rfl) dX11_isOnlyAt_126 ?_
      refine lv_isub hx hb dX11_isOnlyAt_127 ?_
      refine lv_i2l (v := ((S0 7) - (S0 5)).toInt64) hx hb dX11_isOnlyAt_128 (rfl) ?_
      refine lv_lmul hx hb dX11_isOnlyAt_129 ?_
      refine zz_l (v := jI (((S0 2).toInt - (S0 0).toInt) * ((S0 7).toInt - (S0 5).toInt))) (mlL (hs 2 (by omega)) (hs 0 (by omega)) (hs 7 (by omega)) (hs 5 (by omega))) ?_
      refine lv_aload_n hx hb dX11_isOnlyAt_130 rfl (lv_at hl 0 rfl) ?_
      refine va_get (D := (dC, dI)) (ci := 9) (v := .ref (a 32)) (C := RX11) (T := TX11) (N := 55) hx hb hts inX11 hown hK hP 0 rfl rfl 32 (Nat.le_of_ble_eq_true rfl) (hts _ mw_1191) (fun _ h9 => h9) rfl dX11_isOnlyAt_131 ?_
      refine lv_iconst (v := 3) hx hb dX11_isOnlyAt_134 rfl ?_
      refine z_iald hx hb hK hP 1 0 rfl rfl (e := 3) rfl (Nat.le_of_ble_eq_true rfl) (Nat.le_of_ble_eq_true rfl) dX11_isOnlyAt_135 ?_
      refine lv_aload_n hx hb dX11_isOnlyAt_136 rfl (lv_at hl 0 rfl) ?_
      refine va_get (D := (dC, dI)) (ci := 9) (v := .ref (a 32)) (C := RX11) (T := TX11) (N := 55) hx hb hts inX11 hown hK hP 0 rfl rfl 32 (Nat.le_of_ble_eq_true rfl) (hts _ mw_1191) (fun _ h9 => h9) rfl dX11_isOnlyAt_137 ?_
      refine lv_iconst (v := 1) hx hb dX11_isOnlyAt_140 rfl ?_
      refine z_iald hx hb hK hP 1 0 rfl rfl (e := 1) rfl (Nat.le_of_ble_eq_true rfl) (Nat.le_of_ble_eq_true rfl) dX11_isOnlyAt_141 ?_
      refine lv_isub hx hb dX11_isOnlyAt_142 ?_
      refine lv_i2l (v := ((S0 3) - (S0 1)).toInt64) hx hb dX11_isOnlyAt_143 (rfl) ?_
      refine lv_aload_n hx hb dX11_isOnlyAt_144 rfl (lv_at hl 0 rfl) ?_
      refine va_get (D := (dC, dI)) (ci := 9) (v := .ref (a 32)) (C := RX11) (T := TX11) (N := 55) hx hb hts inX11 hown hK hP 0 rfl rfl 32 (Nat.le_of_ble_eq_true rfl) (hts _ mw_1191) (fun _ h9 => h9) rfl dX11_isOnlyAt_145 ?_
      refine lv_bipush (v := 6) hx hb dX11_isOnlyAt_148 rfl ?_
      refine z_iald hx hb hK hP 1 0 rfl rfl (e := 6) rfl (Nat.le_of_ble_eq_true rfl) (Nat.le_of_ble_eq_true rfl) dX11_isOnlyAt_150 ?_
      refine lv_aload_n hx hb dX11_isOnlyAt_151 rfl (lv_at hl 0 rfl) ?_
      refine va_get (D := (dC, dI)) (ci := 9) (v := .ref (a 32)) (C := RX11) (T := TX11) (N := 55) hx hb hts inX11 hown hK hP 0 rfl rfl 32 (Nat.le_of_ble_eq_true rfl) (hts _ mw_1191) (fun _ h9 => h9) rfl dX11_isOnlyAt_152 ?_
      refine lv_iconst (v := 4) hx hb dX11_isOnlyAt_155 rfl ?_
      refine z_iald hx hb hK hP 1 0 rfl rfl (e := 4) rfl (Nat.le_of_ble_eq_true rfl) (Nat.le_of_ble_eq_true rfl) dX11_isOnlyAt_156 ?_
      refine lv_isub hx hb dX11_isOnlyAt_157 ?_
      refine lv_i2l (v := ((S0 6) - (S0 4)).toInt64) hx hb dX11_isOnlyAt_158 (rfl) ?_
      refine lv_lmul hx hb dX11_isOnlyAt_159 ?_
      refine zz_l (v := jI (((S0 3).toInt - (S0 1).toInt) * ((S0 6).toInt - (S0 4).toInt))) (mlL (hs 3 (by omega)) (hs 1 (by omega)) (hs 6 (by omega)) (hs 4 (by omega))) ?_
      refine lv_lsub hx hb dX11_isOnlyAt_160 ?_
      refine zz_l (v := jI (((S0 2).toInt - (S0 0).toInt) * ((S0 7).toInt - (S0 5).toInt) - ((S0 3).toInt - (S0 1).toInt) * ((S0 6).toInt - (S0 4).toInt))) (jI_sub (by omega) (by omega)) ?_
      refine lv_lstore_n (lv' := [(3, .long (jI (((S0 2).toInt - (S0 0).toInt) * ((S0 7).toInt - (S0 5).toInt) - ((S0 3).toInt - (S0 1).toInt) * ((S0 6).toInt - (S0 4).toInt)))), (0, .ref k0), (1, .int px), (2, .int py)]) hx hb dX11_isOnlyAt_161 rfl hl (Nat.le_of_ble_eq_true rfl) rfl (fun ls hl => ?_)
      refine lv_lload_n hx hb dX11_isOnlyAt_162 rfl (lv_at hl 0 rfl) ?_
      refine lv_lconst (v := 0) hx hb dX11_isOnlyAt_163 rfl ?_
      refine W.lcmp hx hb dX11_isOnlyAt_164 ?_
      refine lv_if_eq (tgt := 170) hx hb dX11_isOnlyAt_165 rfl (fun c_3 => ?_) (fun c_3 => ?_)
      · have c_3 : (((S0 2).toInt - (S0 0).toInt) * ((S0 7).toInt - (S0 5).toInt) - ((S0 3).toInt - (S0 1).toInt) * ((S0 6).toInt - (S0 4).toInt)) = 0 := zl_eq (jI_toInt (by omega)) rfl c_3
        refine lv_aload_n hx hb dX11_isOnlyAt_170 rfl (lv_at hl 1 rfl) ?_
        refine lv_aload_n hx hb dX11_isOnlyAt_171 rfl (lv_at hl 1 rfl) ?_
        refine va_get (D := (dC, dI)) (ci := 9) (v := .ref (a 32)) (C := RX11) (T := TX11) (N := 55) hx hb hts inX11 hown hK hP 0 rfl rfl 32 (Nat.le_of_ble_eq_true rfl) (hts _ mw_1191) (fun _ h9 => h9) rfl dX11_isOnlyAt_172 ?_
        refine lv_iconst (v := 4) hx hb dX11_isOnlyAt_175 rfl ?_
        refine z_iald hx hb hK hP 1 0 rfl rfl (e := 4) rfl (Nat.le_of_ble_eq_true rfl) (Nat.le_of_ble_eq_true rfl) dX11_isOnlyAt_176 ?_
        refine lv_aload_n hx hb dX11_isOnlyAt_177 rfl (lv_at hl 1 rfl) ?_
        refine va_get (D := (dC, dI)) (ci := 9) (v := .ref (a 32)) (C := RX11) (T := TX11) (N := 55) hx hb hts inX11 hown hK hP 0 rfl rfl 32 (Nat.le_of_ble_eq_true rfl) (hts _ mw_1191) (fun _ h9 => h9) rfl dX11_isOnlyAt_178 ?_
        refine lv_iconst (v := 5) hx hb dX11_isOnlyAt_181 rfl ?_
        refine z_iald hx hb hK hP 1 0 rfl rfl (e := 5) rfl (Nat.le_of_ble_eq_true rfl) (Nat.le_of_ble_eq_true rfl) dX11_isOnlyAt_182 ?_
        refine lv_iload_n hx hb dX11_isOnlyAt_183 rfl (lv_at hl 2 rfl) ?_
        refine lv_iload_n hx hb dX11_isOnlyAt_184 rfl (lv_at hl 3 rfl) ?_
        obtain ⟨hPc, hDc, hFc, hI1⟩ := zi_sub (wc := [_, _]) hP hD hS hA [0, 1] rfl rfl
        refine zcall (st1 := [.int (pI (0 < dt (S0 4).toInt (S0 5).toInt px.toInt py.toInt (S0 2).toInt (S0 3).toInt))]) (va_runV (As := [.int (S0 4), .int (S0 5), .int px, .int py]) (rest := []) ⟨hx, hb, hml, hown, hts⟩ (k_M_isAhead l dC dI cI cZ cF H.size k0 a I0 J0 (S0 4) (S0 5) px py S0 (by first | with_reducible assumption | assumption) ((hs 4 (by first | with_reducible assumption | omega))) ((hs 5 (by first | with_reducible assumption | omega))) (by first | with_reducible assumption | assumption) (by first | with_reducible assumption | assumption)) (csV_176 hts rfl rfl ⟨Nat.le_of_ble_eq_true rfl, Nat.le_of_ble_eq_true rfl⟩) (zPV2 (q0 := 0) (ci := 9) hPc hDc hK hXN rfl rfl) rfl rfl hl.1 rfl (lv_room (Nat.le_of_ble_eq_true rfl)) dX11_isOnlyAt_185 ⟨Nat.le_of_ble_eq_true rfl, Nat.le_of_ble_eq_true rfl⟩) hS hFc hFc rfl (fun t H locs ht hB hk1 hS => ?_)
        obtain ⟨hP1, hD1⟩ := hB
        rw [ht] at hP1
        replace hP := z0 hP hD hk1 hP1 hI1
        clear hk1 hPc hDc hFc hP1 hD1 ht hI1
        refine lv_if_ne (tgt := 218) hx hb dX11_isOnlyAt_188 rfl (fun c_4 => ?_) (fun c_4 => ?_)
        · have c_4 : 0 < dt (S0 4).toInt (S0 5).toInt px.toInt py.toInt (S0 2).toInt (S0 3).toInt := zp_1 c_4
          refine lv_iconst (v := 0) hx hb dX11_isOnlyAt_218 rfl ?_
          obtain ⟨hP9, hD9⟩ := zu_sub (wc := [_, _]) hP hD [true, true] rfl rfl
          rw [hQ9]
          exact W.zret (ty := .boolean) (v := 0) hx hb hr (rfl) (fun t ht hW => ⟨⟨congrArg (fun z => Outcome.returned (some (Value.int z))) (show (0 : Int32) = pI (oAt (S0 0).toInt (S0 1).toInt (S0 2).toInt (S0 3).toInt (S0 4).toInt (S0 5).toInt (S0 6).toInt (S0 7).toInt px.toInt py.toInt) from (zp_f (by unfold oAt; first | exact ⟨by assumption, Or.inr (Or.inr (Or.inr ⟨by assumption, by assumption⟩))⟩ | exact fun h => h.2.elim (fun h => hne.1 h) (fun h => h.elim (fun h => hne.2 h) (fun h => h.elim (fun h => h (by first | with_reducible assumption | assumption)) (fun h => (by first | exact h.1 (by first | with_reducible assumption | assumption) | exact h.2 (by first | with_reducible assumption | assumption))))))).symm), by rw [ht]; exact hP9, hD9⟩, hS.F ht⟩) hS.2.2 dX11_isOnlyAt_219
        · have c_4 : ¬ (0 < dt (S0 4).toInt (S0 5).toInt px.toInt py.toInt (S0 2).toInt (S0 3).toInt) := zp_0 c_4
          refine lv_aload_n hx hb dX11_isOnlyAt_191 rfl (lv_at hl 1 rfl) ?_
          refine lv_aload_n hx hb dX11_isOnlyAt_192 rfl (lv_at hl 1 rfl) ?_
          refine va_get (D := (dC, dI)) (ci := 9) (v := .ref (a 32)) (C := RX11) (T := TX11) (N := 55) hx hb hts inX11 hown hK hP 0 rfl rfl 32 (Nat.le_of_ble_eq_true rfl) (hts _ mw_1191) (fun _ h9 => h9) rfl dX11_isOnlyAt_193 ?_
          refine lv_bipush (v := 6) hx hb dX11_isOnlyAt_196 rfl ?_
          refine z_iald hx hb hK hP 1 0 rfl rfl (e := 6) rfl (Nat.le_of_ble_eq_true rfl) (Nat.le_of_ble_eq_true rfl) dX11_isOnlyAt_198 ?_
          refine lv_aload_n hx hb dX11_isOnlyAt_199 rfl (lv_at hl 1 rfl) ?_
          refine va_get (D := (dC, dI)) (ci := 9) (v := .ref (a 32)) (C := RX11) (T := TX11) (N := 55) hx hb hts inX11 hown hK hP 0 rfl rfl 32 (Nat.le_of_ble_eq_true rfl) (hts _ mw_1191) (fun _ h9 => h9) rfl dX11_isOnlyAt_200 ?_
          refine lv_bipush (v := 7) hx hb dX11_isOnlyAt_203 rfl ?_
          refine z_iald hx hb hK hP 1 0 rfl rfl (e := 7) rfl (Nat.le_of_ble_eq_true rfl) (Nat.le_of_ble_eq_true rfl) dX11_isOnlyAt_205 ?_
          refine lv_iload_n hx hb dX11_isOnlyAt_206 rfl (lv_at hl 2 rfl) ?_
          refine lv_iload_n hx hb dX11_isOnlyAt_207 rfl (lv_at hl 3 rfl) ?_
          obtain ⟨hPc, hDc, hFc, hI1⟩ := zi_sub (wc := [_, _]) hP hD hS hA [0, 1] rfl rfl
          refine zcall (st1 := [.int (pI (0 < dt (S0 6).toInt (S0 7).toInt px.toInt py.toInt (S0 2).toInt (S0 3).toInt))]) (va_runV (As := [.int (S0 6), .int (S0 7), .int px, .int py]) (rest := []) ⟨hx, hb, hml, hown, hts⟩ (k_M_isAhead l dC dI cI cZ cF H.size k0 a I0 J0 (S0 6) (S0 7) px py S0 (by first | with_reducible assumption | assumption) ((hs 6 (by first | with_reducible assumption | omega))) ((hs 7 (by first | with_reducible assumption | omega))) (by first | with_reducible assumption | assumption) (by first | with_reducible assumption | assumption)) (csV_176 hts rfl rfl ⟨Nat.le_of_ble_eq_true rfl, Nat.le_of_ble_eq_true rfl⟩) (zPV2 (q0 := 0) (ci := 9) hPc hDc hK hXN rfl rfl) rfl rfl hl.1 rfl (lv_room (Nat.le_of_ble_eq_true rfl)) dX11_isOnlyAt_208 ⟨Nat.le_of_ble_eq_true rfl, Nat.le_of_ble_eq_true rfl⟩) hS hFc hFc rfl (fun t H locs ht hB hk1 hS => ?_)
          obtain ⟨hP1, hD1⟩ := hB
          rw [ht] at hP1
          replace hP := z0 hP hD hk1 hP1 hI1
          clear hk1 hPc hDc hFc hP1 hD1 ht hI1
          refine lv_if_ne (tgt := 218) hx hb dX11_isOnlyAt_211 rfl (fun c_5 => ?_) (fun c_5 => ?_)
          · have c_5 : 0 < dt (S0 6).toInt (S0 7).toInt px.toInt py.toInt (S0 2).toInt (S0 3).toInt := zp_1 c_5
            refine lv_iconst (v := 0) hx hb dX11_isOnlyAt_218 rfl ?_
            obtain ⟨hP9, hD9⟩ := zu_sub (wc := [_, _]) hP hD [true, true] rfl rfl
            rw [hQ9]
            exact W.zret (ty := .boolean) (v := 0) hx hb hr (rfl) (fun t ht hW => ⟨⟨congrArg (fun z => Outcome.returned (some (Value.int z))) (show (0 : Int32) = pI (oAt (S0 0).toInt (S0 1).toInt (S0 2).toInt (S0 3).toInt (S0 4).toInt (S0 5).toInt (S0 6).toInt (S0 7).toInt px.toInt py.toInt) from (zp_f (by unfold oAt; first | exact ⟨by assumption, Or.inr (Or.inr (Or.inr ⟨by assumption, by assumption⟩))⟩ | exact fun h => h.2.elim (fun h => hne.1 h) (fun h => h.elim (fun h => hne.2 h) (fun h => h.elim (fun h => h (by first | with_reducible assumption | assumption)) (fun h => (by first | exact h.1 (by first | with_reducible assumption | assumption) | exact h.2 (by first | with_reducible assumption | assumption))))))).symm), by rw [ht]; exact hP9, hD9⟩, hS.F ht⟩) hS.2.2 dX11_isOnlyAt_219
          · have c_5 : ¬ (0 < dt (S0 6).toInt (S0 7).toInt px.toInt py.toInt (S0 2).toInt (S0 3).toInt) := zp_0 c_5
            refine lv_iconst (v := 1) hx hb dX11_isOnlyAt_214 rfl ?_
            refine lv_goto (tgt := 219) hx hb dX11_isOnlyAt_215 rfl ?_
            obtain ⟨hP9, hD9⟩ := zu_sub (wc := [_, _]) hP hD [true, true] rfl rfl
            rw [hQ9]
            exact W.zret (ty := .boolean) (v := 1) hx hb hr (rfl) (fun t ht hW => ⟨⟨congrArg (fun z => Outcome.returned (some (Value.int z))) (show (1 : Int32) = pI (oAt (S0 0).toInt (S0 1).toInt (S0 2).toInt (S0 3).toInt (S0 4).toInt (S0 5).toInt (S0 6).toInt (S0 7).toInt px.toInt py.toInt) from (zp_t (by unfold oAt; first | exact ⟨by assumption, Or.inr (Or.inr (Or.inr ⟨by assumption, by assumption⟩))⟩ | exact fun h => h.2.elim (fun h => hne.1 h) (fun h => h.elim (fun h => hne.2 h) (fun h => h.elim (fun h => h (by first | with_reducible assumption | assumption)) (fun h => (by first | exact h.1 (by first | with_reducible assumption | assumption) | exact h.2 (by first | with_reducible assumption | assumption))))))).symm), by rw [ht]; exact hP9, hD9⟩, hS.F ht⟩) hS.2.2 dX11_isOnlyAt_219
      · have c_3 : ¬ (((S0 2).toInt - (S0 0).toInt) * ((S0 7).toInt - (S0 5).toInt) - ((S0 3).toInt - (S0 1).toInt) * ((S0 6).toInt - (S0 4).toInt)) = 0 := zl_ne (jI_toInt (by omega)) rfl c_3
        refine lv_iconst (v := 1) hx hb dX11_isOnlyAt_168 rfl ?_
        obtain ⟨hP9, hD9⟩ := zu_sub (wc := [_, _]) hP hD [true, true] rfl rfl
        rw [hQ9]
        exact W.zret (ty := .boolean) (v := 1) hx hb hr (rfl) (fun t ht hW => ⟨⟨congrArg (fun z => Outcome.returned (some (Value.int z))) (show (1 : Int32) = pI (oAt (S0 0).toInt (S0 1).toInt (S0 2).toInt (S0 3).toInt (S0 4).toInt (S0 5).toInt (S0 6).toInt (S0 7).toInt px.toInt py.toInt) from (zp_t (by unfold oAt; exact ⟨by assumption, Or.inr (Or.inr (Or.inl (by first | with_reducible assumption | assumption)))⟩)).symm), by rw [ht]; exact hP9, hD9⟩, hS.F ht⟩) hS.2.2 dX11_isOnlyAt_169
    refine lv_aload_n hx hb dX11_isOnlyAt_36 rfl (lv_at hl 0 rfl) ?_
    refine va_get (D := (dC, dI)) (ci := 9) (v := .ref (a 32)) (C := RX11) (T := TX11) (N := 55) hx hb hts inX11 hown hK hP 0 rfl rfl 32 (Nat.le_of_ble_eq_true rfl) (hts _ mw_1191) (fun _ h9 => h9) rfl dX11_isOnlyAt_37 ?_
    refine lv_iconst (v := 0) hx hb dX11_isOnlyAt_40 rfl ?_
    refine z_iald hx hb hK hP 1 0 rfl rfl (e := 0) rfl (Nat.le_of_ble_eq_true rfl) (Nat.le_of_ble_eq_true rfl) dX11_isOnlyAt_41 ?_
    refine lv_aload_n hx hb dX11_isOnlyAt_42 rfl (lv_at hl 0 rfl) ?_
    refine va_get (D := (dC, dI)) (ci := 9) (v := .ref (a 32)) (C := RX11) (T := TX11) (N := 55) hx hb hts inX11 hown hK hP 0 rfl rfl 32 (Nat.le_of_ble_eq_true rfl) (hts _ mw_1191) (fun _ h9 => h9) rfl dX11_isOnlyAt_43 ?_
    refine lv_iconst (v := 2) hx hb dX11_isOnlyAt_46 rfl ?_
    refine z_iald hx hb hK hP 1 0 rfl rfl (e := 2) rfl (Nat.le_of_ble_eq_true rfl) (Nat.le_of_ble_eq_true rfl) dX11_isOnlyAt_47 ?_
    refine lv_icmp_ne (tgt := 66) hx hb dX11_isOnlyAt_48 rfl (fun c_6 => ?_) (fun c_6 => ?_)
    · have c_6 : ¬ (S0 0).toInt = (S0 2).toInt := zc_ne rfl rfl c_6
      refine lv_aload_n hx hb dX11_isOnlyAt_66 rfl (lv_at hl 0 rfl) ?_
      refine va_get (D := (dC, dI)) (ci := 9) (v := .ref (a 32)) (C := RX11) (T := TX11) (N := 55) hx hb hts inX11 hown hK hP 0 rfl rfl 32 (Nat.le_of_ble_eq_true rfl) (hts _ mw_1191) (fun _ h9 => h9) rfl dX11_isOnlyAt_67 ?_
      refine lv_iconst (v := 4) hx hb dX11_isOnlyAt_70 rfl ?_
      refine z_iald hx hb hK hP 1 0 rfl rfl (e := 4) rfl (Nat.le_of_ble_eq_true rfl) (Nat.le_of_ble_eq_true rfl) dX11_isOnlyAt_71 ?_
      refine lv_aload_n hx hb dX11_isOnlyAt_72 rfl (lv_at hl 0 rfl) ?_
      refine va_get (D := (dC, dI)) (ci := 9) (v := .ref (a 32)) (C := RX11) (T := TX11) (N := 55) hx hb hts inX11 hown hK hP 0 rfl rfl 32 (Nat.le_of_ble_eq_true rfl) (hts _ mw_1191) (fun _ h9 => h9) rfl dX11_isOnlyAt_73 ?_
      refine lv_bipush (v := 6) hx hb dX11_isOnlyAt_76 rfl ?_
      refine z_iald hx hb hK hP 1 0 rfl rfl (e := 6) rfl (Nat.le_of_ble_eq_true rfl) (Nat.le_of_ble_eq_true rfl) dX11_isOnlyAt_78 ?_
      refine lv_icmp_ne (tgt := 100) hx hb dX11_isOnlyAt_79 rfl (fun c_7 => ?_) (fun c_7 => ?_)
      · have c_7 : ¬ (S0 4).toInt = (S0 6).toInt := zc_ne rfl rfl c_7
        exact hj_2 (by omega)
      · have c_7 : (S0 4).toInt = (S0 6).toInt := zc_eq rfl rfl c_7
        refine lv_aload_n hx hb dX11_isOnlyAt_82 rfl (lv_at hl 0 rfl) ?_
        refine va_get (D := (dC, dI)) (ci := 9) (v := .ref (a 32)) (C := RX11) (T := TX11) (N := 55) hx hb hts inX11 hown hK hP 0 rfl rfl 32 (Nat.le_of_ble_eq_true rfl) (hts _ mw_1191) (fun _ h9 => h9) rfl dX11_isOnlyAt_83 ?_
        refine lv_iconst (v := 5) hx hb dX11_isOnlyAt_86 rfl ?_
        refine z_iald hx hb hK hP 1 0 rfl rfl (e := 5) rfl (Nat.le_of_ble_eq_true rfl) (Nat.le_of_ble_eq_true rfl) dX11_isOnlyAt_87 ?_
        refine lv_aload_n hx hb dX11_isOnlyAt_88 rfl (lv_at hl 0 rfl) ?_
        refine va_get (D := (dC, dI)) (ci := 9) (v := .ref (a 32)) (C := RX11) (T := TX11) (N := 55) hx hb hts inX11 hown hK hP 0 rfl rfl 32 (Nat.le_of_ble_eq_true rfl) (hts _ mw_1191) (fun _ h9 => h9) rfl dX11_isOnlyAt_89 ?_
        refine lv_bipush (v := 7) hx hb dX11_isOnlyAt_92 rfl ?_
        refine z_iald hx hb hK hP 1 0 rfl rfl (e := 7) rfl (Nat.le_of_ble_eq_true rfl) (Nat.le_of_ble_eq_true rfl) dX11_isOnlyAt_94 ?_
        refine lv_icmp_ne (tgt := 100) hx hb dX11_isOnlyAt_95 rfl (fun c_8 => ?_) (fun c_8 => ?_)
        · have c_8 : ¬ (S0 5).toInt = (S0 7).toInt := zc_ne rfl rfl c_8
          exact hj_2 (by omega)
        · have c_8 : (S0 5).toInt = (S0 7).toInt := zc_eq rfl rfl c_8
          refine lv_iconst (v := 1) hx hb dX11_isOnlyAt_98 rfl ?_
          obtain ⟨hP9, hD9⟩ := zu_sub (wc := [_, _]) hP hD [true, true] rfl rfl
          rw [hQ9]
          exact W.zret (ty := .boolean) (v := 1) hx hb hr (rfl) (fun t ht hW => ⟨⟨congrArg (fun z => Outcome.returned (some (Value.int z))) (show (1 : Int32) = pI (oAt (S0 0).toInt (S0 1).toInt (S0 2).toInt (S0 3).toInt (S0 4).toInt (S0 5).toInt (S0 6).toInt (S0 7).toInt px.toInt py.toInt) from (zp_t (by unfold oAt; exact ⟨by assumption, by omega⟩)).symm), by rw [ht]; exact hP9, hD9⟩, hS.F ht⟩) hS.2.2 dX11_isOnlyAt_99
    · have c_6 : (S0 0).toInt = (S0 2).toInt := zc_eq rfl rfl c_6
      refine lv_aload_n hx hb dX11_isOnlyAt_51 rfl (lv_at hl 0 rfl) ?_
      refine va_get (D := (dC, dI)) (ci := 9) (v := .ref (a 32)) (C := RX11) (T := TX11) (N := 55) hx hb hts inX11 hown hK hP 0 rfl rfl 32 (Nat.le_of_ble_eq_true rfl) (hts _ mw_1191) (fun _ h9 => h9) rfl dX11_isOnlyAt_52 ?_
      refine lv_iconst (v := 1) hx hb dX11_isOnlyAt_55 rfl ?_
      refine z_iald hx hb hK hP 1 0 rfl rfl (e := 1) rfl (Nat.le_of_ble_eq_true rfl) (Nat.le_of_ble_eq_true rfl) dX11_isOnlyAt_56 ?_
      refine lv_aload_n hx hb dX11_isOnlyAt_57 rfl (lv_at hl 0 rfl) ?_
      refine va_get (D := (dC, dI)) (ci := 9) (v := .ref (a 32)) (C := RX11) (T := TX11) (N := 55) hx hb hts inX11 hown hK hP 0 rfl rfl 32 (Nat.le_of_ble_eq_true rfl) (hts _ mw_1191) (fun _ h9 => h9) rfl dX11_isOnlyAt_58 ?_
      refine lv_iconst (v := 3) hx hb dX11_isOnlyAt_61 rfl ?_
      refine z_iald hx hb hK hP 1 0 rfl rfl (e := 3) rfl (Nat.le_of_ble_eq_true rfl) (Nat.le_of_ble_eq_true rfl) dX11_isOnlyAt_62 ?_
      refine lv_icmp_eq (tgt := 98) hx hb dX11_isOnlyAt_63 rfl (fun c_9 => ?_) (fun c_9 => ?_)
      · have c_9 : (S0 1).toInt = (S0 3).toInt := zc_eq rfl rfl c_9
        refine lv_iconst (v := 1) hx hb dX11_isOnlyAt_98 rfl ?_
        obtain ⟨hP9, hD9⟩ := zu_sub (wc := [_, _]) hP hD [true, true] rfl rfl
        rw [hQ9]
        exact W.zret (ty := .boolean) (v := 1) hx hb hr (rfl) (fun t ht hW => ⟨⟨congrArg (fun z => Outcome.returned (some (Value.int z))) (show (1 : Int32) = pI (oAt (S0 0).toInt (S0 1).toInt (S0 2).toInt (S0 3).toInt (S0 4).toInt (S0 5).toInt (S0 6).toInt (S0 7).toInt px.toInt py.toInt) from (zp_t (by unfold oAt; exact ⟨by assumption, by omega⟩)).symm), by rw [ht]; exact hP9, hD9⟩, hS.F ht⟩) hS.2.2 dX11_isOnlyAt_99
      · have c_9 : ¬ (S0 1).toInt = (S0 3).toInt := zc_ne rfl rfl c_9
        refine lv_aload_n hx hb dX11_isOnlyAt_66 rfl (lv_at hl 0 rfl) ?_
        refine va_get (D := (dC, dI)) (ci := 9) (v := .ref (a 32)) (C := RX11) (T := TX11) (N := 55) hx hb hts inX11 hown hK hP 0 rfl rfl 32 (Nat.le_of_ble_eq_true rfl) (hts _ mw_1191) (fun _ h9 => h9) rfl dX11_isOnlyAt_67 ?_
        refine lv_iconst (v := 4) hx hb dX11_isOnlyAt_70 rfl ?_
        refine z_iald hx hb hK hP 1 0 rfl rfl (e := 4) rfl (Nat.le_of_ble_eq_true rfl) (Nat.le_of_ble_eq_true rfl) dX11_isOnlyAt_71 ?_
        refine lv_aload_n hx hb dX11_isOnlyAt_72 rfl (lv_at hl 0 rfl) ?_
        refine va_get (D := (dC, dI)) (ci := 9) (v := .ref (a 32)) (C := RX11) (T := TX11) (N := 55) hx hb hts inX11 hown hK hP 0 rfl rfl 32 (Nat.le_of_ble_eq_true rfl) (hts _ mw_1191) (fun _ h9 => h9) rfl dX11_isOnlyAt_73 ?_
        refine lv_bipush (v := 6) hx hb dX11_isOnlyAt_76 rfl ?_
        refine z_iald hx hb hK hP 1 0 rfl rfl (e := 6) rfl (Nat.le_of_ble_eq_true rfl) (Nat.le_of_ble_eq_true rfl) dX11_isOnlyAt_78 ?_
        refine lv_icmp_ne (tgt := 100) hx hb dX11_isOnlyAt_79 rfl (fun c_10 => ?_) (fun c_10 => ?_)
        · have c_10 : ¬ (S0 4).toInt = (S0 6).toInt := zc_ne rfl rfl c_10
          exact hj_2 (by omega)
        · have c_10 : (S0 4).toInt = (S0 6).toInt := zc_eq rfl rfl c_10
          refine lv_aload_n hx hb dX11_isOnlyAt_82 rfl (lv_at hl 0 rfl) ?_
          refine va_get (D := (dC, dI)) (ci := 9) (v := .ref (a 32)) (C := RX11) (T := TX11) (N := 55) hx hb hts inX11 hown hK hP 0 rfl rfl 32 (Nat.le_of_ble_eq_true rfl) (hts _ mw_1191) (fun _ h9 => h9) rfl dX11_isOnlyAt_83 ?_
          refine lv_iconst (v := 5) hx hb dX11_isOnlyAt_86 rfl ?_
          refine z_iald hx hb hK hP 1 0 rfl rfl (e := 5) rfl (Nat.le_of_ble_eq_true rfl) (Nat.le_of_ble_eq_true rfl) dX11_isOnlyAt_87 ?_
          refine lv_aload_n hx hb dX11_isOnlyAt_88 rfl (lv_at hl 0 rfl) ?_
          refine va_get (D := (dC, dI)) (ci := 9) (v := .ref (a 32)) (C := RX11) (T := TX11) (N := 55) hx hb hts inX11 hown hK hP 0 rfl rfl 32 (Nat.le_of_ble_eq_true rfl) (hts _ mw_1191) (fun _ h9 => h9) rfl dX11_isOnlyAt_89 ?_
          refine lv_bipush (v := 7) hx hb dX11_isOnlyAt_92 rfl ?_
          refine z_iald hx hb hK hP 1 0 rfl rfl (e := 7) rfl (Nat.le_of_ble_eq_true rfl) (Nat.le_of_ble_eq_true rfl) dX11_isOnlyAt_94 ?_
          refine lv_icmp_ne (tgt := 100) hx hb dX11_isOnlyAt_95 rfl (fun c_11 => ?_) (fun c_11 => ?_)
          · have c_11 : ¬ (S0 5).toInt = (S0 7).toInt := zc_ne rfl rfl c_11
            exact hj_2 (by omega)
          · have c_11 : (S0 5).toInt = (S0 7).toInt := zc_eq rfl rfl c_11
            refine lv_iconst (v := 1) hx hb dX11_isOnlyAt_98 rfl ?_
            obtain ⟨hP9, hD9⟩ := zu_sub (wc := [_, _]) hP hD [true, true] rfl rfl
            rw [hQ9]
            exact W.zret (ty := .boolean) (v := 1) hx hb hr (rfl) (fun t ht hW => ⟨⟨congrArg (fun z => Outcome.returned (some (Value.int z))) (show (1 : Int32) = pI (oAt (S0 0).toInt (S0 1).toInt (S0 2).toInt (S0 3).toInt (S0 4).toInt (S0 5).toInt (S0 6).toInt (S0 7).toInt px.toInt py.toInt) from (zp_t (by unfold oAt; exact ⟨by assumption, by omega⟩)).symm), by rw [ht]; exact hP9, hD9⟩, hS.F ht⟩) hS.2.2 dX11_isOnlyAt_99
  · have c_1 : ¬ (onS (S0 4).toInt (S0 5).toInt (S0 6).toInt (S0 7).toInt px.toInt py.toInt) := zp_0 c_1
    refine lv_iconst (v := 0) hx hb dX11_isOnlyAt_34 rfl ?_
    obtain ⟨hP9, hD9⟩ := zu_sub (wc := [_, _]) hP hD [true, true] rfl rfl
    rw [hQ9]
    exact W.zret (ty := .boolean) (v := 0) hx hb hr (rfl) (fun t ht hW => ⟨⟨congrArg (fun z => Outcome.returned (some (Value.int z))) (show (0 : Int32) = pI (oAt (S0 0).toInt (S0 1).toInt (S0 2).toInt (S0 3).toInt (S0 4).toInt (S0 5).toInt (S0 6).toInt (S0 7).toInt px.toInt py.toInt) from (zp_f (fun h => absurd h.1 (by first | with_reducible assumption | assumption))).symm), by rw [ht]; exact hP9, hD9⟩, hS.F ht⟩) hS.2.2 dX11_isOnlyAt_35
end
section
set_option maxHeartbeats 4000000 in
set_option maxRecDepth 100000 in
theorem k_M_isFreeWay (l : Launch) (dC : Nat → ClassId) (dI : Nat → Nat → Nat) (cI cZ cF : ClassId) (sz : Nat) (k0 : Nat) (a : Nat → Nat) (I0 : Nat → Int32) (J0 : Nat → Int64) (f : Nat) (g : Nat) (m2 : Nat) (kd : Nat → Int32) (mn : Nat → Int32) (cx : Nat → Int32) (cy : Nat → Int32) (S0 : Nat → Int32) (ox : Nat → Int32) (oy : Nat → Int32) (hf_f : f ≤ 200) (k1 : pl (ox 0)) (k2 : pl (oy 0)) (k3 : pl (cx (40 * f))) (k4 : pl (cy (40 * f))) (hf_g : g ≤ 200) (hm_g : mn g = nI m2) (hn_g : 1 ≤ m2 ∧ m2 ≤ 40) (hp_g : pls m2 (cF40 cx g) (cF40 cy g)) : zM l yX11_isFreeWay cX11_isFreeWay 8 (some .boolean) ({ frames := 3, cells := 0, slots := 0, locals := 81 } : Room) [.ref k0, .int (nI f), .int (nI g)] (dC, dI) (zTy cI cZ cF) [(om k0 a I0 J0), (oa (a 1) cI 201 kd), (oa (a 11) cI 201 mn), (oa (a 12) cI 8040 cx), (oa (a 13) cI 8040 cy), (oa (a 32) cI 8 S0), (oa (a 33) cI 42 ox), (oa (a 34) cI 42 oy)] sz (some (.int (pI (∀ k, k < eO (kd g).toInt m2 → fWy (ox 0).toInt (oy 0).toInt (cx (40 * f)).toInt (cy (40 * f)).toInt m2 (cF40 cx g) (cF40 cy g) k)))) (fun A t => ∃ (S1 : Nat → Int32), zPD (dC, dI) classes A [(om k0 a I0 J0), (oa (a 1) cI 201 kd), (oa (a 11) cI 201 mn), (oa (a 12) cI 8040 cx), (oa (a 13) cI 8040 cy), (oa (a 32) cI 8 S1), (oa (a 33) cI 42 ox), (oa (a 34) cI 42 oy)] t.heap) 0 0 := by
  refine zIn (own := "ScaleShopModel") (loc := [(0, .ref k0), (1, .int (nI f)), (2, .int (nI g))]) rfl rfl rfl rfl (fun p e s m below meth c hx hb hr hts hown hlocks hml hnm9 A hA hS hP hD hK hXN Q9 hQ9 ls hl => ?_)
  have heg := eO_le (k := (kd g).toInt) hn_g.1
  refine lv_aload_n hx hb dX11_isFreeWay_0 rfl (lv_at hl 0 rfl) ?_
  refine va_get (D := (dC, dI)) (ci := 9) (v := .ref (a 33)) (C := RX11) (T := TX11) (N := 55) hx hb hts inX11 hown hK hP 0 rfl rfl 33 (Nat.le_of_ble_eq_true rfl) (hts _ mw_1192) (fun _ h9 => h9) rfl dX11_isFreeWay_1 ?_
  refine lv_iconst (v := 0) hx hb dX11_isFreeWay_4 rfl ?_
  refine z_iald hx hb hK hP 6 0 rfl rfl (e := 0) rfl (Nat.le_of_ble_eq_true rfl) (Nat.le_of_ble_eq_true rfl) dX11_isFreeWay_5 ?_
  refine lv_istore_n (lv' := [(3, .int (ox 0)), (0, .ref k0), (1, .int (nI f)), (2, .int (nI g))]) hx hb dX11_isFreeWay_6 rfl hl (Nat.le_of_ble_eq_true rfl) rfl (fun ls hl => ?_)
  refine lv_aload_n hx hb dX11_isFreeWay_7 rfl (lv_at hl 1 rfl) ?_
  refine va_get (D := (dC, dI)) (ci := 9) (v := .ref (a 34)) (C := RX11) (T := TX11) (N := 55) hx hb hts inX11 hown hK hP 0 rfl rfl 34 (Nat.le_of_ble_eq_true rfl) (hts _ mw_1193) (fun _ h9 => h9) rfl dX11_isFreeWay_8 ?_
  refine lv_iconst (v := 0) hx hb dX11_isFreeWay_11 rfl ?_
  refine z_iald hx hb hK hP 7 0 rfl rfl (e := 0) rfl (Nat.le_of_ble_eq_true rfl) (Nat.le_of_ble_eq_true rfl) dX11_isFreeWay_12 ?_
  refine lv_istore (lv' := [(4, .int (oy 0)), (3, .int (ox 0)), (0, .ref k0), (1, .int (nI f)), (2, .int (nI g))]) hx hb dX11_isFreeWay_13 hl (Nat.le_of_ble_eq_true rfl) rfl (fun ls hl => ?_)
  refine lv_aload_n hx hb dX11_isFreeWay_15 rfl (lv_at hl 2 rfl) ?_
  refine va_get (D := (dC, dI)) (ci := 9) (v := .ref (a 12)) (C := RX11) (T := TX11) (N := 55) hx hb hts inX11 hown hK hP 0 rfl rfl 12 (Nat.le_of_ble_eq_true rfl) (hts _ mw_1171) (fun _ h9 => h9) rfl dX11_isFreeWay_16 ?_
  refine lv_bipush (v := 40) hx hb dX11_isFreeWay_19 rfl ?_
  refine lv_iload_n hx hb dX11_isFreeWay_21 rfl (lv_at hl 3 rfl) ?_
  refine lv_imul hx hb dX11_isFreeWay_22 ?_
  refine zz_i (v := nI (40 * f)) (pk_mul 40 f) ?_
  have b9_1 : 40 * f < 8040 := by omega
  refine z_iald hx hb hK hP 3 0 rfl rfl (e := 40 * f) rfl b9_1 (Nat.le_of_ble_eq_true rfl) dX11_isFreeWay_23 ?_
  refine lv_istore (lv' := [(5, .int (cx (40 * f))), (4, .int (oy 0)), (3, .int (ox 0)), (0, .ref k0), (1, .int (nI f)), (2, .int (nI g))]) hx hb dX11_isFreeWay_24 hl (Nat.le_of_ble_eq_true rfl) rfl (fun ls hl => ?_)
  refine lv_aload_n hx hb dX11_isFreeWay_26 rfl (lv_at hl 3 rfl) ?_
  refine va_get (D := (dC, dI)) (ci := 9) (v := .ref (a 13)) (C := RX11) (T := TX11) (N := 55) hx hb hts inX11 hown hK hP 0 rfl rfl 13 (Nat.le_of_ble_eq_true rfl) (hts _ mw_1172) (fun _ h9 => h9) rfl dX11_isFreeWay_27 ?_
  refine lv_bipush (v := 40) hx hb dX11_isFreeWay_30 rfl ?_
  refine lv_iload_n hx hb dX11_isFreeWay_32 rfl (lv_at hl 4 rfl) ?_
  refine lv_imul hx hb dX11_isFreeWay_33 ?_
  refine zz_i (v := nI (40 * f)) (pk_mul 40 f) ?_
  refine z_iald hx hb hK hP 4 0 rfl rfl (e := 40 * f) rfl b9_1 (Nat.le_of_ble_eq_true rfl) dX11_isFreeWay_34 ?_
  refine lv_istore (lv' := [(6, .int (cy (40 * f))), (5, .int (cx (40 * f))), (4, .int (oy 0)), (3, .int (ox 0)), (0, .ref k0), (1, .int (nI f)), (2, .int (nI g))]) hx hb dX11_isFreeWay_35 hl (Nat.le_of_ble_eq_true rfl) rfl (fun ls hl => ?_)
  refine lv_iconst (v := 0) hx hb dX11_isFreeWay_37 rfl ?_
  refine lv_istore (lv' := [(7, .int 0), (6, .int (cy (40 * f))), (5, .int (cx (40 * f))), (4, .int (oy 0)), (3, .int (ox 0)), (0, .ref k0), (1, .int (nI f)), (2, .int (nI g))]) hx hb dX11_isFreeWay_38 hl (Nat.le_of_ble_eq_true rfl) rfl (fun ls hl => ?_)
  have hl_40 : ∀ (n9 : Nat) (k : Nat) (S1 : Nat → Int32) (H : Heap) (locs : List Loc) (ls : Array Slot), eO (kd g).toInt m2 - k < n9 → (k ≤ eO (kd g).toInt m2) → (∀ j, j < k → fWy (ox 0).toInt (oy 0).toInt (cx (40 * f)).toInt (cy (40 * f)).toInt m2 (cF40 cx g) (cF40 cy g) j) → va_P (dC, dI) classes [(om k0 a I0 J0), (oa (a 1) cI 201 kd), (oa (a 11) cI 201 mn), (oa (a 12) cI 8040 cx), (oa (a 13) cI 8040 cy), (oa (a 32) cI 8 S1), (oa (a 33) cI 42 ox), (oa (a 34) cI 42 oy)] H → va_D A [(om k0 a I0 J0), (oa (a 1) cI 201 kd), (oa (a 11) cI 201 mn), (oa (a 12) cI 8040 cx), (oa (a 13) cI 8040 cy), (oa (a 32) cI 8 S1), (oa (a 33) cI 42 ox), (oa (a 34) cI 42 oy)] → va_S A s.heap H locs → lv_has ls 8 [(7, .int (nI k)), (6, .int (cy (40 * f))), (5, .int (cx (40 * f))), (4, .int (oy 0)), (3, .int (ox 0)), (0, .ref k0), (1, .int (nI f)), (2, .int (nI g))] → W p l e ({ frames := 3, cells := 0, slots := 0, locals := 81 } : Room) s m ([.ref k0, .int (nI f), .int (nI g)] : List Value).toArray below meth c H locs 0 0 Q9 (F0 m 40 ls []) := by
    intro n9
    induction n9 with
    | zero => intro k S1 H locs ls hm; exact absurd hm (Nat.not_lt_zero _)
    | succ n9 ih_40 =>
      intro k S1 H locs ls hm hk hall hP hD hS hl
      refine lv_iload hx hb dX11_isFreeWay_40 (lv_at hl 0 rfl) ?_
      refine lv_aload_n hx hb dX11_isFreeWay_42 rfl (lv_at hl 5 rfl) ?_
      refine lv_iload_n hx hb dX11_isFreeWay_43 rfl (lv_at hl 7 rfl) ?_
      obtain ⟨hPc, hDc, hFc, hI1⟩ := zi_sub (wc := [_, _, _]) hP hD hS hA [0, 1, 2] rfl rfl
      refine zcall (st1 := [.int (nI (eO (kd g).toInt m2)), .int (nI k)]) (va_runV (As := [.int (nI g)]) (rest := [.int (nI k)]) ⟨hx, hb, hml, hown, hts⟩ (k_M_edgesOf l dC dI cI cZ cF H.size k0 a I0 J0 g m2 kd mn (by first | with_reducible assumption | omega) (by first | with_reducible assumption | assumption) (by first | with_reducible assumption | omega)) (csV_166 hts rfl rfl ⟨Nat.le_of_ble_eq_true rfl, Nat.le_of_ble_eq_true rfl⟩) (zPV2 (q0 := 0) (ci := 9) hPc hDc hK hXN rfl rfl) rfl rfl hl.1 rfl (lv_room (Nat.le_of_ble_eq_true rfl)) dX11_isFreeWay_44 ⟨Nat.le_of_ble_eq_true rfl, Nat.le_of_ble_eq_true rfl⟩) hS hFc hFc rfl (fun t H locs ht hB hk1 hS => ?_)
      obtain ⟨hP1, hD1⟩ := hB
      rw [ht] at hP1
      replace hP := z0 hP hD hk1 hP1 hI1
      clear hk1 hPc hDc hFc hP1 hD1 ht hI1
      have b9_3 : zlt (k) := show k < 2147483648 by omega
      have b9_4 : zlt ((eO (kd g).toInt m2)) := show (eO (kd g).toInt m2) < 2147483648 by omega
      refine lv_icmp_ge (tgt := 117) hx hb dX11_isFreeWay_47 rfl (fun c_2 => ?_) (fun c_2 => ?_)
      · have c_2 : ((eO (kd g).toInt m2 : Nat) : Int) ≤ ((k : Nat) : Int) := zc_le (nI_toInt b9_4) (nI_toInt b9_3) c_2
        refine lv_iconst (v := 1) hx hb dX11_isFreeWay_117 rfl ?_
        obtain ⟨hP9, hD9⟩ := zu_sub (wc := [_, _, _, _, _, _, _, _]) hP hD [true, true, true, true, true, true, true, true] rfl rfl
        rw [hQ9]
        exact W.zret (ty := .boolean) (v := 1) hx hb hr (rfl) (fun t ht hW => ⟨⟨congrArg (fun z => Outcome.returned (some (Value.int z))) (show (1 : Int32) = pI (∀ k, k < eO (kd g).toInt m2 → fWy (ox 0).toInt (oy 0).toInt (cx (40 * f)).toInt (cy (40 * f)).toInt m2 (cF40 cx g) (cF40 cy g) k) from (zp_t (fun j hj => hall j (by omega))).symm), S1, by rw [ht]; exact hP9, hD9⟩, hS.F ht⟩) hS.2.2 dX11_isFreeWay_118
      · have c_2 : ((k : Nat) : Int) < ((eO (kd g).toInt m2 : Nat) : Int) := zc_nle (nI_toInt b9_4) (nI_toInt b9_3) c_2
        have hk9 : k < m2 := (by omega)
        have hnk := nxt_lt (n := m2) (i := k) (by omega)
        refine lv_aload_n hx hb dX11_isFreeWay_50 rfl (lv_at hl 5 rfl) ?_
        refine lv_iload_n hx hb dX11_isFreeWay_51 rfl (lv_at hl 7 rfl) ?_
        refine lv_iload hx hb dX11_isFreeWay_52 (lv_at hl 0 rfl) ?_
        refine lv_iconst (v := 4) hx hb dX11_isFreeWay_54 rfl ?_
        obtain ⟨hPc, hDc, hFc⟩ := zo_sub (wc := [_, _, _, _, _]) hP hD hS hA [0, 2, 3, 4, 5] (by decide +kernel) rfl
        refine zcall (st1 := []) (va_runV (As := [.int (nI g), .int (nI k), .int 4]) (rest := []) ⟨hx, hb, hml, hown, hts⟩ (k_M_edge l dC dI cI cZ cF H.size k0 a I0 J0 g m2 k 4 mn cx cy S1 (by first | with_reducible assumption | omega) (by first | with_reducible assumption | assumption) (by first | with_reducible assumption | omega) (by first | with_reducible assumption | omega) (by first | with_reducible assumption | omega)) (csV_167 hts rfl rfl ⟨Nat.le_of_ble_eq_true rfl, Nat.le_of_ble_eq_true rfl⟩) (zPV2 (q0 := 0) (ci := 9) hPc hDc hK hXN rfl rfl) rfl rfl hl.1 rfl (lv_room (Nat.le_of_ble_eq_true rfl)) dX11_isFreeWay_55 ⟨Nat.le_of_ble_eq_true rfl, Nat.le_of_ble_eq_true rfl⟩) hS hFc hFc rfl (fun t H locs ht hB hk1 hS => ?_)
        obtain ⟨S2, u0, u1, u2, u3, ur, hP1, hD1⟩ := hB
        rw [ht] at hP1
        obtain ⟨hP, hD⟩ := zn (W2 := [_, _, _, _, _, (oa (a 32) cI 8 S2), _, _]) hP hD hk1 hFc hP1 hD1 [0, 2, 3, 4, 5] zl_145 zl_145 [0, 2, 3, 4, 5] (by decide +kernel) rfl rfl rfl rfl rfl
        clear hk1 hPc hDc hFc hP1 hD1 ht
        refine lv_aload_n hx hb dX11_isFreeWay_58 rfl (lv_at hl 5 rfl) ?_
        refine va_get (D := (dC, dI)) (ci := 9) (v := .ref (a 32)) (C := RX11) (T := TX11) (N := 55) hx hb hts inX11 hown hK hP 0 rfl rfl 32 (Nat.le_of_ble_eq_true rfl) (hts _ mw_1191) (fun _ h9 => h9) rfl dX11_isFreeWay_59 ?_
        refine lv_iconst (v := 0) hx hb dX11_isFreeWay_62 rfl ?_
        refine lv_iload_n hx hb dX11_isFreeWay_63 rfl (lv_at hl 4 rfl) ?_
        refine z_iast hx hb hK hP hD hS 5 0 rfl rfl (e := 0) (x := ox 0) rfl (Nat.le_of_ble_eq_true rfl) (Nat.le_of_ble_eq_true rfl) dX11_isFreeWay_64 (fun H locs hP hD hS => ?_)
        obtain ⟨hP, hD⟩ := zre (W2 := [_, _, _, _, _, (oa (a 32) cI 8 (upd S2 0 (ox 0))), _, _]) hP hD rfl
        refine lv_aload_n hx hb dX11_isFreeWay_65 rfl (lv_at hl 5 rfl) ?_
        refine va_get (D := (dC, dI)) (ci := 9) (v := .ref (a 32)) (C := RX11) (T := TX11) (N := 55) hx hb hts inX11 hown hK hP 0 rfl rfl 32 (Nat.le_of_ble_eq_true rfl) (hts _ mw_1191) (fun _ h9 => h9) rfl dX11_isFreeWay_66 ?_
        refine lv_iconst (v := 1) hx hb dX11_isFreeWay_69 rfl ?_
        refine lv_iload hx hb dX11_isFreeWay_70 (lv_at hl 3 rfl) ?_
        refine z_iast hx hb hK hP hD hS 5 0 rfl rfl (e := 1) (x := oy 0) rfl (Nat.le_of_ble_eq_true rfl) (Nat.le_of_ble_eq_true rfl) dX11_isFreeWay_72 (fun H locs hP hD hS => ?_)
        obtain ⟨hP, hD⟩ := zre (W2 := [_, _, _, _, _, (oa (a 32) cI 8 (upd (upd S2 0 (ox 0)) 1 (oy 0))), _, _]) hP hD rfl
        refine lv_aload_n hx hb dX11_isFreeWay_73 rfl (lv_at hl 5 rfl) ?_
        refine va_get (D := (dC, dI)) (ci := 9) (v := .ref (a 32)) (C := RX11) (T := TX11) (N := 55) hx hb hts inX11 hown hK hP 0 rfl rfl 32 (Nat.le_of_ble_eq_true rfl) (hts _ mw_1191) (fun _ h9 => h9) rfl dX11_isFreeWay_74 ?_
        refine lv_iconst (v := 2) hx hb dX11_isFreeWay_77 rfl ?_
        refine lv_iload hx hb dX11_isFreeWay_78 (lv_at hl 2 rfl) ?_
        refine z_iast hx hb hK hP hD hS 5 0 rfl rfl (e := 2) (x := cx (40 * f)) rfl (Nat.le_of_ble_eq_true rfl) (Nat.le_of_ble_eq_true rfl) dX11_isFreeWay_80 (fun H locs hP hD hS => ?_)
        obtain ⟨hP, hD⟩ := zre (W2 := [_, _, _, _, _, (oa (a 32) cI 8 (upd (upd (upd S2 0 (ox 0)) 1 (oy 0)) 2 (cx (40 * f)))), _, _]) hP hD rfl
        refine lv_aload_n hx hb dX11_isFreeWay_81 rfl (lv_at hl 5 rfl) ?_
        refine va_get (D := (dC, dI)) (ci := 9) (v := .ref (a 32)) (C := RX11) (T := TX11) (N := 55) hx hb hts inX11 hown hK hP 0 rfl rfl 32 (Nat.le_of_ble_eq_true rfl) (hts _ mw_1191) (fun _ h9 => h9) rfl dX11_isFreeWay_82 ?_
        refine lv_iconst (v := 3) hx hb dX11_isFreeWay_85 rfl ?_
        refine lv_iload hx hb dX11_isFreeWay_86 (lv_at hl 1 rfl) ?_
        refine z_iast hx hb hK hP hD hS 5 0 rfl rfl (e := 3) (x := cy (40 * f)) rfl (Nat.le_of_ble_eq_true rfl) (Nat.le_of_ble_eq_true rfl) dX11_isFreeWay_88 (fun H locs hP hD hS => ?_)
        obtain ⟨hP, hD⟩ := zre (W2 := [_, _, _, _, _, (oa (a 32) cI 8 (upd (upd (upd (upd S2 0 (ox 0)) 1 (oy 0)) 2 (cx (40 * f))) 3 (cy (40 * f)))), _, _]) hP hD rfl
        have w4 : (upd (upd (upd (upd S2 0 (ox 0)) 1 (oy 0)) 2 (cx (40 * f))) 3 (cy (40 * f))) 4 = cF40 cx g k := u0
        have w5 : (upd (upd (upd (upd S2 0 (ox 0)) 1 (oy 0)) 2 (cx (40 * f))) 3 (cy (40 * f))) 5 = cF40 cy g k := u1
        have w6 : (upd (upd (upd (upd S2 0 (ox 0)) 1 (oy 0)) 2 (cx (40 * f))) 3 (cy (40 * f))) 6 = cF40 cx g (nxt m2 k) := u2
        have w7 : (upd (upd (upd (upd S2 0 (ox 0)) 1 (oy 0)) 2 (cx (40 * f))) 3 (cy (40 * f))) 7 = cF40 cy g (nxt m2 k) := u3
        have hs3 := sPl (S := upd (upd (upd (upd S2 0 (ox 0)) 1 (oy 0)) 2 (cx (40 * f))) 3 (cy (40 * f))) k1 k2 k3 k4 (by rw [w4]; exact (hp_g k hk9).1) (by rw [w5]; exact (hp_g k hk9).2) (by rw [w6]; exact (hp_g _ hnk).1) (by rw [w7]; exact (hp_g _ hnk).2)
        refine lv_aload_n hx hb dX11_isFreeWay_89 rfl (lv_at hl 5 rfl) ?_
        refine va_get (D := (dC, dI)) (ci := 9) (v := .ref (a 32)) (C := RX11) (T := TX11) (N := 55) hx hb hts inX11 hown hK hP 0 rfl rfl 32 (Nat.le_of_ble_eq_true rfl) (hts _ mw_1191) (fun _ h9 => h9) rfl dX11_isFreeWay_90 ?_
        obtain ⟨hPc, hDc, hFc, hI1⟩ := zi_sub (wc := [_]) hP hD hS hA [5] rfl rfl
        refine zcall (st1 := [.int (pI (mtC ((upd (upd (upd (upd S2 0 (ox 0)) 1 (oy 0)) 2 (cx (40 * f))) 3 (cy (40 * f))) 0).toInt ((upd (upd (upd (upd S2 0 (ox 0)) 1 (oy 0)) 2 (cx (40 * f))) 3 (cy (40 * f))) 1).toInt ((upd (upd (upd (upd S2 0 (ox 0)) 1 (oy 0)) 2 (cx (40 * f))) 3 (cy (40 * f))) 2).toInt ((upd (upd (upd (upd S2 0 (ox 0)) 1 (oy 0)) 2 (cx (40 * f))) 3 (cy (40 * f))) 3).toInt ((upd (upd (upd (upd S2 0 (ox 0)) 1 (oy 0)) 2 (cx (40 * f))) 3 (cy (40 * f))) 4).toInt ((upd (upd (upd (upd S2 0 (ox 0)) 1 (oy 0)) 2 (cx (40 * f))) 3 (cy (40 * f))) 5).toInt ((upd (upd (upd (upd S2 0 (ox 0)) 1 (oy 0)) 2 (cx (40 * f))) 3 (cy (40 * f))) 6).toInt ((upd (upd (upd (upd S2 0 (ox 0)) 1 (oy 0)) 2 (cx (40 * f))) 3 (cy (40 * f))) 7).toInt))]) (va_runS (As := [.ref (a 32)]) (rest := []) ⟨hx, hb, hml, hown, hts⟩ (k_M_touch l dC dI cI cZ cF H.size (a 32) (upd (upd (upd (upd S2 0 (ox 0)) 1 (oy 0)) 2 (cx (40 * f))) 3 (cy (40 * f))) (hs3)) (csS_168 hts rfl rfl ⟨Nat.le_of_ble_eq_true rfl, Nat.le_of_ble_eq_true rfl⟩) (zPS2 hPc hDc hK hXN) rfl rfl hl.1 rfl (lv_room (Nat.le_of_ble_eq_true rfl)) dX11_isFreeWay_93 ⟨Nat.le_of_ble_eq_true rfl, Nat.le_of_ble_eq_true rfl⟩) hS hFc hFc rfl (fun t H locs ht hB hk1 hS => ?_)
        obtain ⟨hP1, hD1⟩ := hB
        rw [ht] at hP1
        replace hP := z0 hP hD hk1 hP1 hI1
        clear hk1 hPc hDc hFc hP1 hD1 ht hI1
        refine zz_i (v := pI (mtC (ox 0).toInt (oy 0).toInt (cx (40 * f)).toInt (cy (40 * f)).toInt (cF40 cx g k).toInt (cF40 cy g k).toInt (cF40 cx g (nxt m2 k)).toInt (cF40 cy g (nxt m2 k)).toInt)) (zp_iff (mt_cg (S := upd (upd (upd (upd S2 0 (ox 0)) 1 (oy 0)) 2 (cx (40 * f))) 3 (cy (40 * f))) rfl rfl rfl rfl w4 w5 w6 w7)) ?_
        refine lv_if_eq (tgt := 111) hx hb dX11_isFreeWay_96 rfl (fun c_5 => ?_) (fun c_5 => ?_)
        · have c_5 : ¬ (mtC (ox 0).toInt (oy 0).toInt (cx (40 * f)).toInt (cy (40 * f)).toInt (cF40 cx g k).toInt (cF40 cy g k).toInt (cF40 cx g (nxt m2 k)).toInt (cF40 cy g (nxt m2 k)).toInt) := zp_0 c_5
          refine lv_iinc (v := nI (k + 1)) (lv' := [(7, .int (nI (k + 1))), (6, .int (cy (40 * f))), (5, .int (cx (40 * f))), (4, .int (oy 0)), (3, .int (ox 0)), (0, .ref k0), (1, .int (nI f)), (2, .int (nI g))]) hx hb dX11_isFreeWay_111 hl (k := 0) rfl (nI_add k 1) (Nat.le_of_ble_eq_true rfl) rfl (fun ls hl => ?_)
          refine lv_goto (tgt := 40) hx hb dX11_isFreeWay_114 rfl ?_
          exact ih_40 (k + 1) (upd (upd (upd (upd S2 0 (ox 0)) 1 (oy 0)) 2 (cx (40 * f))) 3 (cy (40 * f))) H locs ls (by first | with_reducible assumption | omega) (by first | with_reducible assumption | omega) (by intro j hj; rcases Nat.lt_or_ge j k with h | h; exact hall j h; rw [show j = k by omega]; unfold fWy; first | exact fun h => absurd h (by first | with_reducible assumption | assumption) | exact fun _ => (by first | with_reducible assumption | assumption)) hP hD hS (lv_sub hl [0, 1, 2, 3, 4, 5, 6, 7] rfl)
        · have c_5 : mtC (ox 0).toInt (oy 0).toInt (cx (40 * f)).toInt (cy (40 * f)).toInt (cF40 cx g k).toInt (cF40 cy g k).toInt (cF40 cx g (nxt m2 k)).toInt (cF40 cy g (nxt m2 k)).toInt := zp_1 c_5
          refine lv_aload_n hx hb dX11_isFreeWay_99 rfl (lv_at hl 5 rfl) ?_
          refine lv_iload_n hx hb dX11_isFreeWay_100 rfl (lv_at hl 4 rfl) ?_
          refine lv_iload hx hb dX11_isFreeWay_101 (lv_at hl 3 rfl) ?_
          obtain ⟨hPc, hDc, hFc, hI1⟩ := zi_sub (wc := [_, _]) hP hD hS hA [0, 5] rfl rfl
          refine zcall (st1 := [.int (pI (oAt ((upd (upd (upd (upd S2 0 (ox 0)) 1 (oy 0)) 2 (cx (40 * f))) 3 (cy (40 * f))) 0).toInt ((upd (upd (upd (upd S2 0 (ox 0)) 1 (oy 0)) 2 (cx (40 * f))) 3 (cy (40 * f))) 1).toInt ((upd (upd (upd (upd S2 0 (ox 0)) 1 (oy 0)) 2 (cx (40 * f))) 3 (cy (40 * f))) 2).toInt ((upd (upd (upd (upd S2 0 (ox 0)) 1 (oy 0)) 2 (cx (40 * f))) 3 (cy (40 * f))) 3).toInt ((upd (upd (upd (upd S2 0 (ox 0)) 1 (oy 0)) 2 (cx (40 * f))) 3 (cy (40 * f))) 4).toInt ((upd (upd (upd (upd S2 0 (ox 0)) 1 (oy 0)) 2 (cx (40 * f))) 3 (cy (40 * f))) 5).toInt ((upd (upd (upd (upd S2 0 (ox 0)) 1 (oy 0)) 2 (cx (40 * f))) 3 (cy (40 * f))) 6).toInt ((upd (upd (upd (upd S2 0 (ox 0)) 1 (oy 0)) 2 (cx (40 * f))) 3 (cy (40 * f))) 7).toInt (ox 0).toInt (oy 0).toInt))]) (va_runV (As := [.int (ox 0), .int (oy 0)]) (rest := []) ⟨hx, hb, hml, hown, hts⟩ (k_M_isOnlyAt l dC dI cI cZ cF H.size k0 a I0 J0 (ox 0) (oy 0) (upd (upd (upd (upd S2 0 (ox 0)) 1 (oy 0)) 2 (cx (40 * f))) 3 (cy (40 * f))) (hs3) (k1) (k2)) (csV_177 hts rfl rfl ⟨Nat.le_of_ble_eq_true rfl, Nat.le_of_ble_eq_true rfl⟩) (zPV2 (q0 := 0) (ci := 9) hPc hDc hK hXN rfl rfl) rfl rfl hl.1 rfl (lv_room (Nat.le_of_ble_eq_true rfl)) dX11_isFreeWay_103 ⟨Nat.le_of_ble_eq_true rfl, Nat.le_of_ble_eq_true rfl⟩) hS hFc hFc rfl (fun t H locs ht hB hk1 hS => ?_)
          obtain ⟨hP1, hD1⟩ := hB
          rw [ht] at hP1
          replace hP := z0 hP hD hk1 hP1 hI1
          clear hk1 hPc hDc hFc hP1 hD1 ht hI1
          refine zz_i (v := pI (oAt (ox 0).toInt (oy 0).toInt (cx (40 * f)).toInt (cy (40 * f)).toInt (cF40 cx g k).toInt (cF40 cy g k).toInt (cF40 cx g (nxt m2 k)).toInt (cF40 cy g (nxt m2 k)).toInt (ox 0).toInt (oy 0).toInt)) (zp_iff (oa_cg (S := upd (upd (upd (upd S2 0 (ox 0)) 1 (oy 0)) 2 (cx (40 * f))) 3 (cy (40 * f))) rfl rfl rfl rfl w4 w5 w6 w7)) ?_
          refine lv_if_ne (tgt := 111) hx hb dX11_isFreeWay_106 rfl (fun c_6 => ?_) (fun c_6 => ?_)
          · have c_6 : oAt (ox 0).toInt (oy 0).toInt (cx (40 * f)).toInt (cy (40 * f)).toInt (cF40 cx g k).toInt (cF40 cy g k).toInt (cF40 cx g (nxt m2 k)).toInt (cF40 cy g (nxt m2 k)).toInt (ox 0).toInt (oy 0).toInt := zp_1 c_6
            refine lv_iinc (v := nI (k + 1)) (lv' := [(7, .int (nI (k + 1))), (6, .int (cy (40 * f))), (5, .int (cx (40 * f))), (4, .int (oy 0)), (3, .int (ox 0)), (0, .ref k0), (1, .int (nI f)), (2, .int (nI g))]) hx hb dX11_isFreeWay_111 hl (k := 0) rfl (nI_add k 1) (Nat.le_of_ble_eq_true rfl) rfl (fun ls hl => ?_)
            refine lv_goto (tgt := 40) hx hb dX11_isFreeWay_114 rfl ?_
            exact ih_40 (k + 1) (upd (upd (upd (upd S2 0 (ox 0)) 1 (oy 0)) 2 (cx (40 * f))) 3 (cy (40 * f))) H locs ls (by first | with_reducible assumption | omega) (by first | with_reducible assumption | omega) (by intro j hj; rcases Nat.lt_or_ge j k with h | h; exact hall j h; rw [show j = k by omega]; unfold fWy; first | exact fun h => absurd h (by first | with_reducible assumption | assumption) | exact fun _ => (by first | with_reducible assumption | assumption)) hP hD hS (lv_sub hl [0, 1, 2, 3, 4, 5, 6, 7] rfl)
          · have c_6 : ¬ (oAt (ox 0).toInt (oy 0).toInt (cx (40 * f)).toInt (cy (40 * f)).toInt (cF40 cx g k).toInt (cF40 cy g k).toInt (cF40 cx g (nxt m2 k)).toInt (cF40 cy g (nxt m2 k)).toInt (ox 0).toInt (oy 0).toInt) := zp_0 c_6
            refine lv_iconst (v := 0) hx hb dX11_isFreeWay_109 rfl ?_
            obtain ⟨hP9, hD9⟩ := zu_sub (wc := [_, _, _, _, _, _, _, _]) hP hD [true, true, true, true, true, true, true, true] rfl rfl
            rw [hQ9]
            exact W.zret (ty := .boolean) (v := 0) hx hb hr (rfl) (fun t ht hW => ⟨⟨congrArg (fun z => Outcome.returned (some (Value.int z))) (show (0 : Int32) = pI (∀ k, k < eO (kd g).toInt m2 → fWy (ox 0).toInt (oy 0).toInt (cx (40 * f)).toInt (cy (40 * f)).toInt m2 (cF40 cx g) (cF40 cy g) k) from (zp_f (fun h => absurd (h k (by omega) (by first | with_reducible assumption | assumption)) (by first | with_reducible assumption | assumption))).symm), (upd (upd (upd (upd S2 0 (ox 0)) 1 (oy 0)) 2 (cx (40 * f))) 3 (cy (40 * f))), by rw [ht]; exact hP9, hD9⟩, hS.F ht⟩) hS.2.2 dX11_isFreeWay_110
  exact hl_40 _ 0 S0 s.heap [] ls (Nat.lt_succ_self _) (by first | with_reducible assumption | omega) (by intro j hj; omega) hP hD hS (lv_sub hl [0, 1, 2, 3, 4, 5, 6, 7] rfl)
set_option maxHeartbeats 4000000 in
set_option maxRecDepth 100000 in
theorem k_M_isFeature_n (l : Launch) (dC : Nat → ClassId) (dI : Nat → Nat → Nat) (cI cZ cF : ClassId) (sz : Nat) (k0 : Nat) (a : Nat → Nat) (I0 : Nat → Int32) (J0 : Nat → Int64) (f : Nat) (ft : Nat) (hft : I0 0 = nI ft) (h200 : ft ≤ 200) (hf31 : f < 2147483648) : zM l yX11_isFeature cX11_isFeature 2 (some .boolean) ({ frames := 0, cells := 0, slots := 0, locals := 0 } : Room) [.ref k0, .int (nI f)] (dC, dI) (zTy cI cZ cF) [(om k0 a I0 J0)] sz (some (.int (pI (f < ft)))) (fun A t => zPD (dC, dI) classes A [(om k0 a I0 J0)] t.heap) 0 0 := by
  refine zIn (own := "ScaleShopModel") (loc := [(0, .ref k0), (1, .int (nI f))]) rfl rfl rfl rfl (fun p e s m below meth c hx hb hr hts hown hlocks hml hnm9 A hA hS hP hD hK hXN Q9 hQ9 ls hl => ?_)
  refine lv_iload_n hx hb dX11_isFeature_0 rfl (lv_at hl 1 rfl) ?_
  have b9_2 : zlt (f) := show f < 2147483648 by omega
  refine lv_if_lt (tgt := 16) hx hb dX11_isFeature_1 rfl (fun c_1 => ?_) (fun c_1 => ?_)
  · have c_1 : ((f : Nat) : Int) < 0 := zc_lt (nI_toInt b9_2) rfl c_1
    exfalso; omega
  · have c_1 : 0 ≤ ((f : Nat) : Int) := zc_nlt (nI_toInt b9_2) rfl c_1
    refine lv_iload_n hx hb dX11_isFeature_4 rfl (lv_at hl 1 rfl) ?_
    refine lv_aload_n hx hb dX11_isFeature_5 rfl (lv_at hl 0 rfl) ?_
    refine va_get (D := (dC, dI)) (ci := 9) (v := .int (I0 0)) (C := RX11) (T := TX11) (N := 55) hx hb hts inX11 hown hK hP 0 rfl rfl 0 (Nat.le_of_ble_eq_true rfl) (hts _ mw_1159) (fun _ h9 => h9) rfl dX11_isFeature_6 ?_
    refine zz_i (v := nI ft) (hft) ?_
    have b9_4 : zlt (ft) := show ft < 2147483648 by omega
    refine lv_icmp_ge (tgt := 16) hx hb dX11_isFeature_9 rfl (fun c_3 => ?_) (fun c_3 => ?_)
    · have c_3 : ((ft : Nat) : Int) ≤ ((f : Nat) : Int) := zc_le (nI_toInt b9_4) (nI_toInt b9_2) c_3
      refine lv_iconst (v := 0) hx hb dX11_isFeature_16 rfl ?_
      obtain ⟨hP9, hD9⟩ := zu_sub (wc := [_]) hP hD [true] rfl rfl
      rw [hQ9]
      exact W.zret (ty := .boolean) (v := 0) hx hb hr (rfl) (fun t ht hW => ⟨⟨congrArg (fun z => Outcome.returned (some (Value.int z))) (show (0 : Int32) = pI (f < ft) from (zp_f (by omega)).symm), by rw [ht]; exact hP9, hD9⟩, hS.F ht⟩) hS.2.2 dX11_isFeature_17
    · have c_3 : ((f : Nat) : Int) < ((ft : Nat) : Int) := zc_nle (nI_toInt b9_4) (nI_toInt b9_2) c_3
      refine lv_iconst (v := 1) hx hb dX11_isFeature_12 rfl ?_
      refine lv_goto (tgt := 17) hx hb dX11_isFeature_13 rfl ?_
      obtain ⟨hP9, hD9⟩ := zu_sub (wc := [_]) hP hD [true] rfl rfl
      rw [hQ9]
      exact W.zret (ty := .boolean) (v := 1) hx hb hr (rfl) (fun t ht hW => ⟨⟨congrArg (fun z => Outcome.returned (some (Value.int z))) (show (1 : Int32) = pI (f < ft) from (zp_t (by omega)).symm), by rw [ht]; exact hP9, hD9⟩, hS.F ht⟩) hS.2.2 dX11_isFeature_17
set_option maxHeartbeats 4000000 in
set_option maxRecDepth 100000 in
theorem k_M_isFeature (l : Launch) (dC : Nat → ClassId) (dI : Nat → Nat → Nat) (cI cZ cF : ClassId) (sz : Nat) (k0 : Nat) (a : Nat → Nat) (I0 : Nat → Int32) (J0 : Nat → Int64) (ft : Nat) (v : Int32) (hft : I0 0 = nI ft) (h200 : ft ≤ 200) : zM l yX11_isFeature cX11_isFeature 2 (some .boolean) ({ frames := 0, cells := 0, slots := 0, locals := 0 } : Room) [.ref k0, .int v] (dC, dI) (zTy cI cZ cF) [(om k0 a I0 J0)] sz (some (.int (pI (0 ≤ v.toInt ∧ v.toInt < (ft : Int))))) (fun A t => zPD (dC, dI) classes A [(om k0 a I0 J0)] t.heap) 0 0 := by
  refine zIn (own := "ScaleShopModel") (loc := [(0, .ref k0), (1, .int v)]) rfl rfl rfl rfl (fun p e s m below meth c hx hb hr hts hown hlocks hml hnm9 A hA hS hP hD hK hXN Q9 hQ9 ls hl => ?_)
  refine lv_iload_n hx hb dX11_isFeature_0 rfl (lv_at hl 1 rfl) ?_
  refine lv_if_lt (tgt := 16) hx hb dX11_isFeature_1 rfl (fun c_1 => ?_) (fun c_1 => ?_)
  · have c_1 : v.toInt < 0 := zc_lt rfl rfl c_1
    refine lv_iconst (v := 0) hx hb dX11_isFeature_16 rfl ?_
    obtain ⟨hP9, hD9⟩ := zu_sub (wc := [_]) hP hD [true] rfl rfl
    rw [hQ9]
    exact W.zret (ty := .boolean) (v := 0) hx hb hr (rfl) (fun t ht hW => ⟨⟨congrArg (fun z => Outcome.returned (some (Value.int z))) (show (0 : Int32) = pI (0 ≤ v.toInt ∧ v.toInt < (ft : Int)) from (zp_f (by omega)).symm), by rw [ht]; exact hP9, hD9⟩, hS.F ht⟩) hS.2.2 dX11_isFeature_17
  · have c_1 : 0 ≤ v.toInt := zc_nlt rfl rfl c_1
    refine lv_iload_n hx hb dX11_isFeature_4 rfl (lv_at hl 1 rfl) ?_
    refine lv_aload_n hx hb dX11_isFeature_5 rfl (lv_at hl 0 rfl) ?_
    refine va_get (D := (dC, dI)) (ci := 9) (v := .int (I0 0)) (C := RX11) (T := TX11) (N := 55) hx hb hts inX11 hown hK hP 0 rfl rfl 0 (Nat.le_of_ble_eq_true rfl) (hts _ mw_1159) (fun _ h9 => h9) rfl dX11_isFeature_6 ?_
    refine zz_i (v := nI ft) (hft) ?_
    have b9_3 : zlt (ft) := show ft < 2147483648 by omega
    refine lv_icmp_ge (tgt := 16) hx hb dX11_isFeature_9 rfl (fun c_2 => ?_) (fun c_2 => ?_)
    · have c_2 : ((ft : Nat) : Int) ≤ v.toInt := zc_le (nI_toInt b9_3) rfl c_2
      refine lv_iconst (v := 0) hx hb dX11_isFeature_16 rfl ?_
      obtain ⟨hP9, hD9⟩ := zu_sub (wc := [_]) hP hD [true] rfl rfl
      rw [hQ9]
      exact W.zret (ty := .boolean) (v := 0) hx hb hr (rfl) (fun t ht hW => ⟨⟨congrArg (fun z => Outcome.returned (some (Value.int z))) (show (0 : Int32) = pI (0 ≤ v.toInt ∧ v.toInt < (ft : Int)) from (zp_f (by omega)).symm), by rw [ht]; exact hP9, hD9⟩, hS.F ht⟩) hS.2.2 dX11_isFeature_17
    · have c_2 : v.toInt < ((ft : Nat) : Int) := zc_nle (nI_toInt b9_3) rfl c_2
      refine lv_iconst (v := 1) hx hb dX11_isFeature_12 rfl ?_
      refine lv_goto (tgt := 17) hx hb dX11_isFeature_13 rfl ?_
      obtain ⟨hP9, hD9⟩ := zu_sub (wc := [_]) hP hD [true] rfl rfl
      rw [hQ9]
      exact W.zret (ty := .boolean) (v := 1) hx hb hr (rfl) (fun t ht hW => ⟨⟨congrArg (fun z => Outcome.returned (some (Value.int z))) (show (1 : Int32) = pI (0 ≤ v.toInt ∧ v.toInt < (ft : Int)) from (zp_t (by omega)).symm), by rw [ht]; exact hP9, hD9⟩, hS.F ht⟩) hS.2.2 dX11_isFeature_17
set_option maxHeartbeats 4000000 in
set_option maxRecDepth 100000 in
theorem k_M_is_n (l : Launch) (dC : Nat → ClassId) (dI : Nat → Nat → Nat) (cI cZ cF : ClassId) (sz : Nat) (k0 : Nat) (a : Nat → Nat) (I0 : Nat → Int32) (J0 : Nat → Int64) (f : Nat) (ft : Nat) (st : Nat → Int32) (tn : Nat → Int32) (hft : I0 0 = nI ft) (h200 : ft ≤ 200) (hf31 : f < 2147483648) : zM l yX11_is cX11_is 2 (some .boolean) ({ frames := 1, cells := 0, slots := 0, locals := 21 } : Room) [.ref k0, .int (nI f)] (dC, dI) (zTy cI cZ cF) [(om k0 a I0 J0), (oa (a 5) cI 201 st), (oa (a 6) cZ 201 tn)] sz (some (.int (pI (f < ft ∧ (st f).toInt = 1 ∧ (tn f).toInt = 0)))) (fun A t => zPD (dC, dI) classes A [(om k0 a I0 J0), (oa (a 5) cI 201 st), (oa (a 6) cZ 201 tn)] t.heap) 0 0 := by
  refine zIn (own := "ScaleShopModel") (loc := [(0, .ref k0), (1, .int (nI f))]) rfl rfl rfl rfl (fun p e s m below meth c hx hb hr hts hown hlocks hml hnm9 A hA hS hP hD hK hXN Q9 hQ9 ls hl => ?_)
  refine lv_aload_n hx hb dX11_is_0 rfl (lv_at hl 0 rfl) ?_
  refine lv_iload_n hx hb dX11_is_1 rfl (lv_at hl 1 rfl) ?_
  obtain ⟨hPc, hDc, hFc, hI1⟩ := zi_sub (wc := [_]) hP hD hS hA [0] rfl rfl
  refine zcall (st1 := [.int (pI (f < ft))]) (va_runV (As := [.int (nI f)]) (rest := []) ⟨hx, hb, hml, hown, hts⟩ (k_M_isFeature_n l dC dI cI cZ cF s.heap.size k0 a I0 J0 f ft (by first | with_reducible assumption | assumption) (by first | with_reducible assumption | omega) (by first | with_reducible assumption | omega)) (csV_178 hts rfl rfl ⟨Nat.le_of_ble_eq_true rfl, Nat.le_of_ble_eq_true rfl⟩) (zPV2 (q0 := 0) (ci := 9) hPc hDc hK hXN rfl rfl) rfl rfl hl.1 rfl (lv_room (Nat.le_of_ble_eq_true rfl)) dX11_is_2 ⟨Nat.le_of_ble_eq_true rfl, Nat.le_of_ble_eq_true rfl⟩) hS hFc hFc rfl (fun t H locs ht hB hk1 hS => ?_)
  obtain ⟨hP1, hD1⟩ := hB
  rw [ht] at hP1
  replace hP := z0 hP hD hk1 hP1 hI1
  clear hk1 hPc hDc hFc hP1 hD1 ht hI1
  refine lv_if_eq (tgt := 31) hx hb dX11_is_5 rfl (fun c_1 => ?_) (fun c_1 => ?_)
  · have c_1 : ¬ (f < ft) := zp_0 c_1
    refine lv_iconst (v := 0) hx hb dX11_is_31 rfl ?_
    obtain ⟨hP9, hD9⟩ := zu_sub (wc := [_, _, _]) hP hD [true, true, true] rfl rfl
    rw [hQ9]
    exact W.zret (ty := .boolean) (v := 0) hx hb hr (rfl) (fun t ht hW => ⟨⟨congrArg (fun z => Outcome.returned (some (Value.int z))) (show (0 : Int32) = pI (f < ft ∧ (st f).toInt = 1 ∧ (tn f).toInt = 0) from (zp_f (by omega)).symm), by rw [ht]; exact hP9, hD9⟩, hS.F ht⟩) hS.2.2 dX11_is_32
  · have c_1 : f < ft := zp_1 c_1
    refine lv_aload_n hx hb dX11_is_8 rfl (lv_at hl 0 rfl) ?_
    refine va_get (D := (dC, dI)) (ci := 9) (v := .ref (a 5)) (C := RX11) (T := TX11) (N := 55) hx hb hts inX11 hown hK hP 0 rfl rfl 5 (Nat.le_of_ble_eq_true rfl) (hts _ mw_1164) (fun _ h9 => h9) rfl dX11_is_9 ?_
    refine lv_iload_n hx hb dX11_is_12 rfl (lv_at hl 1 rfl) ?_
    have b9_2 : f < 201 := by omega
    refine z_iald hx hb hK hP 1 0 rfl rfl (e := f) rfl b9_2 (Nat.le_of_ble_eq_true rfl) dX11_is_13 ?_
    refine lv_iconst (v := 1) hx hb dX11_is_14 rfl ?_
    refine lv_icmp_ne (tgt := 31) hx hb dX11_is_15 rfl (fun c_3 => ?_) (fun c_3 => ?_)
    · have c_3 : ¬ (st f).toInt = 1 := zc_ne rfl rfl c_3
      refine lv_iconst (v := 0) hx hb dX11_is_31 rfl ?_
      obtain ⟨hP9, hD9⟩ := zu_sub (wc := [_, _, _]) hP hD [true, true, true] rfl rfl
      rw [hQ9]
      exact W.zret (ty := .boolean) (v := 0) hx hb hr (rfl) (fun t ht hW => ⟨⟨congrArg (fun z => Outcome.returned (some (Value.int z))) (show (0 : Int32) = pI (f < ft ∧ (st f).toInt = 1 ∧ (tn f).toInt = 0) from (zp_f (by omega)).symm), by rw [ht]; exact hP9, hD9⟩, hS.F ht⟩) hS.2.2 dX11_is_32
    · have c_3 : (st f).toInt = 1 := zc_eq rfl rfl c_3
      refine lv_aload_n hx hb dX11_is_18 rfl (lv_at hl 0 rfl) ?_
      refine va_get (D := (dC, dI)) (ci := 9) (v := .ref (a 6)) (C := RX11) (T := TX11) (N := 55) hx hb hts inX11 hown hK hP 0 rfl rfl 6 (Nat.le_of_ble_eq_true rfl) (hts _ mw_1165) (fun _ h9 => h9) rfl dX11_is_19 ?_
      refine lv_iload_n hx hb dX11_is_22 rfl (lv_at hl 1 rfl) ?_
      refine z_zald hx hb hK hP 2 1 rfl rfl (e := f) rfl b9_2 (Nat.le_of_ble_eq_true rfl) dX11_is_23 ?_
      refine lv_if_ne (tgt := 31) hx hb dX11_is_24 rfl (fun c_4 => ?_) (fun c_4 => ?_)
      · have c_4 : ¬ (tn f).toInt = 0 := zc_ne rfl rfl c_4
        refine lv_iconst (v := 0) hx hb dX11_is_31 rfl ?_
        obtain ⟨hP9, hD9⟩ := zu_sub (wc := [_, _, _]) hP hD [true, true, true] rfl rfl
        rw [hQ9]
        exact W.zret (ty := .boolean) (v := 0) hx hb hr (rfl) (fun t ht hW => ⟨⟨congrArg (fun z => Outcome.returned (some (Value.int z))) (show (0 : Int32) = pI (f < ft ∧ (st f).toInt = 1 ∧ (tn f).toInt = 0) from (zp_f (by omega)).symm), by rw [ht]; exact hP9, hD9⟩, hS.F ht⟩) hS.2.2 dX11_is_32
      · have c_4 : (tn f).toInt = 0 := zc_eq rfl rfl c_4
        refine lv_iconst (v := 1) hx hb dX11_is_27 rfl ?_
        refine lv_goto (tgt := 32) hx hb dX11_is_28 rfl ?_
        obtain ⟨hP9, hD9⟩ := zu_sub (wc := [_, _, _]) hP hD [true, true, true] rfl rfl
        rw [hQ9]
        exact W.zret (ty := .boolean) (v := 1) hx hb hr (rfl) (fun t ht hW => ⟨⟨congrArg (fun z => Outcome.returned (some (Value.int z))) (show (1 : Int32) = pI (f < ft ∧ (st f).toInt = 1 ∧ (tn f).toInt = 0) from (zp_t (by omega)).symm), by rw [ht]; exact hP9, hD9⟩, hS.F ht⟩) hS.2.2 dX11_is_32
end
section
set_option maxHeartbeats 4000000 in
set_option maxRecDepth 100000 in
theorem k_M_forgetNew (l : Launch) (dC : Nat → ClassId) (dI : Nat → Nat → Nat) (cI cZ cF : ClassId) (sz : Nat) (k0 : Nat) (a : Nat → Nat) (I0 : Nat → Int32) (J0 : Nat → Int64) (f : Nat) (on : Nat) (kd : Nat → Int32) (mn : Nat → Int32) (cx : Nat → Int32) (cy : Nat → Int32) (ox : Nat → Int32) (oy : Nat → Int32) (hf_f : f ≤ 200) (hon : I0 35 = nI on) (ho40 : on ≤ 40) : zM l yX11_forgetNew cX11_forgetNew 3 none ({ frames := 0, cells := 0, slots := 0, locals := 0 } : Room) [.ref k0, .int (nI f)] (dC, dI) (zTy cI cZ cF) [(om k0 a I0 J0), (oa (a 1) cI 201 kd), (oa (a 11) cI 201 mn), (oa (a 12) cI 8040 cx), (oa (a 13) cI 8040 cy), (oa (a 33) cI 42 ox), (oa (a 34) cI 42 oy)] sz none (fun A t => ∃ (cx1 : Nat → Int32), ∃ (cy1 : Nat → Int32), (∀ j, j < on → cx1 (40 * f + j) = ox j ∧ cy1 (40 * f + j) = oy j) ∧ (∀ j, (j < 40 * f ∨ 40 * f + on ≤ j) → cx1 j = cx j ∧ cy1 j = cy j) ∧ zPD (dC, dI) classes A [(om k0 a I0 J0), (oa (a 1) cI 201 (upd kd f (I0 36))), (oa (a 11) cI 201 (upd mn f (nI on))), (oa (a 12) cI 8040 cx1), (oa (a 13) cI 8040 cy1), (oa (a 33) cI 42 ox), (oa (a 34) cI 42 oy)] t.heap) 0 0 := by
  refine zIn (own := "ScaleShopModel") (loc := [(0, .ref k0), (1, .int (nI f))]) rfl rfl rfl rfl (fun p e s m below meth c hx hb hr hts hown hlocks hml hnm9 A hA hS hP hD hK hXN Q9 hQ9 ls hl => ?_)
  refine lv_aload_n hx hb dX11_forgetNew_0 rfl (lv_at hl 0 rfl) ?_
  refine va_get (D := (dC, dI)) (ci := 9) (v := .ref (a 11)) (C := RX11) (T := TX11) (N := 55) hx hb hts inX11 hown hK hP 0 rfl rfl 11 (Nat.le_of_ble_eq_true rfl) (hts _ mw_1170) (fun _ h9 => h9) rfl dX11_forgetNew_1 ?_
  refine lv_iload_n hx hb dX11_forgetNew_4 rfl (lv_at hl 1 rfl) ?_
  refine lv_aload_n hx hb dX11_forgetNew_5 rfl (lv_at hl 0 rfl) ?_
  refine va_get (D := (dC, dI)) (ci := 9) (v := .int (I0 35)) (C := RX11) (T := TX11) (N := 55) hx hb hts inX11 hown hK hP 0 rfl rfl 35 (Nat.le_of_ble_eq_true rfl) (hts _ mw_1194) (fun _ h9 => h9) rfl dX11_forgetNew_6 ?_
  refine zz_i (v := nI on) (hon) ?_
  have b9_1 : f < 201 := by omega
  refine z_iast hx hb hK hP hD hS 2 0 rfl rfl (e := f) (x := nI on) rfl b9_1 (Nat.le_of_ble_eq_true rfl) dX11_forgetNew_9 (fun H locs hP hD hS => ?_)
  obtain ⟨hP, hD⟩ := zre (W2 := [_, _, (oa (a 11) cI 201 (upd mn f (nI on))), _, _, _, _]) hP hD rfl
  refine lv_aload_n hx hb dX11_forgetNew_10 rfl (lv_at hl 0 rfl) ?_
  refine va_get (D := (dC, dI)) (ci := 9) (v := .ref (a 1)) (C := RX11) (T := TX11) (N := 55) hx hb hts inX11 hown hK hP 0 rfl rfl 1 (Nat.le_of_ble_eq_true rfl) (hts _ mw_1160) (fun _ h9 => h9) rfl dX11_forgetNew_11 ?_
  refine lv_iload_n hx hb dX11_forgetNew_14 rfl (lv_at hl 1 rfl) ?_
  refine lv_aload_n hx hb dX11_forgetNew_15 rfl (lv_at hl 0 rfl) ?_
  refine va_get (D := (dC, dI)) (ci := 9) (v := .int (I0 36)) (C := RX11) (T := TX11) (N := 55) hx hb hts inX11 hown hK hP 0 rfl rfl 36 (Nat.le_of_ble_eq_true rfl) (hts _ mw_1195) (fun _ h9 => h9) rfl dX11_forgetNew_16 ?_
  refine z_iast hx hb hK hP hD hS 1 0 rfl rfl (e := f) (x := I0 36) rfl b9_1 (Nat.le_of_ble_eq_true rfl) dX11_forgetNew_19 (fun H locs hP hD hS => ?_)
  obtain ⟨hP, hD⟩ := zre (W2 := [_, (oa (a 1) cI 201 (upd kd f (I0 36))), _, _, _, _, _]) hP hD rfl
  refine lv_iconst (v := 0) hx hb dX11_forgetNew_20 rfl ?_
  refine lv_istore_n (lv' := [(2, .int 0), (0, .ref k0), (1, .int (nI f))]) hx hb dX11_forgetNew_21 rfl hl (Nat.le_of_ble_eq_true rfl) rfl (fun ls hl => ?_)
  have hl_22 : ∀ (n9 : Nat) (k : Nat) (cx1 : Nat → Int32) (cy1 : Nat → Int32) (H : Heap) (locs : List Loc) (ls : Array Slot), on - k < n9 → (k ≤ on) → (∀ j, j < k → cx1 (40 * f + j) = ox j ∧ cy1 (40 * f + j) = oy j) → (∀ j, (j < 40 * f ∨ 40 * f + k ≤ j) → cx1 j = cx j ∧ cy1 j = cy j) → va_P (dC, dI) classes [(om k0 a I0 J0), (oa (a 1) cI 201 (upd kd f (I0 36))), (oa (a 11) cI 201 (upd mn f (nI on))), (oa (a 12) cI 8040 cx1), (oa (a 13) cI 8040 cy1), (oa (a 33) cI 42 ox), (oa (a 34) cI 42 oy)] H → va_D A [(om k0 a I0 J0), (oa (a 1) cI 201 (upd kd f (I0 36))), (oa (a 11) cI 201 (upd mn f (nI on))), (oa (a 12) cI 8040 cx1), (oa (a 13) cI 8040 cy1), (oa (a 33) cI 42 ox), (oa (a 34) cI 42 oy)] → va_S A s.heap H locs → lv_has ls 3 [(2, .int (nI k)), (0, .ref k0), (1, .int (nI f))] → W p l e ({ frames := 0, cells := 0, slots := 0, locals := 0 } : Room) s m ([.ref k0, .int (nI f)] : List Value).toArray below meth c H locs 0 0 Q9 (F0 m 22 ls []) := by
    intro n9
    induction n9 with
    | zero => intro k cx1 cy1 H locs ls hm; exact absurd hm (Nat.not_lt_zero _)
    | succ n9 ih_22 =>
      intro k cx1 cy1 H locs ls hm hk hall hrst hP hD hS hl
      refine lv_iload_n hx hb dX11_forgetNew_22 rfl (lv_at hl 0 rfl) ?_
      refine lv_aload_n hx hb dX11_forgetNew_23 rfl (lv_at hl 1 rfl) ?_
      refine va_get (D := (dC, dI)) (ci := 9) (v := .int (I0 35)) (C := RX11) (T := TX11) (N := 55) hx hb hts inX11 hown hK hP 0 rfl rfl 35 (Nat.le_of_ble_eq_true rfl) (hts _ mw_1194) (fun _ h9 => h9) rfl dX11_forgetNew_24 ?_
      refine zz_i (v := nI on) (hon) ?_
      have b9_3 : zlt (k) := show k < 2147483648 by omega
      have b9_4 : zlt (on) := show on < 2147483648 by omega
      refine lv_icmp_ge (tgt := 70) hx hb dX11_forgetNew_27 rfl (fun c_2 => ?_) (fun c_2 => ?_)
      · have c_2 : ((on : Nat) : Int) ≤ ((k : Nat) : Int) := zc_le (nI_toInt b9_4) (nI_toInt b9_3) c_2
        obtain ⟨hP9, hD9⟩ := zu_sub (wc := [_, _, _, _, _, _, _]) hP hD [true, true, true, true, true, true, true] rfl rfl
        rw [hQ9]
        exact W.vret hx hb hr (fun t ht hW => ⟨⟨rfl, cx1, cy1, (fun j hj => hall j (by omega)), (fun j hj => hrst j (by omega)), by rw [ht]; exact hP9, hD9⟩, hS.F ht⟩) hS.2.2 dX11_forgetNew_70
      · have c_2 : ((k : Nat) : Int) < ((on : Nat) : Int) := zc_nle (nI_toInt b9_4) (nI_toInt b9_3) c_2
        refine lv_aload_n hx hb dX11_forgetNew_30 rfl (lv_at hl 1 rfl) ?_
        refine va_get (D := (dC, dI)) (ci := 9) (v := .ref (a 12)) (C := RX11) (T := TX11) (N := 55) hx hb hts inX11 hown hK hP 0 rfl rfl 12 (Nat.le_of_ble_eq_true rfl) (hts _ mw_1171) (fun _ h9 => h9) rfl dX11_forgetNew_31 ?_
        refine lv_bipush (v := 40) hx hb dX11_forgetNew_34 rfl ?_
        refine lv_iload_n hx hb dX11_forgetNew_36 rfl (lv_at hl 2 rfl) ?_
        refine lv_imul hx hb dX11_forgetNew_37 ?_
        refine zz_i (v := nI (40 * f)) (pk_mul 40 f) ?_
        refine lv_iload_n hx hb dX11_forgetNew_38 rfl (lv_at hl 0 rfl) ?_
        refine lv_iadd hx hb dX11_forgetNew_39 ?_
        refine zz_i (v := nI (40 * f + k)) (nI_add (40 * f) k) ?_
        refine lv_aload_n hx hb dX11_forgetNew_40 rfl (lv_at hl 1 rfl) ?_
        refine va_get (D := (dC, dI)) (ci := 9) (v := .ref (a 33)) (C := RX11) (T := TX11) (N := 55) hx hb hts inX11 hown hK hP 0 rfl rfl 33 (Nat.le_of_ble_eq_true rfl) (hts _ mw_1192) (fun _ h9 => h9) rfl dX11_forgetNew_41 ?_
        refine lv_iload_n hx hb dX11_forgetNew_44 rfl (lv_at hl 0 rfl) ?_
        have b9_5 : k < 42 := by omega
        refine z_iald hx hb hK hP 5 0 rfl rfl (e := k) rfl b9_5 (Nat.le_of_ble_eq_true rfl) dX11_forgetNew_45 ?_
        have b9_6 : 40 * f + k < 8040 := by omega
        refine z_iast hx hb hK hP hD hS 3 0 rfl rfl (e := 40 * f + k) (x := ox k) rfl b9_6 (Nat.le_of_ble_eq_true rfl) dX11_forgetNew_46 (fun H locs hP hD hS => ?_)
        obtain ⟨hP, hD⟩ := zre (W2 := [_, _, _, (oa (a 12) cI 8040 (upd cx1 (40 * f + k) (ox k))), _, _, _]) hP hD rfl
        refine lv_aload_n hx hb dX11_forgetNew_47 rfl (lv_at hl 1 rfl) ?_
        refine va_get (D := (dC, dI)) (ci := 9) (v := .ref (a 13)) (C := RX11) (T := TX11) (N := 55) hx hb hts inX11 hown hK hP 0 rfl rfl 13 (Nat.le_of_ble_eq_true rfl) (hts _ mw_1172) (fun _ h9 => h9) rfl dX11_forgetNew_48 ?_
        refine lv_bipush (v := 40) hx hb dX11_forgetNew_51 rfl ?_
        refine lv_iload_n hx hb dX11_forgetNew_53 rfl (lv_at hl 2 rfl) ?_
        refine lv_imul hx hb dX11_forgetNew_54 ?_
        refine zz_i (v := nI (40 * f)) (pk_mul 40 f) ?_
        refine lv_iload_n hx hb dX11_forgetNew_55 rfl (lv_at hl 0 rfl) ?_
        refine lv_iadd hx hb dX11_forgetNew_56 ?_
        refine zz_i (v := nI (40 * f + k)) (nI_add (40 * f) k) ?_
        refine lv_aload_n hx hb dX11_forgetNew_57 rfl (lv_at hl 1 rfl) ?_
        refine va_get (D := (dC, dI)) (ci := 9) (v := .ref (a 34)) (C := RX11) (T := TX11) (N := 55) hx hb hts inX11 hown hK hP 0 rfl rfl 34 (Nat.le_of_ble_eq_true rfl) (hts _ mw_1193) (fun _ h9 => h9) rfl dX11_forgetNew_58 ?_
        refine lv_iload_n hx hb dX11_forgetNew_61 rfl (lv_at hl 0 rfl) ?_
        refine z_iald hx hb hK hP 6 0 rfl rfl (e := k) rfl b9_5 (Nat.le_of_ble_eq_true rfl) dX11_forgetNew_62 ?_
        refine z_iast hx hb hK hP hD hS 4 0 rfl rfl (e := 40 * f + k) (x := oy k) rfl b9_6 (Nat.le_of_ble_eq_true rfl) dX11_forgetNew_63 (fun H locs hP hD hS => ?_)
        obtain ⟨hP, hD⟩ := zre (W2 := [_, _, _, _, (oa (a 13) cI 8040 (upd cy1 (40 * f + k) (oy k))), _, _]) hP hD rfl
        refine lv_iinc (v := nI (k + 1)) (lv' := [(2, .int (nI (k + 1))), (0, .ref k0), (1, .int (nI f))]) hx hb dX11_forgetNew_64 hl (k := 0) rfl (nI_add k 1) (Nat.le_of_ble_eq_true rfl) rfl (fun ls hl => ?_)
        refine lv_goto (tgt := 22) hx hb dX11_forgetNew_67 rfl ?_
        exact ih_22 (k + 1) (upd cx1 (40 * f + k) (ox k)) (upd cy1 (40 * f + k) (oy k)) H locs ls (by first | with_reducible assumption | omega) (by first | with_reducible assumption | omega) (by intro j hj; rcases Nat.lt_or_ge j k with h | h; simp only [upd, if_neg (show 40 * f + j ≠ 40 * f + k by omega)]; exact hall j h; rw [show j = k by omega]; simp only [upd, if_true]; first | exact ⟨rfl, rfl⟩ | exact ⟨trivial, trivial⟩) (by intro j hj; simp only [upd, if_neg (show j ≠ 40 * f + k by omega)]; exact hrst j (by first | with_reducible assumption | omega)) hP hD hS (lv_sub hl [0, 1, 2] rfl)
  exact hl_22 _ 0 cx cy H locs ls (Nat.lt_succ_self _) (by first | with_reducible assumption | omega) (by intro j hj; omega) (by intro j hj; exact ⟨rfl, rfl⟩) hP hD hS (lv_sub hl [0, 1, 2] rfl)
set_option maxHeartbeats 4000000 in
set_option maxRecDepth 100000 in
theorem k_M_give (l : Launch) (dC : Nat → ClassId) (dI : Nat → Nat → Nat) (cI cZ cF : ClassId) (sz : Nat) (k0 : Nat) (a : Nat → Nat) (I0 : Nat → Int32) (J0 : Nat → Int64) (f : Nat) (pn : Nat) (mn : Nat → Int32) (cx : Nat → Int32) (cy : Nat → Int32) (P0 : Nat → Int32) (Q0 : Nat → Int32) (hf_f : f ≤ 200) (hpn : I0 31 = nI pn) (hp40 : pn ≤ 40) : zM l yX11_give cX11_give 3 none ({ frames := 0, cells := 0, slots := 0, locals := 0 } : Room) [.ref k0, .int (nI f)] (dC, dI) (zTy cI cZ cF) [(om k0 a I0 J0), (oa (a 11) cI 201 mn), (oa (a 12) cI 8040 cx), (oa (a 13) cI 8040 cy), (oa (a 29) cI 42 P0), (oa (a 30) cI 42 Q0)] sz none (fun A t => ∃ (cx1 : Nat → Int32), ∃ (cy1 : Nat → Int32), (∀ j, j < pn → cx1 (40 * f + j) = P0 j ∧ cy1 (40 * f + j) = Q0 j) ∧ (∀ j, (j < 40 * f ∨ 40 * f + pn ≤ j) → cx1 j = cx j ∧ cy1 j = cy j) ∧ zPD (dC, dI) classes A [(om k0 a I0 J0), (oa (a 11) cI 201 (upd mn f (nI pn))), (oa (a 12) cI 8040 cx1), (oa (a 13) cI 8040 cy1), (oa (a 29) cI 42 P0), (oa (a 30) cI 42 Q0)] t.heap) 0 0 := by
  refine zIn (own := "ScaleShopModel") (loc := [(0, .ref k0), (1, .int (nI f))]) rfl rfl rfl rfl (fun p e s m below meth c hx hb hr hts hown hlocks hml hnm9 A hA hS hP hD hK hXN Q9 hQ9 ls hl => ?_)
  refine lv_aload_n hx hb dX11_give_0 rfl (lv_at hl 0 rfl) ?_
  refine va_get (D := (dC, dI)) (ci := 9) (v := .ref (a 11)) (C := RX11) (T := TX11) (N := 55) hx hb hts inX11 hown hK hP 0 rfl rfl 11 (Nat.le_of_ble_eq_true rfl) (hts _ mw_1170) (fun _ h9 => h9) rfl dX11_give_1 ?_
  refine lv_iload_n hx hb dX11_give_4 rfl (lv_at hl 1 rfl) ?_
  refine lv_aload_n hx hb dX11_give_5 rfl (lv_at hl 0 rfl) ?_
  refine va_get (D := (dC, dI)) (ci := 9) (v := .int (I0 31)) (C := RX11) (T := TX11) (N := 55) hx hb hts inX11 hown hK hP 0 rfl rfl 31 (Nat.le_of_ble_eq_true rfl) (hts _ mw_1190) (fun _ h9 => h9) rfl dX11_give_6 ?_
  refine zz_i (v := nI pn) (hpn) ?_
  have b9_1 : f < 201 := by omega
  refine z_iast hx hb hK hP hD hS 1 0 rfl rfl (e := f) (x := nI pn) rfl b9_1 (Nat.le_of_ble_eq_true rfl) dX11_give_9 (fun H locs hP hD hS => ?_)
  obtain ⟨hP, hD⟩ := zre (W2 := [_, (oa (a 11) cI 201 (upd mn f (nI pn))), _, _, _, _]) hP hD rfl
  refine lv_iconst (v := 0) hx hb dX11_give_10 rfl ?_
  refine lv_istore_n (lv' := [(2, .int 0), (0, .ref k0), (1, .int (nI f))]) hx hb dX11_give_11 rfl hl (Nat.le_of_ble_eq_true rfl) rfl (fun ls hl => ?_)
  have hl_12 : ∀ (n9 : Nat) (k : Nat) (cx1 : Nat → Int32) (cy1 : Nat → Int32) (H : Heap) (locs : List Loc) (ls : Array Slot), pn - k < n9 → (k ≤ pn) → (∀ j, j < k → cx1 (40 * f + j) = P0 j ∧ cy1 (40 * f + j) = Q0 j) → (∀ j, (j < 40 * f ∨ 40 * f + k ≤ j) → cx1 j = cx j ∧ cy1 j = cy j) → va_P (dC, dI) classes [(om k0 a I0 J0), (oa (a 11) cI 201 (upd mn f (nI pn))), (oa (a 12) cI 8040 cx1), (oa (a 13) cI 8040 cy1), (oa (a 29) cI 42 P0), (oa (a 30) cI 42 Q0)] H → va_D A [(om k0 a I0 J0), (oa (a 11) cI 201 (upd mn f (nI pn))), (oa (a 12) cI 8040 cx1), (oa (a 13) cI 8040 cy1), (oa (a 29) cI 42 P0), (oa (a 30) cI 42 Q0)] → va_S A s.heap H locs → lv_has ls 3 [(2, .int (nI k)), (0, .ref k0), (1, .int (nI f))] → W p l e ({ frames := 0, cells := 0, slots := 0, locals := 0 } : Room) s m ([.ref k0, .int (nI f)] : List Value).toArray below meth c H locs 0 0 Q9 (F0 m 12 ls []) := by
    intro n9
    induction n9 with
    | zero => intro k cx1 cy1 H locs ls hm; exact absurd hm (Nat.not_lt_zero _)
    | succ n9 ih_12 =>
      intro k cx1 cy1 H locs ls hm hk hall hrst hP hD hS hl
      refine lv_iload_n hx hb dX11_give_12 rfl (lv_at hl 0 rfl) ?_
      refine lv_aload_n hx hb dX11_give_13 rfl (lv_at hl 1 rfl) ?_
      refine va_get (D := (dC, dI)) (ci := 9) (v := .int (I0 31)) (C := RX11) (T := TX11) (N := 55) hx hb hts inX11 hown hK hP 0 rfl rfl 31 (Nat.le_of_ble_eq_true rfl) (hts _ mw_1190) (fun _ h9 => h9) rfl dX11_give_14 ?_
      refine zz_i (v := nI pn) (hpn) ?_
      have b9_3 : zlt (k) := show k < 2147483648 by omega
      have b9_4 : zlt (pn) := show pn < 2147483648 by omega
      refine lv_icmp_ge (tgt := 60) hx hb dX11_give_17 rfl (fun c_2 => ?_) (fun c_2 => ?_)
      · have c_2 : ((pn : Nat) : Int) ≤ ((k : Nat) : Int) := zc_le (nI_toInt b9_4) (nI_toInt b9_3) c_2
        obtain ⟨hP9, hD9⟩ := zu_sub (wc := [_, _, _, _, _, _]) hP hD [true, true, true, true, true, true] rfl rfl
        rw [hQ9]
        exact W.vret hx hb hr (fun t ht hW => ⟨⟨rfl, cx1, cy1, (fun j hj => hall j (by omega)), (fun j hj => hrst j (by omega)), by rw [ht]; exact hP9, hD9⟩, hS.F ht⟩) hS.2.2 dX11_give_60
      · have c_2 : ((k : Nat) : Int) < ((pn : Nat) : Int) := zc_nle (nI_toInt b9_4) (nI_toInt b9_3) c_2
        refine lv_aload_n hx hb dX11_give_20 rfl (lv_at hl 1 rfl) ?_
        refine va_get (D := (dC, dI)) (ci := 9) (v := .ref (a 12)) (C := RX11) (T := TX11) (N := 55) hx hb hts inX11 hown hK hP 0 rfl rfl 12 (Nat.le_of_ble_eq_true rfl) (hts _ mw_1171) (fun _ h9 => h9) rfl dX11_give_21 ?_
        refine lv_bipush (v := 40) hx hb dX11_give_24 rfl ?_
        refine lv_iload_n hx hb dX11_give_26 rfl (lv_at hl 2 rfl) ?_
        refine lv_imul hx hb dX11_give_27 ?_
        refine zz_i (v := nI (40 * f)) (pk_mul 40 f) ?_
        refine lv_iload_n hx hb dX11_give_28 rfl (lv_at hl 0 rfl) ?_
        refine lv_iadd hx hb dX11_give_29 ?_
        refine zz_i (v := nI (40 * f + k)) (nI_add (40 * f) k) ?_
        refine lv_aload_n hx hb dX11_give_30 rfl (lv_at hl 1 rfl) ?_
        refine va_get (D := (dC, dI)) (ci := 9) (v := .ref (a 29)) (C := RX11) (T := TX11) (N := 55) hx hb hts inX11 hown hK hP 0 rfl rfl 29 (Nat.le_of_ble_eq_true rfl) (hts _ mw_1188) (fun _ h9 => h9) rfl dX11_give_31 ?_
        refine lv_iload_n hx hb dX11_give_34 rfl (lv_at hl 0 rfl) ?_
        have b9_5 : k < 42 := by omega
        refine z_iald hx hb hK hP 4 0 rfl rfl (e := k) rfl b9_5 (Nat.le_of_ble_eq_true rfl) dX11_give_35 ?_
        have b9_6 : 40 * f + k < 8040 := by omega
        refine z_iast hx hb hK hP hD hS 2 0 rfl rfl (e := 40 * f + k) (x := P0 k) rfl b9_6 (Nat.le_of_ble_eq_true rfl) dX11_give_36 (fun H locs hP hD hS => ?_)
        obtain ⟨hP, hD⟩ := zre (W2 := [_, _, (oa (a 12) cI 8040 (upd cx1 (40 * f + k) (P0 k))), _, _, _]) hP hD rfl
        refine lv_aload_n hx hb dX11_give_37 rfl (lv_at hl 1 rfl) ?_
        refine va_get (D := (dC, dI)) (ci := 9) (v := .ref (a 13)) (C := RX11) (T := TX11) (N := 55) hx hb hts inX11 hown hK hP 0 rfl rfl 13 (Nat.le_of_ble_eq_true rfl) (hts _ mw_1172) (fun _ h9 => h9) rfl dX11_give_38 ?_
        refine lv_bipush (v := 40) hx hb dX11_give_41 rfl ?_
        refine lv_iload_n hx hb dX11_give_43 rfl (lv_at hl 2 rfl) ?_
        refine lv_imul hx hb dX11_give_44 ?_
        refine zz_i (v := nI (40 * f)) (pk_mul 40 f) ?_
        refine lv_iload_n hx hb dX11_give_45 rfl (lv_at hl 0 rfl) ?_
        refine lv_iadd hx hb dX11_give_46 ?_
        refine zz_i (v := nI (40 * f + k)) (nI_add (40 * f) k) ?_
        refine lv_aload_n hx hb dX11_give_47 rfl (lv_at hl 1 rfl) ?_
        refine va_get (D := (dC, dI)) (ci := 9) (v := .ref (a 30)) (C := RX11) (T := TX11) (N := 55) hx hb hts inX11 hown hK hP 0 rfl rfl 30 (Nat.le_of_ble_eq_true rfl) (hts _ mw_1189) (fun _ h9 => h9) rfl dX11_give_48 ?_
        refine lv_iload_n hx hb dX11_give_51 rfl (lv_at hl 0 rfl) ?_
        refine z_iald hx hb hK hP 5 0 rfl rfl (e := k) rfl b9_5 (Nat.le_of_ble_eq_true rfl) dX11_give_52 ?_
        refine z_iast hx hb hK hP hD hS 3 0 rfl rfl (e := 40 * f + k) (x := Q0 k) rfl b9_6 (Nat.le_of_ble_eq_true rfl) dX11_give_53 (fun H locs hP hD hS => ?_)
        obtain ⟨hP, hD⟩ := zre (W2 := [_, _, _, (oa (a 13) cI 8040 (upd cy1 (40 * f + k) (Q0 k))), _, _]) hP hD rfl
        refine lv_iinc (v := nI (k + 1)) (lv' := [(2, .int (nI (k + 1))), (0, .ref k0), (1, .int (nI f))]) hx hb dX11_give_54 hl (k := 0) rfl (nI_add k 1) (Nat.le_of_ble_eq_true rfl) rfl (fun ls hl => ?_)
        refine lv_goto (tgt := 12) hx hb dX11_give_57 rfl ?_
        exact ih_12 (k + 1) (upd cx1 (40 * f + k) (P0 k)) (upd cy1 (40 * f + k) (Q0 k)) H locs ls (by first | with_reducible assumption | omega) (by first | with_reducible assumption | omega) (by intro j hj; rcases Nat.lt_or_ge j k with h | h; simp only [upd, if_neg (show 40 * f + j ≠ 40 * f + k by omega)]; exact hall j h; rw [show j = k by omega]; simp only [upd, if_true]; first | exact ⟨rfl, rfl⟩ | exact ⟨trivial, trivial⟩) (by intro j hj; simp only [upd, if_neg (show j ≠ 40 * f + k by omega)]; exact hrst j (by first | with_reducible assumption | omega)) hP hD hS (lv_sub hl [0, 1, 2] rfl)
  exact hl_12 _ 0 cx cy H locs ls (Nat.lt_succ_self _) (by first | with_reducible assumption | omega) (by intro j hj; omega) (by intro j hj; exact ⟨rfl, rfl⟩) hP hD hS (lv_sub hl [0, 1, 2] rfl)
set_option maxHeartbeats 4000000 in
set_option maxRecDepth 100000 in
theorem k_M_lengthOf (l : Launch) (dC : Nat → ClassId) (dI : Nat → Nat → Nat) (cI cZ cF : ClassId) (sz : Nat) (k0 : Nat) (a : Nat → Nat) (I0 : Nat → Int32) (J0 : Nat → Int64) (f : Nat) (n : Nat) (mn : Nat → Int32) (cx : Nat → Int32) (cy : Nat → Int32) (S0 : Nat → Int32) (hf_f : f ≤ 200) (hm_f : mn f = nI n) (hn_f : 1 ≤ n ∧ n ≤ 40) (hp_f : pls n (cF40 cx f) (cF40 cy f)) : zM l yX11_lengthOf cX11_lengthOf 5 (some .long) ({ frames := 1, cells := 0, slots := 0, locals := 25 } : Room) [.ref k0, .int (nI f)] (dC, dI) (zTy cI cZ cF) [(om k0 a I0 J0), (oa (a 11) cI 201 mn), (oa (a 12) cI 8040 cx), (oa (a 13) cI 8040 cy), (oa (a 32) cI 8 S0)] sz (some (.long (jI ((ln2 (cF40 cx f) (cF40 cy f) (n - 1) : Nat) : Int)))) (fun A t => ∃ (S1 : Nat → Int32), zPD (dC, dI) classes A [(om k0 a I0 J0), (oa (a 11) cI 201 mn), (oa (a 12) cI 8040 cx), (oa (a 13) cI 8040 cy), (oa (a 32) cI 8 S1)] t.heap) 0 0 := by
  refine zIn (own := "ScaleShopModel") (loc := [(0, .ref k0), (1, .int (nI f))]) rfl rfl rfl rfl (fun p e s m below meth c hx hb hr hts hown hlocks hml hnm9 A hA hS hP hD hK hXN Q9 hQ9 ls hl => ?_)
  refine lv_lconst (v := 0) hx hb dX11_lengthOf_0 rfl ?_
  refine lv_lstore_n (lv' := [(2, .long 0), (0, .ref k0), (1, .int (nI f))]) hx hb dX11_lengthOf_1 rfl hl (Nat.le_of_ble_eq_true rfl) rfl (fun ls hl => ?_)
  refine lv_iconst (v := 0) hx hb dX11_lengthOf_2 rfl ?_
  refine lv_istore (lv' := [(4, .int 0), (2, .long 0), (0, .ref k0), (1, .int (nI f))]) hx hb dX11_lengthOf_3 hl (Nat.le_of_ble_eq_true rfl) rfl (fun ls hl => ?_)
  have hl_5 : ∀ (n9 : Nat) (i : Nat) (S1 : Nat → Int32) (H : Heap) (locs : List Loc) (ls : Array Slot), n - i < n9 → (i ≤ n - 1) → va_P (dC, dI) classes [(om k0 a I0 J0), (oa (a 11) cI 201 mn), (oa (a 12) cI 8040 cx), (oa (a 13) cI 8040 cy), (oa (a 32) cI 8 S1)] H → va_D A [(om k0 a I0 J0), (oa (a 11) cI 201 mn), (oa (a 12) cI 8040 cx), (oa (a 13) cI 8040 cy), (oa (a 32) cI 8 S1)] → va_S A s.heap H locs → lv_has ls 5 [(4, .int (nI i)), (2, .long (jI ((ln2 (cF40 cx f) (cF40 cy f) i : Nat) : Int))), (0, .ref k0), (1, .int (nI f))] → W p l e ({ frames := 1, cells := 0, slots := 0, locals := 25 } : Room) s m ([.ref k0, .int (nI f)] : List Value).toArray below meth c H locs 0 0 Q9 (F0 m 5 ls []) := by
    intro n9
    induction n9 with
    | zero => intro i S1 H locs ls hm; exact absurd hm (Nat.not_lt_zero _)
    | succ n9 ih_5 =>
      intro i S1 H locs ls hm hi hP hD hS hl
      have hB := ln2B hp_f i (by omega)
      refine lv_iload hx hb dX11_lengthOf_5 (lv_at hl 0 rfl) ?_
      refine lv_aload_n hx hb dX11_lengthOf_7 rfl (lv_at hl 2 rfl) ?_
      refine va_get (D := (dC, dI)) (ci := 9) (v := .ref (a 11)) (C := RX11) (T := TX11) (N := 55) hx hb hts inX11 hown hK hP 0 rfl rfl 11 (Nat.le_of_ble_eq_true rfl) (hts _ mw_1170) (fun _ h9 => h9) rfl dX11_lengthOf_8 ?_
      refine lv_iload_n hx hb dX11_lengthOf_11 rfl (lv_at hl 3 rfl) ?_
      have b9_1 : f < 201 := by omega
      refine z_iald hx hb hK hP 1 0 rfl rfl (e := f) rfl b9_1 (Nat.le_of_ble_eq_true rfl) dX11_lengthOf_12 ?_
      refine zz_i (v := nI n) (hm_f) ?_
      refine lv_iconst (v := 1) hx hb dX11_lengthOf_13 rfl ?_
      refine lv_isub hx hb dX11_lengthOf_14 ?_
      refine zz_i (v := nI (n - 1)) (pk_sub (a := n) (b := 1) (by omega)) ?_
      have b9_3 : zlt (i) := show i < 2147483648 by omega
      have b9_4 : zlt ((n - 1)) := show (n - 1) < 2147483648 by omega
      refine lv_icmp_ge (tgt := 69) hx hb dX11_lengthOf_15 rfl (fun c_2 => ?_) (fun c_2 => ?_)
      · have c_2 : ((n - 1 : Nat) : Int) ≤ ((i : Nat) : Int) := zc_le (nI_toInt b9_4) (nI_toInt b9_3) c_2
        refine lv_lload_n hx hb dX11_lengthOf_69 rfl (lv_at hl 1 rfl) ?_
        obtain ⟨hP9, hD9⟩ := zu_sub (wc := [_, _, _, _, _]) hP hD [true, true, true, true, true] rfl rfl
        rw [hQ9]
        exact W.lret (v := jI ((ln2 (cF40 cx f) (cF40 cy f) i : Nat) : Int)) hx hb hr (fun t ht hW => ⟨⟨congrArg (fun z => Outcome.returned (some (Value.long z))) (show (jI ((ln2 (cF40 cx f) (cF40 cy f) i : Nat) : Int) : Int64) = jI ((ln2 (cF40 cx f) (cF40 cy f) (n - 1) : Nat) : Int) from by rw [show i = n - 1 by omega]), S1, by rw [ht]; exact hP9, hD9⟩, hS.F ht⟩) hS.2.2 dX11_lengthOf_70
      · have c_2 : ((i : Nat) : Int) < ((n - 1 : Nat) : Int) := zc_nle (nI_toInt b9_4) (nI_toInt b9_3) c_2
        have hin9 : i < n := (by omega)
        have hnx : nxt n i = i + 1 := (by unfold nxt; rw [if_pos (by omega)])
        have ha := hp_f i hin9
        have hb9 := hp_f (i + 1) (by omega)
        unfold pl at ha hb9
        have ex : (cF40 cx f (i + 1) - cF40 cx f i).toInt = (cF40 cx f (i + 1)).toInt - (cF40 cx f i).toInt := fb_subI (by omega) (by omega)
        have ey : (cF40 cy f (i + 1) - cF40 cy f i).toInt = (cF40 cy f (i + 1)).toInt - (cF40 cy f i).toInt := fb_subI (by omega) (by omega)
        refine lv_aload_n hx hb dX11_lengthOf_18 rfl (lv_at hl 2 rfl) ?_
        refine lv_iload_n hx hb dX11_lengthOf_19 rfl (lv_at hl 3 rfl) ?_
        refine lv_iload hx hb dX11_lengthOf_20 (lv_at hl 0 rfl) ?_
        refine lv_iconst (v := 0) hx hb dX11_lengthOf_22 rfl ?_
        obtain ⟨hPc, hDc, hFc⟩ := zo_sub (wc := [_, _, _, _, _]) hP hD hS hA [0, 1, 2, 3, 4] (by decide +kernel) rfl
        refine zcall (st1 := []) (va_runV (As := [.int (nI f), .int (nI i), .int 0]) (rest := []) ⟨hx, hb, hml, hown, hts⟩ (k_M_edge l dC dI cI cZ cF H.size k0 a I0 J0 f n i 0 mn cx cy S1 (by first | with_reducible assumption | omega) (by first | with_reducible assumption | assumption) (by first | with_reducible assumption | omega) (by first | with_reducible assumption | omega) (by first | with_reducible assumption | omega)) (csV_167 hts rfl rfl ⟨Nat.le_of_ble_eq_true rfl, Nat.le_of_ble_eq_true rfl⟩) (zPV2 (q0 := 0) (ci := 9) hPc hDc hK hXN rfl rfl) rfl rfl hl.1 rfl (lv_room (Nat.le_of_ble_eq_true rfl)) dX11_lengthOf_23 ⟨Nat.le_of_ble_eq_true rfl, Nat.le_of_ble_eq_true rfl⟩) hS hFc hFc rfl (fun t H locs ht hB hk1 hS => ?_)
        obtain ⟨S2, t0, t1, t2, t3, tr, hP1, hD1⟩ := hB
        rw [ht] at hP1
        obtain ⟨hP, hD⟩ := zn (W2 := [_, _, _, _, (oa (a 32) cI 8 S2)]) hP hD hk1 hFc hP1 hD1 [0, 1, 2, 3, 4] [] [false, false, false, false, false] [0, 1, 2, 3, 4] (by decide +kernel) rfl rfl rfl rfl rfl
        clear hk1 hPc hDc hFc hP1 hD1 ht
        have v0 : S2 0 = cF40 cx f i := t0
        have v1 : S2 1 = cF40 cy f i := t1
        have v2 : S2 2 = cF40 cx f (i + 1) := (by rw [← hnx]; exact t2)
        have v3 : S2 3 = cF40 cy f (i + 1) := (by rw [← hnx]; exact t3)
        refine lv_lload_n hx hb dX11_lengthOf_26 rfl (lv_at hl 1 rfl) ?_
        refine lv_aload_n hx hb dX11_lengthOf_27 rfl (lv_at hl 2 rfl) ?_
        refine va_get (D := (dC, dI)) (ci := 9) (v := .ref (a 32)) (C := RX11) (T := TX11) (N := 55) hx hb hts inX11 hown hK hP 0 rfl rfl 32 (Nat.le_of_ble_eq_true rfl) (hts _ mw_1191) (fun _ h9 => h9) rfl dX11_lengthOf_28 ?_
        refine lv_iconst (v := 2) hx hb dX11_lengthOf_31 rfl ?_
        refine z_iald hx hb hK hP 4 0 rfl rfl (e := 2) rfl (Nat.le_of_ble_eq_true rfl) (Nat.le_of_ble_eq_true rfl) dX11_lengthOf_32 ?_
        refine zz_i (v := cF40 cx f (i + 1)) (v2) ?_
        refine lv_aload_n hx hb dX11_lengthOf_33 rfl (lv_at hl 2 rfl) ?_
        refine va_get (D := (dC, dI)) (ci := 9) (v := .ref (a 32)) (C := RX11) (T := TX11) (N := 55) hx hb hts inX11 hown hK hP 0 rfl rfl 32 (Nat.le_of_ble_eq_true rfl) (hts _ mw_1191) (fun _ h9 => h9) rfl dX11_lengthOf_34 ?_
        refine lv_iconst (v := 0) hx hb dX11_lengthOf_37 rfl ?_
        refine z_iald hx hb hK hP 4 0 rfl rfl (e := 0) rfl (Nat.le_of_ble_eq_true rfl) (Nat.le_of_ble_eq_true rfl) dX11_lengthOf_38 ?_
        refine zz_i (v := cF40 cx f i) (v0) ?_
        refine lv_isub hx hb dX11_lengthOf_39 ?_
        refine zz_i (v := iI ((cF40 cx f (i + 1)).toInt - (cF40 cx f i).toInt)) (iI_of ex) ?_
        refine va_mabs hx hb (by rw [hml]; exact hl.1.symm) hown (hts _ mw_1562) (hts _ mw_589) (hts _ mw_103) (hts _ mw_abscode) (Nat.le_of_ble_eq_true rfl) (Nat.le_of_ble_eq_true rfl) (Nat.le_of_ble_eq_true rfl) (Nat.le_of_ble_eq_true rfl) dX11_lengthOf_40 ?_
        refine zz_i (v := nI (Int.natAbs ((cF40 cx f (i + 1)).toInt - (cF40 cx f i).toInt))) (zabs (iI_toInt (by omega)) (by omega)) ?_
        refine lv_aload_n hx hb dX11_lengthOf_43 rfl (lv_at hl 2 rfl) ?_
        refine va_get (D := (dC, dI)) (ci := 9) (v := .ref (a 32)) (C := RX11) (T := TX11) (N := 55) hx hb hts inX11 hown hK hP 0 rfl rfl 32 (Nat.le_of_ble_eq_true rfl) (hts _ mw_1191) (fun _ h9 => h9) rfl dX11_lengthOf_44 ?_
        refine lv_iconst (v := 3) hx hb dX11_lengthOf_47 rfl ?_
        refine z_iald hx hb hK hP 4 0 rfl rfl (e := 3) rfl (Nat.le_of_ble_eq_true rfl) (Nat.le_of_ble_eq_true rfl) dX11_lengthOf_48 ?_
        refine zz_i (v := cF40 cy f (i + 1)) (v3) ?_
        refine lv_aload_n hx hb dX11_lengthOf_49 rfl (lv_at hl 2 rfl) ?_
        refine va_get (D := (dC, dI)) (ci := 9) (v := .ref (a 32)) (C := RX11) (T := TX11) (N := 55) hx hb hts inX11 hown hK hP 0 rfl rfl 32 (Nat.le_of_ble_eq_true rfl) (hts _ mw_1191) (fun _ h9 => h9) rfl dX11_lengthOf_50 ?_
        refine lv_iconst (v := 1) hx hb dX11_lengthOf_53 rfl ?_
        refine z_iald hx hb hK hP 4 0 rfl rfl (e := 1) rfl (Nat.le_of_ble_eq_true rfl) (Nat.le_of_ble_eq_true rfl) dX11_lengthOf_54 ?_
        refine zz_i (v := cF40 cy f i) (v1) ?_
        refine lv_isub hx hb dX11_lengthOf_55 ?_
        refine zz_i (v := iI ((cF40 cy f (i + 1)).toInt - (cF40 cy f i).toInt)) (iI_of ey) ?_
        refine va_mabs hx hb (by rw [hml]; exact hl.1.symm) hown (hts _ mw_1562) (hts _ mw_589) (hts _ mw_103) (hts _ mw_abscode) (Nat.le_of_ble_eq_true rfl) (Nat.le_of_ble_eq_true rfl) (Nat.le_of_ble_eq_true rfl) (Nat.le_of_ble_eq_true rfl) dX11_lengthOf_56 ?_
        refine zz_i (v := nI (Int.natAbs ((cF40 cy f (i + 1)).toInt - (cF40 cy f i).toInt))) (zabs (iI_toInt (by omega)) (by omega)) ?_
        refine lv_iadd hx hb dX11_lengthOf_59 ?_
        refine zz_i (v := nI ((Int.natAbs ((cF40 cx f (i + 1)).toInt - (cF40 cx f i).toInt)) + (Int.natAbs ((cF40 cy f (i + 1)).toInt - (cF40 cy f i).toInt)))) (nI_add (Int.natAbs ((cF40 cx f (i + 1)).toInt - (cF40 cx f i).toInt)) (Int.natAbs ((cF40 cy f (i + 1)).toInt - (cF40 cy f i).toInt))) ?_
        refine lv_i2l (v := (nI ((Int.natAbs ((cF40 cx f (i + 1)).toInt - (cF40 cx f i).toInt)) + (Int.natAbs ((cF40 cy f (i + 1)).toInt - (cF40 cy f i).toInt)))).toInt64) hx hb dX11_lengthOf_60 (rfl) ?_
        refine zz_l (v := jI (((((cF40 cx f (i + 1)).toInt - (cF40 cx f i).toInt).natAbs + ((cF40 cy f (i + 1)).toInt - (cF40 cy f i).toInt).natAbs) : Nat) : Int)) (nI_64 (by omega)) ?_
        refine lv_ladd hx hb dX11_lengthOf_61 ?_
        refine zz_l (v := jI (((ln2 (cF40 cx f) (cF40 cy f) i : Nat) : Int) + (((((cF40 cx f (i + 1)).toInt - (cF40 cx f i).toInt).natAbs + ((cF40 cy f (i + 1)).toInt - (cF40 cy f i).toInt).natAbs) : Nat) : Int))) (jI_add (by omega) (by omega)) ?_
        refine lv_lstore_n (lv' := [(2, .long (jI (((ln2 (cF40 cx f) (cF40 cy f) i : Nat) : Int) + (((((cF40 cx f (i + 1)).toInt - (cF40 cx f i).toInt).natAbs + ((cF40 cy f (i + 1)).toInt - (cF40 cy f i).toInt).natAbs) : Nat) : Int)))), (4, .int (nI i)), (0, .ref k0), (1, .int (nI f))]) hx hb dX11_lengthOf_62 rfl hl (Nat.le_of_ble_eq_true rfl) rfl (fun ls hl => ?_)
        refine lv_iinc (v := nI (i + 1)) (lv' := [(4, .int (nI (i + 1))), (2, .long (jI (((ln2 (cF40 cx f) (cF40 cy f) i : Nat) : Int) + (((((cF40 cx f (i + 1)).toInt - (cF40 cx f i).toInt).natAbs + ((cF40 cy f (i + 1)).toInt - (cF40 cy f i).toInt).natAbs) : Nat) : Int)))), (0, .ref k0), (1, .int (nI f))]) hx hb dX11_lengthOf_63 hl (k := 1) rfl (nI_add i 1) (Nat.le_of_ble_eq_true rfl) rfl (fun ls hl => ?_)
        refine lv_goto (tgt := 5) hx hb dX11_lengthOf_66 rfl ?_
        have hl9 := lv_sub hl [0, 1, 2, 3] rfl
        have e9_2 : jI ((ln2 (cF40 cx f) (cF40 cy f) (i + 1) : Nat) : Int) = (jI (((ln2 (cF40 cx f) (cF40 cy f) i : Nat) : Int) + (((((cF40 cx f (i + 1)).toInt - (cF40 cx f i).toInt).natAbs + ((cF40 cy f (i + 1)).toInt - (cF40 cy f i).toInt).natAbs) : Nat) : Int)) : Int64) := by rfl
        have hl9 : lv_has ls 5 [(4, .int (nI (i + 1))), (2, .long (jI ((ln2 (cF40 cx f) (cF40 cy f) (i + 1) : Nat) : Int))), (0, .ref k0), (1, .int (nI f))] := by rw [e9_2]; exact hl9
        exact ih_5 (i + 1) S2 H locs ls (by first | with_reducible assumption | omega) (by first | with_reducible assumption | omega) hP hD hS hl9
  have e9_2 : jI ((ln2 (cF40 cx f) (cF40 cy f) 0 : Nat) : Int) = (0 : Int64) := by rfl
  have hl9 : lv_has ls 5 [(4, .int (nI 0)), (2, .long (jI ((ln2 (cF40 cx f) (cF40 cy f) 0 : Nat) : Int))), (0, .ref k0), (1, .int (nI f))] := by rw [e9_2]; exact lv_sub hl [0, 1, 2, 3] rfl
  exact hl_5 _ 0 S0 s.heap [] ls (Nat.lt_succ_self _) (by first | with_reducible assumption | omega) hP hD hS hl9
end
section
set_option maxHeartbeats 4000000 in
set_option maxRecDepth 100000 in
theorem k_M_isHeld (l : Launch) (dC : Nat → ClassId) (dI : Nat → Nat → Nat) (cI cZ cF : ClassId) (sz : Nat) (k0 : Nat) (a : Nat → Nat) (I0 : Nat → Int32) (J0 : Nat → Int64) (f : Nat) (ft : Nat) (st : Nat → Int32) (tn : Nat → Int32) (kd : Nat → Int32) (mn : Nat → Int32) (cx : Nat → Int32) (cy : Nat → Int32) (S0 : Nat → Int32) (px : Int32) (py : Int32) (hft : I0 0 = nI ft) (h200 : ft ≤ 200) (hwf : ∀ q, q < ft ∧ (st q).toInt = 1 ∧ (tn q).toInt = 0 → wfM mn cx cy q) (hf_f : f ≤ 200) (hpx : pl px) (hpy : pl py) : zM l yX11_isHeld cX11_isHeld 5 (some .boolean) ({ frames := 3, cells := 0, slots := 0, locals := 80 } : Room) [.ref k0, .int (nI f), .int px, .int py] (dC, dI) (zTy cI cZ cF) [(om k0 a I0 J0), (oa (a 5) cI 201 st), (oa (a 6) cZ 201 tn), (oa (a 1) cI 201 kd), (oa (a 11) cI 201 mn), (oa (a 12) cI 8040 cx), (oa (a 13) cI 8040 cy), (oa (a 32) cI 8 S0)] sz (some (.int (pI (∃ q, (q < ft ∧ (st q).toInt = 1 ∧ (tn q).toInt = 0) ∧ q ≠ f ∧ onF kd mn cx cy q px.toInt py.toInt)))) (fun A t => ∃ (S1 : Nat → Int32), zPD (dC, dI) classes A [(om k0 a I0 J0), (oa (a 5) cI 201 st), (oa (a 6) cZ 201 tn), (oa (a 1) cI 201 kd), (oa (a 11) cI 201 mn), (oa (a 12) cI 8040 cx), (oa (a 13) cI 8040 cy), (oa (a 32) cI 8 S1)] t.heap) 0 0 := by
  refine zIn (own := "ScaleShopModel") (loc := [(0, .ref k0), (1, .int (nI f)), (2, .int px), (3, .int py)]) rfl rfl rfl rfl (fun p e s m below meth c hx hb hr hts hown hlocks hml hnm9 A hA hS hP hD hK hXN Q9 hQ9 ls hl => ?_)
  refine lv_iconst (v := 0) hx hb dX11_isHeld_0 rfl ?_
  refine lv_istore (lv' := [(4, .int 0), (0, .ref k0), (1, .int (nI f)), (2, .int px), (3, .int py)]) hx hb dX11_isHeld_1 hl (Nat.le_of_ble_eq_true rfl) rfl (fun ls hl => ?_)
  have hl_3 : ∀ (n9 : Nat) (q : Nat) (S1 : Nat → Int32) (H : Heap) (locs : List Loc) (ls : Array Slot), ft - q < n9 → (q ≤ ft) → (∀ j, j < q → (j < ft ∧ (st j).toInt = 1 ∧ (tn j).toInt = 0) → j ≠ f → ¬ onF kd mn cx cy j px.toInt py.toInt) → va_P (dC, dI) classes [(om k0 a I0 J0), (oa (a 5) cI 201 st), (oa (a 6) cZ 201 tn), (oa (a 1) cI 201 kd), (oa (a 11) cI 201 mn), (oa (a 12) cI 8040 cx), (oa (a 13) cI 8040 cy), (oa (a 32) cI 8 S1)] H → va_D A [(om k0 a I0 J0), (oa (a 5) cI 201 st), (oa (a 6) cZ 201 tn), (oa (a 1) cI 201 kd), (oa (a 11) cI 201 mn), (oa (a 12) cI 8040 cx), (oa (a 13) cI 8040 cy), (oa (a 32) cI 8 S1)] → va_S A s.heap H locs → lv_has ls 5 [(4, .int (nI q)), (0, .ref k0), (1, .int (nI f)), (2, .int px), (3, .int py)] → W p l e ({ frames := 3, cells := 0, slots := 0, locals := 80 } : Room) s m ([.ref k0, .int (nI f), .int px, .int py] : List Value).toArray below meth c H locs 0 0 Q9 (F0 m 3 ls []) := by
    intro n9
    induction n9 with
    | zero => intro q S1 H locs ls hm; exact absurd hm (Nat.not_lt_zero _)
    | succ n9 ih_3 =>
      intro q S1 H locs ls hm hq hno hP hD hS hl
      refine lv_iload hx hb dX11_isHeld_3 (lv_at hl 0 rfl) ?_
      refine lv_aload_n hx hb dX11_isHeld_5 rfl (lv_at hl 1 rfl) ?_
      refine va_get (D := (dC, dI)) (ci := 9) (v := .int (I0 0)) (C := RX11) (T := TX11) (N := 55) hx hb hts inX11 hown hK hP 0 rfl rfl 0 (Nat.le_of_ble_eq_true rfl) (hts _ mw_1159) (fun _ h9 => h9) rfl dX11_isHeld_6 ?_
      refine zz_i (v := nI ft) (hft) ?_
      have b9_2 : zlt (q) := show q < 2147483648 by omega
      have b9_3 : zlt (ft) := show ft < 2147483648 by omega
      refine lv_icmp_ge (tgt := 46) hx hb dX11_isHeld_9 rfl (fun c_1 => ?_) (fun c_1 => ?_)
      · have c_1 : ((ft : Nat) : Int) ≤ ((q : Nat) : Int) := zc_le (nI_toInt b9_3) (nI_toInt b9_2) c_1
        refine lv_iconst (v := 0) hx hb dX11_isHeld_46 rfl ?_
        obtain ⟨hP9, hD9⟩ := zu_sub (wc := [_, _, _, _, _, _, _, _]) hP hD [true, true, true, true, true, true, true, true] rfl rfl
        rw [hQ9]
        exact W.zret (ty := .boolean) (v := 0) hx hb hr (rfl) (fun t ht hW => ⟨⟨congrArg (fun z => Outcome.returned (some (Value.int z))) (show (0 : Int32) = pI (∃ q, (q < ft ∧ (st q).toInt = 1 ∧ (tn q).toInt = 0) ∧ q ≠ f ∧ onF kd mn cx cy q px.toInt py.toInt) from (zp_f (fun ⟨j, h1, h2, h3⟩ => hno j (by omega) h1 h2 h3)).symm), S1, by rw [ht]; exact hP9, hD9⟩, hS.F ht⟩) hS.2.2 dX11_isHeld_47
      · have c_1 : ((q : Nat) : Int) < ((ft : Nat) : Int) := zc_nle (nI_toInt b9_3) (nI_toInt b9_2) c_1
        refine lv_iload hx hb dX11_isHeld_12 (lv_at hl 0 rfl) ?_
        refine lv_iload_n hx hb dX11_isHeld_14 rfl (lv_at hl 2 rfl) ?_
        have b9_5 : zlt (f) := show f < 2147483648 by omega
        refine lv_icmp_eq (tgt := 40) hx hb dX11_isHeld_15 rfl (fun c_4 => ?_) (fun c_4 => ?_)
        · have c_4 : ((q : Nat) : Int) = ((f : Nat) : Int) := zc_eq (nI_toInt b9_2) (nI_toInt b9_5) c_4
          refine lv_iinc (v := nI (q + 1)) (lv' := [(4, .int (nI (q + 1))), (0, .ref k0), (1, .int (nI f)), (2, .int px), (3, .int py)]) hx hb dX11_isHeld_40 hl (k := 0) rfl (nI_add q 1) (Nat.le_of_ble_eq_true rfl) rfl (fun ls hl => ?_)
          refine lv_goto (tgt := 3) hx hb dX11_isHeld_43 rfl ?_
          exact ih_3 (q + 1) S1 H locs ls (by first | with_reducible assumption | omega) (by first | with_reducible assumption | omega) (by intro j hj h1 h2; rcases Nat.lt_or_ge j q with h | h; exact hno j h h1 h2; obtain rfl : j = q := (by first | with_reducible assumption | omega); first | (exfalso; omega) | exact absurd h1 (by first | with_reducible assumption | assumption) | assumption) hP hD hS (lv_sub hl [0, 1, 2, 3, 4] rfl)
        · have c_4 : ¬ ((q : Nat) : Int) = ((f : Nat) : Int) := zc_ne (nI_toInt b9_2) (nI_toInt b9_5) c_4
          refine lv_aload_n hx hb dX11_isHeld_18 rfl (lv_at hl 1 rfl) ?_
          refine lv_iload hx hb dX11_isHeld_19 (lv_at hl 0 rfl) ?_
          obtain ⟨hPc, hDc, hFc, hI1⟩ := zi_sub (wc := [_, _, _]) hP hD hS hA [0, 1, 2] rfl rfl
          refine zcall (st1 := [.int (pI (q < ft ∧ (st q).toInt = 1 ∧ (tn q).toInt = 0))]) (va_runV (As := [.int (nI q)]) (rest := []) ⟨hx, hb, hml, hown, hts⟩ (k_M_is_n l dC dI cI cZ cF H.size k0 a I0 J0 q ft st tn (by first | with_reducible assumption | assumption) (by first | with_reducible assumption | omega) (by first | with_reducible assumption | omega)) (csV_179 hts rfl rfl ⟨Nat.le_of_ble_eq_true rfl, Nat.le_of_ble_eq_true rfl⟩) (zPV2 (q0 := 0) (ci := 9) hPc hDc hK hXN rfl rfl) rfl rfl hl.1 rfl (lv_room (Nat.le_of_ble_eq_true rfl)) dX11_isHeld_21 ⟨Nat.le_of_ble_eq_true rfl, Nat.le_of_ble_eq_true rfl⟩) hS hFc hFc rfl (fun t H locs ht hB hk1 hS => ?_)
          obtain ⟨hP1, hD1⟩ := hB
          rw [ht] at hP1
          replace hP := z0 hP hD hk1 hP1 hI1
          clear hk1 hPc hDc hFc hP1 hD1 ht hI1
          refine lv_if_eq (tgt := 40) hx hb dX11_isHeld_24 rfl (fun c_6 => ?_) (fun c_6 => ?_)
          · have c_6 : ¬ (q < ft ∧ (st q).toInt = 1 ∧ (tn q).toInt = 0) := zp_0 c_6
            refine lv_iinc (v := nI (q + 1)) (lv' := [(4, .int (nI (q + 1))), (0, .ref k0), (1, .int (nI f)), (2, .int px), (3, .int py)]) hx hb dX11_isHeld_40 hl (k := 0) rfl (nI_add q 1) (Nat.le_of_ble_eq_true rfl) rfl (fun ls hl => ?_)
            refine lv_goto (tgt := 3) hx hb dX11_isHeld_43 rfl ?_
            exact ih_3 (q + 1) S1 H locs ls (by first | with_reducible assumption | omega) (by first | with_reducible assumption | omega) (by intro j hj h1 h2; rcases Nat.lt_or_ge j q with h | h; exact hno j h h1 h2; obtain rfl : j = q := (by first | with_reducible assumption | omega); first | (exfalso; omega) | exact absurd h1 (by first | with_reducible assumption | assumption) | assumption) hP hD hS (lv_sub hl [0, 1, 2, 3, 4] rfl)
          · have c_6 : q < ft ∧ (st q).toInt = 1 ∧ (tn q).toInt = 0 := zp_1 c_6
            have hw9 := hwf q (by first | with_reducible assumption | assumption)
            have hm9 := hw9.1
            have hn9 := hw9.2.1
            have hp9 := hw9.2.2
            refine lv_aload_n hx hb dX11_isHeld_27 rfl (lv_at hl 1 rfl) ?_
            refine lv_iload hx hb dX11_isHeld_28 (lv_at hl 0 rfl) ?_
            refine lv_iload_n hx hb dX11_isHeld_30 rfl (lv_at hl 3 rfl) ?_
            refine lv_iload_n hx hb dX11_isHeld_31 rfl (lv_at hl 4 rfl) ?_
            obtain ⟨hPc, hDc, hFc⟩ := zo_sub (wc := [_, _, _, _, _, _]) hP hD hS hA [0, 3, 4, 5, 6, 7] (by decide +kernel) rfl
            refine zcall (st1 := [.int (pI (∃ i, i < eO (kd q).toInt (nN (mn q)) ∧ eOn (nN (mn q)) (cF40 cx q) (cF40 cy q) i px.toInt py.toInt))]) (va_runV (As := [.int (nI q), .int px, .int py]) (rest := []) ⟨hx, hb, hml, hown, hts⟩ (k_M_isOnSet l dC dI cI cZ cF H.size k0 a I0 J0 q (nN (mn q)) kd mn cx cy S1 px py (by first | with_reducible assumption | omega) (by first | with_reducible assumption | assumption) (by first | with_reducible assumption | omega) (by first | with_reducible assumption | assumption) (by first | with_reducible assumption | assumption) (by first | with_reducible assumption | assumption)) (csV_169 hts rfl rfl ⟨Nat.le_of_ble_eq_true rfl, Nat.le_of_ble_eq_true rfl⟩) (zPV2 (q0 := 0) (ci := 9) hPc hDc hK hXN rfl rfl) rfl rfl hl.1 rfl (lv_room (Nat.le_of_ble_eq_true rfl)) dX11_isHeld_32 ⟨Nat.le_of_ble_eq_true rfl, Nat.le_of_ble_eq_true rfl⟩) hS hFc hFc rfl (fun t H locs ht hB hk1 hS => ?_)
            obtain ⟨q_7, hP1, hD1⟩ := hB
            rw [ht] at hP1
            obtain ⟨hP, hD⟩ := zn (W2 := [_, _, _, _, _, _, _, (oa (a 32) cI 8 q_7)]) hP hD hk1 hFc hP1 hD1 [0, 3, 4, 5, 6, 7] [false, true, true] zl_146 [0, 3, 4, 5, 6, 7] (by decide +kernel) rfl rfl rfl rfl rfl
            clear hk1 hPc hDc hFc hP1 hD1 ht
            refine zz_i (v := pI (onF kd mn cx cy q px.toInt py.toInt)) (zp_iff Iff.rfl) ?_
            refine lv_if_eq (tgt := 40) hx hb dX11_isHeld_35 rfl (fun c_8 => ?_) (fun c_8 => ?_)
            · have c_8 : ¬ (onF kd mn cx cy q px.toInt py.toInt) := zp_0 c_8
              refine lv_iinc (v := nI (q + 1)) (lv' := [(4, .int (nI (q + 1))), (0, .ref k0), (1, .int (nI f)), (2, .int px), (3, .int py)]) hx hb dX11_isHeld_40 hl (k := 0) rfl (nI_add q 1) (Nat.le_of_ble_eq_true rfl) rfl (fun ls hl => ?_)
              refine lv_goto (tgt := 3) hx hb dX11_isHeld_43 rfl ?_
              exact ih_3 (q + 1) q_7 H locs ls (by first | with_reducible assumption | omega) (by first | with_reducible assumption | omega) (by intro j hj h1 h2; rcases Nat.lt_or_ge j q with h | h; exact hno j h h1 h2; obtain rfl : j = q := (by first | with_reducible assumption | omega); first | (exfalso; omega) | exact absurd h1 (by first | with_reducible assumption | assumption) | assumption) hP hD hS (lv_sub hl [0, 1, 2, 3, 4] rfl)
            · have c_8 : onF kd mn cx cy q px.toInt py.toInt := zp_1 c_8
              refine lv_iconst (v := 1) hx hb dX11_isHeld_38 rfl ?_
              obtain ⟨hP9, hD9⟩ := zu_sub (wc := [_, _, _, _, _, _, _, _]) hP hD [true, true, true, true, true, true, true, true] rfl rfl
              rw [hQ9]
              exact W.zret (ty := .boolean) (v := 1) hx hb hr (rfl) (fun t ht hW => ⟨⟨congrArg (fun z => Outcome.returned (some (Value.int z))) (show (1 : Int32) = pI (∃ q, (q < ft ∧ (st q).toInt = 1 ∧ (tn q).toInt = 0) ∧ q ≠ f ∧ onF kd mn cx cy q px.toInt py.toInt) from (zp_t (⟨q, by assumption, by omega, by assumption⟩)).symm), q_7, by rw [ht]; exact hP9, hD9⟩, hS.F ht⟩) hS.2.2 dX11_isHeld_39
  exact hl_3 _ 0 S0 s.heap [] ls (Nat.lt_succ_self _) (by first | with_reducible assumption | omega) (by intro j hj; omega) hP hD hS (lv_sub hl [0, 1, 2, 3, 4] rfl)
set_option maxHeartbeats 4000000 in
set_option maxRecDepth 100000 in
theorem k_M_triangle (l : Launch) (dC : Nat → ClassId) (dI : Nat → Nat → Nat) (cI cZ cF : ClassId) (sz : Nat) (k0 : Nat) (a : Nat → Nat) (I0 : Nat → Int32) (J0 : Nat → Int64) (f : Nat) (n : Nat) (k : Nat) (mn : Nat → Int32) (cx : Nat → Int32) (cy : Nat → Int32) (hf_f : f ≤ 200) (hm_f : mn f = nI n) (hn_f : 1 ≤ n ∧ n ≤ 40) (hp_f : pls n (cF40 cx f) (cF40 cy f)) (hk9 : k < n) : zM l yX11_triangle cX11_triangle 9 (some .long) ({ frames := 1, cells := 0, slots := 0, locals := 31 } : Room) [.ref k0, .int (nI f), .int (nI k)] (dC, dI) (zTy cI cZ cF) [(om k0 a I0 J0), (oa (a 11) cI 201 mn), (oa (a 12) cI 8040 cx), (oa (a 13) cI 8040 cy)] sz (some (.long (jI ((Int.natAbs (cr (cF40 cx f (prv n k)).toInt (cF40 cy f (prv n k)).toInt (cF40 cx f k).toInt (cF40 cy f k).toInt (cF40 cx f (nxt n k)).toInt (cF40 cy f (nxt n k)).toInt) : Nat) : Int)))) (fun A t => zPD (dC, dI) classes A [(om k0 a I0 J0), (oa (a 11) cI 201 mn), (oa (a 12) cI 8040 cx), (oa (a 13) cI 8040 cy)] t.heap) 0 0 := by
  refine zIn (own := "ScaleShopModel") (loc := [(0, .ref k0), (1, .int (nI f)), (2, .int (nI k))]) rfl rfl rfl rfl (fun p e s m below meth c hx hb hr hts hown hlocks hml hnm9 A hA hS hP hD hK hXN Q9 hQ9 ls hl => ?_)
  have hpv := prv_lt (n := n) (i := k) (by omega)
  have hnx := nxt_lt (n := n) (i := k) (by omega)
  have hB := crBp (hp_f _ hpv).1 (hp_f _ hpv).2 (hp_f _ hk9).1 (hp_f _ hk9).2 (hp_f _ hnx).1 (hp_f _ hnx).2
  refine lv_aload_n hx hb dX11_triangle_0 rfl (lv_at hl 0 rfl) ?_
  refine va_get (D := (dC, dI)) (ci := 9) (v := .ref (a 11)) (C := RX11) (T := TX11) (N := 55) hx hb hts inX11 hown hK hP 0 rfl rfl 11 (Nat.le_of_ble_eq_true rfl) (hts _ mw_1170) (fun _ h9 => h9) rfl dX11_triangle_1 ?_
  refine lv_iload_n hx hb dX11_triangle_4 rfl (lv_at hl 1 rfl) ?_
  have b9_1 : f < 201 := by omega
  refine z_iald hx hb hK hP 1 0 rfl rfl (e := f) rfl b9_1 (Nat.le_of_ble_eq_true rfl) dX11_triangle_5 ?_
  refine zz_i (v := nI n) (hm_f) ?_
  refine lv_istore_n (lv' := [(3, .int (nI n)), (0, .ref k0), (1, .int (nI f)), (2, .int (nI k))]) hx hb dX11_triangle_6 rfl hl (Nat.le_of_ble_eq_true rfl) rfl (fun ls hl => ?_)
  refine lv_bipush (v := 40) hx hb dX11_triangle_7 rfl ?_
  refine lv_iload_n hx hb dX11_triangle_9 rfl (lv_at hl 2 rfl) ?_
  refine lv_imul hx hb dX11_triangle_10 ?_
  refine zz_i (v := nI (40 * f)) (pk_mul 40 f) ?_
  have hj_2 : W p l e ({ frames := 1, cells := 0, slots := 0, locals := 31 } : Room) s m ([.ref k0, .int (nI f), .int (nI k)] : List Value).toArray below meth c s.heap [] 0 0 Q9 (F0 m 24 ls [.int (nI (prv n k)), .int (nI (40 * f))]) := by
    refine lv_iadd hx hb dX11_triangle_24 ?_
    refine zz_i (v := nI (40 * f + (prv n k))) (nI_add (40 * f) (prv n k)) ?_
    refine lv_istore (lv' := [(4, .int (nI (40 * f + (prv n k)))), (3, .int (nI n)), (0, .ref k0), (1, .int (nI f)), (2, .int (nI k))]) hx hb dX11_triangle_25 hl (Nat.le_of_ble_eq_true rfl) rfl (fun ls hl => ?_)
    refine lv_bipush (v := 40) hx hb dX11_triangle_27 rfl ?_
    refine lv_iload_n hx hb dX11_triangle_29 rfl (lv_at hl 3 rfl) ?_
    refine lv_imul hx hb dX11_triangle_30 ?_
    refine zz_i (v := nI (40 * f)) (pk_mul 40 f) ?_
    refine lv_iload_n hx hb dX11_triangle_31 rfl (lv_at hl 4 rfl) ?_
    refine lv_iadd hx hb dX11_triangle_32 ?_
    refine zz_i (v := nI (40 * f + k)) (nI_add (40 * f) k) ?_
    refine lv_istore (lv' := [(5, .int (nI (40 * f + k))), (4, .int (nI (40 * f + (prv n k)))), (3, .int (nI n)), (0, .ref k0), (1, .int (nI f)), (2, .int (nI k))]) hx hb dX11_triangle_33 hl (Nat.le_of_ble_eq_true rfl) rfl (fun ls hl => ?_)
    refine lv_bipush (v := 40) hx hb dX11_triangle_35 rfl ?_
    refine lv_iload_n hx hb dX11_triangle_37 rfl (lv_at hl 4 rfl) ?_
    refine lv_imul hx hb dX11_triangle_38 ?_
    refine zz_i (v := nI (40 * f)) (pk_mul 40 f) ?_
    have hj_3 : W p l e ({ frames := 1, cells := 0, slots := 0, locals := 31 } : Room) s m ([.ref k0, .int (nI f), .int (nI k)] : List Value).toArray below meth c s.heap [] 0 0 Q9 (F0 m 53 ls [.int (nI (nxt n k)), .int (nI (40 * f))]) := by
      refine lv_iadd hx hb dX11_triangle_53 ?_
      refine zz_i (v := nI (40 * f + (nxt n k))) (nI_add (40 * f) (nxt n k)) ?_
      refine lv_istore (lv' := [(6, .int (nI (40 * f + (nxt n k)))), (5, .int (nI (40 * f + k))), (4, .int (nI (40 * f + (prv n k)))), (3, .int (nI n)), (0, .ref k0), (1, .int (nI f)), (2, .int (nI k))]) hx hb dX11_triangle_54 hl (Nat.le_of_ble_eq_true rfl) rfl (fun ls hl => ?_)
      refine lv_aload_n hx hb dX11_triangle_56 rfl (lv_at hl 4 rfl) ?_
      refine va_get (D := (dC, dI)) (ci := 9) (v := .ref (a 12)) (C := RX11) (T := TX11) (N := 55) hx hb hts inX11 hown hK hP 0 rfl rfl 12 (Nat.le_of_ble_eq_true rfl) (hts _ mw_1171) (fun _ h9 => h9) rfl dX11_triangle_57 ?_
      refine lv_iload hx hb dX11_triangle_60 (lv_at hl 2 rfl) ?_
      have b9_4 : 40 * f + (prv n k) < 8040 := by omega
      refine z_iald hx hb hK hP 2 0 rfl rfl (e := 40 * f + (prv n k)) rfl b9_4 (Nat.le_of_ble_eq_true rfl) dX11_triangle_62 ?_
      refine lv_i2l (v := (cx (40 * f + (prv n k))).toInt64) hx hb dX11_triangle_63 (rfl) ?_
      refine lv_aload_n hx hb dX11_triangle_64 rfl (lv_at hl 4 rfl) ?_
      refine va_get (D := (dC, dI)) (ci := 9) (v := .ref (a 13)) (C := RX11) (T := TX11) (N := 55) hx hb hts inX11 hown hK hP 0 rfl rfl 13 (Nat.le_of_ble_eq_true rfl) (hts _ mw_1172) (fun _ h9 => h9) rfl dX11_triangle_65 ?_
      refine lv_iload hx hb dX11_triangle_68 (lv_at hl 2 rfl) ?_
      refine z_iald hx hb hK hP 3 0 rfl rfl (e := 40 * f + (prv n k)) rfl b9_4 (Nat.le_of_ble_eq_true rfl) dX11_triangle_70 ?_
      refine lv_i2l (v := (cy (40 * f + (prv n k))).toInt64) hx hb dX11_triangle_71 (rfl) ?_
      refine lv_aload_n hx hb dX11_triangle_72 rfl (lv_at hl 4 rfl) ?_
      refine va_get (D := (dC, dI)) (ci := 9) (v := .ref (a 12)) (C := RX11) (T := TX11) (N := 55) hx hb hts inX11 hown hK hP 0 rfl rfl 12 (Nat.le_of_ble_eq_true rfl) (hts _ mw_1171) (fun _ h9 => h9) rfl dX11_triangle_73 ?_
      refine lv_iload hx hb dX11_triangle_76 (lv_at hl 1 rfl) ?_
      have b9_5 : 40 * f + k < 8040 := by omega
      refine z_iald hx hb hK hP 2 0 rfl rfl (e := 40 * f + k) rfl b9_5 (Nat.le_of_ble_eq_true rfl) dX11_triangle_78 ?_
      refine lv_i2l (v := (cx (40 * f + k)).toInt64) hx hb dX11_triangle_79 (rfl) ?_
      refine lv_aload_n hx hb dX11_triangle_80 rfl (lv_at hl 4 rfl) ?_
      refine va_get (D := (dC, dI)) (ci := 9) (v := .ref (a 13)) (C := RX11) (T := TX11) (N := 55) hx hb hts inX11 hown hK hP 0 rfl rfl 13 (Nat.le_of_ble_eq_true rfl) (hts _ mw_1172) (fun _ h9 => h9) rfl dX11_triangle_81 ?_
      refine lv_iload hx hb dX11_triangle_84 (lv_at hl 1 rfl) ?_
      refine z_iald hx hb hK hP 3 0 rfl rfl (e := 40 * f + k) rfl b9_5 (Nat.le_of_ble_eq_true rfl) dX11_triangle_86 ?_
      refine lv_i2l (v := (cy (40 * f + k)).toInt64) hx hb dX11_triangle_87 (rfl) ?_
      refine lv_aload_n hx hb dX11_triangle_88 rfl (lv_at hl 4 rfl) ?_
      refine va_get (D := (dC, dI)) (ci := 9) (v := .ref (a 12)) (C := RX11) (T := TX11) (N := 55) hx hb hts inX11 hown hK hP 0 rfl rfl 12 (Nat.le_of_ble_eq_true rfl) (hts _ mw_1171) (fun _ h9 => h9) rfl dX11_triangle_89 ?_
      refine lv_iload hx hb dX11_triangle_92 (lv_at hl 0 rfl) ?_
      have b9_6 : 40 * f + (nxt n k) < 8040 := by omega
      refine z_iald hx hb hK hP 2 0 rfl rfl (e := 40 * f + (nxt n k)) rfl b9_6 (Nat.le_of_ble_eq_true rfl) dX11_triangle_94 ?_
      refine lv_i2l (v := (cx (40 * f + (nxt n k))).toInt64) hx hb dX11_triangle_95 (rfl) ?_
      refine lv_aload_n hx hb dX11_triangle_96 rfl (lv_at hl 4 rfl) ?_
      refine va_get (D := (dC, dI)) (ci := 9) (v := .ref (a 13)) (C := RX11) (T := TX11) (N := 55) hx hb hts inX11 hown hK hP 0 rfl rfl 13 (Nat.le_of_ble_eq_true rfl) (hts _ mw_1172) (fun _ h9 => h9) rfl dX11_triangle_97 ?_
      refine lv_iload hx hb dX11_triangle_100 (lv_at hl 0 rfl) ?_
      refine z_iald hx hb hK hP 3 0 rfl rfl (e := 40 * f + (nxt n k)) rfl b9_6 (Nat.le_of_ble_eq_true rfl) dX11_triangle_102 ?_
      refine lv_i2l (v := (cy (40 * f + (nxt n k))).toInt64) hx hb dX11_triangle_103 (rfl) ?_
      obtain ⟨hPc, hDc, hFc, hI1⟩ := zi_sub (wc := []) hP hD hS hA [] rfl rfl
      refine zcall (st1 := [.long (jI (cr (cx (40 * f + (prv n k))).toInt (cy (40 * f + (prv n k))).toInt (cx (40 * f + k)).toInt (cy (40 * f + k)).toInt (cx (40 * f + (nxt n k))).toInt (cy (40 * f + (nxt n k))).toInt))]) (va_runS (As := [.long ((cx (40 * f + (prv n k))).toInt64), .long ((cy (40 * f + (prv n k))).toInt64), .long ((cx (40 * f + k)).toInt64), .long ((cy (40 * f + k)).toInt64), .long ((cx (40 * f + (nxt n k))).toInt64), .long ((cy (40 * f + (nxt n k))).toInt64)]) (rest := []) ⟨hx, hb, hml, hown, hts⟩ (k_M_cross l dC dI cI cZ cF s.heap.size (cx (40 * f + (prv n k))) (cy (40 * f + (prv n k))) (cx (40 * f + k)) (cy (40 * f + k)) (cx (40 * f + (nxt n k))) (cy (40 * f + (nxt n k))) ((hp_f _ hpv).1) ((hp_f _ hpv).2) ((hp_f _ hk9).1) ((hp_f _ hk9).2) ((hp_f _ hnx).1) ((hp_f _ hnx).2)) (csS_162 hts rfl rfl ⟨Nat.le_of_ble_eq_true rfl, Nat.le_of_ble_eq_true rfl⟩) (zPS2 hPc hDc hK hXN) rfl rfl hl.1 rfl (lv_room (Nat.le_of_ble_eq_true rfl)) dX11_triangle_104 ⟨Nat.le_of_ble_eq_true rfl, Nat.le_of_ble_eq_true rfl⟩) hS hFc hFc rfl (fun t H locs ht hB hk1 hS => ?_)
      obtain ⟨hP1, hD1⟩ := hB
      rw [ht] at hP1
      replace hP := z0 hP hD hk1 hP1 hI1
      clear hk1 hPc hDc hFc hP1 hD1 ht hI1
      refine zz_l (v := jI (cr (cF40 cx f (prv n k)).toInt (cF40 cy f (prv n k)).toInt (cF40 cx f k).toInt (cF40 cy f k).toInt (cF40 cx f (nxt n k)).toInt (cF40 cy f (nxt n k)).toInt)) (rfl) ?_
      refine lv_lstore (lv' := [(7, .long (jI (cr (cF40 cx f (prv n k)).toInt (cF40 cy f (prv n k)).toInt (cF40 cx f k).toInt (cF40 cy f k).toInt (cF40 cx f (nxt n k)).toInt (cF40 cy f (nxt n k)).toInt))), (6, .int (nI (40 * f + (nxt n k)))), (5, .int (nI (40 * f + k))), (4, .int (nI (40 * f + (prv n k)))), (3, .int (nI n)), (0, .ref k0), (1, .int (nI f)), (2, .int (nI k))]) hx hb dX11_triangle_107 hl (Nat.le_of_ble_eq_true rfl) rfl (fun ls hl => ?_)
      refine lv_lload hx hb dX11_triangle_109 (lv_at hl 0 rfl) ?_
      refine lv_lconst (v := 0) hx hb dX11_triangle_111 rfl ?_
      refine W.lcmp hx hb dX11_triangle_112 ?_
      refine lv_if_ge (tgt := 122) hx hb dX11_triangle_113 rfl (fun c_7 => ?_) (fun c_7 => ?_)
      · have c_7 : 0 ≤ (cr (cF40 cx f (prv n k)).toInt (cF40 cy f (prv n k)).toInt (cF40 cx f k).toInt (cF40 cy f k).toInt (cF40 cx f (nxt n k)).toInt (cF40 cy f (nxt n k)).toInt) := zl_ge (jI_toInt (by omega)) rfl c_7
        refine lv_lload hx hb dX11_triangle_122 (lv_at hl 0 rfl) ?_
        obtain ⟨hP9, hD9⟩ := zu_sub (wc := [_, _, _, _]) hP hD [true, true, true, true] rfl rfl
        rw [hQ9]
        exact W.lret (v := jI (cr (cF40 cx f (prv n k)).toInt (cF40 cy f (prv n k)).toInt (cF40 cx f k).toInt (cF40 cy f k).toInt (cF40 cx f (nxt n k)).toInt (cF40 cy f (nxt n k)).toInt)) hx hb hr (fun t ht hW => ⟨⟨congrArg (fun z => Outcome.returned (some (Value.long z))) (show (jI (cr (cF40 cx f (prv n k)).toInt (cF40 cy f (prv n k)).toInt (cF40 cx f k).toInt (cF40 cy f k).toInt (cF40 cx f (nxt n k)).toInt (cF40 cy f (nxt n k)).toInt) : Int64) = jI ((Int.natAbs (cr (cF40 cx f (prv n k)).toInt (cF40 cy f (prv n k)).toInt (cF40 cx f k).toInt (cF40 cy f k).toInt (cF40 cx f (nxt n k)).toInt (cF40 cy f (nxt n k)).toInt) : Nat) : Int) from by first | (rw [jI_neg (by omega)]; congr 1; omega) | (congr 1; omega)), by rw [ht]; exact hP9, hD9⟩, hS.F ht⟩) hS.2.2 dX11_triangle_124
      · have c_7 : (cr (cF40 cx f (prv n k)).toInt (cF40 cy f (prv n k)).toInt (cF40 cx f k).toInt (cF40 cy f k).toInt (cF40 cx f (nxt n k)).toInt (cF40 cy f (nxt n k)).toInt) < 0 := zl_nge (jI_toInt (by omega)) rfl c_7
        refine lv_lload hx hb dX11_triangle_116 (lv_at hl 0 rfl) ?_
        refine lv_lneg hx hb dX11_triangle_118 ?_
        refine lv_goto (tgt := 124) hx hb dX11_triangle_119 rfl ?_
        obtain ⟨hP9, hD9⟩ := zu_sub (wc := [_, _, _, _]) hP hD [true, true, true, true] rfl rfl
        rw [hQ9]
        exact W.lret (v := -(jI (cr (cF40 cx f (prv n k)).toInt (cF40 cy f (prv n k)).toInt (cF40 cx f k).toInt (cF40 cy f k).toInt (cF40 cx f (nxt n k)).toInt (cF40 cy f (nxt n k)).toInt))) hx hb hr (fun t ht hW => ⟨⟨congrArg (fun z => Outcome.returned (some (Value.long z))) (show (-(jI (cr (cF40 cx f (prv n k)).toInt (cF40 cy f (prv n k)).toInt (cF40 cx f k).toInt (cF40 cy f k).toInt (cF40 cx f (nxt n k)).toInt (cF40 cy f (nxt n k)).toInt)) : Int64) = jI ((Int.natAbs (cr (cF40 cx f (prv n k)).toInt (cF40 cy f (prv n k)).toInt (cF40 cx f k).toInt (cF40 cy f k).toInt (cF40 cx f (nxt n k)).toInt (cF40 cy f (nxt n k)).toInt) : Nat) : Int) from by first | (rw [jI_neg (by omega)]; congr 1; omega) | (congr 1; omega)), by rw [ht]; exact hP9, hD9⟩, hS.F ht⟩) hS.2.2 dX11_triangle_124
    refine lv_iload_n hx hb dX11_triangle_39 rfl (lv_at hl 5 rfl) ?_
    refine lv_iconst (v := 1) hx hb dX11_triangle_40 rfl ?_
    refine lv_iadd hx hb dX11_triangle_41 ?_
    refine zz_i (v := nI (k + 1)) (nI_add k 1) ?_
    refine lv_iload_n hx hb dX11_triangle_42 rfl (lv_at hl 2 rfl) ?_
    have b9_9 : zlt ((k + 1)) := show (k + 1) < 2147483648 by omega
    have b9_10 : zlt (n) := show n < 2147483648 by omega
    refine lv_icmp_ne (tgt := 50) hx hb dX11_triangle_43 rfl (fun c_8 => ?_) (fun c_8 => ?_)
    · have c_8 : ¬ ((k + 1 : Nat) : Int) = ((n : Nat) : Int) := zc_ne (nI_toInt b9_9) (nI_toInt b9_10) c_8
      refine lv_iload_n hx hb dX11_triangle_50 rfl (lv_at hl 5 rfl) ?_
      refine lv_iconst (v := 1) hx hb dX11_triangle_51 rfl ?_
      refine lv_iadd hx hb dX11_triangle_52 ?_
      refine zz_i (v := nI (k + 1)) (nI_add k 1) ?_
      refine zz_i (v := nI (nxt n k)) (by first | (rw [nxt, if_pos (by omega)]) | (rw [nxt, if_neg (by omega)]; first | done | rfl)) ?_
      exact hj_3 
    · have c_8 : ((k + 1 : Nat) : Int) = ((n : Nat) : Int) := zc_eq (nI_toInt b9_9) (nI_toInt b9_10) c_8
      refine lv_iconst (v := 0) hx hb dX11_triangle_46 rfl ?_
      refine lv_goto (tgt := 53) hx hb dX11_triangle_47 rfl ?_
      refine zz_i (v := nI (nxt n k)) (by first | (rw [nxt, if_pos (by omega)]) | (rw [nxt, if_neg (by omega)]; first | done | rfl)) ?_
      exact hj_3 
  refine lv_iload_n hx hb dX11_triangle_11 rfl (lv_at hl 3 rfl) ?_
  have b9_12 : zlt (k) := show k < 2147483648 by omega
  refine lv_if_ne (tgt := 21) hx hb dX11_triangle_12 rfl (fun c_11 => ?_) (fun c_11 => ?_)
  · have c_11 : ¬ ((k : Nat) : Int) = 0 := zc_ne (nI_toInt b9_12) rfl c_11
    refine lv_iload_n hx hb dX11_triangle_21 rfl (lv_at hl 3 rfl) ?_
    refine lv_iconst (v := 1) hx hb dX11_triangle_22 rfl ?_
    refine lv_isub hx hb dX11_triangle_23 ?_
    refine zz_i (v := nI (k - 1)) (pk_sub (a := k) (b := 1) (by omega)) ?_
    refine zz_i (v := nI (prv n k)) (by first | (rw [prv, if_pos (by omega)]) | (rw [prv, if_neg (by omega)])) ?_
    exact hj_2 
  · have c_11 : ((k : Nat) : Int) = 0 := zc_eq (nI_toInt b9_12) rfl c_11
    refine lv_iload_n hx hb dX11_triangle_15 rfl (lv_at hl 0 rfl) ?_
    refine lv_iconst (v := 1) hx hb dX11_triangle_16 rfl ?_
    refine lv_isub hx hb dX11_triangle_17 ?_
    refine zz_i (v := nI (n - 1)) (pk_sub (a := n) (b := 1) (by omega)) ?_
    refine lv_goto (tgt := 24) hx hb dX11_triangle_18 rfl ?_
    refine zz_i (v := nI (prv n k)) (by first | (rw [prv, if_pos (by omega)]) | (rw [prv, if_neg (by omega)])) ?_
    exact hj_2 
end
