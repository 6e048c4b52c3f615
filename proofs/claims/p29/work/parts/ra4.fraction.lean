section
set_option maxHeartbeats 4000000 in
set_option maxRecDepth 100000 in
theorem k_M_plainFraction (l : Launch) (dC : Nat → ClassId) (dI : Nat → Nat → Nat) (cI cZ cF : ClassId) (sz : Nat) (k0 : Nat) (a : Nat → Nat) (I0 : Nat → Int32) (J0 : Nat → Int64) (un : Nat) (dd : Nat) (hun : un ≤ 4000000000000) (hdd : 1 ≤ dd ∧ dd ≤ 2000000) : zM l yX11_plainFraction cX11_plainFraction 7 none ({ frames := 0, cells := 0, slots := 0, locals := 0 } : Room) [.ref k0] (dC, dI) (zTy cI cZ cF) [(om k0 a I0 (vp_updL (vp_updL J0 48 (jI ((un : Nat) : Int))) 49 (jI ((dd : Nat) : Int))))] sz none (fun A t => zPD (dC, dI) classes A [(om k0 a I0 (vp_updL (vp_updL J0 48 (jI ((un / Nat.gcd un dd : Nat) : Int))) 49 (jI ((dd / Nat.gcd un dd : Nat) : Int))))] t.heap) 0 0 := by
  refine zIn (own := "ScaleShopModel") (loc := [(0, .ref k0)]) rfl rfl rfl rfl (fun p e s m below meth c hx hb hr hts hown hlocks hml hnm9 A hA hS hP hD hK hXN Q9 hQ9 ls hl => ?_)
  refine lv_aload_n hx hb dX11_plainFraction_0 rfl (lv_at hl 0 rfl) ?_
  refine va_get (D := (dC, dI)) (ci := 9) (v := .long (jI ((un : Nat) : Int))) (C := RX11) (T := TX11) (N := 55) hx hb hts inX11 hown hK hP 0 rfl rfl 48 (Nat.le_of_ble_eq_true rfl) (hts _ mw_1207) (fun _ h9 => h9) rfl dX11_plainFraction_1 ?_
  refine lv_lstore_n (lv' := [(1, .long (jI ((un : Nat) : Int))), (0, .ref k0)]) hx hb dX11_plainFraction_4 rfl hl (Nat.le_of_ble_eq_true rfl) rfl (fun ls hl => ?_)
  refine lv_aload_n hx hb dX11_plainFraction_5 rfl (lv_at hl 1 rfl) ?_
  refine va_get (D := (dC, dI)) (ci := 9) (v := .long (jI ((dd : Nat) : Int))) (C := RX11) (T := TX11) (N := 55) hx hb hts inX11 hown hK hP 0 rfl rfl 49 (Nat.le_of_ble_eq_true rfl) (hts _ mw_1208) (fun _ h9 => h9) rfl dX11_plainFraction_6 ?_
  refine lv_lstore_n (lv' := [(3, .long (jI ((dd : Nat) : Int))), (1, .long (jI ((un : Nat) : Int))), (0, .ref k0)]) hx hb dX11_plainFraction_9 rfl hl (Nat.le_of_ble_eq_true rfl) rfl (fun ls hl => ?_)
  have hl_10 : ∀ (n9 : Nat) (aa : Nat) (bb : Nat) (H : Heap) (locs : List Loc) (ls : Array Slot), aa < n9 → (aa ≤ 4000000000000 ∧ bb ≤ 4000000000000) → (Nat.gcd aa bb = Nat.gcd un dd) → va_P (dC, dI) classes [(om k0 a I0 (vp_updL (vp_updL J0 48 (jI ((un : Nat) : Int))) 49 (jI ((dd : Nat) : Int))))] H → va_D A [(om k0 a I0 (vp_updL (vp_updL J0 48 (jI ((un : Nat) : Int))) 49 (jI ((dd : Nat) : Int))))] → va_S A s.heap H locs → lv_has ls 7 [(3, .long (jI ((bb : Nat) : Int))), (1, .long (jI ((aa : Nat) : Int))), (0, .ref k0)] → W p l e ({ frames := 0, cells := 0, slots := 0, locals := 0 } : Room) s m ([.ref k0] : List Value).toArray below meth c H locs 0 0 Q9 (F0 m 10 ls []) := by
    intro n9
    induction n9 with
    | zero => intro aa bb H locs ls hm; exact absurd hm (Nat.not_lt_zero _)
    | succ n9 ih_10 =>
      intro aa bb H locs ls hm hab hgc hP hD hS hl
      refine lv_lload_n hx hb dX11_plainFraction_10 rfl (lv_at hl 1 rfl) ?_
      refine lv_lconst (v := 0) hx hb dX11_plainFraction_11 rfl ?_
      refine W.lcmp hx hb dX11_plainFraction_12 ?_
      refine lv_if_eq (tgt := 29) hx hb dX11_plainFraction_13 rfl (fun c_1 => ?_) (fun c_1 => ?_)
      · have c_1 : ((aa : Nat) : Int) = 0 := zl_eq (jI_toInt (by omega)) rfl c_1
        have hbg : bb = Nat.gcd un dd := (by rw [← hgc, show aa = 0 by omega, Nat.gcd_zero_left])
        have hgp : 0 < bb := (by rw [hbg]; exact Nat.gcd_pos_of_pos_right un (by omega))
        refine lv_aload_n hx hb dX11_plainFraction_29 rfl (lv_at hl 2 rfl) ?_
        refine lv_dup hx hb dX11_plainFraction_30 rfl ?_
        refine va_get (D := (dC, dI)) (ci := 9) (v := .long (jI ((un : Nat) : Int))) (C := RX11) (T := TX11) (N := 55) hx hb hts inX11 hown hK hP 0 rfl rfl 48 (Nat.le_of_ble_eq_true rfl) (hts _ mw_1207) (fun _ h9 => h9) rfl dX11_plainFraction_31 ?_
        refine lv_lload_n hx hb dX11_plainFraction_34 rfl (lv_at hl 0 rfl) ?_
        refine lv_ldiv hx hb dX11_plainFraction_35 (jN_ne hgp (by omega)) ?_
        refine zz_l (v := jI ((un / Nat.gcd un dd : Nat) : Int)) (by rw [jN_div hgp (by omega) (by omega), hbg]) ?_
        refine va_put (D := (dC, dI)) (ci := 9) (v := .long (jI ((un / Nat.gcd un dd : Nat) : Int))) (ty := .long) (C := RX11) (T := TX11) (N := 55) hx hb hts inX11 tyX11 tyX11_ok nmX11 hown hK hP hD hS 0 rfl rfl 48 (by decide) (hts _ mw_1207) (fun _ h9 => h9) rfl (by decide +kernel) rfl rfl (Nat.le_of_ble_eq_true rfl) dX11_plainFraction_36 (fun H locs hP hD hS => ?_)
        obtain ⟨hP, hD⟩ := zre (W2 := [(om k0 a I0 (vp_updL (vp_updL J0 48 (jI ((un / Nat.gcd un dd : Nat) : Int))) 49 (jI ((dd : Nat) : Int))))]) hP hD rfl
        refine lv_aload_n hx hb dX11_plainFraction_39 rfl (lv_at hl 2 rfl) ?_
        refine lv_dup hx hb dX11_plainFraction_40 rfl ?_
        refine va_get (D := (dC, dI)) (ci := 9) (v := .long (jI ((dd : Nat) : Int))) (C := RX11) (T := TX11) (N := 55) hx hb hts inX11 hown hK hP 0 rfl rfl 49 (Nat.le_of_ble_eq_true rfl) (hts _ mw_1208) (fun _ h9 => h9) rfl dX11_plainFraction_41 ?_
        refine lv_lload_n hx hb dX11_plainFraction_44 rfl (lv_at hl 0 rfl) ?_
        refine lv_ldiv hx hb dX11_plainFraction_45 (jN_ne hgp (by omega)) ?_
        refine zz_l (v := jI ((dd / Nat.gcd un dd : Nat) : Int)) (by rw [jN_div hgp (by omega) (by omega), hbg]) ?_
        refine va_put (D := (dC, dI)) (ci := 9) (v := .long (jI ((dd / Nat.gcd un dd : Nat) : Int))) (ty := .long) (C := RX11) (T := TX11) (N := 55) hx hb hts inX11 tyX11 tyX11_ok nmX11 hown hK hP hD hS 0 rfl rfl 49 (by decide) (hts _ mw_1208) (fun _ h9 => h9) rfl (by decide +kernel) rfl rfl (Nat.le_of_ble_eq_true rfl) dX11_plainFraction_46 (fun H locs hP hD hS => ?_)
        obtain ⟨hP, hD⟩ := zre (W2 := [(om k0 a I0 (vp_updL (vp_updL J0 48 (jI ((un / Nat.gcd un dd : Nat) : Int))) 49 (jI ((dd / Nat.gcd un dd : Nat) : Int))))]) hP hD rfl
        obtain ⟨hP9, hD9⟩ := zu_sub (wc := [_]) hP hD [true] rfl rfl
        rw [hQ9]
        exact W.vret hx hb hr (fun t ht hW => ⟨⟨rfl, by rw [ht]; exact hP9, hD9⟩, hS.F ht⟩) hS.2.2 dX11_plainFraction_49
      · have c_1 : ¬ ((aa : Nat) : Int) = 0 := zl_ne (jI_toInt (by omega)) rfl c_1
        refine lv_lload_n hx hb dX11_plainFraction_16 rfl (lv_at hl 0 rfl) ?_
        refine lv_lload_n hx hb dX11_plainFraction_17 rfl (lv_at hl 1 rfl) ?_
        refine lv_lrem hx hb dX11_plainFraction_18 (jN_ne (by omega) hab.1) ?_
        refine zz_l (v := jI ((bb % aa : Nat) : Int)) (jN_rem (by omega) hab.1 hab.2) ?_
        refine lv_lstore (lv' := [(5, .long (jI ((bb % aa : Nat) : Int))), (3, .long (jI ((bb : Nat) : Int))), (1, .long (jI ((aa : Nat) : Int))), (0, .ref k0)]) hx hb dX11_plainFraction_19 hl (Nat.le_of_ble_eq_true rfl) rfl (fun ls hl => ?_)
        refine lv_lload_n hx hb dX11_plainFraction_21 rfl (lv_at hl 2 rfl) ?_
        refine lv_lstore_n (lv' := [(3, .long (jI ((aa : Nat) : Int))), (5, .long (jI ((bb % aa : Nat) : Int))), (1, .long (jI ((aa : Nat) : Int))), (0, .ref k0)]) hx hb dX11_plainFraction_22 rfl hl (Nat.le_of_ble_eq_true rfl) rfl (fun ls hl => ?_)
        refine lv_lload hx hb dX11_plainFraction_23 (lv_at hl 1 rfl) ?_
        refine lv_lstore_n (lv' := [(1, .long (jI ((bb % aa : Nat) : Int))), (3, .long (jI ((aa : Nat) : Int))), (5, .long (jI ((bb % aa : Nat) : Int))), (0, .ref k0)]) hx hb dX11_plainFraction_25 rfl hl (Nat.le_of_ble_eq_true rfl) rfl (fun ls hl => ?_)
        refine lv_goto (tgt := 10) hx hb dX11_plainFraction_26 rfl ?_
        exact ih_10 (bb % aa) aa H locs ls (by have h9 := Nat.mod_lt bb (show 0 < aa by omega); omega) (by have h9 := Nat.mod_lt bb (show 0 < aa by omega); omega) (by rw [← Nat.gcd_rec]; exact hgc) hP hD hS (lv_sub hl [1, 0, 3] rfl)
  exact hl_10 _ un dd s.heap [] ls (Nat.lt_succ_self _) (by first | with_reducible assumption | omega) (rfl) hP hD hS (lv_sub hl [0, 1, 2] rfl)
end
section
set_option maxHeartbeats 4000000 in
set_option maxRecDepth 100000 in
theorem k_M_distance_n (l : Launch) (dC : Nat → ClassId) (dI : Nat → Nat → Nat) (cI cZ cF : ClassId) (sz : Nat) (k0 : Nat) (a : Nat → Nat) (I0 : Nat → Int32) (J0 : Nat → Int64) (f : Nat) (n : Nat) (g : Nat) (m2 : Nat) (kd : Nat → Int32) (mn : Nat → Int32) (cx : Nat → Int32) (cy : Nat → Int32) (S0 : Nat → Int32) (hf_f : f ≤ 200) (hm_f : mn f = nI n) (hn_f : 1 ≤ n ∧ n ≤ 40) (hp_f : pls n (cF40 cx f) (cF40 cy f)) (hf_g : g ≤ 200) (hm_g : mn g = nI m2) (hn_g : 1 ≤ m2 ∧ m2 ≤ 40) (hp_g : pls m2 (cF40 cx g) (cF40 cy g)) (hmt : ¬ mtF (kd f).toInt n (cF40 cx f) (cF40 cy f) (kd g).toInt m2 (cF40 cx g) (cF40 cy g)) (he_f : 1 ≤ eO (kd f).toInt n) (he_g : 1 ≤ eO (kd g).toInt m2) : zM l yX11_distance cX11_distance 5 none ({ frames := 4, cells := 0, slots := 0, locals := 105 } : Room) [.ref k0, .int (nI f), .int (nI g)] (dC, dI) (zTy cI cZ cF) [(om k0 a I0 J0), (oa (a 1) cI 201 kd), (oa (a 11) cI 201 mn), (oa (a 12) cI 8040 cx), (oa (a 13) cI 8040 cy), (oa (a 32) cI 8 S0)] sz none (fun A t => ∃ (un : Nat), ∃ (dd : Nat), ∃ (S1 : Nat → Int32), (IM (dcP n (cF40 cx f) (cF40 cy f) m2 (cF40 cx g) (cF40 cy g) (eO (kd g).toInt m2) (eO (kd f).toInt n) 0) ((un : Nat) : Int) ((dd : Nat) : Int)) ∧ (un ≤ 4000000000000 ∧ 1 ≤ dd ∧ dd ≤ 2000000) ∧ zPD (dC, dI) classes A [(om k0 a I0 (vp_updL (vp_updL J0 48 (jI ((un / Nat.gcd un dd : Nat) : Int))) 49 (jI ((dd / Nat.gcd un dd : Nat) : Int)))), (oa (a 1) cI 201 kd), (oa (a 11) cI 201 mn), (oa (a 12) cI 8040 cx), (oa (a 13) cI 8040 cy), (oa (a 32) cI 8 S1)] t.heap) 0 0 := by
  refine zIn (own := "ScaleShopModel") (loc := [(0, .ref k0), (1, .int (nI f)), (2, .int (nI g))]) rfl rfl rfl rfl (fun p e s m below meth c hx hb hr hts hown hlocks hml hnm9 A hA hS hP hD hK hXN Q9 hQ9 ls hl => ?_)
  have hef := eO_le (k := (kd f).toInt) hn_f.1
  have heg := eO_le (k := (kd g).toInt) hn_g.1
  refine lv_aload_n hx hb dX11_distance_0 rfl (lv_at hl 0 rfl) ?_
  refine lv_lconst (v := 0) hx hb dX11_distance_1 rfl ?_
  refine zz_l (v := jI 0) (jI_0) ?_
  refine va_put (D := (dC, dI)) (ci := 9) (v := .long (jI 0)) (ty := .long) (C := RX11) (T := TX11) (N := 55) hx hb hts inX11 tyX11 tyX11_ok nmX11 hown hK hP hD hS 0 rfl rfl 48 (by decide) (hts _ mw_1207) (fun _ h9 => h9) rfl (by decide +kernel) rfl rfl (Nat.le_of_ble_eq_true rfl) dX11_distance_2 (fun H locs hP hD hS => ?_)
  obtain ⟨hP, hD⟩ := zre (W2 := [(om k0 a I0 (vp_updL J0 48 (jI 0))), _, _, _, _, _]) hP hD rfl
  refine lv_aload_n hx hb dX11_distance_5 rfl (lv_at hl 0 rfl) ?_
  refine lv_lconst (v := 0) hx hb dX11_distance_6 rfl ?_
  refine zz_l (v := jI 0) (jI_0) ?_
  refine va_put (D := (dC, dI)) (ci := 9) (v := .long (jI 0)) (ty := .long) (C := RX11) (T := TX11) (N := 55) hx hb hts inX11 tyX11 tyX11_ok nmX11 hown hK hP hD hS 0 rfl rfl 49 (by decide) (hts _ mw_1208) (fun _ h9 => h9) rfl (by decide +kernel) rfl rfl (Nat.le_of_ble_eq_true rfl) dX11_distance_7 (fun H locs hP hD hS => ?_)
  obtain ⟨hP, hD⟩ := zre (W2 := [(om k0 a I0 (vp_updL (vp_updL J0 48 (jI 0)) 49 (jI 0))), _, _, _, _, _]) hP hD rfl
  refine lv_aload_n hx hb dX11_distance_10 rfl (lv_at hl 0 rfl) ?_
  refine lv_iload_n hx hb dX11_distance_11 rfl (lv_at hl 1 rfl) ?_
  refine lv_iload_n hx hb dX11_distance_12 rfl (lv_at hl 2 rfl) ?_
  obtain ⟨hPc, hDc, hFc⟩ := zo_sub (wc := [_, _, _, _, _, _]) hP hD hS hA [0, 1, 2, 3, 4, 5] (by decide +kernel) rfl
  refine zcall (st1 := [.int (pI (∃ i, i < eO (kd f).toInt n ∧ ∃ j, j < eO (kd g).toInt m2 ∧ eMt n (cF40 cx f) (cF40 cy f) i m2 (cF40 cx g) (cF40 cy g) j))]) (va_runV (As := [.int (nI f), .int (nI g)]) (rest := []) ⟨hx, hb, hml, hown, hts⟩ (k_M_isMet l dC dI cI cZ cF H.size k0 a I0 (vp_updL (vp_updL J0 48 (jI 0)) 49 (jI 0)) f n g m2 kd mn cx cy S0 (by first | with_reducible assumption | omega) (by first | with_reducible assumption | assumption) (by first | with_reducible assumption | omega) (by first | with_reducible assumption | assumption) (by first | with_reducible assumption | omega) (by first | with_reducible assumption | assumption) (by first | with_reducible assumption | omega) (by first | with_reducible assumption | assumption)) (csV_180 hts rfl rfl ⟨Nat.le_of_ble_eq_true rfl, Nat.le_of_ble_eq_true rfl⟩) (zPV2 (q0 := 0) (ci := 9) hPc hDc hK hXN rfl rfl) rfl rfl hl.1 rfl (lv_room (Nat.le_of_ble_eq_true rfl)) dX11_distance_13 ⟨Nat.le_of_ble_eq_true rfl, Nat.le_of_ble_eq_true rfl⟩) hS hFc hFc rfl (fun t H locs ht hB hk1 hS => ?_)
  obtain ⟨q_1, hP1, hD1⟩ := hB
  rw [ht] at hP1
  obtain ⟨hP, hD⟩ := zn (W2 := [_, _, _, _, _, (oa (a 32) cI 8 q_1)]) hP hD hk1 hFc hP1 hD1 [0, 1, 2, 3, 4, 5] [] [false, false, false, false, false, false] [0, 1, 2, 3, 4, 5] (by decide +kernel) rfl rfl rfl rfl rfl
  clear hk1 hPc hDc hFc hP1 hD1 ht
  refine zz_i (v := pI (mtF (kd f).toInt n (cF40 cx f) (cF40 cy f) (kd g).toInt m2 (cF40 cx g) (cF40 cy g))) (rfl) ?_
  refine lv_if_eq (tgt := 25) hx hb dX11_distance_16 rfl (fun c_2 => ?_) (fun c_2 => ?_)
  · have c_2 : ¬ (mtF (kd f).toInt n (cF40 cx f) (cF40 cy f) (kd g).toInt m2 (cF40 cx g) (cF40 cy g)) := zp_0 c_2
    refine lv_iconst (v := 0) hx hb dX11_distance_25 rfl ?_
    refine lv_istore_n (lv' := [(3, .int 0), (0, .ref k0), (1, .int (nI f)), (2, .int (nI g))]) hx hb dX11_distance_26 rfl hl (Nat.le_of_ble_eq_true rfl) rfl (fun ls hl => ?_)
    have hl_27 : ∀ (n9 : Nat) (i : Nat) (S1 : Nat → Int32) (u : Int) (d : Int) (H : Heap) (locs : List Loc) (ls : Array Slot), eO (kd f).toInt n - i < n9 → (i ≤ eO (kd f).toInt n) → (IM (dcP n (cF40 cx f) (cF40 cy f) m2 (cF40 cx g) (cF40 cy g) (eO (kd g).toInt m2) i 0) u d) → ((0 ≤ u ∧ u ≤ 4000000000000) ∧ (0 ≤ d ∧ d ≤ 2000000)) → va_P (dC, dI) classes [(om k0 a I0 (vp_updL (vp_updL J0 48 (jI u)) 49 (jI d))), (oa (a 1) cI 201 kd), (oa (a 11) cI 201 mn), (oa (a 12) cI 8040 cx), (oa (a 13) cI 8040 cy), (oa (a 32) cI 8 S1)] H → va_D A [(om k0 a I0 (vp_updL (vp_updL J0 48 (jI u)) 49 (jI d))), (oa (a 1) cI 201 kd), (oa (a 11) cI 201 mn), (oa (a 12) cI 8040 cx), (oa (a 13) cI 8040 cy), (oa (a 32) cI 8 S1)] → va_S A s.heap H locs → lv_has ls 5 [(3, .int (nI i)), (0, .ref k0), (1, .int (nI f)), (2, .int (nI g))] → W p l e ({ frames := 4, cells := 0, slots := 0, locals := 105 } : Room) s m ([.ref k0, .int (nI f), .int (nI g)] : List Value).toArray below meth c H locs 0 0 Q9 (F0 m 27 ls []) := by
      intro n9
      induction n9 with
      | zero => intro i S1 u d H locs ls hm; exact absurd hm (Nat.not_lt_zero _)
      | succ n9 ih_27 =>
        intro i S1 u d H locs ls hm hi him hud hP hD hS hl
        refine lv_iload_n hx hb dX11_distance_27 rfl (lv_at hl 0 rfl) ?_
        refine lv_aload_n hx hb dX11_distance_28 rfl (lv_at hl 1 rfl) ?_
        refine lv_iload_n hx hb dX11_distance_29 rfl (lv_at hl 2 rfl) ?_
        obtain ⟨hPc, hDc, hFc, hI1⟩ := zi_sub (wc := [_, _, _]) hP hD hS hA [0, 1, 2] rfl rfl
        refine zcall (st1 := [.int (nI (eO (kd f).toInt n)), .int (nI i)]) (va_runV (As := [.int (nI f)]) (rest := [.int (nI i)]) ⟨hx, hb, hml, hown, hts⟩ (k_M_edgesOf l dC dI cI cZ cF H.size k0 a I0 (vp_updL (vp_updL J0 48 (jI u)) 49 (jI d)) f n kd mn (by first | with_reducible assumption | omega) (by first | with_reducible assumption | assumption) (by first | with_reducible assumption | omega)) (csV_166 hts rfl rfl ⟨Nat.le_of_ble_eq_true rfl, Nat.le_of_ble_eq_true rfl⟩) (zPV2 (q0 := 0) (ci := 9) hPc hDc hK hXN rfl rfl) rfl rfl hl.1 rfl (lv_room (Nat.le_of_ble_eq_true rfl)) dX11_distance_30 ⟨Nat.le_of_ble_eq_true rfl, Nat.le_of_ble_eq_true rfl⟩) hS hFc hFc rfl (fun t H locs ht hB hk1 hS => ?_)
        obtain ⟨hP1, hD1⟩ := hB
        rw [ht] at hP1
        replace hP := z0 hP hD hk1 hP1 hI1
        clear hk1 hPc hDc hFc hP1 hD1 ht hI1
        have b9_4 : zlt (i) := show i < 2147483648 by omega
        have b9_5 : zlt ((eO (kd f).toInt n)) := show (eO (kd f).toInt n) < 2147483648 by omega
        refine lv_icmp_ge (tgt := 162) hx hb dX11_distance_33 rfl (fun c_3 => ?_) (fun c_3 => ?_)
        · have c_3 : ((eO (kd f).toInt n : Nat) : Int) ≤ ((i : Nat) : Int) := zc_le (nI_toInt b9_5) (nI_toInt b9_4) c_3
          have hie : i = eO (kd f).toInt n := (by omega)
          rw [hie] at him
          have hd1 := dcP_e him he_f he_g
          obtain ⟨un, hun⟩ : ∃ un : Nat, u = ((un : Nat) : Int) := ⟨u.toNat, by omega⟩
          obtain ⟨dd, hdd⟩ : ∃ dd : Nat, d = ((dd : Nat) : Int) := ⟨d.toNat, by omega⟩
          rw [hun, hdd] at hP hD
          refine lv_aload_n hx hb dX11_distance_162 rfl (lv_at hl 1 rfl) ?_
          obtain ⟨hPc, hDc, hFc⟩ := zo_sub (wc := [_]) hP hD hS hA [0] rfl rfl
          refine zcall (st1 := []) (va_runV (As := []) (rest := []) ⟨hx, hb, hml, hown, hts⟩ (k_M_plainFraction l dC dI cI cZ cF H.size k0 a I0 (vp_updL (vp_updL J0 48 (jI ((un : Nat) : Int))) 49 (jI ((dd : Nat) : Int))) un dd (by first | with_reducible assumption | omega) (by first | with_reducible assumption | omega)) (csV_224 hts rfl rfl ⟨Nat.le_of_ble_eq_true rfl, Nat.le_of_ble_eq_true rfl⟩) (zPV2 (q0 := 0) (ci := 9) hPc hDc hK hXN rfl rfl) rfl rfl hl.1 rfl (lv_room (Nat.le_of_ble_eq_true rfl)) dX11_distance_163 ⟨Nat.le_of_ble_eq_true rfl, Nat.le_of_ble_eq_true rfl⟩) hS hFc hFc rfl (fun t H locs ht hB hk1 hS => ?_)
          obtain ⟨hP1, hD1⟩ := hB
          rw [ht] at hP1
          obtain ⟨hP, hD⟩ := zn (W2 := [(om k0 a I0 (vp_updL (vp_updL J0 48 (jI ((un / Nat.gcd un dd : Nat) : Int))) 49 (jI ((dd / Nat.gcd un dd : Nat) : Int)))), _, _, _, _, _]) hP hD hk1 hFc hP1 hD1 [0] [false, true, true, true, true, true] [false, true, true, true, true, true] [0] (by decide +kernel) rfl rfl rfl rfl rfl
          clear hk1 hPc hDc hFc hP1 hD1 ht
          obtain ⟨hP9, hD9⟩ := zu_sub (wc := [_, _, _, _, _, _]) hP hD [true, true, true, true, true, true] rfl rfl
          rw [hQ9]
          exact W.vret hx hb hr (fun t ht hW => ⟨⟨rfl, un, dd, S1, (by rw [← hun, ← hdd]; exact him), (by omega), by rw [ht]; exact hP9, hD9⟩, hS.F ht⟩) hS.2.2 dX11_distance_166
        · have c_3 : ((i : Nat) : Int) < ((eO (kd f).toInt n : Nat) : Int) := zc_nle (nI_toInt b9_5) (nI_toInt b9_4) c_3
          have hin9 : i < n := (by omega)
          have hnx := nxt_lt (n := n) (i := i) (by omega)
          refine lv_aload_n hx hb dX11_distance_36 rfl (lv_at hl 1 rfl) ?_
          refine lv_iload_n hx hb dX11_distance_37 rfl (lv_at hl 2 rfl) ?_
          refine lv_iload_n hx hb dX11_distance_38 rfl (lv_at hl 0 rfl) ?_
          refine lv_iconst (v := 0) hx hb dX11_distance_39 rfl ?_
          obtain ⟨hPc, hDc, hFc⟩ := zo_sub (wc := [_, _, _, _, _]) hP hD hS hA [0, 2, 3, 4, 5] (by decide +kernel) rfl
          refine zcall (st1 := []) (va_runV (As := [.int (nI f), .int (nI i), .int 0]) (rest := []) ⟨hx, hb, hml, hown, hts⟩ (k_M_edge l dC dI cI cZ cF H.size k0 a I0 (vp_updL (vp_updL J0 48 (jI u)) 49 (jI d)) f n i 0 mn cx cy S1 (by first | with_reducible assumption | omega) (by first | with_reducible assumption | assumption) (by first | with_reducible assumption | omega) (by first | with_reducible assumption | omega) (by first | with_reducible assumption | omega)) (csV_167 hts rfl rfl ⟨Nat.le_of_ble_eq_true rfl, Nat.le_of_ble_eq_true rfl⟩) (zPV2 (q0 := 0) (ci := 9) hPc hDc hK hXN rfl rfl) rfl rfl hl.1 rfl (lv_room (Nat.le_of_ble_eq_true rfl)) dX11_distance_40 ⟨Nat.le_of_ble_eq_true rfl, Nat.le_of_ble_eq_true rfl⟩) hS hFc hFc rfl (fun t H locs ht hB hk1 hS => ?_)
          obtain ⟨S2, t0, t1, t2, t3, tr, hP1, hD1⟩ := hB
          rw [ht] at hP1
          obtain ⟨hP, hD⟩ := zn (W2 := [_, _, _, _, _, (oa (a 32) cI 8 S2)]) hP hD hk1 hFc hP1 hD1 [0, 2, 3, 4, 5] [false, true] [false, true, false, false, false, false] [0, 2, 3, 4, 5] (by decide +kernel) rfl rfl rfl rfl rfl
          clear hk1 hPc hDc hFc hP1 hD1 ht
          refine lv_iconst (v := 0) hx hb dX11_distance_43 rfl ?_
          refine lv_istore (lv' := [(4, .int 0), (3, .int (nI i)), (0, .ref k0), (1, .int (nI f)), (2, .int (nI g))]) hx hb dX11_distance_44 hl (Nat.le_of_ble_eq_true rfl) rfl (fun ls hl => ?_)
          have hl_46 : ∀ (n9 : Nat) (k : Nat) (S2 : Nat → Int32) (u2 : Int) (d2 : Int) (H : Heap) (locs : List Loc) (ls : Array Slot), eO (kd g).toInt m2 - k < n9 → (k ≤ eO (kd g).toInt m2) → (S2 0 = cx (40 * f + i)) → (S2 1 = cy (40 * f + i)) → (S2 2 = cx (40 * f + nxt n i)) → (S2 3 = cy (40 * f + nxt n i)) → (IM (dcP n (cF40 cx f) (cF40 cy f) m2 (cF40 cx g) (cF40 cy g) (eO (kd g).toInt m2) i k) u2 d2) → ((0 ≤ u2 ∧ u2 ≤ 4000000000000) ∧ (0 ≤ d2 ∧ d2 ≤ 2000000)) → va_P (dC, dI) classes [(om k0 a I0 (vp_updL (vp_updL J0 48 (jI u2)) 49 (jI d2))), (oa (a 1) cI 201 kd), (oa (a 11) cI 201 mn), (oa (a 12) cI 8040 cx), (oa (a 13) cI 8040 cy), (oa (a 32) cI 8 S2)] H → va_D A [(om k0 a I0 (vp_updL (vp_updL J0 48 (jI u2)) 49 (jI d2))), (oa (a 1) cI 201 kd), (oa (a 11) cI 201 mn), (oa (a 12) cI 8040 cx), (oa (a 13) cI 8040 cy), (oa (a 32) cI 8 S2)] → va_S A s.heap H locs → lv_has ls 5 [(4, .int (nI k)), (3, .int (nI i)), (0, .ref k0), (1, .int (nI f)), (2, .int (nI g))] → W p l e ({ frames := 4, cells := 0, slots := 0, locals := 105 } : Room) s m ([.ref k0, .int (nI f), .int (nI g)] : List Value).toArray below meth c H locs 0 0 Q9 (F0 m 46 ls []) := by
            intro n9
            induction n9 with
            | zero => intro k S2 u2 d2 H locs ls hm; exact absurd hm (Nat.not_lt_zero _)
            | succ n9 ih_46 =>
              intro k S2 u2 d2 H locs ls hm hk g0 g1 g2 g3 him2 hud2 hP hD hS hl
              refine lv_iload hx hb dX11_distance_46 (lv_at hl 0 rfl) ?_
              refine lv_aload_n hx hb dX11_distance_48 rfl (lv_at hl 2 rfl) ?_
              refine lv_iload_n hx hb dX11_distance_49 rfl (lv_at hl 4 rfl) ?_
              obtain ⟨hPc, hDc, hFc, hI1⟩ := zi_sub (wc := [_, _, _]) hP hD hS hA [0, 1, 2] rfl rfl
              refine zcall (st1 := [.int (nI (eO (kd g).toInt m2)), .int (nI k)]) (va_runV (As := [.int (nI g)]) (rest := [.int (nI k)]) ⟨hx, hb, hml, hown, hts⟩ (k_M_edgesOf l dC dI cI cZ cF H.size k0 a I0 (vp_updL (vp_updL J0 48 (jI u2)) 49 (jI d2)) g m2 kd mn (by first | with_reducible assumption | omega) (by first | with_reducible assumption | assumption) (by first | with_reducible assumption | omega)) (csV_166 hts rfl rfl ⟨Nat.le_of_ble_eq_true rfl, Nat.le_of_ble_eq_true rfl⟩) (zPV2 (q0 := 0) (ci := 9) hPc hDc hK hXN rfl rfl) rfl rfl hl.1 rfl (lv_room (Nat.le_of_ble_eq_true rfl)) dX11_distance_50 ⟨Nat.le_of_ble_eq_true rfl, Nat.le_of_ble_eq_true rfl⟩) hS hFc hFc rfl (fun t H locs ht hB hk1 hS => ?_)
              obtain ⟨hP1, hD1⟩ := hB
              rw [ht] at hP1
              replace hP := z0 hP hD hk1 hP1 hI1
              clear hk1 hPc hDc hFc hP1 hD1 ht hI1
              have b9_7 : zlt (k) := show k < 2147483648 by omega
              have b9_8 : zlt ((eO (kd g).toInt m2)) := show (eO (kd g).toInt m2) < 2147483648 by omega
              refine lv_icmp_ge (tgt := 156) hx hb dX11_distance_53 rfl (fun c_6 => ?_) (fun c_6 => ?_)
              · have c_6 : ((eO (kd g).toInt m2 : Nat) : Int) ≤ ((k : Nat) : Int) := zc_le (nI_toInt b9_8) (nI_toInt b9_7) c_6
                refine lv_iinc (v := nI (i + 1)) (lv' := [(3, .int (nI (i + 1))), (4, .int (nI k)), (0, .ref k0), (1, .int (nI f)), (2, .int (nI g))]) hx hb dX11_distance_156 hl (k := 1) rfl (nI_add i 1) (Nat.le_of_ble_eq_true rfl) rfl (fun ls hl => ?_)
                refine lv_goto (tgt := 27) hx hb dX11_distance_159 rfl ?_
                exact ih_27 (i + 1) S2 u2 d2 H locs ls (by first | with_reducible assumption | omega) (by first | with_reducible assumption | omega) (dcP_n (by rw [show k = eO (kd g).toInt m2 by omega] at him2; exact him2)) (hud2) hP hD hS (lv_sub hl [0, 2, 3, 4] rfl)
              · have c_6 : ((k : Nat) : Int) < ((eO (kd g).toInt m2 : Nat) : Int) := zc_nle (nI_toInt b9_8) (nI_toInt b9_7) c_6
                have hjm : k < m2 := (by omega)
                have hnj := nxt_lt (n := m2) (i := k) (by omega)
                refine lv_aload_n hx hb dX11_distance_56 rfl (lv_at hl 2 rfl) ?_
                refine lv_iload_n hx hb dX11_distance_57 rfl (lv_at hl 4 rfl) ?_
                refine lv_iload hx hb dX11_distance_58 (lv_at hl 0 rfl) ?_
                refine lv_iconst (v := 4) hx hb dX11_distance_60 rfl ?_
                obtain ⟨hPc, hDc, hFc⟩ := zo_sub (wc := [_, _, _, _, _]) hP hD hS hA [0, 2, 3, 4, 5] (by decide +kernel) rfl
                refine zcall (st1 := []) (va_runV (As := [.int (nI g), .int (nI k), .int 4]) (rest := []) ⟨hx, hb, hml, hown, hts⟩ (k_M_edge l dC dI cI cZ cF H.size k0 a I0 (vp_updL (vp_updL J0 48 (jI u2)) 49 (jI d2)) g m2 k 4 mn cx cy S2 (by first | with_reducible assumption | omega) (by first | with_reducible assumption | assumption) (by first | with_reducible assumption | omega) (by first | with_reducible assumption | omega) (by first | with_reducible assumption | omega)) (csV_167 hts rfl rfl ⟨Nat.le_of_ble_eq_true rfl, Nat.le_of_ble_eq_true rfl⟩) (zPV2 (q0 := 0) (ci := 9) hPc hDc hK hXN rfl rfl) rfl rfl hl.1 rfl (lv_room (Nat.le_of_ble_eq_true rfl)) dX11_distance_61 ⟨Nat.le_of_ble_eq_true rfl, Nat.le_of_ble_eq_true rfl⟩) hS hFc hFc rfl (fun t H locs ht hB hk1 hS => ?_)
                obtain ⟨S3, w0, w1, w2, w3, ur, hP1, hD1⟩ := hB
                rw [ht] at hP1
                obtain ⟨hP, hD⟩ := zn (W2 := [_, _, _, _, _, (oa (a 32) cI 8 S3)]) hP hD hk1 hFc hP1 hD1 [0, 2, 3, 4, 5] [false, true] [false, true, false, false, false, false] [0, 2, 3, 4, 5] (by decide +kernel) rfl rfl rfl rfl rfl
                clear hk1 hPc hDc hFc hP1 hD1 ht
                have v0 : S3 0 = cF40 cx f i := (ur 0 (by omega)).trans g0
                have v1 : S3 1 = cF40 cy f i := (ur 1 (by omega)).trans g1
                have v2 : S3 2 = cF40 cx f (nxt n i) := (ur 2 (by omega)).trans g2
                have v3 : S3 3 = cF40 cy f (nxt n i) := (ur 3 (by omega)).trans g3
                have v4 : S3 4 = cF40 cx g k := w0
                have v5 : S3 5 = cF40 cy g k := w1
                have v6 : S3 6 = cF40 cx g (nxt m2 k) := w2
                have v7 : S3 7 = cF40 cy g (nxt m2 k) := w3
                have hs3 := sPl (S := S3) (by rw [v0]; exact (hp_f i hin9).1) (by rw [v1]; exact (hp_f i hin9).2) (by rw [v2]; exact (hp_f _ hnx).1) (by rw [v3]; exact (hp_f _ hnx).2) (by rw [v4]; exact (hp_g k hjm).1) (by rw [v5]; exact (hp_g k hjm).2) (by rw [v6]; exact (hp_g _ hnj).1) (by rw [v7]; exact (hp_g _ hnj).2)
                refine lv_aload_n hx hb dX11_distance_64 rfl (lv_at hl 2 rfl) ?_
                refine lv_aload_n hx hb dX11_distance_65 rfl (lv_at hl 2 rfl) ?_
                refine va_get (D := (dC, dI)) (ci := 9) (v := .ref (a 32)) (C := RX11) (T := TX11) (N := 55) hx hb hts inX11 hown hK hP 0 rfl rfl 32 (Nat.le_of_ble_eq_true rfl) (hts _ mw_1191) (fun _ h9 => h9) rfl dX11_distance_66 ?_
                refine lv_aload_n hx hb dX11_distance_69 rfl (lv_at hl 2 rfl) ?_
                refine va_get (D := (dC, dI)) (ci := 9) (v := .ref (a 32)) (C := RX11) (T := TX11) (N := 55) hx hb hts inX11 hown hK hP 0 rfl rfl 32 (Nat.le_of_ble_eq_true rfl) (hts _ mw_1191) (fun _ h9 => h9) rfl dX11_distance_70 ?_
                refine lv_iconst (v := 4) hx hb dX11_distance_73 rfl ?_
                refine z_iald hx hb hK hP 5 0 rfl rfl (e := 4) rfl (Nat.le_of_ble_eq_true rfl) (Nat.le_of_ble_eq_true rfl) dX11_distance_74 ?_
                refine zz_i (v := cF40 cx g k) (v4) ?_
                refine lv_aload_n hx hb dX11_distance_75 rfl (lv_at hl 2 rfl) ?_
                refine va_get (D := (dC, dI)) (ci := 9) (v := .ref (a 32)) (C := RX11) (T := TX11) (N := 55) hx hb hts inX11 hown hK hP 0 rfl rfl 32 (Nat.le_of_ble_eq_true rfl) (hts _ mw_1191) (fun _ h9 => h9) rfl dX11_distance_76 ?_
                refine lv_iconst (v := 5) hx hb dX11_distance_79 rfl ?_
                refine z_iald hx hb hK hP 5 0 rfl rfl (e := 5) rfl (Nat.le_of_ble_eq_true rfl) (Nat.le_of_ble_eq_true rfl) dX11_distance_80 ?_
                refine zz_i (v := cF40 cy g k) (v5) ?_
                refine lv_iconst (v := 0) hx hb dX11_distance_81 rfl ?_
                obtain ⟨hPc, hDc, hFc⟩ := zo_sub (wc := [_, _]) hP hD hS hA [0, 5] rfl rfl
                refine zcall (st1 := []) (va_runV (As := [.ref (a 32), .int (cF40 cx g k), .int (cF40 cy g k), .int 0]) (rest := []) ⟨hx, hb, hml, hown, hts⟩ (k_M_nearer l dC dI cI cZ cF H.size k0 a I0 (vp_updL (vp_updL J0 48 (jI u2)) 49 (jI d2)) 0 (cF40 cx g k) (cF40 cy g k) u2 d2 S3 (by first | with_reducible assumption | omega) (hs3) ((hp_g k hjm).1) ((hp_g k hjm).2) (hud2.1) (hud2.2)) (csV_225 hts rfl rfl ⟨Nat.le_of_ble_eq_true rfl, Nat.le_of_ble_eq_true rfl⟩) (zPV2 (q0 := 0) (ci := 9) hPc hDc hK hXN rfl rfl) rfl rfl hl.1 rfl (lv_room (Nat.le_of_ble_eq_true rfl)) dX11_distance_82 ⟨Nat.le_of_ble_eq_true rfl, Nat.le_of_ble_eq_true rfl⟩) hS hFc hFc rfl (fun t H locs ht hB hk1 hS => ?_)
                obtain ⟨zu1, zd1, hnd1, hP1, hD1⟩ := hB
                rw [ht] at hP1
                obtain ⟨hP, hD⟩ := zn (W2 := [(om k0 a I0 (vp_updL (vp_updL J0 48 (jI zu1)) 49 (jI zd1))), _, _, _, _, _]) hP hD hk1 hFc hP1 hD1 [0, 5] [false, true, true, true, true] [false, true, true, true, true, false] [0, 5] (by decide +kernel) rfl rfl rfl rfl rfl
                clear hk1 hPc hDc hFc hP1 hD1 ht
                have hx1 : ndP u2 d2 (nrU (S3 0).toInt (S3 1).toInt (S3 2).toInt (S3 3).toInt (cF40 cx g k).toInt (cF40 cy g k).toInt) (nrD (S3 0).toInt (S3 1).toInt (S3 2).toInt (S3 3).toInt (cF40 cx g k).toInt (cF40 cy g k).toInt) zu1 zd1 := hnd1
                rw [v0, v1, v2, v3] at hx1
                have hb1_9 := ndP_b hud2.1 hud2.2 (nrU_b (hp_f i hin9).1 (hp_f i hin9).2 (hp_f _ hnx).1 (hp_f _ hnx).2 (hp_g k hjm).1 (hp_g k hjm).2) hx1
                refine lv_aload_n hx hb dX11_distance_85 rfl (lv_at hl 2 rfl) ?_
                refine lv_aload_n hx hb dX11_distance_86 rfl (lv_at hl 2 rfl) ?_
                refine va_get (D := (dC, dI)) (ci := 9) (v := .ref (a 32)) (C := RX11) (T := TX11) (N := 55) hx hb hts inX11 hown hK hP 0 rfl rfl 32 (Nat.le_of_ble_eq_true rfl) (hts _ mw_1191) (fun _ h9 => h9) rfl dX11_distance_87 ?_
                refine lv_aload_n hx hb dX11_distance_90 rfl (lv_at hl 2 rfl) ?_
                refine va_get (D := (dC, dI)) (ci := 9) (v := .ref (a 32)) (C := RX11) (T := TX11) (N := 55) hx hb hts inX11 hown hK hP 0 rfl rfl 32 (Nat.le_of_ble_eq_true rfl) (hts _ mw_1191) (fun _ h9 => h9) rfl dX11_distance_91 ?_
                refine lv_bipush (v := 6) hx hb dX11_distance_94 rfl ?_
                refine z_iald hx hb hK hP 5 0 rfl rfl (e := 6) rfl (Nat.le_of_ble_eq_true rfl) (Nat.le_of_ble_eq_true rfl) dX11_distance_96 ?_
                refine zz_i (v := cF40 cx g (nxt m2 k)) (v6) ?_
                refine lv_aload_n hx hb dX11_distance_97 rfl (lv_at hl 2 rfl) ?_
                refine va_get (D := (dC, dI)) (ci := 9) (v := .ref (a 32)) (C := RX11) (T := TX11) (N := 55) hx hb hts inX11 hown hK hP 0 rfl rfl 32 (Nat.le_of_ble_eq_true rfl) (hts _ mw_1191) (fun _ h9 => h9) rfl dX11_distance_98 ?_
                refine lv_bipush (v := 7) hx hb dX11_distance_101 rfl ?_
                refine z_iald hx hb hK hP 5 0 rfl rfl (e := 7) rfl (Nat.le_of_ble_eq_true rfl) (Nat.le_of_ble_eq_true rfl) dX11_distance_103 ?_
                refine zz_i (v := cF40 cy g (nxt m2 k)) (v7) ?_
                refine lv_iconst (v := 0) hx hb dX11_distance_104 rfl ?_
                obtain ⟨hPc, hDc, hFc⟩ := zo_sub (wc := [_, _]) hP hD hS hA [0, 5] rfl rfl
                refine zcall (st1 := []) (va_runV (As := [.ref (a 32), .int (cF40 cx g (nxt m2 k)), .int (cF40 cy g (nxt m2 k)), .int 0]) (rest := []) ⟨hx, hb, hml, hown, hts⟩ (k_M_nearer l dC dI cI cZ cF H.size k0 a I0 (vp_updL (vp_updL J0 48 (jI zu1)) 49 (jI zd1)) 0 (cF40 cx g (nxt m2 k)) (cF40 cy g (nxt m2 k)) zu1 zd1 S3 (by first | with_reducible assumption | omega) (hs3) ((hp_g _ hnj).1) ((hp_g _ hnj).2) (hb1_9.1) (hb1_9.2)) (csV_225 hts rfl rfl ⟨Nat.le_of_ble_eq_true rfl, Nat.le_of_ble_eq_true rfl⟩) (zPV2 (q0 := 0) (ci := 9) hPc hDc hK hXN rfl rfl) rfl rfl hl.1 rfl (lv_room (Nat.le_of_ble_eq_true rfl)) dX11_distance_105 ⟨Nat.le_of_ble_eq_true rfl, Nat.le_of_ble_eq_true rfl⟩) hS hFc hFc rfl (fun t H locs ht hB hk1 hS => ?_)
                obtain ⟨zu2, zd2, hnd2, hP1, hD1⟩ := hB
                rw [ht] at hP1
                obtain ⟨hP, hD⟩ := zn (W2 := [(om k0 a I0 (vp_updL (vp_updL J0 48 (jI zu2)) 49 (jI zd2))), _, _, _, _, _]) hP hD hk1 hFc hP1 hD1 [0, 5] [false, true, true, true, true] [false, true, true, true, true, false] [0, 5] (by decide +kernel) rfl rfl rfl rfl rfl
                clear hk1 hPc hDc hFc hP1 hD1 ht
                have hx2 : ndP zu1 zd1 (nrU (S3 0).toInt (S3 1).toInt (S3 2).toInt (S3 3).toInt (cF40 cx g (nxt m2 k)).toInt (cF40 cy g (nxt m2 k)).toInt) (nrD (S3 0).toInt (S3 1).toInt (S3 2).toInt (S3 3).toInt (cF40 cx g (nxt m2 k)).toInt (cF40 cy g (nxt m2 k)).toInt) zu2 zd2 := hnd2
                rw [v0, v1, v2, v3] at hx2
                have hb2_9 := ndP_b hb1_9.1 hb1_9.2 (nrU_b (hp_f i hin9).1 (hp_f i hin9).2 (hp_f _ hnx).1 (hp_f _ hnx).2 (hp_g _ hnj).1 (hp_g _ hnj).2) hx2
                refine lv_aload_n hx hb dX11_distance_108 rfl (lv_at hl 2 rfl) ?_
                refine lv_aload_n hx hb dX11_distance_109 rfl (lv_at hl 2 rfl) ?_
                refine va_get (D := (dC, dI)) (ci := 9) (v := .ref (a 32)) (C := RX11) (T := TX11) (N := 55) hx hb hts inX11 hown hK hP 0 rfl rfl 32 (Nat.le_of_ble_eq_true rfl) (hts _ mw_1191) (fun _ h9 => h9) rfl dX11_distance_110 ?_
                refine lv_aload_n hx hb dX11_distance_113 rfl (lv_at hl 2 rfl) ?_
                refine va_get (D := (dC, dI)) (ci := 9) (v := .ref (a 32)) (C := RX11) (T := TX11) (N := 55) hx hb hts inX11 hown hK hP 0 rfl rfl 32 (Nat.le_of_ble_eq_true rfl) (hts _ mw_1191) (fun _ h9 => h9) rfl dX11_distance_114 ?_
                refine lv_iconst (v := 0) hx hb dX11_distance_117 rfl ?_
                refine z_iald hx hb hK hP 5 0 rfl rfl (e := 0) rfl (Nat.le_of_ble_eq_true rfl) (Nat.le_of_ble_eq_true rfl) dX11_distance_118 ?_
                refine zz_i (v := cF40 cx f i) (v0) ?_
                refine lv_aload_n hx hb dX11_distance_119 rfl (lv_at hl 2 rfl) ?_
                refine va_get (D := (dC, dI)) (ci := 9) (v := .ref (a 32)) (C := RX11) (T := TX11) (N := 55) hx hb hts inX11 hown hK hP 0 rfl rfl 32 (Nat.le_of_ble_eq_true rfl) (hts _ mw_1191) (fun _ h9 => h9) rfl dX11_distance_120 ?_
                refine lv_iconst (v := 1) hx hb dX11_distance_123 rfl ?_
                refine z_iald hx hb hK hP 5 0 rfl rfl (e := 1) rfl (Nat.le_of_ble_eq_true rfl) (Nat.le_of_ble_eq_true rfl) dX11_distance_124 ?_
                refine zz_i (v := cF40 cy f i) (v1) ?_
                refine lv_iconst (v := 4) hx hb dX11_distance_125 rfl ?_
                obtain ⟨hPc, hDc, hFc⟩ := zo_sub (wc := [_, _]) hP hD hS hA [0, 5] rfl rfl
                refine zcall (st1 := []) (va_runV (As := [.ref (a 32), .int (cF40 cx f i), .int (cF40 cy f i), .int 4]) (rest := []) ⟨hx, hb, hml, hown, hts⟩ (k_M_nearer l dC dI cI cZ cF H.size k0 a I0 (vp_updL (vp_updL J0 48 (jI zu2)) 49 (jI zd2)) 4 (cF40 cx f i) (cF40 cy f i) zu2 zd2 S3 (by first | with_reducible assumption | omega) (hs3) ((hp_f i hin9).1) ((hp_f i hin9).2) (hb2_9.1) (hb2_9.2)) (csV_225 hts rfl rfl ⟨Nat.le_of_ble_eq_true rfl, Nat.le_of_ble_eq_true rfl⟩) (zPV2 (q0 := 0) (ci := 9) hPc hDc hK hXN rfl rfl) rfl rfl hl.1 rfl (lv_room (Nat.le_of_ble_eq_true rfl)) dX11_distance_126 ⟨Nat.le_of_ble_eq_true rfl, Nat.le_of_ble_eq_true rfl⟩) hS hFc hFc rfl (fun t H locs ht hB hk1 hS => ?_)
                obtain ⟨zu3, zd3, hnd3, hP1, hD1⟩ := hB
                rw [ht] at hP1
                obtain ⟨hP, hD⟩ := zn (W2 := [(om k0 a I0 (vp_updL (vp_updL J0 48 (jI zu3)) 49 (jI zd3))), _, _, _, _, _]) hP hD hk1 hFc hP1 hD1 [0, 5] [false, true, true, true, true] [false, true, true, true, true, false] [0, 5] (by decide +kernel) rfl rfl rfl rfl rfl
                clear hk1 hPc hDc hFc hP1 hD1 ht
                have hx3 : ndP zu2 zd2 (nrU (S3 4).toInt (S3 5).toInt (S3 6).toInt (S3 7).toInt (cF40 cx f i).toInt (cF40 cy f i).toInt) (nrD (S3 4).toInt (S3 5).toInt (S3 6).toInt (S3 7).toInt (cF40 cx f i).toInt (cF40 cy f i).toInt) zu3 zd3 := hnd3
                rw [v4, v5, v6, v7] at hx3
                have hb3_9 := ndP_b hb2_9.1 hb2_9.2 (nrU_b (hp_g k hjm).1 (hp_g k hjm).2 (hp_g _ hnj).1 (hp_g _ hnj).2 (hp_f i hin9).1 (hp_f i hin9).2) hx3
                refine lv_aload_n hx hb dX11_distance_129 rfl (lv_at hl 2 rfl) ?_
                refine lv_aload_n hx hb dX11_distance_130 rfl (lv_at hl 2 rfl) ?_
                refine va_get (D := (dC, dI)) (ci := 9) (v := .ref (a 32)) (C := RX11) (T := TX11) (N := 55) hx hb hts inX11 hown hK hP 0 rfl rfl 32 (Nat.le_of_ble_eq_true rfl) (hts _ mw_1191) (fun _ h9 => h9) rfl dX11_distance_131 ?_
                refine lv_aload_n hx hb dX11_distance_134 rfl (lv_at hl 2 rfl) ?_
                refine va_get (D := (dC, dI)) (ci := 9) (v := .ref (a 32)) (C := RX11) (T := TX11) (N := 55) hx hb hts inX11 hown hK hP 0 rfl rfl 32 (Nat.le_of_ble_eq_true rfl) (hts _ mw_1191) (fun _ h9 => h9) rfl dX11_distance_135 ?_
                refine lv_iconst (v := 2) hx hb dX11_distance_138 rfl ?_
                refine z_iald hx hb hK hP 5 0 rfl rfl (e := 2) rfl (Nat.le_of_ble_eq_true rfl) (Nat.le_of_ble_eq_true rfl) dX11_distance_139 ?_
                refine zz_i (v := cF40 cx f (nxt n i)) (v2) ?_
                refine lv_aload_n hx hb dX11_distance_140 rfl (lv_at hl 2 rfl) ?_
                refine va_get (D := (dC, dI)) (ci := 9) (v := .ref (a 32)) (C := RX11) (T := TX11) (N := 55) hx hb hts inX11 hown hK hP 0 rfl rfl 32 (Nat.le_of_ble_eq_true rfl) (hts _ mw_1191) (fun _ h9 => h9) rfl dX11_distance_141 ?_
                refine lv_iconst (v := 3) hx hb dX11_distance_144 rfl ?_
                refine z_iald hx hb hK hP 5 0 rfl rfl (e := 3) rfl (Nat.le_of_ble_eq_true rfl) (Nat.le_of_ble_eq_true rfl) dX11_distance_145 ?_
                refine zz_i (v := cF40 cy f (nxt n i)) (v3) ?_
                refine lv_iconst (v := 4) hx hb dX11_distance_146 rfl ?_
                obtain ⟨hPc, hDc, hFc⟩ := zo_sub (wc := [_, _]) hP hD hS hA [0, 5] rfl rfl
                refine zcall (st1 := []) (va_runV (As := [.ref (a 32), .int (cF40 cx f (nxt n i)), .int (cF40 cy f (nxt n i)), .int 4]) (rest := []) ⟨hx, hb, hml, hown, hts⟩ (k_M_nearer l dC dI cI cZ cF H.size k0 a I0 (vp_updL (vp_updL J0 48 (jI zu3)) 49 (jI zd3)) 4 (cF40 cx f (nxt n i)) (cF40 cy f (nxt n i)) zu3 zd3 S3 (by first | with_reducible assumption | omega) (hs3) ((hp_f _ hnx).1) ((hp_f _ hnx).2) (hb3_9.1) (hb3_9.2)) (csV_225 hts rfl rfl ⟨Nat.le_of_ble_eq_true rfl, Nat.le_of_ble_eq_true rfl⟩) (zPV2 (q0 := 0) (ci := 9) hPc hDc hK hXN rfl rfl) rfl rfl hl.1 rfl (lv_room (Nat.le_of_ble_eq_true rfl)) dX11_distance_147 ⟨Nat.le_of_ble_eq_true rfl, Nat.le_of_ble_eq_true rfl⟩) hS hFc hFc rfl (fun t H locs ht hB hk1 hS => ?_)
                obtain ⟨zu4, zd4, hnd4, hP1, hD1⟩ := hB
                rw [ht] at hP1
                obtain ⟨hP, hD⟩ := zn (W2 := [(om k0 a I0 (vp_updL (vp_updL J0 48 (jI zu4)) 49 (jI zd4))), _, _, _, _, _]) hP hD hk1 hFc hP1 hD1 [0, 5] [false, true, true, true, true] [false, true, true, true, true, false] [0, 5] (by decide +kernel) rfl rfl rfl rfl rfl
                clear hk1 hPc hDc hFc hP1 hD1 ht
                have hx4 : ndP zu3 zd3 (nrU (S3 4).toInt (S3 5).toInt (S3 6).toInt (S3 7).toInt (cF40 cx f (nxt n i)).toInt (cF40 cy f (nxt n i)).toInt) (nrD (S3 4).toInt (S3 5).toInt (S3 6).toInt (S3 7).toInt (cF40 cx f (nxt n i)).toInt (cF40 cy f (nxt n i)).toInt) zu4 zd4 := hnd4
                rw [v4, v5, v6, v7] at hx4
                have hb4_9 := ndP_b hb3_9.1 hb3_9.2 (nrU_b (hp_g k hjm).1 (hp_g k hjm).2 (hp_g _ hnj).1 (hp_g _ hnj).2 (hp_f _ hnx).1 (hp_f _ hnx).2) hx4
                refine lv_iinc (v := nI (k + 1)) (lv' := [(4, .int (nI (k + 1))), (3, .int (nI i)), (0, .ref k0), (1, .int (nI f)), (2, .int (nI g))]) hx hb dX11_distance_150 hl (k := 0) rfl (nI_add k 1) (Nat.le_of_ble_eq_true rfl) rfl (fun ls hl => ?_)
                refine lv_goto (tgt := 46) hx hb dX11_distance_153 rfl ?_
                exact ih_46 (k + 1) S3 zu4 zd4 H locs ls (by first | with_reducible assumption | omega) (by first | with_reducible assumption | omega) (by rw [ur _ (by first | with_reducible assumption | omega)]; exact g0) (by rw [ur _ (by first | with_reducible assumption | omega)]; exact g1) (by rw [ur _ (by first | with_reducible assumption | omega)]; exact g2) (by rw [ur _ (by first | with_reducible assumption | omega)]; exact g3) (dcP_s hp_f hp_g hin9 hjm heg him2 hx1 hx2 hx3 hx4) (hb4_9) hP hD hS (lv_sub hl [0, 1, 2, 3, 4] rfl)
          exact hl_46 _ 0 S2 u d H locs ls (Nat.lt_succ_self _) (by first | with_reducible assumption | omega) (by first | with_reducible assumption | assumption) (by first | with_reducible assumption | assumption) (by first | with_reducible assumption | assumption) (by first | with_reducible assumption | assumption) (him) (hud) hP hD hS (lv_sub hl [0, 1, 2, 3, 4] rfl)
    exact hl_27 _ 0 q_1 0 0 H locs ls (Nat.lt_succ_self _) (by first | with_reducible assumption | omega) (dcP_0 _ _ _ _ _ _ _) (by first | with_reducible assumption | omega) hP hD hS (lv_sub hl [0, 1, 2, 3] rfl)
  · have c_2 : mtF (kd f).toInt n (cF40 cx f) (cF40 cy f) (kd g).toInt m2 (cF40 cx g) (cF40 cy g) := zp_1 c_2
    exfalso; exact absurd (by first | with_reducible assumption | assumption) hmt
end
section
set_option maxHeartbeats 4000000 in
set_option maxRecDepth 100000 in
theorem k_M_weight (l : Launch) (dC : Nat → ClassId) (dI : Nat → Nat → Nat) (cI cZ cF : ClassId) (sz : Nat) (k0 : Nat) (a : Nat → Nat) (I0 : Nat → Int32) (J0 : Nat → Int64) (f : Nat) (n : Nat) (rk : Nat → Int32) (mn : Nat → Int32) (cx : Nat → Int32) (cy : Nat → Int32) (S0 : Nat → Int32) (hf_f : f ≤ 200) (hm_f : mn f = nI n) (hn_f : 1 ≤ n ∧ n ≤ 40) (hp_f : pls n (cF40 cx f) (cF40 cy f)) (hrk : 0 ≤ (rk f).toInt ∧ (rk f).toInt ≤ 9) : zM l yX11_weight cX11_weight 2 (some .long) ({ frames := 2, cells := 0, slots := 0, locals := 49 } : Room) [.ref k0, .int (nI f)] (dC, dI) (zTy cI cZ cF) [(om k0 a I0 J0), (oa (a 2) cI 201 rk), (oa (a 11) cI 201 mn), (oa (a 12) cI 8040 cx), (oa (a 13) cI 8040 cy), (oa (a 32) cI 8 S0)] sz (some (.long (jI (((rk f).toInt + 1) * ((ln2 (cF40 cx f) (cF40 cy f) (n - 1) : Nat) : Int))))) (fun A t => ∃ (S1 : Nat → Int32), zPD (dC, dI) classes A [(om k0 a I0 J0), (oa (a 2) cI 201 rk), (oa (a 11) cI 201 mn), (oa (a 12) cI 8040 cx), (oa (a 13) cI 8040 cy), (oa (a 32) cI 8 S1)] t.heap) 0 0 := by
  refine zIn (own := "ScaleShopModel") (loc := [(0, .ref k0), (1, .int (nI f))]) rfl rfl rfl rfl (fun p e s m below meth c hx hb hr hts hown hlocks hml hnm9 A hA hS hP hD hK hXN Q9 hQ9 ls hl => ?_)
  refine lv_aload_n hx hb dX11_weight_0 rfl (lv_at hl 0 rfl) ?_
  refine va_get (D := (dC, dI)) (ci := 9) (v := .ref (a 2)) (C := RX11) (T := TX11) (N := 55) hx hb hts inX11 hown hK hP 0 rfl rfl 2 (Nat.le_of_ble_eq_true rfl) (hts _ mw_1161) (fun _ h9 => h9) rfl dX11_weight_1 ?_
  refine lv_iload_n hx hb dX11_weight_4 rfl (lv_at hl 1 rfl) ?_
  have b9_1 : f < 201 := by omega
  refine z_iald hx hb hK hP 1 0 rfl rfl (e := f) rfl b9_1 (Nat.le_of_ble_eq_true rfl) dX11_weight_5 ?_
  refine lv_iconst (v := 1) hx hb dX11_weight_6 rfl ?_
  refine lv_iadd hx hb dX11_weight_7 ?_
  refine lv_i2l (v := ((rk f) + 1).toInt64) hx hb dX11_weight_8 (rfl) ?_
  refine lv_aload_n hx hb dX11_weight_9 rfl (lv_at hl 0 rfl) ?_
  refine lv_iload_n hx hb dX11_weight_10 rfl (lv_at hl 1 rfl) ?_
  obtain ⟨hPc, hDc, hFc⟩ := zo_sub (wc := [_, _, _, _, _]) hP hD hS hA [0, 2, 3, 4, 5] (by decide +kernel) rfl
  refine zcall (st1 := [.long (jI ((ln2 (cF40 cx f) (cF40 cy f) (n - 1) : Nat) : Int)), .long (((rk f) + 1).toInt64)]) (va_runV (As := [.int (nI f)]) (rest := [.long (((rk f) + 1).toInt64)]) ⟨hx, hb, hml, hown, hts⟩ (k_M_lengthOf l dC dI cI cZ cF s.heap.size k0 a I0 J0 f n mn cx cy S0 (by first | with_reducible assumption | omega) (by first | with_reducible assumption | assumption) (by first | with_reducible assumption | omega) (by first | with_reducible assumption | assumption)) (csV_223 hts rfl rfl ⟨Nat.le_of_ble_eq_true rfl, Nat.le_of_ble_eq_true rfl⟩) (zPV2 (q0 := 0) (ci := 9) hPc hDc hK hXN rfl rfl) rfl rfl hl.1 rfl (lv_room (Nat.le_of_ble_eq_true rfl)) dX11_weight_11 ⟨Nat.le_of_ble_eq_true rfl, Nat.le_of_ble_eq_true rfl⟩) hS hFc hFc rfl (fun t H locs ht hB hk1 hS => ?_)
  obtain ⟨q_2, hP1, hD1⟩ := hB
  rw [ht] at hP1
  obtain ⟨hP, hD⟩ := zn (W2 := [_, _, _, _, _, (oa (a 32) cI 8 q_2)]) hP hD hk1 hFc hP1 hD1 [0, 2, 3, 4, 5] [false, true] [false, true, false, false, false, false] [0, 2, 3, 4, 5] (by decide +kernel) rfl rfl rfl rfl rfl
  clear hk1 hPc hDc hFc hP1 hD1 ht
  have hlb := ln2B hp_f (n - 1) (by omega)
  refine lv_lmul hx hb dX11_weight_14 ?_
  obtain ⟨hP9, hD9⟩ := zu_sub (wc := [_, _, _, _, _, _]) hP hD [true, true, true, true, true, true] rfl rfl
  rw [hQ9]
  exact W.lret (v := (((rk f) + 1).toInt64) * (jI ((ln2 (cF40 cx f) (cF40 cy f) (n - 1) : Nat) : Int))) hx hb hr (fun t ht hW => ⟨⟨congrArg (fun z => Outcome.returned (some (Value.long z))) (show ((((rk f) + 1).toInt64) * (jI ((ln2 (cF40 cx f) (cF40 cy f) (n - 1) : Nat) : Int)) : Int64) = jI (((rk f).toInt + 1) * ((ln2 (cF40 cx f) (cF40 cy f) (n - 1) : Nat) : Int)) from wtL hrk (by omega)), q_2, by rw [ht]; exact hP9, hD9⟩, hS.F ht⟩) hS.2.2 dX11_weight_15
set_option maxHeartbeats 4000000 in
set_option maxRecDepth 100000 in
theorem k_M_near_x1 (l : Launch) (dC : Nat → ClassId) (dI : Nat → Nat → Nat) (cI cZ cF : ClassId) (sz : Nat) (k0 : Nat) (a : Nat → Nat) (I0 : Nat → Int32) (J0 : Nat → Int64) (ft : Nat) (v : Int32) (v2 : Int32) (w : Int32) (hft : I0 0 = nI ft) (h200 : ft ≤ 200) (hv : ¬ (0 ≤ v.toInt ∧ v.toInt < (ft : Int))) : zM l yX11_near cX11_near 4 (some .long) ({ frames := 2, cells := 0, slots := 0, locals := 42 } : Room) [.ref k0, .int v, .int v2, .int w] (dC, dI) (zTy cI cZ cF) [(om k0 a I0 J0)] sz (some (.long (-1))) (fun A t => zPD (dC, dI) classes A [(om k0 a I0 J0)] t.heap) 0 0 := by
  refine zIn (own := "ScaleShopModel") (loc := [(0, .ref k0), (1, .int v), (2, .int v2), (3, .int w)]) rfl rfl rfl rfl (fun p e s m below meth c hx hb hr hts hown hlocks hml hnm9 A hA hS hP hD hK hXN Q9 hQ9 ls hl => ?_)
  refine lv_aload_n hx hb dX11_near_0 rfl (lv_at hl 0 rfl) ?_
  refine lv_iload_n hx hb dX11_near_1 rfl (lv_at hl 1 rfl) ?_
  obtain ⟨hPc, hDc, hFc, hI1⟩ := zi_sub (wc := [_]) hP hD hS hA [0] rfl rfl
  refine zcall (st1 := [.int 0]) (va_runV (As := [.int v]) (rest := []) ⟨hx, hb, hml, hown, hts⟩ (k_M_is_x l dC dI cI cZ cF s.heap.size k0 a I0 J0 ft v (by first | with_reducible assumption | assumption) (by first | with_reducible assumption | omega) (by first | with_reducible assumption | assumption)) (csV_179 hts rfl rfl ⟨Nat.le_of_ble_eq_true rfl, Nat.le_of_ble_eq_true rfl⟩) (zPV2 (q0 := 0) (ci := 9) hPc hDc hK hXN rfl rfl) rfl rfl hl.1 rfl (lv_room (Nat.le_of_ble_eq_true rfl)) dX11_near_2 ⟨Nat.le_of_ble_eq_true rfl, Nat.le_of_ble_eq_true rfl⟩) hS hFc hFc rfl (fun t H locs ht hB hk1 hS => ?_)
  obtain ⟨hP1, hD1⟩ := hB
  rw [ht] at hP1
  replace hP := z0 hP hD hk1 hP1 hI1
  clear hk1 hPc hDc hFc hP1 hD1 ht hI1
  refine lv_if_eq (tgt := 25) hx hb dX11_near_5 rfl (fun c_1 => ?_) (fun c_1 => ?_)
  · refine lv_ldc2 hx hb hown (hts _ mw_1620) dX11_near_25 ?_
    obtain ⟨hP9, hD9⟩ := zu_sub (wc := [_]) hP hD [true] rfl rfl
    rw [hQ9]
    exact W.lret (v := (-1)) hx hb hr (fun t ht hW => ⟨⟨rfl, by rw [ht]; exact hP9, hD9⟩, hS.F ht⟩) hS.2.2 dX11_near_28
  · exact absurd (by decide) c_1
set_option maxHeartbeats 4000000 in
set_option maxRecDepth 100000 in
theorem k_M_near_x2 (l : Launch) (dC : Nat → ClassId) (dI : Nat → Nat → Nat) (cI cZ cF : ClassId) (sz : Nat) (k0 : Nat) (a : Nat → Nat) (I0 : Nat → Int32) (J0 : Nat → Int64) (f : Nat) (ft : Nat) (v : Int32) (w : Int32) (st : Nat → Int32) (tn : Nat → Int32) (hft : I0 0 = nI ft) (h200 : ft ≤ 200) (hv : ¬ (0 ≤ v.toInt ∧ v.toInt < (ft : Int))) (hf_t : f < ft) : zM l yX11_near cX11_near 4 (some .long) ({ frames := 2, cells := 0, slots := 0, locals := 42 } : Room) [.ref k0, .int (nI f), .int v, .int w] (dC, dI) (zTy cI cZ cF) [(om k0 a I0 J0), (oa (a 5) cI 201 st), (oa (a 6) cZ 201 tn)] sz (some (.long (-1))) (fun A t => zPD (dC, dI) classes A [(om k0 a I0 J0), (oa (a 5) cI 201 st), (oa (a 6) cZ 201 tn)] t.heap) 0 0 := by
  refine zIn (own := "ScaleShopModel") (loc := [(0, .ref k0), (1, .int (nI f)), (2, .int v), (3, .int w)]) rfl rfl rfl rfl (fun p e s m below meth c hx hb hr hts hown hlocks hml hnm9 A hA hS hP hD hK hXN Q9 hQ9 ls hl => ?_)
  refine lv_aload_n hx hb dX11_near_0 rfl (lv_at hl 0 rfl) ?_
  refine lv_iload_n hx hb dX11_near_1 rfl (lv_at hl 1 rfl) ?_
  obtain ⟨hPc, hDc, hFc, hI1⟩ := zi_sub (wc := [_, _, _]) hP hD hS hA [0, 1, 2] rfl rfl
  refine zcall (st1 := [.int (pI (f < ft ∧ (st f).toInt = 1 ∧ (tn f).toInt = 0))]) (va_runV (As := [.int (nI f)]) (rest := []) ⟨hx, hb, hml, hown, hts⟩ (k_M_is_n l dC dI cI cZ cF s.heap.size k0 a I0 J0 f ft st tn (by first | with_reducible assumption | assumption) (by first | with_reducible assumption | omega) (by first | with_reducible assumption | omega)) (csV_179 hts rfl rfl ⟨Nat.le_of_ble_eq_true rfl, Nat.le_of_ble_eq_true rfl⟩) (zPV2 (q0 := 0) (ci := 9) hPc hDc hK hXN rfl rfl) rfl rfl hl.1 rfl (lv_room (Nat.le_of_ble_eq_true rfl)) dX11_near_2 ⟨Nat.le_of_ble_eq_true rfl, Nat.le_of_ble_eq_true rfl⟩) hS hFc hFc rfl (fun t H locs ht hB hk1 hS => ?_)
  obtain ⟨hP1, hD1⟩ := hB
  rw [ht] at hP1
  replace hP := z0 hP hD hk1 hP1 hI1
  clear hk1 hPc hDc hFc hP1 hD1 ht hI1
  refine lv_if_eq (tgt := 25) hx hb dX11_near_5 rfl (fun c_1 => ?_) (fun c_1 => ?_)
  · have c_1 : ¬ (f < ft ∧ (st f).toInt = 1 ∧ (tn f).toInt = 0) := zp_0 c_1
    refine lv_ldc2 hx hb hown (hts _ mw_1620) dX11_near_25 ?_
    obtain ⟨hP9, hD9⟩ := zu_sub (wc := [_, _, _]) hP hD [true, true, true] rfl rfl
    rw [hQ9]
    exact W.lret (v := (-1)) hx hb hr (fun t ht hW => ⟨⟨rfl, by rw [ht]; exact hP9, hD9⟩, hS.F ht⟩) hS.2.2 dX11_near_28
  · have c_1 : f < ft ∧ (st f).toInt = 1 ∧ (tn f).toInt = 0 := zp_1 c_1
    refine lv_aload_n hx hb dX11_near_8 rfl (lv_at hl 0 rfl) ?_
    refine lv_iload_n hx hb dX11_near_9 rfl (lv_at hl 2 rfl) ?_
    obtain ⟨hPc, hDc, hFc, hI1⟩ := zi_sub (wc := [_]) hP hD hS hA [0] rfl rfl
    refine zcall (st1 := [.int 0]) (va_runV (As := [.int v]) (rest := []) ⟨hx, hb, hml, hown, hts⟩ (k_M_is_x l dC dI cI cZ cF H.size k0 a I0 J0 ft v (by first | with_reducible assumption | assumption) (by first | with_reducible assumption | omega) (by first | with_reducible assumption | assumption)) (csV_179 hts rfl rfl ⟨Nat.le_of_ble_eq_true rfl, Nat.le_of_ble_eq_true rfl⟩) (zPV2 (q0 := 0) (ci := 9) hPc hDc hK hXN rfl rfl) rfl rfl hl.1 rfl (lv_room (Nat.le_of_ble_eq_true rfl)) dX11_near_10 ⟨Nat.le_of_ble_eq_true rfl, Nat.le_of_ble_eq_true rfl⟩) hS hFc hFc rfl (fun t H locs ht hB hk1 hS => ?_)
    obtain ⟨hP1, hD1⟩ := hB
    rw [ht] at hP1
    replace hP := z0 hP hD hk1 hP1 hI1
    clear hk1 hPc hDc hFc hP1 hD1 ht hI1
    refine lv_if_eq (tgt := 25) hx hb dX11_near_13 rfl (fun c_2 => ?_) (fun c_2 => ?_)
    · refine lv_ldc2 hx hb hown (hts _ mw_1620) dX11_near_25 ?_
      obtain ⟨hP9, hD9⟩ := zu_sub (wc := [_, _, _]) hP hD [true, true, true] rfl rfl
      rw [hQ9]
      exact W.lret (v := (-1)) hx hb hr (fun t ht hW => ⟨⟨rfl, by rw [ht]; exact hP9, hD9⟩, hS.F ht⟩) hS.2.2 dX11_near_28
    · exact absurd (by decide) c_2
set_option maxHeartbeats 4000000 in
set_option maxRecDepth 100000 in
theorem k_M_near_r (l : Launch) (dC : Nat → ClassId) (dI : Nat → Nat → Nat) (cI cZ cF : ClassId) (sz : Nat) (k0 : Nat) (a : Nat → Nat) (I0 : Nat → Int32) (J0 : Nat → Int64) (f : Nat) (g : Nat) (ft : Nat) (w : Int32) (st : Nat → Int32) (tn : Nat → Int32) (hft : I0 0 = nI ft) (h200 : ft ≤ 200) (hf_t : f < ft) (hg_t : g < ft) (hbad : ¬ (lvF ft st tn f ∧ lvF ft st tn g ∧ 0 ≤ w.toInt ∧ w.toInt ≤ 1)) : zM l yX11_near cX11_near 4 (some .long) ({ frames := 2, cells := 0, slots := 0, locals := 42 } : Room) [.ref k0, .int (nI f), .int (nI g), .int w] (dC, dI) (zTy cI cZ cF) [(om k0 a I0 J0), (oa (a 5) cI 201 st), (oa (a 6) cZ 201 tn)] sz (some (.long (-1))) (fun A t => zPD (dC, dI) classes A [(om k0 a I0 J0), (oa (a 5) cI 201 st), (oa (a 6) cZ 201 tn)] t.heap) 0 0 := by
  refine zIn (own := "ScaleShopModel") (loc := [(0, .ref k0), (1, .int (nI f)), (2, .int (nI g)), (3, .int w)]) rfl rfl rfl rfl (fun p e s m below meth c hx hb hr hts hown hlocks hml hnm9 A hA hS hP hD hK hXN Q9 hQ9 ls hl => ?_)
  refine lv_aload_n hx hb dX11_near_0 rfl (lv_at hl 0 rfl) ?_
  refine lv_iload_n hx hb dX11_near_1 rfl (lv_at hl 1 rfl) ?_
  obtain ⟨hPc, hDc, hFc, hI1⟩ := zi_sub (wc := [_, _, _]) hP hD hS hA [0, 1, 2] rfl rfl
  refine zcall (st1 := [.int (pI (f < ft ∧ (st f).toInt = 1 ∧ (tn f).toInt = 0))]) (va_runV (As := [.int (nI f)]) (rest := []) ⟨hx, hb, hml, hown, hts⟩ (k_M_is_n l dC dI cI cZ cF s.heap.size k0 a I0 J0 f ft st tn (by first | with_reducible assumption | assumption) (by first | with_reducible assumption | omega) (by first | with_reducible assumption | omega)) (csV_179 hts rfl rfl ⟨Nat.le_of_ble_eq_true rfl, Nat.le_of_ble_eq_true rfl⟩) (zPV2 (q0 := 0) (ci := 9) hPc hDc hK hXN rfl rfl) rfl rfl hl.1 rfl (lv_room (Nat.le_of_ble_eq_true rfl)) dX11_near_2 ⟨Nat.le_of_ble_eq_true rfl, Nat.le_of_ble_eq_true rfl⟩) hS hFc hFc rfl (fun t H locs ht hB hk1 hS => ?_)
  obtain ⟨hP1, hD1⟩ := hB
  rw [ht] at hP1
  replace hP := z0 hP hD hk1 hP1 hI1
  clear hk1 hPc hDc hFc hP1 hD1 ht hI1
  refine lv_if_eq (tgt := 25) hx hb dX11_near_5 rfl (fun c_1 => ?_) (fun c_1 => ?_)
  · have c_1 : ¬ (f < ft ∧ (st f).toInt = 1 ∧ (tn f).toInt = 0) := zp_0 c_1
    refine lv_ldc2 hx hb hown (hts _ mw_1620) dX11_near_25 ?_
    obtain ⟨hP9, hD9⟩ := zu_sub (wc := [_, _, _]) hP hD [true, true, true] rfl rfl
    rw [hQ9]
    exact W.lret (v := (-1)) hx hb hr (fun t ht hW => ⟨⟨rfl, by rw [ht]; exact hP9, hD9⟩, hS.F ht⟩) hS.2.2 dX11_near_28
  · have c_1 : f < ft ∧ (st f).toInt = 1 ∧ (tn f).toInt = 0 := zp_1 c_1
    refine lv_aload_n hx hb dX11_near_8 rfl (lv_at hl 0 rfl) ?_
    refine lv_iload_n hx hb dX11_near_9 rfl (lv_at hl 2 rfl) ?_
    obtain ⟨hPc, hDc, hFc, hI1⟩ := zi_sub (wc := [_, _, _]) hP hD hS hA [0, 1, 2] rfl rfl
    refine zcall (st1 := [.int (pI (g < ft ∧ (st g).toInt = 1 ∧ (tn g).toInt = 0))]) (va_runV (As := [.int (nI g)]) (rest := []) ⟨hx, hb, hml, hown, hts⟩ (k_M_is_n l dC dI cI cZ cF H.size k0 a I0 J0 g ft st tn (by first | with_reducible assumption | assumption) (by first | with_reducible assumption | omega) (by first | with_reducible assumption | omega)) (csV_179 hts rfl rfl ⟨Nat.le_of_ble_eq_true rfl, Nat.le_of_ble_eq_true rfl⟩) (zPV2 (q0 := 0) (ci := 9) hPc hDc hK hXN rfl rfl) rfl rfl hl.1 rfl (lv_room (Nat.le_of_ble_eq_true rfl)) dX11_near_10 ⟨Nat.le_of_ble_eq_true rfl, Nat.le_of_ble_eq_true rfl⟩) hS hFc hFc rfl (fun t H locs ht hB hk1 hS => ?_)
    obtain ⟨hP1, hD1⟩ := hB
    rw [ht] at hP1
    replace hP := z0 hP hD hk1 hP1 hI1
    clear hk1 hPc hDc hFc hP1 hD1 ht hI1
    refine lv_if_eq (tgt := 25) hx hb dX11_near_13 rfl (fun c_2 => ?_) (fun c_2 => ?_)
    · have c_2 : ¬ (g < ft ∧ (st g).toInt = 1 ∧ (tn g).toInt = 0) := zp_0 c_2
      refine lv_ldc2 hx hb hown (hts _ mw_1620) dX11_near_25 ?_
      obtain ⟨hP9, hD9⟩ := zu_sub (wc := [_, _, _]) hP hD [true, true, true] rfl rfl
      rw [hQ9]
      exact W.lret (v := (-1)) hx hb hr (fun t ht hW => ⟨⟨rfl, by rw [ht]; exact hP9, hD9⟩, hS.F ht⟩) hS.2.2 dX11_near_28
    · have c_2 : g < ft ∧ (st g).toInt = 1 ∧ (tn g).toInt = 0 := zp_1 c_2
      refine lv_iload_n hx hb dX11_near_16 rfl (lv_at hl 3 rfl) ?_
      refine lv_if_lt (tgt := 25) hx hb dX11_near_17 rfl (fun c_3 => ?_) (fun c_3 => ?_)
      · have c_3 : w.toInt < 0 := zc_lt rfl rfl c_3
        refine lv_ldc2 hx hb hown (hts _ mw_1620) dX11_near_25 ?_
        obtain ⟨hP9, hD9⟩ := zu_sub (wc := [_, _, _]) hP hD [true, true, true] rfl rfl
        rw [hQ9]
        exact W.lret (v := (-1)) hx hb hr (fun t ht hW => ⟨⟨rfl, by rw [ht]; exact hP9, hD9⟩, hS.F ht⟩) hS.2.2 dX11_near_28
      · have c_3 : 0 ≤ w.toInt := zc_nlt rfl rfl c_3
        refine lv_iload_n hx hb dX11_near_20 rfl (lv_at hl 3 rfl) ?_
        refine lv_iconst (v := 1) hx hb dX11_near_21 rfl ?_
        refine lv_icmp_le (tgt := 29) hx hb dX11_near_22 rfl (fun c_4 => ?_) (fun c_4 => ?_)
        · have c_4 : w.toInt ≤ 1 := zc_le rfl rfl c_4
          exact absurd ⟨by assumption, by assumption, by omega, by omega⟩ hbad
        · have c_4 : 1 < w.toInt := zc_nle rfl rfl c_4
          refine lv_ldc2 hx hb hown (hts _ mw_1620) dX11_near_25 ?_
          obtain ⟨hP9, hD9⟩ := zu_sub (wc := [_, _, _]) hP hD [true, true, true] rfl rfl
          rw [hQ9]
          exact W.lret (v := (-1)) hx hb hr (fun t ht hW => ⟨⟨rfl, by rw [ht]; exact hP9, hD9⟩, hS.F ht⟩) hS.2.2 dX11_near_28
end
section
set_option maxHeartbeats 4000000 in
set_option maxRecDepth 100000 in
theorem k_M_join_x1 (l : Launch) (dC : Nat → ClassId) (dI : Nat → Nat → Nat) (cI cZ cF : ClassId) (sz : Nat) (k0 : Nat) (a : Nat → Nat) (I0 : Nat → Int32) (J0 : Nat → Int64) (ft : Nat) (v : Int32) (v2 : Int32) (gp9 : Int32) (hft : I0 0 = nI ft) (h200 : ft ≤ 200) (hv : ¬ (0 ≤ v.toInt ∧ v.toInt < (ft : Int))) : zM l yX11_join cX11_join 9 (some .int) ({ frames := 1, cells := 0, slots := 0, locals := 21 } : Room) [.ref k0, .int v, .int v2, .int gp9] (dC, dI) (zTy cI cZ cF) [(om k0 a I0 J0)] sz (some (.int (-1))) (fun A t => zPD (dC, dI) classes A [(om k0 a (upd (upd I0 14 1) 15 (I0 15)) J0)] t.heap) 0 0 := by
  refine zIn (own := "ScaleShopModel") (loc := [(0, .ref k0), (1, .int v), (2, .int v2), (3, .int gp9)]) rfl rfl rfl rfl (fun p e s m below meth c hx hb hr hts hown hlocks hml hnm9 A hA hS hP hD hK hXN Q9 hQ9 ls hl => ?_)
  refine lv_aload_n hx hb dX11_join_0 rfl (lv_at hl 0 rfl) ?_
  refine lv_iload_n hx hb dX11_join_1 rfl (lv_at hl 1 rfl) ?_
  obtain ⟨hPc, hDc, hFc, hI1⟩ := zi_sub (wc := [_]) hP hD hS hA [0] rfl rfl
  refine zcall (st1 := [.int (pI (0 ≤ v.toInt ∧ v.toInt < (ft : Int)))]) (va_runV (As := [.int v]) (rest := []) ⟨hx, hb, hml, hown, hts⟩ (k_M_isFeature l dC dI cI cZ cF s.heap.size k0 a I0 J0 ft v (by first | with_reducible assumption | assumption) (by first | with_reducible assumption | omega)) (csV_178 hts rfl rfl ⟨Nat.le_of_ble_eq_true rfl, Nat.le_of_ble_eq_true rfl⟩) (zPV2 (q0 := 0) (ci := 9) hPc hDc hK hXN rfl rfl) rfl rfl hl.1 rfl (lv_room (Nat.le_of_ble_eq_true rfl)) dX11_join_2 ⟨Nat.le_of_ble_eq_true rfl, Nat.le_of_ble_eq_true rfl⟩) hS hFc hFc rfl (fun t H locs ht hB hk1 hS => ?_)
  obtain ⟨hP1, hD1⟩ := hB
  rw [ht] at hP1
  replace hP := z0 hP hD hk1 hP1 hI1
  clear hk1 hPc hDc hFc hP1 hD1 ht hI1
  refine lv_if_eq (tgt := 16) hx hb dX11_join_5 rfl (fun c_1 => ?_) (fun c_1 => ?_)
  · have c_1 : ¬ (0 ≤ v.toInt ∧ v.toInt < (ft : Int)) := zp_0 c_1
    refine lv_iconst (v := 1) hx hb dX11_join_16 rfl ?_
    refine lv_goto (tgt := 45) hx hb dX11_join_17 rfl ?_
    refine lv_istore (lv' := [(4, .int 1), (0, .ref k0), (1, .int v), (2, .int v2), (3, .int gp9)]) hx hb dX11_join_45 hl (Nat.le_of_ble_eq_true rfl) rfl (fun ls hl => ?_)
    refine lv_iload hx hb dX11_join_47 (lv_at hl 0 rfl) ?_
    refine lv_if_le (tgt := 57) hx hb dX11_join_49 rfl (fun c_2 => ?_) (fun c_2 => ?_)
    · exact absurd c_2 (by decide)
    · refine lv_iload hx hb dX11_join_52 (lv_at hl 0 rfl) ?_
      refine lv_goto (tgt := 121) hx hb dX11_join_54 rfl ?_
      refine lv_istore (lv' := [(4, .int 1), (0, .ref k0), (1, .int v), (2, .int v2), (3, .int gp9)]) hx hb dX11_join_121 hl (Nat.le_of_ble_eq_true rfl) rfl (fun ls hl => ?_)
      refine lv_iload hx hb dX11_join_123 (lv_at hl 0 rfl) ?_
      refine lv_if_le (tgt := 135) hx hb dX11_join_125 rfl (fun c_3 => ?_) (fun c_3 => ?_)
      · exact absurd c_3 (by decide)
      · refine lv_aload_n hx hb dX11_join_128 rfl (lv_at hl 1 rfl) ?_
        refine lv_iload hx hb dX11_join_129 (lv_at hl 0 rfl) ?_
        obtain ⟨hPc, hDc, hFc⟩ := zo_sub (wc := [_]) hP hD hS hA [0] rfl rfl
        refine zcall (st1 := [.int (-1)]) (va_runV (As := [.int 1]) (rest := []) ⟨hx, hb, hml, hown, hts⟩ (k_M_refuse l dC dI cI cZ cF H.size k0 a I0 J0 1 (by decide)) (csV_185 hts rfl rfl ⟨Nat.le_of_ble_eq_true rfl, Nat.le_of_ble_eq_true rfl⟩) (zPV2 (q0 := 0) (ci := 9) hPc hDc hK hXN rfl rfl) rfl rfl hl.1 rfl (lv_room (Nat.le_of_ble_eq_true rfl)) dX11_join_131 ⟨Nat.le_of_ble_eq_true rfl, Nat.le_of_ble_eq_true rfl⟩) hS hFc hFc rfl (fun t H locs ht hB hk1 hS => ?_)
        obtain ⟨hP1, hD1⟩ := hB
        rw [ht] at hP1
        obtain ⟨hP, hD⟩ := zn (W2 := [(om k0 a (upd (upd I0 14 1) 15 (I0 15)) J0)]) hP hD hk1 hFc hP1 hD1 [0] [] [false] [0] (by decide +kernel) rfl rfl rfl rfl rfl
        clear hk1 hPc hDc hFc hP1 hD1 ht
        obtain ⟨hP9, hD9⟩ := zu_sub (wc := [_]) hP hD [true] rfl rfl
        rw [hQ9]
        exact W.iret (v := (-1)) hx hb hr (fun t ht hW => ⟨⟨rfl, by rw [ht]; exact hP9, hD9⟩, hS.F ht⟩) hS.2.2 dX11_join_134
  · have c_1 : 0 ≤ v.toInt ∧ v.toInt < (ft : Int) := zp_1 c_1
    exfalso; exact absurd (by first | with_reducible assumption | assumption) hv
set_option maxHeartbeats 4000000 in
set_option maxRecDepth 100000 in
theorem k_M_join_x2 (l : Launch) (dC : Nat → ClassId) (dI : Nat → Nat → Nat) (cI cZ cF : ClassId) (sz : Nat) (k0 : Nat) (a : Nat → Nat) (I0 : Nat → Int32) (J0 : Nat → Int64) (f : Nat) (ft : Nat) (v : Int32) (gp9 : Int32) (hft : I0 0 = nI ft) (h200 : ft ≤ 200) (hv : ¬ (0 ≤ v.toInt ∧ v.toInt < (ft : Int))) (hf_t : f < ft) : zM l yX11_join cX11_join 9 (some .int) ({ frames := 1, cells := 0, slots := 0, locals := 21 } : Room) [.ref k0, .int (nI f), .int v, .int gp9] (dC, dI) (zTy cI cZ cF) [(om k0 a I0 J0)] sz (some (.int (-1))) (fun A t => zPD (dC, dI) classes A [(om k0 a (upd (upd I0 14 1) 15 (I0 15)) J0)] t.heap) 0 0 := by
  refine zIn (own := "ScaleShopModel") (loc := [(0, .ref k0), (1, .int (nI f)), (2, .int v), (3, .int gp9)]) rfl rfl rfl rfl (fun p e s m below meth c hx hb hr hts hown hlocks hml hnm9 A hA hS hP hD hK hXN Q9 hQ9 ls hl => ?_)
  refine lv_aload_n hx hb dX11_join_0 rfl (lv_at hl 0 rfl) ?_
  refine lv_iload_n hx hb dX11_join_1 rfl (lv_at hl 1 rfl) ?_
  obtain ⟨hPc, hDc, hFc, hI1⟩ := zi_sub (wc := [_]) hP hD hS hA [0] rfl rfl
  refine zcall (st1 := [.int (pI (f < ft))]) (va_runV (As := [.int (nI f)]) (rest := []) ⟨hx, hb, hml, hown, hts⟩ (k_M_isFeature_n l dC dI cI cZ cF s.heap.size k0 a I0 J0 f ft (by first | with_reducible assumption | assumption) (by first | with_reducible assumption | omega) (by first | with_reducible assumption | omega)) (csV_178 hts rfl rfl ⟨Nat.le_of_ble_eq_true rfl, Nat.le_of_ble_eq_true rfl⟩) (zPV2 (q0 := 0) (ci := 9) hPc hDc hK hXN rfl rfl) rfl rfl hl.1 rfl (lv_room (Nat.le_of_ble_eq_true rfl)) dX11_join_2 ⟨Nat.le_of_ble_eq_true rfl, Nat.le_of_ble_eq_true rfl⟩) hS hFc hFc rfl (fun t H locs ht hB hk1 hS => ?_)
  obtain ⟨hP1, hD1⟩ := hB
  rw [ht] at hP1
  replace hP := z0 hP hD hk1 hP1 hI1
  clear hk1 hPc hDc hFc hP1 hD1 ht hI1
  refine lv_if_eq (tgt := 16) hx hb dX11_join_5 rfl (fun c_1 => ?_) (fun c_1 => ?_)
  · have c_1 : ¬ (f < ft) := zp_0 c_1
    exfalso; omega
  · have c_1 : f < ft := zp_1 c_1
    refine lv_aload_n hx hb dX11_join_8 rfl (lv_at hl 0 rfl) ?_
    refine lv_iload_n hx hb dX11_join_9 rfl (lv_at hl 2 rfl) ?_
    obtain ⟨hPc, hDc, hFc, hI1⟩ := zi_sub (wc := [_]) hP hD hS hA [0] rfl rfl
    refine zcall (st1 := [.int (pI (0 ≤ v.toInt ∧ v.toInt < (ft : Int)))]) (va_runV (As := [.int v]) (rest := []) ⟨hx, hb, hml, hown, hts⟩ (k_M_isFeature l dC dI cI cZ cF H.size k0 a I0 J0 ft v (by first | with_reducible assumption | assumption) (by first | with_reducible assumption | omega)) (csV_178 hts rfl rfl ⟨Nat.le_of_ble_eq_true rfl, Nat.le_of_ble_eq_true rfl⟩) (zPV2 (q0 := 0) (ci := 9) hPc hDc hK hXN rfl rfl) rfl rfl hl.1 rfl (lv_room (Nat.le_of_ble_eq_true rfl)) dX11_join_10 ⟨Nat.le_of_ble_eq_true rfl, Nat.le_of_ble_eq_true rfl⟩) hS hFc hFc rfl (fun t H locs ht hB hk1 hS => ?_)
    obtain ⟨hP1, hD1⟩ := hB
    rw [ht] at hP1
    replace hP := z0 hP hD hk1 hP1 hI1
    clear hk1 hPc hDc hFc hP1 hD1 ht hI1
    refine lv_if_ne (tgt := 20) hx hb dX11_join_13 rfl (fun c_2 => ?_) (fun c_2 => ?_)
    · have c_2 : 0 ≤ v.toInt ∧ v.toInt < (ft : Int) := zp_1 c_2
      exfalso; exact absurd (by first | with_reducible assumption | assumption) hv
    · have c_2 : ¬ (0 ≤ v.toInt ∧ v.toInt < (ft : Int)) := zp_0 c_2
      refine lv_iconst (v := 1) hx hb dX11_join_16 rfl ?_
      refine lv_goto (tgt := 45) hx hb dX11_join_17 rfl ?_
      refine lv_istore (lv' := [(4, .int 1), (0, .ref k0), (1, .int (nI f)), (2, .int v), (3, .int gp9)]) hx hb dX11_join_45 hl (Nat.le_of_ble_eq_true rfl) rfl (fun ls hl => ?_)
      refine lv_iload hx hb dX11_join_47 (lv_at hl 0 rfl) ?_
      refine lv_if_le (tgt := 57) hx hb dX11_join_49 rfl (fun c_3 => ?_) (fun c_3 => ?_)
      · exact absurd c_3 (by decide)
      · refine lv_iload hx hb dX11_join_52 (lv_at hl 0 rfl) ?_
        refine lv_goto (tgt := 121) hx hb dX11_join_54 rfl ?_
        refine lv_istore (lv' := [(4, .int 1), (0, .ref k0), (1, .int (nI f)), (2, .int v), (3, .int gp9)]) hx hb dX11_join_121 hl (Nat.le_of_ble_eq_true rfl) rfl (fun ls hl => ?_)
        refine lv_iload hx hb dX11_join_123 (lv_at hl 0 rfl) ?_
        refine lv_if_le (tgt := 135) hx hb dX11_join_125 rfl (fun c_4 => ?_) (fun c_4 => ?_)
        · exact absurd c_4 (by decide)
        · refine lv_aload_n hx hb dX11_join_128 rfl (lv_at hl 1 rfl) ?_
          refine lv_iload hx hb dX11_join_129 (lv_at hl 0 rfl) ?_
          obtain ⟨hPc, hDc, hFc⟩ := zo_sub (wc := [_]) hP hD hS hA [0] rfl rfl
          refine zcall (st1 := [.int (-1)]) (va_runV (As := [.int 1]) (rest := []) ⟨hx, hb, hml, hown, hts⟩ (k_M_refuse l dC dI cI cZ cF H.size k0 a I0 J0 1 (by decide)) (csV_185 hts rfl rfl ⟨Nat.le_of_ble_eq_true rfl, Nat.le_of_ble_eq_true rfl⟩) (zPV2 (q0 := 0) (ci := 9) hPc hDc hK hXN rfl rfl) rfl rfl hl.1 rfl (lv_room (Nat.le_of_ble_eq_true rfl)) dX11_join_131 ⟨Nat.le_of_ble_eq_true rfl, Nat.le_of_ble_eq_true rfl⟩) hS hFc hFc rfl (fun t H locs ht hB hk1 hS => ?_)
          obtain ⟨hP1, hD1⟩ := hB
          rw [ht] at hP1
          obtain ⟨hP, hD⟩ := zn (W2 := [(om k0 a (upd (upd I0 14 1) 15 (I0 15)) J0)]) hP hD hk1 hFc hP1 hD1 [0] [] [false] [0] (by decide +kernel) rfl rfl rfl rfl rfl
          clear hk1 hPc hDc hFc hP1 hD1 ht
          obtain ⟨hP9, hD9⟩ := zu_sub (wc := [_]) hP hD [true] rfl rfl
          rw [hQ9]
          exact W.iret (v := (-1)) hx hb hr (fun t ht hW => ⟨⟨rfl, by rw [ht]; exact hP9, hD9⟩, hS.F ht⟩) hS.2.2 dX11_join_134
set_option maxHeartbeats 4000000 in
set_option maxRecDepth 100000 in
theorem k_M_join_r (l : Launch) (dC : Nat → ClassId) (dI : Nat → Nat → Nat) (cI cZ cF : ClassId) (sz : Nat) (k0 : Nat) (a : Nat → Nat) (I0 : Nat → Int32) (J0 : Nat → Int64) (f : Nat) (g : Nat) (ft : Nat) (gp9 : Int32) (st : Nat → Int32) (tn : Nat → Int32) (kd : Nat → Int32) (hft : I0 0 = nI ft) (h200 : ft ≤ 200) (hf_t : f < ft) (hg_t : g < ft) (hbad : ¬ (((st f).toInt = 1 ∧ (st g).toInt = 1) ∧ ((kd f).toInt = 6 ∧ (kd g).toInt = 6) ∧ (0 ≤ gp9.toInt ∧ gp9.toInt ≤ 1000) ∧ ((tn f).toInt = 0 ∧ (tn g).toInt = 0))) : zM l yX11_join cX11_join 9 (some .int) ({ frames := 1, cells := 0, slots := 0, locals := 21 } : Room) [.ref k0, .int (nI f), .int (nI g), .int gp9] (dC, dI) (zTy cI cZ cF) [(om k0 a I0 J0), (oa (a 5) cI 201 st), (oa (a 6) cZ 201 tn), (oa (a 1) cI 201 kd)] sz (some (.int (-1))) (fun A t => ∃ (z9 : Int32), zPD (dC, dI) classes A [(om k0 a (upd (upd I0 14 z9) 15 (I0 15)) J0), (oa (a 5) cI 201 st), (oa (a 6) cZ 201 tn), (oa (a 1) cI 201 kd)] t.heap) 0 0 := by
  refine zIn (own := "ScaleShopModel") (loc := [(0, .ref k0), (1, .int (nI f)), (2, .int (nI g)), (3, .int gp9)]) rfl rfl rfl rfl (fun p e s m below meth c hx hb hr hts hown hlocks hml hnm9 A hA hS hP hD hK hXN Q9 hQ9 ls hl => ?_)
  refine lv_aload_n hx hb dX11_join_0 rfl (lv_at hl 0 rfl) ?_
  refine lv_iload_n hx hb dX11_join_1 rfl (lv_at hl 1 rfl) ?_
  obtain ⟨hPc, hDc, hFc, hI1⟩ := zi_sub (wc := [_]) hP hD hS hA [0] rfl rfl
  refine zcall (st1 := [.int (pI (f < ft))]) (va_runV (As := [.int (nI f)]) (rest := []) ⟨hx, hb, hml, hown, hts⟩ (k_M_isFeature_n l dC dI cI cZ cF s.heap.size k0 a I0 J0 f ft (by first | with_reducible assumption | assumption) (by first | with_reducible assumption | omega) (by first | with_reducible assumption | omega)) (csV_178 hts rfl rfl ⟨Nat.le_of_ble_eq_true rfl, Nat.le_of_ble_eq_true rfl⟩) (zPV2 (q0 := 0) (ci := 9) hPc hDc hK hXN rfl rfl) rfl rfl hl.1 rfl (lv_room (Nat.le_of_ble_eq_true rfl)) dX11_join_2 ⟨Nat.le_of_ble_eq_true rfl, Nat.le_of_ble_eq_true rfl⟩) hS hFc hFc rfl (fun t H locs ht hB hk1 hS => ?_)
  obtain ⟨hP1, hD1⟩ := hB
  rw [ht] at hP1
  replace hP := z0 hP hD hk1 hP1 hI1
  clear hk1 hPc hDc hFc hP1 hD1 ht hI1
  refine lv_if_eq (tgt := 16) hx hb dX11_join_5 rfl (fun c_1 => ?_) (fun c_1 => ?_)
  · have c_1 : ¬ (f < ft) := zp_0 c_1
    exfalso; omega
  · have c_1 : f < ft := zp_1 c_1
    refine lv_aload_n hx hb dX11_join_8 rfl (lv_at hl 0 rfl) ?_
    refine lv_iload_n hx hb dX11_join_9 rfl (lv_at hl 2 rfl) ?_
    obtain ⟨hPc, hDc, hFc, hI1⟩ := zi_sub (wc := [_]) hP hD hS hA [0] rfl rfl
    refine zcall (st1 := [.int (pI (g < ft))]) (va_runV (As := [.int (nI g)]) (rest := []) ⟨hx, hb, hml, hown, hts⟩ (k_M_isFeature_n l dC dI cI cZ cF H.size k0 a I0 J0 g ft (by first | with_reducible assumption | assumption) (by first | with_reducible assumption | omega) (by first | with_reducible assumption | omega)) (csV_178 hts rfl rfl ⟨Nat.le_of_ble_eq_true rfl, Nat.le_of_ble_eq_true rfl⟩) (zPV2 (q0 := 0) (ci := 9) hPc hDc hK hXN rfl rfl) rfl rfl hl.1 rfl (lv_room (Nat.le_of_ble_eq_true rfl)) dX11_join_10 ⟨Nat.le_of_ble_eq_true rfl, Nat.le_of_ble_eq_true rfl⟩) hS hFc hFc rfl (fun t H locs ht hB hk1 hS => ?_)
    obtain ⟨hP1, hD1⟩ := hB
    rw [ht] at hP1
    replace hP := z0 hP hD hk1 hP1 hI1
    clear hk1 hPc hDc hFc hP1 hD1 ht hI1
    refine lv_if_ne (tgt := 20) hx hb dX11_join_13 rfl (fun c_2 => ?_) (fun c_2 => ?_)
    · have c_2 : g < ft := zp_1 c_2
      refine lv_aload_n hx hb dX11_join_20 rfl (lv_at hl 0 rfl) ?_
      refine va_get (D := (dC, dI)) (ci := 9) (v := .ref (a 5)) (C := RX11) (T := TX11) (N := 55) hx hb hts inX11 hown hK hP 0 rfl rfl 5 (Nat.le_of_ble_eq_true rfl) (hts _ mw_1164) (fun _ h9 => h9) rfl dX11_join_21 ?_
      refine lv_iload_n hx hb dX11_join_24 rfl (lv_at hl 1 rfl) ?_
      have b9_3 : f < 201 := by omega
      refine z_iald hx hb hK hP 1 0 rfl rfl (e := f) rfl b9_3 (Nat.le_of_ble_eq_true rfl) dX11_join_25 ?_
      refine lv_iconst (v := 1) hx hb dX11_join_26 rfl ?_
      refine lv_icmp_ne (tgt := 40) hx hb dX11_join_27 rfl (fun c_4 => ?_) (fun c_4 => ?_)
      · have c_4 : ¬ (st f).toInt = 1 := zc_ne rfl rfl c_4
        refine lv_iconst (v := 2) hx hb dX11_join_40 rfl ?_
        refine lv_goto (tgt := 45) hx hb dX11_join_41 rfl ?_
        refine lv_istore (lv' := [(4, .int 2), (0, .ref k0), (1, .int (nI f)), (2, .int (nI g)), (3, .int gp9)]) hx hb dX11_join_45 hl (Nat.le_of_ble_eq_true rfl) rfl (fun ls hl => ?_)
        refine lv_iload hx hb dX11_join_47 (lv_at hl 0 rfl) ?_
        refine lv_if_le (tgt := 57) hx hb dX11_join_49 rfl (fun c_5 => ?_) (fun c_5 => ?_)
        · exact absurd c_5 (by decide)
        · refine lv_iload hx hb dX11_join_52 (lv_at hl 0 rfl) ?_
          refine lv_goto (tgt := 121) hx hb dX11_join_54 rfl ?_
          refine lv_istore (lv' := [(4, .int 2), (0, .ref k0), (1, .int (nI f)), (2, .int (nI g)), (3, .int gp9)]) hx hb dX11_join_121 hl (Nat.le_of_ble_eq_true rfl) rfl (fun ls hl => ?_)
          refine lv_iload hx hb dX11_join_123 (lv_at hl 0 rfl) ?_
          refine lv_if_le (tgt := 135) hx hb dX11_join_125 rfl (fun c_6 => ?_) (fun c_6 => ?_)
          · exact absurd c_6 (by decide)
          · refine lv_aload_n hx hb dX11_join_128 rfl (lv_at hl 1 rfl) ?_
            refine lv_iload hx hb dX11_join_129 (lv_at hl 0 rfl) ?_
            obtain ⟨hPc, hDc, hFc⟩ := zo_sub (wc := [_]) hP hD hS hA [0] rfl rfl
            refine zcall (st1 := [.int (-1)]) (va_runV (As := [.int 2]) (rest := []) ⟨hx, hb, hml, hown, hts⟩ (k_M_refuse l dC dI cI cZ cF H.size k0 a I0 J0 2 (by decide)) (csV_185 hts rfl rfl ⟨Nat.le_of_ble_eq_true rfl, Nat.le_of_ble_eq_true rfl⟩) (zPV2 (q0 := 0) (ci := 9) hPc hDc hK hXN rfl rfl) rfl rfl hl.1 rfl (lv_room (Nat.le_of_ble_eq_true rfl)) dX11_join_131 ⟨Nat.le_of_ble_eq_true rfl, Nat.le_of_ble_eq_true rfl⟩) hS hFc hFc rfl (fun t H locs ht hB hk1 hS => ?_)
            obtain ⟨hP1, hD1⟩ := hB
            rw [ht] at hP1
            obtain ⟨hP, hD⟩ := zn (W2 := [(om k0 a (upd (upd I0 14 2) 15 (I0 15)) J0), _, _, _]) hP hD hk1 hFc hP1 hD1 [0] [false, true, true, true] [false, true, true, true] [0] (by decide +kernel) rfl rfl rfl rfl rfl
            clear hk1 hPc hDc hFc hP1 hD1 ht
            obtain ⟨hP9, hD9⟩ := zu_sub (wc := [_, _, _, _]) hP hD [true, true, true, true] rfl rfl
            rw [hQ9]
            exact W.iret (v := (-1)) hx hb hr (fun t ht hW => ⟨⟨rfl, 2, by rw [ht]; exact hP9, hD9⟩, hS.F ht⟩) hS.2.2 dX11_join_134
      · have c_4 : (st f).toInt = 1 := zc_eq rfl rfl c_4
        refine lv_aload_n hx hb dX11_join_30 rfl (lv_at hl 0 rfl) ?_
        refine va_get (D := (dC, dI)) (ci := 9) (v := .ref (a 5)) (C := RX11) (T := TX11) (N := 55) hx hb hts inX11 hown hK hP 0 rfl rfl 5 (Nat.le_of_ble_eq_true rfl) (hts _ mw_1164) (fun _ h9 => h9) rfl dX11_join_31 ?_
        refine lv_iload_n hx hb dX11_join_34 rfl (lv_at hl 2 rfl) ?_
        have b9_7 : g < 201 := by omega
        refine z_iald hx hb hK hP 1 0 rfl rfl (e := g) rfl b9_7 (Nat.le_of_ble_eq_true rfl) dX11_join_35 ?_
        refine lv_iconst (v := 1) hx hb dX11_join_36 rfl ?_
        refine lv_icmp_eq (tgt := 44) hx hb dX11_join_37 rfl (fun c_8 => ?_) (fun c_8 => ?_)
        · have c_8 : (st g).toInt = 1 := zc_eq rfl rfl c_8
          refine lv_iconst (v := 0) hx hb dX11_join_44 rfl ?_
          refine lv_istore (lv' := [(4, .int 0), (0, .ref k0), (1, .int (nI f)), (2, .int (nI g)), (3, .int gp9)]) hx hb dX11_join_45 hl (Nat.le_of_ble_eq_true rfl) rfl (fun ls hl => ?_)
          refine lv_iload hx hb dX11_join_47 (lv_at hl 0 rfl) ?_
          refine lv_if_le (tgt := 57) hx hb dX11_join_49 rfl (fun c_9 => ?_) (fun c_9 => ?_)
          · refine lv_aload_n hx hb dX11_join_57 rfl (lv_at hl 1 rfl) ?_
            refine va_get (D := (dC, dI)) (ci := 9) (v := .ref (a 1)) (C := RX11) (T := TX11) (N := 55) hx hb hts inX11 hown hK hP 0 rfl rfl 1 (Nat.le_of_ble_eq_true rfl) (hts _ mw_1160) (fun _ h9 => h9) rfl dX11_join_58 ?_
            refine lv_iload_n hx hb dX11_join_61 rfl (lv_at hl 2 rfl) ?_
            refine z_iald hx hb hK hP 3 0 rfl rfl (e := f) rfl b9_3 (Nat.le_of_ble_eq_true rfl) dX11_join_62 ?_
            refine lv_bipush (v := 6) hx hb dX11_join_63 rfl ?_
            refine lv_icmp_ne (tgt := 79) hx hb dX11_join_65 rfl (fun c_10 => ?_) (fun c_10 => ?_)
            · have c_10 : ¬ (kd f).toInt = 6 := zc_ne rfl rfl c_10
              refine lv_iconst (v := 3) hx hb dX11_join_79 rfl ?_
              refine lv_goto (tgt := 121) hx hb dX11_join_80 rfl ?_
              refine lv_istore (lv' := [(4, .int 3), (0, .ref k0), (1, .int (nI f)), (2, .int (nI g)), (3, .int gp9)]) hx hb dX11_join_121 hl (Nat.le_of_ble_eq_true rfl) rfl (fun ls hl => ?_)
              refine lv_iload hx hb dX11_join_123 (lv_at hl 0 rfl) ?_
              refine lv_if_le (tgt := 135) hx hb dX11_join_125 rfl (fun c_11 => ?_) (fun c_11 => ?_)
              · exact absurd c_11 (by decide)
              · refine lv_aload_n hx hb dX11_join_128 rfl (lv_at hl 1 rfl) ?_
                refine lv_iload hx hb dX11_join_129 (lv_at hl 0 rfl) ?_
                obtain ⟨hPc, hDc, hFc⟩ := zo_sub (wc := [_]) hP hD hS hA [0] rfl rfl
                refine zcall (st1 := [.int (-1)]) (va_runV (As := [.int 3]) (rest := []) ⟨hx, hb, hml, hown, hts⟩ (k_M_refuse l dC dI cI cZ cF H.size k0 a I0 J0 3 (by decide)) (csV_185 hts rfl rfl ⟨Nat.le_of_ble_eq_true rfl, Nat.le_of_ble_eq_true rfl⟩) (zPV2 (q0 := 0) (ci := 9) hPc hDc hK hXN rfl rfl) rfl rfl hl.1 rfl (lv_room (Nat.le_of_ble_eq_true rfl)) dX11_join_131 ⟨Nat.le_of_ble_eq_true rfl, Nat.le_of_ble_eq_true rfl⟩) hS hFc hFc rfl (fun t H locs ht hB hk1 hS => ?_)
                obtain ⟨hP1, hD1⟩ := hB
                rw [ht] at hP1
                obtain ⟨hP, hD⟩ := zn (W2 := [(om k0 a (upd (upd I0 14 3) 15 (I0 15)) J0), _, _, _]) hP hD hk1 hFc hP1 hD1 [0] [false, true, true, true] [false, true, true, true] [0] (by decide +kernel) rfl rfl rfl rfl rfl
                clear hk1 hPc hDc hFc hP1 hD1 ht
                obtain ⟨hP9, hD9⟩ := zu_sub (wc := [_, _, _, _]) hP hD [true, true, true, true] rfl rfl
                rw [hQ9]
                exact W.iret (v := (-1)) hx hb hr (fun t ht hW => ⟨⟨rfl, 3, by rw [ht]; exact hP9, hD9⟩, hS.F ht⟩) hS.2.2 dX11_join_134
            · have c_10 : (kd f).toInt = 6 := zc_eq rfl rfl c_10
              refine lv_aload_n hx hb dX11_join_68 rfl (lv_at hl 1 rfl) ?_
              refine va_get (D := (dC, dI)) (ci := 9) (v := .ref (a 1)) (C := RX11) (T := TX11) (N := 55) hx hb hts inX11 hown hK hP 0 rfl rfl 1 (Nat.le_of_ble_eq_true rfl) (hts _ mw_1160) (fun _ h9 => h9) rfl dX11_join_69 ?_
              refine lv_iload_n hx hb dX11_join_72 rfl (lv_at hl 3 rfl) ?_
              refine z_iald hx hb hK hP 3 0 rfl rfl (e := g) rfl b9_7 (Nat.le_of_ble_eq_true rfl) dX11_join_73 ?_
              refine lv_bipush (v := 6) hx hb dX11_join_74 rfl ?_
              refine lv_icmp_eq (tgt := 83) hx hb dX11_join_76 rfl (fun c_12 => ?_) (fun c_12 => ?_)
              · have c_12 : (kd g).toInt = 6 := zc_eq rfl rfl c_12
                refine lv_iload_n hx hb dX11_join_83 rfl (lv_at hl 4 rfl) ?_
                refine lv_if_lt (tgt := 94) hx hb dX11_join_84 rfl (fun c_13 => ?_) (fun c_13 => ?_)
                · have c_13 : gp9.toInt < 0 := zc_lt rfl rfl c_13
                  refine lv_iconst (v := 4) hx hb dX11_join_94 rfl ?_
                  refine lv_goto (tgt := 121) hx hb dX11_join_95 rfl ?_
                  refine lv_istore (lv' := [(4, .int 4), (0, .ref k0), (1, .int (nI f)), (2, .int (nI g)), (3, .int gp9)]) hx hb dX11_join_121 hl (Nat.le_of_ble_eq_true rfl) rfl (fun ls hl => ?_)
                  refine lv_iload hx hb dX11_join_123 (lv_at hl 0 rfl) ?_
                  refine lv_if_le (tgt := 135) hx hb dX11_join_125 rfl (fun c_14 => ?_) (fun c_14 => ?_)
                  · exact absurd c_14 (by decide)
                  · refine lv_aload_n hx hb dX11_join_128 rfl (lv_at hl 1 rfl) ?_
                    refine lv_iload hx hb dX11_join_129 (lv_at hl 0 rfl) ?_
                    obtain ⟨hPc, hDc, hFc⟩ := zo_sub (wc := [_]) hP hD hS hA [0] rfl rfl
                    refine zcall (st1 := [.int (-1)]) (va_runV (As := [.int 4]) (rest := []) ⟨hx, hb, hml, hown, hts⟩ (k_M_refuse l dC dI cI cZ cF H.size k0 a I0 J0 4 (by decide)) (csV_185 hts rfl rfl ⟨Nat.le_of_ble_eq_true rfl, Nat.le_of_ble_eq_true rfl⟩) (zPV2 (q0 := 0) (ci := 9) hPc hDc hK hXN rfl rfl) rfl rfl hl.1 rfl (lv_room (Nat.le_of_ble_eq_true rfl)) dX11_join_131 ⟨Nat.le_of_ble_eq_true rfl, Nat.le_of_ble_eq_true rfl⟩) hS hFc hFc rfl (fun t H locs ht hB hk1 hS => ?_)
                    obtain ⟨hP1, hD1⟩ := hB
                    rw [ht] at hP1
                    obtain ⟨hP, hD⟩ := zn (W2 := [(om k0 a (upd (upd I0 14 4) 15 (I0 15)) J0), _, _, _]) hP hD hk1 hFc hP1 hD1 [0] [false, true, true, true] [false, true, true, true] [0] (by decide +kernel) rfl rfl rfl rfl rfl
                    clear hk1 hPc hDc hFc hP1 hD1 ht
                    obtain ⟨hP9, hD9⟩ := zu_sub (wc := [_, _, _, _]) hP hD [true, true, true, true] rfl rfl
                    rw [hQ9]
                    exact W.iret (v := (-1)) hx hb hr (fun t ht hW => ⟨⟨rfl, 4, by rw [ht]; exact hP9, hD9⟩, hS.F ht⟩) hS.2.2 dX11_join_134
                · have c_13 : 0 ≤ gp9.toInt := zc_nlt rfl rfl c_13
                  refine lv_iload_n hx hb dX11_join_87 rfl (lv_at hl 4 rfl) ?_
                  refine lv_sipush (v := 1000) hx hb dX11_join_88 rfl ?_
                  refine lv_icmp_le (tgt := 98) hx hb dX11_join_91 rfl (fun c_15 => ?_) (fun c_15 => ?_)
                  · have c_15 : gp9.toInt ≤ 1000 := zc_le rfl rfl c_15
                    refine lv_aload_n hx hb dX11_join_98 rfl (lv_at hl 1 rfl) ?_
                    refine va_get (D := (dC, dI)) (ci := 9) (v := .ref (a 6)) (C := RX11) (T := TX11) (N := 55) hx hb hts inX11 hown hK hP 0 rfl rfl 6 (Nat.le_of_ble_eq_true rfl) (hts _ mw_1165) (fun _ h9 => h9) rfl dX11_join_99 ?_
                    refine lv_iload_n hx hb dX11_join_102 rfl (lv_at hl 2 rfl) ?_
                    refine z_zald hx hb hK hP 2 1 rfl rfl (e := f) rfl b9_3 (Nat.le_of_ble_eq_true rfl) dX11_join_103 ?_
                    refine lv_if_ne (tgt := 116) hx hb dX11_join_104 rfl (fun c_16 => ?_) (fun c_16 => ?_)
                    · have c_16 : ¬ (tn f).toInt = 0 := zc_ne rfl rfl c_16
                      refine lv_iconst (v := 5) hx hb dX11_join_116 rfl ?_
                      refine lv_goto (tgt := 121) hx hb dX11_join_117 rfl ?_
                      refine lv_istore (lv' := [(4, .int 5), (0, .ref k0), (1, .int (nI f)), (2, .int (nI g)), (3, .int gp9)]) hx hb dX11_join_121 hl (Nat.le_of_ble_eq_true rfl) rfl (fun ls hl => ?_)
                      refine lv_iload hx hb dX11_join_123 (lv_at hl 0 rfl) ?_
                      refine lv_if_le (tgt := 135) hx hb dX11_join_125 rfl (fun c_17 => ?_) (fun c_17 => ?_)
                      · exact absurd c_17 (by decide)
                      · refine lv_aload_n hx hb dX11_join_128 rfl (lv_at hl 1 rfl) ?_
                        refine lv_iload hx hb dX11_join_129 (lv_at hl 0 rfl) ?_
                        obtain ⟨hPc, hDc, hFc⟩ := zo_sub (wc := [_]) hP hD hS hA [0] rfl rfl
                        refine zcall (st1 := [.int (-1)]) (va_runV (As := [.int 5]) (rest := []) ⟨hx, hb, hml, hown, hts⟩ (k_M_refuse l dC dI cI cZ cF H.size k0 a I0 J0 5 (by decide)) (csV_185 hts rfl rfl ⟨Nat.le_of_ble_eq_true rfl, Nat.le_of_ble_eq_true rfl⟩) (zPV2 (q0 := 0) (ci := 9) hPc hDc hK hXN rfl rfl) rfl rfl hl.1 rfl (lv_room (Nat.le_of_ble_eq_true rfl)) dX11_join_131 ⟨Nat.le_of_ble_eq_true rfl, Nat.le_of_ble_eq_true rfl⟩) hS hFc hFc rfl (fun t H locs ht hB hk1 hS => ?_)
                        obtain ⟨hP1, hD1⟩ := hB
                        rw [ht] at hP1
                        obtain ⟨hP, hD⟩ := zn (W2 := [(om k0 a (upd (upd I0 14 5) 15 (I0 15)) J0), _, _, _]) hP hD hk1 hFc hP1 hD1 [0] [false, true, true, true] [false, true, true, true] [0] (by decide +kernel) rfl rfl rfl rfl rfl
                        clear hk1 hPc hDc hFc hP1 hD1 ht
                        obtain ⟨hP9, hD9⟩ := zu_sub (wc := [_, _, _, _]) hP hD [true, true, true, true] rfl rfl
                        rw [hQ9]
                        exact W.iret (v := (-1)) hx hb hr (fun t ht hW => ⟨⟨rfl, 5, by rw [ht]; exact hP9, hD9⟩, hS.F ht⟩) hS.2.2 dX11_join_134
                    · have c_16 : (tn f).toInt = 0 := zc_eq rfl rfl c_16
                      refine lv_aload_n hx hb dX11_join_107 rfl (lv_at hl 1 rfl) ?_
                      refine va_get (D := (dC, dI)) (ci := 9) (v := .ref (a 6)) (C := RX11) (T := TX11) (N := 55) hx hb hts inX11 hown hK hP 0 rfl rfl 6 (Nat.le_of_ble_eq_true rfl) (hts _ mw_1165) (fun _ h9 => h9) rfl dX11_join_108 ?_
                      refine lv_iload_n hx hb dX11_join_111 rfl (lv_at hl 3 rfl) ?_
                      refine z_zald hx hb hK hP 2 1 rfl rfl (e := g) rfl b9_7 (Nat.le_of_ble_eq_true rfl) dX11_join_112 ?_
                      refine lv_if_eq (tgt := 120) hx hb dX11_join_113 rfl (fun c_18 => ?_) (fun c_18 => ?_)
                      · have c_18 : (tn g).toInt = 0 := zc_eq rfl rfl c_18
                        refine lv_iconst (v := 0) hx hb dX11_join_120 rfl ?_
                        refine lv_istore (lv' := [(4, .int 0), (0, .ref k0), (1, .int (nI f)), (2, .int (nI g)), (3, .int gp9)]) hx hb dX11_join_121 hl (Nat.le_of_ble_eq_true rfl) rfl (fun ls hl => ?_)
                        refine lv_iload hx hb dX11_join_123 (lv_at hl 0 rfl) ?_
                        refine lv_if_le (tgt := 135) hx hb dX11_join_125 rfl (fun c_19 => ?_) (fun c_19 => ?_)
                        · exfalso; omega
                        · exact absurd (by decide) c_19
                      · have c_18 : ¬ (tn g).toInt = 0 := zc_ne rfl rfl c_18
                        refine lv_iconst (v := 5) hx hb dX11_join_116 rfl ?_
                        refine lv_goto (tgt := 121) hx hb dX11_join_117 rfl ?_
                        refine lv_istore (lv' := [(4, .int 5), (0, .ref k0), (1, .int (nI f)), (2, .int (nI g)), (3, .int gp9)]) hx hb dX11_join_121 hl (Nat.le_of_ble_eq_true rfl) rfl (fun ls hl => ?_)
                        refine lv_iload hx hb dX11_join_123 (lv_at hl 0 rfl) ?_
                        refine lv_if_le (tgt := 135) hx hb dX11_join_125 rfl (fun c_20 => ?_) (fun c_20 => ?_)
                        · exact absurd c_20 (by decide)
                        · refine lv_aload_n hx hb dX11_join_128 rfl (lv_at hl 1 rfl) ?_
                          refine lv_iload hx hb dX11_join_129 (lv_at hl 0 rfl) ?_
                          obtain ⟨hPc, hDc, hFc⟩ := zo_sub (wc := [_]) hP hD hS hA [0] rfl rfl
                          refine zcall (st1 := [.int (-1)]) (va_runV (As := [.int 5]) (rest := []) ⟨hx, hb, hml, hown, hts⟩ (k_M_refuse l dC dI cI cZ cF H.size k0 a I0 J0 5 (by decide)) (csV_185 hts rfl rfl ⟨Nat.le_of_ble_eq_true rfl, Nat.le_of_ble_eq_true rfl⟩) (zPV2 (q0 := 0) (ci := 9) hPc hDc hK hXN rfl rfl) rfl rfl hl.1 rfl (lv_room (Nat.le_of_ble_eq_true rfl)) dX11_join_131 ⟨Nat.le_of_ble_eq_true rfl, Nat.le_of_ble_eq_true rfl⟩) hS hFc hFc rfl (fun t H locs ht hB hk1 hS => ?_)
                          obtain ⟨hP1, hD1⟩ := hB
                          rw [ht] at hP1
                          obtain ⟨hP, hD⟩ := zn (W2 := [(om k0 a (upd (upd I0 14 5) 15 (I0 15)) J0), _, _, _]) hP hD hk1 hFc hP1 hD1 [0] [false, true, true, true] [false, true, true, true] [0] (by decide +kernel) rfl rfl rfl rfl rfl
                          clear hk1 hPc hDc hFc hP1 hD1 ht
                          obtain ⟨hP9, hD9⟩ := zu_sub (wc := [_, _, _, _]) hP hD [true, true, true, true] rfl rfl
                          rw [hQ9]
                          exact W.iret (v := (-1)) hx hb hr (fun t ht hW => ⟨⟨rfl, 5, by rw [ht]; exact hP9, hD9⟩, hS.F ht⟩) hS.2.2 dX11_join_134
                  · have c_15 : 1000 < gp9.toInt := zc_nle rfl rfl c_15
                    refine lv_iconst (v := 4) hx hb dX11_join_94 rfl ?_
                    refine lv_goto (tgt := 121) hx hb dX11_join_95 rfl ?_
                    refine lv_istore (lv' := [(4, .int 4), (0, .ref k0), (1, .int (nI f)), (2, .int (nI g)), (3, .int gp9)]) hx hb dX11_join_121 hl (Nat.le_of_ble_eq_true rfl) rfl (fun ls hl => ?_)
                    refine lv_iload hx hb dX11_join_123 (lv_at hl 0 rfl) ?_
                    refine lv_if_le (tgt := 135) hx hb dX11_join_125 rfl (fun c_21 => ?_) (fun c_21 => ?_)
                    · exact absurd c_21 (by decide)
                    · refine lv_aload_n hx hb dX11_join_128 rfl (lv_at hl 1 rfl) ?_
                      refine lv_iload hx hb dX11_join_129 (lv_at hl 0 rfl) ?_
                      obtain ⟨hPc, hDc, hFc⟩ := zo_sub (wc := [_]) hP hD hS hA [0] rfl rfl
                      refine zcall (st1 := [.int (-1)]) (va_runV (As := [.int 4]) (rest := []) ⟨hx, hb, hml, hown, hts⟩ (k_M_refuse l dC dI cI cZ cF H.size k0 a I0 J0 4 (by decide)) (csV_185 hts rfl rfl ⟨Nat.le_of_ble_eq_true rfl, Nat.le_of_ble_eq_true rfl⟩) (zPV2 (q0 := 0) (ci := 9) hPc hDc hK hXN rfl rfl) rfl rfl hl.1 rfl (lv_room (Nat.le_of_ble_eq_true rfl)) dX11_join_131 ⟨Nat.le_of_ble_eq_true rfl, Nat.le_of_ble_eq_true rfl⟩) hS hFc hFc rfl (fun t H locs ht hB hk1 hS => ?_)
                      obtain ⟨hP1, hD1⟩ := hB
                      rw [ht] at hP1
                      obtain ⟨hP, hD⟩ := zn (W2 := [(om k0 a (upd (upd I0 14 4) 15 (I0 15)) J0), _, _, _]) hP hD hk1 hFc hP1 hD1 [0] [false, true, true, true] [false, true, true, true] [0] (by decide +kernel) rfl rfl rfl rfl rfl
                      clear hk1 hPc hDc hFc hP1 hD1 ht
                      obtain ⟨hP9, hD9⟩ := zu_sub (wc := [_, _, _, _]) hP hD [true, true, true, true] rfl rfl
                      rw [hQ9]
                      exact W.iret (v := (-1)) hx hb hr (fun t ht hW => ⟨⟨rfl, 4, by rw [ht]; exact hP9, hD9⟩, hS.F ht⟩) hS.2.2 dX11_join_134
              · have c_12 : ¬ (kd g).toInt = 6 := zc_ne rfl rfl c_12
                refine lv_iconst (v := 3) hx hb dX11_join_79 rfl ?_
                refine lv_goto (tgt := 121) hx hb dX11_join_80 rfl ?_
                refine lv_istore (lv' := [(4, .int 3), (0, .ref k0), (1, .int (nI f)), (2, .int (nI g)), (3, .int gp9)]) hx hb dX11_join_121 hl (Nat.le_of_ble_eq_true rfl) rfl (fun ls hl => ?_)
                refine lv_iload hx hb dX11_join_123 (lv_at hl 0 rfl) ?_
                refine lv_if_le (tgt := 135) hx hb dX11_join_125 rfl (fun c_22 => ?_) (fun c_22 => ?_)
                · exact absurd c_22 (by decide)
                · refine lv_aload_n hx hb dX11_join_128 rfl (lv_at hl 1 rfl) ?_
                  refine lv_iload hx hb dX11_join_129 (lv_at hl 0 rfl) ?_
                  obtain ⟨hPc, hDc, hFc⟩ := zo_sub (wc := [_]) hP hD hS hA [0] rfl rfl
                  refine zcall (st1 := [.int (-1)]) (va_runV (As := [.int 3]) (rest := []) ⟨hx, hb, hml, hown, hts⟩ (k_M_refuse l dC dI cI cZ cF H.size k0 a I0 J0 3 (by decide)) (csV_185 hts rfl rfl ⟨Nat.le_of_ble_eq_true rfl, Nat.le_of_ble_eq_true rfl⟩) (zPV2 (q0 := 0) (ci := 9) hPc hDc hK hXN rfl rfl) rfl rfl hl.1 rfl (lv_room (Nat.le_of_ble_eq_true rfl)) dX11_join_131 ⟨Nat.le_of_ble_eq_true rfl, Nat.le_of_ble_eq_true rfl⟩) hS hFc hFc rfl (fun t H locs ht hB hk1 hS => ?_)
                  obtain ⟨hP1, hD1⟩ := hB
                  rw [ht] at hP1
                  obtain ⟨hP, hD⟩ := zn (W2 := [(om k0 a (upd (upd I0 14 3) 15 (I0 15)) J0), _, _, _]) hP hD hk1 hFc hP1 hD1 [0] [false, true, true, true] [false, true, true, true] [0] (by decide +kernel) rfl rfl rfl rfl rfl
                  clear hk1 hPc hDc hFc hP1 hD1 ht
                  obtain ⟨hP9, hD9⟩ := zu_sub (wc := [_, _, _, _]) hP hD [true, true, true, true] rfl rfl
                  rw [hQ9]
                  exact W.iret (v := (-1)) hx hb hr (fun t ht hW => ⟨⟨rfl, 3, by rw [ht]; exact hP9, hD9⟩, hS.F ht⟩) hS.2.2 dX11_join_134
          · exact absurd (by decide) c_9
        · have c_8 : ¬ (st g).toInt = 1 := zc_ne rfl rfl c_8
          refine lv_iconst (v := 2) hx hb dX11_join_40 rfl ?_
          refine lv_goto (tgt := 45) hx hb dX11_join_41 rfl ?_
          refine lv_istore (lv' := [(4, .int 2), (0, .ref k0), (1, .int (nI f)), (2, .int (nI g)), (3, .int gp9)]) hx hb dX11_join_45 hl (Nat.le_of_ble_eq_true rfl) rfl (fun ls hl => ?_)
          refine lv_iload hx hb dX11_join_47 (lv_at hl 0 rfl) ?_
          refine lv_if_le (tgt := 57) hx hb dX11_join_49 rfl (fun c_23 => ?_) (fun c_23 => ?_)
          · exact absurd c_23 (by decide)
          · refine lv_iload hx hb dX11_join_52 (lv_at hl 0 rfl) ?_
            refine lv_goto (tgt := 121) hx hb dX11_join_54 rfl ?_
            refine lv_istore (lv' := [(4, .int 2), (0, .ref k0), (1, .int (nI f)), (2, .int (nI g)), (3, .int gp9)]) hx hb dX11_join_121 hl (Nat.le_of_ble_eq_true rfl) rfl (fun ls hl => ?_)
            refine lv_iload hx hb dX11_join_123 (lv_at hl 0 rfl) ?_
            refine lv_if_le (tgt := 135) hx hb dX11_join_125 rfl (fun c_24 => ?_) (fun c_24 => ?_)
            · exact absurd c_24 (by decide)
            · refine lv_aload_n hx hb dX11_join_128 rfl (lv_at hl 1 rfl) ?_
              refine lv_iload hx hb dX11_join_129 (lv_at hl 0 rfl) ?_
              obtain ⟨hPc, hDc, hFc⟩ := zo_sub (wc := [_]) hP hD hS hA [0] rfl rfl
              refine zcall (st1 := [.int (-1)]) (va_runV (As := [.int 2]) (rest := []) ⟨hx, hb, hml, hown, hts⟩ (k_M_refuse l dC dI cI cZ cF H.size k0 a I0 J0 2 (by decide)) (csV_185 hts rfl rfl ⟨Nat.le_of_ble_eq_true rfl, Nat.le_of_ble_eq_true rfl⟩) (zPV2 (q0 := 0) (ci := 9) hPc hDc hK hXN rfl rfl) rfl rfl hl.1 rfl (lv_room (Nat.le_of_ble_eq_true rfl)) dX11_join_131 ⟨Nat.le_of_ble_eq_true rfl, Nat.le_of_ble_eq_true rfl⟩) hS hFc hFc rfl (fun t H locs ht hB hk1 hS => ?_)
              obtain ⟨hP1, hD1⟩ := hB
              rw [ht] at hP1
              obtain ⟨hP, hD⟩ := zn (W2 := [(om k0 a (upd (upd I0 14 2) 15 (I0 15)) J0), _, _, _]) hP hD hk1 hFc hP1 hD1 [0] [false, true, true, true] [false, true, true, true] [0] (by decide +kernel) rfl rfl rfl rfl rfl
              clear hk1 hPc hDc hFc hP1 hD1 ht
              obtain ⟨hP9, hD9⟩ := zu_sub (wc := [_, _, _, _]) hP hD [true, true, true, true] rfl rfl
              rw [hQ9]
              exact W.iret (v := (-1)) hx hb hr (fun t ht hW => ⟨⟨rfl, 2, by rw [ht]; exact hP9, hD9⟩, hS.F ht⟩) hS.2.2 dX11_join_134
    · have c_2 : ¬ (g < ft) := zp_0 c_2
      exfalso; omega
end
section
set_option maxHeartbeats 4000000 in
set_option maxRecDepth 100000 in
theorem k_M_join_4 (l : Launch) (dC : Nat → ClassId) (dI : Nat → Nat → Nat) (cI cZ cF : ClassId) (sz : Nat) (k0 : Nat) (a : Nat → Nat) (I0 : Nat → Int32) (J0 : Nat → Int64) (f : Nat) (n : Nat) (g : Nat) (m2 : Nat) (ft : Nat) (gp9 : Int32) (st : Nat → Int32) (tn : Nat → Int32) (kd : Nat → Int32) (mn : Nat → Int32) (cx : Nat → Int32) (cy : Nat → Int32) (S0 : Nat → Int32) (hft : I0 0 = nI ft) (h200 : ft ≤ 200) (hf_f : f ≤ 200) (hm_f : mn f = nI n) (hn_f : 1 ≤ n ∧ n ≤ 40) (hp_f : pls n (cF40 cx f) (cF40 cy f)) (hf_g : g ≤ 200) (hm_g : mn g = nI m2) (hn_g : 1 ≤ m2 ∧ m2 ≤ 40) (hp_g : pls m2 (cF40 cx g) (cF40 cy g)) (hf_t : f < ft) (hg_t : g < ft) (hok : ((st f).toInt = 1 ∧ (st g).toInt = 1) ∧ ((kd f).toInt = 6 ∧ (kd g).toInt = 6) ∧ (0 ≤ gp9.toInt ∧ gp9.toInt ≤ 1000) ∧ ((tn f).toInt = 0 ∧ (tn g).toInt = 0)) (hmt : ¬ mtF (kd f).toInt n (cF40 cx f) (cF40 cy f) (kd g).toInt m2 (cF40 cx g) (cF40 cy g)) (he_f : 1 ≤ eO (kd f).toInt n) (he_g : 1 ≤ eO (kd g).toInt m2) (hfar : ∀ u d : Nat, 1 ≤ d → IM (dcP n (cF40 cx f) (cF40 cy f) m2 (cF40 cx g) (cF40 cy g) (eO (kd g).toInt m2) (eO (kd f).toInt n) 0) ((u : Nat) : Int) ((d : Nat) : Int) → gp9.toInt * gp9.toInt * ((d : Nat) : Int) < ((u : Nat) : Int)) : zM l yX11_join cX11_join 9 (some .int) ({ frames := 5, cells := 0, slots := 0, locals := 129 } : Room) [.ref k0, .int (nI f), .int (nI g), .int gp9] (dC, dI) (zTy cI cZ cF) [(om k0 a I0 J0), (oa (a 5) cI 201 st), (oa (a 6) cZ 201 tn), (oa (a 1) cI 201 kd), (oa (a 11) cI 201 mn), (oa (a 12) cI 8040 cx), (oa (a 13) cI 8040 cy), (oa (a 32) cI 8 S0)] sz (some (.int (-1))) (fun A t => ∃ (uq : Nat), ∃ (dq : Nat), ∃ (S1 : Nat → Int32), zPD (dC, dI) classes A [(om k0 a (upd (upd I0 14 4) 15 (I0 15)) (vp_updL (vp_updL J0 48 (jI ((uq : Nat) : Int))) 49 (jI ((dq : Nat) : Int)))), (oa (a 5) cI 201 st), (oa (a 6) cZ 201 tn), (oa (a 1) cI 201 kd), (oa (a 11) cI 201 mn), (oa (a 12) cI 8040 cx), (oa (a 13) cI 8040 cy), (oa (a 32) cI 8 S1)] t.heap) 0 0 := by
  refine zIn (own := "ScaleShopModel") (loc := [(0, .ref k0), (1, .int (nI f)), (2, .int (nI g)), (3, .int gp9)]) rfl rfl rfl rfl (fun p e s m below meth c hx hb hr hts hown hlocks hml hnm9 A hA hS hP hD hK hXN Q9 hQ9 ls hl => ?_)
  refine lv_aload_n hx hb dX11_join_0 rfl (lv_at hl 0 rfl) ?_
  refine lv_iload_n hx hb dX11_join_1 rfl (lv_at hl 1 rfl) ?_
  obtain ⟨hPc, hDc, hFc, hI1⟩ := zi_sub (wc := [_]) hP hD hS hA [0] rfl rfl
  refine zcall (st1 := [.int (pI (f < ft))]) (va_runV (As := [.int (nI f)]) (rest := []) ⟨hx, hb, hml, hown, hts⟩ (k_M_isFeature_n l dC dI cI cZ cF s.heap.size k0 a I0 J0 f ft (by first | with_reducible assumption | assumption) (by first | with_reducible assumption | omega) (by first | with_reducible assumption | omega)) (csV_178 hts rfl rfl ⟨Nat.le_of_ble_eq_true rfl, Nat.le_of_ble_eq_true rfl⟩) (zPV2 (q0 := 0) (ci := 9) hPc hDc hK hXN rfl rfl) rfl rfl hl.1 rfl (lv_room (Nat.le_of_ble_eq_true rfl)) dX11_join_2 ⟨Nat.le_of_ble_eq_true rfl, Nat.le_of_ble_eq_true rfl⟩) hS hFc hFc rfl (fun t H locs ht hB hk1 hS => ?_)
  obtain ⟨hP1, hD1⟩ := hB
  rw [ht] at hP1
  replace hP := z0 hP hD hk1 hP1 hI1
  clear hk1 hPc hDc hFc hP1 hD1 ht hI1
  refine lv_if_eq (tgt := 16) hx hb dX11_join_5 rfl (fun c_1 => ?_) (fun c_1 => ?_)
  · have c_1 : ¬ (f < ft) := zp_0 c_1
    exfalso; omega
  · have c_1 : f < ft := zp_1 c_1
    refine lv_aload_n hx hb dX11_join_8 rfl (lv_at hl 0 rfl) ?_
    refine lv_iload_n hx hb dX11_join_9 rfl (lv_at hl 2 rfl) ?_
    obtain ⟨hPc, hDc, hFc, hI1⟩ := zi_sub (wc := [_]) hP hD hS hA [0] rfl rfl
    refine zcall (st1 := [.int (pI (g < ft))]) (va_runV (As := [.int (nI g)]) (rest := []) ⟨hx, hb, hml, hown, hts⟩ (k_M_isFeature_n l dC dI cI cZ cF H.size k0 a I0 J0 g ft (by first | with_reducible assumption | assumption) (by first | with_reducible assumption | omega) (by first | with_reducible assumption | omega)) (csV_178 hts rfl rfl ⟨Nat.le_of_ble_eq_true rfl, Nat.le_of_ble_eq_true rfl⟩) (zPV2 (q0 := 0) (ci := 9) hPc hDc hK hXN rfl rfl) rfl rfl hl.1 rfl (lv_room (Nat.le_of_ble_eq_true rfl)) dX11_join_10 ⟨Nat.le_of_ble_eq_true rfl, Nat.le_of_ble_eq_true rfl⟩) hS hFc hFc rfl (fun t H locs ht hB hk1 hS => ?_)
    obtain ⟨hP1, hD1⟩ := hB
    rw [ht] at hP1
    replace hP := z0 hP hD hk1 hP1 hI1
    clear hk1 hPc hDc hFc hP1 hD1 ht hI1
    refine lv_if_ne (tgt := 20) hx hb dX11_join_13 rfl (fun c_2 => ?_) (fun c_2 => ?_)
    · have c_2 : g < ft := zp_1 c_2
      refine lv_aload_n hx hb dX11_join_20 rfl (lv_at hl 0 rfl) ?_
      refine va_get (D := (dC, dI)) (ci := 9) (v := .ref (a 5)) (C := RX11) (T := TX11) (N := 55) hx hb hts inX11 hown hK hP 0 rfl rfl 5 (Nat.le_of_ble_eq_true rfl) (hts _ mw_1164) (fun _ h9 => h9) rfl dX11_join_21 ?_
      refine lv_iload_n hx hb dX11_join_24 rfl (lv_at hl 1 rfl) ?_
      have b9_3 : f < 201 := by omega
      refine z_iald hx hb hK hP 1 0 rfl rfl (e := f) rfl b9_3 (Nat.le_of_ble_eq_true rfl) dX11_join_25 ?_
      refine lv_iconst (v := 1) hx hb dX11_join_26 rfl ?_
      refine lv_icmp_ne (tgt := 40) hx hb dX11_join_27 rfl (fun c_4 => ?_) (fun c_4 => ?_)
      · have c_4 : ¬ (st f).toInt = 1 := zc_ne rfl rfl c_4
        exfalso; omega
      · have c_4 : (st f).toInt = 1 := zc_eq rfl rfl c_4
        refine lv_aload_n hx hb dX11_join_30 rfl (lv_at hl 0 rfl) ?_
        refine va_get (D := (dC, dI)) (ci := 9) (v := .ref (a 5)) (C := RX11) (T := TX11) (N := 55) hx hb hts inX11 hown hK hP 0 rfl rfl 5 (Nat.le_of_ble_eq_true rfl) (hts _ mw_1164) (fun _ h9 => h9) rfl dX11_join_31 ?_
        refine lv_iload_n hx hb dX11_join_34 rfl (lv_at hl 2 rfl) ?_
        have b9_5 : g < 201 := by omega
        refine z_iald hx hb hK hP 1 0 rfl rfl (e := g) rfl b9_5 (Nat.le_of_ble_eq_true rfl) dX11_join_35 ?_
        refine lv_iconst (v := 1) hx hb dX11_join_36 rfl ?_
        refine lv_icmp_eq (tgt := 44) hx hb dX11_join_37 rfl (fun c_6 => ?_) (fun c_6 => ?_)
        · have c_6 : (st g).toInt = 1 := zc_eq rfl rfl c_6
          refine lv_iconst (v := 0) hx hb dX11_join_44 rfl ?_
          refine lv_istore (lv' := [(4, .int 0), (0, .ref k0), (1, .int (nI f)), (2, .int (nI g)), (3, .int gp9)]) hx hb dX11_join_45 hl (Nat.le_of_ble_eq_true rfl) rfl (fun ls hl => ?_)
          refine lv_iload hx hb dX11_join_47 (lv_at hl 0 rfl) ?_
          refine lv_if_le (tgt := 57) hx hb dX11_join_49 rfl (fun c_7 => ?_) (fun c_7 => ?_)
          · refine lv_aload_n hx hb dX11_join_57 rfl (lv_at hl 1 rfl) ?_
            refine va_get (D := (dC, dI)) (ci := 9) (v := .ref (a 1)) (C := RX11) (T := TX11) (N := 55) hx hb hts inX11 hown hK hP 0 rfl rfl 1 (Nat.le_of_ble_eq_true rfl) (hts _ mw_1160) (fun _ h9 => h9) rfl dX11_join_58 ?_
            refine lv_iload_n hx hb dX11_join_61 rfl (lv_at hl 2 rfl) ?_
            refine z_iald hx hb hK hP 3 0 rfl rfl (e := f) rfl b9_3 (Nat.le_of_ble_eq_true rfl) dX11_join_62 ?_
            refine lv_bipush (v := 6) hx hb dX11_join_63 rfl ?_
            refine lv_icmp_ne (tgt := 79) hx hb dX11_join_65 rfl (fun c_8 => ?_) (fun c_8 => ?_)
            · have c_8 : ¬ (kd f).toInt = 6 := zc_ne rfl rfl c_8
              exfalso; omega
            · have c_8 : (kd f).toInt = 6 := zc_eq rfl rfl c_8
              refine lv_aload_n hx hb dX11_join_68 rfl (lv_at hl 1 rfl) ?_
              refine va_get (D := (dC, dI)) (ci := 9) (v := .ref (a 1)) (C := RX11) (T := TX11) (N := 55) hx hb hts inX11 hown hK hP 0 rfl rfl 1 (Nat.le_of_ble_eq_true rfl) (hts _ mw_1160) (fun _ h9 => h9) rfl dX11_join_69 ?_
              refine lv_iload_n hx hb dX11_join_72 rfl (lv_at hl 3 rfl) ?_
              refine z_iald hx hb hK hP 3 0 rfl rfl (e := g) rfl b9_5 (Nat.le_of_ble_eq_true rfl) dX11_join_73 ?_
              refine lv_bipush (v := 6) hx hb dX11_join_74 rfl ?_
              refine lv_icmp_eq (tgt := 83) hx hb dX11_join_76 rfl (fun c_9 => ?_) (fun c_9 => ?_)
              · have c_9 : (kd g).toInt = 6 := zc_eq rfl rfl c_9
                refine lv_iload_n hx hb dX11_join_83 rfl (lv_at hl 4 rfl) ?_
                refine lv_if_lt (tgt := 94) hx hb dX11_join_84 rfl (fun c_10 => ?_) (fun c_10 => ?_)
                · have c_10 : gp9.toInt < 0 := zc_lt rfl rfl c_10
                  exfalso; omega
                · have c_10 : 0 ≤ gp9.toInt := zc_nlt rfl rfl c_10
                  refine lv_iload_n hx hb dX11_join_87 rfl (lv_at hl 4 rfl) ?_
                  refine lv_sipush (v := 1000) hx hb dX11_join_88 rfl ?_
                  refine lv_icmp_le (tgt := 98) hx hb dX11_join_91 rfl (fun c_11 => ?_) (fun c_11 => ?_)
                  · have c_11 : gp9.toInt ≤ 1000 := zc_le rfl rfl c_11
                    refine lv_aload_n hx hb dX11_join_98 rfl (lv_at hl 1 rfl) ?_
                    refine va_get (D := (dC, dI)) (ci := 9) (v := .ref (a 6)) (C := RX11) (T := TX11) (N := 55) hx hb hts inX11 hown hK hP 0 rfl rfl 6 (Nat.le_of_ble_eq_true rfl) (hts _ mw_1165) (fun _ h9 => h9) rfl dX11_join_99 ?_
                    refine lv_iload_n hx hb dX11_join_102 rfl (lv_at hl 2 rfl) ?_
                    refine z_zald hx hb hK hP 2 1 rfl rfl (e := f) rfl b9_3 (Nat.le_of_ble_eq_true rfl) dX11_join_103 ?_
                    refine lv_if_ne (tgt := 116) hx hb dX11_join_104 rfl (fun c_12 => ?_) (fun c_12 => ?_)
                    · have c_12 : ¬ (tn f).toInt = 0 := zc_ne rfl rfl c_12
                      exfalso; omega
                    · have c_12 : (tn f).toInt = 0 := zc_eq rfl rfl c_12
                      refine lv_aload_n hx hb dX11_join_107 rfl (lv_at hl 1 rfl) ?_
                      refine va_get (D := (dC, dI)) (ci := 9) (v := .ref (a 6)) (C := RX11) (T := TX11) (N := 55) hx hb hts inX11 hown hK hP 0 rfl rfl 6 (Nat.le_of_ble_eq_true rfl) (hts _ mw_1165) (fun _ h9 => h9) rfl dX11_join_108 ?_
                      refine lv_iload_n hx hb dX11_join_111 rfl (lv_at hl 3 rfl) ?_
                      refine z_zald hx hb hK hP 2 1 rfl rfl (e := g) rfl b9_5 (Nat.le_of_ble_eq_true rfl) dX11_join_112 ?_
                      refine lv_if_eq (tgt := 120) hx hb dX11_join_113 rfl (fun c_13 => ?_) (fun c_13 => ?_)
                      · have c_13 : (tn g).toInt = 0 := zc_eq rfl rfl c_13
                        refine lv_iconst (v := 0) hx hb dX11_join_120 rfl ?_
                        refine lv_istore (lv' := [(4, .int 0), (0, .ref k0), (1, .int (nI f)), (2, .int (nI g)), (3, .int gp9)]) hx hb dX11_join_121 hl (Nat.le_of_ble_eq_true rfl) rfl (fun ls hl => ?_)
                        refine lv_iload hx hb dX11_join_123 (lv_at hl 0 rfl) ?_
                        refine lv_if_le (tgt := 135) hx hb dX11_join_125 rfl (fun c_14 => ?_) (fun c_14 => ?_)
                        · refine lv_aload_n hx hb dX11_join_135 rfl (lv_at hl 1 rfl) ?_
                          refine lv_iload_n hx hb dX11_join_136 rfl (lv_at hl 2 rfl) ?_
                          refine lv_iload_n hx hb dX11_join_137 rfl (lv_at hl 3 rfl) ?_
                          obtain ⟨hPc, hDc, hFc⟩ := zo_sub (wc := [_, _, _, _, _, _]) hP hD hS hA [0, 3, 4, 5, 6, 7] (by decide +kernel) rfl
                          refine zcall (st1 := []) (va_runV (As := [.int (nI f), .int (nI g)]) (rest := []) ⟨hx, hb, hml, hown, hts⟩ (k_M_distance_n l dC dI cI cZ cF H.size k0 a I0 J0 f n g m2 kd mn cx cy S0 (by first | with_reducible assumption | omega) (by first | with_reducible assumption | assumption) (by first | with_reducible assumption | omega) (by first | with_reducible assumption | assumption) (by first | with_reducible assumption | omega) (by first | with_reducible assumption | assumption) (by first | with_reducible assumption | omega) (by first | with_reducible assumption | assumption) (hmt) (he_f) (he_g)) (csV_226 hts rfl rfl ⟨Nat.le_of_ble_eq_true rfl, Nat.le_of_ble_eq_true rfl⟩) (zPV2 (q0 := 0) (ci := 9) hPc hDc hK hXN rfl rfl) rfl rfl hl.1 rfl (lv_room (Nat.le_of_ble_eq_true rfl)) dX11_join_138 ⟨Nat.le_of_ble_eq_true rfl, Nat.le_of_ble_eq_true rfl⟩) hS hFc hFc rfl (fun t H locs ht hB hk1 hS => ?_)
                          obtain ⟨un, dd, S1, hmin, hub, hP1, hD1⟩ := hB
                          rw [ht] at hP1
                          obtain ⟨hP, hD⟩ := zn (W2 := [(om k0 a I0 (vp_updL (vp_updL J0 48 (jI ((un / Nat.gcd un dd : Nat) : Int))) 49 (jI ((dd / Nat.gcd un dd : Nat) : Int)))), _, _, _, _, _, _, (oa (a 32) cI 8 S1)]) hP hD hk1 hFc hP1 hD1 [0, 3, 4, 5, 6, 7] [false, true, true] zl_146 [0, 3, 4, 5, 6, 7] (by decide +kernel) rfl rfl rfl rfl rfl
                          clear hk1 hPc hDc hFc hP1 hD1 ht
                          have hge := Nat.gcd_pos_of_pos_right un (show 0 < dd by omega)
                          have hq1 : un / Nat.gcd un dd ≤ un := Nat.div_le_self _ _
                          have hq2 : dd / Nat.gcd un dd ≤ dd := Nat.div_le_self _ _
                          have hcm := rd_lt (c := gp9.toInt * gp9.toInt) (u := un) (d := dd) hub.2.1
                          obtain ⟨uq, huq⟩ : ∃ uq, uq = un / Nat.gcd un dd := ⟨_, rfl⟩
                          obtain ⟨dq, hdq⟩ : ∃ dq, dq = dd / Nat.gcd un dd := ⟨_, rfl⟩
                          rw [← huq, ← hdq] at hP hD hcm
                          rw [← huq] at hq1
                          rw [← hdq] at hq2
                          have hgb := gpB9 (g := gp9) (D := dq) hok.2.2.1 (by omega)
                          refine lv_aload_n hx hb dX11_join_141 rfl (lv_at hl 1 rfl) ?_
                          refine va_get (D := (dC, dI)) (ci := 9) (v := .long (jI ((uq : Nat) : Int))) (C := RX11) (T := TX11) (N := 55) hx hb hts inX11 hown hK hP 0 rfl rfl 48 (Nat.le_of_ble_eq_true rfl) (hts _ mw_1207) (fun _ h9 => h9) rfl dX11_join_142 ?_
                          refine lv_iload_n hx hb dX11_join_145 rfl (lv_at hl 4 rfl) ?_
                          refine lv_i2l (v := gp9.toInt64) hx hb dX11_join_146 (rfl) ?_
                          refine lv_iload_n hx hb dX11_join_147 rfl (lv_at hl 4 rfl) ?_
                          refine lv_i2l (v := gp9.toInt64) hx hb dX11_join_148 (rfl) ?_
                          refine lv_lmul hx hb dX11_join_149 ?_
                          refine lv_aload_n hx hb dX11_join_150 rfl (lv_at hl 1 rfl) ?_
                          refine va_get (D := (dC, dI)) (ci := 9) (v := .long (jI ((dq : Nat) : Int))) (C := RX11) (T := TX11) (N := 55) hx hb hts inX11 hown hK hP 0 rfl rfl 49 (Nat.le_of_ble_eq_true rfl) (hts _ mw_1208) (fun _ h9 => h9) rfl dX11_join_151 ?_
                          refine lv_lmul hx hb dX11_join_154 ?_
                          refine zz_l (v := jI (gp9.toInt * gp9.toInt * ((dq : Nat) : Int))) (gpL hok.2.2.1 (by omega)) ?_
                          refine W.lcmp hx hb dX11_join_155 ?_
                          refine lv_if_le (tgt := 165) hx hb dX11_join_156 rfl (fun c_15 => ?_) (fun c_15 => ?_)
                          · have c_15 : ((uq : Nat) : Int) ≤ (gp9.toInt * gp9.toInt * ((dq : Nat) : Int)) := zl_le (jI_toInt (by omega)) (jI_toInt (by omega)) c_15
                            exfalso; have h9 := hcm.mpr (hfar un dd hub.2.1 hmin); omega
                          · have c_15 : (gp9.toInt * gp9.toInt * ((dq : Nat) : Int)) < ((uq : Nat) : Int) := zl_nle (jI_toInt (by omega)) (jI_toInt (by omega)) c_15
                            refine lv_aload_n hx hb dX11_join_159 rfl (lv_at hl 1 rfl) ?_
                            refine lv_iconst (v := 4) hx hb dX11_join_160 rfl ?_
                            obtain ⟨hPc, hDc, hFc⟩ := zo_sub (wc := [_]) hP hD hS hA [0] rfl rfl
                            refine zcall (st1 := [.int (-1)]) (va_runV (As := [.int 4]) (rest := []) ⟨hx, hb, hml, hown, hts⟩ (k_M_refuse l dC dI cI cZ cF H.size k0 a I0 (vp_updL (vp_updL J0 48 (jI ((uq : Nat) : Int))) 49 (jI ((dq : Nat) : Int))) 4 (by decide)) (csV_185 hts rfl rfl ⟨Nat.le_of_ble_eq_true rfl, Nat.le_of_ble_eq_true rfl⟩) (zPV2 (q0 := 0) (ci := 9) hPc hDc hK hXN rfl rfl) rfl rfl hl.1 rfl (lv_room (Nat.le_of_ble_eq_true rfl)) dX11_join_161 ⟨Nat.le_of_ble_eq_true rfl, Nat.le_of_ble_eq_true rfl⟩) hS hFc hFc rfl (fun t H locs ht hB hk1 hS => ?_)
                            obtain ⟨hP1, hD1⟩ := hB
                            rw [ht] at hP1
                            obtain ⟨hP, hD⟩ := zn (W2 := [(om k0 a (upd (upd I0 14 4) 15 (I0 15)) (vp_updL (vp_updL J0 48 (jI ((uq : Nat) : Int))) 49 (jI ((dq : Nat) : Int)))), _, _, _, _, _, _, _]) hP hD hk1 hFc hP1 hD1 [0] zl_54 zl_54 [0] (by decide +kernel) rfl rfl rfl rfl rfl
                            clear hk1 hPc hDc hFc hP1 hD1 ht
                            obtain ⟨hP9, hD9⟩ := zu_sub (wc := [_, _, _, _, _, _, _, _]) hP hD [true, true, true, true, true, true, true, true] rfl rfl
                            rw [hQ9]
                            exact W.iret (v := (-1)) hx hb hr (fun t ht hW => ⟨⟨rfl, uq, dq, S1, by rw [ht]; exact hP9, hD9⟩, hS.F ht⟩) hS.2.2 dX11_join_164
                        · exact absurd (by decide) c_14
                      · have c_13 : ¬ (tn g).toInt = 0 := zc_ne rfl rfl c_13
                        exfalso; omega
                  · have c_11 : 1000 < gp9.toInt := zc_nle rfl rfl c_11
                    exfalso; omega
              · have c_9 : ¬ (kd g).toInt = 6 := zc_ne rfl rfl c_9
                exfalso; omega
          · exact absurd (by decide) c_7
        · have c_6 : ¬ (st g).toInt = 1 := zc_ne rfl rfl c_6
          exfalso; omega
    · have c_2 : ¬ (g < ft) := zp_0 c_2
      exfalso; omega
end
section
set_option maxHeartbeats 4000000 in
set_option maxRecDepth 100000 in
theorem k_M_box_w (l : Launch) (dC : Nat → ClassId) (dI : Nat → Nat → Nat) (cI cZ cF : ClassId) (sz : Nat) (k0 : Nat) (a : Nat → Nat) (I0 : Nat → Int32) (J0 : Nat → Int64) (f : Nat) (n : Nat) (y1 : Int32) (y2 : Int32) (y3 : Int32) (y4 : Int32) (mn : Nat → Int32) (cx : Nat → Int32) (cy : Nat → Int32) (hf_f : f ≤ 200) (hm_f : mn f = nI n) (hn_f : 1 ≤ n ∧ n ≤ 40) (hp_f : pls n (cF40 cx f) (cF40 cy f)) : zM l yX11_box cX11_box 7 none ({ frames := 1, cells := 0, slots := 0, locals := 14 } : Room) [.ref k0, .int (nI f), .int 0] (dC, dI) (zTy cI cZ cF) [(om k0 a (upd (upd (upd (upd I0 44 y1) 45 y2) 46 y3) 47 y4) J0), (oa (a 11) cI 201 mn), (oa (a 12) cI 8040 cx), (oa (a 13) cI 8040 cy)] sz none (fun A t => ∃ (x1 : Int32), ∃ (x2 : Int32), ∃ (x3 : Int32), ∃ (x4 : Int32), (x1.toInt = mnI y1.toInt (cF40 cx f) n) ∧ (x2.toInt = mnI y2.toInt (cF40 cy f) n) ∧ (x3.toInt = mxI y3.toInt (cF40 cx f) n) ∧ (x4.toInt = mxI y4.toInt (cF40 cy f) n) ∧ zPD (dC, dI) classes A [(om k0 a (upd (upd (upd (upd I0 44 x1) 45 x2) 46 x3) 47 x4) J0), (oa (a 11) cI 201 mn), (oa (a 12) cI 8040 cx), (oa (a 13) cI 8040 cy)] t.heap) 0 0 := by
  refine zIn (own := "ScaleShopModel") (loc := [(0, .ref k0), (1, .int (nI f)), (2, .int 0)]) rfl rfl rfl rfl (fun p e s m below meth c hx hb hr hts hown hlocks hml hnm9 A hA hS hP hD hK hXN Q9 hQ9 ls hl => ?_)
  refine lv_iconst (v := 0) hx hb dX11_box_0 rfl ?_
  refine lv_istore_n (lv' := [(3, .int 0), (0, .ref k0), (1, .int (nI f)), (2, .int 0)]) hx hb dX11_box_1 rfl hl (Nat.le_of_ble_eq_true rfl) rfl (fun ls hl => ?_)
  have hl_2 : ∀ (n9 : Nat) (k : Nat) (x1 : Int32) (x2 : Int32) (x3 : Int32) (x4 : Int32) (H : Heap) (locs : List Loc) (ls : Array Slot), n - k < n9 → (k ≤ n) → (x1.toInt = mnI y1.toInt (cF40 cx f) k ∧ x2.toInt = mnI y2.toInt (cF40 cy f) k ∧ x3.toInt = mxI y3.toInt (cF40 cx f) k ∧ x4.toInt = mxI y4.toInt (cF40 cy f) k) → va_P (dC, dI) classes [(om k0 a (upd (upd (upd (upd I0 44 x1) 45 x2) 46 x3) 47 x4) J0), (oa (a 11) cI 201 mn), (oa (a 12) cI 8040 cx), (oa (a 13) cI 8040 cy)] H → va_D A [(om k0 a (upd (upd (upd (upd I0 44 x1) 45 x2) 46 x3) 47 x4) J0), (oa (a 11) cI 201 mn), (oa (a 12) cI 8040 cx), (oa (a 13) cI 8040 cy)] → va_S A s.heap H locs → lv_has ls 7 [(3, .int (nI k)), (0, .ref k0), (1, .int (nI f)), (2, .int 0)] → W p l e ({ frames := 1, cells := 0, slots := 0, locals := 14 } : Room) s m ([.ref k0, .int (nI f), .int 0] : List Value).toArray below meth c H locs 0 0 Q9 (F0 m 2 ls []) := by
    intro n9
    induction n9 with
    | zero => intro k x1 x2 x3 x4 H locs ls hm; exact absurd hm (Nat.not_lt_zero _)
    | succ n9 ih_2 =>
      intro k x1 x2 x3 x4 H locs ls hm hk hz hP hD hS hl
      refine lv_iload_n hx hb dX11_box_2 rfl (lv_at hl 0 rfl) ?_
      refine lv_aload_n hx hb dX11_box_3 rfl (lv_at hl 1 rfl) ?_
      refine va_get (D := (dC, dI)) (ci := 9) (v := .ref (a 11)) (C := RX11) (T := TX11) (N := 55) hx hb hts inX11 hown hK hP 0 rfl rfl 11 (Nat.le_of_ble_eq_true rfl) (hts _ mw_1170) (fun _ h9 => h9) rfl dX11_box_4 ?_
      refine lv_iload_n hx hb dX11_box_7 rfl (lv_at hl 2 rfl) ?_
      have b9_1 : f < 201 := by omega
      refine z_iald hx hb hK hP 1 0 rfl rfl (e := f) rfl b9_1 (Nat.le_of_ble_eq_true rfl) dX11_box_8 ?_
      refine zz_i (v := nI n) (hm_f) ?_
      have b9_3 : zlt (k) := show k < 2147483648 by omega
      have b9_4 : zlt (n) := show n < 2147483648 by omega
      refine lv_icmp_ge (tgt := 151) hx hb dX11_box_9 rfl (fun c_2 => ?_) (fun c_2 => ?_)
      · have c_2 : ((n : Nat) : Int) ≤ ((k : Nat) : Int) := zc_le (nI_toInt b9_4) (nI_toInt b9_3) c_2
        have hkn : k = n := (by omega)
        rw [hkn] at hz
        obtain ⟨hP9, hD9⟩ := zu_sub (wc := [_, _, _, _]) hP hD [true, true, true, true] rfl rfl
        rw [hQ9]
        exact W.vret hx hb hr (fun t ht hW => ⟨⟨rfl, x1, x2, x3, x4, (hz.1), (hz.2.1), (hz.2.2.1), (hz.2.2.2), by rw [ht]; exact hP9, hD9⟩, hS.F ht⟩) hS.2.2 dX11_box_151
      · have c_2 : ((k : Nat) : Int) < ((n : Nat) : Int) := zc_nle (nI_toInt b9_4) (nI_toInt b9_3) c_2
        have hk9 : k < n := (by omega)
        refine lv_aload_n hx hb dX11_box_12 rfl (lv_at hl 1 rfl) ?_
        refine va_get (D := (dC, dI)) (ci := 9) (v := .ref (a 12)) (C := RX11) (T := TX11) (N := 55) hx hb hts inX11 hown hK hP 0 rfl rfl 12 (Nat.le_of_ble_eq_true rfl) (hts _ mw_1171) (fun _ h9 => h9) rfl dX11_box_13 ?_
        refine lv_bipush (v := 40) hx hb dX11_box_16 rfl ?_
        refine lv_iload_n hx hb dX11_box_18 rfl (lv_at hl 2 rfl) ?_
        refine lv_imul hx hb dX11_box_19 ?_
        refine zz_i (v := nI (40 * f)) (pk_mul 40 f) ?_
        refine lv_iload_n hx hb dX11_box_20 rfl (lv_at hl 0 rfl) ?_
        refine lv_iadd hx hb dX11_box_21 ?_
        refine zz_i (v := nI (40 * f + k)) (nI_add (40 * f) k) ?_
        have b9_5 : 40 * f + k < 8040 := by omega
        refine z_iald hx hb hK hP 2 0 rfl rfl (e := 40 * f + k) rfl b9_5 (Nat.le_of_ble_eq_true rfl) dX11_box_22 ?_
        refine zz_i (v := cF40 cx f k) (rfl) ?_
        refine lv_istore (lv' := [(4, .int (cF40 cx f k)), (3, .int (nI k)), (0, .ref k0), (1, .int (nI f)), (2, .int 0)]) hx hb dX11_box_23 hl (Nat.le_of_ble_eq_true rfl) rfl (fun ls hl => ?_)
        refine lv_aload_n hx hb dX11_box_25 rfl (lv_at hl 2 rfl) ?_
        refine va_get (D := (dC, dI)) (ci := 9) (v := .ref (a 13)) (C := RX11) (T := TX11) (N := 55) hx hb hts inX11 hown hK hP 0 rfl rfl 13 (Nat.le_of_ble_eq_true rfl) (hts _ mw_1172) (fun _ h9 => h9) rfl dX11_box_26 ?_
        refine lv_bipush (v := 40) hx hb dX11_box_29 rfl ?_
        refine lv_iload_n hx hb dX11_box_31 rfl (lv_at hl 3 rfl) ?_
        refine lv_imul hx hb dX11_box_32 ?_
        refine zz_i (v := nI (40 * f)) (pk_mul 40 f) ?_
        refine lv_iload_n hx hb dX11_box_33 rfl (lv_at hl 1 rfl) ?_
        refine lv_iadd hx hb dX11_box_34 ?_
        refine zz_i (v := nI (40 * f + k)) (nI_add (40 * f) k) ?_
        refine z_iald hx hb hK hP 3 0 rfl rfl (e := 40 * f + k) rfl b9_5 (Nat.le_of_ble_eq_true rfl) dX11_box_35 ?_
        refine zz_i (v := cF40 cy f k) (rfl) ?_
        refine lv_istore (lv' := [(5, .int (cF40 cy f k)), (4, .int (cF40 cx f k)), (3, .int (nI k)), (0, .ref k0), (1, .int (nI f)), (2, .int 0)]) hx hb dX11_box_36 hl (Nat.le_of_ble_eq_true rfl) rfl (fun ls hl => ?_)
        refine lv_iload_n hx hb dX11_box_38 rfl (lv_at hl 5 rfl) ?_
        refine lv_if_eq (tgt := 50) hx hb dX11_box_39 rfl (fun c_6 => ?_) (fun c_6 => ?_)
        · refine lv_iconst (v := 0) hx hb dX11_box_50 rfl ?_
          refine lv_istore (lv' := [(6, .int 0), (5, .int (cF40 cy f k)), (4, .int (cF40 cx f k)), (3, .int (nI k)), (0, .ref k0), (1, .int (nI f)), (2, .int 0)]) hx hb dX11_box_51 hl (Nat.le_of_ble_eq_true rfl) rfl (fun ls hl => ?_)
          refine lv_aload_n hx hb dX11_box_53 rfl (lv_at hl 4 rfl) ?_
          refine lv_iload hx hb dX11_box_54 (lv_at hl 0 rfl) ?_
          refine lv_if_eq (tgt := 64) hx hb dX11_box_56 rfl (fun c_7 => ?_) (fun c_7 => ?_)
          · refine lv_aload_n hx hb dX11_box_64 rfl (lv_at hl 4 rfl) ?_
            refine va_get (D := (dC, dI)) (ci := 9) (v := .int x1) (C := RX11) (T := TX11) (N := 55) hx hb hts inX11 hown hK hP 0 rfl rfl 44 (Nat.le_of_ble_eq_true rfl) (hts _ mw_1203) (fun _ h9 => h9) rfl dX11_box_65 ?_
            refine lv_iload hx hb dX11_box_68 (lv_at hl 2 rfl) ?_
            refine va_mmin hx hb (by rw [hml]; exact hl.1.symm) hown (hts _ mw_1397) (hts _ mw_858) (hts _ mw_103) (hts _ mw_mincode) (Nat.le_of_ble_eq_true rfl) (Nat.le_of_ble_eq_true rfl) (Nat.le_of_ble_eq_true rfl) (Nat.le_of_ble_eq_true rfl) dX11_box_70 ?_
            refine lv_topi (fun v_8 ev_8 => ?_)
            have hv_8 : v_8.toInt = min x1.toInt (cF40 cx f k).toInt := zmin rfl rfl ev_8
            refine va_put (D := (dC, dI)) (ci := 9) (v := .int v_8) (ty := .int) (C := RX11) (T := TX11) (N := 55) hx hb hts inX11 tyX11 tyX11_ok nmX11 hown hK hP hD hS 0 rfl rfl 44 (by decide) (hts _ mw_1203) (fun _ h9 => h9) rfl (by decide +kernel) rfl rfl (Nat.le_of_ble_eq_true rfl) dX11_box_73 (fun H locs hP hD hS => ?_)
            obtain ⟨hP, hD⟩ := zre (W2 := [(om k0 a (upd (upd (upd (upd I0 44 v_8) 45 x2) 46 x3) 47 x4) J0), _, _, _]) hP hD rfl
            refine lv_aload_n hx hb dX11_box_76 rfl (lv_at hl 4 rfl) ?_
            refine lv_iload hx hb dX11_box_77 (lv_at hl 0 rfl) ?_
            refine lv_if_eq (tgt := 87) hx hb dX11_box_79 rfl (fun c_9 => ?_) (fun c_9 => ?_)
            · refine lv_aload_n hx hb dX11_box_87 rfl (lv_at hl 4 rfl) ?_
              refine va_get (D := (dC, dI)) (ci := 9) (v := .int x2) (C := RX11) (T := TX11) (N := 55) hx hb hts inX11 hown hK hP 0 rfl rfl 45 (Nat.le_of_ble_eq_true rfl) (hts _ mw_1204) (fun _ h9 => h9) rfl dX11_box_88 ?_
              refine lv_iload hx hb dX11_box_91 (lv_at hl 1 rfl) ?_
              refine va_mmin hx hb (by rw [hml]; exact hl.1.symm) hown (hts _ mw_1397) (hts _ mw_858) (hts _ mw_103) (hts _ mw_mincode) (Nat.le_of_ble_eq_true rfl) (Nat.le_of_ble_eq_true rfl) (Nat.le_of_ble_eq_true rfl) (Nat.le_of_ble_eq_true rfl) dX11_box_93 ?_
              refine lv_topi (fun v_10 ev_10 => ?_)
              have hv_10 : v_10.toInt = min x2.toInt (cF40 cy f k).toInt := zmin rfl rfl ev_10
              refine va_put (D := (dC, dI)) (ci := 9) (v := .int v_10) (ty := .int) (C := RX11) (T := TX11) (N := 55) hx hb hts inX11 tyX11 tyX11_ok nmX11 hown hK hP hD hS 0 rfl rfl 45 (by decide) (hts _ mw_1204) (fun _ h9 => h9) rfl (by decide +kernel) rfl rfl (Nat.le_of_ble_eq_true rfl) dX11_box_96 (fun H locs hP hD hS => ?_)
              obtain ⟨hP, hD⟩ := zre (W2 := [(om k0 a (upd (upd (upd (upd I0 44 v_8) 45 v_10) 46 x3) 47 x4) J0), _, _, _]) hP hD rfl
              refine lv_aload_n hx hb dX11_box_99 rfl (lv_at hl 4 rfl) ?_
              refine lv_iload hx hb dX11_box_100 (lv_at hl 0 rfl) ?_
              refine lv_if_eq (tgt := 110) hx hb dX11_box_102 rfl (fun c_11 => ?_) (fun c_11 => ?_)
              · refine lv_aload_n hx hb dX11_box_110 rfl (lv_at hl 4 rfl) ?_
                refine va_get (D := (dC, dI)) (ci := 9) (v := .int x3) (C := RX11) (T := TX11) (N := 55) hx hb hts inX11 hown hK hP 0 rfl rfl 46 (Nat.le_of_ble_eq_true rfl) (hts _ mw_1205) (fun _ h9 => h9) rfl dX11_box_111 ?_
                refine lv_iload hx hb dX11_box_114 (lv_at hl 2 rfl) ?_
                refine va_mmax hx hb (by rw [hml]; exact hl.1.symm) hown (hts _ mw_1398) (hts _ mw_159) (hts _ mw_103) (hts _ mw_maxcode) (Nat.le_of_ble_eq_true rfl) (Nat.le_of_ble_eq_true rfl) (Nat.le_of_ble_eq_true rfl) (Nat.le_of_ble_eq_true rfl) dX11_box_116 ?_
                refine lv_topi (fun v_12 ev_12 => ?_)
                have hv_12 : v_12.toInt = max x3.toInt (cF40 cx f k).toInt := zmax rfl rfl ev_12
                refine va_put (D := (dC, dI)) (ci := 9) (v := .int v_12) (ty := .int) (C := RX11) (T := TX11) (N := 55) hx hb hts inX11 tyX11 tyX11_ok nmX11 hown hK hP hD hS 0 rfl rfl 46 (by decide) (hts _ mw_1205) (fun _ h9 => h9) rfl (by decide +kernel) rfl rfl (Nat.le_of_ble_eq_true rfl) dX11_box_119 (fun H locs hP hD hS => ?_)
                obtain ⟨hP, hD⟩ := zre (W2 := [(om k0 a (upd (upd (upd (upd I0 44 v_8) 45 v_10) 46 v_12) 47 x4) J0), _, _, _]) hP hD rfl
                refine lv_aload_n hx hb dX11_box_122 rfl (lv_at hl 4 rfl) ?_
                refine lv_iload hx hb dX11_box_123 (lv_at hl 0 rfl) ?_
                refine lv_if_eq (tgt := 133) hx hb dX11_box_125 rfl (fun c_13 => ?_) (fun c_13 => ?_)
                · refine lv_aload_n hx hb dX11_box_133 rfl (lv_at hl 4 rfl) ?_
                  refine va_get (D := (dC, dI)) (ci := 9) (v := .int x4) (C := RX11) (T := TX11) (N := 55) hx hb hts inX11 hown hK hP 0 rfl rfl 47 (Nat.le_of_ble_eq_true rfl) (hts _ mw_1206) (fun _ h9 => h9) rfl dX11_box_134 ?_
                  refine lv_iload hx hb dX11_box_137 (lv_at hl 1 rfl) ?_
                  refine va_mmax hx hb (by rw [hml]; exact hl.1.symm) hown (hts _ mw_1398) (hts _ mw_159) (hts _ mw_103) (hts _ mw_maxcode) (Nat.le_of_ble_eq_true rfl) (Nat.le_of_ble_eq_true rfl) (Nat.le_of_ble_eq_true rfl) (Nat.le_of_ble_eq_true rfl) dX11_box_139 ?_
                  refine lv_topi (fun v_14 ev_14 => ?_)
                  have hv_14 : v_14.toInt = max x4.toInt (cF40 cy f k).toInt := zmax rfl rfl ev_14
                  refine va_put (D := (dC, dI)) (ci := 9) (v := .int v_14) (ty := .int) (C := RX11) (T := TX11) (N := 55) hx hb hts inX11 tyX11 tyX11_ok nmX11 hown hK hP hD hS 0 rfl rfl 47 (by decide) (hts _ mw_1206) (fun _ h9 => h9) rfl (by decide +kernel) rfl rfl (Nat.le_of_ble_eq_true rfl) dX11_box_142 (fun H locs hP hD hS => ?_)
                  obtain ⟨hP, hD⟩ := zre (W2 := [(om k0 a (upd (upd (upd (upd I0 44 v_8) 45 v_10) 46 v_12) 47 v_14) J0), _, _, _]) hP hD rfl
                  refine lv_iinc (v := nI (k + 1)) (lv' := [(3, .int (nI (k + 1))), (6, .int 0), (5, .int (cF40 cy f k)), (4, .int (cF40 cx f k)), (0, .ref k0), (1, .int (nI f)), (2, .int 0)]) hx hb dX11_box_145 hl (k := 3) rfl (nI_add k 1) (Nat.le_of_ble_eq_true rfl) rfl (fun ls hl => ?_)
                  refine lv_goto (tgt := 2) hx hb dX11_box_148 rfl ?_
                  exact ih_2 (k + 1) v_8 v_10 v_12 v_14 H locs ls (by first | with_reducible assumption | omega) (by first | with_reducible assumption | omega) (by rw [mnI_s, mnI_s, mxI_s, mxI_s]; omega) hP hD hS (lv_sub hl [0, 4, 5, 6] rfl)
                · exact absurd (by decide) c_13
              · exact absurd (by decide) c_11
            · exact absurd (by decide) c_9
          · exact absurd (by decide) c_7
        · exact absurd (by decide) c_6
  exact hl_2 _ 0 y1 y2 y3 y4 s.heap [] ls (Nat.lt_succ_self _) (by first | with_reducible assumption | omega) (⟨rfl, rfl, rfl, rfl⟩) hP hD hS (lv_sub hl [0, 1, 2, 3] rfl)
end
section
set_option maxHeartbeats 4000000 in
set_option maxRecDepth 100000 in
theorem k_M_distance_a (l : Launch) (dC : Nat → ClassId) (dI : Nat → Nat → Nat) (cI cZ cF : ClassId) (sz : Nat) (k0 : Nat) (a : Nat → Nat) (I0 : Nat → Int32) (J0 : Nat → Int64) (f : Nat) (n : Nat) (g : Nat) (m2 : Nat) (kd : Nat → Int32) (mn : Nat → Int32) (cx : Nat → Int32) (cy : Nat → Int32) (S0 : Nat → Int32) (hf_f : f ≤ 200) (hm_f : mn f = nI n) (hn_f : 1 ≤ n ∧ n ≤ 40) (hp_f : pls n (cF40 cx f) (cF40 cy f)) (hf_g : g ≤ 200) (hm_g : mn g = nI m2) (hn_g : 1 ≤ m2 ∧ m2 ≤ 40) (hp_g : pls m2 (cF40 cx g) (cF40 cy g)) (he_f : 1 ≤ eO (kd f).toInt n) (he_g : 1 ≤ eO (kd g).toInt m2) : zM l yX11_distance cX11_distance 5 none ({ frames := 4, cells := 0, slots := 0, locals := 105 } : Room) [.ref k0, .int (nI f), .int (nI g)] (dC, dI) (zTy cI cZ cF) [(om k0 a I0 J0), (oa (a 1) cI 201 kd), (oa (a 11) cI 201 mn), (oa (a 12) cI 8040 cx), (oa (a 13) cI 8040 cy), (oa (a 32) cI 8 S0)] sz none (fun A t => ∃ (uq : Nat), ∃ (dq : Nat), ∃ (S1 : Nat → Int32), (∀ c9 : Int, (0 ≤ c9 → (c9 * ((dq : Nat) : Int) < ((uq : Nat) : Int) ↔ (¬ mtF (kd f).toInt n (cF40 cx f) (cF40 cy f) (kd g).toInt m2 (cF40 cx g) (cF40 cy g) ∧ ∀ u d : Nat, 1 ≤ d → IM (dcP n (cF40 cx f) (cF40 cy f) m2 (cF40 cx g) (cF40 cy g) (eO (kd g).toInt m2) (eO (kd f).toInt n) 0) ((u : Nat) : Int) ((d : Nat) : Int) → c9 * ((d : Nat) : Int) < ((u : Nat) : Int))))) ∧ (uq ≤ 4000000000000 ∧ 1 ≤ dq ∧ dq ≤ 2000000) ∧ zPD (dC, dI) classes A [(om k0 a I0 (vp_updL (vp_updL J0 48 (jI ((uq : Nat) : Int))) 49 (jI ((dq : Nat) : Int)))), (oa (a 1) cI 201 kd), (oa (a 11) cI 201 mn), (oa (a 12) cI 8040 cx), (oa (a 13) cI 8040 cy), (oa (a 32) cI 8 S1)] t.heap) 0 0 := by
  refine zIn (own := "ScaleShopModel") (loc := [(0, .ref k0), (1, .int (nI f)), (2, .int (nI g))]) rfl rfl rfl rfl (fun p e s m below meth c hx hb hr hts hown hlocks hml hnm9 A hA hS hP hD hK hXN Q9 hQ9 ls hl => ?_)
  have hef := eO_le (k := (kd f).toInt) hn_f.1
  have heg := eO_le (k := (kd g).toInt) hn_g.1
  refine lv_aload_n hx hb dX11_distance_0 rfl (lv_at hl 0 rfl) ?_
  refine lv_lconst (v := 0) hx hb dX11_distance_1 rfl ?_
  refine zz_l (v := jI ((0 : Nat) : Int)) (jI_0) ?_
  refine va_put (D := (dC, dI)) (ci := 9) (v := .long (jI ((0 : Nat) : Int))) (ty := .long) (C := RX11) (T := TX11) (N := 55) hx hb hts inX11 tyX11 tyX11_ok nmX11 hown hK hP hD hS 0 rfl rfl 48 (by decide) (hts _ mw_1207) (fun _ h9 => h9) rfl (by decide +kernel) rfl rfl (Nat.le_of_ble_eq_true rfl) dX11_distance_2 (fun H locs hP hD hS => ?_)
  obtain ⟨hP, hD⟩ := zre (W2 := [(om k0 a I0 (vp_updL J0 48 (jI ((0 : Nat) : Int)))), _, _, _, _, _]) hP hD rfl
  refine lv_aload_n hx hb dX11_distance_5 rfl (lv_at hl 0 rfl) ?_
  refine lv_lconst (v := 0) hx hb dX11_distance_6 rfl ?_
  refine zz_l (v := jI ((0 : Nat) : Int)) (jI_0) ?_
  refine va_put (D := (dC, dI)) (ci := 9) (v := .long (jI ((0 : Nat) : Int))) (ty := .long) (C := RX11) (T := TX11) (N := 55) hx hb hts inX11 tyX11 tyX11_ok nmX11 hown hK hP hD hS 0 rfl rfl 49 (by decide) (hts _ mw_1208) (fun _ h9 => h9) rfl (by decide +kernel) rfl rfl (Nat.le_of_ble_eq_true rfl) dX11_distance_7 (fun H locs hP hD hS => ?_)
  obtain ⟨hP, hD⟩ := zre (W2 := [(om k0 a I0 (vp_updL (vp_updL J0 48 (jI ((0 : Nat) : Int))) 49 (jI ((0 : Nat) : Int)))), _, _, _, _, _]) hP hD rfl
  refine lv_aload_n hx hb dX11_distance_10 rfl (lv_at hl 0 rfl) ?_
  refine lv_iload_n hx hb dX11_distance_11 rfl (lv_at hl 1 rfl) ?_
  refine lv_iload_n hx hb dX11_distance_12 rfl (lv_at hl 2 rfl) ?_
  obtain ⟨hPc, hDc, hFc⟩ := zo_sub (wc := [_, _, _, _, _, _]) hP hD hS hA [0, 1, 2, 3, 4, 5] (by decide +kernel) rfl
  refine zcall (st1 := [.int (pI (∃ i, i < eO (kd f).toInt n ∧ ∃ j, j < eO (kd g).toInt m2 ∧ eMt n (cF40 cx f) (cF40 cy f) i m2 (cF40 cx g) (cF40 cy g) j))]) (va_runV (As := [.int (nI f), .int (nI g)]) (rest := []) ⟨hx, hb, hml, hown, hts⟩ (k_M_isMet l dC dI cI cZ cF H.size k0 a I0 (vp_updL (vp_updL J0 48 (jI ((0 : Nat) : Int))) 49 (jI ((0 : Nat) : Int))) f n g m2 kd mn cx cy S0 (by first | with_reducible assumption | omega) (by first | with_reducible assumption | assumption) (by first | with_reducible assumption | omega) (by first | with_reducible assumption | assumption) (by first | with_reducible assumption | omega) (by first | with_reducible assumption | assumption) (by first | with_reducible assumption | omega) (by first | with_reducible assumption | assumption)) (csV_180 hts rfl rfl ⟨Nat.le_of_ble_eq_true rfl, Nat.le_of_ble_eq_true rfl⟩) (zPV2 (q0 := 0) (ci := 9) hPc hDc hK hXN rfl rfl) rfl rfl hl.1 rfl (lv_room (Nat.le_of_ble_eq_true rfl)) dX11_distance_13 ⟨Nat.le_of_ble_eq_true rfl, Nat.le_of_ble_eq_true rfl⟩) hS hFc hFc rfl (fun t H locs ht hB hk1 hS => ?_)
  obtain ⟨q_1, hP1, hD1⟩ := hB
  rw [ht] at hP1
  obtain ⟨hP, hD⟩ := zn (W2 := [_, _, _, _, _, (oa (a 32) cI 8 q_1)]) hP hD hk1 hFc hP1 hD1 [0, 1, 2, 3, 4, 5] [] [false, false, false, false, false, false] [0, 1, 2, 3, 4, 5] (by decide +kernel) rfl rfl rfl rfl rfl
  clear hk1 hPc hDc hFc hP1 hD1 ht
  refine zz_i (v := pI (mtF (kd f).toInt n (cF40 cx f) (cF40 cy f) (kd g).toInt m2 (cF40 cx g) (cF40 cy g))) (rfl) ?_
  refine lv_if_eq (tgt := 25) hx hb dX11_distance_16 rfl (fun c_2 => ?_) (fun c_2 => ?_)
  · have c_2 : ¬ (mtF (kd f).toInt n (cF40 cx f) (cF40 cy f) (kd g).toInt m2 (cF40 cx g) (cF40 cy g)) := zp_0 c_2
    refine lv_iconst (v := 0) hx hb dX11_distance_25 rfl ?_
    refine lv_istore_n (lv' := [(3, .int 0), (0, .ref k0), (1, .int (nI f)), (2, .int (nI g))]) hx hb dX11_distance_26 rfl hl (Nat.le_of_ble_eq_true rfl) rfl (fun ls hl => ?_)
    have hl_27 : ∀ (n9 : Nat) (i : Nat) (S1 : Nat → Int32) (u : Int) (d : Int) (H : Heap) (locs : List Loc) (ls : Array Slot), eO (kd f).toInt n - i < n9 → (i ≤ eO (kd f).toInt n) → (IM (dcP n (cF40 cx f) (cF40 cy f) m2 (cF40 cx g) (cF40 cy g) (eO (kd g).toInt m2) i 0) u d) → ((0 ≤ u ∧ u ≤ 4000000000000) ∧ (0 ≤ d ∧ d ≤ 2000000)) → va_P (dC, dI) classes [(om k0 a I0 (vp_updL (vp_updL J0 48 (jI u)) 49 (jI d))), (oa (a 1) cI 201 kd), (oa (a 11) cI 201 mn), (oa (a 12) cI 8040 cx), (oa (a 13) cI 8040 cy), (oa (a 32) cI 8 S1)] H → va_D A [(om k0 a I0 (vp_updL (vp_updL J0 48 (jI u)) 49 (jI d))), (oa (a 1) cI 201 kd), (oa (a 11) cI 201 mn), (oa (a 12) cI 8040 cx), (oa (a 13) cI 8040 cy), (oa (a 32) cI 8 S1)] → va_S A s.heap H locs → lv_has ls 5 [(3, .int (nI i)), (0, .ref k0), (1, .int (nI f)), (2, .int (nI g))] → W p l e ({ frames := 4, cells := 0, slots := 0, locals := 105 } : Room) s m ([.ref k0, .int (nI f), .int (nI g)] : List Value).toArray below meth c H locs 0 0 Q9 (F0 m 27 ls []) := by
      intro n9
      induction n9 with
      | zero => intro i S1 u d H locs ls hm; exact absurd hm (Nat.not_lt_zero _)
      | succ n9 ih_27 =>
        intro i S1 u d H locs ls hm hi him hud hP hD hS hl
        refine lv_iload_n hx hb dX11_distance_27 rfl (lv_at hl 0 rfl) ?_
        refine lv_aload_n hx hb dX11_distance_28 rfl (lv_at hl 1 rfl) ?_
        refine lv_iload_n hx hb dX11_distance_29 rfl (lv_at hl 2 rfl) ?_
        obtain ⟨hPc, hDc, hFc, hI1⟩ := zi_sub (wc := [_, _, _]) hP hD hS hA [0, 1, 2] rfl rfl
        refine zcall (st1 := [.int (nI (eO (kd f).toInt n)), .int (nI i)]) (va_runV (As := [.int (nI f)]) (rest := [.int (nI i)]) ⟨hx, hb, hml, hown, hts⟩ (k_M_edgesOf l dC dI cI cZ cF H.size k0 a I0 (vp_updL (vp_updL J0 48 (jI u)) 49 (jI d)) f n kd mn (by first | with_reducible assumption | omega) (by first | with_reducible assumption | assumption) (by first | with_reducible assumption | omega)) (csV_166 hts rfl rfl ⟨Nat.le_of_ble_eq_true rfl, Nat.le_of_ble_eq_true rfl⟩) (zPV2 (q0 := 0) (ci := 9) hPc hDc hK hXN rfl rfl) rfl rfl hl.1 rfl (lv_room (Nat.le_of_ble_eq_true rfl)) dX11_distance_30 ⟨Nat.le_of_ble_eq_true rfl, Nat.le_of_ble_eq_true rfl⟩) hS hFc hFc rfl (fun t H locs ht hB hk1 hS => ?_)
        obtain ⟨hP1, hD1⟩ := hB
        rw [ht] at hP1
        replace hP := z0 hP hD hk1 hP1 hI1
        clear hk1 hPc hDc hFc hP1 hD1 ht hI1
        have b9_4 : zlt (i) := show i < 2147483648 by omega
        have b9_5 : zlt ((eO (kd f).toInt n)) := show (eO (kd f).toInt n) < 2147483648 by omega
        refine lv_icmp_ge (tgt := 162) hx hb dX11_distance_33 rfl (fun c_3 => ?_) (fun c_3 => ?_)
        · have c_3 : ((eO (kd f).toInt n : Nat) : Int) ≤ ((i : Nat) : Int) := zc_le (nI_toInt b9_5) (nI_toInt b9_4) c_3
          have hie : i = eO (kd f).toInt n := (by omega)
          rw [hie] at him
          have hd1 := dcP_e him he_f he_g
          obtain ⟨un, hun⟩ : ∃ un : Nat, u = ((un : Nat) : Int) := ⟨u.toNat, by omega⟩
          obtain ⟨dd, hdd⟩ : ∃ dd : Nat, d = ((dd : Nat) : Int) := ⟨d.toNat, by omega⟩
          rw [hun, hdd] at hP hD
          refine lv_aload_n hx hb dX11_distance_162 rfl (lv_at hl 1 rfl) ?_
          obtain ⟨hPc, hDc, hFc⟩ := zo_sub (wc := [_]) hP hD hS hA [0] rfl rfl
          refine zcall (st1 := []) (va_runV (As := []) (rest := []) ⟨hx, hb, hml, hown, hts⟩ (k_M_plainFraction l dC dI cI cZ cF H.size k0 a I0 (vp_updL (vp_updL J0 48 (jI ((un : Nat) : Int))) 49 (jI ((dd : Nat) : Int))) un dd (by first | with_reducible assumption | omega) (by first | with_reducible assumption | omega)) (csV_224 hts rfl rfl ⟨Nat.le_of_ble_eq_true rfl, Nat.le_of_ble_eq_true rfl⟩) (zPV2 (q0 := 0) (ci := 9) hPc hDc hK hXN rfl rfl) rfl rfl hl.1 rfl (lv_room (Nat.le_of_ble_eq_true rfl)) dX11_distance_163 ⟨Nat.le_of_ble_eq_true rfl, Nat.le_of_ble_eq_true rfl⟩) hS hFc hFc rfl (fun t H locs ht hB hk1 hS => ?_)
          obtain ⟨hP1, hD1⟩ := hB
          rw [ht] at hP1
          obtain ⟨hP, hD⟩ := zn (W2 := [(om k0 a I0 (vp_updL (vp_updL J0 48 (jI ((un / Nat.gcd un dd : Nat) : Int))) 49 (jI ((dd / Nat.gcd un dd : Nat) : Int)))), _, _, _, _, _]) hP hD hk1 hFc hP1 hD1 [0] [false, true, true, true, true, true] [false, true, true, true, true, true] [0] (by decide +kernel) rfl rfl rfl rfl rfl
          clear hk1 hPc hDc hFc hP1 hD1 ht
          obtain ⟨hP9, hD9⟩ := zu_sub (wc := [_, _, _, _, _, _]) hP hD [true, true, true, true, true, true] rfl rfl
          rw [hQ9]
          exact W.vret hx hb hr (fun t ht hW => ⟨⟨rfl, (un / Nat.gcd un dd), (dd / Nat.gcd un dd), S1, (fun c9 hc9 => (rd_lt (u := un) (d := dd) (by omega)).trans ⟨fun h9 => ⟨by assumption, fun u9 d9 hd9 hI9 => im_lt (by rw [← hun, ← hdd]; exact him) hI9 (by omega) (by omega) h9⟩, fun h9 => h9.2 un dd (by omega) (by rw [← hun, ← hdd]; exact him)⟩), (dq_b (by omega)), by rw [ht]; exact hP9, hD9⟩, hS.F ht⟩) hS.2.2 dX11_distance_166
        · have c_3 : ((i : Nat) : Int) < ((eO (kd f).toInt n : Nat) : Int) := zc_nle (nI_toInt b9_5) (nI_toInt b9_4) c_3
          have hin9 : i < n := (by omega)
          have hnx := nxt_lt (n := n) (i := i) (by omega)
          refine lv_aload_n hx hb dX11_distance_36 rfl (lv_at hl 1 rfl) ?_
          refine lv_iload_n hx hb dX11_distance_37 rfl (lv_at hl 2 rfl) ?_
          refine lv_iload_n hx hb dX11_distance_38 rfl (lv_at hl 0 rfl) ?_
          refine lv_iconst (v := 0) hx hb dX11_distance_39 rfl ?_
          obtain ⟨hPc, hDc, hFc⟩ := zo_sub (wc := [_, _, _, _, _]) hP hD hS hA [0, 2, 3, 4, 5] (by decide +kernel) rfl
          refine zcall (st1 := []) (va_runV (As := [.int (nI f), .int (nI i), .int 0]) (rest := []) ⟨hx, hb, hml, hown, hts⟩ (k_M_edge l dC dI cI cZ cF H.size k0 a I0 (vp_updL (vp_updL J0 48 (jI u)) 49 (jI d)) f n i 0 mn cx cy S1 (by first | with_reducible assumption | omega) (by first | with_reducible assumption | assumption) (by first | with_reducible assumption | omega) (by first | with_reducible assumption | omega) (by first | with_reducible assumption | omega)) (csV_167 hts rfl rfl ⟨Nat.le_of_ble_eq_true rfl, Nat.le_of_ble_eq_true rfl⟩) (zPV2 (q0 := 0) (ci := 9) hPc hDc hK hXN rfl rfl) rfl rfl hl.1 rfl (lv_room (Nat.le_of_ble_eq_true rfl)) dX11_distance_40 ⟨Nat.le_of_ble_eq_true rfl, Nat.le_of_ble_eq_true rfl⟩) hS hFc hFc rfl (fun t H locs ht hB hk1 hS => ?_)
          obtain ⟨S2, t0, t1, t2, t3, tr, hP1, hD1⟩ := hB
          rw [ht] at hP1
          obtain ⟨hP, hD⟩ := zn (W2 := [_, _, _, _, _, (oa (a 32) cI 8 S2)]) hP hD hk1 hFc hP1 hD1 [0, 2, 3, 4, 5] [false, true] [false, true, false, false, false, false] [0, 2, 3, 4, 5] (by decide +kernel) rfl rfl rfl rfl rfl
          clear hk1 hPc hDc hFc hP1 hD1 ht
          refine lv_iconst (v := 0) hx hb dX11_distance_43 rfl ?_
          refine lv_istore (lv' := [(4, .int 0), (3, .int (nI i)), (0, .ref k0), (1, .int (nI f)), (2, .int (nI g))]) hx hb dX11_distance_44 hl (Nat.le_of_ble_eq_true rfl) rfl (fun ls hl => ?_)
          have hl_46 : ∀ (n9 : Nat) (k : Nat) (S2 : Nat → Int32) (u2 : Int) (d2 : Int) (H : Heap) (locs : List Loc) (ls : Array Slot), eO (kd g).toInt m2 - k < n9 → (k ≤ eO (kd g).toInt m2) → (S2 0 = cx (40 * f + i)) → (S2 1 = cy (40 * f + i)) → (S2 2 = cx (40 * f + nxt n i)) → (S2 3 = cy (40 * f + nxt n i)) → (IM (dcP n (cF40 cx f) (cF40 cy f) m2 (cF40 cx g) (cF40 cy g) (eO (kd g).toInt m2) i k) u2 d2) → ((0 ≤ u2 ∧ u2 ≤ 4000000000000) ∧ (0 ≤ d2 ∧ d2 ≤ 2000000)) → va_P (dC, dI) classes [(om k0 a I0 (vp_updL (vp_updL J0 48 (jI u2)) 49 (jI d2))), (oa (a 1) cI 201 kd), (oa (a 11) cI 201 mn), (oa (a 12) cI 8040 cx), (oa (a 13) cI 8040 cy), (oa (a 32) cI 8 S2)] H → va_D A [(om k0 a I0 (vp_updL (vp_updL J0 48 (jI u2)) 49 (jI d2))), (oa (a 1) cI 201 kd), (oa (a 11) cI 201 mn), (oa (a 12) cI 8040 cx), (oa (a 13) cI 8040 cy), (oa (a 32) cI 8 S2)] → va_S A s.heap H locs → lv_has ls 5 [(4, .int (nI k)), (3, .int (nI i)), (0, .ref k0), (1, .int (nI f)), (2, .int (nI g))] → W p l e ({ frames := 4, cells := 0, slots := 0, locals := 105 } : Room) s m ([.ref k0, .int (nI f), .int (nI g)] : List Value).toArray below meth c H locs 0 0 Q9 (F0 m 46 ls []) := by
            intro n9
            induction n9 with
            | zero => intro k S2 u2 d2 H locs ls hm; exact absurd hm (Nat.not_lt_zero _)
            | succ n9 ih_46 =>
              intro k S2 u2 d2 H locs ls hm hk g0 g1 g2 g3 him2 hud2 hP hD hS hl
              refine lv_iload hx hb dX11_distance_46 (lv_at hl 0 rfl) ?_
              refine lv_aload_n hx hb dX11_distance_48 rfl (lv_at hl 2 rfl) ?_
              refine lv_iload_n hx hb dX11_distance_49 rfl (lv_at hl 4 rfl) ?_
              obtain ⟨hPc, hDc, hFc, hI1⟩ := zi_sub (wc := [_, _, _]) hP hD hS hA [0, 1, 2] rfl rfl
              refine zcall (st1 := [.int (nI (eO (kd g).toInt m2)), .int (nI k)]) (va_runV (As := [.int (nI g)]) (rest := [.int (nI k)]) ⟨hx, hb, hml, hown, hts⟩ (k_M_edgesOf l dC dI cI cZ cF H.size k0 a I0 (vp_updL (vp_updL J0 48 (jI u2)) 49 (jI d2)) g m2 kd mn (by first | with_reducible assumption | omega) (by first | with_reducible assumption | assumption) (by first | with_reducible assumption | omega)) (csV_166 hts rfl rfl ⟨Nat.le_of_ble_eq_true rfl, Nat.le_of_ble_eq_true rfl⟩) (zPV2 (q0 := 0) (ci := 9) hPc hDc hK hXN rfl rfl) rfl rfl hl.1 rfl (lv_room (Nat.le_of_ble_eq_true rfl)) dX11_distance_50 ⟨Nat.le_of_ble_eq_true rfl, Nat.le_of_ble_eq_true rfl⟩) hS hFc hFc rfl (fun t H locs ht hB hk1 hS => ?_)
              obtain ⟨hP1, hD1⟩ := hB
              rw [ht] at hP1
              replace hP := z0 hP hD hk1 hP1 hI1
              clear hk1 hPc hDc hFc hP1 hD1 ht hI1
              have b9_7 : zlt (k) := show k < 2147483648 by omega
              have b9_8 : zlt ((eO (kd g).toInt m2)) := show (eO (kd g).toInt m2) < 2147483648 by omega
              refine lv_icmp_ge (tgt := 156) hx hb dX11_distance_53 rfl (fun c_6 => ?_) (fun c_6 => ?_)
              · have c_6 : ((eO (kd g).toInt m2 : Nat) : Int) ≤ ((k : Nat) : Int) := zc_le (nI_toInt b9_8) (nI_toInt b9_7) c_6
                refine lv_iinc (v := nI (i + 1)) (lv' := [(3, .int (nI (i + 1))), (4, .int (nI k)), (0, .ref k0), (1, .int (nI f)), (2, .int (nI g))]) hx hb dX11_distance_156 hl (k := 1) rfl (nI_add i 1) (Nat.le_of_ble_eq_true rfl) rfl (fun ls hl => ?_)
                refine lv_goto (tgt := 27) hx hb dX11_distance_159 rfl ?_
                exact ih_27 (i + 1) S2 u2 d2 H locs ls (by first | with_reducible assumption | omega) (by first | with_reducible assumption | omega) (dcP_n (by rw [show k = eO (kd g).toInt m2 by omega] at him2; exact him2)) (hud2) hP hD hS (lv_sub hl [0, 2, 3, 4] rfl)
              · have c_6 : ((k : Nat) : Int) < ((eO (kd g).toInt m2 : Nat) : Int) := zc_nle (nI_toInt b9_8) (nI_toInt b9_7) c_6
                have hjm : k < m2 := (by omega)
                have hnj := nxt_lt (n := m2) (i := k) (by omega)
                refine lv_aload_n hx hb dX11_distance_56 rfl (lv_at hl 2 rfl) ?_
                refine lv_iload_n hx hb dX11_distance_57 rfl (lv_at hl 4 rfl) ?_
                refine lv_iload hx hb dX11_distance_58 (lv_at hl 0 rfl) ?_
                refine lv_iconst (v := 4) hx hb dX11_distance_60 rfl ?_
                obtain ⟨hPc, hDc, hFc⟩ := zo_sub (wc := [_, _, _, _, _]) hP hD hS hA [0, 2, 3, 4, 5] (by decide +kernel) rfl
                refine zcall (st1 := []) (va_runV (As := [.int (nI g), .int (nI k), .int 4]) (rest := []) ⟨hx, hb, hml, hown, hts⟩ (k_M_edge l dC dI cI cZ cF H.size k0 a I0 (vp_updL (vp_updL J0 48 (jI u2)) 49 (jI d2)) g m2 k 4 mn cx cy S2 (by first | with_reducible assumption | omega) (by first | with_reducible assumption | assumption) (by first | with_reducible assumption | omega) (by first | with_reducible assumption | omega) (by first | with_reducible assumption | omega)) (csV_167 hts rfl rfl ⟨Nat.le_of_ble_eq_true rfl, Nat.le_of_ble_eq_true rfl⟩) (zPV2 (q0 := 0) (ci := 9) hPc hDc hK hXN rfl rfl) rfl rfl hl.1 rfl (lv_room (Nat.le_of_ble_eq_true rfl)) dX11_distance_61 ⟨Nat.le_of_ble_eq_true rfl, Nat.le_of_ble_eq_true rfl⟩) hS hFc hFc rfl (fun t H locs ht hB hk1 hS => ?_)
                obtain ⟨S3, w0, w1, w2, w3, ur, hP1, hD1⟩ := hB
                rw [ht] at hP1
                obtain ⟨hP, hD⟩ := zn (W2 := [_, _, _, _, _, (oa (a 32) cI 8 S3)]) hP hD hk1 hFc hP1 hD1 [0, 2, 3, 4, 5] [false, true] [false, true, false, false, false, false] [0, 2, 3, 4, 5] (by decide +kernel) rfl rfl rfl rfl rfl
                clear hk1 hPc hDc hFc hP1 hD1 ht
                have v0 : S3 0 = cF40 cx f i := (ur 0 (by omega)).trans g0
                have v1 : S3 1 = cF40 cy f i := (ur 1 (by omega)).trans g1
                have v2 : S3 2 = cF40 cx f (nxt n i) := (ur 2 (by omega)).trans g2
                have v3 : S3 3 = cF40 cy f (nxt n i) := (ur 3 (by omega)).trans g3
                have v4 : S3 4 = cF40 cx g k := w0
                have v5 : S3 5 = cF40 cy g k := w1
                have v6 : S3 6 = cF40 cx g (nxt m2 k) := w2
                have v7 : S3 7 = cF40 cy g (nxt m2 k) := w3
                have hs3 := sPl (S := S3) (by rw [v0]; exact (hp_f i hin9).1) (by rw [v1]; exact (hp_f i hin9).2) (by rw [v2]; exact (hp_f _ hnx).1) (by rw [v3]; exact (hp_f _ hnx).2) (by rw [v4]; exact (hp_g k hjm).1) (by rw [v5]; exact (hp_g k hjm).2) (by rw [v6]; exact (hp_g _ hnj).1) (by rw [v7]; exact (hp_g _ hnj).2)
                refine lv_aload_n hx hb dX11_distance_64 rfl (lv_at hl 2 rfl) ?_
                refine lv_aload_n hx hb dX11_distance_65 rfl (lv_at hl 2 rfl) ?_
                refine va_get (D := (dC, dI)) (ci := 9) (v := .ref (a 32)) (C := RX11) (T := TX11) (N := 55) hx hb hts inX11 hown hK hP 0 rfl rfl 32 (Nat.le_of_ble_eq_true rfl) (hts _ mw_1191) (fun _ h9 => h9) rfl dX11_distance_66 ?_
                refine lv_aload_n hx hb dX11_distance_69 rfl (lv_at hl 2 rfl) ?_
                refine va_get (D := (dC, dI)) (ci := 9) (v := .ref (a 32)) (C := RX11) (T := TX11) (N := 55) hx hb hts inX11 hown hK hP 0 rfl rfl 32 (Nat.le_of_ble_eq_true rfl) (hts _ mw_1191) (fun _ h9 => h9) rfl dX11_distance_70 ?_
                refine lv_iconst (v := 4) hx hb dX11_distance_73 rfl ?_
                refine z_iald hx hb hK hP 5 0 rfl rfl (e := 4) rfl (Nat.le_of_ble_eq_true rfl) (Nat.le_of_ble_eq_true rfl) dX11_distance_74 ?_
                refine zz_i (v := cF40 cx g k) (v4) ?_
                refine lv_aload_n hx hb dX11_distance_75 rfl (lv_at hl 2 rfl) ?_
                refine va_get (D := (dC, dI)) (ci := 9) (v := .ref (a 32)) (C := RX11) (T := TX11) (N := 55) hx hb hts inX11 hown hK hP 0 rfl rfl 32 (Nat.le_of_ble_eq_true rfl) (hts _ mw_1191) (fun _ h9 => h9) rfl dX11_distance_76 ?_
                refine lv_iconst (v := 5) hx hb dX11_distance_79 rfl ?_
                refine z_iald hx hb hK hP 5 0 rfl rfl (e := 5) rfl (Nat.le_of_ble_eq_true rfl) (Nat.le_of_ble_eq_true rfl) dX11_distance_80 ?_
                refine zz_i (v := cF40 cy g k) (v5) ?_
                refine lv_iconst (v := 0) hx hb dX11_distance_81 rfl ?_
                obtain ⟨hPc, hDc, hFc⟩ := zo_sub (wc := [_, _]) hP hD hS hA [0, 5] rfl rfl
                refine zcall (st1 := []) (va_runV (As := [.ref (a 32), .int (cF40 cx g k), .int (cF40 cy g k), .int 0]) (rest := []) ⟨hx, hb, hml, hown, hts⟩ (k_M_nearer l dC dI cI cZ cF H.size k0 a I0 (vp_updL (vp_updL J0 48 (jI u2)) 49 (jI d2)) 0 (cF40 cx g k) (cF40 cy g k) u2 d2 S3 (by first | with_reducible assumption | omega) (hs3) ((hp_g k hjm).1) ((hp_g k hjm).2) (hud2.1) (hud2.2)) (csV_225 hts rfl rfl ⟨Nat.le_of_ble_eq_true rfl, Nat.le_of_ble_eq_true rfl⟩) (zPV2 (q0 := 0) (ci := 9) hPc hDc hK hXN rfl rfl) rfl rfl hl.1 rfl (lv_room (Nat.le_of_ble_eq_true rfl)) dX11_distance_82 ⟨Nat.le_of_ble_eq_true rfl, Nat.le_of_ble_eq_true rfl⟩) hS hFc hFc rfl (fun t H locs ht hB hk1 hS => ?_)
                obtain ⟨zu1, zd1, hnd1, hP1, hD1⟩ := hB
                rw [ht] at hP1
                obtain ⟨hP, hD⟩ := zn (W2 := [(om k0 a I0 (vp_updL (vp_updL J0 48 (jI zu1)) 49 (jI zd1))), _, _, _, _, _]) hP hD hk1 hFc hP1 hD1 [0, 5] [false, true, true, true, true] [false, true, true, true, true, false] [0, 5] (by decide +kernel) rfl rfl rfl rfl rfl
                clear hk1 hPc hDc hFc hP1 hD1 ht
                have hx1 : ndP u2 d2 (nrU (S3 0).toInt (S3 1).toInt (S3 2).toInt (S3 3).toInt (cF40 cx g k).toInt (cF40 cy g k).toInt) (nrD (S3 0).toInt (S3 1).toInt (S3 2).toInt (S3 3).toInt (cF40 cx g k).toInt (cF40 cy g k).toInt) zu1 zd1 := hnd1
                rw [v0, v1, v2, v3] at hx1
                have hb1_9 := ndP_b hud2.1 hud2.2 (nrU_b (hp_f i hin9).1 (hp_f i hin9).2 (hp_f _ hnx).1 (hp_f _ hnx).2 (hp_g k hjm).1 (hp_g k hjm).2) hx1
                refine lv_aload_n hx hb dX11_distance_85 rfl (lv_at hl 2 rfl) ?_
                refine lv_aload_n hx hb dX11_distance_86 rfl (lv_at hl 2 rfl) ?_
                refine va_get (D := (dC, dI)) (ci := 9) (v := .ref (a 32)) (C := RX11) (T := TX11) (N := 55) hx hb hts inX11 hown hK hP 0 rfl rfl 32 (Nat.le_of_ble_eq_true rfl) (hts _ mw_1191) (fun _ h9 => h9) rfl dX11_distance_87 ?_
                refine lv_aload_n hx hb dX11_distance_90 rfl (lv_at hl 2 rfl) ?_
                refine va_get (D := (dC, dI)) (ci := 9) (v := .ref (a 32)) (C := RX11) (T := TX11) (N := 55) hx hb hts inX11 hown hK hP 0 rfl rfl 32 (Nat.le_of_ble_eq_true rfl) (hts _ mw_1191) (fun _ h9 => h9) rfl dX11_distance_91 ?_
                refine lv_bipush (v := 6) hx hb dX11_distance_94 rfl ?_
                refine z_iald hx hb hK hP 5 0 rfl rfl (e := 6) rfl (Nat.le_of_ble_eq_true rfl) (Nat.le_of_ble_eq_true rfl) dX11_distance_96 ?_
                refine zz_i (v := cF40 cx g (nxt m2 k)) (v6) ?_
                refine lv_aload_n hx hb dX11_distance_97 rfl (lv_at hl 2 rfl) ?_
                refine va_get (D := (dC, dI)) (ci := 9) (v := .ref (a 32)) (C := RX11) (T := TX11) (N := 55) hx hb hts inX11 hown hK hP 0 rfl rfl 32 (Nat.le_of_ble_eq_true rfl) (hts _ mw_1191) (fun _ h9 => h9) rfl dX11_distance_98 ?_
                refine lv_bipush (v := 7) hx hb dX11_distance_101 rfl ?_
                refine z_iald hx hb hK hP 5 0 rfl rfl (e := 7) rfl (Nat.le_of_ble_eq_true rfl) (Nat.le_of_ble_eq_true rfl) dX11_distance_103 ?_
                refine zz_i (v := cF40 cy g (nxt m2 k)) (v7) ?_
                refine lv_iconst (v := 0) hx hb dX11_distance_104 rfl ?_
                obtain ⟨hPc, hDc, hFc⟩ := zo_sub (wc := [_, _]) hP hD hS hA [0, 5] rfl rfl
                refine zcall (st1 := []) (va_runV (As := [.ref (a 32), .int (cF40 cx g (nxt m2 k)), .int (cF40 cy g (nxt m2 k)), .int 0]) (rest := []) ⟨hx, hb, hml, hown, hts⟩ (k_M_nearer l dC dI cI cZ cF H.size k0 a I0 (vp_updL (vp_updL J0 48 (jI zu1)) 49 (jI zd1)) 0 (cF40 cx g (nxt m2 k)) (cF40 cy g (nxt m2 k)) zu1 zd1 S3 (by first | with_reducible assumption | omega) (hs3) ((hp_g _ hnj).1) ((hp_g _ hnj).2) (hb1_9.1) (hb1_9.2)) (csV_225 hts rfl rfl ⟨Nat.le_of_ble_eq_true rfl, Nat.le_of_ble_eq_true rfl⟩) (zPV2 (q0 := 0) (ci := 9) hPc hDc hK hXN rfl rfl) rfl rfl hl.1 rfl (lv_room (Nat.le_of_ble_eq_true rfl)) dX11_distance_105 ⟨Nat.le_of_ble_eq_true rfl, Nat.le_of_ble_eq_true rfl⟩) hS hFc hFc rfl (fun t H locs ht hB hk1 hS => ?_)
                obtain ⟨zu2, zd2, hnd2, hP1, hD1⟩ := hB
                rw [ht] at hP1
                obtain ⟨hP, hD⟩ := zn (W2 := [(om k0 a I0 (vp_updL (vp_updL J0 48 (jI zu2)) 49 (jI zd2))), _, _, _, _, _]) hP hD hk1 hFc hP1 hD1 [0, 5] [false, true, true, true, true] [false, true, true, true, true, false] [0, 5] (by decide +kernel) rfl rfl rfl rfl rfl
                clear hk1 hPc hDc hFc hP1 hD1 ht
                have hx2 : ndP zu1 zd1 (nrU (S3 0).toInt (S3 1).toInt (S3 2).toInt (S3 3).toInt (cF40 cx g (nxt m2 k)).toInt (cF40 cy g (nxt m2 k)).toInt) (nrD (S3 0).toInt (S3 1).toInt (S3 2).toInt (S3 3).toInt (cF40 cx g (nxt m2 k)).toInt (cF40 cy g (nxt m2 k)).toInt) zu2 zd2 := hnd2
                rw [v0, v1, v2, v3] at hx2
                have hb2_9 := ndP_b hb1_9.1 hb1_9.2 (nrU_b (hp_f i hin9).1 (hp_f i hin9).2 (hp_f _ hnx).1 (hp_f _ hnx).2 (hp_g _ hnj).1 (hp_g _ hnj).2) hx2
                refine lv_aload_n hx hb dX11_distance_108 rfl (lv_at hl 2 rfl) ?_
                refine lv_aload_n hx hb dX11_distance_109 rfl (lv_at hl 2 rfl) ?_
                refine va_get (D := (dC, dI)) (ci := 9) (v := .ref (a 32)) (C := RX11) (T := TX11) (N := 55) hx hb hts inX11 hown hK hP 0 rfl rfl 32 (Nat.le_of_ble_eq_true rfl) (hts _ mw_1191) (fun _ h9 => h9) rfl dX11_distance_110 ?_
                refine lv_aload_n hx hb dX11_distance_113 rfl (lv_at hl 2 rfl) ?_
                refine va_get (D := (dC, dI)) (ci := 9) (v := .ref (a 32)) (C := RX11) (T := TX11) (N := 55) hx hb hts inX11 hown hK hP 0 rfl rfl 32 (Nat.le_of_ble_eq_true rfl) (hts _ mw_1191) (fun _ h9 => h9) rfl dX11_distance_114 ?_
                refine lv_iconst (v := 0) hx hb dX11_distance_117 rfl ?_
                refine z_iald hx hb hK hP 5 0 rfl rfl (e := 0) rfl (Nat.le_of_ble_eq_true rfl) (Nat.le_of_ble_eq_true rfl) dX11_distance_118 ?_
                refine zz_i (v := cF40 cx f i) (v0) ?_
                refine lv_aload_n hx hb dX11_distance_119 rfl (lv_at hl 2 rfl) ?_
                refine va_get (D := (dC, dI)) (ci := 9) (v := .ref (a 32)) (C := RX11) (T := TX11) (N := 55) hx hb hts inX11 hown hK hP 0 rfl rfl 32 (Nat.le_of_ble_eq_true rfl) (hts _ mw_1191) (fun _ h9 => h9) rfl dX11_distance_120 ?_
                refine lv_iconst (v := 1) hx hb dX11_distance_123 rfl ?_
                refine z_iald hx hb hK hP 5 0 rfl rfl (e := 1) rfl (Nat.le_of_ble_eq_true rfl) (Nat.le_of_ble_eq_true rfl) dX11_distance_124 ?_
                refine zz_i (v := cF40 cy f i) (v1) ?_
                refine lv_iconst (v := 4) hx hb dX11_distance_125 rfl ?_
                obtain ⟨hPc, hDc, hFc⟩ := zo_sub (wc := [_, _]) hP hD hS hA [0, 5] rfl rfl
                refine zcall (st1 := []) (va_runV (As := [.ref (a 32), .int (cF40 cx f i), .int (cF40 cy f i), .int 4]) (rest := []) ⟨hx, hb, hml, hown, hts⟩ (k_M_nearer l dC dI cI cZ cF H.size k0 a I0 (vp_updL (vp_updL J0 48 (jI zu2)) 49 (jI zd2)) 4 (cF40 cx f i) (cF40 cy f i) zu2 zd2 S3 (by first | with_reducible assumption | omega) (hs3) ((hp_f i hin9).1) ((hp_f i hin9).2) (hb2_9.1) (hb2_9.2)) (csV_225 hts rfl rfl ⟨Nat.le_of_ble_eq_true rfl, Nat.le_of_ble_eq_true rfl⟩) (zPV2 (q0 := 0) (ci := 9) hPc hDc hK hXN rfl rfl) rfl rfl hl.1 rfl (lv_room (Nat.le_of_ble_eq_true rfl)) dX11_distance_126 ⟨Nat.le_of_ble_eq_true rfl, Nat.le_of_ble_eq_true rfl⟩) hS hFc hFc rfl (fun t H locs ht hB hk1 hS => ?_)
                obtain ⟨zu3, zd3, hnd3, hP1, hD1⟩ := hB
                rw [ht] at hP1
                obtain ⟨hP, hD⟩ := zn (W2 := [(om k0 a I0 (vp_updL (vp_updL J0 48 (jI zu3)) 49 (jI zd3))), _, _, _, _, _]) hP hD hk1 hFc hP1 hD1 [0, 5] [false, true, true, true, true] [false, true, true, true, true, false] [0, 5] (by decide +kernel) rfl rfl rfl rfl rfl
                clear hk1 hPc hDc hFc hP1 hD1 ht
                have hx3 : ndP zu2 zd2 (nrU (S3 4).toInt (S3 5).toInt (S3 6).toInt (S3 7).toInt (cF40 cx f i).toInt (cF40 cy f i).toInt) (nrD (S3 4).toInt (S3 5).toInt (S3 6).toInt (S3 7).toInt (cF40 cx f i).toInt (cF40 cy f i).toInt) zu3 zd3 := hnd3
                rw [v4, v5, v6, v7] at hx3
                have hb3_9 := ndP_b hb2_9.1 hb2_9.2 (nrU_b (hp_g k hjm).1 (hp_g k hjm).2 (hp_g _ hnj).1 (hp_g _ hnj).2 (hp_f i hin9).1 (hp_f i hin9).2) hx3
                refine lv_aload_n hx hb dX11_distance_129 rfl (lv_at hl 2 rfl) ?_
                refine lv_aload_n hx hb dX11_distance_130 rfl (lv_at hl 2 rfl) ?_
                refine va_get (D := (dC, dI)) (ci := 9) (v := .ref (a 32)) (C := RX11) (T := TX11) (N := 55) hx hb hts inX11 hown hK hP 0 rfl rfl 32 (Nat.le_of_ble_eq_true rfl) (hts _ mw_1191) (fun _ h9 => h9) rfl dX11_distance_131 ?_
                refine lv_aload_n hx hb dX11_distance_134 rfl (lv_at hl 2 rfl) ?_
                refine va_get (D := (dC, dI)) (ci := 9) (v := .ref (a 32)) (C := RX11) (T := TX11) (N := 55) hx hb hts inX11 hown hK hP 0 rfl rfl 32 (Nat.le_of_ble_eq_true rfl) (hts _ mw_1191) (fun _ h9 => h9) rfl dX11_distance_135 ?_
                refine lv_iconst (v := 2) hx hb dX11_distance_138 rfl ?_
                refine z_iald hx hb hK hP 5 0 rfl rfl (e := 2) rfl (Nat.le_of_ble_eq_true rfl) (Nat.le_of_ble_eq_true rfl) dX11_distance_139 ?_
                refine zz_i (v := cF40 cx f (nxt n i)) (v2) ?_
                refine lv_aload_n hx hb dX11_distance_140 rfl (lv_at hl 2 rfl) ?_
                refine va_get (D := (dC, dI)) (ci := 9) (v := .ref (a 32)) (C := RX11) (T := TX11) (N := 55) hx hb hts inX11 hown hK hP 0 rfl rfl 32 (Nat.le_of_ble_eq_true rfl) (hts _ mw_1191) (fun _ h9 => h9) rfl dX11_distance_141 ?_
                refine lv_iconst (v := 3) hx hb dX11_distance_144 rfl ?_
                refine z_iald hx hb hK hP 5 0 rfl rfl (e := 3) rfl (Nat.le_of_ble_eq_true rfl) (Nat.le_of_ble_eq_true rfl) dX11_distance_145 ?_
                refine zz_i (v := cF40 cy f (nxt n i)) (v3) ?_
                refine lv_iconst (v := 4) hx hb dX11_distance_146 rfl ?_
                obtain ⟨hPc, hDc, hFc⟩ := zo_sub (wc := [_, _]) hP hD hS hA [0, 5] rfl rfl
                refine zcall (st1 := []) (va_runV (As := [.ref (a 32), .int (cF40 cx f (nxt n i)), .int (cF40 cy f (nxt n i)), .int 4]) (rest := []) ⟨hx, hb, hml, hown, hts⟩ (k_M_nearer l dC dI cI cZ cF H.size k0 a I0 (vp_updL (vp_updL J0 48 (jI zu3)) 49 (jI zd3)) 4 (cF40 cx f (nxt n i)) (cF40 cy f (nxt n i)) zu3 zd3 S3 (by first | with_reducible assumption | omega) (hs3) ((hp_f _ hnx).1) ((hp_f _ hnx).2) (hb3_9.1) (hb3_9.2)) (csV_225 hts rfl rfl ⟨Nat.le_of_ble_eq_true rfl, Nat.le_of_ble_eq_true rfl⟩) (zPV2 (q0 := 0) (ci := 9) hPc hDc hK hXN rfl rfl) rfl rfl hl.1 rfl (lv_room (Nat.le_of_ble_eq_true rfl)) dX11_distance_147 ⟨Nat.le_of_ble_eq_true rfl, Nat.le_of_ble_eq_true rfl⟩) hS hFc hFc rfl (fun t H locs ht hB hk1 hS => ?_)
                obtain ⟨zu4, zd4, hnd4, hP1, hD1⟩ := hB
                rw [ht] at hP1
                obtain ⟨hP, hD⟩ := zn (W2 := [(om k0 a I0 (vp_updL (vp_updL J0 48 (jI zu4)) 49 (jI zd4))), _, _, _, _, _]) hP hD hk1 hFc hP1 hD1 [0, 5] [false, true, true, true, true] [false, true, true, true, true, false] [0, 5] (by decide +kernel) rfl rfl rfl rfl rfl
                clear hk1 hPc hDc hFc hP1 hD1 ht
                have hx4 : ndP zu3 zd3 (nrU (S3 4).toInt (S3 5).toInt (S3 6).toInt (S3 7).toInt (cF40 cx f (nxt n i)).toInt (cF40 cy f (nxt n i)).toInt) (nrD (S3 4).toInt (S3 5).toInt (S3 6).toInt (S3 7).toInt (cF40 cx f (nxt n i)).toInt (cF40 cy f (nxt n i)).toInt) zu4 zd4 := hnd4
                rw [v4, v5, v6, v7] at hx4
                have hb4_9 := ndP_b hb3_9.1 hb3_9.2 (nrU_b (hp_g k hjm).1 (hp_g k hjm).2 (hp_g _ hnj).1 (hp_g _ hnj).2 (hp_f _ hnx).1 (hp_f _ hnx).2) hx4
                refine lv_iinc (v := nI (k + 1)) (lv' := [(4, .int (nI (k + 1))), (3, .int (nI i)), (0, .ref k0), (1, .int (nI f)), (2, .int (nI g))]) hx hb dX11_distance_150 hl (k := 0) rfl (nI_add k 1) (Nat.le_of_ble_eq_true rfl) rfl (fun ls hl => ?_)
                refine lv_goto (tgt := 46) hx hb dX11_distance_153 rfl ?_
                exact ih_46 (k + 1) S3 zu4 zd4 H locs ls (by first | with_reducible assumption | omega) (by first | with_reducible assumption | omega) (by rw [ur _ (by first | with_reducible assumption | omega)]; exact g0) (by rw [ur _ (by first | with_reducible assumption | omega)]; exact g1) (by rw [ur _ (by first | with_reducible assumption | omega)]; exact g2) (by rw [ur _ (by first | with_reducible assumption | omega)]; exact g3) (dcP_s hp_f hp_g hin9 hjm heg him2 hx1 hx2 hx3 hx4) (hb4_9) hP hD hS (lv_sub hl [0, 1, 2, 3, 4] rfl)
          exact hl_46 _ 0 S2 u d H locs ls (Nat.lt_succ_self _) (by first | with_reducible assumption | omega) (by first | with_reducible assumption | assumption) (by first | with_reducible assumption | assumption) (by first | with_reducible assumption | assumption) (by first | with_reducible assumption | assumption) (him) (hud) hP hD hS (lv_sub hl [0, 1, 2, 3, 4] rfl)
    exact hl_27 _ 0 q_1 ((0 : Nat) : Int) ((0 : Nat) : Int) H locs ls (Nat.lt_succ_self _) (by first | with_reducible assumption | omega) (dcP_0 _ _ _ _ _ _ _) (by first | with_reducible assumption | omega) hP hD hS (lv_sub hl [0, 1, 2, 3] rfl)
  · have c_2 : mtF (kd f).toInt n (cF40 cx f) (cF40 cy f) (kd g).toInt m2 (cF40 cx g) (cF40 cy g) := zp_1 c_2
    refine lv_aload_n hx hb dX11_distance_19 rfl (lv_at hl 0 rfl) ?_
    refine lv_lconst (v := 1) hx hb dX11_distance_20 rfl ?_
    refine zz_l (v := jI ((1 : Nat) : Int)) (jI_1) ?_
    refine va_put (D := (dC, dI)) (ci := 9) (v := .long (jI ((1 : Nat) : Int))) (ty := .long) (C := RX11) (T := TX11) (N := 55) hx hb hts inX11 tyX11 tyX11_ok nmX11 hown hK hP hD hS 0 rfl rfl 49 (by decide) (hts _ mw_1208) (fun _ h9 => h9) rfl (by decide +kernel) rfl rfl (Nat.le_of_ble_eq_true rfl) dX11_distance_21 (fun H locs hP hD hS => ?_)
    obtain ⟨hP, hD⟩ := zre (W2 := [(om k0 a I0 (vp_updL (vp_updL J0 48 (jI ((0 : Nat) : Int))) 49 (jI ((1 : Nat) : Int)))), _, _, _, _, _]) hP hD rfl
    obtain ⟨hP9, hD9⟩ := zu_sub (wc := [_, _, _, _, _, _]) hP hD [true, true, true, true, true, true] rfl rfl
    rw [hQ9]
    exact W.vret hx hb hr (fun t ht hW => ⟨⟨rfl, 0, 1, q_1, (fun c9 hc9 => ⟨fun h9 => (by exfalso; have e9 : c9 * ((1 : Nat) : Int) = c9 := Int.mul_one c9; omega), fun h9 => absurd (by first | with_reducible assumption | assumption) h9.1⟩), (by omega), by rw [ht]; exact hP9, hD9⟩, hS.F ht⟩) hS.2.2 dX11_distance_24
end
section
set_option maxHeartbeats 4000000 in
set_option maxRecDepth 100000 in
theorem k_M_join_7 (l : Launch) (dC : Nat → ClassId) (dI : Nat → Nat → Nat) (cI cZ cF : ClassId) (sz : Nat) (k0 : Nat) (a : Nat → Nat) (I0 : Nat → Int32) (J0 : Nat → Int64) (f : Nat) (n : Nat) (g : Nat) (m2 : Nat) (ft : Nat) (gp9 : Int32) (st : Nat → Int32) (tn : Nat → Int32) (kd : Nat → Int32) (mn : Nat → Int32) (cx : Nat → Int32) (cy : Nat → Int32) (S0 : Nat → Int32) (hft : I0 0 = nI ft) (h200 : ft ≤ 200) (hf_f : f ≤ 200) (hm_f : mn f = nI n) (hn_f : 1 ≤ n ∧ n ≤ 40) (hp_f : pls n (cF40 cx f) (cF40 cy f)) (hf_g : g ≤ 200) (hm_g : mn g = nI m2) (hn_g : 1 ≤ m2 ∧ m2 ≤ 40) (hp_g : pls m2 (cF40 cx g) (cF40 cy g)) (hf_t : f < ft) (hg_t : g < ft) (hok : ((st f).toInt = 1 ∧ (st g).toInt = 1) ∧ ((kd f).toInt = 6 ∧ (kd g).toInt = 6) ∧ (0 ≤ gp9.toInt ∧ gp9.toInt ≤ 1000) ∧ ((tn f).toInt = 0 ∧ (tn g).toInt = 0)) (he_f : 1 ≤ eO (kd f).toInt n) (he_g : 1 ≤ eO (kd g).toInt m2) (hwf : ∀ q, lvF ft st tn q → wfM mn cx cy q) (hnf : ¬ (¬ mtF (kd f).toInt n (cF40 cx f) (cF40 cy f) (kd g).toInt m2 (cF40 cx g) (cF40 cy g) ∧ ∀ u d : Nat, 1 ≤ d → IM (dcP n (cF40 cx f) (cF40 cy f) m2 (cF40 cx g) (cF40 cy g) (eO (kd g).toInt m2) (eO (kd f).toInt n) 0) ((u : Nat) : Int) ((d : Nat) : Int) → gp9.toInt * gp9.toInt * ((d : Nat) : Int) < ((u : Nat) : Int))) (hno : ¬ jFr ft st tn (upd kd 200 6) (upd mn 200 4) (bxX 200 ((jlo cx f n g m2)) ((jhi cx f n g m2)) 4 cx) (bxY 200 ((jlo cy f n g m2)) ((jhi cy f n g m2)) 4 cy) f g ft) : zM l yX11_join cX11_join 9 (some .int) ({ frames := 5, cells := 0, slots := 0, locals := 129 } : Room) [.ref k0, .int (nI f), .int (nI g), .int gp9] (dC, dI) (zTy cI cZ cF) [(om k0 a I0 J0), (oa (a 5) cI 201 st), (oa (a 6) cZ 201 tn), (oa (a 1) cI 201 kd), (oa (a 11) cI 201 mn), (oa (a 12) cI 8040 cx), (oa (a 13) cI 8040 cy), (oa (a 32) cI 8 S0)] sz (some (.int (-1))) (fun A t => ∃ (uq : Nat), ∃ (dq : Nat), ∃ (S1 : Nat → Int32), ∃ (x1 : Int32), ∃ (x2 : Int32), ∃ (x3 : Int32), ∃ (x4 : Int32), (x1 = jlo cx f n g m2) ∧ (x2 = jlo cy f n g m2) ∧ (x3 = jhi cx f n g m2) ∧ (x4 = jhi cy f n g m2) ∧ zPD (dC, dI) classes A [(om k0 a (upd (upd (upd (upd (upd (upd I0 14 7) 15 (I0 15 + 1)) 44 x1) 45 x2) 46 x3) 47 x4) (vp_updL (vp_updL J0 48 (jI ((uq : Nat) : Int))) 49 (jI ((dq : Nat) : Int)))), (oa (a 5) cI 201 st), (oa (a 6) cZ 201 tn), (oa (a 1) cI 201 (upd kd 200 6)), (oa (a 11) cI 201 (upd mn 200 4)), (oa (a 12) cI 8040 (bxX 200 (x1) (x3) 4 cx)), (oa (a 13) cI 8040 (bxY 200 (x2) (x4) 4 cy)), (oa (a 32) cI 8 S1)] t.heap) 0 0 := by
  refine zIn (own := "ScaleShopModel") (loc := [(0, .ref k0), (1, .int (nI f)), (2, .int (nI g)), (3, .int gp9)]) rfl rfl rfl rfl (fun p e s m below meth c hx hb hr hts hown hlocks hml hnm9 A hA hS hP hD hK hXN Q9 hQ9 ls hl => ?_)
  refine lv_aload_n hx hb dX11_join_0 rfl (lv_at hl 0 rfl) ?_
  refine lv_iload_n hx hb dX11_join_1 rfl (lv_at hl 1 rfl) ?_
  obtain ⟨hPc, hDc, hFc, hI1⟩ := zi_sub (wc := [_]) hP hD hS hA [0] rfl rfl
  refine zcall (st1 := [.int (pI (f < ft))]) (va_runV (As := [.int (nI f)]) (rest := []) ⟨hx, hb, hml, hown, hts⟩ (k_M_isFeature_n l dC dI cI cZ cF s.heap.size k0 a I0 J0 f ft (by first | with_reducible assumption | assumption) (by first | with_reducible assumption | omega) (by first | with_reducible assumption | omega)) (csV_178 hts rfl rfl ⟨Nat.le_of_ble_eq_true rfl, Nat.le_of_ble_eq_true rfl⟩) (zPV2 (q0 := 0) (ci := 9) hPc hDc hK hXN rfl rfl) rfl rfl hl.1 rfl (lv_room (Nat.le_of_ble_eq_true rfl)) dX11_join_2 ⟨Nat.le_of_ble_eq_true rfl, Nat.le_of_ble_eq_true rfl⟩) hS hFc hFc rfl (fun t H locs ht hB hk1 hS => ?_)
  obtain ⟨hP1, hD1⟩ := hB
  rw [ht] at hP1
  replace hP := z0 hP hD hk1 hP1 hI1
  clear hk1 hPc hDc hFc hP1 hD1 ht hI1
  refine lv_if_eq (tgt := 16) hx hb dX11_join_5 rfl (fun c_1 => ?_) (fun c_1 => ?_)
  · have c_1 : ¬ (f < ft) := zp_0 c_1
    exfalso; omega
  · have c_1 : f < ft := zp_1 c_1
    refine lv_aload_n hx hb dX11_join_8 rfl (lv_at hl 0 rfl) ?_
    refine lv_iload_n hx hb dX11_join_9 rfl (lv_at hl 2 rfl) ?_
    obtain ⟨hPc, hDc, hFc, hI1⟩ := zi_sub (wc := [_]) hP hD hS hA [0] rfl rfl
    refine zcall (st1 := [.int (pI (g < ft))]) (va_runV (As := [.int (nI g)]) (rest := []) ⟨hx, hb, hml, hown, hts⟩ (k_M_isFeature_n l dC dI cI cZ cF H.size k0 a I0 J0 g ft (by first | with_reducible assumption | assumption) (by first | with_reducible assumption | omega) (by first | with_reducible assumption | omega)) (csV_178 hts rfl rfl ⟨Nat.le_of_ble_eq_true rfl, Nat.le_of_ble_eq_true rfl⟩) (zPV2 (q0 := 0) (ci := 9) hPc hDc hK hXN rfl rfl) rfl rfl hl.1 rfl (lv_room (Nat.le_of_ble_eq_true rfl)) dX11_join_10 ⟨Nat.le_of_ble_eq_true rfl, Nat.le_of_ble_eq_true rfl⟩) hS hFc hFc rfl (fun t H locs ht hB hk1 hS => ?_)
    obtain ⟨hP1, hD1⟩ := hB
    rw [ht] at hP1
    replace hP := z0 hP hD hk1 hP1 hI1
    clear hk1 hPc hDc hFc hP1 hD1 ht hI1
    refine lv_if_ne (tgt := 20) hx hb dX11_join_13 rfl (fun c_2 => ?_) (fun c_2 => ?_)
    · have c_2 : g < ft := zp_1 c_2
      refine lv_aload_n hx hb dX11_join_20 rfl (lv_at hl 0 rfl) ?_
      refine va_get (D := (dC, dI)) (ci := 9) (v := .ref (a 5)) (C := RX11) (T := TX11) (N := 55) hx hb hts inX11 hown hK hP 0 rfl rfl 5 (Nat.le_of_ble_eq_true rfl) (hts _ mw_1164) (fun _ h9 => h9) rfl dX11_join_21 ?_
      refine lv_iload_n hx hb dX11_join_24 rfl (lv_at hl 1 rfl) ?_
      have b9_3 : f < 201 := by omega
      refine z_iald hx hb hK hP 1 0 rfl rfl (e := f) rfl b9_3 (Nat.le_of_ble_eq_true rfl) dX11_join_25 ?_
      refine lv_iconst (v := 1) hx hb dX11_join_26 rfl ?_
      refine lv_icmp_ne (tgt := 40) hx hb dX11_join_27 rfl (fun c_4 => ?_) (fun c_4 => ?_)
      · have c_4 : ¬ (st f).toInt = 1 := zc_ne rfl rfl c_4
        exfalso; omega
      · have c_4 : (st f).toInt = 1 := zc_eq rfl rfl c_4
        refine lv_aload_n hx hb dX11_join_30 rfl (lv_at hl 0 rfl) ?_
        refine va_get (D := (dC, dI)) (ci := 9) (v := .ref (a 5)) (C := RX11) (T := TX11) (N := 55) hx hb hts inX11 hown hK hP 0 rfl rfl 5 (Nat.le_of_ble_eq_true rfl) (hts _ mw_1164) (fun _ h9 => h9) rfl dX11_join_31 ?_
        refine lv_iload_n hx hb dX11_join_34 rfl (lv_at hl 2 rfl) ?_
        have b9_5 : g < 201 := by omega
        refine z_iald hx hb hK hP 1 0 rfl rfl (e := g) rfl b9_5 (Nat.le_of_ble_eq_true rfl) dX11_join_35 ?_
        refine lv_iconst (v := 1) hx hb dX11_join_36 rfl ?_
        refine lv_icmp_eq (tgt := 44) hx hb dX11_join_37 rfl (fun c_6 => ?_) (fun c_6 => ?_)
        · have c_6 : (st g).toInt = 1 := zc_eq rfl rfl c_6
          refine lv_iconst (v := 0) hx hb dX11_join_44 rfl ?_
          refine lv_istore (lv' := [(4, .int 0), (0, .ref k0), (1, .int (nI f)), (2, .int (nI g)), (3, .int gp9)]) hx hb dX11_join_45 hl (Nat.le_of_ble_eq_true rfl) rfl (fun ls hl => ?_)
          refine lv_iload hx hb dX11_join_47 (lv_at hl 0 rfl) ?_
          refine lv_if_le (tgt := 57) hx hb dX11_join_49 rfl (fun c_7 => ?_) (fun c_7 => ?_)
          · refine lv_aload_n hx hb dX11_join_57 rfl (lv_at hl 1 rfl) ?_
            refine va_get (D := (dC, dI)) (ci := 9) (v := .ref (a 1)) (C := RX11) (T := TX11) (N := 55) hx hb hts inX11 hown hK hP 0 rfl rfl 1 (Nat.le_of_ble_eq_true rfl) (hts _ mw_1160) (fun _ h9 => h9) rfl dX11_join_58 ?_
            refine lv_iload_n hx hb dX11_join_61 rfl (lv_at hl 2 rfl) ?_
            refine z_iald hx hb hK hP 3 0 rfl rfl (e := f) rfl b9_3 (Nat.le_of_ble_eq_true rfl) dX11_join_62 ?_
            refine lv_bipush (v := 6) hx hb dX11_join_63 rfl ?_
            refine lv_icmp_ne (tgt := 79) hx hb dX11_join_65 rfl (fun c_8 => ?_) (fun c_8 => ?_)
            · have c_8 : ¬ (kd f).toInt = 6 := zc_ne rfl rfl c_8
              exfalso; omega
            · have c_8 : (kd f).toInt = 6 := zc_eq rfl rfl c_8
              refine lv_aload_n hx hb dX11_join_68 rfl (lv_at hl 1 rfl) ?_
              refine va_get (D := (dC, dI)) (ci := 9) (v := .ref (a 1)) (C := RX11) (T := TX11) (N := 55) hx hb hts inX11 hown hK hP 0 rfl rfl 1 (Nat.le_of_ble_eq_true rfl) (hts _ mw_1160) (fun _ h9 => h9) rfl dX11_join_69 ?_
              refine lv_iload_n hx hb dX11_join_72 rfl (lv_at hl 3 rfl) ?_
              refine z_iald hx hb hK hP 3 0 rfl rfl (e := g) rfl b9_5 (Nat.le_of_ble_eq_true rfl) dX11_join_73 ?_
              refine lv_bipush (v := 6) hx hb dX11_join_74 rfl ?_
              refine lv_icmp_eq (tgt := 83) hx hb dX11_join_76 rfl (fun c_9 => ?_) (fun c_9 => ?_)
              · have c_9 : (kd g).toInt = 6 := zc_eq rfl rfl c_9
                refine lv_iload_n hx hb dX11_join_83 rfl (lv_at hl 4 rfl) ?_
                refine lv_if_lt (tgt := 94) hx hb dX11_join_84 rfl (fun c_10 => ?_) (fun c_10 => ?_)
                · have c_10 : gp9.toInt < 0 := zc_lt rfl rfl c_10
                  exfalso; omega
                · have c_10 : 0 ≤ gp9.toInt := zc_nlt rfl rfl c_10
                  refine lv_iload_n hx hb dX11_join_87 rfl (lv_at hl 4 rfl) ?_
                  refine lv_sipush (v := 1000) hx hb dX11_join_88 rfl ?_
                  refine lv_icmp_le (tgt := 98) hx hb dX11_join_91 rfl (fun c_11 => ?_) (fun c_11 => ?_)
                  · have c_11 : gp9.toInt ≤ 1000 := zc_le rfl rfl c_11
                    refine lv_aload_n hx hb dX11_join_98 rfl (lv_at hl 1 rfl) ?_
                    refine va_get (D := (dC, dI)) (ci := 9) (v := .ref (a 6)) (C := RX11) (T := TX11) (N := 55) hx hb hts inX11 hown hK hP 0 rfl rfl 6 (Nat.le_of_ble_eq_true rfl) (hts _ mw_1165) (fun _ h9 => h9) rfl dX11_join_99 ?_
                    refine lv_iload_n hx hb dX11_join_102 rfl (lv_at hl 2 rfl) ?_
                    refine z_zald hx hb hK hP 2 1 rfl rfl (e := f) rfl b9_3 (Nat.le_of_ble_eq_true rfl) dX11_join_103 ?_
                    refine lv_if_ne (tgt := 116) hx hb dX11_join_104 rfl (fun c_12 => ?_) (fun c_12 => ?_)
                    · have c_12 : ¬ (tn f).toInt = 0 := zc_ne rfl rfl c_12
                      exfalso; omega
                    · have c_12 : (tn f).toInt = 0 := zc_eq rfl rfl c_12
                      refine lv_aload_n hx hb dX11_join_107 rfl (lv_at hl 1 rfl) ?_
                      refine va_get (D := (dC, dI)) (ci := 9) (v := .ref (a 6)) (C := RX11) (T := TX11) (N := 55) hx hb hts inX11 hown hK hP 0 rfl rfl 6 (Nat.le_of_ble_eq_true rfl) (hts _ mw_1165) (fun _ h9 => h9) rfl dX11_join_108 ?_
                      refine lv_iload_n hx hb dX11_join_111 rfl (lv_at hl 3 rfl) ?_
                      refine z_zald hx hb hK hP 2 1 rfl rfl (e := g) rfl b9_5 (Nat.le_of_ble_eq_true rfl) dX11_join_112 ?_
                      refine lv_if_eq (tgt := 120) hx hb dX11_join_113 rfl (fun c_13 => ?_) (fun c_13 => ?_)
                      · have c_13 : (tn g).toInt = 0 := zc_eq rfl rfl c_13
                        refine lv_iconst (v := 0) hx hb dX11_join_120 rfl ?_
                        refine lv_istore (lv' := [(4, .int 0), (0, .ref k0), (1, .int (nI f)), (2, .int (nI g)), (3, .int gp9)]) hx hb dX11_join_121 hl (Nat.le_of_ble_eq_true rfl) rfl (fun ls hl => ?_)
                        refine lv_iload hx hb dX11_join_123 (lv_at hl 0 rfl) ?_
                        refine lv_if_le (tgt := 135) hx hb dX11_join_125 rfl (fun c_14 => ?_) (fun c_14 => ?_)
                        · refine lv_aload_n hx hb dX11_join_135 rfl (lv_at hl 1 rfl) ?_
                          refine lv_iload_n hx hb dX11_join_136 rfl (lv_at hl 2 rfl) ?_
                          refine lv_iload_n hx hb dX11_join_137 rfl (lv_at hl 3 rfl) ?_
                          obtain ⟨hPc, hDc, hFc⟩ := zo_sub (wc := [_, _, _, _, _, _]) hP hD hS hA [0, 3, 4, 5, 6, 7] (by decide +kernel) rfl
                          refine zcall (st1 := []) (va_runV (As := [.int (nI f), .int (nI g)]) (rest := []) ⟨hx, hb, hml, hown, hts⟩ (k_M_distance_a l dC dI cI cZ cF H.size k0 a I0 J0 f n g m2 kd mn cx cy S0 (by first | with_reducible assumption | omega) (by first | with_reducible assumption | assumption) (by first | with_reducible assumption | omega) (by first | with_reducible assumption | assumption) (by first | with_reducible assumption | omega) (by first | with_reducible assumption | assumption) (by first | with_reducible assumption | omega) (by first | with_reducible assumption | assumption) (he_f) (he_g)) (csV_226 hts rfl rfl ⟨Nat.le_of_ble_eq_true rfl, Nat.le_of_ble_eq_true rfl⟩) (zPV2 (q0 := 0) (ci := 9) hPc hDc hK hXN rfl rfl) rfl rfl hl.1 rfl (lv_room (Nat.le_of_ble_eq_true rfl)) dX11_join_138 ⟨Nat.le_of_ble_eq_true rfl, Nat.le_of_ble_eq_true rfl⟩) hS hFc hFc rfl (fun t H locs ht hB hk1 hS => ?_)
                          obtain ⟨uq, dq, S2, hfr, hub, hP1, hD1⟩ := hB
                          rw [ht] at hP1
                          obtain ⟨hP, hD⟩ := zn (W2 := [(om k0 a I0 (vp_updL (vp_updL J0 48 (jI ((uq : Nat) : Int))) 49 (jI ((dq : Nat) : Int)))), _, _, _, _, _, _, (oa (a 32) cI 8 S2)]) hP hD hk1 hFc hP1 hD1 [0, 3, 4, 5, 6, 7] [false, true, true] zl_146 [0, 3, 4, 5, 6, 7] (by decide +kernel) rfl rfl rfl rfl rfl
                          clear hk1 hPc hDc hFc hP1 hD1 ht
                          have hgb := gpB9 (g := gp9) (D := dq) hok.2.2.1 (by omega)
                          have hf9 := hfr (gp9.toInt * gp9.toInt) (by omega)
                          refine lv_aload_n hx hb dX11_join_141 rfl (lv_at hl 1 rfl) ?_
                          refine va_get (D := (dC, dI)) (ci := 9) (v := .long (jI ((uq : Nat) : Int))) (C := RX11) (T := TX11) (N := 55) hx hb hts inX11 hown hK hP 0 rfl rfl 48 (Nat.le_of_ble_eq_true rfl) (hts _ mw_1207) (fun _ h9 => h9) rfl dX11_join_142 ?_
                          refine lv_iload_n hx hb dX11_join_145 rfl (lv_at hl 4 rfl) ?_
                          refine lv_i2l (v := gp9.toInt64) hx hb dX11_join_146 (rfl) ?_
                          refine lv_iload_n hx hb dX11_join_147 rfl (lv_at hl 4 rfl) ?_
                          refine lv_i2l (v := gp9.toInt64) hx hb dX11_join_148 (rfl) ?_
                          refine lv_lmul hx hb dX11_join_149 ?_
                          refine lv_aload_n hx hb dX11_join_150 rfl (lv_at hl 1 rfl) ?_
                          refine va_get (D := (dC, dI)) (ci := 9) (v := .long (jI ((dq : Nat) : Int))) (C := RX11) (T := TX11) (N := 55) hx hb hts inX11 hown hK hP 0 rfl rfl 49 (Nat.le_of_ble_eq_true rfl) (hts _ mw_1208) (fun _ h9 => h9) rfl dX11_join_151 ?_
                          refine lv_lmul hx hb dX11_join_154 ?_
                          refine zz_l (v := jI (gp9.toInt * gp9.toInt * ((dq : Nat) : Int))) (gpL hok.2.2.1 (by omega)) ?_
                          refine W.lcmp hx hb dX11_join_155 ?_
                          refine lv_if_le (tgt := 165) hx hb dX11_join_156 rfl (fun c_15 => ?_) (fun c_15 => ?_)
                          · have c_15 : ((uq : Nat) : Int) ≤ (gp9.toInt * gp9.toInt * ((dq : Nat) : Int)) := zl_le (jI_toInt (by omega)) (jI_toInt (by omega)) c_15
                            refine lv_aload_n hx hb dX11_join_165 rfl (lv_at hl 1 rfl) ?_
                            refine lv_iload_n hx hb dX11_join_166 rfl (lv_at hl 2 rfl) ?_
                            refine lv_iconst (v := 1) hx hb dX11_join_167 rfl ?_
                            obtain ⟨hPc, hDc, hFc⟩ := zo_sub (wc := [_, _, _, _]) hP hD hS hA [0, 4, 5, 6] (by decide +kernel) rfl
                            refine zcall (st1 := []) (va_runV (As := [.int (nI f), .int 1]) (rest := []) ⟨hx, hb, hml, hown, hts⟩ (k_M_box_v l dC dI cI cZ cF H.size k0 a I0 (vp_updL (vp_updL J0 48 (jI ((uq : Nat) : Int))) 49 (jI ((dq : Nat) : Int))) f n mn cx cy (by first | with_reducible assumption | omega) (by first | with_reducible assumption | assumption) (by first | with_reducible assumption | omega) (by first | with_reducible assumption | assumption)) (csV_221 hts rfl rfl ⟨Nat.le_of_ble_eq_true rfl, Nat.le_of_ble_eq_true rfl⟩) (zPV2 (q0 := 0) (ci := 9) hPc hDc hK hXN rfl rfl) rfl rfl hl.1 rfl (lv_room (Nat.le_of_ble_eq_true rfl)) dX11_join_168 ⟨Nat.le_of_ble_eq_true rfl, Nat.le_of_ble_eq_true rfl⟩) hS hFc hFc rfl (fun t H locs ht hB hk1 hS => ?_)
                            obtain ⟨y1, y2, y3, y4, ea1, ea2, ea3, ea4, hP1, hD1⟩ := hB
                            rw [ht] at hP1
                            obtain ⟨hP, hD⟩ := zn (W2 := [(om k0 a (upd (upd (upd (upd I0 44 y1) 45 y2) 46 y3) 47 y4) (vp_updL (vp_updL J0 48 (jI ((uq : Nat) : Int))) 49 (jI ((dq : Nat) : Int)))), _, _, _, _, _, _, _]) hP hD hk1 hFc hP1 hD1 [0, 4, 5, 6] zl_251 zl_251 [0, 4, 5, 6] (by decide +kernel) rfl rfl rfl rfl rfl
                            clear hk1 hPc hDc hFc hP1 hD1 ht
                            refine lv_aload_n hx hb dX11_join_171 rfl (lv_at hl 1 rfl) ?_
                            refine lv_iload_n hx hb dX11_join_172 rfl (lv_at hl 3 rfl) ?_
                            refine lv_iconst (v := 0) hx hb dX11_join_173 rfl ?_
                            obtain ⟨hPc, hDc, hFc⟩ := zo_sub (wc := [_, _, _, _]) hP hD hS hA [0, 4, 5, 6] (by decide +kernel) rfl
                            refine zcall (st1 := []) (va_runV (As := [.int (nI g), .int 0]) (rest := []) ⟨hx, hb, hml, hown, hts⟩ (k_M_box_w l dC dI cI cZ cF H.size k0 a (upd (upd (upd (upd I0 44 y1) 45 y2) 46 y3) 47 y4) (vp_updL (vp_updL J0 48 (jI ((uq : Nat) : Int))) 49 (jI ((dq : Nat) : Int))) g m2 y1 y2 y3 y4 mn cx cy (by first | with_reducible assumption | omega) (by first | with_reducible assumption | assumption) (by first | with_reducible assumption | omega) (by first | with_reducible assumption | assumption)) (csV_221 hts rfl rfl ⟨Nat.le_of_ble_eq_true rfl, Nat.le_of_ble_eq_true rfl⟩) (zPV2 (q0 := 0) (ci := 9) hPc hDc hK hXN rfl rfl) rfl rfl hl.1 rfl (lv_room (Nat.le_of_ble_eq_true rfl)) dX11_join_174 ⟨Nat.le_of_ble_eq_true rfl, Nat.le_of_ble_eq_true rfl⟩) hS hFc hFc rfl (fun t H locs ht hB hk1 hS => ?_)
                            obtain ⟨x1, x2, x3, x4, eb1, eb2, eb3, eb4, hP1, hD1⟩ := hB
                            rw [ht] at hP1
                            obtain ⟨hP, hD⟩ := zn (W2 := [(om k0 a (upd (upd (upd (upd I0 44 x1) 45 x2) 46 x3) 47 x4) (vp_updL (vp_updL J0 48 (jI ((uq : Nat) : Int))) 49 (jI ((dq : Nat) : Int)))), _, _, _, _, _, _, _]) hP hD hk1 hFc hP1 hD1 [0, 4, 5, 6] zl_251 zl_251 [0, 4, 5, 6] (by decide +kernel) rfl rfl rfl rfl rfl
                            clear hk1 hPc hDc hFc hP1 hD1 ht
                            have h0f := hp_f 0 (by omega)
                            unfold pl at h0f
                            have mA := mnP h0f.1 hp_f n (Nat.le_refl _)
                            have mB := mnP h0f.2 hp_f n (Nat.le_refl _)
                            have ej1 : x1 = jlo cx f n g m2 := jlo_e rfl ea1 mA.1 eb1
                            have ej2 : x2 = jlo cy f n g m2 := jlo_e rfl ea2 mB.2.1 eb2
                            have ej3 : x3 = jhi cx f n g m2 := jhi_e rfl ea3 mA.2.2.1 eb3
                            have ej4 : x4 = jhi cy f n g m2 := jhi_e rfl ea4 mB.2.2.2 eb4
                            clear eb1 eb2 eb3 eb4
                            have hjp : pl x1 ∧ pl x3 ∧ pl x2 ∧ pl x4 := (by rw [ej1, ej2, ej3, ej4]; exact jpl hp_f hn_f.1 hp_g)
                            have hno9 : ¬ jFr ft st tn (upd kd 200 6) (upd mn 200 4) (bxX 200 (x1) (x3) 4 cx) (bxY 200 (x2) (x4) 4 cy) f g ft := (by rw [ej1, ej2, ej3, ej4]; exact hno)
                            refine lv_aload_n hx hb dX11_join_177 rfl (lv_at hl 1 rfl) ?_
                            refine va_get (D := (dC, dI)) (ci := 9) (v := .int (I0 0)) (C := RX11) (T := TX11) (N := 55) hx hb hts inX11 hown hK hP 0 rfl rfl 0 (Nat.le_of_ble_eq_true rfl) (hts _ mw_1159) (fun _ h9 => h9) rfl dX11_join_178 ?_
                            refine zz_i (v := nI ft) (hft) ?_
                            refine lv_istore (lv' := [(5, .int (nI ft)), (4, .int 0), (0, .ref k0), (1, .int (nI f)), (2, .int (nI g)), (3, .int gp9)]) hx hb dX11_join_181 hl (Nat.le_of_ble_eq_true rfl) rfl (fun ls hl => ?_)
                            refine lv_aload_n hx hb dX11_join_183 rfl (lv_at hl 2 rfl) ?_
                            refine lv_sipush (v := 200) hx hb dX11_join_184 rfl ?_
                            obtain ⟨hPc, hDc, hFc⟩ := zo_sub (wc := [_, _, _, _, _]) hP hD hS hA [0, 3, 4, 5, 6] (by decide +kernel) rfl
                            refine zcall (st1 := []) (va_runV (As := [.int 200]) (rest := []) ⟨hx, hb, hml, hown, hts⟩ (k_M_layBox l dC dI cI cZ cF H.size k0 a (upd (upd (upd (upd I0 44 x1) 45 x2) 46 x3) 47 x4) (vp_updL (vp_updL J0 48 (jI ((uq : Nat) : Int))) 49 (jI ((dq : Nat) : Int))) 200 kd mn cx cy (by first | with_reducible assumption | omega)) (csV_222 hts rfl rfl ⟨Nat.le_of_ble_eq_true rfl, Nat.le_of_ble_eq_true rfl⟩) (zPV2 (q0 := 0) (ci := 9) hPc hDc hK hXN rfl rfl) rfl rfl hl.1 rfl (lv_room (Nat.le_of_ble_eq_true rfl)) dX11_join_187 ⟨Nat.le_of_ble_eq_true rfl, Nat.le_of_ble_eq_true rfl⟩) hS hFc hFc rfl (fun t H locs ht hB hk1 hS => ?_)
                            obtain ⟨hP1, hD1⟩ := hB
                            rw [ht] at hP1
                            obtain ⟨hP, hD⟩ := zn (W2 := [_, _, _, (oa (a 1) cI 201 (upd kd 200 6)), (oa (a 11) cI 201 (upd mn 200 4)), (oa (a 12) cI 8040 (bxX 200 (x1) (x3) 4 cx)), (oa (a 13) cI 8040 (bxY 200 (x2) (x4) 4 cy)), _]) hP hD hk1 hFc hP1 hD1 [0, 3, 4, 5, 6] zl_252 zl_252 [0, 3, 4, 5, 6] (by decide +kernel) rfl rfl rfl rfl rfl
                            clear hk1 hPc hDc hFc hP1 hD1 ht
                            have hm_b : (upd mn 200 4) 200 = nI 4 := (up_at _ _ _).trans rfl
                            have hp_b : pls 4 (cF40 (bxX 200 (x1) (x3) 4 cx) 200) (cF40 (bxY 200 (x2) (x4) 4 cy) 200) := bx_pls hjp.1 hjp.2.1 hjp.2.2.1 hjp.2.2.2
                            have hwf2 : ∀ q, lvF ft st tn q → wfM (upd mn 200 4) (bxX 200 (x1) (x3) 4 cx) (bxY 200 (x2) (x4) 4 cy) q := fun q h1 => wfM_o (f := 200) (hwf q h1) (by have := h1.1; omega) (fun j hj => if_neg hj) (fun j hj => ⟨bxX_o (by omega), bxY_o (by omega)⟩)
                            refine lv_iconst (v := 1) hx hb dX11_join_190 rfl ?_
                            refine lv_istore (lv' := [(6, .int 1), (5, .int (nI ft)), (4, .int 0), (0, .ref k0), (1, .int (nI f)), (2, .int (nI g)), (3, .int gp9)]) hx hb dX11_join_191 hl (Nat.le_of_ble_eq_true rfl) rfl (fun ls hl => ?_)
                            refine lv_iconst (v := 0) hx hb dX11_join_193 rfl ?_
                            refine lv_istore (lv' := [(7, .int 0), (6, .int 1), (5, .int (nI ft)), (4, .int 0), (0, .ref k0), (1, .int (nI f)), (2, .int (nI g)), (3, .int gp9)]) hx hb dX11_join_194 hl (Nat.le_of_ble_eq_true rfl) rfl (fun ls hl => ?_)
                            have hl_196 : ∀ (n9 : Nat) (q : Nat) (S1 : Nat → Int32) (H : Heap) (locs : List Loc) (ls : Array Slot), ft - q < n9 → (q ≤ ft) → va_P (dC, dI) classes [(om k0 a (upd (upd (upd (upd I0 44 x1) 45 x2) 46 x3) 47 x4) (vp_updL (vp_updL J0 48 (jI ((uq : Nat) : Int))) 49 (jI ((dq : Nat) : Int)))), (oa (a 5) cI 201 st), (oa (a 6) cZ 201 tn), (oa (a 1) cI 201 (upd kd 200 6)), (oa (a 11) cI 201 (upd mn 200 4)), (oa (a 12) cI 8040 (bxX 200 (x1) (x3) 4 cx)), (oa (a 13) cI 8040 (bxY 200 (x2) (x4) 4 cy)), (oa (a 32) cI 8 S1)] H → va_D A [(om k0 a (upd (upd (upd (upd I0 44 x1) 45 x2) 46 x3) 47 x4) (vp_updL (vp_updL J0 48 (jI ((uq : Nat) : Int))) 49 (jI ((dq : Nat) : Int)))), (oa (a 5) cI 201 st), (oa (a 6) cZ 201 tn), (oa (a 1) cI 201 (upd kd 200 6)), (oa (a 11) cI 201 (upd mn 200 4)), (oa (a 12) cI 8040 (bxX 200 (x1) (x3) 4 cx)), (oa (a 13) cI 8040 (bxY 200 (x2) (x4) 4 cy)), (oa (a 32) cI 8 S1)] → va_S A s.heap H locs → lv_has ls 9 [(7, .int (nI q)), (6, .int (pI (jFr ft st tn (upd kd 200 6) (upd mn 200 4) (bxX 200 (x1) (x3) 4 cx) (bxY 200 (x2) (x4) 4 cy) f g q))), (5, .int (nI ft)), (4, .int 0), (0, .ref k0), (1, .int (nI f)), (2, .int (nI g)), (3, .int gp9)] → W p l e ({ frames := 5, cells := 0, slots := 0, locals := 129 } : Room) s m ([.ref k0, .int (nI f), .int (nI g), .int gp9] : List Value).toArray below meth c H locs 0 0 Q9 (F0 m 196 ls []) := by
                              intro n9
                              induction n9 with
                              | zero => intro q S1 H locs ls hm; exact absurd hm (Nat.not_lt_zero _)
                              | succ n9 ih_196 =>
                                intro q S1 H locs ls hm hq hP hD hS hl
                                refine lv_iload hx hb dX11_join_196 (lv_at hl 0 rfl) ?_
                                refine lv_iload hx hb dX11_join_198 (lv_at hl 2 rfl) ?_
                                have b9_17 : zlt (q) := show q < 2147483648 by omega
                                have b9_18 : zlt (ft) := show ft < 2147483648 by omega
                                refine lv_icmp_ge (tgt := 275) hx hb dX11_join_200 rfl (fun c_16 => ?_) (fun c_16 => ?_)
                                · have c_16 : ((ft : Nat) : Int) ≤ ((q : Nat) : Int) := zc_le (nI_toInt b9_18) (nI_toInt b9_17) c_16
                                  have hqe : q = ft := (by omega)
                                  rw [hqe] at hl
                                  refine lv_iload hx hb dX11_join_275 (lv_at hl 1 rfl) ?_
                                  refine lv_if_ne (tgt := 287) hx hb dX11_join_277 rfl (fun c_19 => ?_) (fun c_19 => ?_)
                                  · have c_19 : jFr ft st tn (upd kd 200 6) (upd mn 200 4) (bxX 200 (x1) (x3) 4 cx) (bxY 200 (x2) (x4) 4 cy) f g ft := zp_1 c_19
                                    exfalso; exact absurd (by first | with_reducible assumption | assumption) hno9
                                  · have c_19 : ¬ (jFr ft st tn (upd kd 200 6) (upd mn 200 4) (bxX 200 (x1) (x3) 4 cx) (bxY 200 (x2) (x4) 4 cy) f g ft) := zp_0 c_19
                                    refine lv_aload_n hx hb dX11_join_280 rfl (lv_at hl 4 rfl) ?_
                                    refine lv_bipush (v := 7) hx hb dX11_join_281 rfl ?_
                                    obtain ⟨hPc, hDc, hFc⟩ := zo_sub (wc := [_]) hP hD hS hA [0] rfl rfl
                                    refine zcall (st1 := [.int (-1)]) (va_runV (As := [.int 7]) (rest := []) ⟨hx, hb, hml, hown, hts⟩ (k_M_refuse_7 l dC dI cI cZ cF H.size k0 a (upd (upd (upd (upd I0 44 x1) 45 x2) 46 x3) 47 x4) (vp_updL (vp_updL J0 48 (jI ((uq : Nat) : Int))) 49 (jI ((dq : Nat) : Int))) ) (csV_185 hts rfl rfl ⟨Nat.le_of_ble_eq_true rfl, Nat.le_of_ble_eq_true rfl⟩) (zPV2 (q0 := 0) (ci := 9) hPc hDc hK hXN rfl rfl) rfl rfl hl.1 rfl (lv_room (Nat.le_of_ble_eq_true rfl)) dX11_join_283 ⟨Nat.le_of_ble_eq_true rfl, Nat.le_of_ble_eq_true rfl⟩) hS hFc hFc rfl (fun t H locs ht hB hk1 hS => ?_)
                                    obtain ⟨hP1, hD1⟩ := hB
                                    rw [ht] at hP1
                                    obtain ⟨hP, hD⟩ := zn (W2 := [(om k0 a (upd (upd (upd (upd (upd (upd I0 14 7) 15 (I0 15 + 1)) 44 x1) 45 x2) 46 x3) 47 x4) (vp_updL (vp_updL J0 48 (jI ((uq : Nat) : Int))) 49 (jI ((dq : Nat) : Int)))), _, _, _, _, _, _, _]) hP hD hk1 hFc hP1 hD1 [0] zl_54 zl_54 [0] (by decide +kernel) rfl rfl rfl rfl rfl
                                    clear hk1 hPc hDc hFc hP1 hD1 ht
                                    obtain ⟨hP9, hD9⟩ := zu_sub (wc := [_, _, _, _, _, _, _, _]) hP hD [true, true, true, true, true, true, true, true] rfl rfl
                                    rw [hQ9]
                                    exact W.iret (v := (-1)) hx hb hr (fun t ht hW => ⟨⟨rfl, uq, dq, S1, x1, x2, x3, x4, (ej1), (ej2), (ej3), (ej4), by rw [ht]; exact hP9, hD9⟩, hS.F ht⟩) hS.2.2 dX11_join_286
                                · have c_16 : ((q : Nat) : Int) < ((ft : Nat) : Int) := zc_nle (nI_toInt b9_18) (nI_toInt b9_17) c_16
                                  refine lv_iload hx hb dX11_join_203 (lv_at hl 0 rfl) ?_
                                  refine lv_iload_n hx hb dX11_join_205 rfl (lv_at hl 5 rfl) ?_
                                  have b9_21 : zlt (f) := show f < 2147483648 by omega
                                  refine lv_icmp_eq (tgt := 269) hx hb dX11_join_206 rfl (fun c_20 => ?_) (fun c_20 => ?_)
                                  · have c_20 : ((q : Nat) : Int) = ((f : Nat) : Int) := zc_eq (nI_toInt b9_17) (nI_toInt b9_21) c_20
                                    refine lv_iinc (v := nI (q + 1)) (lv' := [(7, .int (nI (q + 1))), (6, .int (pI (jFr ft st tn (upd kd 200 6) (upd mn 200 4) (bxX 200 (x1) (x3) 4 cx) (bxY 200 (x2) (x4) 4 cy) f g q))), (5, .int (nI ft)), (4, .int 0), (0, .ref k0), (1, .int (nI f)), (2, .int (nI g)), (3, .int gp9)]) hx hb dX11_join_269 hl (k := 0) rfl (nI_add q 1) (Nat.le_of_ble_eq_true rfl) rfl (fun ls hl => ?_)
                                    refine lv_goto (tgt := 196) hx hb dX11_join_272 rfl ?_
                                    have hl9 := lv_sub hl [0, 1, 2, 3, 4, 5, 6, 7] rfl
                                    have e9_6 : pI (jFr ft st tn (upd kd 200 6) (upd mn 200 4) (bxX 200 (x1) (x3) 4 cx) (bxY 200 (x2) (x4) 4 cy) f g (q + 1)) = (pI (jFr ft st tn (upd kd 200 6) (upd mn 200 4) (bxX 200 (x1) (x3) 4 cx) (bxY 200 (x2) (x4) 4 cy) f g q) : Int32) := by first | exact zp_iff (jF_y (fun h1 h2 h3 => ⟨by assumption, by assumption⟩)) | exact zp_f (jF_n (by omega) (by omega) (by first | with_reducible assumption | assumption) (by first | exact Or.inl (by first | with_reducible assumption | assumption) | exact Or.inr (by first | with_reducible assumption | assumption))) | exact zp_iff (jF_y (fun h1 h2 h3 => by first | (exfalso; omega) | exact absurd h3 (by first | with_reducible assumption | assumption)))
                                    have hl9 : lv_has ls 9 [(7, .int (nI (q + 1))), (6, .int (pI (jFr ft st tn (upd kd 200 6) (upd mn 200 4) (bxX 200 (x1) (x3) 4 cx) (bxY 200 (x2) (x4) 4 cy) f g (q + 1)))), (5, .int (nI ft)), (4, .int 0), (0, .ref k0), (1, .int (nI f)), (2, .int (nI g)), (3, .int gp9)] := by rw [e9_6]; exact hl9
                                    exact ih_196 (q + 1) S1 H locs ls (by first | with_reducible assumption | omega) (by first | with_reducible assumption | omega) hP hD hS hl9
                                  · have c_20 : ¬ ((q : Nat) : Int) = ((f : Nat) : Int) := zc_ne (nI_toInt b9_17) (nI_toInt b9_21) c_20
                                    refine lv_iload hx hb dX11_join_209 (lv_at hl 0 rfl) ?_
                                    refine lv_iload_n hx hb dX11_join_211 rfl (lv_at hl 6 rfl) ?_
                                    have b9_23 : zlt (g) := show g < 2147483648 by omega
                                    refine lv_icmp_eq (tgt := 269) hx hb dX11_join_212 rfl (fun c_22 => ?_) (fun c_22 => ?_)
                                    · have c_22 : ((q : Nat) : Int) = ((g : Nat) : Int) := zc_eq (nI_toInt b9_17) (nI_toInt b9_23) c_22
                                      refine lv_iinc (v := nI (q + 1)) (lv' := [(7, .int (nI (q + 1))), (6, .int (pI (jFr ft st tn (upd kd 200 6) (upd mn 200 4) (bxX 200 (x1) (x3) 4 cx) (bxY 200 (x2) (x4) 4 cy) f g q))), (5, .int (nI ft)), (4, .int 0), (0, .ref k0), (1, .int (nI f)), (2, .int (nI g)), (3, .int gp9)]) hx hb dX11_join_269 hl (k := 0) rfl (nI_add q 1) (Nat.le_of_ble_eq_true rfl) rfl (fun ls hl => ?_)
                                      refine lv_goto (tgt := 196) hx hb dX11_join_272 rfl ?_
                                      have hl9 := lv_sub hl [0, 1, 2, 3, 4, 5, 6, 7] rfl
                                      have e9_6 : pI (jFr ft st tn (upd kd 200 6) (upd mn 200 4) (bxX 200 (x1) (x3) 4 cx) (bxY 200 (x2) (x4) 4 cy) f g (q + 1)) = (pI (jFr ft st tn (upd kd 200 6) (upd mn 200 4) (bxX 200 (x1) (x3) 4 cx) (bxY 200 (x2) (x4) 4 cy) f g q) : Int32) := by first | exact zp_iff (jF_y (fun h1 h2 h3 => ⟨by assumption, by assumption⟩)) | exact zp_f (jF_n (by omega) (by omega) (by first | with_reducible assumption | assumption) (by first | exact Or.inl (by first | with_reducible assumption | assumption) | exact Or.inr (by first | with_reducible assumption | assumption))) | exact zp_iff (jF_y (fun h1 h2 h3 => by first | (exfalso; omega) | exact absurd h3 (by first | with_reducible assumption | assumption)))
                                      have hl9 : lv_has ls 9 [(7, .int (nI (q + 1))), (6, .int (pI (jFr ft st tn (upd kd 200 6) (upd mn 200 4) (bxX 200 (x1) (x3) 4 cx) (bxY 200 (x2) (x4) 4 cy) f g (q + 1)))), (5, .int (nI ft)), (4, .int 0), (0, .ref k0), (1, .int (nI f)), (2, .int (nI g)), (3, .int gp9)] := by rw [e9_6]; exact hl9
                                      exact ih_196 (q + 1) S1 H locs ls (by first | with_reducible assumption | omega) (by first | with_reducible assumption | omega) hP hD hS hl9
                                    · have c_22 : ¬ ((q : Nat) : Int) = ((g : Nat) : Int) := zc_ne (nI_toInt b9_17) (nI_toInt b9_23) c_22
                                      refine lv_aload_n hx hb dX11_join_215 rfl (lv_at hl 4 rfl) ?_
                                      refine lv_iload hx hb dX11_join_216 (lv_at hl 0 rfl) ?_
                                      obtain ⟨hPc, hDc, hFc, hI1⟩ := zi_sub (wc := [_, _, _]) hP hD hS hA [0, 1, 2] rfl rfl
                                      refine zcall (st1 := [.int (pI (q < ft ∧ (st q).toInt = 1 ∧ (tn q).toInt = 0))]) (va_runV (As := [.int (nI q)]) (rest := []) ⟨hx, hb, hml, hown, hts⟩ (k_M_is_n l dC dI cI cZ cF H.size k0 a (upd (upd (upd (upd I0 44 x1) 45 x2) 46 x3) 47 x4) (vp_updL (vp_updL J0 48 (jI ((uq : Nat) : Int))) 49 (jI ((dq : Nat) : Int))) q ft st tn (by first | with_reducible assumption | assumption) (by first | with_reducible assumption | omega) (by first | with_reducible assumption | omega)) (csV_179 hts rfl rfl ⟨Nat.le_of_ble_eq_true rfl, Nat.le_of_ble_eq_true rfl⟩) (zPV2 (q0 := 0) (ci := 9) hPc hDc hK hXN rfl rfl) rfl rfl hl.1 rfl (lv_room (Nat.le_of_ble_eq_true rfl)) dX11_join_218 ⟨Nat.le_of_ble_eq_true rfl, Nat.le_of_ble_eq_true rfl⟩) hS hFc hFc rfl (fun t H locs ht hB hk1 hS => ?_)
                                      obtain ⟨hP1, hD1⟩ := hB
                                      rw [ht] at hP1
                                      replace hP := z0 hP hD hk1 hP1 hI1
                                      clear hk1 hPc hDc hFc hP1 hD1 ht hI1
                                      refine lv_if_eq (tgt := 269) hx hb dX11_join_221 rfl (fun c_24 => ?_) (fun c_24 => ?_)
                                      · have c_24 : ¬ (q < ft ∧ (st q).toInt = 1 ∧ (tn q).toInt = 0) := zp_0 c_24
                                        refine lv_iinc (v := nI (q + 1)) (lv' := [(7, .int (nI (q + 1))), (6, .int (pI (jFr ft st tn (upd kd 200 6) (upd mn 200 4) (bxX 200 (x1) (x3) 4 cx) (bxY 200 (x2) (x4) 4 cy) f g q))), (5, .int (nI ft)), (4, .int 0), (0, .ref k0), (1, .int (nI f)), (2, .int (nI g)), (3, .int gp9)]) hx hb dX11_join_269 hl (k := 0) rfl (nI_add q 1) (Nat.le_of_ble_eq_true rfl) rfl (fun ls hl => ?_)
                                        refine lv_goto (tgt := 196) hx hb dX11_join_272 rfl ?_
                                        have hl9 := lv_sub hl [0, 1, 2, 3, 4, 5, 6, 7] rfl
                                        have e9_6 : pI (jFr ft st tn (upd kd 200 6) (upd mn 200 4) (bxX 200 (x1) (x3) 4 cx) (bxY 200 (x2) (x4) 4 cy) f g (q + 1)) = (pI (jFr ft st tn (upd kd 200 6) (upd mn 200 4) (bxX 200 (x1) (x3) 4 cx) (bxY 200 (x2) (x4) 4 cy) f g q) : Int32) := by first | exact zp_iff (jF_y (fun h1 h2 h3 => ⟨by assumption, by assumption⟩)) | exact zp_f (jF_n (by omega) (by omega) (by first | with_reducible assumption | assumption) (by first | exact Or.inl (by first | with_reducible assumption | assumption) | exact Or.inr (by first | with_reducible assumption | assumption))) | exact zp_iff (jF_y (fun h1 h2 h3 => by first | (exfalso; omega) | exact absurd h3 (by first | with_reducible assumption | assumption)))
                                        have hl9 : lv_has ls 9 [(7, .int (nI (q + 1))), (6, .int (pI (jFr ft st tn (upd kd 200 6) (upd mn 200 4) (bxX 200 (x1) (x3) 4 cx) (bxY 200 (x2) (x4) 4 cy) f g (q + 1)))), (5, .int (nI ft)), (4, .int 0), (0, .ref k0), (1, .int (nI f)), (2, .int (nI g)), (3, .int gp9)] := by rw [e9_6]; exact hl9
                                        exact ih_196 (q + 1) S1 H locs ls (by first | with_reducible assumption | omega) (by first | with_reducible assumption | omega) hP hD hS hl9
                                      · have c_24 : q < ft ∧ (st q).toInt = 1 ∧ (tn q).toInt = 0 := zp_1 c_24
                                        have hw_q := hwf2 q (by first | with_reducible assumption | assumption)
                                        have hn_q := hw_q.2.1
                                        refine lv_aload_n hx hb dX11_join_224 rfl (lv_at hl 4 rfl) ?_
                                        refine lv_sipush (v := 200) hx hb dX11_join_225 rfl ?_
                                        refine lv_iload hx hb dX11_join_228 (lv_at hl 0 rfl) ?_
                                        obtain ⟨hPc, hDc, hFc⟩ := zo_sub (wc := [_, _, _, _, _, _]) hP hD hS hA [0, 3, 4, 5, 6, 7] (by decide +kernel) rfl
                                        refine zcall (st1 := [.int (pI (∃ i, i < eO ((upd kd 200 6) 200).toInt 4 ∧ ∃ j, j < eO ((upd kd 200 6) q).toInt (nN ((upd mn 200 4) q)) ∧ eMt 4 (cF40 (bxX 200 (x1) (x3) 4 cx) 200) (cF40 (bxY 200 (x2) (x4) 4 cy) 200) i (nN ((upd mn 200 4) q)) (cF40 (bxX 200 (x1) (x3) 4 cx) q) (cF40 (bxY 200 (x2) (x4) 4 cy) q) j))]) (va_runV (As := [.int 200, .int (nI q)]) (rest := []) ⟨hx, hb, hml, hown, hts⟩ (k_M_isMet l dC dI cI cZ cF H.size k0 a (upd (upd (upd (upd I0 44 x1) 45 x2) 46 x3) 47 x4) (vp_updL (vp_updL J0 48 (jI ((uq : Nat) : Int))) 49 (jI ((dq : Nat) : Int))) 200 4 q (nN ((upd mn 200 4) q)) (upd kd 200 6) (upd mn 200 4) (bxX 200 (x1) (x3) 4 cx) (bxY 200 (x2) (x4) 4 cy) S1 (by first | with_reducible assumption | omega) (hm_b) (by first | with_reducible assumption | omega) (hp_b) (by first | with_reducible assumption | omega) (hw_q.1) (hw_q.2.1) (hw_q.2.2)) (csV_180 hts rfl rfl ⟨Nat.le_of_ble_eq_true rfl, Nat.le_of_ble_eq_true rfl⟩) (zPV2 (q0 := 0) (ci := 9) hPc hDc hK hXN rfl rfl) rfl rfl hl.1 rfl (lv_room (Nat.le_of_ble_eq_true rfl)) dX11_join_230 ⟨Nat.le_of_ble_eq_true rfl, Nat.le_of_ble_eq_true rfl⟩) hS hFc hFc rfl (fun t H locs ht hB hk1 hS => ?_)
                                        obtain ⟨q_25, hP1, hD1⟩ := hB
                                        rw [ht] at hP1
                                        obtain ⟨hP, hD⟩ := zn (W2 := [_, _, _, _, _, _, _, (oa (a 32) cI 8 q_25)]) hP hD hk1 hFc hP1 hD1 [0, 3, 4, 5, 6, 7] [false, true, true] zl_146 [0, 3, 4, 5, 6, 7] (by decide +kernel) rfl rfl rfl rfl rfl
                                        clear hk1 hPc hDc hFc hP1 hD1 ht
                                        refine zz_i (v := pI (mtF ((upd kd 200 6) 200).toInt 4 (cF40 (bxX 200 (x1) (x3) 4 cx) 200) (cF40 (bxY 200 (x2) (x4) 4 cy) 200) ((upd kd 200 6) q).toInt (nN ((upd mn 200 4) q)) (cF40 (bxX 200 (x1) (x3) 4 cx) q) (cF40 (bxY 200 (x2) (x4) 4 cy) q))) (rfl) ?_
                                        refine lv_if_ne (tgt := 266) hx hb dX11_join_233 rfl (fun c_26 => ?_) (fun c_26 => ?_)
                                        · have c_26 : mtF ((upd kd 200 6) 200).toInt 4 (cF40 (bxX 200 (x1) (x3) 4 cx) 200) (cF40 (bxY 200 (x2) (x4) 4 cy) 200) ((upd kd 200 6) q).toInt (nN ((upd mn 200 4) q)) (cF40 (bxX 200 (x1) (x3) 4 cx) q) (cF40 (bxY 200 (x2) (x4) 4 cy) q) := zp_1 c_26
                                          refine lv_iconst (v := 0) hx hb dX11_join_266 rfl ?_
                                          refine lv_istore (lv' := [(6, .int 0), (7, .int (nI q)), (5, .int (nI ft)), (4, .int 0), (0, .ref k0), (1, .int (nI f)), (2, .int (nI g)), (3, .int gp9)]) hx hb dX11_join_267 hl (Nat.le_of_ble_eq_true rfl) rfl (fun ls hl => ?_)
                                          refine lv_iinc (v := nI (q + 1)) (lv' := [(7, .int (nI (q + 1))), (6, .int 0), (5, .int (nI ft)), (4, .int 0), (0, .ref k0), (1, .int (nI f)), (2, .int (nI g)), (3, .int gp9)]) hx hb dX11_join_269 hl (k := 1) rfl (nI_add q 1) (Nat.le_of_ble_eq_true rfl) rfl (fun ls hl => ?_)
                                          refine lv_goto (tgt := 196) hx hb dX11_join_272 rfl ?_
                                          have hl9 := lv_sub hl [0, 1, 2, 3, 4, 5, 6, 7] rfl
                                          have e9_6 : pI (jFr ft st tn (upd kd 200 6) (upd mn 200 4) (bxX 200 (x1) (x3) 4 cx) (bxY 200 (x2) (x4) 4 cy) f g (q + 1)) = (0 : Int32) := by first | exact zp_iff (jF_y (fun h1 h2 h3 => ⟨by assumption, by assumption⟩)) | exact zp_f (jF_n (by omega) (by omega) (by first | with_reducible assumption | assumption) (by first | exact Or.inl (by first | with_reducible assumption | assumption) | exact Or.inr (by first | with_reducible assumption | assumption))) | exact zp_iff (jF_y (fun h1 h2 h3 => by first | (exfalso; omega) | exact absurd h3 (by first | with_reducible assumption | assumption)))
                                          have hl9 : lv_has ls 9 [(7, .int (nI (q + 1))), (6, .int (pI (jFr ft st tn (upd kd 200 6) (upd mn 200 4) (bxX 200 (x1) (x3) 4 cx) (bxY 200 (x2) (x4) 4 cy) f g (q + 1)))), (5, .int (nI ft)), (4, .int 0), (0, .ref k0), (1, .int (nI f)), (2, .int (nI g)), (3, .int gp9)] := by rw [e9_6]; exact hl9
                                          exact ih_196 (q + 1) q_25 H locs ls (by first | with_reducible assumption | omega) (by first | with_reducible assumption | omega) hP hD hS hl9
                                        · have c_26 : ¬ (mtF ((upd kd 200 6) 200).toInt 4 (cF40 (bxX 200 (x1) (x3) 4 cx) 200) (cF40 (bxY 200 (x2) (x4) 4 cy) 200) ((upd kd 200 6) q).toInt (nN ((upd mn 200 4) q)) (cF40 (bxX 200 (x1) (x3) 4 cx) q) (cF40 (bxY 200 (x2) (x4) 4 cy) q)) := zp_0 c_26
                                          refine lv_aload_n hx hb dX11_join_236 rfl (lv_at hl 4 rfl) ?_
                                          refine lv_sipush (v := 200) hx hb dX11_join_237 rfl ?_
                                          refine lv_aload_n hx hb dX11_join_240 rfl (lv_at hl 4 rfl) ?_
                                          refine va_get (D := (dC, dI)) (ci := 9) (v := .ref (a 12)) (C := RX11) (T := TX11) (N := 55) hx hb hts inX11 hown hK hP 0 rfl rfl 12 (Nat.le_of_ble_eq_true rfl) (hts _ mw_1171) (fun _ h9 => h9) rfl dX11_join_241 ?_
                                          refine lv_bipush (v := 40) hx hb dX11_join_244 rfl ?_
                                          refine lv_iload hx hb dX11_join_246 (lv_at hl 0 rfl) ?_
                                          refine lv_imul hx hb dX11_join_248 ?_
                                          refine zz_i (v := nI (40 * q)) (pk_mul 40 q) ?_
                                          have b9_27 : 40 * q < 8040 := by omega
                                          refine z_iald hx hb hK hP 5 0 rfl rfl (e := 40 * q) rfl b9_27 (Nat.le_of_ble_eq_true rfl) dX11_join_249 ?_
                                          refine lv_aload_n hx hb dX11_join_250 rfl (lv_at hl 4 rfl) ?_
                                          refine va_get (D := (dC, dI)) (ci := 9) (v := .ref (a 13)) (C := RX11) (T := TX11) (N := 55) hx hb hts inX11 hown hK hP 0 rfl rfl 13 (Nat.le_of_ble_eq_true rfl) (hts _ mw_1172) (fun _ h9 => h9) rfl dX11_join_251 ?_
                                          refine lv_bipush (v := 40) hx hb dX11_join_254 rfl ?_
                                          refine lv_iload hx hb dX11_join_256 (lv_at hl 0 rfl) ?_
                                          refine lv_imul hx hb dX11_join_258 ?_
                                          refine zz_i (v := nI (40 * q)) (pk_mul 40 q) ?_
                                          refine z_iald hx hb hK hP 6 0 rfl rfl (e := 40 * q) rfl b9_27 (Nat.le_of_ble_eq_true rfl) dX11_join_259 ?_
                                          obtain ⟨hPc, hDc, hFc⟩ := zo_sub (wc := [_, _, _, _, _, _]) hP hD hS hA [0, 3, 4, 5, 6, 7] (by decide +kernel) rfl
                                          refine zcall (st1 := [.int (pI (¬ (∃ i, i < eO ((upd kd 200 6) 200).toInt 4 ∧ eOn 4 (cF40 (bxX 200 (x1) (x3) 4 cx) 200) (cF40 (bxY 200 (x2) (x4) 4 cy) 200) i ((bxX 200 (x1) (x3) 4 cx) (40 * q)).toInt ((bxY 200 (x2) (x4) 4 cy) (40 * q)).toInt) ∧ par2 (eTg 4 (cF40 (bxX 200 (x1) (x3) 4 cx) 200) (cF40 (bxY 200 (x2) (x4) 4 cy) 200) ((bxX 200 (x1) (x3) 4 cx) (40 * q)).toInt ((bxY 200 (x2) (x4) 4 cy) (40 * q)).toInt) (eO ((upd kd 200 6) 200).toInt 4)))]) (va_runV (As := [.int 200, .int ((bxX 200 (x1) (x3) 4 cx) (40 * q)), .int ((bxY 200 (x2) (x4) 4 cy) (40 * q))]) (rest := []) ⟨hx, hb, hml, hown, hts⟩ (k_M_isInside l dC dI cI cZ cF H.size k0 a (upd (upd (upd (upd I0 44 x1) 45 x2) 46 x3) 47 x4) (vp_updL (vp_updL J0 48 (jI ((uq : Nat) : Int))) 49 (jI ((dq : Nat) : Int))) 200 4 (upd kd 200 6) (upd mn 200 4) (bxX 200 (x1) (x3) 4 cx) (bxY 200 (x2) (x4) 4 cy) q_25 ((bxX 200 (x1) (x3) 4 cx) (40 * q)) ((bxY 200 (x2) (x4) 4 cy) (40 * q)) (by first | with_reducible assumption | omega) (hm_b) (by first | with_reducible assumption | omega) (hp_b) ((hw_q.2.2 0 (by first | with_reducible assumption | omega)).1) ((hw_q.2.2 0 (by first | with_reducible assumption | omega)).2)) (csV_183 hts rfl rfl ⟨Nat.le_of_ble_eq_true rfl, Nat.le_of_ble_eq_true rfl⟩) (zPV2 (q0 := 0) (ci := 9) hPc hDc hK hXN rfl rfl) rfl rfl hl.1 rfl (lv_room (Nat.le_of_ble_eq_true rfl)) dX11_join_260 ⟨Nat.le_of_ble_eq_true rfl, Nat.le_of_ble_eq_true rfl⟩) hS hFc hFc rfl (fun t H locs ht hB hk1 hS => ?_)
                                          obtain ⟨q_28, hP1, hD1⟩ := hB
                                          rw [ht] at hP1
                                          obtain ⟨hP, hD⟩ := zn (W2 := [_, _, _, _, _, _, _, (oa (a 32) cI 8 q_28)]) hP hD hk1 hFc hP1 hD1 [0, 3, 4, 5, 6, 7] [false, true, true] zl_146 [0, 3, 4, 5, 6, 7] (by decide +kernel) rfl rfl rfl rfl rfl
                                          clear hk1 hPc hDc hFc hP1 hD1 ht
                                          refine zz_i (v := pI (inF ((upd kd 200 6) 200).toInt 4 (cF40 (bxX 200 (x1) (x3) 4 cx) 200) (cF40 (bxY 200 (x2) (x4) 4 cy) 200) ((bxX 200 (x1) (x3) 4 cx) (40 * q)).toInt ((bxY 200 (x2) (x4) 4 cy) (40 * q)).toInt)) (rfl) ?_
                                          refine lv_if_eq (tgt := 269) hx hb dX11_join_263 rfl (fun c_29 => ?_) (fun c_29 => ?_)
                                          · have c_29 : ¬ (inF ((upd kd 200 6) 200).toInt 4 (cF40 (bxX 200 (x1) (x3) 4 cx) 200) (cF40 (bxY 200 (x2) (x4) 4 cy) 200) ((bxX 200 (x1) (x3) 4 cx) (40 * q)).toInt ((bxY 200 (x2) (x4) 4 cy) (40 * q)).toInt) := zp_0 c_29
                                            refine lv_iinc (v := nI (q + 1)) (lv' := [(7, .int (nI (q + 1))), (6, .int (pI (jFr ft st tn (upd kd 200 6) (upd mn 200 4) (bxX 200 (x1) (x3) 4 cx) (bxY 200 (x2) (x4) 4 cy) f g q))), (5, .int (nI ft)), (4, .int 0), (0, .ref k0), (1, .int (nI f)), (2, .int (nI g)), (3, .int gp9)]) hx hb dX11_join_269 hl (k := 0) rfl (nI_add q 1) (Nat.le_of_ble_eq_true rfl) rfl (fun ls hl => ?_)
                                            refine lv_goto (tgt := 196) hx hb dX11_join_272 rfl ?_
                                            have hl9 := lv_sub hl [0, 1, 2, 3, 4, 5, 6, 7] rfl
                                            have e9_6 : pI (jFr ft st tn (upd kd 200 6) (upd mn 200 4) (bxX 200 (x1) (x3) 4 cx) (bxY 200 (x2) (x4) 4 cy) f g (q + 1)) = (pI (jFr ft st tn (upd kd 200 6) (upd mn 200 4) (bxX 200 (x1) (x3) 4 cx) (bxY 200 (x2) (x4) 4 cy) f g q) : Int32) := by first | exact zp_iff (jF_y (fun h1 h2 h3 => ⟨by assumption, by assumption⟩)) | exact zp_f (jF_n (by omega) (by omega) (by first | with_reducible assumption | assumption) (by first | exact Or.inl (by first | with_reducible assumption | assumption) | exact Or.inr (by first | with_reducible assumption | assumption))) | exact zp_iff (jF_y (fun h1 h2 h3 => by first | (exfalso; omega) | exact absurd h3 (by first | with_reducible assumption | assumption)))
                                            have hl9 : lv_has ls 9 [(7, .int (nI (q + 1))), (6, .int (pI (jFr ft st tn (upd kd 200 6) (upd mn 200 4) (bxX 200 (x1) (x3) 4 cx) (bxY 200 (x2) (x4) 4 cy) f g (q + 1)))), (5, .int (nI ft)), (4, .int 0), (0, .ref k0), (1, .int (nI f)), (2, .int (nI g)), (3, .int gp9)] := by rw [e9_6]; exact hl9
                                            exact ih_196 (q + 1) q_28 H locs ls (by first | with_reducible assumption | omega) (by first | with_reducible assumption | omega) hP hD hS hl9
                                          · have c_29 : inF ((upd kd 200 6) 200).toInt 4 (cF40 (bxX 200 (x1) (x3) 4 cx) 200) (cF40 (bxY 200 (x2) (x4) 4 cy) 200) ((bxX 200 (x1) (x3) 4 cx) (40 * q)).toInt ((bxY 200 (x2) (x4) 4 cy) (40 * q)).toInt := zp_1 c_29
                                            refine lv_iconst (v := 0) hx hb dX11_join_266 rfl ?_
                                            refine lv_istore (lv' := [(6, .int 0), (7, .int (nI q)), (5, .int (nI ft)), (4, .int 0), (0, .ref k0), (1, .int (nI f)), (2, .int (nI g)), (3, .int gp9)]) hx hb dX11_join_267 hl (Nat.le_of_ble_eq_true rfl) rfl (fun ls hl => ?_)
                                            refine lv_iinc (v := nI (q + 1)) (lv' := [(7, .int (nI (q + 1))), (6, .int 0), (5, .int (nI ft)), (4, .int 0), (0, .ref k0), (1, .int (nI f)), (2, .int (nI g)), (3, .int gp9)]) hx hb dX11_join_269 hl (k := 1) rfl (nI_add q 1) (Nat.le_of_ble_eq_true rfl) rfl (fun ls hl => ?_)
                                            refine lv_goto (tgt := 196) hx hb dX11_join_272 rfl ?_
                                            have hl9 := lv_sub hl [0, 1, 2, 3, 4, 5, 6, 7] rfl
                                            have e9_6 : pI (jFr ft st tn (upd kd 200 6) (upd mn 200 4) (bxX 200 (x1) (x3) 4 cx) (bxY 200 (x2) (x4) 4 cy) f g (q + 1)) = (0 : Int32) := by first | exact zp_iff (jF_y (fun h1 h2 h3 => ⟨by assumption, by assumption⟩)) | exact zp_f (jF_n (by omega) (by omega) (by first | with_reducible assumption | assumption) (by first | exact Or.inl (by first | with_reducible assumption | assumption) | exact Or.inr (by first | with_reducible assumption | assumption))) | exact zp_iff (jF_y (fun h1 h2 h3 => by first | (exfalso; omega) | exact absurd h3 (by first | with_reducible assumption | assumption)))
                                            have hl9 : lv_has ls 9 [(7, .int (nI (q + 1))), (6, .int (pI (jFr ft st tn (upd kd 200 6) (upd mn 200 4) (bxX 200 (x1) (x3) 4 cx) (bxY 200 (x2) (x4) 4 cy) f g (q + 1)))), (5, .int (nI ft)), (4, .int 0), (0, .ref k0), (1, .int (nI f)), (2, .int (nI g)), (3, .int gp9)] := by rw [e9_6]; exact hl9
                                            exact ih_196 (q + 1) q_28 H locs ls (by first | with_reducible assumption | omega) (by first | with_reducible assumption | omega) hP hD hS hl9
                            have e9_6 : pI (jFr ft st tn (upd kd 200 6) (upd mn 200 4) (bxX 200 (x1) (x3) 4 cx) (bxY 200 (x2) (x4) 4 cy) f g 0) = (1 : Int32) := by exact zp_t jF_0
                            have hl9 : lv_has ls 9 [(7, .int (nI 0)), (6, .int (pI (jFr ft st tn (upd kd 200 6) (upd mn 200 4) (bxX 200 (x1) (x3) 4 cx) (bxY 200 (x2) (x4) 4 cy) f g 0))), (5, .int (nI ft)), (4, .int 0), (0, .ref k0), (1, .int (nI f)), (2, .int (nI g)), (3, .int gp9)] := by rw [e9_6]; exact lv_sub hl [0, 1, 2, 3, 4, 5, 6, 7] rfl
                            exact hl_196 _ 0 S2 H locs ls (Nat.lt_succ_self _) (by first | with_reducible assumption | omega) hP hD hS hl9
                          · have c_15 : (gp9.toInt * gp9.toInt * ((dq : Nat) : Int)) < ((uq : Nat) : Int) := zl_nle (jI_toInt (by omega)) (jI_toInt (by omega)) c_15
                            exfalso; exact hnf (hf9.mp (by omega))
                        · exact absurd (by decide) c_14
                      · have c_13 : ¬ (tn g).toInt = 0 := zc_ne rfl rfl c_13
                        exfalso; omega
                  · have c_11 : 1000 < gp9.toInt := zc_nle rfl rfl c_11
                    exfalso; omega
              · have c_9 : ¬ (kd g).toInt = 6 := zc_ne rfl rfl c_9
                exfalso; omega
          · exact absurd (by decide) c_7
        · have c_6 : ¬ (st g).toInt = 1 := zc_ne rfl rfl c_6
          exfalso; omega
    · have c_2 : ¬ (g < ft) := zp_0 c_2
      exfalso; omega
set_option maxHeartbeats 4000000 in
set_option maxRecDepth 100000 in
theorem k_M_join_8 (l : Launch) (dC : Nat → ClassId) (dI : Nat → Nat → Nat) (cI cZ cF : ClassId) (sz : Nat) (k0 : Nat) (a : Nat → Nat) (I0 : Nat → Int32) (J0 : Nat → Int64) (f : Nat) (n : Nat) (g : Nat) (m2 : Nat) (ft : Nat) (gp9 : Int32) (st : Nat → Int32) (tn : Nat → Int32) (kd : Nat → Int32) (mn : Nat → Int32) (cx : Nat → Int32) (cy : Nat → Int32) (S0 : Nat → Int32) (hft : I0 0 = nI ft) (h200 : ft ≤ 200) (hf_f : f ≤ 200) (hm_f : mn f = nI n) (hn_f : 1 ≤ n ∧ n ≤ 40) (hp_f : pls n (cF40 cx f) (cF40 cy f)) (hf_g : g ≤ 200) (hm_g : mn g = nI m2) (hn_g : 1 ≤ m2 ∧ m2 ≤ 40) (hp_g : pls m2 (cF40 cx g) (cF40 cy g)) (hf_t : f < ft) (hg_t : g < ft) (hok : ((st f).toInt = 1 ∧ (st g).toInt = 1) ∧ ((kd f).toInt = 6 ∧ (kd g).toInt = 6) ∧ (0 ≤ gp9.toInt ∧ gp9.toInt ≤ 1000) ∧ ((tn f).toInt = 0 ∧ (tn g).toInt = 0)) (he_f : 1 ≤ eO (kd f).toInt n) (he_g : 1 ≤ eO (kd g).toInt m2) (hwf : ∀ q, lvF ft st tn q → wfM mn cx cy q) (hnf : ¬ (¬ mtF (kd f).toInt n (cF40 cx f) (cF40 cy f) (kd g).toInt m2 (cF40 cx g) (cF40 cy g) ∧ ∀ u d : Nat, 1 ≤ d → IM (dcP n (cF40 cx f) (cF40 cy f) m2 (cF40 cx g) (cF40 cy g) (eO (kd g).toInt m2) (eO (kd f).toInt n) 0) ((u : Nat) : Int) ((d : Nat) : Int) → gp9.toInt * gp9.toInt * ((d : Nat) : Int) < ((u : Nat) : Int))) (hfree : jFr ft st tn (upd kd 200 6) (upd mn 200 4) (bxX 200 ((jlo cx f n g m2)) ((jhi cx f n g m2)) 4 cx) (bxY 200 ((jlo cy f n g m2)) ((jhi cy f n g m2)) 4 cy) f g ft) (h8 : f = g ∨ ft = 200) : zM l yX11_join cX11_join 9 (some .int) ({ frames := 5, cells := 0, slots := 0, locals := 129 } : Room) [.ref k0, .int (nI f), .int (nI g), .int gp9] (dC, dI) (zTy cI cZ cF) [(om k0 a I0 J0), (oa (a 5) cI 201 st), (oa (a 6) cZ 201 tn), (oa (a 1) cI 201 kd), (oa (a 11) cI 201 mn), (oa (a 12) cI 8040 cx), (oa (a 13) cI 8040 cy), (oa (a 32) cI 8 S0)] sz (some (.int (-1))) (fun A t => ∃ (uq : Nat), ∃ (dq : Nat), ∃ (S1 : Nat → Int32), ∃ (x1 : Int32), ∃ (x2 : Int32), ∃ (x3 : Int32), ∃ (x4 : Int32), (x1 = jlo cx f n g m2) ∧ (x2 = jlo cy f n g m2) ∧ (x3 = jhi cx f n g m2) ∧ (x4 = jhi cy f n g m2) ∧ zPD (dC, dI) classes A [(om k0 a (upd (upd (upd (upd (upd (upd I0 14 8) 15 (I0 15)) 44 x1) 45 x2) 46 x3) 47 x4) (vp_updL (vp_updL J0 48 (jI ((uq : Nat) : Int))) 49 (jI ((dq : Nat) : Int)))), (oa (a 5) cI 201 st), (oa (a 6) cZ 201 tn), (oa (a 1) cI 201 (upd kd 200 6)), (oa (a 11) cI 201 (upd mn 200 4)), (oa (a 12) cI 8040 (bxX 200 (x1) (x3) 4 cx)), (oa (a 13) cI 8040 (bxY 200 (x2) (x4) 4 cy)), (oa (a 32) cI 8 S1)] t.heap) 0 0 := by
  refine zIn (own := "ScaleShopModel") (loc := [(0, .ref k0), (1, .int (nI f)), (2, .int (nI g)), (3, .int gp9)]) rfl rfl rfl rfl (fun p e s m below meth c hx hb hr hts hown hlocks hml hnm9 A hA hS hP hD hK hXN Q9 hQ9 ls hl => ?_)
  refine lv_aload_n hx hb dX11_join_0 rfl (lv_at hl 0 rfl) ?_
  refine lv_iload_n hx hb dX11_join_1 rfl (lv_at hl 1 rfl) ?_
  obtain ⟨hPc, hDc, hFc, hI1⟩ := zi_sub (wc := [_]) hP hD hS hA [0] rfl rfl
  refine zcall (st1 := [.int (pI (f < ft))]) (va_runV (As := [.int (nI f)]) (rest := []) ⟨hx, hb, hml, hown, hts⟩ (k_M_isFeature_n l dC dI cI cZ cF s.heap.size k0 a I0 J0 f ft (by first | with_reducible assumption | assumption) (by first | with_reducible assumption | omega) (by first | with_reducible assumption | omega)) (csV_178 hts rfl rfl ⟨Nat.le_of_ble_eq_true rfl, Nat.le_of_ble_eq_true rfl⟩) (zPV2 (q0 := 0) (ci := 9) hPc hDc hK hXN rfl rfl) rfl rfl hl.1 rfl (lv_room (Nat.le_of_ble_eq_true rfl)) dX11_join_2 ⟨Nat.le_of_ble_eq_true rfl, Nat.le_of_ble_eq_true rfl⟩) hS hFc hFc rfl (fun t H locs ht hB hk1 hS => ?_)
  obtain ⟨hP1, hD1⟩ := hB
  rw [ht] at hP1
  replace hP := z0 hP hD hk1 hP1 hI1
  clear hk1 hPc hDc hFc hP1 hD1 ht hI1
  refine lv_if_eq (tgt := 16) hx hb dX11_join_5 rfl (fun c_1 => ?_) (fun c_1 => ?_)
  · have c_1 : ¬ (f < ft) := zp_0 c_1
    exfalso; omega
  · have c_1 : f < ft := zp_1 c_1
    refine lv_aload_n hx hb dX11_join_8 rfl (lv_at hl 0 rfl) ?_
    refine lv_iload_n hx hb dX11_join_9 rfl (lv_at hl 2 rfl) ?_
    obtain ⟨hPc, hDc, hFc, hI1⟩ := zi_sub (wc := [_]) hP hD hS hA [0] rfl rfl
    refine zcall (st1 := [.int (pI (g < ft))]) (va_runV (As := [.int (nI g)]) (rest := []) ⟨hx, hb, hml, hown, hts⟩ (k_M_isFeature_n l dC dI cI cZ cF H.size k0 a I0 J0 g ft (by first | with_reducible assumption | assumption) (by first | with_reducible assumption | omega) (by first | with_reducible assumption | omega)) (csV_178 hts rfl rfl ⟨Nat.le_of_ble_eq_true rfl, Nat.le_of_ble_eq_true rfl⟩) (zPV2 (q0 := 0) (ci := 9) hPc hDc hK hXN rfl rfl) rfl rfl hl.1 rfl (lv_room (Nat.le_of_ble_eq_true rfl)) dX11_join_10 ⟨Nat.le_of_ble_eq_true rfl, Nat.le_of_ble_eq_true rfl⟩) hS hFc hFc rfl (fun t H locs ht hB hk1 hS => ?_)
    obtain ⟨hP1, hD1⟩ := hB
    rw [ht] at hP1
    replace hP := z0 hP hD hk1 hP1 hI1
    clear hk1 hPc hDc hFc hP1 hD1 ht hI1
    refine lv_if_ne (tgt := 20) hx hb dX11_join_13 rfl (fun c_2 => ?_) (fun c_2 => ?_)
    · have c_2 : g < ft := zp_1 c_2
      refine lv_aload_n hx hb dX11_join_20 rfl (lv_at hl 0 rfl) ?_
      refine va_get (D := (dC, dI)) (ci := 9) (v := .ref (a 5)) (C := RX11) (T := TX11) (N := 55) hx hb hts inX11 hown hK hP 0 rfl rfl 5 (Nat.le_of_ble_eq_true rfl) (hts _ mw_1164) (fun _ h9 => h9) rfl dX11_join_21 ?_
      refine lv_iload_n hx hb dX11_join_24 rfl (lv_at hl 1 rfl) ?_
      have b9_3 : f < 201 := by omega
      refine z_iald hx hb hK hP 1 0 rfl rfl (e := f) rfl b9_3 (Nat.le_of_ble_eq_true rfl) dX11_join_25 ?_
      refine lv_iconst (v := 1) hx hb dX11_join_26 rfl ?_
      refine lv_icmp_ne (tgt := 40) hx hb dX11_join_27 rfl (fun c_4 => ?_) (fun c_4 => ?_)
      · have c_4 : ¬ (st f).toInt = 1 := zc_ne rfl rfl c_4
        exfalso; omega
      · have c_4 : (st f).toInt = 1 := zc_eq rfl rfl c_4
        refine lv_aload_n hx hb dX11_join_30 rfl (lv_at hl 0 rfl) ?_
        refine va_get (D := (dC, dI)) (ci := 9) (v := .ref (a 5)) (C := RX11) (T := TX11) (N := 55) hx hb hts inX11 hown hK hP 0 rfl rfl 5 (Nat.le_of_ble_eq_true rfl) (hts _ mw_1164) (fun _ h9 => h9) rfl dX11_join_31 ?_
        refine lv_iload_n hx hb dX11_join_34 rfl (lv_at hl 2 rfl) ?_
        have b9_5 : g < 201 := by omega
        refine z_iald hx hb hK hP 1 0 rfl rfl (e := g) rfl b9_5 (Nat.le_of_ble_eq_true rfl) dX11_join_35 ?_
        refine lv_iconst (v := 1) hx hb dX11_join_36 rfl ?_
        refine lv_icmp_eq (tgt := 44) hx hb dX11_join_37 rfl (fun c_6 => ?_) (fun c_6 => ?_)
        · have c_6 : (st g).toInt = 1 := zc_eq rfl rfl c_6
          refine lv_iconst (v := 0) hx hb dX11_join_44 rfl ?_
          refine lv_istore (lv' := [(4, .int 0), (0, .ref k0), (1, .int (nI f)), (2, .int (nI g)), (3, .int gp9)]) hx hb dX11_join_45 hl (Nat.le_of_ble_eq_true rfl) rfl (fun ls hl => ?_)
          refine lv_iload hx hb dX11_join_47 (lv_at hl 0 rfl) ?_
          refine lv_if_le (tgt := 57) hx hb dX11_join_49 rfl (fun c_7 => ?_) (fun c_7 => ?_)
          · refine lv_aload_n hx hb dX11_join_57 rfl (lv_at hl 1 rfl) ?_
            refine va_get (D := (dC, dI)) (ci := 9) (v := .ref (a 1)) (C := RX11) (T := TX11) (N := 55) hx hb hts inX11 hown hK hP 0 rfl rfl 1 (Nat.le_of_ble_eq_true rfl) (hts _ mw_1160) (fun _ h9 => h9) rfl dX11_join_58 ?_
            refine lv_iload_n hx hb dX11_join_61 rfl (lv_at hl 2 rfl) ?_
            refine z_iald hx hb hK hP 3 0 rfl rfl (e := f) rfl b9_3 (Nat.le_of_ble_eq_true rfl) dX11_join_62 ?_
            refine lv_bipush (v := 6) hx hb dX11_join_63 rfl ?_
            refine lv_icmp_ne (tgt := 79) hx hb dX11_join_65 rfl (fun c_8 => ?_) (fun c_8 => ?_)
            · have c_8 : ¬ (kd f).toInt = 6 := zc_ne rfl rfl c_8
              exfalso; omega
            · have c_8 : (kd f).toInt = 6 := zc_eq rfl rfl c_8
              refine lv_aload_n hx hb dX11_join_68 rfl (lv_at hl 1 rfl) ?_
              refine va_get (D := (dC, dI)) (ci := 9) (v := .ref (a 1)) (C := RX11) (T := TX11) (N := 55) hx hb hts inX11 hown hK hP 0 rfl rfl 1 (Nat.le_of_ble_eq_true rfl) (hts _ mw_1160) (fun _ h9 => h9) rfl dX11_join_69 ?_
              refine lv_iload_n hx hb dX11_join_72 rfl (lv_at hl 3 rfl) ?_
              refine z_iald hx hb hK hP 3 0 rfl rfl (e := g) rfl b9_5 (Nat.le_of_ble_eq_true rfl) dX11_join_73 ?_
              refine lv_bipush (v := 6) hx hb dX11_join_74 rfl ?_
              refine lv_icmp_eq (tgt := 83) hx hb dX11_join_76 rfl (fun c_9 => ?_) (fun c_9 => ?_)
              · have c_9 : (kd g).toInt = 6 := zc_eq rfl rfl c_9
                refine lv_iload_n hx hb dX11_join_83 rfl (lv_at hl 4 rfl) ?_
                refine lv_if_lt (tgt := 94) hx hb dX11_join_84 rfl (fun c_10 => ?_) (fun c_10 => ?_)
                · have c_10 : gp9.toInt < 0 := zc_lt rfl rfl c_10
                  exfalso; omega
                · have c_10 : 0 ≤ gp9.toInt := zc_nlt rfl rfl c_10
                  refine lv_iload_n hx hb dX11_join_87 rfl (lv_at hl 4 rfl) ?_
                  refine lv_sipush (v := 1000) hx hb dX11_join_88 rfl ?_
                  refine lv_icmp_le (tgt := 98) hx hb dX11_join_91 rfl (fun c_11 => ?_) (fun c_11 => ?_)
                  · have c_11 : gp9.toInt ≤ 1000 := zc_le rfl rfl c_11
                    refine lv_aload_n hx hb dX11_join_98 rfl (lv_at hl 1 rfl) ?_
                    refine va_get (D := (dC, dI)) (ci := 9) (v := .ref (a 6)) (C := RX11) (T := TX11) (N := 55) hx hb hts inX11 hown hK hP 0 rfl rfl 6 (Nat.le_of_ble_eq_true rfl) (hts _ mw_1165) (fun _ h9 => h9) rfl dX11_join_99 ?_
                    refine lv_iload_n hx hb dX11_join_102 rfl (lv_at hl 2 rfl) ?_
                    refine z_zald hx hb hK hP 2 1 rfl rfl (e := f) rfl b9_3 (Nat.le_of_ble_eq_true rfl) dX11_join_103 ?_
                    refine lv_if_ne (tgt := 116) hx hb dX11_join_104 rfl (fun c_12 => ?_) (fun c_12 => ?_)
                    · have c_12 : ¬ (tn f).toInt = 0 := zc_ne rfl rfl c_12
                      exfalso; omega
                    · have c_12 : (tn f).toInt = 0 := zc_eq rfl rfl c_12
                      refine lv_aload_n hx hb dX11_join_107 rfl (lv_at hl 1 rfl) ?_
                      refine va_get (D := (dC, dI)) (ci := 9) (v := .ref (a 6)) (C := RX11) (T := TX11) (N := 55) hx hb hts inX11 hown hK hP 0 rfl rfl 6 (Nat.le_of_ble_eq_true rfl) (hts _ mw_1165) (fun _ h9 => h9) rfl dX11_join_108 ?_
                      refine lv_iload_n hx hb dX11_join_111 rfl (lv_at hl 3 rfl) ?_
                      refine z_zald hx hb hK hP 2 1 rfl rfl (e := g) rfl b9_5 (Nat.le_of_ble_eq_true rfl) dX11_join_112 ?_
                      refine lv_if_eq (tgt := 120) hx hb dX11_join_113 rfl (fun c_13 => ?_) (fun c_13 => ?_)
                      · have c_13 : (tn g).toInt = 0 := zc_eq rfl rfl c_13
                        refine lv_iconst (v := 0) hx hb dX11_join_120 rfl ?_
                        refine lv_istore (lv' := [(4, .int 0), (0, .ref k0), (1, .int (nI f)), (2, .int (nI g)), (3, .int gp9)]) hx hb dX11_join_121 hl (Nat.le_of_ble_eq_true rfl) rfl (fun ls hl => ?_)
                        refine lv_iload hx hb dX11_join_123 (lv_at hl 0 rfl) ?_
                        refine lv_if_le (tgt := 135) hx hb dX11_join_125 rfl (fun c_14 => ?_) (fun c_14 => ?_)
                        · refine lv_aload_n hx hb dX11_join_135 rfl (lv_at hl 1 rfl) ?_
                          refine lv_iload_n hx hb dX11_join_136 rfl (lv_at hl 2 rfl) ?_
                          refine lv_iload_n hx hb dX11_join_137 rfl (lv_at hl 3 rfl) ?_
                          obtain ⟨hPc, hDc, hFc⟩ := zo_sub (wc := [_, _, _, _, _, _]) hP hD hS hA [0, 3, 4, 5, 6, 7] (by decide +kernel) rfl
                          refine zcall (st1 := []) (va_runV (As := [.int (nI f), .int (nI g)]) (rest := []) ⟨hx, hb, hml, hown, hts⟩ (k_M_distance_a l dC dI cI cZ cF H.size k0 a I0 J0 f n g m2 kd mn cx cy S0 (by first | with_reducible assumption | omega) (by first | with_reducible assumption | assumption) (by first | with_reducible assumption | omega) (by first | with_reducible assumption | assumption) (by first | with_reducible assumption | omega) (by first | with_reducible assumption | assumption) (by first | with_reducible assumption | omega) (by first | with_reducible assumption | assumption) (he_f) (he_g)) (csV_226 hts rfl rfl ⟨Nat.le_of_ble_eq_true rfl, Nat.le_of_ble_eq_true rfl⟩) (zPV2 (q0 := 0) (ci := 9) hPc hDc hK hXN rfl rfl) rfl rfl hl.1 rfl (lv_room (Nat.le_of_ble_eq_true rfl)) dX11_join_138 ⟨Nat.le_of_ble_eq_true rfl, Nat.le_of_ble_eq_true rfl⟩) hS hFc hFc rfl (fun t H locs ht hB hk1 hS => ?_)
                          obtain ⟨uq, dq, S2, hfr, hub, hP1, hD1⟩ := hB
                          rw [ht] at hP1
                          obtain ⟨hP, hD⟩ := zn (W2 := [(om k0 a I0 (vp_updL (vp_updL J0 48 (jI ((uq : Nat) : Int))) 49 (jI ((dq : Nat) : Int)))), _, _, _, _, _, _, (oa (a 32) cI 8 S2)]) hP hD hk1 hFc hP1 hD1 [0, 3, 4, 5, 6, 7] [false, true, true] zl_146 [0, 3, 4, 5, 6, 7] (by decide +kernel) rfl rfl rfl rfl rfl
                          clear hk1 hPc hDc hFc hP1 hD1 ht
                          have hgb := gpB9 (g := gp9) (D := dq) hok.2.2.1 (by omega)
                          have hf9 := hfr (gp9.toInt * gp9.toInt) (by omega)
                          refine lv_aload_n hx hb dX11_join_141 rfl (lv_at hl 1 rfl) ?_
                          refine va_get (D := (dC, dI)) (ci := 9) (v := .long (jI ((uq : Nat) : Int))) (C := RX11) (T := TX11) (N := 55) hx hb hts inX11 hown hK hP 0 rfl rfl 48 (Nat.le_of_ble_eq_true rfl) (hts _ mw_1207) (fun _ h9 => h9) rfl dX11_join_142 ?_
                          refine lv_iload_n hx hb dX11_join_145 rfl (lv_at hl 4 rfl) ?_
                          refine lv_i2l (v := gp9.toInt64) hx hb dX11_join_146 (rfl) ?_
                          refine lv_iload_n hx hb dX11_join_147 rfl (lv_at hl 4 rfl) ?_
                          refine lv_i2l (v := gp9.toInt64) hx hb dX11_join_148 (rfl) ?_
                          refine lv_lmul hx hb dX11_join_149 ?_
                          refine lv_aload_n hx hb dX11_join_150 rfl (lv_at hl 1 rfl) ?_
                          refine va_get (D := (dC, dI)) (ci := 9) (v := .long (jI ((dq : Nat) : Int))) (C := RX11) (T := TX11) (N := 55) hx hb hts inX11 hown hK hP 0 rfl rfl 49 (Nat.le_of_ble_eq_true rfl) (hts _ mw_1208) (fun _ h9 => h9) rfl dX11_join_151 ?_
                          refine lv_lmul hx hb dX11_join_154 ?_
                          refine zz_l (v := jI (gp9.toInt * gp9.toInt * ((dq : Nat) : Int))) (gpL hok.2.2.1 (by omega)) ?_
                          refine W.lcmp hx hb dX11_join_155 ?_
                          refine lv_if_le (tgt := 165) hx hb dX11_join_156 rfl (fun c_15 => ?_) (fun c_15 => ?_)
                          · have c_15 : ((uq : Nat) : Int) ≤ (gp9.toInt * gp9.toInt * ((dq : Nat) : Int)) := zl_le (jI_toInt (by omega)) (jI_toInt (by omega)) c_15
                            refine lv_aload_n hx hb dX11_join_165 rfl (lv_at hl 1 rfl) ?_
                            refine lv_iload_n hx hb dX11_join_166 rfl (lv_at hl 2 rfl) ?_
                            refine lv_iconst (v := 1) hx hb dX11_join_167 rfl ?_
                            obtain ⟨hPc, hDc, hFc⟩ := zo_sub (wc := [_, _, _, _]) hP hD hS hA [0, 4, 5, 6] (by decide +kernel) rfl
                            refine zcall (st1 := []) (va_runV (As := [.int (nI f), .int 1]) (rest := []) ⟨hx, hb, hml, hown, hts⟩ (k_M_box_v l dC dI cI cZ cF H.size k0 a I0 (vp_updL (vp_updL J0 48 (jI ((uq : Nat) : Int))) 49 (jI ((dq : Nat) : Int))) f n mn cx cy (by first | with_reducible assumption | omega) (by first | with_reducible assumption | assumption) (by first | with_reducible assumption | omega) (by first | with_reducible assumption | assumption)) (csV_221 hts rfl rfl ⟨Nat.le_of_ble_eq_true rfl, Nat.le_of_ble_eq_true rfl⟩) (zPV2 (q0 := 0) (ci := 9) hPc hDc hK hXN rfl rfl) rfl rfl hl.1 rfl (lv_room (Nat.le_of_ble_eq_true rfl)) dX11_join_168 ⟨Nat.le_of_ble_eq_true rfl, Nat.le_of_ble_eq_true rfl⟩) hS hFc hFc rfl (fun t H locs ht hB hk1 hS => ?_)
                            obtain ⟨y1, y2, y3, y4, ea1, ea2, ea3, ea4, hP1, hD1⟩ := hB
                            rw [ht] at hP1
                            obtain ⟨hP, hD⟩ := zn (W2 := [(om k0 a (upd (upd (upd (upd I0 44 y1) 45 y2) 46 y3) 47 y4) (vp_updL (vp_updL J0 48 (jI ((uq : Nat) : Int))) 49 (jI ((dq : Nat) : Int)))), _, _, _, _, _, _, _]) hP hD hk1 hFc hP1 hD1 [0, 4, 5, 6] zl_251 zl_251 [0, 4, 5, 6] (by decide +kernel) rfl rfl rfl rfl rfl
                            clear hk1 hPc hDc hFc hP1 hD1 ht
                            refine lv_aload_n hx hb dX11_join_171 rfl (lv_at hl 1 rfl) ?_
                            refine lv_iload_n hx hb dX11_join_172 rfl (lv_at hl 3 rfl) ?_
                            refine lv_iconst (v := 0) hx hb dX11_join_173 rfl ?_
                            obtain ⟨hPc, hDc, hFc⟩ := zo_sub (wc := [_, _, _, _]) hP hD hS hA [0, 4, 5, 6] (by decide +kernel) rfl
                            refine zcall (st1 := []) (va_runV (As := [.int (nI g), .int 0]) (rest := []) ⟨hx, hb, hml, hown, hts⟩ (k_M_box_w l dC dI cI cZ cF H.size k0 a (upd (upd (upd (upd I0 44 y1) 45 y2) 46 y3) 47 y4) (vp_updL (vp_updL J0 48 (jI ((uq : Nat) : Int))) 49 (jI ((dq : Nat) : Int))) g m2 y1 y2 y3 y4 mn cx cy (by first | with_reducible assumption | omega) (by first | with_reducible assumption | assumption) (by first | with_reducible assumption | omega) (by first | with_reducible assumption | assumption)) (csV_221 hts rfl rfl ⟨Nat.le_of_ble_eq_true rfl, Nat.le_of_ble_eq_true rfl⟩) (zPV2 (q0 := 0) (ci := 9) hPc hDc hK hXN rfl rfl) rfl rfl hl.1 rfl (lv_room (Nat.le_of_ble_eq_true rfl)) dX11_join_174 ⟨Nat.le_of_ble_eq_true rfl, Nat.le_of_ble_eq_true rfl⟩) hS hFc hFc rfl (fun t H locs ht hB hk1 hS => ?_)
                            obtain ⟨x1, x2, x3, x4, eb1, eb2, eb3, eb4, hP1, hD1⟩ := hB
                            rw [ht] at hP1
                            obtain ⟨hP, hD⟩ := zn (W2 := [(om k0 a (upd (upd (upd (upd I0 44 x1) 45 x2) 46 x3) 47 x4) (vp_updL (vp_updL J0 48 (jI ((uq : Nat) : Int))) 49 (jI ((dq : Nat) : Int)))), _, _, _, _, _, _, _]) hP hD hk1 hFc hP1 hD1 [0, 4, 5, 6] zl_251 zl_251 [0, 4, 5, 6] (by decide +kernel) rfl rfl rfl rfl rfl
                            clear hk1 hPc hDc hFc hP1 hD1 ht
                            have h0f := hp_f 0 (by omega)
                            unfold pl at h0f
                            have mA := mnP h0f.1 hp_f n (Nat.le_refl _)
                            have mB := mnP h0f.2 hp_f n (Nat.le_refl _)
                            have ej1 : x1 = jlo cx f n g m2 := jlo_e rfl ea1 mA.1 eb1
                            have ej2 : x2 = jlo cy f n g m2 := jlo_e rfl ea2 mB.2.1 eb2
                            have ej3 : x3 = jhi cx f n g m2 := jhi_e rfl ea3 mA.2.2.1 eb3
                            have ej4 : x4 = jhi cy f n g m2 := jhi_e rfl ea4 mB.2.2.2 eb4
                            clear eb1 eb2 eb3 eb4
                            have hjp : pl x1 ∧ pl x3 ∧ pl x2 ∧ pl x4 := (by rw [ej1, ej2, ej3, ej4]; exact jpl hp_f hn_f.1 hp_g)
                            have hfree9 : jFr ft st tn (upd kd 200 6) (upd mn 200 4) (bxX 200 (x1) (x3) 4 cx) (bxY 200 (x2) (x4) 4 cy) f g ft := (by rw [ej1, ej2, ej3, ej4]; exact hfree)
                            refine lv_aload_n hx hb dX11_join_177 rfl (lv_at hl 1 rfl) ?_
                            refine va_get (D := (dC, dI)) (ci := 9) (v := .int (I0 0)) (C := RX11) (T := TX11) (N := 55) hx hb hts inX11 hown hK hP 0 rfl rfl 0 (Nat.le_of_ble_eq_true rfl) (hts _ mw_1159) (fun _ h9 => h9) rfl dX11_join_178 ?_
                            refine zz_i (v := nI ft) (hft) ?_
                            refine lv_istore (lv' := [(5, .int (nI ft)), (4, .int 0), (0, .ref k0), (1, .int (nI f)), (2, .int (nI g)), (3, .int gp9)]) hx hb dX11_join_181 hl (Nat.le_of_ble_eq_true rfl) rfl (fun ls hl => ?_)
                            refine lv_aload_n hx hb dX11_join_183 rfl (lv_at hl 2 rfl) ?_
                            refine lv_sipush (v := 200) hx hb dX11_join_184 rfl ?_
                            obtain ⟨hPc, hDc, hFc⟩ := zo_sub (wc := [_, _, _, _, _]) hP hD hS hA [0, 3, 4, 5, 6] (by decide +kernel) rfl
                            refine zcall (st1 := []) (va_runV (As := [.int 200]) (rest := []) ⟨hx, hb, hml, hown, hts⟩ (k_M_layBox l dC dI cI cZ cF H.size k0 a (upd (upd (upd (upd I0 44 x1) 45 x2) 46 x3) 47 x4) (vp_updL (vp_updL J0 48 (jI ((uq : Nat) : Int))) 49 (jI ((dq : Nat) : Int))) 200 kd mn cx cy (by first | with_reducible assumption | omega)) (csV_222 hts rfl rfl ⟨Nat.le_of_ble_eq_true rfl, Nat.le_of_ble_eq_true rfl⟩) (zPV2 (q0 := 0) (ci := 9) hPc hDc hK hXN rfl rfl) rfl rfl hl.1 rfl (lv_room (Nat.le_of_ble_eq_true rfl)) dX11_join_187 ⟨Nat.le_of_ble_eq_true rfl, Nat.le_of_ble_eq_true rfl⟩) hS hFc hFc rfl (fun t H locs ht hB hk1 hS => ?_)
                            obtain ⟨hP1, hD1⟩ := hB
                            rw [ht] at hP1
                            obtain ⟨hP, hD⟩ := zn (W2 := [_, _, _, (oa (a 1) cI 201 (upd kd 200 6)), (oa (a 11) cI 201 (upd mn 200 4)), (oa (a 12) cI 8040 (bxX 200 (x1) (x3) 4 cx)), (oa (a 13) cI 8040 (bxY 200 (x2) (x4) 4 cy)), _]) hP hD hk1 hFc hP1 hD1 [0, 3, 4, 5, 6] zl_252 zl_252 [0, 3, 4, 5, 6] (by decide +kernel) rfl rfl rfl rfl rfl
                            clear hk1 hPc hDc hFc hP1 hD1 ht
                            have hm_b : (upd mn 200 4) 200 = nI 4 := (up_at _ _ _).trans rfl
                            have hp_b : pls 4 (cF40 (bxX 200 (x1) (x3) 4 cx) 200) (cF40 (bxY 200 (x2) (x4) 4 cy) 200) := bx_pls hjp.1 hjp.2.1 hjp.2.2.1 hjp.2.2.2
                            have hwf2 : ∀ q, lvF ft st tn q → wfM (upd mn 200 4) (bxX 200 (x1) (x3) 4 cx) (bxY 200 (x2) (x4) 4 cy) q := fun q h1 => wfM_o (f := 200) (hwf q h1) (by have := h1.1; omega) (fun j hj => if_neg hj) (fun j hj => ⟨bxX_o (by omega), bxY_o (by omega)⟩)
                            refine lv_iconst (v := 1) hx hb dX11_join_190 rfl ?_
                            refine lv_istore (lv' := [(6, .int 1), (5, .int (nI ft)), (4, .int 0), (0, .ref k0), (1, .int (nI f)), (2, .int (nI g)), (3, .int gp9)]) hx hb dX11_join_191 hl (Nat.le_of_ble_eq_true rfl) rfl (fun ls hl => ?_)
                            refine lv_iconst (v := 0) hx hb dX11_join_193 rfl ?_
                            refine lv_istore (lv' := [(7, .int 0), (6, .int 1), (5, .int (nI ft)), (4, .int 0), (0, .ref k0), (1, .int (nI f)), (2, .int (nI g)), (3, .int gp9)]) hx hb dX11_join_194 hl (Nat.le_of_ble_eq_true rfl) rfl (fun ls hl => ?_)
                            have hl_196 : ∀ (n9 : Nat) (q : Nat) (S1 : Nat → Int32) (H : Heap) (locs : List Loc) (ls : Array Slot), ft - q < n9 → (q ≤ ft) → va_P (dC, dI) classes [(om k0 a (upd (upd (upd (upd I0 44 x1) 45 x2) 46 x3) 47 x4) (vp_updL (vp_updL J0 48 (jI ((uq : Nat) : Int))) 49 (jI ((dq : Nat) : Int)))), (oa (a 5) cI 201 st), (oa (a 6) cZ 201 tn), (oa (a 1) cI 201 (upd kd 200 6)), (oa (a 11) cI 201 (upd mn 200 4)), (oa (a 12) cI 8040 (bxX 200 (x1) (x3) 4 cx)), (oa (a 13) cI 8040 (bxY 200 (x2) (x4) 4 cy)), (oa (a 32) cI 8 S1)] H → va_D A [(om k0 a (upd (upd (upd (upd I0 44 x1) 45 x2) 46 x3) 47 x4) (vp_updL (vp_updL J0 48 (jI ((uq : Nat) : Int))) 49 (jI ((dq : Nat) : Int)))), (oa (a 5) cI 201 st), (oa (a 6) cZ 201 tn), (oa (a 1) cI 201 (upd kd 200 6)), (oa (a 11) cI 201 (upd mn 200 4)), (oa (a 12) cI 8040 (bxX 200 (x1) (x3) 4 cx)), (oa (a 13) cI 8040 (bxY 200 (x2) (x4) 4 cy)), (oa (a 32) cI 8 S1)] → va_S A s.heap H locs → lv_has ls 9 [(7, .int (nI q)), (6, .int (pI (jFr ft st tn (upd kd 200 6) (upd mn 200 4) (bxX 200 (x1) (x3) 4 cx) (bxY 200 (x2) (x4) 4 cy) f g q))), (5, .int (nI ft)), (4, .int 0), (0, .ref k0), (1, .int (nI f)), (2, .int (nI g)), (3, .int gp9)] → W p l e ({ frames := 5, cells := 0, slots := 0, locals := 129 } : Room) s m ([.ref k0, .int (nI f), .int (nI g), .int gp9] : List Value).toArray below meth c H locs 0 0 Q9 (F0 m 196 ls []) := by
                              intro n9
                              induction n9 with
                              | zero => intro q S1 H locs ls hm; exact absurd hm (Nat.not_lt_zero _)
                              | succ n9 ih_196 =>
                                intro q S1 H locs ls hm hq hP hD hS hl
                                refine lv_iload hx hb dX11_join_196 (lv_at hl 0 rfl) ?_
                                refine lv_iload hx hb dX11_join_198 (lv_at hl 2 rfl) ?_
                                have b9_17 : zlt (q) := show q < 2147483648 by omega
                                have b9_18 : zlt (ft) := show ft < 2147483648 by omega
                                refine lv_icmp_ge (tgt := 275) hx hb dX11_join_200 rfl (fun c_16 => ?_) (fun c_16 => ?_)
                                · have c_16 : ((ft : Nat) : Int) ≤ ((q : Nat) : Int) := zc_le (nI_toInt b9_18) (nI_toInt b9_17) c_16
                                  have hqe : q = ft := (by omega)
                                  rw [hqe] at hl
                                  refine lv_iload hx hb dX11_join_275 (lv_at hl 1 rfl) ?_
                                  refine lv_if_ne (tgt := 287) hx hb dX11_join_277 rfl (fun c_19 => ?_) (fun c_19 => ?_)
                                  · have c_19 : jFr ft st tn (upd kd 200 6) (upd mn 200 4) (bxX 200 (x1) (x3) 4 cx) (bxY 200 (x2) (x4) 4 cy) f g ft := zp_1 c_19
                                    refine lv_iload_n hx hb dX11_join_287 rfl (lv_at hl 5 rfl) ?_
                                    refine lv_iload_n hx hb dX11_join_288 rfl (lv_at hl 6 rfl) ?_
                                    have b9_21 : zlt (f) := show f < 2147483648 by omega
                                    have b9_22 : zlt (g) := show g < 2147483648 by omega
                                    refine lv_icmp_eq (tgt := 302) hx hb dX11_join_289 rfl (fun c_20 => ?_) (fun c_20 => ?_)
                                    · have c_20 : ((f : Nat) : Int) = ((g : Nat) : Int) := zc_eq (nI_toInt b9_21) (nI_toInt b9_22) c_20
                                      refine lv_aload_n hx hb dX11_join_302 rfl (lv_at hl 4 rfl) ?_
                                      refine lv_bipush (v := 8) hx hb dX11_join_303 rfl ?_
                                      obtain ⟨hPc, hDc, hFc⟩ := zo_sub (wc := [_]) hP hD hS hA [0] rfl rfl
                                      refine zcall (st1 := [.int (-1)]) (va_runV (As := [.int 8]) (rest := []) ⟨hx, hb, hml, hown, hts⟩ (k_M_refuse l dC dI cI cZ cF H.size k0 a (upd (upd (upd (upd I0 44 x1) 45 x2) 46 x3) 47 x4) (vp_updL (vp_updL J0 48 (jI ((uq : Nat) : Int))) 49 (jI ((dq : Nat) : Int))) 8 (by decide)) (csV_185 hts rfl rfl ⟨Nat.le_of_ble_eq_true rfl, Nat.le_of_ble_eq_true rfl⟩) (zPV2 (q0 := 0) (ci := 9) hPc hDc hK hXN rfl rfl) rfl rfl hl.1 rfl (lv_room (Nat.le_of_ble_eq_true rfl)) dX11_join_305 ⟨Nat.le_of_ble_eq_true rfl, Nat.le_of_ble_eq_true rfl⟩) hS hFc hFc rfl (fun t H locs ht hB hk1 hS => ?_)
                                      obtain ⟨hP1, hD1⟩ := hB
                                      rw [ht] at hP1
                                      obtain ⟨hP, hD⟩ := zn (W2 := [(om k0 a (upd (upd (upd (upd (upd (upd I0 14 8) 15 (I0 15)) 44 x1) 45 x2) 46 x3) 47 x4) (vp_updL (vp_updL J0 48 (jI ((uq : Nat) : Int))) 49 (jI ((dq : Nat) : Int)))), _, _, _, _, _, _, _]) hP hD hk1 hFc hP1 hD1 [0] zl_54 zl_54 [0] (by decide +kernel) rfl rfl rfl rfl rfl
                                      clear hk1 hPc hDc hFc hP1 hD1 ht
                                      obtain ⟨hP9, hD9⟩ := zu_sub (wc := [_, _, _, _, _, _, _, _]) hP hD [true, true, true, true, true, true, true, true] rfl rfl
                                      rw [hQ9]
                                      exact W.iret (v := (-1)) hx hb hr (fun t ht hW => ⟨⟨rfl, uq, dq, S1, x1, x2, x3, x4, (ej1), (ej2), (ej3), (ej4), by rw [ht]; exact hP9, hD9⟩, hS.F ht⟩) hS.2.2 dX11_join_308
                                    · have c_20 : ¬ ((f : Nat) : Int) = ((g : Nat) : Int) := zc_ne (nI_toInt b9_21) (nI_toInt b9_22) c_20
                                      refine lv_aload_n hx hb dX11_join_292 rfl (lv_at hl 4 rfl) ?_
                                      refine va_get (D := (dC, dI)) (ci := 9) (v := .int (I0 0)) (C := RX11) (T := TX11) (N := 55) hx hb hts inX11 hown hK hP 0 rfl rfl 0 (Nat.le_of_ble_eq_true rfl) (hts _ mw_1159) (fun _ h9 => h9) rfl dX11_join_293 ?_
                                      refine zz_i (v := nI ft) (hft) ?_
                                      refine lv_sipush (v := 200) hx hb dX11_join_296 rfl ?_
                                      refine lv_icmp_ne (tgt := 309) hx hb dX11_join_299 rfl (fun c_23 => ?_) (fun c_23 => ?_)
                                      · have c_23 : ¬ ((ft : Nat) : Int) = 200 := zc_ne (nI_toInt b9_18) rfl c_23
                                        exfalso; omega
                                      · have c_23 : ((ft : Nat) : Int) = 200 := zc_eq (nI_toInt b9_18) rfl c_23
                                        refine lv_aload_n hx hb dX11_join_302 rfl (lv_at hl 4 rfl) ?_
                                        refine lv_bipush (v := 8) hx hb dX11_join_303 rfl ?_
                                        obtain ⟨hPc, hDc, hFc⟩ := zo_sub (wc := [_]) hP hD hS hA [0] rfl rfl
                                        refine zcall (st1 := [.int (-1)]) (va_runV (As := [.int 8]) (rest := []) ⟨hx, hb, hml, hown, hts⟩ (k_M_refuse l dC dI cI cZ cF H.size k0 a (upd (upd (upd (upd I0 44 x1) 45 x2) 46 x3) 47 x4) (vp_updL (vp_updL J0 48 (jI ((uq : Nat) : Int))) 49 (jI ((dq : Nat) : Int))) 8 (by decide)) (csV_185 hts rfl rfl ⟨Nat.le_of_ble_eq_true rfl, Nat.le_of_ble_eq_true rfl⟩) (zPV2 (q0 := 0) (ci := 9) hPc hDc hK hXN rfl rfl) rfl rfl hl.1 rfl (lv_room (Nat.le_of_ble_eq_true rfl)) dX11_join_305 ⟨Nat.le_of_ble_eq_true rfl, Nat.le_of_ble_eq_true rfl⟩) hS hFc hFc rfl (fun t H locs ht hB hk1 hS => ?_)
                                        obtain ⟨hP1, hD1⟩ := hB
                                        rw [ht] at hP1
                                        obtain ⟨hP, hD⟩ := zn (W2 := [(om k0 a (upd (upd (upd (upd (upd (upd I0 14 8) 15 (I0 15)) 44 x1) 45 x2) 46 x3) 47 x4) (vp_updL (vp_updL J0 48 (jI ((uq : Nat) : Int))) 49 (jI ((dq : Nat) : Int)))), _, _, _, _, _, _, _]) hP hD hk1 hFc hP1 hD1 [0] zl_54 zl_54 [0] (by decide +kernel) rfl rfl rfl rfl rfl
                                        clear hk1 hPc hDc hFc hP1 hD1 ht
                                        obtain ⟨hP9, hD9⟩ := zu_sub (wc := [_, _, _, _, _, _, _, _]) hP hD [true, true, true, true, true, true, true, true] rfl rfl
                                        rw [hQ9]
                                        exact W.iret (v := (-1)) hx hb hr (fun t ht hW => ⟨⟨rfl, uq, dq, S1, x1, x2, x3, x4, (ej1), (ej2), (ej3), (ej4), by rw [ht]; exact hP9, hD9⟩, hS.F ht⟩) hS.2.2 dX11_join_308
                                  · have c_19 : ¬ (jFr ft st tn (upd kd 200 6) (upd mn 200 4) (bxX 200 (x1) (x3) 4 cx) (bxY 200 (x2) (x4) 4 cy) f g ft) := zp_0 c_19
                                    exfalso; exact absurd hfree9 (by first | with_reducible assumption | assumption)
                                · have c_16 : ((q : Nat) : Int) < ((ft : Nat) : Int) := zc_nle (nI_toInt b9_18) (nI_toInt b9_17) c_16
                                  refine lv_iload hx hb dX11_join_203 (lv_at hl 0 rfl) ?_
                                  refine lv_iload_n hx hb dX11_join_205 rfl (lv_at hl 5 rfl) ?_
                                  have b9_25 : zlt (f) := show f < 2147483648 by omega
                                  refine lv_icmp_eq (tgt := 269) hx hb dX11_join_206 rfl (fun c_24 => ?_) (fun c_24 => ?_)
                                  · have c_24 : ((q : Nat) : Int) = ((f : Nat) : Int) := zc_eq (nI_toInt b9_17) (nI_toInt b9_25) c_24
                                    refine lv_iinc (v := nI (q + 1)) (lv' := [(7, .int (nI (q + 1))), (6, .int (pI (jFr ft st tn (upd kd 200 6) (upd mn 200 4) (bxX 200 (x1) (x3) 4 cx) (bxY 200 (x2) (x4) 4 cy) f g q))), (5, .int (nI ft)), (4, .int 0), (0, .ref k0), (1, .int (nI f)), (2, .int (nI g)), (3, .int gp9)]) hx hb dX11_join_269 hl (k := 0) rfl (nI_add q 1) (Nat.le_of_ble_eq_true rfl) rfl (fun ls hl => ?_)
                                    refine lv_goto (tgt := 196) hx hb dX11_join_272 rfl ?_
                                    have hl9 := lv_sub hl [0, 1, 2, 3, 4, 5, 6, 7] rfl
                                    have e9_6 : pI (jFr ft st tn (upd kd 200 6) (upd mn 200 4) (bxX 200 (x1) (x3) 4 cx) (bxY 200 (x2) (x4) 4 cy) f g (q + 1)) = (pI (jFr ft st tn (upd kd 200 6) (upd mn 200 4) (bxX 200 (x1) (x3) 4 cx) (bxY 200 (x2) (x4) 4 cy) f g q) : Int32) := by first | exact zp_iff (jF_y (fun h1 h2 h3 => ⟨by assumption, by assumption⟩)) | exact zp_f (jF_n (by omega) (by omega) (by first | with_reducible assumption | assumption) (by first | exact Or.inl (by first | with_reducible assumption | assumption) | exact Or.inr (by first | with_reducible assumption | assumption))) | exact zp_iff (jF_y (fun h1 h2 h3 => by first | (exfalso; omega) | exact absurd h3 (by first | with_reducible assumption | assumption)))
                                    have hl9 : lv_has ls 9 [(7, .int (nI (q + 1))), (6, .int (pI (jFr ft st tn (upd kd 200 6) (upd mn 200 4) (bxX 200 (x1) (x3) 4 cx) (bxY 200 (x2) (x4) 4 cy) f g (q + 1)))), (5, .int (nI ft)), (4, .int 0), (0, .ref k0), (1, .int (nI f)), (2, .int (nI g)), (3, .int gp9)] := by rw [e9_6]; exact hl9
                                    exact ih_196 (q + 1) S1 H locs ls (by first | with_reducible assumption | omega) (by first | with_reducible assumption | omega) hP hD hS hl9
                                  · have c_24 : ¬ ((q : Nat) : Int) = ((f : Nat) : Int) := zc_ne (nI_toInt b9_17) (nI_toInt b9_25) c_24
                                    refine lv_iload hx hb dX11_join_209 (lv_at hl 0 rfl) ?_
                                    refine lv_iload_n hx hb dX11_join_211 rfl (lv_at hl 6 rfl) ?_
                                    have b9_27 : zlt (g) := show g < 2147483648 by omega
                                    refine lv_icmp_eq (tgt := 269) hx hb dX11_join_212 rfl (fun c_26 => ?_) (fun c_26 => ?_)
                                    · have c_26 : ((q : Nat) : Int) = ((g : Nat) : Int) := zc_eq (nI_toInt b9_17) (nI_toInt b9_27) c_26
                                      refine lv_iinc (v := nI (q + 1)) (lv' := [(7, .int (nI (q + 1))), (6, .int (pI (jFr ft st tn (upd kd 200 6) (upd mn 200 4) (bxX 200 (x1) (x3) 4 cx) (bxY 200 (x2) (x4) 4 cy) f g q))), (5, .int (nI ft)), (4, .int 0), (0, .ref k0), (1, .int (nI f)), (2, .int (nI g)), (3, .int gp9)]) hx hb dX11_join_269 hl (k := 0) rfl (nI_add q 1) (Nat.le_of_ble_eq_true rfl) rfl (fun ls hl => ?_)
                                      refine lv_goto (tgt := 196) hx hb dX11_join_272 rfl ?_
                                      have hl9 := lv_sub hl [0, 1, 2, 3, 4, 5, 6, 7] rfl
                                      have e9_6 : pI (jFr ft st tn (upd kd 200 6) (upd mn 200 4) (bxX 200 (x1) (x3) 4 cx) (bxY 200 (x2) (x4) 4 cy) f g (q + 1)) = (pI (jFr ft st tn (upd kd 200 6) (upd mn 200 4) (bxX 200 (x1) (x3) 4 cx) (bxY 200 (x2) (x4) 4 cy) f g q) : Int32) := by first | exact zp_iff (jF_y (fun h1 h2 h3 => ⟨by assumption, by assumption⟩)) | exact zp_f (jF_n (by omega) (by omega) (by first | with_reducible assumption | assumption) (by first | exact Or.inl (by first | with_reducible assumption | assumption) | exact Or.inr (by first | with_reducible assumption | assumption))) | exact zp_iff (jF_y (fun h1 h2 h3 => by first | (exfalso; omega) | exact absurd h3 (by first | with_reducible assumption | assumption)))
                                      have hl9 : lv_has ls 9 [(7, .int (nI (q + 1))), (6, .int (pI (jFr ft st tn (upd kd 200 6) (upd mn 200 4) (bxX 200 (x1) (x3) 4 cx) (bxY 200 (x2) (x4) 4 cy) f g (q + 1)))), (5, .int (nI ft)), (4, .int 0), (0, .ref k0), (1, .int (nI f)), (2, .int (nI g)), (3, .int gp9)] := by rw [e9_6]; exact hl9
                                      exact ih_196 (q + 1) S1 H locs ls (by first | with_reducible assumption | omega) (by first | with_reducible assumption | omega) hP hD hS hl9
                                    · have c_26 : ¬ ((q : Nat) : Int) = ((g : Nat) : Int) := zc_ne (nI_toInt b9_17) (nI_toInt b9_27) c_26
                                      refine lv_aload_n hx hb dX11_join_215 rfl (lv_at hl 4 rfl) ?_
                                      refine lv_iload hx hb dX11_join_216 (lv_at hl 0 rfl) ?_
                                      obtain ⟨hPc, hDc, hFc, hI1⟩ := zi_sub (wc := [_, _, _]) hP hD hS hA [0, 1, 2] rfl rfl
                                      refine zcall (st1 := [.int (pI (q < ft ∧ (st q).toInt = 1 ∧ (tn q).toInt = 0))]) (va_runV (As := [.int (nI q)]) (rest := []) ⟨hx, hb, hml, hown, hts⟩ (k_M_is_n l dC dI cI cZ cF H.size k0 a (upd (upd (upd (upd I0 44 x1) 45 x2) 46 x3) 47 x4) (vp_updL (vp_updL J0 48 (jI ((uq : Nat) : Int))) 49 (jI ((dq : Nat) : Int))) q ft st tn (by first | with_reducible assumption | assumption) (by first | with_reducible assumption | omega) (by first | with_reducible assumption | omega)) (csV_179 hts rfl rfl ⟨Nat.le_of_ble_eq_true rfl, Nat.le_of_ble_eq_true rfl⟩) (zPV2 (q0 := 0) (ci := 9) hPc hDc hK hXN rfl rfl) rfl rfl hl.1 rfl (lv_room (Nat.le_of_ble_eq_true rfl)) dX11_join_218 ⟨Nat.le_of_ble_eq_true rfl, Nat.le_of_ble_eq_true rfl⟩) hS hFc hFc rfl (fun t H locs ht hB hk1 hS => ?_)
                                      obtain ⟨hP1, hD1⟩ := hB
                                      rw [ht] at hP1
                                      replace hP := z0 hP hD hk1 hP1 hI1
                                      clear hk1 hPc hDc hFc hP1 hD1 ht hI1
                                      refine lv_if_eq (tgt := 269) hx hb dX11_join_221 rfl (fun c_28 => ?_) (fun c_28 => ?_)
                                      · have c_28 : ¬ (q < ft ∧ (st q).toInt = 1 ∧ (tn q).toInt = 0) := zp_0 c_28
                                        refine lv_iinc (v := nI (q + 1)) (lv' := [(7, .int (nI (q + 1))), (6, .int (pI (jFr ft st tn (upd kd 200 6) (upd mn 200 4) (bxX 200 (x1) (x3) 4 cx) (bxY 200 (x2) (x4) 4 cy) f g q))), (5, .int (nI ft)), (4, .int 0), (0, .ref k0), (1, .int (nI f)), (2, .int (nI g)), (3, .int gp9)]) hx hb dX11_join_269 hl (k := 0) rfl (nI_add q 1) (Nat.le_of_ble_eq_true rfl) rfl (fun ls hl => ?_)
                                        refine lv_goto (tgt := 196) hx hb dX11_join_272 rfl ?_
                                        have hl9 := lv_sub hl [0, 1, 2, 3, 4, 5, 6, 7] rfl
                                        have e9_6 : pI (jFr ft st tn (upd kd 200 6) (upd mn 200 4) (bxX 200 (x1) (x3) 4 cx) (bxY 200 (x2) (x4) 4 cy) f g (q + 1)) = (pI (jFr ft st tn (upd kd 200 6) (upd mn 200 4) (bxX 200 (x1) (x3) 4 cx) (bxY 200 (x2) (x4) 4 cy) f g q) : Int32) := by first | exact zp_iff (jF_y (fun h1 h2 h3 => ⟨by assumption, by assumption⟩)) | exact zp_f (jF_n (by omega) (by omega) (by first | with_reducible assumption | assumption) (by first | exact Or.inl (by first | with_reducible assumption | assumption) | exact Or.inr (by first | with_reducible assumption | assumption))) | exact zp_iff (jF_y (fun h1 h2 h3 => by first | (exfalso; omega) | exact absurd h3 (by first | with_reducible assumption | assumption)))
                                        have hl9 : lv_has ls 9 [(7, .int (nI (q + 1))), (6, .int (pI (jFr ft st tn (upd kd 200 6) (upd mn 200 4) (bxX 200 (x1) (x3) 4 cx) (bxY 200 (x2) (x4) 4 cy) f g (q + 1)))), (5, .int (nI ft)), (4, .int 0), (0, .ref k0), (1, .int (nI f)), (2, .int (nI g)), (3, .int gp9)] := by rw [e9_6]; exact hl9
                                        exact ih_196 (q + 1) S1 H locs ls (by first | with_reducible assumption | omega) (by first | with_reducible assumption | omega) hP hD hS hl9
                                      · have c_28 : q < ft ∧ (st q).toInt = 1 ∧ (tn q).toInt = 0 := zp_1 c_28
                                        have hw_q := hwf2 q (by first | with_reducible assumption | assumption)
                                        have hn_q := hw_q.2.1
                                        refine lv_aload_n hx hb dX11_join_224 rfl (lv_at hl 4 rfl) ?_
                                        refine lv_sipush (v := 200) hx hb dX11_join_225 rfl ?_
                                        refine lv_iload hx hb dX11_join_228 (lv_at hl 0 rfl) ?_
                                        obtain ⟨hPc, hDc, hFc⟩ := zo_sub (wc := [_, _, _, _, _, _]) hP hD hS hA [0, 3, 4, 5, 6, 7] (by decide +kernel) rfl
                                        refine zcall (st1 := [.int (pI (∃ i, i < eO ((upd kd 200 6) 200).toInt 4 ∧ ∃ j, j < eO ((upd kd 200 6) q).toInt (nN ((upd mn 200 4) q)) ∧ eMt 4 (cF40 (bxX 200 (x1) (x3) 4 cx) 200) (cF40 (bxY 200 (x2) (x4) 4 cy) 200) i (nN ((upd mn 200 4) q)) (cF40 (bxX 200 (x1) (x3) 4 cx) q) (cF40 (bxY 200 (x2) (x4) 4 cy) q) j))]) (va_runV (As := [.int 200, .int (nI q)]) (rest := []) ⟨hx, hb, hml, hown, hts⟩ (k_M_isMet l dC dI cI cZ cF H.size k0 a (upd (upd (upd (upd I0 44 x1) 45 x2) 46 x3) 47 x4) (vp_updL (vp_updL J0 48 (jI ((uq : Nat) : Int))) 49 (jI ((dq : Nat) : Int))) 200 4 q (nN ((upd mn 200 4) q)) (upd kd 200 6) (upd mn 200 4) (bxX 200 (x1) (x3) 4 cx) (bxY 200 (x2) (x4) 4 cy) S1 (by first | with_reducible assumption | omega) (hm_b) (by first | with_reducible assumption | omega) (hp_b) (by first | with_reducible assumption | omega) (hw_q.1) (hw_q.2.1) (hw_q.2.2)) (csV_180 hts rfl rfl ⟨Nat.le_of_ble_eq_true rfl, Nat.le_of_ble_eq_true rfl⟩) (zPV2 (q0 := 0) (ci := 9) hPc hDc hK hXN rfl rfl) rfl rfl hl.1 rfl (lv_room (Nat.le_of_ble_eq_true rfl)) dX11_join_230 ⟨Nat.le_of_ble_eq_true rfl, Nat.le_of_ble_eq_true rfl⟩) hS hFc hFc rfl (fun t H locs ht hB hk1 hS => ?_)
                                        obtain ⟨q_29, hP1, hD1⟩ := hB
                                        rw [ht] at hP1
                                        obtain ⟨hP, hD⟩ := zn (W2 := [_, _, _, _, _, _, _, (oa (a 32) cI 8 q_29)]) hP hD hk1 hFc hP1 hD1 [0, 3, 4, 5, 6, 7] [false, true, true] zl_146 [0, 3, 4, 5, 6, 7] (by decide +kernel) rfl rfl rfl rfl rfl
                                        clear hk1 hPc hDc hFc hP1 hD1 ht
                                        refine zz_i (v := pI (mtF ((upd kd 200 6) 200).toInt 4 (cF40 (bxX 200 (x1) (x3) 4 cx) 200) (cF40 (bxY 200 (x2) (x4) 4 cy) 200) ((upd kd 200 6) q).toInt (nN ((upd mn 200 4) q)) (cF40 (bxX 200 (x1) (x3) 4 cx) q) (cF40 (bxY 200 (x2) (x4) 4 cy) q))) (rfl) ?_
                                        refine lv_if_ne (tgt := 266) hx hb dX11_join_233 rfl (fun c_30 => ?_) (fun c_30 => ?_)
                                        · have c_30 : mtF ((upd kd 200 6) 200).toInt 4 (cF40 (bxX 200 (x1) (x3) 4 cx) 200) (cF40 (bxY 200 (x2) (x4) 4 cy) 200) ((upd kd 200 6) q).toInt (nN ((upd mn 200 4) q)) (cF40 (bxX 200 (x1) (x3) 4 cx) q) (cF40 (bxY 200 (x2) (x4) 4 cy) q) := zp_1 c_30
                                          refine lv_iconst (v := 0) hx hb dX11_join_266 rfl ?_
                                          refine lv_istore (lv' := [(6, .int 0), (7, .int (nI q)), (5, .int (nI ft)), (4, .int 0), (0, .ref k0), (1, .int (nI f)), (2, .int (nI g)), (3, .int gp9)]) hx hb dX11_join_267 hl (Nat.le_of_ble_eq_true rfl) rfl (fun ls hl => ?_)
                                          refine lv_iinc (v := nI (q + 1)) (lv' := [(7, .int (nI (q + 1))), (6, .int 0), (5, .int (nI ft)), (4, .int 0), (0, .ref k0), (1, .int (nI f)), (2, .int (nI g)), (3, .int gp9)]) hx hb dX11_join_269 hl (k := 1) rfl (nI_add q 1) (Nat.le_of_ble_eq_true rfl) rfl (fun ls hl => ?_)
                                          refine lv_goto (tgt := 196) hx hb dX11_join_272 rfl ?_
                                          have hl9 := lv_sub hl [0, 1, 2, 3, 4, 5, 6, 7] rfl
                                          have e9_6 : pI (jFr ft st tn (upd kd 200 6) (upd mn 200 4) (bxX 200 (x1) (x3) 4 cx) (bxY 200 (x2) (x4) 4 cy) f g (q + 1)) = (0 : Int32) := by first | exact zp_iff (jF_y (fun h1 h2 h3 => ⟨by assumption, by assumption⟩)) | exact zp_f (jF_n (by omega) (by omega) (by first | with_reducible assumption | assumption) (by first | exact Or.inl (by first | with_reducible assumption | assumption) | exact Or.inr (by first | with_reducible assumption | assumption))) | exact zp_iff (jF_y (fun h1 h2 h3 => by first | (exfalso; omega) | exact absurd h3 (by first | with_reducible assumption | assumption)))
                                          have hl9 : lv_has ls 9 [(7, .int (nI (q + 1))), (6, .int (pI (jFr ft st tn (upd kd 200 6) (upd mn 200 4) (bxX 200 (x1) (x3) 4 cx) (bxY 200 (x2) (x4) 4 cy) f g (q + 1)))), (5, .int (nI ft)), (4, .int 0), (0, .ref k0), (1, .int (nI f)), (2, .int (nI g)), (3, .int gp9)] := by rw [e9_6]; exact hl9
                                          exact ih_196 (q + 1) q_29 H locs ls (by first | with_reducible assumption | omega) (by first | with_reducible assumption | omega) hP hD hS hl9
                                        · have c_30 : ¬ (mtF ((upd kd 200 6) 200).toInt 4 (cF40 (bxX 200 (x1) (x3) 4 cx) 200) (cF40 (bxY 200 (x2) (x4) 4 cy) 200) ((upd kd 200 6) q).toInt (nN ((upd mn 200 4) q)) (cF40 (bxX 200 (x1) (x3) 4 cx) q) (cF40 (bxY 200 (x2) (x4) 4 cy) q)) := zp_0 c_30
                                          refine lv_aload_n hx hb dX11_join_236 rfl (lv_at hl 4 rfl) ?_
                                          refine lv_sipush (v := 200) hx hb dX11_join_237 rfl ?_
                                          refine lv_aload_n hx hb dX11_join_240 rfl (lv_at hl 4 rfl) ?_
                                          refine va_get (D := (dC, dI)) (ci := 9) (v := .ref (a 12)) (C := RX11) (T := TX11) (N := 55) hx hb hts inX11 hown hK hP 0 rfl rfl 12 (Nat.le_of_ble_eq_true rfl) (hts _ mw_1171) (fun _ h9 => h9) rfl dX11_join_241 ?_
                                          refine lv_bipush (v := 40) hx hb dX11_join_244 rfl ?_
                                          refine lv_iload hx hb dX11_join_246 (lv_at hl 0 rfl) ?_
                                          refine lv_imul hx hb dX11_join_248 ?_
                                          refine zz_i (v := nI (40 * q)) (pk_mul 40 q) ?_
                                          have b9_31 : 40 * q < 8040 := by omega
                                          refine z_iald hx hb hK hP 5 0 rfl rfl (e := 40 * q) rfl b9_31 (Nat.le_of_ble_eq_true rfl) dX11_join_249 ?_
                                          refine lv_aload_n hx hb dX11_join_250 rfl (lv_at hl 4 rfl) ?_
                                          refine va_get (D := (dC, dI)) (ci := 9) (v := .ref (a 13)) (C := RX11) (T := TX11) (N := 55) hx hb hts inX11 hown hK hP 0 rfl rfl 13 (Nat.le_of_ble_eq_true rfl) (hts _ mw_1172) (fun _ h9 => h9) rfl dX11_join_251 ?_
                                          refine lv_bipush (v := 40) hx hb dX11_join_254 rfl ?_
                                          refine lv_iload hx hb dX11_join_256 (lv_at hl 0 rfl) ?_
                                          refine lv_imul hx hb dX11_join_258 ?_
                                          refine zz_i (v := nI (40 * q)) (pk_mul 40 q) ?_
                                          refine z_iald hx hb hK hP 6 0 rfl rfl (e := 40 * q) rfl b9_31 (Nat.le_of_ble_eq_true rfl) dX11_join_259 ?_
                                          obtain ⟨hPc, hDc, hFc⟩ := zo_sub (wc := [_, _, _, _, _, _]) hP hD hS hA [0, 3, 4, 5, 6, 7] (by decide +kernel) rfl
                                          refine zcall (st1 := [.int (pI (¬ (∃ i, i < eO ((upd kd 200 6) 200).toInt 4 ∧ eOn 4 (cF40 (bxX 200 (x1) (x3) 4 cx) 200) (cF40 (bxY 200 (x2) (x4) 4 cy) 200) i ((bxX 200 (x1) (x3) 4 cx) (40 * q)).toInt ((bxY 200 (x2) (x4) 4 cy) (40 * q)).toInt) ∧ par2 (eTg 4 (cF40 (bxX 200 (x1) (x3) 4 cx) 200) (cF40 (bxY 200 (x2) (x4) 4 cy) 200) ((bxX 200 (x1) (x3) 4 cx) (40 * q)).toInt ((bxY 200 (x2) (x4) 4 cy) (40 * q)).toInt) (eO ((upd kd 200 6) 200).toInt 4)))]) (va_runV (As := [.int 200, .int ((bxX 200 (x1) (x3) 4 cx) (40 * q)), .int ((bxY 200 (x2) (x4) 4 cy) (40 * q))]) (rest := []) ⟨hx, hb, hml, hown, hts⟩ (k_M_isInside l dC dI cI cZ cF H.size k0 a (upd (upd (upd (upd I0 44 x1) 45 x2) 46 x3) 47 x4) (vp_updL (vp_updL J0 48 (jI ((uq : Nat) : Int))) 49 (jI ((dq : Nat) : Int))) 200 4 (upd kd 200 6) (upd mn 200 4) (bxX 200 (x1) (x3) 4 cx) (bxY 200 (x2) (x4) 4 cy) q_29 ((bxX 200 (x1) (x3) 4 cx) (40 * q)) ((bxY 200 (x2) (x4) 4 cy) (40 * q)) (by first | with_reducible assumption | omega) (hm_b) (by first | with_reducible assumption | omega) (hp_b) ((hw_q.2.2 0 (by first | with_reducible assumption | omega)).1) ((hw_q.2.2 0 (by first | with_reducible assumption | omega)).2)) (csV_183 hts rfl rfl ⟨Nat.le_of_ble_eq_true rfl, Nat.le_of_ble_eq_true rfl⟩) (zPV2 (q0 := 0) (ci := 9) hPc hDc hK hXN rfl rfl) rfl rfl hl.1 rfl (lv_room (Nat.le_of_ble_eq_true rfl)) dX11_join_260 ⟨Nat.le_of_ble_eq_true rfl, Nat.le_of_ble_eq_true rfl⟩) hS hFc hFc rfl (fun t H locs ht hB hk1 hS => ?_)
                                          obtain ⟨q_32, hP1, hD1⟩ := hB
                                          rw [ht] at hP1
                                          obtain ⟨hP, hD⟩ := zn (W2 := [_, _, _, _, _, _, _, (oa (a 32) cI 8 q_32)]) hP hD hk1 hFc hP1 hD1 [0, 3, 4, 5, 6, 7] [false, true, true] zl_146 [0, 3, 4, 5, 6, 7] (by decide +kernel) rfl rfl rfl rfl rfl
                                          clear hk1 hPc hDc hFc hP1 hD1 ht
                                          refine zz_i (v := pI (inF ((upd kd 200 6) 200).toInt 4 (cF40 (bxX 200 (x1) (x3) 4 cx) 200) (cF40 (bxY 200 (x2) (x4) 4 cy) 200) ((bxX 200 (x1) (x3) 4 cx) (40 * q)).toInt ((bxY 200 (x2) (x4) 4 cy) (40 * q)).toInt)) (rfl) ?_
                                          refine lv_if_eq (tgt := 269) hx hb dX11_join_263 rfl (fun c_33 => ?_) (fun c_33 => ?_)
                                          · have c_33 : ¬ (inF ((upd kd 200 6) 200).toInt 4 (cF40 (bxX 200 (x1) (x3) 4 cx) 200) (cF40 (bxY 200 (x2) (x4) 4 cy) 200) ((bxX 200 (x1) (x3) 4 cx) (40 * q)).toInt ((bxY 200 (x2) (x4) 4 cy) (40 * q)).toInt) := zp_0 c_33
                                            refine lv_iinc (v := nI (q + 1)) (lv' := [(7, .int (nI (q + 1))), (6, .int (pI (jFr ft st tn (upd kd 200 6) (upd mn 200 4) (bxX 200 (x1) (x3) 4 cx) (bxY 200 (x2) (x4) 4 cy) f g q))), (5, .int (nI ft)), (4, .int 0), (0, .ref k0), (1, .int (nI f)), (2, .int (nI g)), (3, .int gp9)]) hx hb dX11_join_269 hl (k := 0) rfl (nI_add q 1) (Nat.le_of_ble_eq_true rfl) rfl (fun ls hl => ?_)
                                            refine lv_goto (tgt := 196) hx hb dX11_join_272 rfl ?_
                                            have hl9 := lv_sub hl [0, 1, 2, 3, 4, 5, 6, 7] rfl
                                            have e9_6 : pI (jFr ft st tn (upd kd 200 6) (upd mn 200 4) (bxX 200 (x1) (x3) 4 cx) (bxY 200 (x2) (x4) 4 cy) f g (q + 1)) = (pI (jFr ft st tn (upd kd 200 6) (upd mn 200 4) (bxX 200 (x1) (x3) 4 cx) (bxY 200 (x2) (x4) 4 cy) f g q) : Int32) := by first | exact zp_iff (jF_y (fun h1 h2 h3 => ⟨by assumption, by assumption⟩)) | exact zp_f (jF_n (by omega) (by omega) (by first | with_reducible assumption | assumption) (by first | exact Or.inl (by first | with_reducible assumption | assumption) | exact Or.inr (by first | with_reducible assumption | assumption))) | exact zp_iff (jF_y (fun h1 h2 h3 => by first | (exfalso; omega) | exact absurd h3 (by first | with_reducible assumption | assumption)))
                                            have hl9 : lv_has ls 9 [(7, .int (nI (q + 1))), (6, .int (pI (jFr ft st tn (upd kd 200 6) (upd mn 200 4) (bxX 200 (x1) (x3) 4 cx) (bxY 200 (x2) (x4) 4 cy) f g (q + 1)))), (5, .int (nI ft)), (4, .int 0), (0, .ref k0), (1, .int (nI f)), (2, .int (nI g)), (3, .int gp9)] := by rw [e9_6]; exact hl9
                                            exact ih_196 (q + 1) q_32 H locs ls (by first | with_reducible assumption | omega) (by first | with_reducible assumption | omega) hP hD hS hl9
                                          · have c_33 : inF ((upd kd 200 6) 200).toInt 4 (cF40 (bxX 200 (x1) (x3) 4 cx) 200) (cF40 (bxY 200 (x2) (x4) 4 cy) 200) ((bxX 200 (x1) (x3) 4 cx) (40 * q)).toInt ((bxY 200 (x2) (x4) 4 cy) (40 * q)).toInt := zp_1 c_33
                                            refine lv_iconst (v := 0) hx hb dX11_join_266 rfl ?_
                                            refine lv_istore (lv' := [(6, .int 0), (7, .int (nI q)), (5, .int (nI ft)), (4, .int 0), (0, .ref k0), (1, .int (nI f)), (2, .int (nI g)), (3, .int gp9)]) hx hb dX11_join_267 hl (Nat.le_of_ble_eq_true rfl) rfl (fun ls hl => ?_)
                                            refine lv_iinc (v := nI (q + 1)) (lv' := [(7, .int (nI (q + 1))), (6, .int 0), (5, .int (nI ft)), (4, .int 0), (0, .ref k0), (1, .int (nI f)), (2, .int (nI g)), (3, .int gp9)]) hx hb dX11_join_269 hl (k := 1) rfl (nI_add q 1) (Nat.le_of_ble_eq_true rfl) rfl (fun ls hl => ?_)
                                            refine lv_goto (tgt := 196) hx hb dX11_join_272 rfl ?_
                                            have hl9 := lv_sub hl [0, 1, 2, 3, 4, 5, 6, 7] rfl
                                            have e9_6 : pI (jFr ft st tn (upd kd 200 6) (upd mn 200 4) (bxX 200 (x1) (x3) 4 cx) (bxY 200 (x2) (x4) 4 cy) f g (q + 1)) = (0 : Int32) := by first | exact zp_iff (jF_y (fun h1 h2 h3 => ⟨by assumption, by assumption⟩)) | exact zp_f (jF_n (by omega) (by omega) (by first | with_reducible assumption | assumption) (by first | exact Or.inl (by first | with_reducible assumption | assumption) | exact Or.inr (by first | with_reducible assumption | assumption))) | exact zp_iff (jF_y (fun h1 h2 h3 => by first | (exfalso; omega) | exact absurd h3 (by first | with_reducible assumption | assumption)))
                                            have hl9 : lv_has ls 9 [(7, .int (nI (q + 1))), (6, .int (pI (jFr ft st tn (upd kd 200 6) (upd mn 200 4) (bxX 200 (x1) (x3) 4 cx) (bxY 200 (x2) (x4) 4 cy) f g (q + 1)))), (5, .int (nI ft)), (4, .int 0), (0, .ref k0), (1, .int (nI f)), (2, .int (nI g)), (3, .int gp9)] := by rw [e9_6]; exact hl9
                                            exact ih_196 (q + 1) q_32 H locs ls (by first | with_reducible assumption | omega) (by first | with_reducible assumption | omega) hP hD hS hl9
                            have e9_6 : pI (jFr ft st tn (upd kd 200 6) (upd mn 200 4) (bxX 200 (x1) (x3) 4 cx) (bxY 200 (x2) (x4) 4 cy) f g 0) = (1 : Int32) := by exact zp_t jF_0
                            have hl9 : lv_has ls 9 [(7, .int (nI 0)), (6, .int (pI (jFr ft st tn (upd kd 200 6) (upd mn 200 4) (bxX 200 (x1) (x3) 4 cx) (bxY 200 (x2) (x4) 4 cy) f g 0))), (5, .int (nI ft)), (4, .int 0), (0, .ref k0), (1, .int (nI f)), (2, .int (nI g)), (3, .int gp9)] := by rw [e9_6]; exact lv_sub hl [0, 1, 2, 3, 4, 5, 6, 7] rfl
                            exact hl_196 _ 0 S2 H locs ls (Nat.lt_succ_self _) (by first | with_reducible assumption | omega) hP hD hS hl9
                          · have c_15 : (gp9.toInt * gp9.toInt * ((dq : Nat) : Int)) < ((uq : Nat) : Int) := zl_nle (jI_toInt (by omega)) (jI_toInt (by omega)) c_15
                            exfalso; exact hnf (hf9.mp (by omega))
                        · exact absurd (by decide) c_14
                      · have c_13 : ¬ (tn g).toInt = 0 := zc_ne rfl rfl c_13
                        exfalso; omega
                  · have c_11 : 1000 < gp9.toInt := zc_nle rfl rfl c_11
                    exfalso; omega
              · have c_9 : ¬ (kd g).toInt = 6 := zc_ne rfl rfl c_9
                exfalso; omega
          · exact absurd (by decide) c_7
        · have c_6 : ¬ (st g).toInt = 1 := zc_ne rfl rfl c_6
          exfalso; omega
    · have c_2 : ¬ (g < ft) := zp_0 c_2
      exfalso; omega
set_option maxHeartbeats 4000000 in
set_option maxRecDepth 100000 in
theorem k_M_join_y (l : Launch) (dC : Nat → ClassId) (dI : Nat → Nat → Nat) (cI cZ cF : ClassId) (sz : Nat) (k0 : Nat) (a : Nat → Nat) (I0 : Nat → Int32) (J0 : Nat → Int64) (f : Nat) (n : Nat) (g : Nat) (m2 : Nat) (ft : Nat) (gp9 : Int32) (dn : Nat) (bs : Nat) (w0 : Nat) (cp : Nat) (c1 : Nat) (c2 : Nat) (ln : Nat) (cl : Nat) (kd : Nat → Int32) (st : Nat → Int32) (gb : Nat → Int32) (it : Nat → Int32) (pa : Nat → Int32) (pb : Nat → Int32) (rk : Nat → Int32) (wd : Nat → Int32) (tw : Nat → Int32) (tn : Nat → Int32) (mn : Nat → Int32) (cx : Nat → Int32) (cy : Nat → Int32) (sa : Nat → Int32) (sh : Nat → Int32) (wh : Nat → Int32) (of9 : Nat → Int32) (we : Nat → Int32) (S0 : Nat → Int32) (la : Nat → Int32) (lb : Nat → Int32) (lc : Nat → Int32) (ld : Nat → Int32) (hft : I0 0 = nI ft) (h200 : ft ≤ 200) (hf_f : f ≤ 200) (hm_f : mn f = nI n) (hn_f : 1 ≤ n ∧ n ≤ 40) (hp_f : pls n (cF40 cx f) (cF40 cy f)) (hf_g : g ≤ 200) (hm_g : mn g = nI m2) (hn_g : 1 ≤ m2 ∧ m2 ≤ 40) (hp_g : pls m2 (cF40 cx g) (cF40 cy g)) (hf_t : f < ft) (hg_t : g < ft) (hok : ((st f).toInt = 1 ∧ (st g).toInt = 1) ∧ ((kd f).toInt = 6 ∧ (kd g).toInt = 6) ∧ (0 ≤ gp9.toInt ∧ gp9.toInt ≤ 1000) ∧ ((tn f).toInt = 0 ∧ (tn g).toInt = 0)) (he_f : 1 ≤ eO (kd f).toInt n) (he_g : 1 ≤ eO (kd g).toInt m2) (hwf : ∀ q, lvF ft st tn q → wfM mn cx cy q) (hnf : ¬ (¬ mtF (kd f).toInt n (cF40 cx f) (cF40 cy f) (kd g).toInt m2 (cF40 cx g) (cF40 cy g) ∧ ∀ u d : Nat, 1 ≤ d → IM (dcP n (cF40 cx f) (cF40 cy f) m2 (cF40 cx g) (cF40 cy g) (eO (kd g).toInt m2) (eO (kd f).toInt n) 0) ((u : Nat) : Int) ((d : Nat) : Int) → gp9.toInt * gp9.toInt * ((d : Nat) : Int) < ((u : Nat) : Int))) (hfree : jFr ft st tn (upd kd 200 6) (upd mn 200 4) (bxX 200 ((jlo cx f n g m2)) ((jhi cx f n g m2)) 4 cx) (bxY 200 ((jlo cy f n g m2)) ((jhi cy f n g m2)) 4 cy) f g ft) (h8 : ¬ f = g ∧ ft < 200) (hdn : I0 19 = nI dn) (hbs : I0 21 = nI bs) (hbd : bs ≤ dn) (hd512 : dn ≤ 512) (hlc : ln ≤ 64 * cl) (hcl1 : 1 ≤ cl) (hclm : cl ≤ 1000000) (hi5_1 : (dn - bs) < 515) (hsa_1 : sa (dn - bs) = nI w0) (hmn_1 : ∀ v9, v9 < ft → (tn v9).toInt = 0 → ¬ (st v9).toInt = 0 → mn v9 = nI (nN (mn v9)) ∧ nN (mn v9) ≤ 40) (hc1_1 : 1 ≤ cp) (hpw_1 : pw cp c1) (hw0_1 : w0 ≤ 4096 * cp) (hfit_1 : psN (nnF st tn mn) w0 ft ≤ 4096 * c1) (hmin_1 : c1 = cp ∨ 2048 * c1 < psN (nnF st tn mn) w0 ft) (hcE_1 : c1 ≤ 512) (hpw_2 : pw c1 c2) (hfit_2 : (psN (nnF (upd (upd (upd st ft 1) f 2) g 2) (upd tn ft 0) (upd (upd mn 200 4) ft 4)) (psN (nnF st tn mn) w0 ft) (ft + 1)) ≤ 4096 * c2) (hmin_2 : c2 = c1 ∨ 2048 * c2 < (psN (nnF (upd (upd (upd st ft 1) f 2) g 2) (upd tn ft 0) (upd (upd mn 200 4) ft 4)) (psN (nnF st tn mn) w0 ft) (ft + 1))) (hcE_2 : c2 ≤ 512) : zM l yX11_join cX11_join 9 (some .int) ({ frames := 5, cells := c2 - cp, slots := 8192 * (c2 - cp), locals := 129 } : Room) [.ref k0, .int (nI f), .int (nI g), .int gp9] (dC, dI) (zTy cI cZ cF) [(om k0 a (upd I0 26 (nI ln)) J0), (oa (a 1) cI 201 kd), (oa (a 5) cI 201 st), (oa (a 7) cI 201 gb), (oa (a 10) cI 201 it), (oa (a 8) cI 201 pa), (oa (a 9) cI 201 pb), (oa (a 2) cI 201 rk), (oa (a 3) cI 201 wd), (oa (a 4) cI 201 tw), (oa (a 6) cZ 201 tn), (oa (a 11) cI 201 mn), (oa (a 12) cI 8040 cx), (oa (a 13) cI 8040 cy), (oa (a 27) cI 516 sa), (oa (a 28) cI (4096 * cp) sh), (oa (a 16) cI 514 wh), (oa (a 17) cI 514 of9), (oa (a 18) cI 514 we), (oa (a 32) cI 8 S0), (oa (a 22) cI (64 * cl) la), (oa (a 23) cI (64 * cl) lb), (oa (a 24) cI (64 * cl) lc), (oa (a 25) cI (64 * cl) ld)] sz (some (.int (nI ft))) (fun A t => ∃ (b2 : Nat), ∃ (sh2 : Nat → Int32), ∃ (t9 : Nat), ∃ (uq : Nat), ∃ (dq : Nat), ∃ (S1 : Nat → Int32), ∃ (x1 : Int32), ∃ (x2 : Int32), ∃ (x3 : Int32), ∃ (x4 : Int32), ∃ (la1 : Nat → Int32), ∃ (lb1 : Nat → Int32), ∃ (lc1 : Nat → Int32), ∃ (ld1 : Nat → Int32), (x1 = jlo cx f n g m2) ∧ (x2 = jlo cy f n g m2) ∧ (x3 = jhi cx f n g m2) ∧ (x4 = jhi cy f n g m2) ∧ (sh2 w0 = nI ft) ∧ (∀ j, j < w0 → sh2 j = sh j) ∧ (∀ g, g < ft → ∀ j, j < 10 + 2 * (nnF st tn mn) g → sh2 (psN (nnF st tn mn) w0 g + j) = (shD kd st gb it pa pb rk wd tw (nnF st tn mn) cx cy) g j) ∧ (sh2 (psN (nnF st tn mn) w0 ft) = nI (ft + 1)) ∧ (∀ g9, g9 < ft + 1 → ∀ j, j < 10 + 2 * (nnF (upd (upd (upd st ft 1) f 2) g 2) (upd tn ft 0) (upd (upd mn 200 4) ft 4)) g9 → sh2 (psN (nnF (upd (upd (upd st ft 1) f 2) g 2) (upd tn ft 0) (upd (upd mn 200 4) ft 4)) (psN (nnF st tn mn) w0 ft) g9 + j) = (shD (upd (upd kd 200 6) ft 6) (upd (upd (upd st ft 1) f 2) g 2) (upd (upd (upd gb ft 0) f (nI (dn + 1))) g (nI (dn + 1))) (upd (upd (upd it ft (-1)) f (nI ft)) g (nI ft)) (upd pa ft (nI f)) (upd pb ft (nI g)) (upd rk ft (rk f)) (upd wd ft (wd f)) (upd tw ft (tw f)) (nnF (upd (upd (upd st ft 1) f 2) g 2) (upd tn ft 0) (upd (upd mn 200 4) ft 4)) (bxX ft (x1) (x3) 4 (bxX 200 (x1) (x3) 4 cx)) (bxY ft (x2) (x4) 4 (bxY 200 (x2) (x4) 4 cy))) g9 j) ∧ (t9 ≤ ln) ∧ (∀ j, j < t9 → ∃ i, i < ln ∧ lb1 j = lb i ∧ lc1 j = lc i) ∧ zPD (dC, dI) classes A [(om k0 (va_up a 28 b2) (upd (upd (upd (upd (upd (upd (upd (upd (upd (upd I0 0 (nI (ft + 1))) 14 0) 19 (nI (dn + 1))) 20 0) 26 (nI t9)) 41 (nI (psN (nnF (upd (upd (upd st ft 1) f 2) g 2) (upd tn ft 0) (upd (upd mn 200 4) ft 4)) (psN (nnF st tn mn) w0 ft) (ft + 1)))) 44 x1) 45 x2) 46 x3) 47 x4) (vp_updL (vp_updL J0 48 (jI ((uq : Nat) : Int))) 49 (jI ((dq : Nat) : Int)))), (oa (a 1) cI 201 (upd (upd kd 200 6) ft 6)), (oa (a 5) cI 201 (upd (upd (upd st ft 1) f 2) g 2)), (oa (a 7) cI 201 (upd (upd (upd gb ft 0) f (nI (dn + 1))) g (nI (dn + 1)))), (oa (a 10) cI 201 (upd (upd (upd it ft (-1)) f (nI ft)) g (nI ft))), (oa (a 8) cI 201 (upd pa ft (nI f))), (oa (a 9) cI 201 (upd pb ft (nI g))), (oa (a 2) cI 201 (upd rk ft (rk f))), (oa (a 3) cI 201 (upd wd ft (wd f))), (oa (a 4) cI 201 (upd tw ft (tw f))), (oa (a 6) cZ 201 (upd tn ft 0)), (oa (a 11) cI 201 (upd (upd mn 200 4) ft 4)), (oa (a 12) cI 8040 (bxX ft (x1) (x3) 4 (bxX 200 (x1) (x3) 4 cx))), (oa (a 13) cI 8040 (bxY ft (x2) (x4) 4 (bxY 200 (x2) (x4) 4 cy))), (oa (a 27) cI 516 (upd (upd sa (dn - bs + 1) (nI (psN (nnF st tn mn) w0 ft))) (dn + 1 - bs + 1) (nI (psN (nnF (upd (upd (upd st ft 1) f 2) g 2) (upd tn ft 0) (upd (upd mn 200 4) ft 4)) (psN (nnF st tn mn) w0 ft) (ft + 1))))), (oa b2 cI (4096 * c2) sh2), (oa (a 16) cI 514 (upd wh (dn + 1) (6 : Int32))), (oa (a 17) cI 514 (upd of9 (dn + 1) (nI f))), (oa (a 18) cI 514 (upd we (dn + 1) (2 : Int32))), (oa (a 32) cI 8 S1), (oa (a 22) cI (64 * cl) la1), (oa (a 23) cI (64 * cl) lb1), (oa (a 24) cI (64 * cl) lc1), (oa (a 25) cI (64 * cl) ld1)] t.heap) (c2 - cp) (8192 * (c2 - cp)) := by
  refine zIn (own := "ScaleShopModel") (loc := [(0, .ref k0), (1, .int (nI f)), (2, .int (nI g)), (3, .int gp9)]) rfl rfl rfl rfl (fun p e s m below meth c hx hb hr hts hown hlocks hml hnm9 A hA hS hP hD hK hXN Q9 hQ9 ls hl => ?_)
  have hq1 := pw_le hpw_1
  have hq2 := pw_le hpw_2
  refine lv_aload_n hx hb dX11_join_0 rfl (lv_at hl 0 rfl) ?_
  refine lv_iload_n hx hb dX11_join_1 rfl (lv_at hl 1 rfl) ?_
  obtain ⟨hPc, hDc, hFc, hI1⟩ := zi_sub (wc := [_]) hP hD hS hA [0] rfl rfl
  refine zcall (st1 := [.int (pI (f < ft))]) (va_runV (As := [.int (nI f)]) (rest := []) ⟨hx, hb, hml, hown, hts⟩ (k_M_isFeature_n l dC dI cI cZ cF s.heap.size k0 a (upd I0 26 (nI ln)) J0 f ft (by first | with_reducible assumption | assumption) (by first | with_reducible assumption | omega) (by first | with_reducible assumption | omega)) (csV_178 hts rfl rfl ⟨Nat.le_of_ble_eq_true rfl, Nat.le_of_ble_eq_true rfl⟩) (zPV2 (q0 := 0) (ci := 9) hPc hDc hK hXN rfl rfl) rfl rfl hl.1 rfl (lv_room (Nat.le_of_ble_eq_true rfl)) dX11_join_2 ⟨Nat.zero_le _, Nat.zero_le _⟩) hS hFc hFc rfl (fun t H locs ht hB hk1 hS => ?_)
  obtain ⟨hP1, hD1⟩ := hB
  rw [ht] at hP1
  replace hP := z0 hP hD hk1 hP1 hI1
  clear hk1 hPc hDc hFc hP1 hD1 ht hI1
  refine lv_if_eq (tgt := 16) hx hb dX11_join_5 rfl (fun c_1 => ?_) (fun c_1 => ?_)
  · have c_1 : ¬ (f < ft) := zp_0 c_1
    exfalso; omega
  · have c_1 : f < ft := zp_1 c_1
    refine lv_aload_n hx hb dX11_join_8 rfl (lv_at hl 0 rfl) ?_
    refine lv_iload_n hx hb dX11_join_9 rfl (lv_at hl 2 rfl) ?_
    obtain ⟨hPc, hDc, hFc, hI1⟩ := zi_sub (wc := [_]) hP hD hS hA [0] rfl rfl
    refine zcall (st1 := [.int (pI (g < ft))]) (va_runV (As := [.int (nI g)]) (rest := []) ⟨hx, hb, hml, hown, hts⟩ (k_M_isFeature_n l dC dI cI cZ cF H.size k0 a (upd I0 26 (nI ln)) J0 g ft (by first | with_reducible assumption | assumption) (by first | with_reducible assumption | omega) (by first | with_reducible assumption | omega)) (csV_178 hts rfl rfl ⟨Nat.le_of_ble_eq_true rfl, Nat.le_of_ble_eq_true rfl⟩) (zPV2 (q0 := 0) (ci := 9) hPc hDc hK hXN rfl rfl) rfl rfl hl.1 rfl (lv_room (Nat.le_of_ble_eq_true rfl)) dX11_join_10 ⟨Nat.zero_le _, Nat.zero_le _⟩) hS hFc hFc rfl (fun t H locs ht hB hk1 hS => ?_)
    obtain ⟨hP1, hD1⟩ := hB
    rw [ht] at hP1
    replace hP := z0 hP hD hk1 hP1 hI1
    clear hk1 hPc hDc hFc hP1 hD1 ht hI1
    refine lv_if_ne (tgt := 20) hx hb dX11_join_13 rfl (fun c_2 => ?_) (fun c_2 => ?_)
    · have c_2 : g < ft := zp_1 c_2
      refine lv_aload_n hx hb dX11_join_20 rfl (lv_at hl 0 rfl) ?_
      refine va_get (D := (dC, dI)) (ci := 9) (v := .ref (a 5)) (C := RX11) (T := TX11) (N := 55) hx hb hts inX11 hown hK hP 0 rfl rfl 5 (Nat.le_of_ble_eq_true rfl) (hts _ mw_1164) (fun _ h9 => h9) rfl dX11_join_21 ?_
      refine lv_iload_n hx hb dX11_join_24 rfl (lv_at hl 1 rfl) ?_
      have b9_3 : f < 201 := by omega
      refine z_iald hx hb hK hP 2 0 rfl rfl (e := f) rfl b9_3 (Nat.le_of_ble_eq_true rfl) dX11_join_25 ?_
      refine lv_iconst (v := 1) hx hb dX11_join_26 rfl ?_
      refine lv_icmp_ne (tgt := 40) hx hb dX11_join_27 rfl (fun c_4 => ?_) (fun c_4 => ?_)
      · have c_4 : ¬ (st f).toInt = 1 := zc_ne rfl rfl c_4
        exfalso; omega
      · have c_4 : (st f).toInt = 1 := zc_eq rfl rfl c_4
        refine lv_aload_n hx hb dX11_join_30 rfl (lv_at hl 0 rfl) ?_
        refine va_get (D := (dC, dI)) (ci := 9) (v := .ref (a 5)) (C := RX11) (T := TX11) (N := 55) hx hb hts inX11 hown hK hP 0 rfl rfl 5 (Nat.le_of_ble_eq_true rfl) (hts _ mw_1164) (fun _ h9 => h9) rfl dX11_join_31 ?_
        refine lv_iload_n hx hb dX11_join_34 rfl (lv_at hl 2 rfl) ?_
        have b9_5 : g < 201 := by omega
        refine z_iald hx hb hK hP 2 0 rfl rfl (e := g) rfl b9_5 (Nat.le_of_ble_eq_true rfl) dX11_join_35 ?_
        refine lv_iconst (v := 1) hx hb dX11_join_36 rfl ?_
        refine lv_icmp_eq (tgt := 44) hx hb dX11_join_37 rfl (fun c_6 => ?_) (fun c_6 => ?_)
        · have c_6 : (st g).toInt = 1 := zc_eq rfl rfl c_6
          refine lv_iconst (v := 0) hx hb dX11_join_44 rfl ?_
          refine lv_istore (lv' := [(4, .int 0), (0, .ref k0), (1, .int (nI f)), (2, .int (nI g)), (3, .int gp9)]) hx hb dX11_join_45 hl (Nat.le_of_ble_eq_true rfl) rfl (fun ls hl => ?_)
          refine lv_iload hx hb dX11_join_47 (lv_at hl 0 rfl) ?_
          refine lv_if_le (tgt := 57) hx hb dX11_join_49 rfl (fun c_7 => ?_) (fun c_7 => ?_)
          · refine lv_aload_n hx hb dX11_join_57 rfl (lv_at hl 1 rfl) ?_
            refine va_get (D := (dC, dI)) (ci := 9) (v := .ref (a 1)) (C := RX11) (T := TX11) (N := 55) hx hb hts inX11 hown hK hP 0 rfl rfl 1 (Nat.le_of_ble_eq_true rfl) (hts _ mw_1160) (fun _ h9 => h9) rfl dX11_join_58 ?_
            refine lv_iload_n hx hb dX11_join_61 rfl (lv_at hl 2 rfl) ?_
            refine z_iald hx hb hK hP 1 0 rfl rfl (e := f) rfl b9_3 (Nat.le_of_ble_eq_true rfl) dX11_join_62 ?_
            refine lv_bipush (v := 6) hx hb dX11_join_63 rfl ?_
            refine lv_icmp_ne (tgt := 79) hx hb dX11_join_65 rfl (fun c_8 => ?_) (fun c_8 => ?_)
            · have c_8 : ¬ (kd f).toInt = 6 := zc_ne rfl rfl c_8
              exfalso; omega
            · have c_8 : (kd f).toInt = 6 := zc_eq rfl rfl c_8
              refine lv_aload_n hx hb dX11_join_68 rfl (lv_at hl 1 rfl) ?_
              refine va_get (D := (dC, dI)) (ci := 9) (v := .ref (a 1)) (C := RX11) (T := TX11) (N := 55) hx hb hts inX11 hown hK hP 0 rfl rfl 1 (Nat.le_of_ble_eq_true rfl) (hts _ mw_1160) (fun _ h9 => h9) rfl dX11_join_69 ?_
              refine lv_iload_n hx hb dX11_join_72 rfl (lv_at hl 3 rfl) ?_
              refine z_iald hx hb hK hP 1 0 rfl rfl (e := g) rfl b9_5 (Nat.le_of_ble_eq_true rfl) dX11_join_73 ?_
              refine lv_bipush (v := 6) hx hb dX11_join_74 rfl ?_
              refine lv_icmp_eq (tgt := 83) hx hb dX11_join_76 rfl (fun c_9 => ?_) (fun c_9 => ?_)
              · have c_9 : (kd g).toInt = 6 := zc_eq rfl rfl c_9
                refine lv_iload_n hx hb dX11_join_83 rfl (lv_at hl 4 rfl) ?_
                refine lv_if_lt (tgt := 94) hx hb dX11_join_84 rfl (fun c_10 => ?_) (fun c_10 => ?_)
                · have c_10 : gp9.toInt < 0 := zc_lt rfl rfl c_10
                  exfalso; omega
                · have c_10 : 0 ≤ gp9.toInt := zc_nlt rfl rfl c_10
                  refine lv_iload_n hx hb dX11_join_87 rfl (lv_at hl 4 rfl) ?_
                  refine lv_sipush (v := 1000) hx hb dX11_join_88 rfl ?_
                  refine lv_icmp_le (tgt := 98) hx hb dX11_join_91 rfl (fun c_11 => ?_) (fun c_11 => ?_)
                  · have c_11 : gp9.toInt ≤ 1000 := zc_le rfl rfl c_11
                    refine lv_aload_n hx hb dX11_join_98 rfl (lv_at hl 1 rfl) ?_
                    refine va_get (D := (dC, dI)) (ci := 9) (v := .ref (a 6)) (C := RX11) (T := TX11) (N := 55) hx hb hts inX11 hown hK hP 0 rfl rfl 6 (Nat.le_of_ble_eq_true rfl) (hts _ mw_1165) (fun _ h9 => h9) rfl dX11_join_99 ?_
                    refine lv_iload_n hx hb dX11_join_102 rfl (lv_at hl 2 rfl) ?_
                    refine z_zald hx hb hK hP 10 1 rfl rfl (e := f) rfl b9_3 (Nat.le_of_ble_eq_true rfl) dX11_join_103 ?_
                    refine lv_if_ne (tgt := 116) hx hb dX11_join_104 rfl (fun c_12 => ?_) (fun c_12 => ?_)
                    · have c_12 : ¬ (tn f).toInt = 0 := zc_ne rfl rfl c_12
                      exfalso; omega
                    · have c_12 : (tn f).toInt = 0 := zc_eq rfl rfl c_12
                      refine lv_aload_n hx hb dX11_join_107 rfl (lv_at hl 1 rfl) ?_
                      refine va_get (D := (dC, dI)) (ci := 9) (v := .ref (a 6)) (C := RX11) (T := TX11) (N := 55) hx hb hts inX11 hown hK hP 0 rfl rfl 6 (Nat.le_of_ble_eq_true rfl) (hts _ mw_1165) (fun _ h9 => h9) rfl dX11_join_108 ?_
                      refine lv_iload_n hx hb dX11_join_111 rfl (lv_at hl 3 rfl) ?_
                      refine z_zald hx hb hK hP 10 1 rfl rfl (e := g) rfl b9_5 (Nat.le_of_ble_eq_true rfl) dX11_join_112 ?_
                      refine lv_if_eq (tgt := 120) hx hb dX11_join_113 rfl (fun c_13 => ?_) (fun c_13 => ?_)
                      · have c_13 : (tn g).toInt = 0 := zc_eq rfl rfl c_13
                        refine lv_iconst (v := 0) hx hb dX11_join_120 rfl ?_
                        refine lv_istore (lv' := [(4, .int 0), (0, .ref k0), (1, .int (nI f)), (2, .int (nI g)), (3, .int gp9)]) hx hb dX11_join_121 hl (Nat.le_of_ble_eq_true rfl) rfl (fun ls hl => ?_)
                        refine lv_iload hx hb dX11_join_123 (lv_at hl 0 rfl) ?_
                        refine lv_if_le (tgt := 135) hx hb dX11_join_125 rfl (fun c_14 => ?_) (fun c_14 => ?_)
                        · refine lv_aload_n hx hb dX11_join_135 rfl (lv_at hl 1 rfl) ?_
                          refine lv_iload_n hx hb dX11_join_136 rfl (lv_at hl 2 rfl) ?_
                          refine lv_iload_n hx hb dX11_join_137 rfl (lv_at hl 3 rfl) ?_
                          obtain ⟨hPc, hDc, hFc⟩ := zo_sub (wc := [_, _, _, _, _, _]) hP hD hS hA [0, 1, 11, 12, 13, 19] (by decide +kernel) rfl
                          refine zcall (st1 := []) (va_runV (As := [.int (nI f), .int (nI g)]) (rest := []) ⟨hx, hb, hml, hown, hts⟩ (k_M_distance_a l dC dI cI cZ cF H.size k0 a (upd I0 26 (nI ln)) J0 f n g m2 kd mn cx cy S0 (by first | with_reducible assumption | omega) (by first | with_reducible assumption | assumption) (by first | with_reducible assumption | omega) (by first | with_reducible assumption | assumption) (by first | with_reducible assumption | omega) (by first | with_reducible assumption | assumption) (by first | with_reducible assumption | omega) (by first | with_reducible assumption | assumption) (he_f) (he_g)) (csV_226 hts rfl rfl ⟨Nat.le_of_ble_eq_true rfl, Nat.le_of_ble_eq_true rfl⟩) (zPV2 (q0 := 0) (ci := 9) hPc hDc hK hXN rfl rfl) rfl rfl hl.1 rfl (lv_room (Nat.le_of_ble_eq_true rfl)) dX11_join_138 ⟨Nat.zero_le _, Nat.zero_le _⟩) hS hFc hFc rfl (fun t H locs ht hB hk1 hS => ?_)
                          obtain ⟨uq, dq, S2, hfr, hub, hP1, hD1⟩ := hB
                          rw [ht] at hP1
                          obtain ⟨hP, hD⟩ := zn (W2 := [(om k0 a (upd I0 26 (nI ln)) (vp_updL (vp_updL J0 48 (jI ((uq : Nat) : Int))) 49 (jI ((dq : Nat) : Int)))), _, _, _, _, _, _, _, _, _, _, _, _, _, _, _, _, _, _, (oa (a 32) cI 8 S2), _, _, _, _]) hP hD hk1 hFc hP1 hD1 [0, 1, 11, 12, 13, 19] zl_253 zl_253 [0, 1, 11, 12, 13, 19] (by decide +kernel) rfl rfl rfl rfl rfl
                          clear hk1 hPc hDc hFc hP1 hD1 ht
                          have hgb := gpB9 (g := gp9) (D := dq) hok.2.2.1 (by omega)
                          have hf9 := hfr (gp9.toInt * gp9.toInt) (by omega)
                          refine lv_aload_n hx hb dX11_join_141 rfl (lv_at hl 1 rfl) ?_
                          refine va_get (D := (dC, dI)) (ci := 9) (v := .long (jI ((uq : Nat) : Int))) (C := RX11) (T := TX11) (N := 55) hx hb hts inX11 hown hK hP 0 rfl rfl 48 (Nat.le_of_ble_eq_true rfl) (hts _ mw_1207) (fun _ h9 => h9) rfl dX11_join_142 ?_
                          refine lv_iload_n hx hb dX11_join_145 rfl (lv_at hl 4 rfl) ?_
                          refine lv_i2l (v := gp9.toInt64) hx hb dX11_join_146 (rfl) ?_
                          refine lv_iload_n hx hb dX11_join_147 rfl (lv_at hl 4 rfl) ?_
                          refine lv_i2l (v := gp9.toInt64) hx hb dX11_join_148 (rfl) ?_
                          refine lv_lmul hx hb dX11_join_149 ?_
                          refine lv_aload_n hx hb dX11_join_150 rfl (lv_at hl 1 rfl) ?_
                          refine va_get (D := (dC, dI)) (ci := 9) (v := .long (jI ((dq : Nat) : Int))) (C := RX11) (T := TX11) (N := 55) hx hb hts inX11 hown hK hP 0 rfl rfl 49 (Nat.le_of_ble_eq_true rfl) (hts _ mw_1208) (fun _ h9 => h9) rfl dX11_join_151 ?_
                          refine lv_lmul hx hb dX11_join_154 ?_
                          refine zz_l (v := jI (gp9.toInt * gp9.toInt * ((dq : Nat) : Int))) (gpL hok.2.2.1 (by omega)) ?_
                          refine W.lcmp hx hb dX11_join_155 ?_
                          refine lv_if_le (tgt := 165) hx hb dX11_join_156 rfl (fun c_15 => ?_) (fun c_15 => ?_)
                          · have c_15 : ((uq : Nat) : Int) ≤ (gp9.toInt * gp9.toInt * ((dq : Nat) : Int)) := zl_le (jI_toInt (by omega)) (jI_toInt (by omega)) c_15
                            refine lv_aload_n hx hb dX11_join_165 rfl (lv_at hl 1 rfl) ?_
                            refine lv_iload_n hx hb dX11_join_166 rfl (lv_at hl 2 rfl) ?_
                            refine lv_iconst (v := 1) hx hb dX11_join_167 rfl ?_
                            obtain ⟨hPc, hDc, hFc⟩ := zo_sub (wc := [_, _, _, _]) hP hD hS hA [0, 11, 12, 13] (by decide +kernel) rfl
                            refine zcall (st1 := []) (va_runV (As := [.int (nI f), .int 1]) (rest := []) ⟨hx, hb, hml, hown, hts⟩ (k_M_box_v l dC dI cI cZ cF H.size k0 a (upd I0 26 (nI ln)) (vp_updL (vp_updL J0 48 (jI ((uq : Nat) : Int))) 49 (jI ((dq : Nat) : Int))) f n mn cx cy (by first | with_reducible assumption | omega) (by first | with_reducible assumption | assumption) (by first | with_reducible assumption | omega) (by first | with_reducible assumption | assumption)) (csV_221 hts rfl rfl ⟨Nat.le_of_ble_eq_true rfl, Nat.le_of_ble_eq_true rfl⟩) (zPV2 (q0 := 0) (ci := 9) hPc hDc hK hXN rfl rfl) rfl rfl hl.1 rfl (lv_room (Nat.le_of_ble_eq_true rfl)) dX11_join_168 ⟨Nat.zero_le _, Nat.zero_le _⟩) hS hFc hFc rfl (fun t H locs ht hB hk1 hS => ?_)
                            obtain ⟨y1, y2, y3, y4, ea1, ea2, ea3, ea4, hP1, hD1⟩ := hB
                            rw [ht] at hP1
                            obtain ⟨hP, hD⟩ := zn (W2 := [(om k0 a (upd (upd (upd (upd (upd I0 26 (nI ln)) 44 y1) 45 y2) 46 y3) 47 y4) (vp_updL (vp_updL J0 48 (jI ((uq : Nat) : Int))) 49 (jI ((dq : Nat) : Int)))), _, _, _, _, _, _, _, _, _, _, _, _, _, _, _, _, _, _, _, _, _, _, _]) hP hD hk1 hFc hP1 hD1 [0, 11, 12, 13] zl_242 zl_242 [0, 11, 12, 13] (by decide +kernel) rfl rfl rfl rfl rfl
                            clear hk1 hPc hDc hFc hP1 hD1 ht
                            refine lv_aload_n hx hb dX11_join_171 rfl (lv_at hl 1 rfl) ?_
                            refine lv_iload_n hx hb dX11_join_172 rfl (lv_at hl 3 rfl) ?_
                            refine lv_iconst (v := 0) hx hb dX11_join_173 rfl ?_
                            obtain ⟨hPc, hDc, hFc⟩ := zo_sub (wc := [_, _, _, _]) hP hD hS hA [0, 11, 12, 13] (by decide +kernel) rfl
                            refine zcall (st1 := []) (va_runV (As := [.int (nI g), .int 0]) (rest := []) ⟨hx, hb, hml, hown, hts⟩ (k_M_box_w l dC dI cI cZ cF H.size k0 a (upd (upd (upd (upd (upd I0 26 (nI ln)) 44 y1) 45 y2) 46 y3) 47 y4) (vp_updL (vp_updL J0 48 (jI ((uq : Nat) : Int))) 49 (jI ((dq : Nat) : Int))) g m2 y1 y2 y3 y4 mn cx cy (by first | with_reducible assumption | omega) (by first | with_reducible assumption | assumption) (by first | with_reducible assumption | omega) (by first | with_reducible assumption | assumption)) (csV_221 hts rfl rfl ⟨Nat.le_of_ble_eq_true rfl, Nat.le_of_ble_eq_true rfl⟩) (zPV2 (q0 := 0) (ci := 9) hPc hDc hK hXN rfl rfl) rfl rfl hl.1 rfl (lv_room (Nat.le_of_ble_eq_true rfl)) dX11_join_174 ⟨Nat.zero_le _, Nat.zero_le _⟩) hS hFc hFc rfl (fun t H locs ht hB hk1 hS => ?_)
                            obtain ⟨x1, x2, x3, x4, eb1, eb2, eb3, eb4, hP1, hD1⟩ := hB
                            rw [ht] at hP1
                            obtain ⟨hP, hD⟩ := zn (W2 := [(om k0 a (upd (upd (upd (upd (upd I0 26 (nI ln)) 44 x1) 45 x2) 46 x3) 47 x4) (vp_updL (vp_updL J0 48 (jI ((uq : Nat) : Int))) 49 (jI ((dq : Nat) : Int)))), _, _, _, _, _, _, _, _, _, _, _, _, _, _, _, _, _, _, _, _, _, _, _]) hP hD hk1 hFc hP1 hD1 [0, 11, 12, 13] zl_242 zl_242 [0, 11, 12, 13] (by decide +kernel) rfl rfl rfl rfl rfl
                            clear hk1 hPc hDc hFc hP1 hD1 ht
                            have h0f := hp_f 0 (by omega)
                            unfold pl at h0f
                            have mA := mnP h0f.1 hp_f n (Nat.le_refl _)
                            have mB := mnP h0f.2 hp_f n (Nat.le_refl _)
                            have ej1 : x1 = jlo cx f n g m2 := jlo_e rfl ea1 mA.1 eb1
                            have ej2 : x2 = jlo cy f n g m2 := jlo_e rfl ea2 mB.2.1 eb2
                            have ej3 : x3 = jhi cx f n g m2 := jhi_e rfl ea3 mA.2.2.1 eb3
                            have ej4 : x4 = jhi cy f n g m2 := jhi_e rfl ea4 mB.2.2.2 eb4
                            clear eb1 eb2 eb3 eb4
                            have hjp : pl x1 ∧ pl x3 ∧ pl x2 ∧ pl x4 := (by rw [ej1, ej2, ej3, ej4]; exact jpl hp_f hn_f.1 hp_g)
                            have hfree9 : jFr ft st tn (upd kd 200 6) (upd mn 200 4) (bxX 200 (x1) (x3) 4 cx) (bxY 200 (x2) (x4) 4 cy) f g ft := (by rw [ej1, ej2, ej3, ej4]; exact hfree)
                            refine lv_aload_n hx hb dX11_join_177 rfl (lv_at hl 1 rfl) ?_
                            refine va_get (D := (dC, dI)) (ci := 9) (v := .int (I0 0)) (C := RX11) (T := TX11) (N := 55) hx hb hts inX11 hown hK hP 0 rfl rfl 0 (Nat.le_of_ble_eq_true rfl) (hts _ mw_1159) (fun _ h9 => h9) rfl dX11_join_178 ?_
                            refine zz_i (v := nI ft) (hft) ?_
                            refine lv_istore (lv' := [(5, .int (nI ft)), (4, .int 0), (0, .ref k0), (1, .int (nI f)), (2, .int (nI g)), (3, .int gp9)]) hx hb dX11_join_181 hl (Nat.le_of_ble_eq_true rfl) rfl (fun ls hl => ?_)
                            refine lv_aload_n hx hb dX11_join_183 rfl (lv_at hl 2 rfl) ?_
                            refine lv_sipush (v := 200) hx hb dX11_join_184 rfl ?_
                            obtain ⟨hPc, hDc, hFc⟩ := zo_sub (wc := [_, _, _, _, _]) hP hD hS hA [0, 1, 11, 12, 13] (by decide +kernel) rfl
                            refine zcall (st1 := []) (va_runV (As := [.int 200]) (rest := []) ⟨hx, hb, hml, hown, hts⟩ (k_M_layBox l dC dI cI cZ cF H.size k0 a (upd (upd (upd (upd (upd I0 26 (nI ln)) 44 x1) 45 x2) 46 x3) 47 x4) (vp_updL (vp_updL J0 48 (jI ((uq : Nat) : Int))) 49 (jI ((dq : Nat) : Int))) 200 kd mn cx cy (by first | with_reducible assumption | omega)) (csV_222 hts rfl rfl ⟨Nat.le_of_ble_eq_true rfl, Nat.le_of_ble_eq_true rfl⟩) (zPV2 (q0 := 0) (ci := 9) hPc hDc hK hXN rfl rfl) rfl rfl hl.1 rfl (lv_room (Nat.le_of_ble_eq_true rfl)) dX11_join_187 ⟨Nat.zero_le _, Nat.zero_le _⟩) hS hFc hFc rfl (fun t H locs ht hB hk1 hS => ?_)
                            obtain ⟨hP1, hD1⟩ := hB
                            rw [ht] at hP1
                            obtain ⟨hP, hD⟩ := zn (W2 := [_, (oa (a 1) cI 201 (upd kd 200 6)), _, _, _, _, _, _, _, _, _, (oa (a 11) cI 201 (upd mn 200 4)), (oa (a 12) cI 8040 (bxX 200 (x1) (x3) 4 cx)), (oa (a 13) cI 8040 (bxY 200 (x2) (x4) 4 cy)), _, _, _, _, _, _, _, _, _, _]) hP hD hk1 hFc hP1 hD1 [0, 1, 11, 12, 13] zl_254 zl_254 [0, 1, 11, 12, 13] (by decide +kernel) rfl rfl rfl rfl rfl
                            clear hk1 hPc hDc hFc hP1 hD1 ht
                            have hm_b : (upd mn 200 4) 200 = nI 4 := (up_at _ _ _).trans rfl
                            have hp_b : pls 4 (cF40 (bxX 200 (x1) (x3) 4 cx) 200) (cF40 (bxY 200 (x2) (x4) 4 cy) 200) := bx_pls hjp.1 hjp.2.1 hjp.2.2.1 hjp.2.2.2
                            have hwf2 : ∀ q, lvF ft st tn q → wfM (upd mn 200 4) (bxX 200 (x1) (x3) 4 cx) (bxY 200 (x2) (x4) 4 cy) q := fun q h1 => wfM_o (f := 200) (hwf q h1) (by have := h1.1; omega) (fun j hj => if_neg hj) (fun j hj => ⟨bxX_o (by omega), bxY_o (by omega)⟩)
                            refine lv_iconst (v := 1) hx hb dX11_join_190 rfl ?_
                            refine lv_istore (lv' := [(6, .int 1), (5, .int (nI ft)), (4, .int 0), (0, .ref k0), (1, .int (nI f)), (2, .int (nI g)), (3, .int gp9)]) hx hb dX11_join_191 hl (Nat.le_of_ble_eq_true rfl) rfl (fun ls hl => ?_)
                            refine lv_iconst (v := 0) hx hb dX11_join_193 rfl ?_
                            refine lv_istore (lv' := [(7, .int 0), (6, .int 1), (5, .int (nI ft)), (4, .int 0), (0, .ref k0), (1, .int (nI f)), (2, .int (nI g)), (3, .int gp9)]) hx hb dX11_join_194 hl (Nat.le_of_ble_eq_true rfl) rfl (fun ls hl => ?_)
                            have hl_196 : ∀ (n9 : Nat) (q : Nat) (S1 : Nat → Int32) (H : Heap) (locs : List Loc) (ls : Array Slot), ft - q < n9 → (q ≤ ft) → va_P (dC, dI) classes [(om k0 a (upd (upd (upd (upd (upd I0 26 (nI ln)) 44 x1) 45 x2) 46 x3) 47 x4) (vp_updL (vp_updL J0 48 (jI ((uq : Nat) : Int))) 49 (jI ((dq : Nat) : Int)))), (oa (a 1) cI 201 (upd kd 200 6)), (oa (a 5) cI 201 st), (oa (a 7) cI 201 gb), (oa (a 10) cI 201 it), (oa (a 8) cI 201 pa), (oa (a 9) cI 201 pb), (oa (a 2) cI 201 rk), (oa (a 3) cI 201 wd), (oa (a 4) cI 201 tw), (oa (a 6) cZ 201 tn), (oa (a 11) cI 201 (upd mn 200 4)), (oa (a 12) cI 8040 (bxX 200 (x1) (x3) 4 cx)), (oa (a 13) cI 8040 (bxY 200 (x2) (x4) 4 cy)), (oa (a 27) cI 516 sa), (oa (a 28) cI (4096 * cp) sh), (oa (a 16) cI 514 wh), (oa (a 17) cI 514 of9), (oa (a 18) cI 514 we), (oa (a 32) cI 8 S1), (oa (a 22) cI (64 * cl) la), (oa (a 23) cI (64 * cl) lb), (oa (a 24) cI (64 * cl) lc), (oa (a 25) cI (64 * cl) ld)] H → va_D A [(om k0 a (upd (upd (upd (upd (upd I0 26 (nI ln)) 44 x1) 45 x2) 46 x3) 47 x4) (vp_updL (vp_updL J0 48 (jI ((uq : Nat) : Int))) 49 (jI ((dq : Nat) : Int)))), (oa (a 1) cI 201 (upd kd 200 6)), (oa (a 5) cI 201 st), (oa (a 7) cI 201 gb), (oa (a 10) cI 201 it), (oa (a 8) cI 201 pa), (oa (a 9) cI 201 pb), (oa (a 2) cI 201 rk), (oa (a 3) cI 201 wd), (oa (a 4) cI 201 tw), (oa (a 6) cZ 201 tn), (oa (a 11) cI 201 (upd mn 200 4)), (oa (a 12) cI 8040 (bxX 200 (x1) (x3) 4 cx)), (oa (a 13) cI 8040 (bxY 200 (x2) (x4) 4 cy)), (oa (a 27) cI 516 sa), (oa (a 28) cI (4096 * cp) sh), (oa (a 16) cI 514 wh), (oa (a 17) cI 514 of9), (oa (a 18) cI 514 we), (oa (a 32) cI 8 S1), (oa (a 22) cI (64 * cl) la), (oa (a 23) cI (64 * cl) lb), (oa (a 24) cI (64 * cl) lc), (oa (a 25) cI (64 * cl) ld)] → va_S A s.heap H locs → lv_has ls 9 [(7, .int (nI q)), (6, .int (pI (jFr ft st tn (upd kd 200 6) (upd mn 200 4) (bxX 200 (x1) (x3) 4 cx) (bxY 200 (x2) (x4) 4 cy) f g q))), (5, .int (nI ft)), (4, .int 0), (0, .ref k0), (1, .int (nI f)), (2, .int (nI g)), (3, .int gp9)] → W p l e ({ frames := 5, cells := c2 - cp, slots := 8192 * (c2 - cp), locals := 129 } : Room) s m ([.ref k0, .int (nI f), .int (nI g), .int gp9] : List Value).toArray below meth c H locs 0 0 Q9 (F0 m 196 ls []) := by
                              intro n9
                              induction n9 with
                              | zero => intro q S1 H locs ls hm; exact absurd hm (Nat.not_lt_zero _)
                              | succ n9 ih_196 =>
                                intro q S1 H locs ls hm hq hP hD hS hl
                                refine lv_iload hx hb dX11_join_196 (lv_at hl 0 rfl) ?_
                                refine lv_iload hx hb dX11_join_198 (lv_at hl 2 rfl) ?_
                                have b9_17 : zlt (q) := show q < 2147483648 by omega
                                have b9_18 : zlt (ft) := show ft < 2147483648 by omega
                                refine lv_icmp_ge (tgt := 275) hx hb dX11_join_200 rfl (fun c_16 => ?_) (fun c_16 => ?_)
                                · have c_16 : ((ft : Nat) : Int) ≤ ((q : Nat) : Int) := zc_le (nI_toInt b9_18) (nI_toInt b9_17) c_16
                                  have hqe : q = ft := (by omega)
                                  rw [hqe] at hl
                                  refine lv_iload hx hb dX11_join_275 (lv_at hl 1 rfl) ?_
                                  refine lv_if_ne (tgt := 287) hx hb dX11_join_277 rfl (fun c_19 => ?_) (fun c_19 => ?_)
                                  · have c_19 : jFr ft st tn (upd kd 200 6) (upd mn 200 4) (bxX 200 (x1) (x3) 4 cx) (bxY 200 (x2) (x4) 4 cy) f g ft := zp_1 c_19
                                    refine lv_iload_n hx hb dX11_join_287 rfl (lv_at hl 5 rfl) ?_
                                    refine lv_iload_n hx hb dX11_join_288 rfl (lv_at hl 6 rfl) ?_
                                    have b9_21 : zlt (f) := show f < 2147483648 by omega
                                    have b9_22 : zlt (g) := show g < 2147483648 by omega
                                    refine lv_icmp_eq (tgt := 302) hx hb dX11_join_289 rfl (fun c_20 => ?_) (fun c_20 => ?_)
                                    · have c_20 : ((f : Nat) : Int) = ((g : Nat) : Int) := zc_eq (nI_toInt b9_21) (nI_toInt b9_22) c_20
                                      exfalso; omega
                                    · have c_20 : ¬ ((f : Nat) : Int) = ((g : Nat) : Int) := zc_ne (nI_toInt b9_21) (nI_toInt b9_22) c_20
                                      refine lv_aload_n hx hb dX11_join_292 rfl (lv_at hl 4 rfl) ?_
                                      refine va_get (D := (dC, dI)) (ci := 9) (v := .int (I0 0)) (C := RX11) (T := TX11) (N := 55) hx hb hts inX11 hown hK hP 0 rfl rfl 0 (Nat.le_of_ble_eq_true rfl) (hts _ mw_1159) (fun _ h9 => h9) rfl dX11_join_293 ?_
                                      refine zz_i (v := nI ft) (hft) ?_
                                      refine lv_sipush (v := 200) hx hb dX11_join_296 rfl ?_
                                      refine lv_icmp_ne (tgt := 309) hx hb dX11_join_299 rfl (fun c_23 => ?_) (fun c_23 => ?_)
                                      · have c_23 : ¬ ((ft : Nat) : Int) = 200 := zc_ne (nI_toInt b9_18) rfl c_23
                                        refine lv_aload_n hx hb dX11_join_309 rfl (lv_at hl 4 rfl) ?_
                                        obtain ⟨hPc, hDc, hFc⟩ := zo_sub (wc := [_, _, _, _, _, _, _, _, _, _, _, _, _, _, _, _]) hP hD hS hA [0, 1, 2, 3, 4, 5, 6, 7, 8, 9, 10, 11, 12, 13, 14, 15] (by decide +kernel) rfl
                                        refine zcall (st1 := []) (va_runV (As := []) (rest := []) ⟨hx, hb, hml, hown, hts⟩ (k_M_begins l dC dI cI cZ cF H.size k0 a (upd (upd (upd (upd (upd I0 26 (nI ln)) 44 x1) 45 x2) 46 x3) 47 x4) (vp_updL (vp_updL J0 48 (jI ((uq : Nat) : Int))) 49 (jI ((dq : Nat) : Int))) dn bs ft w0 cp c1 (upd kd 200 6) st gb it pa pb rk wd tw tn (upd mn 200 4) (bxX 200 (x1) (x3) 4 cx) (bxY 200 (x2) (x4) 4 cy) sa sh (hft) (by first | with_reducible assumption | omega) (hdn) (hbs) (by first | with_reducible assumption | omega) (by first | with_reducible assumption | omega) (hi5_1) (hsa_1) (fun v9 h1 h2 h3 => by rw [show (upd mn 200 4) v9 = mn v9 from if_neg (by first | with_reducible assumption | omega)]; exact hmn_1 v9 h1 h2 h3) (hc1_1) (hpw_1) (hw0_1) (by rw [psN_cg (fun g hg => nn200 (by first | with_reducible assumption | omega)) ft (Nat.le_refl _)]; exact hfit_1) (by rw [psN_cg (fun g hg => nn200 (by first | with_reducible assumption | omega)) ft (Nat.le_refl _)]; exact hmin_1) (hcE_1)) (csV_205 hts rfl rfl ⟨Nat.le_of_ble_eq_true rfl, Nat.le_of_ble_eq_true rfl⟩) (zPV2 (q0 := 0) (ci := 9) hPc hDc hK hXN rfl rfl) rfl rfl hl.1 rfl (lv_room (Nat.le_of_ble_eq_true rfl)) dX11_join_310 ⟨show (0 + (c1 - cp)) ≤ c2 - cp by omega, show (0 + (8192 * (c1 - cp))) ≤ 8192 * (c2 - cp) by omega⟩) hS hFc hFc rfl (fun t H locs ht hB hk1 hS => ?_)
                                        obtain ⟨b1, sh1, g1, g2, g3, g4, hP1, hD1⟩ := hB
                                        rw [ht] at hP1
                                        obtain ⟨hP, hD⟩ := zn (W2 := [_, _, _, _, _, _, _, _, (om k0 (va_up a 28 b1) (upd (upd (upd (upd (upd (upd I0 26 (nI ln)) 41 (nI (psN (nnF st tn (upd mn 200 4)) w0 ft))) 44 x1) 45 x2) 46 x3) 47 x4) (vp_updL (vp_updL J0 48 (jI ((uq : Nat) : Int))) 49 (jI ((dq : Nat) : Int)))), (oa (a 1) cI 201 (upd kd 200 6)), (oa (a 5) cI 201 st), (oa (a 7) cI 201 gb), (oa (a 10) cI 201 it), (oa (a 8) cI 201 pa), (oa (a 9) cI 201 pb), (oa (a 2) cI 201 rk), (oa (a 3) cI 201 wd), (oa (a 4) cI 201 tw), (oa (a 6) cZ 201 tn), (oa (a 11) cI 201 (upd mn 200 4)), (oa (a 12) cI 8040 (bxX 200 (x1) (x3) 4 cx)), (oa (a 13) cI 8040 (bxY 200 (x2) (x4) 4 cy)), (oa (a 27) cI 516 (upd sa ((dn - bs) + 1) (nI (psN (nnF st tn (upd mn 200 4)) w0 ft)))), (oa b1 cI (4096 * c1) sh1)]) hP hD hk1 hFc hP1 hD1 zl_80 zl_206 zl_207 zl_208 (by decide +kernel) rfl rfl rfl rfl rfl
                                        clear hk1 hPc hDc hFc hP1 hD1 ht
                                        have hnq : ∀ g, g < ft → (nnF st tn (upd mn 200 4)) g = (nnF st tn mn) g := fun g hg => nn200 (by omega)
                                        rw [psN_cg hnq ft (Nat.le_refl _)] at hP hD g4
                                        have g3 : ∀ g, g < ft → ∀ j, j < 10 + 2 * (nnF st tn mn) g → sh1 (psN (nnF st tn mn) w0 g + j) = (shD kd st gb it pa pb rk wd tw (nnF st tn mn) cx cy) g j := fun g9 hg j hj => by have e9 := hnq g9 hg; have h9 := g3 g9 hg j (by rw [e9]; exact hj); rw [psN_cg hnq g9 (by omega)] at h9; rw [h9]; exact sh200 (by omega) e9 (nn_le hmn_1 hg) hj
                                        refine lv_aload_n hx hb dX11_join_313 rfl (lv_at hl 4 rfl) ?_
                                        refine va_get (D := (dC, dI)) (ci := 9) (v := .int (I0 0)) (C := RX11) (T := TX11) (N := 55) hx hb hts inX11 hown hK hP 8 rfl rfl 0 (Nat.le_of_ble_eq_true rfl) (hts _ mw_1159) (fun _ h9 => h9) rfl dX11_join_314 ?_
                                        refine zz_i (v := nI ft) (hft) ?_
                                        refine lv_istore (lv' := [(7, .int (nI ft)), (6, .int (pI (jFr ft st tn (upd kd 200 6) (upd mn 200 4) (bxX 200 (x1) (x3) 4 cx) (bxY 200 (x2) (x4) 4 cy) f g ft))), (5, .int (nI ft)), (4, .int 0), (0, .ref k0), (1, .int (nI f)), (2, .int (nI g)), (3, .int gp9)]) hx hb dX11_join_317 hl (Nat.le_of_ble_eq_true rfl) rfl (fun ls hl => ?_)
                                        refine lv_aload_n hx hb dX11_join_319 rfl (lv_at hl 4 rfl) ?_
                                        refine lv_iload hx hb dX11_join_320 (lv_at hl 0 rfl) ?_
                                        refine lv_bipush (v := 6) hx hb dX11_join_322 rfl ?_
                                        refine lv_aload_n hx hb dX11_join_324 rfl (lv_at hl 4 rfl) ?_
                                        refine va_get (D := (dC, dI)) (ci := 9) (v := .ref (a 2)) (C := RX11) (T := TX11) (N := 55) hx hb hts inX11 hown hK hP 8 rfl rfl 2 (Nat.le_of_ble_eq_true rfl) (hts _ mw_1161) (fun _ h9 => h9) rfl dX11_join_325 ?_
                                        refine lv_iload_n hx hb dX11_join_328 rfl (lv_at hl 5 rfl) ?_
                                        refine z_iald hx hb hK hP 15 0 rfl rfl (e := f) rfl b9_3 (Nat.le_of_ble_eq_true rfl) dX11_join_329 ?_
                                        refine lv_aload_n hx hb dX11_join_330 rfl (lv_at hl 4 rfl) ?_
                                        refine va_get (D := (dC, dI)) (ci := 9) (v := .ref (a 3)) (C := RX11) (T := TX11) (N := 55) hx hb hts inX11 hown hK hP 8 rfl rfl 3 (Nat.le_of_ble_eq_true rfl) (hts _ mw_1162) (fun _ h9 => h9) rfl dX11_join_331 ?_
                                        refine lv_iload_n hx hb dX11_join_334 rfl (lv_at hl 5 rfl) ?_
                                        refine z_iald hx hb hK hP 16 0 rfl rfl (e := f) rfl b9_3 (Nat.le_of_ble_eq_true rfl) dX11_join_335 ?_
                                        refine lv_aload_n hx hb dX11_join_336 rfl (lv_at hl 4 rfl) ?_
                                        refine va_get (D := (dC, dI)) (ci := 9) (v := .ref (a 4)) (C := RX11) (T := TX11) (N := 55) hx hb hts inX11 hown hK hP 8 rfl rfl 4 (Nat.le_of_ble_eq_true rfl) (hts _ mw_1163) (fun _ h9 => h9) rfl dX11_join_337 ?_
                                        refine lv_iload_n hx hb dX11_join_340 rfl (lv_at hl 5 rfl) ?_
                                        refine z_iald hx hb hK hP 17 0 rfl rfl (e := f) rfl b9_3 (Nat.le_of_ble_eq_true rfl) dX11_join_341 ?_
                                        obtain ⟨hPc, hDc, hFc⟩ := zo_sub (wc := [_, _, _, _, _, _, _, _, _, _, _, _]) hP hD hS hA [8, 9, 15, 16, 17, 10, 18, 11, 13, 14, 12, 19] (by decide +kernel) rfl
                                        refine zcall (st1 := []) (va_runV (As := [.int (nI ft), .int 6, .int (rk f), .int (wd f), .int (tw f)]) (rest := []) ⟨hx, hb, hml, hown, hts⟩ (k_M_begin l dC dI cI cZ cF H.size k0 (va_up a 28 b1) (upd (upd (upd (upd (upd (upd I0 26 (nI ln)) 41 (nI (psN (nnF st tn mn) w0 ft))) 44 x1) 45 x2) 46 x3) 47 x4) (vp_updL (vp_updL J0 48 (jI ((uq : Nat) : Int))) 49 (jI ((dq : Nat) : Int))) ft 6 (rk f) (wd f) (tw f) (upd kd 200 6) rk wd tw st tn gb pa pb it (upd mn 200 4) (by first | with_reducible assumption | omega)) (csV_196 hts rfl rfl ⟨Nat.le_of_ble_eq_true rfl, Nat.le_of_ble_eq_true rfl⟩) (zPV2 (q0 := 0) (ci := 9) hPc hDc hK hXN rfl rfl) rfl rfl hl.1 rfl (lv_room (Nat.le_of_ble_eq_true rfl)) dX11_join_342 ⟨show (0 + (c1 - cp)) ≤ c2 - cp by omega, show (0 + (8192 * (c1 - cp))) ≤ 8192 * (c2 - cp) by omega⟩) hS hFc hFc rfl (fun t H locs ht hB hk1 hS => ?_)
                                        obtain ⟨hP1, hD1⟩ := hB
                                        rw [ht] at hP1
                                        obtain ⟨hP, hD⟩ := zn (W2 := [_, _, _, _, _, _, _, _, (om k0 (va_up a 28 b1) (upd (upd (upd (upd (upd (upd (upd I0 0 (nI (ft + 1))) 26 (nI ln)) 41 (nI (psN (nnF st tn mn) w0 ft))) 44 x1) 45 x2) 46 x3) 47 x4) (vp_updL (vp_updL J0 48 (jI ((uq : Nat) : Int))) 49 (jI ((dq : Nat) : Int)))), (oa (a 1) cI 201 (upd (upd kd 200 6) ft (6 : Int32))), (oa (a 5) cI 201 (upd st ft 0)), (oa (a 7) cI 201 (upd gb ft 0)), (oa (a 10) cI 201 (upd it ft (-1))), (oa (a 8) cI 201 (upd pa ft (-1))), (oa (a 9) cI 201 (upd pb ft (-1))), (oa (a 2) cI 201 (upd rk ft (rk f))), (oa (a 3) cI 201 (upd wd ft (wd f))), (oa (a 4) cI 201 (upd tw ft (tw f))), (oa (a 6) cZ 201 (upd tn ft 0)), (oa (a 11) cI 201 (upd (upd mn 200 4) ft 0)), _, _, _, _]) hP hD hk1 hFc hP1 hD1 zl_255 zl_256 zl_256 zl_255 (by decide +kernel) rfl rfl rfl rfl rfl
                                        clear hk1 hPc hDc hFc hP1 hD1 ht
                                        refine lv_aload_n hx hb dX11_join_345 rfl (lv_at hl 4 rfl) ?_
                                        refine lv_iload hx hb dX11_join_346 (lv_at hl 0 rfl) ?_
                                        obtain ⟨hPc, hDc, hFc⟩ := zo_sub (wc := [_, _, _, _, _]) hP hD hS hA [8, 9, 19, 20, 21] (by decide +kernel) rfl
                                        refine zcall (st1 := []) (va_runV (As := [.int (nI ft)]) (rest := []) ⟨hx, hb, hml, hown, hts⟩ (k_M_layBox l dC dI cI cZ cF H.size k0 (va_up a 28 b1) (upd (upd (upd (upd (upd (upd (upd I0 0 (nI (ft + 1))) 26 (nI ln)) 41 (nI (psN (nnF st tn mn) w0 ft))) 44 x1) 45 x2) 46 x3) 47 x4) (vp_updL (vp_updL J0 48 (jI ((uq : Nat) : Int))) 49 (jI ((dq : Nat) : Int))) ft (upd (upd kd 200 6) ft (6 : Int32)) (upd (upd mn 200 4) ft 0) (bxX 200 (x1) (x3) 4 cx) (bxY 200 (x2) (x4) 4 cy) (by first | with_reducible assumption | omega)) (csV_222 hts rfl rfl ⟨Nat.le_of_ble_eq_true rfl, Nat.le_of_ble_eq_true rfl⟩) (zPV2 (q0 := 0) (ci := 9) hPc hDc hK hXN rfl rfl) rfl rfl hl.1 rfl (lv_room (Nat.le_of_ble_eq_true rfl)) dX11_join_348 ⟨show (0 + (c1 - cp)) ≤ c2 - cp by omega, show (0 + (8192 * (c1 - cp))) ≤ 8192 * (c2 - cp) by omega⟩) hS hFc hFc rfl (fun t H locs ht hB hk1 hS => ?_)
                                        obtain ⟨hP1, hD1⟩ := hB
                                        rw [ht] at hP1
                                        obtain ⟨hP, hD⟩ := zn (W2 := [_, _, _, _, _, _, _, _, _, (oa (a 1) cI 201 (upd (upd (upd kd 200 6) ft (6 : Int32)) ft 6)), _, _, _, _, _, _, _, _, _, (oa (a 11) cI 201 (upd (upd (upd mn 200 4) ft 0) ft 4)), (oa (a 12) cI 8040 (bxX ft (x1) (x3) 4 (bxX 200 (x1) (x3) 4 cx))), (oa (a 13) cI 8040 (bxY ft (x2) (x4) 4 (bxY 200 (x2) (x4) 4 cy))), _, _]) hP hD hk1 hFc hP1 hD1 [8, 9, 19, 20, 21] zl_257 zl_257 [8, 9, 19, 20, 21] (by decide +kernel) rfl rfl rfl rfl rfl
                                        clear hk1 hPc hDc hFc hP1 hD1 ht
                                        refine lv_aload_n hx hb dX11_join_351 rfl (lv_at hl 4 rfl) ?_
                                        refine va_get (D := (dC, dI)) (ci := 9) (v := .ref (a 5)) (C := RX11) (T := TX11) (N := 55) hx hb hts inX11 hown hK hP 8 rfl rfl 5 (Nat.le_of_ble_eq_true rfl) (hts _ mw_1164) (fun _ h9 => h9) rfl dX11_join_352 ?_
                                        refine lv_iload hx hb dX11_join_355 (lv_at hl 0 rfl) ?_
                                        refine lv_iconst (v := 1) hx hb dX11_join_357 rfl ?_
                                        have b9_24 : ft < 201 := by omega
                                        refine z_iast hx hb hK hP hD hS 10 0 rfl rfl (e := ft) (x := 1) rfl b9_24 (Nat.le_of_ble_eq_true rfl) dX11_join_358 (fun H locs hP hD hS => ?_)
                                        obtain ⟨hP, hD⟩ := zre (W2 := [_, _, _, _, _, _, _, _, _, _, (oa (a 5) cI 201 (upd (upd st ft 0) ft 1)), _, _, _, _, _, _, _, _, _, _, _, _, _]) hP hD rfl
                                        refine lv_aload_n hx hb dX11_join_359 rfl (lv_at hl 4 rfl) ?_
                                        refine va_get (D := (dC, dI)) (ci := 9) (v := .ref (a 8)) (C := RX11) (T := TX11) (N := 55) hx hb hts inX11 hown hK hP 8 rfl rfl 8 (Nat.le_of_ble_eq_true rfl) (hts _ mw_1167) (fun _ h9 => h9) rfl dX11_join_360 ?_
                                        refine lv_iload hx hb dX11_join_363 (lv_at hl 0 rfl) ?_
                                        refine lv_iload_n hx hb dX11_join_365 rfl (lv_at hl 5 rfl) ?_
                                        refine z_iast hx hb hK hP hD hS 13 0 rfl rfl (e := ft) (x := nI f) rfl b9_24 (Nat.le_of_ble_eq_true rfl) dX11_join_366 (fun H locs hP hD hS => ?_)
                                        obtain ⟨hP, hD⟩ := zre (W2 := [_, _, _, _, _, _, _, _, _, _, _, _, _, (oa (a 8) cI 201 (upd (upd pa ft (-1)) ft (nI f))), _, _, _, _, _, _, _, _, _, _]) hP hD rfl
                                        refine lv_aload_n hx hb dX11_join_367 rfl (lv_at hl 4 rfl) ?_
                                        refine va_get (D := (dC, dI)) (ci := 9) (v := .ref (a 9)) (C := RX11) (T := TX11) (N := 55) hx hb hts inX11 hown hK hP 8 rfl rfl 9 (Nat.le_of_ble_eq_true rfl) (hts _ mw_1168) (fun _ h9 => h9) rfl dX11_join_368 ?_
                                        refine lv_iload hx hb dX11_join_371 (lv_at hl 0 rfl) ?_
                                        refine lv_iload_n hx hb dX11_join_373 rfl (lv_at hl 6 rfl) ?_
                                        refine z_iast hx hb hK hP hD hS 14 0 rfl rfl (e := ft) (x := nI g) rfl b9_24 (Nat.le_of_ble_eq_true rfl) dX11_join_374 (fun H locs hP hD hS => ?_)
                                        obtain ⟨hP, hD⟩ := zre (W2 := [_, _, _, _, _, _, _, _, _, _, _, _, _, _, (oa (a 9) cI 201 (upd (upd pb ft (-1)) ft (nI g))), _, _, _, _, _, _, _, _, _]) hP hD rfl
                                        rw [upd2 (m := st), upd2 (m := upd kd 200 6), upd2 (m := upd mn 200 4), upd2 (m := pa), upd2 (m := pb)] at hP hD
                                        refine lv_aload_n hx hb dX11_join_375 rfl (lv_at hl 4 rfl) ?_
                                        refine lv_iload_n hx hb dX11_join_376 rfl (lv_at hl 5 rfl) ?_
                                        refine lv_iload hx hb dX11_join_377 (lv_at hl 0 rfl) ?_
                                        obtain ⟨hPc, hDc, hFc⟩ := zo_sub (wc := [_, _, _, _]) hP hD hS hA [8, 10, 11, 12] (by decide +kernel) rfl
                                        refine zcall (st1 := []) (va_runV (As := [.int (nI f), .int (nI ft)]) (rest := []) ⟨hx, hb, hml, hown, hts⟩ (k_M_gone_n l dC dI cI cZ cF H.size k0 (va_up a 28 b1) (upd (upd (upd (upd (upd (upd (upd I0 0 (nI (ft + 1))) 26 (nI ln)) 41 (nI (psN (nnF st tn mn) w0 ft))) 44 x1) 45 x2) 46 x3) 47 x4) (vp_updL (vp_updL J0 48 (jI ((uq : Nat) : Int))) 49 (jI ((dq : Nat) : Int))) f dn (nI ft) (upd st ft 1) (upd gb ft 0) (upd it ft (-1)) (by first | with_reducible assumption | omega) (hdn)) (csV_213 hts rfl rfl ⟨Nat.le_of_ble_eq_true rfl, Nat.le_of_ble_eq_true rfl⟩) (zPV2 (q0 := 0) (ci := 9) hPc hDc hK hXN rfl rfl) rfl rfl hl.1 rfl (lv_room (Nat.le_of_ble_eq_true rfl)) dX11_join_379 ⟨show (0 + (c1 - cp)) ≤ c2 - cp by omega, show (0 + (8192 * (c1 - cp))) ≤ 8192 * (c2 - cp) by omega⟩) hS hFc hFc rfl (fun t H locs ht hB hk1 hS => ?_)
                                        obtain ⟨hP1, hD1⟩ := hB
                                        rw [ht] at hP1
                                        obtain ⟨hP, hD⟩ := zn (W2 := [_, _, _, _, _, _, _, _, _, _, (oa (a 5) cI 201 (upd (upd st ft 1) f 2)), (oa (a 7) cI 201 (upd (upd gb ft 0) f (nI (dn + 1)))), (oa (a 10) cI 201 (upd (upd it ft (-1)) f (nI ft))), _, _, _, _, _, _, _, _, _, _, _]) hP hD hk1 hFc hP1 hD1 [8, 10, 11, 12] zl_213 zl_213 [8, 10, 11, 12] (by decide +kernel) rfl rfl rfl rfl rfl
                                        clear hk1 hPc hDc hFc hP1 hD1 ht
                                        refine lv_aload_n hx hb dX11_join_382 rfl (lv_at hl 4 rfl) ?_
                                        refine lv_iload_n hx hb dX11_join_383 rfl (lv_at hl 6 rfl) ?_
                                        refine lv_iload hx hb dX11_join_384 (lv_at hl 0 rfl) ?_
                                        obtain ⟨hPc, hDc, hFc⟩ := zo_sub (wc := [_, _, _, _]) hP hD hS hA [8, 10, 11, 12] (by decide +kernel) rfl
                                        refine zcall (st1 := []) (va_runV (As := [.int (nI g), .int (nI ft)]) (rest := []) ⟨hx, hb, hml, hown, hts⟩ (k_M_gone_n l dC dI cI cZ cF H.size k0 (va_up a 28 b1) (upd (upd (upd (upd (upd (upd (upd I0 0 (nI (ft + 1))) 26 (nI ln)) 41 (nI (psN (nnF st tn mn) w0 ft))) 44 x1) 45 x2) 46 x3) 47 x4) (vp_updL (vp_updL J0 48 (jI ((uq : Nat) : Int))) 49 (jI ((dq : Nat) : Int))) g dn (nI ft) (upd (upd st ft 1) f 2) (upd (upd gb ft 0) f (nI (dn + 1))) (upd (upd it ft (-1)) f (nI ft)) (by first | with_reducible assumption | omega) (hdn)) (csV_213 hts rfl rfl ⟨Nat.le_of_ble_eq_true rfl, Nat.le_of_ble_eq_true rfl⟩) (zPV2 (q0 := 0) (ci := 9) hPc hDc hK hXN rfl rfl) rfl rfl hl.1 rfl (lv_room (Nat.le_of_ble_eq_true rfl)) dX11_join_386 ⟨show (0 + (c1 - cp)) ≤ c2 - cp by omega, show (0 + (8192 * (c1 - cp))) ≤ 8192 * (c2 - cp) by omega⟩) hS hFc hFc rfl (fun t H locs ht hB hk1 hS => ?_)
                                        obtain ⟨hP1, hD1⟩ := hB
                                        rw [ht] at hP1
                                        obtain ⟨hP, hD⟩ := zn (W2 := [_, _, _, _, _, _, _, _, _, _, (oa (a 5) cI 201 (upd (upd (upd st ft 1) f 2) g 2)), (oa (a 7) cI 201 (upd (upd (upd gb ft 0) f (nI (dn + 1))) g (nI (dn + 1)))), (oa (a 10) cI 201 (upd (upd (upd it ft (-1)) f (nI ft)) g (nI ft))), _, _, _, _, _, _, _, _, _, _, _]) hP hD hk1 hFc hP1 hD1 [8, 10, 11, 12] zl_213 zl_213 [8, 10, 11, 12] (by decide +kernel) rfl rfl rfl rfl rfl
                                        clear hk1 hPc hDc hFc hP1 hD1 ht
                                        refine lv_aload_n hx hb dX11_join_389 rfl (lv_at hl 4 rfl) ?_
                                        refine lv_aload_n hx hb dX11_join_390 rfl (lv_at hl 4 rfl) ?_
                                        refine va_get (D := (dC, dI)) (ci := 9) (v := .int (nI ln)) (C := RX11) (T := TX11) (N := 55) hx hb hts inX11 hown hK hP 8 rfl rfl 26 (Nat.le_of_ble_eq_true rfl) (hts _ mw_1185) (fun _ h9 => h9) rfl dX11_join_391 ?_
                                        obtain ⟨hPc, hDc, hFc⟩ := zo_sub (wc := [_, _, _, _, _]) hP hD hS hA [8, 4, 5, 6, 7] (by decide +kernel) rfl
                                        refine zcall (st1 := []) (va_runV (As := [.int (nI ln)]) (rest := []) ⟨hx, hb, hml, hown, hts⟩ (k_M_squeeze l dC dI cI cZ cF H.size k0 (va_up a 28 b1) (upd (upd (upd (upd (upd (upd (upd I0 0 (nI (ft + 1))) 26 (nI ln)) 41 (nI (psN (nnF st tn mn) w0 ft))) 44 x1) 45 x2) 46 x3) 47 x4) (vp_updL (vp_updL J0 48 (jI ((uq : Nat) : Int))) 49 (jI ((dq : Nat) : Int))) ln ln cl la lb lc ld (rfl) (by first | with_reducible assumption | omega) (by first | with_reducible assumption | omega) (by first | with_reducible assumption | omega) (by first | with_reducible assumption | omega)) (csV_207 hts rfl rfl ⟨Nat.le_of_ble_eq_true rfl, Nat.le_of_ble_eq_true rfl⟩) (zPV2 (q0 := 0) (ci := 9) hPc hDc hK hXN rfl rfl) rfl rfl hl.1 rfl (lv_room (Nat.le_of_ble_eq_true rfl)) dX11_join_394 ⟨show (0 + (c1 - cp)) ≤ c2 - cp by omega, show (0 + (8192 * (c1 - cp))) ≤ 8192 * (c2 - cp) by omega⟩) hS hFc hFc rfl (fun t H locs ht hB hk1 hS => ?_)
                                        obtain ⟨t9, la1, lb1, lc1, ld1, hs1, hs2, hP1, hD1⟩ := hB
                                        rw [ht] at hP1
                                        obtain ⟨hP, hD⟩ := zn (W2 := [_, _, _, _, (oa (a 22) cI (64 * cl) la1), (oa (a 23) cI (64 * cl) lb1), (oa (a 24) cI (64 * cl) lc1), (oa (a 25) cI (64 * cl) ld1), (om k0 (va_up a 28 b1) (upd (upd (upd (upd (upd (upd (upd I0 0 (nI (ft + 1))) 26 (nI t9)) 41 (nI (psN (nnF st tn mn) w0 ft))) 44 x1) 45 x2) 46 x3) 47 x4) (vp_updL (vp_updL J0 48 (jI ((uq : Nat) : Int))) 49 (jI ((dq : Nat) : Int)))), _, _, _, _, _, _, _, _, _, _, _, _, _, _, _]) hP hD hk1 hFc hP1 hD1 [8, 4, 5, 6, 7] zl_258 zl_258 [8, 4, 5, 6, 7] (by decide +kernel) rfl rfl rfl rfl rfl
                                        clear hk1 hPc hDc hFc hP1 hD1 ht
                                        refine lv_aload_n hx hb dX11_join_397 rfl (lv_at hl 4 rfl) ?_
                                        refine lv_bipush (v := 6) hx hb dX11_join_398 rfl ?_
                                        refine lv_iload_n hx hb dX11_join_400 rfl (lv_at hl 5 rfl) ?_
                                        refine lv_iconst (v := 2) hx hb dX11_join_401 rfl ?_
                                        obtain ⟨hPc, hDc, hFc⟩ := zo_sub (wc := [_, _, _, _, _, _, _, _, _, _, _, _, _, _, _, _, _, _, _]) hP hD hS hA [8, 9, 10, 11, 12, 13, 14, 15, 16, 17, 18, 19, 20, 21, 22, 23, 0, 1, 2] (by decide +kernel) rfl
                                        refine zcall (st1 := [.int (nI (dn + 1))]) (va_runV (As := [.int 6, .int (nI f), .int 2]) (rest := []) ⟨hx, hb, hml, hown, hts⟩ (k_M_ends l dC dI cI cZ cF H.size k0 (va_up a 28 b1) (upd (upd (upd (upd (upd (upd (upd I0 0 (nI (ft + 1))) 26 (nI t9)) 41 (nI (psN (nnF st tn mn) w0 ft))) 44 x1) 45 x2) 46 x3) 47 x4) (vp_updL (vp_updL J0 48 (jI ((uq : Nat) : Int))) 49 (jI ((dq : Nat) : Int))) 6 (nI f) 2 dn bs (ft + 1) (psN (nnF st tn mn) w0 ft) c1 c2 (upd (upd kd 200 6) ft 6) (upd (upd (upd st ft 1) f 2) g 2) (upd (upd (upd gb ft 0) f (nI (dn + 1))) g (nI (dn + 1))) (upd (upd (upd it ft (-1)) f (nI ft)) g (nI ft)) (upd pa ft (nI f)) (upd pb ft (nI g)) (upd rk ft (rk f)) (upd wd ft (wd f)) (upd tw ft (tw f)) (upd tn ft 0) (upd (upd mn 200 4) ft 4) (bxX ft (x1) (x3) 4 (bxX 200 (x1) (x3) 4 cx)) (bxY ft (x2) (x4) 4 (bxY 200 (x2) (x4) 4 cy)) (upd sa ((dn - bs) + 1) (nI (psN (nnF st tn mn) w0 ft))) sh1 wh of9 we (rfl) (by first | with_reducible assumption | omega) (hdn) (hbs) (by first | with_reducible assumption | omega) (by first | with_reducible assumption | omega) (by first | with_reducible assumption | omega) (by rw [show dn + 1 - bs = dn - bs + 1 by omega]; exact up_at _ _ _) (by intro v9 h1 h2 h3; by_cases e9 : v9 = ft; (rw [e9, up_at]; exact ⟨rfl, by decide⟩); (have hv : v9 < ft := (by first | with_reducible assumption | omega); rw [show (upd (upd mn 200 4) ft 4) v9 = mn v9 from (if_neg e9).trans (if_neg (by first | with_reducible assumption | omega))]; rw [show (upd tn ft 0) v9 = tn v9 from if_neg e9] at h2; by_cases e8 : v9 = f ∨ v9 = g; (exact hmn_1 v9 hv h2 (by rcases e8 with e8 | e8 <;> rw [e8] <;> omega)); (exact hmn_1 v9 hv h2 (by rw [show (upd (upd (upd st ft 1) f 2) g 2) v9 = st v9 from (if_neg (fun h => e8 (Or.inr h))).trans ((if_neg (fun h => e8 (Or.inl h))).trans (if_neg e9))] at h3; exact h3)))) (by have := pw_le hpw_1; omega) (hpw_2) (by first | with_reducible assumption | omega) (hfit_2) (hmin_2) (hcE_2)) (csV_208 hts rfl rfl ⟨Nat.le_of_ble_eq_true rfl, Nat.le_of_ble_eq_true rfl⟩) (zPV2 (q0 := 0) (ci := 9) hPc hDc hK hXN rfl rfl) rfl rfl hl.1 rfl (lv_room (Nat.le_of_ble_eq_true rfl)) dX11_join_402 ⟨show ((0 + (c1 - cp)) + (c2 - c1)) ≤ c2 - cp by omega, show ((0 + (8192 * (c1 - cp))) + (8192 * (c2 - c1))) ≤ 8192 * (c2 - cp) by omega⟩) hS hFc hFc rfl (fun t H locs ht hB hk1 hS => ?_)
                                        obtain ⟨b2, sh2, g5, g6, g7, g8, hP1, hD1⟩ := hB
                                        rw [ht] at hP1
                                        obtain ⟨hP, hD⟩ := zn (W2 := [_, _, _, _, _, (om k0 (va_up a 28 b2) (upd (upd (upd (upd (upd (upd (upd (upd (upd (upd I0 0 (nI (ft + 1))) 14 0) 19 (nI (dn + 1))) 20 0) 26 (nI t9)) 41 (nI (psN (nnF (upd (upd (upd st ft 1) f 2) g 2) (upd tn ft 0) (upd (upd mn 200 4) ft 4)) (psN (nnF st tn mn) w0 ft) (ft + 1)))) 44 x1) 45 x2) 46 x3) 47 x4) (vp_updL (vp_updL J0 48 (jI ((uq : Nat) : Int))) 49 (jI ((dq : Nat) : Int)))), (oa (a 1) cI 201 (upd (upd kd 200 6) ft 6)), (oa (a 5) cI 201 (upd (upd (upd st ft 1) f 2) g 2)), (oa (a 7) cI 201 (upd (upd (upd gb ft 0) f (nI (dn + 1))) g (nI (dn + 1)))), (oa (a 10) cI 201 (upd (upd (upd it ft (-1)) f (nI ft)) g (nI ft))), (oa (a 8) cI 201 (upd pa ft (nI f))), (oa (a 9) cI 201 (upd pb ft (nI g))), (oa (a 2) cI 201 (upd rk ft (rk f))), (oa (a 3) cI 201 (upd wd ft (wd f))), (oa (a 4) cI 201 (upd tw ft (tw f))), (oa (a 6) cZ 201 (upd tn ft 0)), (oa (a 11) cI 201 (upd (upd mn 200 4) ft 4)), (oa (a 12) cI 8040 (bxX ft (x1) (x3) 4 (bxX 200 (x1) (x3) 4 cx))), (oa (a 13) cI 8040 (bxY ft (x2) (x4) 4 (bxY 200 (x2) (x4) 4 cy))), (oa (a 27) cI 516 (upd (upd sa ((dn - bs) + 1) (nI (psN (nnF st tn mn) w0 ft))) ((dn + 1 - bs) + 1) (nI (psN (nnF (upd (upd (upd st ft 1) f 2) g 2) (upd tn ft 0) (upd (upd mn 200 4) ft 4)) (psN (nnF st tn mn) w0 ft) (ft + 1))))), (oa b2 cI (4096 * c2) sh2), (oa (a 16) cI 514 (upd wh (dn + 1) (6 : Int32))), (oa (a 17) cI 514 (upd of9 (dn + 1) (nI f))), (oa (a 18) cI 514 (upd we (dn + 1) (2 : Int32)))]) hP hD hk1 hFc hP1 hD1 zl_210 zl_109 zl_211 zl_212 (by decide +kernel) rfl rfl rfl rfl rfl
                                        clear hk1 hPc hDc hFc hP1 hD1 ht
                                        refine lv_istore (lv' := [(8, .int (nI (dn + 1))), (7, .int (nI ft)), (6, .int (pI (jFr ft st tn (upd kd 200 6) (upd mn 200 4) (bxX 200 (x1) (x3) 4 cx) (bxY 200 (x2) (x4) 4 cy) f g ft))), (5, .int (nI ft)), (4, .int 0), (0, .ref k0), (1, .int (nI f)), (2, .int (nI g)), (3, .int gp9)]) hx hb dX11_join_405 hl (Nat.le_of_ble_eq_true rfl) rfl (fun ls hl => ?_)
                                        refine lv_iload hx hb dX11_join_407 (lv_at hl 1 rfl) ?_
                                        obtain ⟨hP9, hD9⟩ := zq_sub (wc := [_, _, _, _, _, _, _, _, _, _, _, _, _, _, _, _, _, _, _, _, _, _, _, _]) hP hD [5, 6, 7, 8, 9, 10, 11, 12, 13, 14, 15, 16, 17, 18, 19, 20, 21, 22, 23, 0, 1, 2, 3, 4] rfl rfl
                                        refine W.widen (k := c2 - cp) (n := 8192 * (c2 - cp)) (by omega) (by omega) ?_
                                        rw [hQ9]
                                        exact W.iret (v := nI ft) hx hb hr (fun t ht hW => ⟨⟨rfl, b2, sh2, t9, uq, dq, S1, x1, x2, x3, x4, la1, lb1, lc1, ld1, (ej1), (ej2), (ej3), (ej4), (by have h9 := psN_ge (nnF st tn mn) w0 ft; rw [g6 _ (by omega)]; exact g1), (fun j hj => by have h9 := psN_ge (nnF st tn mn) w0 ft; rw [g6 _ (by omega)]; exact g2 j hj), (fun g hg j hj => by have h9 := psN_mono (nnF st tn mn) w0 hg; rw [g6 _ (by omega)]; exact g3 g hg j hj), (g5), (g7), (hs1), (hs2), by rw [ht]; exact hP9, hD9⟩, hS.F ht⟩) hS.2.2 dX11_join_409
                                      · have c_23 : ((ft : Nat) : Int) = 200 := zc_eq (nI_toInt b9_18) rfl c_23
                                        exfalso; omega
                                  · have c_19 : ¬ (jFr ft st tn (upd kd 200 6) (upd mn 200 4) (bxX 200 (x1) (x3) 4 cx) (bxY 200 (x2) (x4) 4 cy) f g ft) := zp_0 c_19
                                    exfalso; exact absurd hfree9 (by first | with_reducible assumption | assumption)
                                · have c_16 : ((q : Nat) : Int) < ((ft : Nat) : Int) := zc_nle (nI_toInt b9_18) (nI_toInt b9_17) c_16
                                  refine lv_iload hx hb dX11_join_203 (lv_at hl 0 rfl) ?_
                                  refine lv_iload_n hx hb dX11_join_205 rfl (lv_at hl 5 rfl) ?_
                                  have b9_26 : zlt (f) := show f < 2147483648 by omega
                                  refine lv_icmp_eq (tgt := 269) hx hb dX11_join_206 rfl (fun c_25 => ?_) (fun c_25 => ?_)
                                  · have c_25 : ((q : Nat) : Int) = ((f : Nat) : Int) := zc_eq (nI_toInt b9_17) (nI_toInt b9_26) c_25
                                    refine lv_iinc (v := nI (q + 1)) (lv' := [(7, .int (nI (q + 1))), (6, .int (pI (jFr ft st tn (upd kd 200 6) (upd mn 200 4) (bxX 200 (x1) (x3) 4 cx) (bxY 200 (x2) (x4) 4 cy) f g q))), (5, .int (nI ft)), (4, .int 0), (0, .ref k0), (1, .int (nI f)), (2, .int (nI g)), (3, .int gp9)]) hx hb dX11_join_269 hl (k := 0) rfl (nI_add q 1) (Nat.le_of_ble_eq_true rfl) rfl (fun ls hl => ?_)
                                    refine lv_goto (tgt := 196) hx hb dX11_join_272 rfl ?_
                                    have hl9 := lv_sub hl [0, 1, 2, 3, 4, 5, 6, 7] rfl
                                    have e9_6 : pI (jFr ft st tn (upd kd 200 6) (upd mn 200 4) (bxX 200 (x1) (x3) 4 cx) (bxY 200 (x2) (x4) 4 cy) f g (q + 1)) = (pI (jFr ft st tn (upd kd 200 6) (upd mn 200 4) (bxX 200 (x1) (x3) 4 cx) (bxY 200 (x2) (x4) 4 cy) f g q) : Int32) := by first | exact zp_iff (jF_y (fun h1 h2 h3 => ⟨by assumption, by assumption⟩)) | exact zp_f (jF_n (by omega) (by omega) (by first | with_reducible assumption | assumption) (by first | exact Or.inl (by first | with_reducible assumption | assumption) | exact Or.inr (by first | with_reducible assumption | assumption))) | exact zp_iff (jF_y (fun h1 h2 h3 => by first | (exfalso; omega) | exact absurd h3 (by first | with_reducible assumption | assumption)))
                                    have hl9 : lv_has ls 9 [(7, .int (nI (q + 1))), (6, .int (pI (jFr ft st tn (upd kd 200 6) (upd mn 200 4) (bxX 200 (x1) (x3) 4 cx) (bxY 200 (x2) (x4) 4 cy) f g (q + 1)))), (5, .int (nI ft)), (4, .int 0), (0, .ref k0), (1, .int (nI f)), (2, .int (nI g)), (3, .int gp9)] := by rw [e9_6]; exact hl9
                                    exact ih_196 (q + 1) S1 H locs ls (by first | with_reducible assumption | omega) (by first | with_reducible assumption | omega) hP hD hS hl9
                                  · have c_25 : ¬ ((q : Nat) : Int) = ((f : Nat) : Int) := zc_ne (nI_toInt b9_17) (nI_toInt b9_26) c_25
                                    refine lv_iload hx hb dX11_join_209 (lv_at hl 0 rfl) ?_
                                    refine lv_iload_n hx hb dX11_join_211 rfl (lv_at hl 6 rfl) ?_
                                    have b9_28 : zlt (g) := show g < 2147483648 by omega
                                    refine lv_icmp_eq (tgt := 269) hx hb dX11_join_212 rfl (fun c_27 => ?_) (fun c_27 => ?_)
                                    · have c_27 : ((q : Nat) : Int) = ((g : Nat) : Int) := zc_eq (nI_toInt b9_17) (nI_toInt b9_28) c_27
                                      refine lv_iinc (v := nI (q + 1)) (lv' := [(7, .int (nI (q + 1))), (6, .int (pI (jFr ft st tn (upd kd 200 6) (upd mn 200 4) (bxX 200 (x1) (x3) 4 cx) (bxY 200 (x2) (x4) 4 cy) f g q))), (5, .int (nI ft)), (4, .int 0), (0, .ref k0), (1, .int (nI f)), (2, .int (nI g)), (3, .int gp9)]) hx hb dX11_join_269 hl (k := 0) rfl (nI_add q 1) (Nat.le_of_ble_eq_true rfl) rfl (fun ls hl => ?_)
                                      refine lv_goto (tgt := 196) hx hb dX11_join_272 rfl ?_
                                      have hl9 := lv_sub hl [0, 1, 2, 3, 4, 5, 6, 7] rfl
                                      have e9_6 : pI (jFr ft st tn (upd kd 200 6) (upd mn 200 4) (bxX 200 (x1) (x3) 4 cx) (bxY 200 (x2) (x4) 4 cy) f g (q + 1)) = (pI (jFr ft st tn (upd kd 200 6) (upd mn 200 4) (bxX 200 (x1) (x3) 4 cx) (bxY 200 (x2) (x4) 4 cy) f g q) : Int32) := by first | exact zp_iff (jF_y (fun h1 h2 h3 => ⟨by assumption, by assumption⟩)) | exact zp_f (jF_n (by omega) (by omega) (by first | with_reducible assumption | assumption) (by first | exact Or.inl (by first | with_reducible assumption | assumption) | exact Or.inr (by first | with_reducible assumption | assumption))) | exact zp_iff (jF_y (fun h1 h2 h3 => by first | (exfalso; omega) | exact absurd h3 (by first | with_reducible assumption | assumption)))
                                      have hl9 : lv_has ls 9 [(7, .int (nI (q + 1))), (6, .int (pI (jFr ft st tn (upd kd 200 6) (upd mn 200 4) (bxX 200 (x1) (x3) 4 cx) (bxY 200 (x2) (x4) 4 cy) f g (q + 1)))), (5, .int (nI ft)), (4, .int 0), (0, .ref k0), (1, .int (nI f)), (2, .int (nI g)), (3, .int gp9)] := by rw [e9_6]; exact hl9
                                      exact ih_196 (q + 1) S1 H locs ls (by first | with_reducible assumption | omega) (by first | with_reducible assumption | omega) hP hD hS hl9
                                    · have c_27 : ¬ ((q : Nat) : Int) = ((g : Nat) : Int) := zc_ne (nI_toInt b9_17) (nI_toInt b9_28) c_27
                                      refine lv_aload_n hx hb dX11_join_215 rfl (lv_at hl 4 rfl) ?_
                                      refine lv_iload hx hb dX11_join_216 (lv_at hl 0 rfl) ?_
                                      obtain ⟨hPc, hDc, hFc, hI1⟩ := zi_sub (wc := [_, _, _]) hP hD hS hA [0, 2, 10] rfl rfl
                                      refine zcall (st1 := [.int (pI (q < ft ∧ (st q).toInt = 1 ∧ (tn q).toInt = 0))]) (va_runV (As := [.int (nI q)]) (rest := []) ⟨hx, hb, hml, hown, hts⟩ (k_M_is_n l dC dI cI cZ cF H.size k0 a (upd (upd (upd (upd (upd I0 26 (nI ln)) 44 x1) 45 x2) 46 x3) 47 x4) (vp_updL (vp_updL J0 48 (jI ((uq : Nat) : Int))) 49 (jI ((dq : Nat) : Int))) q ft st tn (by first | with_reducible assumption | assumption) (by first | with_reducible assumption | omega) (by first | with_reducible assumption | omega)) (csV_179 hts rfl rfl ⟨Nat.le_of_ble_eq_true rfl, Nat.le_of_ble_eq_true rfl⟩) (zPV2 (q0 := 0) (ci := 9) hPc hDc hK hXN rfl rfl) rfl rfl hl.1 rfl (lv_room (Nat.le_of_ble_eq_true rfl)) dX11_join_218 ⟨Nat.zero_le _, Nat.zero_le _⟩) hS hFc hFc rfl (fun t H locs ht hB hk1 hS => ?_)
                                      obtain ⟨hP1, hD1⟩ := hB
                                      rw [ht] at hP1
                                      replace hP := z0 hP hD hk1 hP1 hI1
                                      clear hk1 hPc hDc hFc hP1 hD1 ht hI1
                                      refine lv_if_eq (tgt := 269) hx hb dX11_join_221 rfl (fun c_29 => ?_) (fun c_29 => ?_)
                                      · have c_29 : ¬ (q < ft ∧ (st q).toInt = 1 ∧ (tn q).toInt = 0) := zp_0 c_29
                                        refine lv_iinc (v := nI (q + 1)) (lv' := [(7, .int (nI (q + 1))), (6, .int (pI (jFr ft st tn (upd kd 200 6) (upd mn 200 4) (bxX 200 (x1) (x3) 4 cx) (bxY 200 (x2) (x4) 4 cy) f g q))), (5, .int (nI ft)), (4, .int 0), (0, .ref k0), (1, .int (nI f)), (2, .int (nI g)), (3, .int gp9)]) hx hb dX11_join_269 hl (k := 0) rfl (nI_add q 1) (Nat.le_of_ble_eq_true rfl) rfl (fun ls hl => ?_)
                                        refine lv_goto (tgt := 196) hx hb dX11_join_272 rfl ?_
                                        have hl9 := lv_sub hl [0, 1, 2, 3, 4, 5, 6, 7] rfl
                                        have e9_6 : pI (jFr ft st tn (upd kd 200 6) (upd mn 200 4) (bxX 200 (x1) (x3) 4 cx) (bxY 200 (x2) (x4) 4 cy) f g (q + 1)) = (pI (jFr ft st tn (upd kd 200 6) (upd mn 200 4) (bxX 200 (x1) (x3) 4 cx) (bxY 200 (x2) (x4) 4 cy) f g q) : Int32) := by first | exact zp_iff (jF_y (fun h1 h2 h3 => ⟨by assumption, by assumption⟩)) | exact zp_f (jF_n (by omega) (by omega) (by first | with_reducible assumption | assumption) (by first | exact Or.inl (by first | with_reducible assumption | assumption) | exact Or.inr (by first | with_reducible assumption | assumption))) | exact zp_iff (jF_y (fun h1 h2 h3 => by first | (exfalso; omega) | exact absurd h3 (by first | with_reducible assumption | assumption)))
                                        have hl9 : lv_has ls 9 [(7, .int (nI (q + 1))), (6, .int (pI (jFr ft st tn (upd kd 200 6) (upd mn 200 4) (bxX 200 (x1) (x3) 4 cx) (bxY 200 (x2) (x4) 4 cy) f g (q + 1)))), (5, .int (nI ft)), (4, .int 0), (0, .ref k0), (1, .int (nI f)), (2, .int (nI g)), (3, .int gp9)] := by rw [e9_6]; exact hl9
                                        exact ih_196 (q + 1) S1 H locs ls (by first | with_reducible assumption | omega) (by first | with_reducible assumption | omega) hP hD hS hl9
                                      · have c_29 : q < ft ∧ (st q).toInt = 1 ∧ (tn q).toInt = 0 := zp_1 c_29
                                        have hw_q := hwf2 q (by first | with_reducible assumption | assumption)
                                        have hn_q := hw_q.2.1
                                        refine lv_aload_n hx hb dX11_join_224 rfl (lv_at hl 4 rfl) ?_
                                        refine lv_sipush (v := 200) hx hb dX11_join_225 rfl ?_
                                        refine lv_iload hx hb dX11_join_228 (lv_at hl 0 rfl) ?_
                                        obtain ⟨hPc, hDc, hFc⟩ := zo_sub (wc := [_, _, _, _, _, _]) hP hD hS hA [0, 1, 11, 12, 13, 19] (by decide +kernel) rfl
                                        refine zcall (st1 := [.int (pI (∃ i, i < eO ((upd kd 200 6) 200).toInt 4 ∧ ∃ j, j < eO ((upd kd 200 6) q).toInt (nN ((upd mn 200 4) q)) ∧ eMt 4 (cF40 (bxX 200 (x1) (x3) 4 cx) 200) (cF40 (bxY 200 (x2) (x4) 4 cy) 200) i (nN ((upd mn 200 4) q)) (cF40 (bxX 200 (x1) (x3) 4 cx) q) (cF40 (bxY 200 (x2) (x4) 4 cy) q) j))]) (va_runV (As := [.int 200, .int (nI q)]) (rest := []) ⟨hx, hb, hml, hown, hts⟩ (k_M_isMet l dC dI cI cZ cF H.size k0 a (upd (upd (upd (upd (upd I0 26 (nI ln)) 44 x1) 45 x2) 46 x3) 47 x4) (vp_updL (vp_updL J0 48 (jI ((uq : Nat) : Int))) 49 (jI ((dq : Nat) : Int))) 200 4 q (nN ((upd mn 200 4) q)) (upd kd 200 6) (upd mn 200 4) (bxX 200 (x1) (x3) 4 cx) (bxY 200 (x2) (x4) 4 cy) S1 (by first | with_reducible assumption | omega) (hm_b) (by first | with_reducible assumption | omega) (hp_b) (by first | with_reducible assumption | omega) (hw_q.1) (hw_q.2.1) (hw_q.2.2)) (csV_180 hts rfl rfl ⟨Nat.le_of_ble_eq_true rfl, Nat.le_of_ble_eq_true rfl⟩) (zPV2 (q0 := 0) (ci := 9) hPc hDc hK hXN rfl rfl) rfl rfl hl.1 rfl (lv_room (Nat.le_of_ble_eq_true rfl)) dX11_join_230 ⟨Nat.zero_le _, Nat.zero_le _⟩) hS hFc hFc rfl (fun t H locs ht hB hk1 hS => ?_)
                                        obtain ⟨q_30, hP1, hD1⟩ := hB
                                        rw [ht] at hP1
                                        obtain ⟨hP, hD⟩ := zn (W2 := [_, _, _, _, _, _, _, _, _, _, _, _, _, _, _, _, _, _, _, (oa (a 32) cI 8 q_30), _, _, _, _]) hP hD hk1 hFc hP1 hD1 [0, 1, 11, 12, 13, 19] zl_253 zl_253 [0, 1, 11, 12, 13, 19] (by decide +kernel) rfl rfl rfl rfl rfl
                                        clear hk1 hPc hDc hFc hP1 hD1 ht
                                        refine zz_i (v := pI (mtF ((upd kd 200 6) 200).toInt 4 (cF40 (bxX 200 (x1) (x3) 4 cx) 200) (cF40 (bxY 200 (x2) (x4) 4 cy) 200) ((upd kd 200 6) q).toInt (nN ((upd mn 200 4) q)) (cF40 (bxX 200 (x1) (x3) 4 cx) q) (cF40 (bxY 200 (x2) (x4) 4 cy) q))) (rfl) ?_
                                        refine lv_if_ne (tgt := 266) hx hb dX11_join_233 rfl (fun c_31 => ?_) (fun c_31 => ?_)
                                        · have c_31 : mtF ((upd kd 200 6) 200).toInt 4 (cF40 (bxX 200 (x1) (x3) 4 cx) 200) (cF40 (bxY 200 (x2) (x4) 4 cy) 200) ((upd kd 200 6) q).toInt (nN ((upd mn 200 4) q)) (cF40 (bxX 200 (x1) (x3) 4 cx) q) (cF40 (bxY 200 (x2) (x4) 4 cy) q) := zp_1 c_31
                                          refine lv_iconst (v := 0) hx hb dX11_join_266 rfl ?_
                                          refine lv_istore (lv' := [(6, .int 0), (7, .int (nI q)), (5, .int (nI ft)), (4, .int 0), (0, .ref k0), (1, .int (nI f)), (2, .int (nI g)), (3, .int gp9)]) hx hb dX11_join_267 hl (Nat.le_of_ble_eq_true rfl) rfl (fun ls hl => ?_)
                                          refine lv_iinc (v := nI (q + 1)) (lv' := [(7, .int (nI (q + 1))), (6, .int 0), (5, .int (nI ft)), (4, .int 0), (0, .ref k0), (1, .int (nI f)), (2, .int (nI g)), (3, .int gp9)]) hx hb dX11_join_269 hl (k := 1) rfl (nI_add q 1) (Nat.le_of_ble_eq_true rfl) rfl (fun ls hl => ?_)
                                          refine lv_goto (tgt := 196) hx hb dX11_join_272 rfl ?_
                                          have hl9 := lv_sub hl [0, 1, 2, 3, 4, 5, 6, 7] rfl
                                          have e9_6 : pI (jFr ft st tn (upd kd 200 6) (upd mn 200 4) (bxX 200 (x1) (x3) 4 cx) (bxY 200 (x2) (x4) 4 cy) f g (q + 1)) = (0 : Int32) := by first | exact zp_iff (jF_y (fun h1 h2 h3 => ⟨by assumption, by assumption⟩)) | exact zp_f (jF_n (by omega) (by omega) (by first | with_reducible assumption | assumption) (by first | exact Or.inl (by first | with_reducible assumption | assumption) | exact Or.inr (by first | with_reducible assumption | assumption))) | exact zp_iff (jF_y (fun h1 h2 h3 => by first | (exfalso; omega) | exact absurd h3 (by first | with_reducible assumption | assumption)))
                                          have hl9 : lv_has ls 9 [(7, .int (nI (q + 1))), (6, .int (pI (jFr ft st tn (upd kd 200 6) (upd mn 200 4) (bxX 200 (x1) (x3) 4 cx) (bxY 200 (x2) (x4) 4 cy) f g (q + 1)))), (5, .int (nI ft)), (4, .int 0), (0, .ref k0), (1, .int (nI f)), (2, .int (nI g)), (3, .int gp9)] := by rw [e9_6]; exact hl9
                                          exact ih_196 (q + 1) q_30 H locs ls (by first | with_reducible assumption | omega) (by first | with_reducible assumption | omega) hP hD hS hl9
                                        · have c_31 : ¬ (mtF ((upd kd 200 6) 200).toInt 4 (cF40 (bxX 200 (x1) (x3) 4 cx) 200) (cF40 (bxY 200 (x2) (x4) 4 cy) 200) ((upd kd 200 6) q).toInt (nN ((upd mn 200 4) q)) (cF40 (bxX 200 (x1) (x3) 4 cx) q) (cF40 (bxY 200 (x2) (x4) 4 cy) q)) := zp_0 c_31
                                          refine lv_aload_n hx hb dX11_join_236 rfl (lv_at hl 4 rfl) ?_
                                          refine lv_sipush (v := 200) hx hb dX11_join_237 rfl ?_
                                          refine lv_aload_n hx hb dX11_join_240 rfl (lv_at hl 4 rfl) ?_
                                          refine va_get (D := (dC, dI)) (ci := 9) (v := .ref (a 12)) (C := RX11) (T := TX11) (N := 55) hx hb hts inX11 hown hK hP 0 rfl rfl 12 (Nat.le_of_ble_eq_true rfl) (hts _ mw_1171) (fun _ h9 => h9) rfl dX11_join_241 ?_
                                          refine lv_bipush (v := 40) hx hb dX11_join_244 rfl ?_
                                          refine lv_iload hx hb dX11_join_246 (lv_at hl 0 rfl) ?_
                                          refine lv_imul hx hb dX11_join_248 ?_
                                          refine zz_i (v := nI (40 * q)) (pk_mul 40 q) ?_
                                          have b9_32 : 40 * q < 8040 := by omega
                                          refine z_iald hx hb hK hP 12 0 rfl rfl (e := 40 * q) rfl b9_32 (Nat.le_of_ble_eq_true rfl) dX11_join_249 ?_
                                          refine lv_aload_n hx hb dX11_join_250 rfl (lv_at hl 4 rfl) ?_
                                          refine va_get (D := (dC, dI)) (ci := 9) (v := .ref (a 13)) (C := RX11) (T := TX11) (N := 55) hx hb hts inX11 hown hK hP 0 rfl rfl 13 (Nat.le_of_ble_eq_true rfl) (hts _ mw_1172) (fun _ h9 => h9) rfl dX11_join_251 ?_
                                          refine lv_bipush (v := 40) hx hb dX11_join_254 rfl ?_
                                          refine lv_iload hx hb dX11_join_256 (lv_at hl 0 rfl) ?_
                                          refine lv_imul hx hb dX11_join_258 ?_
                                          refine zz_i (v := nI (40 * q)) (pk_mul 40 q) ?_
                                          refine z_iald hx hb hK hP 13 0 rfl rfl (e := 40 * q) rfl b9_32 (Nat.le_of_ble_eq_true rfl) dX11_join_259 ?_
                                          obtain ⟨hPc, hDc, hFc⟩ := zo_sub (wc := [_, _, _, _, _, _]) hP hD hS hA [0, 1, 11, 12, 13, 19] (by decide +kernel) rfl
                                          refine zcall (st1 := [.int (pI (¬ (∃ i, i < eO ((upd kd 200 6) 200).toInt 4 ∧ eOn 4 (cF40 (bxX 200 (x1) (x3) 4 cx) 200) (cF40 (bxY 200 (x2) (x4) 4 cy) 200) i ((bxX 200 (x1) (x3) 4 cx) (40 * q)).toInt ((bxY 200 (x2) (x4) 4 cy) (40 * q)).toInt) ∧ par2 (eTg 4 (cF40 (bxX 200 (x1) (x3) 4 cx) 200) (cF40 (bxY 200 (x2) (x4) 4 cy) 200) ((bxX 200 (x1) (x3) 4 cx) (40 * q)).toInt ((bxY 200 (x2) (x4) 4 cy) (40 * q)).toInt) (eO ((upd kd 200 6) 200).toInt 4)))]) (va_runV (As := [.int 200, .int ((bxX 200 (x1) (x3) 4 cx) (40 * q)), .int ((bxY 200 (x2) (x4) 4 cy) (40 * q))]) (rest := []) ⟨hx, hb, hml, hown, hts⟩ (k_M_isInside l dC dI cI cZ cF H.size k0 a (upd (upd (upd (upd (upd I0 26 (nI ln)) 44 x1) 45 x2) 46 x3) 47 x4) (vp_updL (vp_updL J0 48 (jI ((uq : Nat) : Int))) 49 (jI ((dq : Nat) : Int))) 200 4 (upd kd 200 6) (upd mn 200 4) (bxX 200 (x1) (x3) 4 cx) (bxY 200 (x2) (x4) 4 cy) q_30 ((bxX 200 (x1) (x3) 4 cx) (40 * q)) ((bxY 200 (x2) (x4) 4 cy) (40 * q)) (by first | with_reducible assumption | omega) (hm_b) (by first | with_reducible assumption | omega) (hp_b) ((hw_q.2.2 0 (by first | with_reducible assumption | omega)).1) ((hw_q.2.2 0 (by first | with_reducible assumption | omega)).2)) (csV_183 hts rfl rfl ⟨Nat.le_of_ble_eq_true rfl, Nat.le_of_ble_eq_true rfl⟩) (zPV2 (q0 := 0) (ci := 9) hPc hDc hK hXN rfl rfl) rfl rfl hl.1 rfl (lv_room (Nat.le_of_ble_eq_true rfl)) dX11_join_260 ⟨Nat.zero_le _, Nat.zero_le _⟩) hS hFc hFc rfl (fun t H locs ht hB hk1 hS => ?_)
                                          obtain ⟨q_33, hP1, hD1⟩ := hB
                                          rw [ht] at hP1
                                          obtain ⟨hP, hD⟩ := zn (W2 := [_, _, _, _, _, _, _, _, _, _, _, _, _, _, _, _, _, _, _, (oa (a 32) cI 8 q_33), _, _, _, _]) hP hD hk1 hFc hP1 hD1 [0, 1, 11, 12, 13, 19] zl_253 zl_253 [0, 1, 11, 12, 13, 19] (by decide +kernel) rfl rfl rfl rfl rfl
                                          clear hk1 hPc hDc hFc hP1 hD1 ht
                                          refine zz_i (v := pI (inF ((upd kd 200 6) 200).toInt 4 (cF40 (bxX 200 (x1) (x3) 4 cx) 200) (cF40 (bxY 200 (x2) (x4) 4 cy) 200) ((bxX 200 (x1) (x3) 4 cx) (40 * q)).toInt ((bxY 200 (x2) (x4) 4 cy) (40 * q)).toInt)) (rfl) ?_
                                          refine lv_if_eq (tgt := 269) hx hb dX11_join_263 rfl (fun c_34 => ?_) (fun c_34 => ?_)
                                          · have c_34 : ¬ (inF ((upd kd 200 6) 200).toInt 4 (cF40 (bxX 200 (x1) (x3) 4 cx) 200) (cF40 (bxY 200 (x2) (x4) 4 cy) 200) ((bxX 200 (x1) (x3) 4 cx) (40 * q)).toInt ((bxY 200 (x2) (x4) 4 cy) (40 * q)).toInt) := zp_0 c_34
                                            refine lv_iinc (v := nI (q + 1)) (lv' := [(7, .int (nI (q + 1))), (6, .int (pI (jFr ft st tn (upd kd 200 6) (upd mn 200 4) (bxX 200 (x1) (x3) 4 cx) (bxY 200 (x2) (x4) 4 cy) f g q))), (5, .int (nI ft)), (4, .int 0), (0, .ref k0), (1, .int (nI f)), (2, .int (nI g)), (3, .int gp9)]) hx hb dX11_join_269 hl (k := 0) rfl (nI_add q 1) (Nat.le_of_ble_eq_true rfl) rfl (fun ls hl => ?_)
                                            refine lv_goto (tgt := 196) hx hb dX11_join_272 rfl ?_
                                            have hl9 := lv_sub hl [0, 1, 2, 3, 4, 5, 6, 7] rfl
                                            have e9_6 : pI (jFr ft st tn (upd kd 200 6) (upd mn 200 4) (bxX 200 (x1) (x3) 4 cx) (bxY 200 (x2) (x4) 4 cy) f g (q + 1)) = (pI (jFr ft st tn (upd kd 200 6) (upd mn 200 4) (bxX 200 (x1) (x3) 4 cx) (bxY 200 (x2) (x4) 4 cy) f g q) : Int32) := by first | exact zp_iff (jF_y (fun h1 h2 h3 => ⟨by assumption, by assumption⟩)) | exact zp_f (jF_n (by omega) (by omega) (by first | with_reducible assumption | assumption) (by first | exact Or.inl (by first | with_reducible assumption | assumption) | exact Or.inr (by first | with_reducible assumption | assumption))) | exact zp_iff (jF_y (fun h1 h2 h3 => by first | (exfalso; omega) | exact absurd h3 (by first | with_reducible assumption | assumption)))
                                            have hl9 : lv_has ls 9 [(7, .int (nI (q + 1))), (6, .int (pI (jFr ft st tn (upd kd 200 6) (upd mn 200 4) (bxX 200 (x1) (x3) 4 cx) (bxY 200 (x2) (x4) 4 cy) f g (q + 1)))), (5, .int (nI ft)), (4, .int 0), (0, .ref k0), (1, .int (nI f)), (2, .int (nI g)), (3, .int gp9)] := by rw [e9_6]; exact hl9
                                            exact ih_196 (q + 1) q_33 H locs ls (by first | with_reducible assumption | omega) (by first | with_reducible assumption | omega) hP hD hS hl9
                                          · have c_34 : inF ((upd kd 200 6) 200).toInt 4 (cF40 (bxX 200 (x1) (x3) 4 cx) 200) (cF40 (bxY 200 (x2) (x4) 4 cy) 200) ((bxX 200 (x1) (x3) 4 cx) (40 * q)).toInt ((bxY 200 (x2) (x4) 4 cy) (40 * q)).toInt := zp_1 c_34
                                            refine lv_iconst (v := 0) hx hb dX11_join_266 rfl ?_
                                            refine lv_istore (lv' := [(6, .int 0), (7, .int (nI q)), (5, .int (nI ft)), (4, .int 0), (0, .ref k0), (1, .int (nI f)), (2, .int (nI g)), (3, .int gp9)]) hx hb dX11_join_267 hl (Nat.le_of_ble_eq_true rfl) rfl (fun ls hl => ?_)
                                            refine lv_iinc (v := nI (q + 1)) (lv' := [(7, .int (nI (q + 1))), (6, .int 0), (5, .int (nI ft)), (4, .int 0), (0, .ref k0), (1, .int (nI f)), (2, .int (nI g)), (3, .int gp9)]) hx hb dX11_join_269 hl (k := 1) rfl (nI_add q 1) (Nat.le_of_ble_eq_true rfl) rfl (fun ls hl => ?_)
                                            refine lv_goto (tgt := 196) hx hb dX11_join_272 rfl ?_
                                            have hl9 := lv_sub hl [0, 1, 2, 3, 4, 5, 6, 7] rfl
                                            have e9_6 : pI (jFr ft st tn (upd kd 200 6) (upd mn 200 4) (bxX 200 (x1) (x3) 4 cx) (bxY 200 (x2) (x4) 4 cy) f g (q + 1)) = (0 : Int32) := by first | exact zp_iff (jF_y (fun h1 h2 h3 => ⟨by assumption, by assumption⟩)) | exact zp_f (jF_n (by omega) (by omega) (by first | with_reducible assumption | assumption) (by first | exact Or.inl (by first | with_reducible assumption | assumption) | exact Or.inr (by first | with_reducible assumption | assumption))) | exact zp_iff (jF_y (fun h1 h2 h3 => by first | (exfalso; omega) | exact absurd h3 (by first | with_reducible assumption | assumption)))
                                            have hl9 : lv_has ls 9 [(7, .int (nI (q + 1))), (6, .int (pI (jFr ft st tn (upd kd 200 6) (upd mn 200 4) (bxX 200 (x1) (x3) 4 cx) (bxY 200 (x2) (x4) 4 cy) f g (q + 1)))), (5, .int (nI ft)), (4, .int 0), (0, .ref k0), (1, .int (nI f)), (2, .int (nI g)), (3, .int gp9)] := by rw [e9_6]; exact hl9
                                            exact ih_196 (q + 1) q_33 H locs ls (by first | with_reducible assumption | omega) (by first | with_reducible assumption | omega) hP hD hS hl9
                            have e9_6 : pI (jFr ft st tn (upd kd 200 6) (upd mn 200 4) (bxX 200 (x1) (x3) 4 cx) (bxY 200 (x2) (x4) 4 cy) f g 0) = (1 : Int32) := by exact zp_t jF_0
                            have hl9 : lv_has ls 9 [(7, .int (nI 0)), (6, .int (pI (jFr ft st tn (upd kd 200 6) (upd mn 200 4) (bxX 200 (x1) (x3) 4 cx) (bxY 200 (x2) (x4) 4 cy) f g 0))), (5, .int (nI ft)), (4, .int 0), (0, .ref k0), (1, .int (nI f)), (2, .int (nI g)), (3, .int gp9)] := by rw [e9_6]; exact lv_sub hl [0, 1, 2, 3, 4, 5, 6, 7] rfl
                            exact hl_196 _ 0 S2 H locs ls (Nat.lt_succ_self _) (by first | with_reducible assumption | omega) hP hD hS hl9
                          · have c_15 : (gp9.toInt * gp9.toInt * ((dq : Nat) : Int)) < ((uq : Nat) : Int) := zl_nle (jI_toInt (by omega)) (jI_toInt (by omega)) c_15
                            exfalso; exact hnf (hf9.mp (by omega))
                        · exact absurd (by decide) c_14
                      · have c_13 : ¬ (tn g).toInt = 0 := zc_ne rfl rfl c_13
                        exfalso; omega
                  · have c_11 : 1000 < gp9.toInt := zc_nle rfl rfl c_11
                    exfalso; omega
              · have c_9 : ¬ (kd g).toInt = 6 := zc_ne rfl rfl c_9
                exfalso; omega
          · exact absurd (by decide) c_7
        · have c_6 : ¬ (st g).toInt = 1 := zc_ne rfl rfl c_6
          exfalso; omega
    · have c_2 : ¬ (g < ft) := zp_0 c_2
      exfalso; omega
end
