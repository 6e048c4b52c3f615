section
set_option maxHeartbeats 4000000 in
set_option maxRecDepth 100000 in
theorem k_M_remember (l : Launch) (dC : Nat → ClassId) (dI : Nat → Nat → Nat) (cI cZ cF : ClassId) (sz : Nat) (k0 : Nat) (a : Nat → Nat) (I0 : Nat → Int32) (J0 : Nat → Int64) (f : Nat) (n : Nat) (ft : Nat) (st : Nat → Int32) (tn : Nat → Int32) (kd : Nat → Int32) (mn : Nat → Int32) (cx : Nat → Int32) (cy : Nat → Int32) (S0 : Nat → Int32) (ox : Nat → Int32) (oy : Nat → Int32) (mt : Nat → Int32) (wi : Nat → Int32) (ins : Nat → Int32) (hft : I0 0 = nI ft) (h200 : ft ≤ 200) (hf_f : f ≤ 200) (hm_f : mn f = nI n) (hn_f : 1 ≤ n ∧ n ≤ 40) (hp_f : pls n (cF40 cx f) (cF40 cy f)) (hwf : ∀ q, lvF ft st tn q → q ≠ f → wfM mn cx cy q) : zM l yX11_remember cX11_remember 4 none ({ frames := 4, cells := 0, slots := 0, locals := 107 } : Room) [.ref k0, .int (nI f)] (dC, dI) (zTy cI cZ cF) [(om k0 a I0 J0), (oa (a 5) cI 201 st), (oa (a 6) cZ 201 tn), (oa (a 1) cI 201 kd), (oa (a 11) cI 201 mn), (oa (a 12) cI 8040 cx), (oa (a 13) cI 8040 cy), (oa (a 32) cI 8 S0), (oa (a 33) cI 42 ox), (oa (a 34) cI 42 oy), (oa (a 37) cZ 201 mt), (oa (a 38) cZ 201 wi), (oa (a 39) cZ 8040 ins)] sz none (fun A t => ∃ (S1 : Nat → Int32), ∃ (ox1 : Nat → Int32), ∃ (oy1 : Nat → Int32), ∃ (mt1 : Nat → Int32), ∃ (wi1 : Nat → Int32), ∃ (ins1 : Nat → Int32), (∀ j, j < n → ox1 j = cx (40 * f + j) ∧ oy1 j = cy (40 * f + j)) ∧ (∀ j, lvF ft st tn j → j ≠ f → mt1 j = pI (bMt kd mn cx cy f n j)) ∧ (∀ j, lvF ft st tn j → j ≠ f → wi1 j = pI (5 ≤ (kd j).toInt ∧ bWi kd mn cx cy f j)) ∧ (∀ j, lvF ft st tn j → j ≠ f → 5 ≤ (kd f).toInt → ∀ i, i < nN (mn j) → ins1 (40 * j + i) = pI (bIn kd cx cy f n j i)) ∧ zPD (dC, dI) classes A [(om k0 a (upd (upd I0 35 (nI n)) 36 (kd f)) J0), (oa (a 5) cI 201 st), (oa (a 6) cZ 201 tn), (oa (a 1) cI 201 kd), (oa (a 11) cI 201 mn), (oa (a 12) cI 8040 cx), (oa (a 13) cI 8040 cy), (oa (a 32) cI 8 S1), (oa (a 33) cI 42 ox1), (oa (a 34) cI 42 oy1), (oa (a 37) cZ 201 mt1), (oa (a 38) cZ 201 wi1), (oa (a 39) cZ 8040 ins1)] t.heap) 0 0 := by
  refine zIn (own := "ScaleShopModel") (loc := [(0, .ref k0), (1, .int (nI f))]) rfl rfl rfl rfl (fun p e s m below meth c hx hb hr hts hown hlocks hml hnm9 A hA hS hP hD hK hXN Q9 hQ9 ls hl => ?_)
  refine lv_aload_n hx hb dX11_remember_0 rfl (lv_at hl 0 rfl) ?_
  refine lv_aload_n hx hb dX11_remember_1 rfl (lv_at hl 0 rfl) ?_
  refine va_get (D := (dC, dI)) (ci := 9) (v := .ref (a 11)) (C := RX11) (T := TX11) (N := 55) hx hb hts inX11 hown hK hP 0 rfl rfl 11 (Nat.le_of_ble_eq_true rfl) (hts _ mw_1170) (fun _ h9 => h9) rfl dX11_remember_2 ?_
  refine lv_iload_n hx hb dX11_remember_5 rfl (lv_at hl 1 rfl) ?_
  have b9_1 : f < 201 := by omega
  refine z_iald hx hb hK hP 4 0 rfl rfl (e := f) rfl b9_1 (Nat.le_of_ble_eq_true rfl) dX11_remember_6 ?_
  refine zz_i (v := nI n) (hm_f) ?_
  refine va_put (D := (dC, dI)) (ci := 9) (v := .int (nI n)) (ty := .int) (C := RX11) (T := TX11) (N := 55) hx hb hts inX11 tyX11 tyX11_ok nmX11 hown hK hP hD hS 0 rfl rfl 35 (by decide) (hts _ mw_1194) (fun _ h9 => h9) rfl (by decide +kernel) rfl rfl (Nat.le_of_ble_eq_true rfl) dX11_remember_7 (fun H locs hP hD hS => ?_)
  obtain ⟨hP, hD⟩ := zre (W2 := [(om k0 a (upd I0 35 (nI n)) J0), _, _, _, _, _, _, _, _, _, _, _, _]) hP hD rfl
  refine lv_aload_n hx hb dX11_remember_10 rfl (lv_at hl 0 rfl) ?_
  refine lv_aload_n hx hb dX11_remember_11 rfl (lv_at hl 0 rfl) ?_
  refine va_get (D := (dC, dI)) (ci := 9) (v := .ref (a 1)) (C := RX11) (T := TX11) (N := 55) hx hb hts inX11 hown hK hP 0 rfl rfl 1 (Nat.le_of_ble_eq_true rfl) (hts _ mw_1160) (fun _ h9 => h9) rfl dX11_remember_12 ?_
  refine lv_iload_n hx hb dX11_remember_15 rfl (lv_at hl 1 rfl) ?_
  refine z_iald hx hb hK hP 3 0 rfl rfl (e := f) rfl b9_1 (Nat.le_of_ble_eq_true rfl) dX11_remember_16 ?_
  refine va_put (D := (dC, dI)) (ci := 9) (v := .int (kd f)) (ty := .int) (C := RX11) (T := TX11) (N := 55) hx hb hts inX11 tyX11 tyX11_ok nmX11 hown hK hP hD hS 0 rfl rfl 36 (by decide) (hts _ mw_1195) (fun _ h9 => h9) rfl (by decide +kernel) rfl rfl (Nat.le_of_ble_eq_true rfl) dX11_remember_17 (fun H locs hP hD hS => ?_)
  obtain ⟨hP, hD⟩ := zre (W2 := [(om k0 a (upd (upd I0 35 (nI n)) 36 (kd f)) J0), _, _, _, _, _, _, _, _, _, _, _, _]) hP hD rfl
  refine lv_iconst (v := 0) hx hb dX11_remember_20 rfl ?_
  refine lv_istore_n (lv' := [(2, .int 0), (0, .ref k0), (1, .int (nI f))]) hx hb dX11_remember_21 rfl hl (Nat.le_of_ble_eq_true rfl) rfl (fun ls hl => ?_)
  have hl_22 : ∀ (n9 : Nat) (k : Nat) (ox1 : Nat → Int32) (oy1 : Nat → Int32) (H : Heap) (locs : List Loc) (ls : Array Slot), n - k < n9 → (k ≤ n) → (∀ j, j < k → ox1 j = cx (40 * f + j) ∧ oy1 j = cy (40 * f + j)) → va_P (dC, dI) classes [(om k0 a (upd (upd I0 35 (nI n)) 36 (kd f)) J0), (oa (a 5) cI 201 st), (oa (a 6) cZ 201 tn), (oa (a 1) cI 201 kd), (oa (a 11) cI 201 mn), (oa (a 12) cI 8040 cx), (oa (a 13) cI 8040 cy), (oa (a 32) cI 8 S0), (oa (a 33) cI 42 ox1), (oa (a 34) cI 42 oy1), (oa (a 37) cZ 201 mt), (oa (a 38) cZ 201 wi), (oa (a 39) cZ 8040 ins)] H → va_D A [(om k0 a (upd (upd I0 35 (nI n)) 36 (kd f)) J0), (oa (a 5) cI 201 st), (oa (a 6) cZ 201 tn), (oa (a 1) cI 201 kd), (oa (a 11) cI 201 mn), (oa (a 12) cI 8040 cx), (oa (a 13) cI 8040 cy), (oa (a 32) cI 8 S0), (oa (a 33) cI 42 ox1), (oa (a 34) cI 42 oy1), (oa (a 37) cZ 201 mt), (oa (a 38) cZ 201 wi), (oa (a 39) cZ 8040 ins)] → va_S A s.heap H locs → lv_has ls 4 [(2, .int (nI k)), (0, .ref k0), (1, .int (nI f))] → W p l e ({ frames := 4, cells := 0, slots := 0, locals := 107 } : Room) s m ([.ref k0, .int (nI f)] : List Value).toArray below meth c H locs 0 0 Q9 (F0 m 22 ls []) := by
    intro n9
    induction n9 with
    | zero => intro k ox1 oy1 H locs ls hm; exact absurd hm (Nat.not_lt_zero _)
    | succ n9 ih_22 =>
      intro k ox1 oy1 H locs ls hm hk hox hP hD hS hl
      refine lv_iload_n hx hb dX11_remember_22 rfl (lv_at hl 0 rfl) ?_
      refine lv_aload_n hx hb dX11_remember_23 rfl (lv_at hl 1 rfl) ?_
      refine va_get (D := (dC, dI)) (ci := 9) (v := .int (nI n)) (C := RX11) (T := TX11) (N := 55) hx hb hts inX11 hown hK hP 0 rfl rfl 35 (Nat.le_of_ble_eq_true rfl) (hts _ mw_1194) (fun _ h9 => h9) rfl dX11_remember_24 ?_
      have b9_3 : zlt (k) := show k < 2147483648 by omega
      have b9_4 : zlt (n) := show n < 2147483648 by omega
      refine lv_icmp_ge (tgt := 70) hx hb dX11_remember_27 rfl (fun c_2 => ?_) (fun c_2 => ?_)
      · have c_2 : ((n : Nat) : Int) ≤ ((k : Nat) : Int) := zc_le (nI_toInt b9_4) (nI_toInt b9_3) c_2
        have hkn : k = n := (by omega)
        rw [hkn] at hox
        clear hkn
        refine lv_iconst (v := 0) hx hb dX11_remember_70 rfl ?_
        refine lv_istore_n (lv' := [(2, .int 0), (0, .ref k0), (1, .int (nI f))]) hx hb dX11_remember_71 rfl hl (Nat.le_of_ble_eq_true rfl) rfl (fun ls hl => ?_)
        have hl_72 : ∀ (n9 : Nat) (q : Nat) (S1 : Nat → Int32) (mt1 : Nat → Int32) (wi1 : Nat → Int32) (ins1 : Nat → Int32) (H : Heap) (locs : List Loc) (ls : Array Slot), ft - q < n9 → (q ≤ ft) → (∀ j, j < q → lvF ft st tn j → j ≠ f → mt1 j = pI (bMt kd mn cx cy f n j)) → (∀ j, j < q → lvF ft st tn j → j ≠ f → wi1 j = pI (5 ≤ (kd j).toInt ∧ bWi kd mn cx cy f j)) → (∀ j, j < q → lvF ft st tn j → j ≠ f → 5 ≤ (kd f).toInt → ∀ i, i < nN (mn j) → ins1 (40 * j + i) = pI (bIn kd cx cy f n j i)) → va_P (dC, dI) classes [(om k0 a (upd (upd I0 35 (nI n)) 36 (kd f)) J0), (oa (a 5) cI 201 st), (oa (a 6) cZ 201 tn), (oa (a 1) cI 201 kd), (oa (a 11) cI 201 mn), (oa (a 12) cI 8040 cx), (oa (a 13) cI 8040 cy), (oa (a 32) cI 8 S1), (oa (a 33) cI 42 ox1), (oa (a 34) cI 42 oy1), (oa (a 37) cZ 201 mt1), (oa (a 38) cZ 201 wi1), (oa (a 39) cZ 8040 ins1)] H → va_D A [(om k0 a (upd (upd I0 35 (nI n)) 36 (kd f)) J0), (oa (a 5) cI 201 st), (oa (a 6) cZ 201 tn), (oa (a 1) cI 201 kd), (oa (a 11) cI 201 mn), (oa (a 12) cI 8040 cx), (oa (a 13) cI 8040 cy), (oa (a 32) cI 8 S1), (oa (a 33) cI 42 ox1), (oa (a 34) cI 42 oy1), (oa (a 37) cZ 201 mt1), (oa (a 38) cZ 201 wi1), (oa (a 39) cZ 8040 ins1)] → va_S A s.heap H locs → lv_has ls 4 [(2, .int (nI q)), (0, .ref k0), (1, .int (nI f))] → W p l e ({ frames := 4, cells := 0, slots := 0, locals := 107 } : Room) s m ([.ref k0, .int (nI f)] : List Value).toArray below meth c H locs 0 0 Q9 (F0 m 72 ls []) := by
          intro n9
          induction n9 with
          | zero => intro q S1 mt1 wi1 ins1 H locs ls hm; exact absurd hm (Nat.not_lt_zero _)
          | succ n9 ih_72 =>
            intro q S1 mt1 wi1 ins1 H locs ls hm hq hmt hwi hin hP hD hS hl
            refine lv_iload_n hx hb dX11_remember_72 rfl (lv_at hl 0 rfl) ?_
            refine lv_aload_n hx hb dX11_remember_73 rfl (lv_at hl 1 rfl) ?_
            refine va_get (D := (dC, dI)) (ci := 9) (v := .int (I0 0)) (C := RX11) (T := TX11) (N := 55) hx hb hts inX11 hown hK hP 0 rfl rfl 0 (Nat.le_of_ble_eq_true rfl) (hts _ mw_1159) (fun _ h9 => h9) rfl dX11_remember_74 ?_
            refine zz_i (v := nI ft) (hft) ?_
            have b9_6 : zlt (q) := show q < 2147483648 by omega
            have b9_7 : zlt (ft) := show ft < 2147483648 by omega
            refine lv_icmp_ge (tgt := 217) hx hb dX11_remember_77 rfl (fun c_5 => ?_) (fun c_5 => ?_)
            · have c_5 : ((ft : Nat) : Int) ≤ ((q : Nat) : Int) := zc_le (nI_toInt b9_7) (nI_toInt b9_6) c_5
              obtain ⟨hP9, hD9⟩ := zu_sub (wc := [_, _, _, _, _, _, _, _, _, _, _, _, _]) hP hD [true, true, true, true, true, true, true, true, true, true, true, true, true] rfl rfl
              rw [hQ9]
              exact W.vret hx hb hr (fun t ht hW => ⟨⟨rfl, S1, ox1, oy1, mt1, wi1, ins1, (fun j hj => hox j hj), (fun j h1 h2 => hmt j (by omega) h1 h2), (fun j h1 h2 => hwi j (by omega) h1 h2), (fun j h1 h2 => hin j (by omega) h1 h2), by rw [ht]; exact hP9, hD9⟩, hS.F ht⟩) hS.2.2 dX11_remember_217
            · have c_5 : ((q : Nat) : Int) < ((ft : Nat) : Int) := zc_nle (nI_toInt b9_7) (nI_toInt b9_6) c_5
              refine lv_iload_n hx hb dX11_remember_80 rfl (lv_at hl 0 rfl) ?_
              refine lv_iload_n hx hb dX11_remember_81 rfl (lv_at hl 2 rfl) ?_
              have b9_9 : zlt (f) := show f < 2147483648 by omega
              refine lv_icmp_eq (tgt := 211) hx hb dX11_remember_82 rfl (fun c_8 => ?_) (fun c_8 => ?_)
              · have c_8 : ((q : Nat) : Int) = ((f : Nat) : Int) := zc_eq (nI_toInt b9_6) (nI_toInt b9_9) c_8
                refine lv_iinc (v := nI (q + 1)) (lv' := [(2, .int (nI (q + 1))), (0, .ref k0), (1, .int (nI f))]) hx hb dX11_remember_211 hl (k := 0) rfl (nI_add q 1) (Nat.le_of_ble_eq_true rfl) rfl (fun ls hl => ?_)
                refine lv_goto (tgt := 72) hx hb dX11_remember_214 rfl ?_
                exact ih_72 (q + 1) S1 mt1 wi1 ins1 H locs ls (by first | with_reducible assumption | omega) (by first | with_reducible assumption | omega) (by intro j hj h1 h2; rcases Nat.lt_or_ge j q with h | h; (first | exact hmt j h h1 h2 | (simp only [upd, if_neg (show j ≠ q by omega)]; exact hmt j h h1 h2)); obtain rfl : j = q := (by first | with_reducible assumption | omega); first | (exfalso; omega) | exact absurd h1 (by first | with_reducible assumption | assumption) | (simp only [upd, if_true])) (by intro j hj h1 h2; rcases Nat.lt_or_ge j q with h | h; (first | exact hwi j h h1 h2 | (simp only [upd, if_neg (show j ≠ q by omega)]; exact hwi j h h1 h2)); obtain rfl : j = q := (by first | with_reducible assumption | omega); first | (exfalso; omega) | exact absurd h1 (by first | with_reducible assumption | assumption) | (simp only [upd, if_true])) (by intro j hj h1 h2 h5 i hi; rcases Nat.lt_or_ge j q with h | h; (first | exact hin2 j h h1 h2 h5 i hi | exact hin j h h1 h2 h5 i hi); obtain rfl : j = q := (by first | with_reducible assumption | omega); first | (exfalso; omega) | exact absurd h1 (by first | with_reducible assumption | assumption) | exact absurd h5 (by first | with_reducible assumption | assumption) | exact hin3 i (by first | with_reducible assumption | omega)) hP hD hS (lv_sub hl [0, 1, 2] rfl)
              · have c_8 : ¬ ((q : Nat) : Int) = ((f : Nat) : Int) := zc_ne (nI_toInt b9_6) (nI_toInt b9_9) c_8
                refine lv_aload_n hx hb dX11_remember_85 rfl (lv_at hl 1 rfl) ?_
                refine lv_iload_n hx hb dX11_remember_86 rfl (lv_at hl 0 rfl) ?_
                obtain ⟨hPc, hDc, hFc, hI1⟩ := zi_sub (wc := [_, _, _]) hP hD hS hA [0, 1, 2] rfl rfl
                refine zcall (st1 := [.int (pI (q < ft ∧ (st q).toInt = 1 ∧ (tn q).toInt = 0))]) (va_runV (As := [.int (nI q)]) (rest := []) ⟨hx, hb, hml, hown, hts⟩ (k_M_is_n l dC dI cI cZ cF H.size k0 a (upd (upd I0 35 (nI n)) 36 (kd f)) J0 q ft st tn (by first | with_reducible assumption | assumption) (by first | with_reducible assumption | omega) (by first | with_reducible assumption | omega)) (csV_179 hts rfl rfl ⟨Nat.le_of_ble_eq_true rfl, Nat.le_of_ble_eq_true rfl⟩) (zPV2 (q0 := 0) (ci := 9) hPc hDc hK hXN rfl rfl) rfl rfl hl.1 rfl (lv_room (Nat.le_of_ble_eq_true rfl)) dX11_remember_87 ⟨Nat.le_of_ble_eq_true rfl, Nat.le_of_ble_eq_true rfl⟩) hS hFc hFc rfl (fun t H locs ht hB hk1 hS => ?_)
                obtain ⟨hP1, hD1⟩ := hB
                rw [ht] at hP1
                replace hP := z0 hP hD hk1 hP1 hI1
                clear hk1 hPc hDc hFc hP1 hD1 ht hI1
                refine lv_if_ne (tgt := 96) hx hb dX11_remember_90 rfl (fun c_10 => ?_) (fun c_10 => ?_)
                · have c_10 : q < ft ∧ (st q).toInt = 1 ∧ (tn q).toInt = 0 := zp_1 c_10
                  have hw9 := hwf q (by first | with_reducible assumption | assumption) (by omega)
                  have hm9 := hw9.1
                  have hn9 := hw9.2.1
                  have hp9 := hw9.2.2
                  refine lv_aload_n hx hb dX11_remember_96 rfl (lv_at hl 1 rfl) ?_
                  refine va_get (D := (dC, dI)) (ci := 9) (v := .ref (a 37)) (C := RX11) (T := TX11) (N := 55) hx hb hts inX11 hown hK hP 0 rfl rfl 37 (Nat.le_of_ble_eq_true rfl) (hts _ mw_1196) (fun _ h9 => h9) rfl dX11_remember_97 ?_
                  refine lv_iload_n hx hb dX11_remember_100 rfl (lv_at hl 0 rfl) ?_
                  refine lv_aload_n hx hb dX11_remember_101 rfl (lv_at hl 1 rfl) ?_
                  refine lv_iload_n hx hb dX11_remember_102 rfl (lv_at hl 2 rfl) ?_
                  refine lv_iload_n hx hb dX11_remember_103 rfl (lv_at hl 0 rfl) ?_
                  obtain ⟨hPc, hDc, hFc⟩ := zo_sub (wc := [_, _, _, _, _, _]) hP hD hS hA [0, 3, 4, 5, 6, 7] (by decide +kernel) rfl
                  refine zcall (st1 := [.int (pI (∃ i, i < eO (kd f).toInt n ∧ ∃ j, j < eO (kd q).toInt (nN (mn q)) ∧ eMt n (cF40 cx f) (cF40 cy f) i (nN (mn q)) (cF40 cx q) (cF40 cy q) j)), .int (nI q), .ref (a 37)]) (va_runV (As := [.int (nI f), .int (nI q)]) (rest := [.int (nI q), .ref (a 37)]) ⟨hx, hb, hml, hown, hts⟩ (k_M_isMet l dC dI cI cZ cF H.size k0 a (upd (upd I0 35 (nI n)) 36 (kd f)) J0 f n q (nN (mn q)) kd mn cx cy S1 (by first | with_reducible assumption | omega) (by first | with_reducible assumption | assumption) (by first | with_reducible assumption | omega) (by first | with_reducible assumption | assumption) (by first | with_reducible assumption | omega) (by first | with_reducible assumption | assumption) (by first | with_reducible assumption | omega) (by first | with_reducible assumption | assumption)) (csV_180 hts rfl rfl ⟨Nat.le_of_ble_eq_true rfl, Nat.le_of_ble_eq_true rfl⟩) (zPV2 (q0 := 0) (ci := 9) hPc hDc hK hXN rfl rfl) rfl rfl hl.1 rfl (lv_room (Nat.le_of_ble_eq_true rfl)) dX11_remember_104 ⟨Nat.le_of_ble_eq_true rfl, Nat.le_of_ble_eq_true rfl⟩) hS hFc hFc rfl (fun t H locs ht hB hk1 hS => ?_)
                  obtain ⟨q_11, hP1, hD1⟩ := hB
                  rw [ht] at hP1
                  obtain ⟨hP, hD⟩ := zn (W2 := [_, _, _, _, _, _, _, (oa (a 32) cI 8 q_11), _, _, _, _, _]) hP hD hk1 hFc hP1 hD1 [0, 3, 4, 5, 6, 7] zl_153 zl_153 [0, 3, 4, 5, 6, 7] (by decide +kernel) rfl rfl rfl rfl rfl
                  clear hk1 hPc hDc hFc hP1 hD1 ht
                  refine zz_i (v := pI (bMt kd mn cx cy f n q)) (rfl) ?_
                  have b9_12 : q < 201 := by omega
                  refine z_zast hx hb hK hP hD hS 10 1 rfl rfl (e := q) (x := pI (bMt kd mn cx cy f n q)) rfl b9_12 (Nat.le_of_ble_eq_true rfl) (zp_and _) dX11_remember_107 (fun H locs hP hD hS => ?_)
                  obtain ⟨hP, hD⟩ := zre (W2 := [_, _, _, _, _, _, _, _, _, _, (oa (a 37) cZ 201 (upd mt1 q (pI (bMt kd mn cx cy f n q)))), _, _]) hP hD rfl
                  refine lv_aload_n hx hb dX11_remember_108 rfl (lv_at hl 1 rfl) ?_
                  refine va_get (D := (dC, dI)) (ci := 9) (v := .ref (a 38)) (C := RX11) (T := TX11) (N := 55) hx hb hts inX11 hown hK hP 0 rfl rfl 38 (Nat.le_of_ble_eq_true rfl) (hts _ mw_1197) (fun _ h9 => h9) rfl dX11_remember_109 ?_
                  refine lv_iload_n hx hb dX11_remember_112 rfl (lv_at hl 0 rfl) ?_
                  refine lv_aload_n hx hb dX11_remember_113 rfl (lv_at hl 1 rfl) ?_
                  refine lv_iload_n hx hb dX11_remember_114 rfl (lv_at hl 0 rfl) ?_
                  obtain ⟨hPc, hDc, hFc, hI1⟩ := zi_sub (wc := [_, _]) hP hD hS hA [0, 3] rfl rfl
                  refine zcall (st1 := [.int (pI (5 ≤ (kd q).toInt)), .int (nI q), .ref (a 38)]) (va_runV (As := [.int (nI q)]) (rest := [.int (nI q), .ref (a 38)]) ⟨hx, hb, hml, hown, hts⟩ (k_M_isRing l dC dI cI cZ cF H.size k0 a (upd (upd I0 35 (nI n)) 36 (kd f)) J0 q kd (by first | with_reducible assumption | omega)) (csV_165 hts rfl rfl ⟨Nat.le_of_ble_eq_true rfl, Nat.le_of_ble_eq_true rfl⟩) (zPV2 (q0 := 0) (ci := 9) hPc hDc hK hXN rfl rfl) rfl rfl hl.1 rfl (lv_room (Nat.le_of_ble_eq_true rfl)) dX11_remember_115 ⟨Nat.le_of_ble_eq_true rfl, Nat.le_of_ble_eq_true rfl⟩) hS hFc hFc rfl (fun t H locs ht hB hk1 hS => ?_)
                  obtain ⟨hP1, hD1⟩ := hB
                  rw [ht] at hP1
                  replace hP := z0 hP hD hk1 hP1 hI1
                  clear hk1 hPc hDc hFc hP1 hD1 ht hI1
                  refine lv_if_eq (tgt := 145) hx hb dX11_remember_118 rfl (fun c_13 => ?_) (fun c_13 => ?_)
                  · have c_13 : ¬ (5 ≤ (kd q).toInt) := zp_0 c_13
                    refine lv_iconst (v := 0) hx hb dX11_remember_145 rfl ?_
                    refine zz_i (v := pI (5 ≤ (kd q).toInt ∧ bWi kd mn cx cy f q)) (by first | exact (zp_t ⟨by assumption, by assumption⟩).symm | exact (zp_f (fun h => absurd h.1 (by first | with_reducible assumption | assumption))).symm | exact (zp_f (fun h => absurd h.2 (by first | with_reducible assumption | assumption))).symm) ?_
                    refine z_zast hx hb hK hP hD hS 11 1 rfl rfl (e := q) (x := pI (5 ≤ (kd q).toInt ∧ bWi kd mn cx cy f q)) rfl b9_12 (Nat.le_of_ble_eq_true rfl) (zp_and _) dX11_remember_146 (fun H locs hP hD hS => ?_)
                    obtain ⟨hP, hD⟩ := zre (W2 := [_, _, _, _, _, _, _, _, _, _, _, (oa (a 38) cZ 201 (upd wi1 q (pI (5 ≤ (kd q).toInt ∧ bWi kd mn cx cy f q)))), _]) hP hD rfl
                    refine lv_iconst (v := 0) hx hb dX11_remember_147 rfl ?_
                    refine lv_istore_n (lv' := [(3, .int 0), (2, .int (nI q)), (0, .ref k0), (1, .int (nI f))]) hx hb dX11_remember_148 rfl hl (Nat.le_of_ble_eq_true rfl) rfl (fun ls hl => ?_)
                    have hl_149 : ∀ (n9 : Nat) (k : Nat) (S2 : Nat → Int32) (ins2 : Nat → Int32) (H : Heap) (locs : List Loc) (ls : Array Slot), nN (mn q) - k < n9 → (k ≤ nN (mn q)) → (∀ j, j < q → lvF ft st tn j → j ≠ f → 5 ≤ (kd f).toInt → ∀ i, i < nN (mn j) → ins2 (40 * j + i) = pI (bIn kd cx cy f n j i)) → (∀ i, i < k → ins2 (40 * q + i) = pI (bIn kd cx cy f n q i)) → va_P (dC, dI) classes [(om k0 a (upd (upd I0 35 (nI n)) 36 (kd f)) J0), (oa (a 5) cI 201 st), (oa (a 6) cZ 201 tn), (oa (a 1) cI 201 kd), (oa (a 11) cI 201 mn), (oa (a 12) cI 8040 cx), (oa (a 13) cI 8040 cy), (oa (a 32) cI 8 S2), (oa (a 33) cI 42 ox1), (oa (a 34) cI 42 oy1), (oa (a 37) cZ 201 (upd mt1 q (pI (bMt kd mn cx cy f n q)))), (oa (a 38) cZ 201 (upd wi1 q (pI (5 ≤ (kd q).toInt ∧ bWi kd mn cx cy f q)))), (oa (a 39) cZ 8040 ins2)] H → va_D A [(om k0 a (upd (upd I0 35 (nI n)) 36 (kd f)) J0), (oa (a 5) cI 201 st), (oa (a 6) cZ 201 tn), (oa (a 1) cI 201 kd), (oa (a 11) cI 201 mn), (oa (a 12) cI 8040 cx), (oa (a 13) cI 8040 cy), (oa (a 32) cI 8 S2), (oa (a 33) cI 42 ox1), (oa (a 34) cI 42 oy1), (oa (a 37) cZ 201 (upd mt1 q (pI (bMt kd mn cx cy f n q)))), (oa (a 38) cZ 201 (upd wi1 q (pI (5 ≤ (kd q).toInt ∧ bWi kd mn cx cy f q)))), (oa (a 39) cZ 8040 ins2)] → va_S A s.heap H locs → lv_has ls 4 [(3, .int (nI k)), (2, .int (nI q)), (0, .ref k0), (1, .int (nI f))] → W p l e ({ frames := 4, cells := 0, slots := 0, locals := 107 } : Room) s m ([.ref k0, .int (nI f)] : List Value).toArray below meth c H locs 0 0 Q9 (F0 m 149 ls []) := by
                      intro n9
                      induction n9 with
                      | zero => intro k S2 ins2 H locs ls hm; exact absurd hm (Nat.not_lt_zero _)
                      | succ n9 ih_149 =>
                        intro k S2 ins2 H locs ls hm hk hin2 hin3 hP hD hS hl
                        refine lv_iload_n hx hb dX11_remember_149 rfl (lv_at hl 0 rfl) ?_
                        refine lv_aload_n hx hb dX11_remember_150 rfl (lv_at hl 2 rfl) ?_
                        refine va_get (D := (dC, dI)) (ci := 9) (v := .ref (a 11)) (C := RX11) (T := TX11) (N := 55) hx hb hts inX11 hown hK hP 0 rfl rfl 11 (Nat.le_of_ble_eq_true rfl) (hts _ mw_1170) (fun _ h9 => h9) rfl dX11_remember_151 ?_
                        refine lv_iload_n hx hb dX11_remember_154 rfl (lv_at hl 1 rfl) ?_
                        refine z_iald hx hb hK hP 4 0 rfl rfl (e := q) rfl b9_12 (Nat.le_of_ble_eq_true rfl) dX11_remember_155 ?_
                        refine zz_i (v := nI (nN (mn q))) (hm9) ?_
                        have b9_15 : zlt (k) := show k < 2147483648 by omega
                        have b9_16 : zlt ((nN (mn q))) := show (nN (mn q)) < 2147483648 by omega
                        refine lv_icmp_ge (tgt := 211) hx hb dX11_remember_156 rfl (fun c_14 => ?_) (fun c_14 => ?_)
                        · have c_14 : ((nN (mn q) : Nat) : Int) ≤ ((k : Nat) : Int) := zc_le (nI_toInt b9_16) (nI_toInt b9_15) c_14
                          refine lv_iinc (v := nI (q + 1)) (lv' := [(2, .int (nI (q + 1))), (3, .int (nI k)), (0, .ref k0), (1, .int (nI f))]) hx hb dX11_remember_211 hl (k := 1) rfl (nI_add q 1) (Nat.le_of_ble_eq_true rfl) rfl (fun ls hl => ?_)
                          refine lv_goto (tgt := 72) hx hb dX11_remember_214 rfl ?_
                          exact ih_72 (q + 1) S2 (upd mt1 q (pI (bMt kd mn cx cy f n q))) (upd wi1 q (pI (5 ≤ (kd q).toInt ∧ bWi kd mn cx cy f q))) ins2 H locs ls (by first | with_reducible assumption | omega) (by first | with_reducible assumption | omega) (by intro j hj h1 h2; rcases Nat.lt_or_ge j q with h | h; (first | exact hmt j h h1 h2 | (simp only [upd, if_neg (show j ≠ q by omega)]; exact hmt j h h1 h2)); obtain rfl : j = q := (by first | with_reducible assumption | omega); first | (exfalso; omega) | exact absurd h1 (by first | with_reducible assumption | assumption) | (simp only [upd, if_true])) (by intro j hj h1 h2; rcases Nat.lt_or_ge j q with h | h; (first | exact hwi j h h1 h2 | (simp only [upd, if_neg (show j ≠ q by omega)]; exact hwi j h h1 h2)); obtain rfl : j = q := (by first | with_reducible assumption | omega); first | (exfalso; omega) | exact absurd h1 (by first | with_reducible assumption | assumption) | (simp only [upd, if_true])) (by intro j hj h1 h2 h5 i hi; rcases Nat.lt_or_ge j q with h | h; (first | exact hin2 j h h1 h2 h5 i hi | exact hin j h h1 h2 h5 i hi); obtain rfl : j = q := (by first | with_reducible assumption | omega); first | (exfalso; omega) | exact absurd h1 (by first | with_reducible assumption | assumption) | exact absurd h5 (by first | with_reducible assumption | assumption) | exact hin3 i (by first | with_reducible assumption | omega)) hP hD hS (lv_sub hl [0, 2, 3] rfl)
                        · have c_14 : ((k : Nat) : Int) < ((nN (mn q) : Nat) : Int) := zc_nle (nI_toInt b9_16) (nI_toInt b9_15) c_14
                          have hk9 : k < nN (mn q) := (by omega)
                          refine lv_aload_n hx hb dX11_remember_159 rfl (lv_at hl 2 rfl) ?_
                          refine lv_iload_n hx hb dX11_remember_160 rfl (lv_at hl 3 rfl) ?_
                          obtain ⟨hPc, hDc, hFc, hI1⟩ := zi_sub (wc := [_, _]) hP hD hS hA [0, 3] rfl rfl
                          refine zcall (st1 := [.int (pI (5 ≤ (kd f).toInt))]) (va_runV (As := [.int (nI f)]) (rest := []) ⟨hx, hb, hml, hown, hts⟩ (k_M_isRing l dC dI cI cZ cF H.size k0 a (upd (upd I0 35 (nI n)) 36 (kd f)) J0 f kd (by first | with_reducible assumption | omega)) (csV_165 hts rfl rfl ⟨Nat.le_of_ble_eq_true rfl, Nat.le_of_ble_eq_true rfl⟩) (zPV2 (q0 := 0) (ci := 9) hPc hDc hK hXN rfl rfl) rfl rfl hl.1 rfl (lv_room (Nat.le_of_ble_eq_true rfl)) dX11_remember_161 ⟨Nat.le_of_ble_eq_true rfl, Nat.le_of_ble_eq_true rfl⟩) hS hFc hFc rfl (fun t H locs ht hB hk1 hS => ?_)
                          obtain ⟨hP1, hD1⟩ := hB
                          rw [ht] at hP1
                          replace hP := z0 hP hD hk1 hP1 hI1
                          clear hk1 hPc hDc hFc hP1 hD1 ht hI1
                          refine lv_if_eq (tgt := 211) hx hb dX11_remember_164 rfl (fun c_17 => ?_) (fun c_17 => ?_)
                          · have c_17 : ¬ (5 ≤ (kd f).toInt) := zp_0 c_17
                            refine lv_iinc (v := nI (q + 1)) (lv' := [(2, .int (nI (q + 1))), (3, .int (nI k)), (0, .ref k0), (1, .int (nI f))]) hx hb dX11_remember_211 hl (k := 1) rfl (nI_add q 1) (Nat.le_of_ble_eq_true rfl) rfl (fun ls hl => ?_)
                            refine lv_goto (tgt := 72) hx hb dX11_remember_214 rfl ?_
                            exact ih_72 (q + 1) S2 (upd mt1 q (pI (bMt kd mn cx cy f n q))) (upd wi1 q (pI (5 ≤ (kd q).toInt ∧ bWi kd mn cx cy f q))) ins2 H locs ls (by first | with_reducible assumption | omega) (by first | with_reducible assumption | omega) (by intro j hj h1 h2; rcases Nat.lt_or_ge j q with h | h; (first | exact hmt j h h1 h2 | (simp only [upd, if_neg (show j ≠ q by omega)]; exact hmt j h h1 h2)); obtain rfl : j = q := (by first | with_reducible assumption | omega); first | (exfalso; omega) | exact absurd h1 (by first | with_reducible assumption | assumption) | (simp only [upd, if_true])) (by intro j hj h1 h2; rcases Nat.lt_or_ge j q with h | h; (first | exact hwi j h h1 h2 | (simp only [upd, if_neg (show j ≠ q by omega)]; exact hwi j h h1 h2)); obtain rfl : j = q := (by first | with_reducible assumption | omega); first | (exfalso; omega) | exact absurd h1 (by first | with_reducible assumption | assumption) | (simp only [upd, if_true])) (by intro j hj h1 h2 h5 i hi; rcases Nat.lt_or_ge j q with h | h; (first | exact hin2 j h h1 h2 h5 i hi | exact hin j h h1 h2 h5 i hi); obtain rfl : j = q := (by first | with_reducible assumption | omega); first | (exfalso; omega) | exact absurd h1 (by first | with_reducible assumption | assumption) | exact absurd h5 (by first | with_reducible assumption | assumption) | exact hin3 i (by first | with_reducible assumption | omega)) hP hD hS (lv_sub hl [0, 2, 3] rfl)
                          · have c_17 : 5 ≤ (kd f).toInt := zp_1 c_17
                            refine lv_aload_n hx hb dX11_remember_167 rfl (lv_at hl 2 rfl) ?_
                            refine va_get (D := (dC, dI)) (ci := 9) (v := .ref (a 39)) (C := RX11) (T := TX11) (N := 55) hx hb hts inX11 hown hK hP 0 rfl rfl 39 (Nat.le_of_ble_eq_true rfl) (hts _ mw_1198) (fun _ h9 => h9) rfl dX11_remember_168 ?_
                            refine lv_bipush (v := 40) hx hb dX11_remember_171 rfl ?_
                            refine lv_iload_n hx hb dX11_remember_173 rfl (lv_at hl 1 rfl) ?_
                            refine lv_imul hx hb dX11_remember_174 ?_
                            refine zz_i (v := nI (40 * q)) (pk_mul 40 q) ?_
                            refine lv_iload_n hx hb dX11_remember_175 rfl (lv_at hl 0 rfl) ?_
                            refine lv_iadd hx hb dX11_remember_176 ?_
                            refine zz_i (v := nI (40 * q + k)) (nI_add (40 * q) k) ?_
                            refine lv_aload_n hx hb dX11_remember_177 rfl (lv_at hl 2 rfl) ?_
                            refine lv_iload_n hx hb dX11_remember_178 rfl (lv_at hl 3 rfl) ?_
                            refine lv_aload_n hx hb dX11_remember_179 rfl (lv_at hl 2 rfl) ?_
                            refine va_get (D := (dC, dI)) (ci := 9) (v := .ref (a 12)) (C := RX11) (T := TX11) (N := 55) hx hb hts inX11 hown hK hP 0 rfl rfl 12 (Nat.le_of_ble_eq_true rfl) (hts _ mw_1171) (fun _ h9 => h9) rfl dX11_remember_180 ?_
                            refine lv_bipush (v := 40) hx hb dX11_remember_183 rfl ?_
                            refine lv_iload_n hx hb dX11_remember_185 rfl (lv_at hl 1 rfl) ?_
                            refine lv_imul hx hb dX11_remember_186 ?_
                            refine zz_i (v := nI (40 * q)) (pk_mul 40 q) ?_
                            refine lv_iload_n hx hb dX11_remember_187 rfl (lv_at hl 0 rfl) ?_
                            refine lv_iadd hx hb dX11_remember_188 ?_
                            refine zz_i (v := nI (40 * q + k)) (nI_add (40 * q) k) ?_
                            have b9_18 : 40 * q + k < 8040 := by omega
                            refine z_iald hx hb hK hP 5 0 rfl rfl (e := 40 * q + k) rfl b9_18 (Nat.le_of_ble_eq_true rfl) dX11_remember_189 ?_
                            refine lv_aload_n hx hb dX11_remember_190 rfl (lv_at hl 2 rfl) ?_
                            refine va_get (D := (dC, dI)) (ci := 9) (v := .ref (a 13)) (C := RX11) (T := TX11) (N := 55) hx hb hts inX11 hown hK hP 0 rfl rfl 13 (Nat.le_of_ble_eq_true rfl) (hts _ mw_1172) (fun _ h9 => h9) rfl dX11_remember_191 ?_
                            refine lv_bipush (v := 40) hx hb dX11_remember_194 rfl ?_
                            refine lv_iload_n hx hb dX11_remember_196 rfl (lv_at hl 1 rfl) ?_
                            refine lv_imul hx hb dX11_remember_197 ?_
                            refine zz_i (v := nI (40 * q)) (pk_mul 40 q) ?_
                            refine lv_iload_n hx hb dX11_remember_198 rfl (lv_at hl 0 rfl) ?_
                            refine lv_iadd hx hb dX11_remember_199 ?_
                            refine zz_i (v := nI (40 * q + k)) (nI_add (40 * q) k) ?_
                            refine z_iald hx hb hK hP 6 0 rfl rfl (e := 40 * q + k) rfl b9_18 (Nat.le_of_ble_eq_true rfl) dX11_remember_200 ?_
                            obtain ⟨hPc, hDc, hFc⟩ := zo_sub (wc := [_, _, _, _, _, _]) hP hD hS hA [0, 3, 4, 5, 6, 7] (by decide +kernel) rfl
                            refine zcall (st1 := [.int (pI (¬ (∃ i, i < eO (kd f).toInt n ∧ eOn n (cF40 cx f) (cF40 cy f) i (cx (40 * q + k)).toInt (cy (40 * q + k)).toInt) ∧ par2 (eTg n (cF40 cx f) (cF40 cy f) (cx (40 * q + k)).toInt (cy (40 * q + k)).toInt) (eO (kd f).toInt n))), .int (nI (40 * q + k)), .ref (a 39)]) (va_runV (As := [.int (nI f), .int (cx (40 * q + k)), .int (cy (40 * q + k))]) (rest := [.int (nI (40 * q + k)), .ref (a 39)]) ⟨hx, hb, hml, hown, hts⟩ (k_M_isInside l dC dI cI cZ cF H.size k0 a (upd (upd I0 35 (nI n)) 36 (kd f)) J0 f n kd mn cx cy S2 (cx (40 * q + k)) (cy (40 * q + k)) (by first | with_reducible assumption | omega) (by first | with_reducible assumption | assumption) (by first | with_reducible assumption | omega) (by first | with_reducible assumption | assumption) ((hp9 k hk9).1) ((hp9 k hk9).2)) (csV_183 hts rfl rfl ⟨Nat.le_of_ble_eq_true rfl, Nat.le_of_ble_eq_true rfl⟩) (zPV2 (q0 := 0) (ci := 9) hPc hDc hK hXN rfl rfl) rfl rfl hl.1 rfl (lv_room (Nat.le_of_ble_eq_true rfl)) dX11_remember_201 ⟨Nat.le_of_ble_eq_true rfl, Nat.le_of_ble_eq_true rfl⟩) hS hFc hFc rfl (fun t H locs ht hB hk1 hS => ?_)
                            obtain ⟨q_19, hP1, hD1⟩ := hB
                            rw [ht] at hP1
                            obtain ⟨hP, hD⟩ := zn (W2 := [_, _, _, _, _, _, _, (oa (a 32) cI 8 q_19), _, _, _, _, _]) hP hD hk1 hFc hP1 hD1 [0, 3, 4, 5, 6, 7] zl_153 zl_153 [0, 3, 4, 5, 6, 7] (by decide +kernel) rfl rfl rfl rfl rfl
                            clear hk1 hPc hDc hFc hP1 hD1 ht
                            refine zz_i (v := pI (bIn kd cx cy f n q k)) (rfl) ?_
                            refine z_zast hx hb hK hP hD hS 12 1 rfl rfl (e := 40 * q + k) (x := pI (bIn kd cx cy f n q k)) rfl b9_18 (Nat.le_of_ble_eq_true rfl) (zp_and _) dX11_remember_204 (fun H locs hP hD hS => ?_)
                            obtain ⟨hP, hD⟩ := zre (W2 := [_, _, _, _, _, _, _, _, _, _, _, _, (oa (a 39) cZ 8040 (upd ins2 (40 * q + k) (pI (bIn kd cx cy f n q k))))]) hP hD rfl
                            refine lv_iinc (v := nI (k + 1)) (lv' := [(3, .int (nI (k + 1))), (2, .int (nI q)), (0, .ref k0), (1, .int (nI f))]) hx hb dX11_remember_205 hl (k := 0) rfl (nI_add k 1) (Nat.le_of_ble_eq_true rfl) rfl (fun ls hl => ?_)
                            refine lv_goto (tgt := 149) hx hb dX11_remember_208 rfl ?_
                            exact ih_149 (k + 1) q_19 (upd ins2 (40 * q + k) (pI (bIn kd cx cy f n q k))) H locs ls (by first | with_reducible assumption | omega) (by first | with_reducible assumption | omega) (by intro j hj h1 h2 h5 i hi; have h8 := (hwf j h1 h2).2.1; simp only [upd, if_neg (show 40 * j + i ≠ 40 * q + k by omega)]; exact hin2 j hj h1 h2 h5 i hi) (by intro i hi; rcases Nat.lt_or_ge i k with h | h; simp only [upd, if_neg (show 40 * q + i ≠ 40 * q + k by omega)]; exact hin3 i h; rw [show i = k by omega]; simp only [upd, if_true]) hP hD hS (lv_sub hl [0, 1, 2, 3] rfl)
                    exact hl_149 _ 0 q_11 ins1 H locs ls (Nat.lt_succ_self _) (by first | with_reducible assumption | omega) (by intro j hj h1 h2 h5 i hi; exact hin j hj h1 h2 h5 i hi) (by intro i hi; omega) hP hD hS (lv_sub hl [0, 1, 2, 3] rfl)
                  · have c_13 : 5 ≤ (kd q).toInt := zp_1 c_13
                    refine lv_aload_n hx hb dX11_remember_121 rfl (lv_at hl 1 rfl) ?_
                    refine lv_iload_n hx hb dX11_remember_122 rfl (lv_at hl 0 rfl) ?_
                    refine lv_aload_n hx hb dX11_remember_123 rfl (lv_at hl 1 rfl) ?_
                    refine va_get (D := (dC, dI)) (ci := 9) (v := .ref (a 33)) (C := RX11) (T := TX11) (N := 55) hx hb hts inX11 hown hK hP 0 rfl rfl 33 (Nat.le_of_ble_eq_true rfl) (hts _ mw_1192) (fun _ h9 => h9) rfl dX11_remember_124 ?_
                    refine lv_iconst (v := 0) hx hb dX11_remember_127 rfl ?_
                    refine z_iald hx hb hK hP 8 0 rfl rfl (e := 0) rfl (Nat.le_of_ble_eq_true rfl) (Nat.le_of_ble_eq_true rfl) dX11_remember_128 ?_
                    refine zz_i (v := cF40 cx f 0) ((hox 0 (by omega)).1) ?_
                    refine lv_aload_n hx hb dX11_remember_129 rfl (lv_at hl 1 rfl) ?_
                    refine va_get (D := (dC, dI)) (ci := 9) (v := .ref (a 34)) (C := RX11) (T := TX11) (N := 55) hx hb hts inX11 hown hK hP 0 rfl rfl 34 (Nat.le_of_ble_eq_true rfl) (hts _ mw_1193) (fun _ h9 => h9) rfl dX11_remember_130 ?_
                    refine lv_iconst (v := 0) hx hb dX11_remember_133 rfl ?_
                    refine z_iald hx hb hK hP 9 0 rfl rfl (e := 0) rfl (Nat.le_of_ble_eq_true rfl) (Nat.le_of_ble_eq_true rfl) dX11_remember_134 ?_
                    refine zz_i (v := cF40 cy f 0) ((hox 0 (by omega)).2) ?_
                    obtain ⟨hPc, hDc, hFc⟩ := zo_sub (wc := [_, _, _, _, _, _]) hP hD hS hA [0, 3, 4, 5, 6, 7] (by decide +kernel) rfl
                    refine zcall (st1 := [.int (pI (¬ (∃ i, i < eO (kd q).toInt (nN (mn q)) ∧ eOn (nN (mn q)) (cF40 cx q) (cF40 cy q) i (cF40 cx f 0).toInt (cF40 cy f 0).toInt) ∧ par2 (eTg (nN (mn q)) (cF40 cx q) (cF40 cy q) (cF40 cx f 0).toInt (cF40 cy f 0).toInt) (eO (kd q).toInt (nN (mn q))))), .int (nI q), .ref (a 38)]) (va_runV (As := [.int (nI q), .int (cF40 cx f 0), .int (cF40 cy f 0)]) (rest := [.int (nI q), .ref (a 38)]) ⟨hx, hb, hml, hown, hts⟩ (k_M_isInside l dC dI cI cZ cF H.size k0 a (upd (upd I0 35 (nI n)) 36 (kd f)) J0 q (nN (mn q)) kd mn cx cy q_11 (cF40 cx f 0) (cF40 cy f 0) (by first | with_reducible assumption | omega) (by first | with_reducible assumption | assumption) (by first | with_reducible assumption | omega) (by first | with_reducible assumption | assumption) ((hp_f 0 (by first | with_reducible assumption | omega)).1) ((hp_f 0 (by first | with_reducible assumption | omega)).2)) (csV_183 hts rfl rfl ⟨Nat.le_of_ble_eq_true rfl, Nat.le_of_ble_eq_true rfl⟩) (zPV2 (q0 := 0) (ci := 9) hPc hDc hK hXN rfl rfl) rfl rfl hl.1 rfl (lv_room (Nat.le_of_ble_eq_true rfl)) dX11_remember_135 ⟨Nat.le_of_ble_eq_true rfl, Nat.le_of_ble_eq_true rfl⟩) hS hFc hFc rfl (fun t H locs ht hB hk1 hS => ?_)
                    obtain ⟨q_20, hP1, hD1⟩ := hB
                    rw [ht] at hP1
                    obtain ⟨hP, hD⟩ := zn (W2 := [_, _, _, _, _, _, _, (oa (a 32) cI 8 q_20), _, _, _, _, _]) hP hD hk1 hFc hP1 hD1 [0, 3, 4, 5, 6, 7] zl_153 zl_153 [0, 3, 4, 5, 6, 7] (by decide +kernel) rfl rfl rfl rfl rfl
                    clear hk1 hPc hDc hFc hP1 hD1 ht
                    refine zz_i (v := pI (bWi kd mn cx cy f q)) (rfl) ?_
                    refine lv_if_eq (tgt := 145) hx hb dX11_remember_138 rfl (fun c_21 => ?_) (fun c_21 => ?_)
                    · have c_21 : ¬ (bWi kd mn cx cy f q) := zp_0 c_21
                      refine lv_iconst (v := 0) hx hb dX11_remember_145 rfl ?_
                      refine zz_i (v := pI (5 ≤ (kd q).toInt ∧ bWi kd mn cx cy f q)) (by first | exact (zp_t ⟨by assumption, by assumption⟩).symm | exact (zp_f (fun h => absurd h.1 (by first | with_reducible assumption | assumption))).symm | exact (zp_f (fun h => absurd h.2 (by first | with_reducible assumption | assumption))).symm) ?_
                      have b9_22 : q < 201 := by omega
                      refine z_zast hx hb hK hP hD hS 11 1 rfl rfl (e := q) (x := pI (5 ≤ (kd q).toInt ∧ bWi kd mn cx cy f q)) rfl b9_22 (Nat.le_of_ble_eq_true rfl) (zp_and _) dX11_remember_146 (fun H locs hP hD hS => ?_)
                      obtain ⟨hP, hD⟩ := zre (W2 := [_, _, _, _, _, _, _, _, _, _, _, (oa (a 38) cZ 201 (upd wi1 q (pI (5 ≤ (kd q).toInt ∧ bWi kd mn cx cy f q)))), _]) hP hD rfl
                      refine lv_iconst (v := 0) hx hb dX11_remember_147 rfl ?_
                      refine lv_istore_n (lv' := [(3, .int 0), (2, .int (nI q)), (0, .ref k0), (1, .int (nI f))]) hx hb dX11_remember_148 rfl hl (Nat.le_of_ble_eq_true rfl) rfl (fun ls hl => ?_)
                      have hl_149 : ∀ (n9 : Nat) (k : Nat) (S2 : Nat → Int32) (ins2 : Nat → Int32) (H : Heap) (locs : List Loc) (ls : Array Slot), nN (mn q) - k < n9 → (k ≤ nN (mn q)) → (∀ j, j < q → lvF ft st tn j → j ≠ f → 5 ≤ (kd f).toInt → ∀ i, i < nN (mn j) → ins2 (40 * j + i) = pI (bIn kd cx cy f n j i)) → (∀ i, i < k → ins2 (40 * q + i) = pI (bIn kd cx cy f n q i)) → va_P (dC, dI) classes [(om k0 a (upd (upd I0 35 (nI n)) 36 (kd f)) J0), (oa (a 5) cI 201 st), (oa (a 6) cZ 201 tn), (oa (a 1) cI 201 kd), (oa (a 11) cI 201 mn), (oa (a 12) cI 8040 cx), (oa (a 13) cI 8040 cy), (oa (a 32) cI 8 S2), (oa (a 33) cI 42 ox1), (oa (a 34) cI 42 oy1), (oa (a 37) cZ 201 (upd mt1 q (pI (bMt kd mn cx cy f n q)))), (oa (a 38) cZ 201 (upd wi1 q (pI (5 ≤ (kd q).toInt ∧ bWi kd mn cx cy f q)))), (oa (a 39) cZ 8040 ins2)] H → va_D A [(om k0 a (upd (upd I0 35 (nI n)) 36 (kd f)) J0), (oa (a 5) cI 201 st), (oa (a 6) cZ 201 tn), (oa (a 1) cI 201 kd), (oa (a 11) cI 201 mn), (oa (a 12) cI 8040 cx), (oa (a 13) cI 8040 cy), (oa (a 32) cI 8 S2), (oa (a 33) cI 42 ox1), (oa (a 34) cI 42 oy1), (oa (a 37) cZ 201 (upd mt1 q (pI (bMt kd mn cx cy f n q)))), (oa (a 38) cZ 201 (upd wi1 q (pI (5 ≤ (kd q).toInt ∧ bWi kd mn cx cy f q)))), (oa (a 39) cZ 8040 ins2)] → va_S A s.heap H locs → lv_has ls 4 [(3, .int (nI k)), (2, .int (nI q)), (0, .ref k0), (1, .int (nI f))] → W p l e ({ frames := 4, cells := 0, slots := 0, locals := 107 } : Room) s m ([.ref k0, .int (nI f)] : List Value).toArray below meth c H locs 0 0 Q9 (F0 m 149 ls []) := by
                        intro n9
                        induction n9 with
                        | zero => intro k S2 ins2 H locs ls hm; exact absurd hm (Nat.not_lt_zero _)
                        | succ n9 ih_149 =>
                          intro k S2 ins2 H locs ls hm hk hin2 hin3 hP hD hS hl
                          refine lv_iload_n hx hb dX11_remember_149 rfl (lv_at hl 0 rfl) ?_
                          refine lv_aload_n hx hb dX11_remember_150 rfl (lv_at hl 2 rfl) ?_
                          refine va_get (D := (dC, dI)) (ci := 9) (v := .ref (a 11)) (C := RX11) (T := TX11) (N := 55) hx hb hts inX11 hown hK hP 0 rfl rfl 11 (Nat.le_of_ble_eq_true rfl) (hts _ mw_1170) (fun _ h9 => h9) rfl dX11_remember_151 ?_
                          refine lv_iload_n hx hb dX11_remember_154 rfl (lv_at hl 1 rfl) ?_
                          refine z_iald hx hb hK hP 4 0 rfl rfl (e := q) rfl b9_22 (Nat.le_of_ble_eq_true rfl) dX11_remember_155 ?_
                          refine zz_i (v := nI (nN (mn q))) (hm9) ?_
                          have b9_24 : zlt (k) := show k < 2147483648 by omega
                          have b9_25 : zlt ((nN (mn q))) := show (nN (mn q)) < 2147483648 by omega
                          refine lv_icmp_ge (tgt := 211) hx hb dX11_remember_156 rfl (fun c_23 => ?_) (fun c_23 => ?_)
                          · have c_23 : ((nN (mn q) : Nat) : Int) ≤ ((k : Nat) : Int) := zc_le (nI_toInt b9_25) (nI_toInt b9_24) c_23
                            refine lv_iinc (v := nI (q + 1)) (lv' := [(2, .int (nI (q + 1))), (3, .int (nI k)), (0, .ref k0), (1, .int (nI f))]) hx hb dX11_remember_211 hl (k := 1) rfl (nI_add q 1) (Nat.le_of_ble_eq_true rfl) rfl (fun ls hl => ?_)
                            refine lv_goto (tgt := 72) hx hb dX11_remember_214 rfl ?_
                            exact ih_72 (q + 1) S2 (upd mt1 q (pI (bMt kd mn cx cy f n q))) (upd wi1 q (pI (5 ≤ (kd q).toInt ∧ bWi kd mn cx cy f q))) ins2 H locs ls (by first | with_reducible assumption | omega) (by first | with_reducible assumption | omega) (by intro j hj h1 h2; rcases Nat.lt_or_ge j q with h | h; (first | exact hmt j h h1 h2 | (simp only [upd, if_neg (show j ≠ q by omega)]; exact hmt j h h1 h2)); obtain rfl : j = q := (by first | with_reducible assumption | omega); first | (exfalso; omega) | exact absurd h1 (by first | with_reducible assumption | assumption) | (simp only [upd, if_true])) (by intro j hj h1 h2; rcases Nat.lt_or_ge j q with h | h; (first | exact hwi j h h1 h2 | (simp only [upd, if_neg (show j ≠ q by omega)]; exact hwi j h h1 h2)); obtain rfl : j = q := (by first | with_reducible assumption | omega); first | (exfalso; omega) | exact absurd h1 (by first | with_reducible assumption | assumption) | (simp only [upd, if_true])) (by intro j hj h1 h2 h5 i hi; rcases Nat.lt_or_ge j q with h | h; (first | exact hin2 j h h1 h2 h5 i hi | exact hin j h h1 h2 h5 i hi); obtain rfl : j = q := (by first | with_reducible assumption | omega); first | (exfalso; omega) | exact absurd h1 (by first | with_reducible assumption | assumption) | exact absurd h5 (by first | with_reducible assumption | assumption) | exact hin3 i (by first | with_reducible assumption | omega)) hP hD hS (lv_sub hl [0, 2, 3] rfl)
                          · have c_23 : ((k : Nat) : Int) < ((nN (mn q) : Nat) : Int) := zc_nle (nI_toInt b9_25) (nI_toInt b9_24) c_23
                            have hk9 : k < nN (mn q) := (by omega)
                            refine lv_aload_n hx hb dX11_remember_159 rfl (lv_at hl 2 rfl) ?_
                            refine lv_iload_n hx hb dX11_remember_160 rfl (lv_at hl 3 rfl) ?_
                            obtain ⟨hPc, hDc, hFc, hI1⟩ := zi_sub (wc := [_, _]) hP hD hS hA [0, 3] rfl rfl
                            refine zcall (st1 := [.int (pI (5 ≤ (kd f).toInt))]) (va_runV (As := [.int (nI f)]) (rest := []) ⟨hx, hb, hml, hown, hts⟩ (k_M_isRing l dC dI cI cZ cF H.size k0 a (upd (upd I0 35 (nI n)) 36 (kd f)) J0 f kd (by first | with_reducible assumption | omega)) (csV_165 hts rfl rfl ⟨Nat.le_of_ble_eq_true rfl, Nat.le_of_ble_eq_true rfl⟩) (zPV2 (q0 := 0) (ci := 9) hPc hDc hK hXN rfl rfl) rfl rfl hl.1 rfl (lv_room (Nat.le_of_ble_eq_true rfl)) dX11_remember_161 ⟨Nat.le_of_ble_eq_true rfl, Nat.le_of_ble_eq_true rfl⟩) hS hFc hFc rfl (fun t H locs ht hB hk1 hS => ?_)
                            obtain ⟨hP1, hD1⟩ := hB
                            rw [ht] at hP1
                            replace hP := z0 hP hD hk1 hP1 hI1
                            clear hk1 hPc hDc hFc hP1 hD1 ht hI1
                            refine lv_if_eq (tgt := 211) hx hb dX11_remember_164 rfl (fun c_26 => ?_) (fun c_26 => ?_)
                            · have c_26 : ¬ (5 ≤ (kd f).toInt) := zp_0 c_26
                              refine lv_iinc (v := nI (q + 1)) (lv' := [(2, .int (nI (q + 1))), (3, .int (nI k)), (0, .ref k0), (1, .int (nI f))]) hx hb dX11_remember_211 hl (k := 1) rfl (nI_add q 1) (Nat.le_of_ble_eq_true rfl) rfl (fun ls hl => ?_)
                              refine lv_goto (tgt := 72) hx hb dX11_remember_214 rfl ?_
                              exact ih_72 (q + 1) S2 (upd mt1 q (pI (bMt kd mn cx cy f n q))) (upd wi1 q (pI (5 ≤ (kd q).toInt ∧ bWi kd mn cx cy f q))) ins2 H locs ls (by first | with_reducible assumption | omega) (by first | with_reducible assumption | omega) (by intro j hj h1 h2; rcases Nat.lt_or_ge j q with h | h; (first | exact hmt j h h1 h2 | (simp only [upd, if_neg (show j ≠ q by omega)]; exact hmt j h h1 h2)); obtain rfl : j = q := (by first | with_reducible assumption | omega); first | (exfalso; omega) | exact absurd h1 (by first | with_reducible assumption | assumption) | (simp only [upd, if_true])) (by intro j hj h1 h2; rcases Nat.lt_or_ge j q with h | h; (first | exact hwi j h h1 h2 | (simp only [upd, if_neg (show j ≠ q by omega)]; exact hwi j h h1 h2)); obtain rfl : j = q := (by first | with_reducible assumption | omega); first | (exfalso; omega) | exact absurd h1 (by first | with_reducible assumption | assumption) | (simp only [upd, if_true])) (by intro j hj h1 h2 h5 i hi; rcases Nat.lt_or_ge j q with h | h; (first | exact hin2 j h h1 h2 h5 i hi | exact hin j h h1 h2 h5 i hi); obtain rfl : j = q := (by first | with_reducible assumption | omega); first | (exfalso; omega) | exact absurd h1 (by first | with_reducible assumption | assumption) | exact absurd h5 (by first | with_reducible assumption | assumption) | exact hin3 i (by first | with_reducible assumption | omega)) hP hD hS (lv_sub hl [0, 2, 3] rfl)
                            · have c_26 : 5 ≤ (kd f).toInt := zp_1 c_26
                              refine lv_aload_n hx hb dX11_remember_167 rfl (lv_at hl 2 rfl) ?_
                              refine va_get (D := (dC, dI)) (ci := 9) (v := .ref (a 39)) (C := RX11) (T := TX11) (N := 55) hx hb hts inX11 hown hK hP 0 rfl rfl 39 (Nat.le_of_ble_eq_true rfl) (hts _ mw_1198) (fun _ h9 => h9) rfl dX11_remember_168 ?_
                              refine lv_bipush (v := 40) hx hb dX11_remember_171 rfl ?_
                              refine lv_iload_n hx hb dX11_remember_173 rfl (lv_at hl 1 rfl) ?_
                              refine lv_imul hx hb dX11_remember_174 ?_
                              refine zz_i (v := nI (40 * q)) (pk_mul 40 q) ?_
                              refine lv_iload_n hx hb dX11_remember_175 rfl (lv_at hl 0 rfl) ?_
                              refine lv_iadd hx hb dX11_remember_176 ?_
                              refine zz_i (v := nI (40 * q + k)) (nI_add (40 * q) k) ?_
                              refine lv_aload_n hx hb dX11_remember_177 rfl (lv_at hl 2 rfl) ?_
                              refine lv_iload_n hx hb dX11_remember_178 rfl (lv_at hl 3 rfl) ?_
                              refine lv_aload_n hx hb dX11_remember_179 rfl (lv_at hl 2 rfl) ?_
                              refine va_get (D := (dC, dI)) (ci := 9) (v := .ref (a 12)) (C := RX11) (T := TX11) (N := 55) hx hb hts inX11 hown hK hP 0 rfl rfl 12 (Nat.le_of_ble_eq_true rfl) (hts _ mw_1171) (fun _ h9 => h9) rfl dX11_remember_180 ?_
                              refine lv_bipush (v := 40) hx hb dX11_remember_183 rfl ?_
                              refine lv_iload_n hx hb dX11_remember_185 rfl (lv_at hl 1 rfl) ?_
                              refine lv_imul hx hb dX11_remember_186 ?_
                              refine zz_i (v := nI (40 * q)) (pk_mul 40 q) ?_
                              refine lv_iload_n hx hb dX11_remember_187 rfl (lv_at hl 0 rfl) ?_
                              refine lv_iadd hx hb dX11_remember_188 ?_
                              refine zz_i (v := nI (40 * q + k)) (nI_add (40 * q) k) ?_
                              have b9_27 : 40 * q + k < 8040 := by omega
                              refine z_iald hx hb hK hP 5 0 rfl rfl (e := 40 * q + k) rfl b9_27 (Nat.le_of_ble_eq_true rfl) dX11_remember_189 ?_
                              refine lv_aload_n hx hb dX11_remember_190 rfl (lv_at hl 2 rfl) ?_
                              refine va_get (D := (dC, dI)) (ci := 9) (v := .ref (a 13)) (C := RX11) (T := TX11) (N := 55) hx hb hts inX11 hown hK hP 0 rfl rfl 13 (Nat.le_of_ble_eq_true rfl) (hts _ mw_1172) (fun _ h9 => h9) rfl dX11_remember_191 ?_
                              refine lv_bipush (v := 40) hx hb dX11_remember_194 rfl ?_
                              refine lv_iload_n hx hb dX11_remember_196 rfl (lv_at hl 1 rfl) ?_
                              refine lv_imul hx hb dX11_remember_197 ?_
                              refine zz_i (v := nI (40 * q)) (pk_mul 40 q) ?_
                              refine lv_iload_n hx hb dX11_remember_198 rfl (lv_at hl 0 rfl) ?_
                              refine lv_iadd hx hb dX11_remember_199 ?_
                              refine zz_i (v := nI (40 * q + k)) (nI_add (40 * q) k) ?_
                              refine z_iald hx hb hK hP 6 0 rfl rfl (e := 40 * q + k) rfl b9_27 (Nat.le_of_ble_eq_true rfl) dX11_remember_200 ?_
                              obtain ⟨hPc, hDc, hFc⟩ := zo_sub (wc := [_, _, _, _, _, _]) hP hD hS hA [0, 3, 4, 5, 6, 7] (by decide +kernel) rfl
                              refine zcall (st1 := [.int (pI (¬ (∃ i, i < eO (kd f).toInt n ∧ eOn n (cF40 cx f) (cF40 cy f) i (cx (40 * q + k)).toInt (cy (40 * q + k)).toInt) ∧ par2 (eTg n (cF40 cx f) (cF40 cy f) (cx (40 * q + k)).toInt (cy (40 * q + k)).toInt) (eO (kd f).toInt n))), .int (nI (40 * q + k)), .ref (a 39)]) (va_runV (As := [.int (nI f), .int (cx (40 * q + k)), .int (cy (40 * q + k))]) (rest := [.int (nI (40 * q + k)), .ref (a 39)]) ⟨hx, hb, hml, hown, hts⟩ (k_M_isInside l dC dI cI cZ cF H.size k0 a (upd (upd I0 35 (nI n)) 36 (kd f)) J0 f n kd mn cx cy S2 (cx (40 * q + k)) (cy (40 * q + k)) (by first | with_reducible assumption | omega) (by first | with_reducible assumption | assumption) (by first | with_reducible assumption | omega) (by first | with_reducible assumption | assumption) ((hp9 k hk9).1) ((hp9 k hk9).2)) (csV_183 hts rfl rfl ⟨Nat.le_of_ble_eq_true rfl, Nat.le_of_ble_eq_true rfl⟩) (zPV2 (q0 := 0) (ci := 9) hPc hDc hK hXN rfl rfl) rfl rfl hl.1 rfl (lv_room (Nat.le_of_ble_eq_true rfl)) dX11_remember_201 ⟨Nat.le_of_ble_eq_true rfl, Nat.le_of_ble_eq_true rfl⟩) hS hFc hFc rfl (fun t H locs ht hB hk1 hS => ?_)
                              obtain ⟨q_28, hP1, hD1⟩ := hB
                              rw [ht] at hP1
                              obtain ⟨hP, hD⟩ := zn (W2 := [_, _, _, _, _, _, _, (oa (a 32) cI 8 q_28), _, _, _, _, _]) hP hD hk1 hFc hP1 hD1 [0, 3, 4, 5, 6, 7] zl_153 zl_153 [0, 3, 4, 5, 6, 7] (by decide +kernel) rfl rfl rfl rfl rfl
                              clear hk1 hPc hDc hFc hP1 hD1 ht
                              refine zz_i (v := pI (bIn kd cx cy f n q k)) (rfl) ?_
                              refine z_zast hx hb hK hP hD hS 12 1 rfl rfl (e := 40 * q + k) (x := pI (bIn kd cx cy f n q k)) rfl b9_27 (Nat.le_of_ble_eq_true rfl) (zp_and _) dX11_remember_204 (fun H locs hP hD hS => ?_)
                              obtain ⟨hP, hD⟩ := zre (W2 := [_, _, _, _, _, _, _, _, _, _, _, _, (oa (a 39) cZ 8040 (upd ins2 (40 * q + k) (pI (bIn kd cx cy f n q k))))]) hP hD rfl
                              refine lv_iinc (v := nI (k + 1)) (lv' := [(3, .int (nI (k + 1))), (2, .int (nI q)), (0, .ref k0), (1, .int (nI f))]) hx hb dX11_remember_205 hl (k := 0) rfl (nI_add k 1) (Nat.le_of_ble_eq_true rfl) rfl (fun ls hl => ?_)
                              refine lv_goto (tgt := 149) hx hb dX11_remember_208 rfl ?_
                              exact ih_149 (k + 1) q_28 (upd ins2 (40 * q + k) (pI (bIn kd cx cy f n q k))) H locs ls (by first | with_reducible assumption | omega) (by first | with_reducible assumption | omega) (by intro j hj h1 h2 h5 i hi; have h8 := (hwf j h1 h2).2.1; simp only [upd, if_neg (show 40 * j + i ≠ 40 * q + k by omega)]; exact hin2 j hj h1 h2 h5 i hi) (by intro i hi; rcases Nat.lt_or_ge i k with h | h; simp only [upd, if_neg (show 40 * q + i ≠ 40 * q + k by omega)]; exact hin3 i h; rw [show i = k by omega]; simp only [upd, if_true]) hP hD hS (lv_sub hl [0, 1, 2, 3] rfl)
                      exact hl_149 _ 0 q_20 ins1 H locs ls (Nat.lt_succ_self _) (by first | with_reducible assumption | omega) (by intro j hj h1 h2 h5 i hi; exact hin j hj h1 h2 h5 i hi) (by intro i hi; omega) hP hD hS (lv_sub hl [0, 1, 2, 3] rfl)
                    · have c_21 : bWi kd mn cx cy f q := zp_1 c_21
                      refine lv_iconst (v := 1) hx hb dX11_remember_141 rfl ?_
                      refine lv_goto (tgt := 146) hx hb dX11_remember_142 rfl ?_
                      refine zz_i (v := pI (5 ≤ (kd q).toInt ∧ bWi kd mn cx cy f q)) (by first | exact (zp_t ⟨by assumption, by assumption⟩).symm | exact (zp_f (fun h => absurd h.1 (by first | with_reducible assumption | assumption))).symm | exact (zp_f (fun h => absurd h.2 (by first | with_reducible assumption | assumption))).symm) ?_
                      have b9_29 : q < 201 := by omega
                      refine z_zast hx hb hK hP hD hS 11 1 rfl rfl (e := q) (x := pI (5 ≤ (kd q).toInt ∧ bWi kd mn cx cy f q)) rfl b9_29 (Nat.le_of_ble_eq_true rfl) (zp_and _) dX11_remember_146 (fun H locs hP hD hS => ?_)
                      obtain ⟨hP, hD⟩ := zre (W2 := [_, _, _, _, _, _, _, _, _, _, _, (oa (a 38) cZ 201 (upd wi1 q (pI (5 ≤ (kd q).toInt ∧ bWi kd mn cx cy f q)))), _]) hP hD rfl
                      refine lv_iconst (v := 0) hx hb dX11_remember_147 rfl ?_
                      refine lv_istore_n (lv' := [(3, .int 0), (2, .int (nI q)), (0, .ref k0), (1, .int (nI f))]) hx hb dX11_remember_148 rfl hl (Nat.le_of_ble_eq_true rfl) rfl (fun ls hl => ?_)
                      have hl_149 : ∀ (n9 : Nat) (k : Nat) (S2 : Nat → Int32) (ins2 : Nat → Int32) (H : Heap) (locs : List Loc) (ls : Array Slot), nN (mn q) - k < n9 → (k ≤ nN (mn q)) → (∀ j, j < q → lvF ft st tn j → j ≠ f → 5 ≤ (kd f).toInt → ∀ i, i < nN (mn j) → ins2 (40 * j + i) = pI (bIn kd cx cy f n j i)) → (∀ i, i < k → ins2 (40 * q + i) = pI (bIn kd cx cy f n q i)) → va_P (dC, dI) classes [(om k0 a (upd (upd I0 35 (nI n)) 36 (kd f)) J0), (oa (a 5) cI 201 st), (oa (a 6) cZ 201 tn), (oa (a 1) cI 201 kd), (oa (a 11) cI 201 mn), (oa (a 12) cI 8040 cx), (oa (a 13) cI 8040 cy), (oa (a 32) cI 8 S2), (oa (a 33) cI 42 ox1), (oa (a 34) cI 42 oy1), (oa (a 37) cZ 201 (upd mt1 q (pI (bMt kd mn cx cy f n q)))), (oa (a 38) cZ 201 (upd wi1 q (pI (5 ≤ (kd q).toInt ∧ bWi kd mn cx cy f q)))), (oa (a 39) cZ 8040 ins2)] H → va_D A [(om k0 a (upd (upd I0 35 (nI n)) 36 (kd f)) J0), (oa (a 5) cI 201 st), (oa (a 6) cZ 201 tn), (oa (a 1) cI 201 kd), (oa (a 11) cI 201 mn), (oa (a 12) cI 8040 cx), (oa (a 13) cI 8040 cy), (oa (a 32) cI 8 S2), (oa (a 33) cI 42 ox1), (oa (a 34) cI 42 oy1), (oa (a 37) cZ 201 (upd mt1 q (pI (bMt kd mn cx cy f n q)))), (oa (a 38) cZ 201 (upd wi1 q (pI (5 ≤ (kd q).toInt ∧ bWi kd mn cx cy f q)))), (oa (a 39) cZ 8040 ins2)] → va_S A s.heap H locs → lv_has ls 4 [(3, .int (nI k)), (2, .int (nI q)), (0, .ref k0), (1, .int (nI f))] → W p l e ({ frames := 4, cells := 0, slots := 0, locals := 107 } : Room) s m ([.ref k0, .int (nI f)] : List Value).toArray below meth c H locs 0 0 Q9 (F0 m 149 ls []) := by
                        intro n9
                        induction n9 with
                        | zero => intro k S2 ins2 H locs ls hm; exact absurd hm (Nat.not_lt_zero _)
                        | succ n9 ih_149 =>
                          intro k S2 ins2 H locs ls hm hk hin2 hin3 hP hD hS hl
                          refine lv_iload_n hx hb dX11_remember_149 rfl (lv_at hl 0 rfl) ?_
                          refine lv_aload_n hx hb dX11_remember_150 rfl (lv_at hl 2 rfl) ?_
                          refine va_get (D := (dC, dI)) (ci := 9) (v := .ref (a 11)) (C := RX11) (T := TX11) (N := 55) hx hb hts inX11 hown hK hP 0 rfl rfl 11 (Nat.le_of_ble_eq_true rfl) (hts _ mw_1170) (fun _ h9 => h9) rfl dX11_remember_151 ?_
                          refine lv_iload_n hx hb dX11_remember_154 rfl (lv_at hl 1 rfl) ?_
                          refine z_iald hx hb hK hP 4 0 rfl rfl (e := q) rfl b9_29 (Nat.le_of_ble_eq_true rfl) dX11_remember_155 ?_
                          refine zz_i (v := nI (nN (mn q))) (hm9) ?_
                          have b9_31 : zlt (k) := show k < 2147483648 by omega
                          have b9_32 : zlt ((nN (mn q))) := show (nN (mn q)) < 2147483648 by omega
                          refine lv_icmp_ge (tgt := 211) hx hb dX11_remember_156 rfl (fun c_30 => ?_) (fun c_30 => ?_)
                          · have c_30 : ((nN (mn q) : Nat) : Int) ≤ ((k : Nat) : Int) := zc_le (nI_toInt b9_32) (nI_toInt b9_31) c_30
                            refine lv_iinc (v := nI (q + 1)) (lv' := [(2, .int (nI (q + 1))), (3, .int (nI k)), (0, .ref k0), (1, .int (nI f))]) hx hb dX11_remember_211 hl (k := 1) rfl (nI_add q 1) (Nat.le_of_ble_eq_true rfl) rfl (fun ls hl => ?_)
                            refine lv_goto (tgt := 72) hx hb dX11_remember_214 rfl ?_
                            exact ih_72 (q + 1) S2 (upd mt1 q (pI (bMt kd mn cx cy f n q))) (upd wi1 q (pI (5 ≤ (kd q).toInt ∧ bWi kd mn cx cy f q))) ins2 H locs ls (by first | with_reducible assumption | omega) (by first | with_reducible assumption | omega) (by intro j hj h1 h2; rcases Nat.lt_or_ge j q with h | h; (first | exact hmt j h h1 h2 | (simp only [upd, if_neg (show j ≠ q by omega)]; exact hmt j h h1 h2)); obtain rfl : j = q := (by first | with_reducible assumption | omega); first | (exfalso; omega) | exact absurd h1 (by first | with_reducible assumption | assumption) | (simp only [upd, if_true])) (by intro j hj h1 h2; rcases Nat.lt_or_ge j q with h | h; (first | exact hwi j h h1 h2 | (simp only [upd, if_neg (show j ≠ q by omega)]; exact hwi j h h1 h2)); obtain rfl : j = q := (by first | with_reducible assumption | omega); first | (exfalso; omega) | exact absurd h1 (by first | with_reducible assumption | assumption) | (simp only [upd, if_true])) (by intro j hj h1 h2 h5 i hi; rcases Nat.lt_or_ge j q with h | h; (first | exact hin2 j h h1 h2 h5 i hi | exact hin j h h1 h2 h5 i hi); obtain rfl : j = q := (by first | with_reducible assumption | omega); first | (exfalso; omega) | exact absurd h1 (by first | with_reducible assumption | assumption) | exact absurd h5 (by first | with_reducible assumption | assumption) | exact hin3 i (by first | with_reducible assumption | omega)) hP hD hS (lv_sub hl [0, 2, 3] rfl)
                          · have c_30 : ((k : Nat) : Int) < ((nN (mn q) : Nat) : Int) := zc_nle (nI_toInt b9_32) (nI_toInt b9_31) c_30
                            have hk9 : k < nN (mn q) := (by omega)
                            refine lv_aload_n hx hb dX11_remember_159 rfl (lv_at hl 2 rfl) ?_
                            refine lv_iload_n hx hb dX11_remember_160 rfl (lv_at hl 3 rfl) ?_
                            obtain ⟨hPc, hDc, hFc, hI1⟩ := zi_sub (wc := [_, _]) hP hD hS hA [0, 3] rfl rfl
                            refine zcall (st1 := [.int (pI (5 ≤ (kd f).toInt))]) (va_runV (As := [.int (nI f)]) (rest := []) ⟨hx, hb, hml, hown, hts⟩ (k_M_isRing l dC dI cI cZ cF H.size k0 a (upd (upd I0 35 (nI n)) 36 (kd f)) J0 f kd (by first | with_reducible assumption | omega)) (csV_165 hts rfl rfl ⟨Nat.le_of_ble_eq_true rfl, Nat.le_of_ble_eq_true rfl⟩) (zPV2 (q0 := 0) (ci := 9) hPc hDc hK hXN rfl rfl) rfl rfl hl.1 rfl (lv_room (Nat.le_of_ble_eq_true rfl)) dX11_remember_161 ⟨Nat.le_of_ble_eq_true rfl, Nat.le_of_ble_eq_true rfl⟩) hS hFc hFc rfl (fun t H locs ht hB hk1 hS => ?_)
                            obtain ⟨hP1, hD1⟩ := hB
                            rw [ht] at hP1
                            replace hP := z0 hP hD hk1 hP1 hI1
                            clear hk1 hPc hDc hFc hP1 hD1 ht hI1
                            refine lv_if_eq (tgt := 211) hx hb dX11_remember_164 rfl (fun c_33 => ?_) (fun c_33 => ?_)
                            · have c_33 : ¬ (5 ≤ (kd f).toInt) := zp_0 c_33
                              refine lv_iinc (v := nI (q + 1)) (lv' := [(2, .int (nI (q + 1))), (3, .int (nI k)), (0, .ref k0), (1, .int (nI f))]) hx hb dX11_remember_211 hl (k := 1) rfl (nI_add q 1) (Nat.le_of_ble_eq_true rfl) rfl (fun ls hl => ?_)
                              refine lv_goto (tgt := 72) hx hb dX11_remember_214 rfl ?_
                              exact ih_72 (q + 1) S2 (upd mt1 q (pI (bMt kd mn cx cy f n q))) (upd wi1 q (pI (5 ≤ (kd q).toInt ∧ bWi kd mn cx cy f q))) ins2 H locs ls (by first | with_reducible assumption | omega) (by first | with_reducible assumption | omega) (by intro j hj h1 h2; rcases Nat.lt_or_ge j q with h | h; (first | exact hmt j h h1 h2 | (simp only [upd, if_neg (show j ≠ q by omega)]; exact hmt j h h1 h2)); obtain rfl : j = q := (by first | with_reducible assumption | omega); first | (exfalso; omega) | exact absurd h1 (by first | with_reducible assumption | assumption) | (simp only [upd, if_true])) (by intro j hj h1 h2; rcases Nat.lt_or_ge j q with h | h; (first | exact hwi j h h1 h2 | (simp only [upd, if_neg (show j ≠ q by omega)]; exact hwi j h h1 h2)); obtain rfl : j = q := (by first | with_reducible assumption | omega); first | (exfalso; omega) | exact absurd h1 (by first | with_reducible assumption | assumption) | (simp only [upd, if_true])) (by intro j hj h1 h2 h5 i hi; rcases Nat.lt_or_ge j q with h | h; (first | exact hin2 j h h1 h2 h5 i hi | exact hin j h h1 h2 h5 i hi); obtain rfl : j = q := (by first | with_reducible assumption | omega); first | (exfalso; omega) | exact absurd h1 (by first | with_reducible assumption | assumption) | exact absurd h5 (by first | with_reducible assumption | assumption) | exact hin3 i (by first | with_reducible assumption | omega)) hP hD hS (lv_sub hl [0, 2, 3] rfl)
                            · have c_33 : 5 ≤ (kd f).toInt := zp_1 c_33
                              refine lv_aload_n hx hb dX11_remember_167 rfl (lv_at hl 2 rfl) ?_
                              refine va_get (D := (dC, dI)) (ci := 9) (v := .ref (a 39)) (C := RX11) (T := TX11) (N := 55) hx hb hts inX11 hown hK hP 0 rfl rfl 39 (Nat.le_of_ble_eq_true rfl) (hts _ mw_1198) (fun _ h9 => h9) rfl dX11_remember_168 ?_
                              refine lv_bipush (v := 40) hx hb dX11_remember_171 rfl ?_
                              refine lv_iload_n hx hb dX11_remember_173 rfl (lv_at hl 1 rfl) ?_
                              refine lv_imul hx hb dX11_remember_174 ?_
                              refine zz_i (v := nI (40 * q)) (pk_mul 40 q) ?_
                              refine lv_iload_n hx hb dX11_remember_175 rfl (lv_at hl 0 rfl) ?_
                              refine lv_iadd hx hb dX11_remember_176 ?_
                              refine zz_i (v := nI (40 * q + k)) (nI_add (40 * q) k) ?_
                              refine lv_aload_n hx hb dX11_remember_177 rfl (lv_at hl 2 rfl) ?_
                              refine lv_iload_n hx hb dX11_remember_178 rfl (lv_at hl 3 rfl) ?_
                              refine lv_aload_n hx hb dX11_remember_179 rfl (lv_at hl 2 rfl) ?_
                              refine va_get (D := (dC, dI)) (ci := 9) (v := .ref (a 12)) (C := RX11) (T := TX11) (N := 55) hx hb hts inX11 hown hK hP 0 rfl rfl 12 (Nat.le_of_ble_eq_true rfl) (hts _ mw_1171) (fun _ h9 => h9) rfl dX11_remember_180 ?_
                              refine lv_bipush (v := 40) hx hb dX11_remember_183 rfl ?_
                              refine lv_iload_n hx hb dX11_remember_185 rfl (lv_at hl 1 rfl) ?_
                              refine lv_imul hx hb dX11_remember_186 ?_
                              refine zz_i (v := nI (40 * q)) (pk_mul 40 q) ?_
                              refine lv_iload_n hx hb dX11_remember_187 rfl (lv_at hl 0 rfl) ?_
                              refine lv_iadd hx hb dX11_remember_188 ?_
                              refine zz_i (v := nI (40 * q + k)) (nI_add (40 * q) k) ?_
                              have b9_34 : 40 * q + k < 8040 := by omega
                              refine z_iald hx hb hK hP 5 0 rfl rfl (e := 40 * q + k) rfl b9_34 (Nat.le_of_ble_eq_true rfl) dX11_remember_189 ?_
                              refine lv_aload_n hx hb dX11_remember_190 rfl (lv_at hl 2 rfl) ?_
                              refine va_get (D := (dC, dI)) (ci := 9) (v := .ref (a 13)) (C := RX11) (T := TX11) (N := 55) hx hb hts inX11 hown hK hP 0 rfl rfl 13 (Nat.le_of_ble_eq_true rfl) (hts _ mw_1172) (fun _ h9 => h9) rfl dX11_remember_191 ?_
                              refine lv_bipush (v := 40) hx hb dX11_remember_194 rfl ?_
                              refine lv_iload_n hx hb dX11_remember_196 rfl (lv_at hl 1 rfl) ?_
                              refine lv_imul hx hb dX11_remember_197 ?_
                              refine zz_i (v := nI (40 * q)) (pk_mul 40 q) ?_
                              refine lv_iload_n hx hb dX11_remember_198 rfl (lv_at hl 0 rfl) ?_
                              refine lv_iadd hx hb dX11_remember_199 ?_
                              refine zz_i (v := nI (40 * q + k)) (nI_add (40 * q) k) ?_
                              refine z_iald hx hb hK hP 6 0 rfl rfl (e := 40 * q + k) rfl b9_34 (Nat.le_of_ble_eq_true rfl) dX11_remember_200 ?_
                              obtain ⟨hPc, hDc, hFc⟩ := zo_sub (wc := [_, _, _, _, _, _]) hP hD hS hA [0, 3, 4, 5, 6, 7] (by decide +kernel) rfl
                              refine zcall (st1 := [.int (pI (¬ (∃ i, i < eO (kd f).toInt n ∧ eOn n (cF40 cx f) (cF40 cy f) i (cx (40 * q + k)).toInt (cy (40 * q + k)).toInt) ∧ par2 (eTg n (cF40 cx f) (cF40 cy f) (cx (40 * q + k)).toInt (cy (40 * q + k)).toInt) (eO (kd f).toInt n))), .int (nI (40 * q + k)), .ref (a 39)]) (va_runV (As := [.int (nI f), .int (cx (40 * q + k)), .int (cy (40 * q + k))]) (rest := [.int (nI (40 * q + k)), .ref (a 39)]) ⟨hx, hb, hml, hown, hts⟩ (k_M_isInside l dC dI cI cZ cF H.size k0 a (upd (upd I0 35 (nI n)) 36 (kd f)) J0 f n kd mn cx cy S2 (cx (40 * q + k)) (cy (40 * q + k)) (by first | with_reducible assumption | omega) (by first | with_reducible assumption | assumption) (by first | with_reducible assumption | omega) (by first | with_reducible assumption | assumption) ((hp9 k hk9).1) ((hp9 k hk9).2)) (csV_183 hts rfl rfl ⟨Nat.le_of_ble_eq_true rfl, Nat.le_of_ble_eq_true rfl⟩) (zPV2 (q0 := 0) (ci := 9) hPc hDc hK hXN rfl rfl) rfl rfl hl.1 rfl (lv_room (Nat.le_of_ble_eq_true rfl)) dX11_remember_201 ⟨Nat.le_of_ble_eq_true rfl, Nat.le_of_ble_eq_true rfl⟩) hS hFc hFc rfl (fun t H locs ht hB hk1 hS => ?_)
                              obtain ⟨q_35, hP1, hD1⟩ := hB
                              rw [ht] at hP1
                              obtain ⟨hP, hD⟩ := zn (W2 := [_, _, _, _, _, _, _, (oa (a 32) cI 8 q_35), _, _, _, _, _]) hP hD hk1 hFc hP1 hD1 [0, 3, 4, 5, 6, 7] zl_153 zl_153 [0, 3, 4, 5, 6, 7] (by decide +kernel) rfl rfl rfl rfl rfl
                              clear hk1 hPc hDc hFc hP1 hD1 ht
                              refine zz_i (v := pI (bIn kd cx cy f n q k)) (rfl) ?_
                              refine z_zast hx hb hK hP hD hS 12 1 rfl rfl (e := 40 * q + k) (x := pI (bIn kd cx cy f n q k)) rfl b9_34 (Nat.le_of_ble_eq_true rfl) (zp_and _) dX11_remember_204 (fun H locs hP hD hS => ?_)
                              obtain ⟨hP, hD⟩ := zre (W2 := [_, _, _, _, _, _, _, _, _, _, _, _, (oa (a 39) cZ 8040 (upd ins2 (40 * q + k) (pI (bIn kd cx cy f n q k))))]) hP hD rfl
                              refine lv_iinc (v := nI (k + 1)) (lv' := [(3, .int (nI (k + 1))), (2, .int (nI q)), (0, .ref k0), (1, .int (nI f))]) hx hb dX11_remember_205 hl (k := 0) rfl (nI_add k 1) (Nat.le_of_ble_eq_true rfl) rfl (fun ls hl => ?_)
                              refine lv_goto (tgt := 149) hx hb dX11_remember_208 rfl ?_
                              exact ih_149 (k + 1) q_35 (upd ins2 (40 * q + k) (pI (bIn kd cx cy f n q k))) H locs ls (by first | with_reducible assumption | omega) (by first | with_reducible assumption | omega) (by intro j hj h1 h2 h5 i hi; have h8 := (hwf j h1 h2).2.1; simp only [upd, if_neg (show 40 * j + i ≠ 40 * q + k by omega)]; exact hin2 j hj h1 h2 h5 i hi) (by intro i hi; rcases Nat.lt_or_ge i k with h | h; simp only [upd, if_neg (show 40 * q + i ≠ 40 * q + k by omega)]; exact hin3 i h; rw [show i = k by omega]; simp only [upd, if_true]) hP hD hS (lv_sub hl [0, 1, 2, 3] rfl)
                      exact hl_149 _ 0 q_20 ins1 H locs ls (Nat.lt_succ_self _) (by first | with_reducible assumption | omega) (by intro j hj h1 h2 h5 i hi; exact hin j hj h1 h2 h5 i hi) (by intro i hi; omega) hP hD hS (lv_sub hl [0, 1, 2, 3] rfl)
                · have c_10 : ¬ (q < ft ∧ (st q).toInt = 1 ∧ (tn q).toInt = 0) := zp_0 c_10
                  refine lv_goto (tgt := 211) hx hb dX11_remember_93 rfl ?_
                  refine lv_iinc (v := nI (q + 1)) (lv' := [(2, .int (nI (q + 1))), (0, .ref k0), (1, .int (nI f))]) hx hb dX11_remember_211 hl (k := 0) rfl (nI_add q 1) (Nat.le_of_ble_eq_true rfl) rfl (fun ls hl => ?_)
                  refine lv_goto (tgt := 72) hx hb dX11_remember_214 rfl ?_
                  exact ih_72 (q + 1) S1 mt1 wi1 ins1 H locs ls (by first | with_reducible assumption | omega) (by first | with_reducible assumption | omega) (by intro j hj h1 h2; rcases Nat.lt_or_ge j q with h | h; (first | exact hmt j h h1 h2 | (simp only [upd, if_neg (show j ≠ q by omega)]; exact hmt j h h1 h2)); obtain rfl : j = q := (by first | with_reducible assumption | omega); first | (exfalso; omega) | exact absurd h1 (by first | with_reducible assumption | assumption) | (simp only [upd, if_true])) (by intro j hj h1 h2; rcases Nat.lt_or_ge j q with h | h; (first | exact hwi j h h1 h2 | (simp only [upd, if_neg (show j ≠ q by omega)]; exact hwi j h h1 h2)); obtain rfl : j = q := (by first | with_reducible assumption | omega); first | (exfalso; omega) | exact absurd h1 (by first | with_reducible assumption | assumption) | (simp only [upd, if_true])) (by intro j hj h1 h2 h5 i hi; rcases Nat.lt_or_ge j q with h | h; (first | exact hin2 j h h1 h2 h5 i hi | exact hin j h h1 h2 h5 i hi); obtain rfl : j = q := (by first | with_reducible assumption | omega); first | (exfalso; omega) | exact absurd h1 (by first | with_reducible assumption | assumption) | exact absurd h5 (by first | with_reducible assumption | assumption) | exact hin3 i (by first | with_reducible assumption | omega)) hP hD hS (lv_sub hl [0, 1, 2] rfl)
        exact hl_72 _ 0 S0 mt wi ins H locs ls (Nat.lt_succ_self _) (by first | with_reducible assumption | omega) (by intro j hj; omega) (by intro j hj; omega) (by intro j hj; omega) hP hD hS (lv_sub hl [0, 1, 2] rfl)
      · have c_2 : ((k : Nat) : Int) < ((n : Nat) : Int) := zc_nle (nI_toInt b9_4) (nI_toInt b9_3) c_2
        refine lv_aload_n hx hb dX11_remember_30 rfl (lv_at hl 1 rfl) ?_
        refine va_get (D := (dC, dI)) (ci := 9) (v := .ref (a 33)) (C := RX11) (T := TX11) (N := 55) hx hb hts inX11 hown hK hP 0 rfl rfl 33 (Nat.le_of_ble_eq_true rfl) (hts _ mw_1192) (fun _ h9 => h9) rfl dX11_remember_31 ?_
        refine lv_iload_n hx hb dX11_remember_34 rfl (lv_at hl 0 rfl) ?_
        refine lv_aload_n hx hb dX11_remember_35 rfl (lv_at hl 1 rfl) ?_
        refine va_get (D := (dC, dI)) (ci := 9) (v := .ref (a 12)) (C := RX11) (T := TX11) (N := 55) hx hb hts inX11 hown hK hP 0 rfl rfl 12 (Nat.le_of_ble_eq_true rfl) (hts _ mw_1171) (fun _ h9 => h9) rfl dX11_remember_36 ?_
        refine lv_bipush (v := 40) hx hb dX11_remember_39 rfl ?_
        refine lv_iload_n hx hb dX11_remember_41 rfl (lv_at hl 2 rfl) ?_
        refine lv_imul hx hb dX11_remember_42 ?_
        refine zz_i (v := nI (40 * f)) (pk_mul 40 f) ?_
        refine lv_iload_n hx hb dX11_remember_43 rfl (lv_at hl 0 rfl) ?_
        refine lv_iadd hx hb dX11_remember_44 ?_
        refine zz_i (v := nI (40 * f + k)) (nI_add (40 * f) k) ?_
        have b9_36 : 40 * f + k < 8040 := by omega
        refine z_iald hx hb hK hP 5 0 rfl rfl (e := 40 * f + k) rfl b9_36 (Nat.le_of_ble_eq_true rfl) dX11_remember_45 ?_
        have b9_37 : k < 42 := by omega
        refine z_iast hx hb hK hP hD hS 8 0 rfl rfl (e := k) (x := cx (40 * f + k)) rfl b9_37 (Nat.le_of_ble_eq_true rfl) dX11_remember_46 (fun H locs hP hD hS => ?_)
        obtain ⟨hP, hD⟩ := zre (W2 := [_, _, _, _, _, _, _, _, (oa (a 33) cI 42 (upd ox1 k (cx (40 * f + k)))), _, _, _, _]) hP hD rfl
        refine lv_aload_n hx hb dX11_remember_47 rfl (lv_at hl 1 rfl) ?_
        refine va_get (D := (dC, dI)) (ci := 9) (v := .ref (a 34)) (C := RX11) (T := TX11) (N := 55) hx hb hts inX11 hown hK hP 0 rfl rfl 34 (Nat.le_of_ble_eq_true rfl) (hts _ mw_1193) (fun _ h9 => h9) rfl dX11_remember_48 ?_
        refine lv_iload_n hx hb dX11_remember_51 rfl (lv_at hl 0 rfl) ?_
        refine lv_aload_n hx hb dX11_remember_52 rfl (lv_at hl 1 rfl) ?_
        refine va_get (D := (dC, dI)) (ci := 9) (v := .ref (a 13)) (C := RX11) (T := TX11) (N := 55) hx hb hts inX11 hown hK hP 0 rfl rfl 13 (Nat.le_of_ble_eq_true rfl) (hts _ mw_1172) (fun _ h9 => h9) rfl dX11_remember_53 ?_
        refine lv_bipush (v := 40) hx hb dX11_remember_56 rfl ?_
        refine lv_iload_n hx hb dX11_remember_58 rfl (lv_at hl 2 rfl) ?_
        refine lv_imul hx hb dX11_remember_59 ?_
        refine zz_i (v := nI (40 * f)) (pk_mul 40 f) ?_
        refine lv_iload_n hx hb dX11_remember_60 rfl (lv_at hl 0 rfl) ?_
        refine lv_iadd hx hb dX11_remember_61 ?_
        refine zz_i (v := nI (40 * f + k)) (nI_add (40 * f) k) ?_
        refine z_iald hx hb hK hP 6 0 rfl rfl (e := 40 * f + k) rfl b9_36 (Nat.le_of_ble_eq_true rfl) dX11_remember_62 ?_
        refine z_iast hx hb hK hP hD hS 9 0 rfl rfl (e := k) (x := cy (40 * f + k)) rfl b9_37 (Nat.le_of_ble_eq_true rfl) dX11_remember_63 (fun H locs hP hD hS => ?_)
        obtain ⟨hP, hD⟩ := zre (W2 := [_, _, _, _, _, _, _, _, _, (oa (a 34) cI 42 (upd oy1 k (cy (40 * f + k)))), _, _, _]) hP hD rfl
        refine lv_iinc (v := nI (k + 1)) (lv' := [(2, .int (nI (k + 1))), (0, .ref k0), (1, .int (nI f))]) hx hb dX11_remember_64 hl (k := 0) rfl (nI_add k 1) (Nat.le_of_ble_eq_true rfl) rfl (fun ls hl => ?_)
        refine lv_goto (tgt := 22) hx hb dX11_remember_67 rfl ?_
        exact ih_22 (k + 1) (upd ox1 k (cx (40 * f + k))) (upd oy1 k (cy (40 * f + k))) H locs ls (by first | with_reducible assumption | omega) (by first | with_reducible assumption | omega) (by intro j hj; rcases Nat.lt_or_ge j k with h | h; simp only [upd, if_neg (show j ≠ k by omega)]; exact hox j h; rw [show j = k by omega]; simp only [upd, if_true]; first | exact ⟨rfl, rfl⟩ | exact ⟨trivial, trivial⟩) hP hD hS (lv_sub hl [0, 1, 2] rfl)
  exact hl_22 _ 0 ox oy H locs ls (Nat.lt_succ_self _) (by first | with_reducible assumption | omega) (by intro j hj; omega) hP hD hS (lv_sub hl [0, 1, 2] rfl)
set_option maxHeartbeats 4000000 in
set_option maxRecDepth 100000 in
theorem k_M_isLawful_p (l : Launch) (dC : Nat → ClassId) (dI : Nat → Nat → Nat) (cI cZ cF : ClassId) (sz : Nat) (k0 : Nat) (a : Nat → Nat) (I0 : Nat → Int32) (J0 : Nat → Int64) (f : Nat) (n : Nat) (ft : Nat) (on : Nat) (b : Nat) (st : Nat → Int32) (tn : Nat → Int32) (kd : Nat → Int32) (mn : Nat → Int32) (cx : Nat → Int32) (cy : Nat → Int32) (S0 : Nat → Int32) (T0 : Nat → Int32) (P0 : Nat → Int32) (Q0 : Nat → Int32) (ox : Nat → Int32) (oy : Nat → Int32) (mt : Nat → Int32) (wi : Nat → Int32) (ins : Nat → Int32) (MT : Nat → Prop) (WI : Nat → Prop) (IN : Nat → Nat → Prop) (hft : I0 0 = nI ft) (h200 : ft ≤ 200) (hf_f : f ≤ 200) (hm_f : mn f = nI n) (hn_f : n ≤ 40) (hwf : ∀ q, lvF ft st tn q → q ≠ f → wfM mn cx cy q) (hon : I0 35 = nI on) (ho40 : on ≤ 40) (ho1 : 1 ≤ on) (hpo : pls on ox oy) (hmt : ∀ q, lvF ft st tn q → q ≠ f → mt q = pI (MT q)) (hwi : ∀ q, lvF ft st tn q → q ≠ f → 5 ≤ (kd q).toInt → wi q = pI (WI q)) (hin : ∀ q, lvF ft st tn q → q ≠ f → ∀ k, k < nN (mn q) → 5 ≤ (kd f).toInt → ins (40 * q + k) = pI (IN q k)) (hb9 : b < on) : zM l yX11_isLawful cX11_isLawful 5 (some .boolean) ({ frames := 5, cells := 0, slots := 0, locals := 135 } : Room) [.ref k0, .int (nI f), .int 1, .int (nI b)] (dC, dI) (zTy cI cZ cF) [(om k0 a I0 J0), (oa (a 5) cI 201 st), (oa (a 6) cZ 201 tn), (oa (a 1) cI 201 kd), (oa (a 11) cI 201 mn), (oa (a 12) cI 8040 cx), (oa (a 13) cI 8040 cy), (oa (a 32) cI 8 S0), (oa (a 40) cI 6 T0), (oa (a 29) cI 42 P0), (oa (a 30) cI 42 Q0), (oa (a 33) cI 42 ox), (oa (a 34) cI 42 oy), (oa (a 37) cZ 201 mt), (oa (a 38) cZ 201 wi), (oa (a 39) cZ 8040 ins)] sz (some (.int (pI (lwA ft st tn kd mn cx cy f n (ox 0) (oy 0) MT WI IN (sWp on ox oy cx cy b))))) (fun A t => ∃ (z9 : Int32), ∃ (S1 : Nat → Int32), ∃ (T1 : Nat → Int32), ∃ (P1 : Nat → Int32), ∃ (Q1 : Nat → Int32), zPD (dC, dI) classes A [(om k0 a (upd I0 31 z9) J0), (oa (a 5) cI 201 st), (oa (a 6) cZ 201 tn), (oa (a 1) cI 201 kd), (oa (a 11) cI 201 mn), (oa (a 12) cI 8040 cx), (oa (a 13) cI 8040 cy), (oa (a 32) cI 8 S1), (oa (a 40) cI 6 T1), (oa (a 29) cI 42 P1), (oa (a 30) cI 42 Q1), (oa (a 33) cI 42 ox), (oa (a 34) cI 42 oy), (oa (a 37) cZ 201 mt), (oa (a 38) cZ 201 wi), (oa (a 39) cZ 8040 ins)] t.heap) 0 0 := by
  refine zIn (own := "ScaleShopModel") (loc := [(0, .ref k0), (1, .int (nI f)), (2, .int 1), (3, .int (nI b))]) rfl rfl rfl rfl (fun p e s m below meth c hx hb hr hts hown hlocks hml hnm9 A hA hS hP hD hK hXN Q9 hQ9 ls hl => ?_)
  refine lv_aload_n hx hb dX11_isLawful_0 rfl (lv_at hl 0 rfl) ?_
  refine lv_iload_n hx hb dX11_isLawful_1 rfl (lv_at hl 1 rfl) ?_
  obtain ⟨hPc, hDc, hFc, hI1⟩ := zi_sub (wc := [_, _, _, _]) hP hD hS hA [0, 4, 5, 6] (by decide +kernel) rfl
  refine zcall (st1 := [.int (pI (pls n (cF40 cx f) (cF40 cy f)))]) (va_runV (As := [.int (nI f)]) (rest := []) ⟨hx, hb, hml, hown, hts⟩ (k_M_arePlaces l dC dI cI cZ cF s.heap.size k0 a I0 J0 f n mn cx cy (by first | with_reducible assumption | omega) (by first | with_reducible assumption | assumption) (by first | with_reducible assumption | omega)) (csV_186 hts rfl rfl ⟨Nat.le_of_ble_eq_true rfl, Nat.le_of_ble_eq_true rfl⟩) (zPV2 (q0 := 0) (ci := 9) hPc hDc hK hXN rfl rfl) rfl rfl hl.1 rfl (lv_room (Nat.le_of_ble_eq_true rfl)) dX11_isLawful_2 ⟨Nat.le_of_ble_eq_true rfl, Nat.le_of_ble_eq_true rfl⟩) hS hFc hFc rfl (fun t H locs ht hB hk1 hS => ?_)
  obtain ⟨hP1, hD1⟩ := hB
  rw [ht] at hP1
  replace hP := z0 hP hD hk1 hP1 hI1
  clear hk1 hPc hDc hFc hP1 hD1 ht hI1
  refine lv_if_eq (tgt := 16) hx hb dX11_isLawful_5 rfl (fun c_1 => ?_) (fun c_1 => ?_)
  · have c_1 : ¬ (pls n (cF40 cx f) (cF40 cy f)) := zp_0 c_1
    refine lv_iconst (v := 0) hx hb dX11_isLawful_16 rfl ?_
    obtain ⟨hP9, hD9⟩ := zu_sub (wc := [_, _, _, _, _, _, _, _, _, _, _, _, _, _, _, _]) hP hD [true, true, true, true, true, true, true, true, true, true, true, true, true, true, true, true] rfl rfl
    rw [hQ9]
    exact W.zret (ty := .boolean) (v := 0) hx hb hr (rfl) (fun t ht hW => ⟨⟨congrArg (fun z => Outcome.returned (some (Value.int z))) (show (0 : Int32) = pI (lwA ft st tn kd mn cx cy f n (ox 0) (oy 0) MT WI IN (sWp on ox oy cx cy b)) from (zp_f (by unfold lwA; first | exact fun h => absurd h.1 (by first | with_reducible assumption | assumption) | exact fun h => absurd h.2.1 (by first | with_reducible assumption | assumption))).symm), (I0 31), S0, T0, P0, Q0, by rw [ht]; exact hP9, hD9⟩, hS.F ht⟩) hS.2.2 dX11_isLawful_17
  · have c_1 : pls n (cF40 cx f) (cF40 cy f) := zp_1 c_1
    refine lv_aload_n hx hb dX11_isLawful_8 rfl (lv_at hl 0 rfl) ?_
    refine lv_iload_n hx hb dX11_isLawful_9 rfl (lv_at hl 1 rfl) ?_
    obtain ⟨hPc, hDc, hFc⟩ := zo_sub (wc := [_, _, _, _, _, _]) hP hD hS hA [0, 3, 4, 5, 6, 7] (by decide +kernel) rfl
    refine zcall (st1 := [.int (pI (mSm (kd f).toInt n (cF40 cx f) (cF40 cy f)))]) (va_runV (As := [.int (nI f)]) (rest := []) ⟨hx, hb, hml, hown, hts⟩ (k_M_isSimple l dC dI cI cZ cF H.size k0 a I0 J0 f n kd mn cx cy S0 (by first | with_reducible assumption | omega) (by first | with_reducible assumption | assumption) (by first | with_reducible assumption | assumption) (by first | with_reducible assumption | omega)) (csV_187 hts rfl rfl ⟨Nat.le_of_ble_eq_true rfl, Nat.le_of_ble_eq_true rfl⟩) (zPV2 (q0 := 0) (ci := 9) hPc hDc hK hXN rfl rfl) rfl rfl hl.1 rfl (lv_room (Nat.le_of_ble_eq_true rfl)) dX11_isLawful_10 ⟨Nat.le_of_ble_eq_true rfl, Nat.le_of_ble_eq_true rfl⟩) hS hFc hFc rfl (fun t H locs ht hB hk1 hS => ?_)
    obtain ⟨q_2, hP1, hD1⟩ := hB
    rw [ht] at hP1
    obtain ⟨hP, hD⟩ := zn (W2 := [_, _, _, _, _, _, _, (oa (a 32) cI 8 q_2), _, _, _, _, _, _, _, _]) hP hD hk1 hFc hP1 hD1 [0, 3, 4, 5, 6, 7] zl_154 zl_154 [0, 3, 4, 5, 6, 7] (by decide +kernel) rfl rfl rfl rfl rfl
    clear hk1 hPc hDc hFc hP1 hD1 ht
    refine lv_if_ne (tgt := 18) hx hb dX11_isLawful_13 rfl (fun c_3 => ?_) (fun c_3 => ?_)
    · have c_3 : mSm (kd f).toInt n (cF40 cx f) (cF40 cy f) := zp_1 c_3
      have hn1 := mSm_pos (by first | with_reducible assumption | assumption)
      have hpf : pls n (cF40 cx f) (cF40 cy f) := (by first | with_reducible assumption | assumption)
      refine lv_iconst (v := 0) hx hb dX11_isLawful_18 rfl ?_
      refine lv_istore (lv' := [(4, .int 0), (0, .ref k0), (1, .int (nI f)), (2, .int 1), (3, .int (nI b))]) hx hb dX11_isLawful_19 hl (Nat.le_of_ble_eq_true rfl) rfl (fun ls hl => ?_)
      have hl_21 : ∀ (n9 : Nat) (q : Nat) (z9 : Int32) (S1 : Nat → Int32) (T1 : Nat → Int32) (P1 : Nat → Int32) (Q1 : Nat → Int32) (H : Heap) (locs : List Loc) (ls : Array Slot), ft - q < n9 → (q ≤ ft) → (∀ j, j < q → lvF ft st tn j → j ≠ f → lawTo (ox 0) (oy 0) (kd f).toInt n (cF40 cx f) (cF40 cy f) (kd j).toInt (nN (mn j)) (cF40 cx j) (cF40 cy j) (MT j) (WI j) (IN j) ((sWp on ox oy cx cy b) j)) → va_P (dC, dI) classes [(om k0 a (upd I0 31 z9) J0), (oa (a 5) cI 201 st), (oa (a 6) cZ 201 tn), (oa (a 1) cI 201 kd), (oa (a 11) cI 201 mn), (oa (a 12) cI 8040 cx), (oa (a 13) cI 8040 cy), (oa (a 32) cI 8 S1), (oa (a 40) cI 6 T1), (oa (a 29) cI 42 P1), (oa (a 30) cI 42 Q1), (oa (a 33) cI 42 ox), (oa (a 34) cI 42 oy), (oa (a 37) cZ 201 mt), (oa (a 38) cZ 201 wi), (oa (a 39) cZ 8040 ins)] H → va_D A [(om k0 a (upd I0 31 z9) J0), (oa (a 5) cI 201 st), (oa (a 6) cZ 201 tn), (oa (a 1) cI 201 kd), (oa (a 11) cI 201 mn), (oa (a 12) cI 8040 cx), (oa (a 13) cI 8040 cy), (oa (a 32) cI 8 S1), (oa (a 40) cI 6 T1), (oa (a 29) cI 42 P1), (oa (a 30) cI 42 Q1), (oa (a 33) cI 42 ox), (oa (a 34) cI 42 oy), (oa (a 37) cZ 201 mt), (oa (a 38) cZ 201 wi), (oa (a 39) cZ 8040 ins)] → va_S A s.heap H locs → lv_has ls 5 [(4, .int (nI q)), (0, .ref k0), (1, .int (nI f)), (2, .int 1), (3, .int (nI b))] → W p l e ({ frames := 5, cells := 0, slots := 0, locals := 135 } : Room) s m ([.ref k0, .int (nI f), .int 1, .int (nI b)] : List Value).toArray below meth c H locs 0 0 Q9 (F0 m 21 ls []) := by
        intro n9
        induction n9 with
        | zero => intro q z9 S1 T1 P1 Q1 H locs ls hm; exact absurd hm (Nat.not_lt_zero _)
        | succ n9 ih_21 =>
          intro q z9 S1 T1 P1 Q1 H locs ls hm hq hall hP hD hS hl
          refine lv_iload hx hb dX11_isLawful_21 (lv_at hl 0 rfl) ?_
          refine lv_aload_n hx hb dX11_isLawful_23 rfl (lv_at hl 1 rfl) ?_
          refine va_get (D := (dC, dI)) (ci := 9) (v := .int (I0 0)) (C := RX11) (T := TX11) (N := 55) hx hb hts inX11 hown hK hP 0 rfl rfl 0 (Nat.le_of_ble_eq_true rfl) (hts _ mw_1159) (fun _ h9 => h9) rfl dX11_isLawful_24 ?_
          refine zz_i (v := nI ft) (hft) ?_
          have b9_5 : zlt (q) := show q < 2147483648 by omega
          have b9_6 : zlt (ft) := show ft < 2147483648 by omega
          refine lv_icmp_ge (tgt := 65) hx hb dX11_isLawful_27 rfl (fun c_4 => ?_) (fun c_4 => ?_)
          · have c_4 : ((ft : Nat) : Int) ≤ ((q : Nat) : Int) := zc_le (nI_toInt b9_6) (nI_toInt b9_5) c_4
            refine lv_iconst (v := 1) hx hb dX11_isLawful_65 rfl ?_
            obtain ⟨hP9, hD9⟩ := zu_sub (wc := [_, _, _, _, _, _, _, _, _, _, _, _, _, _, _, _]) hP hD [true, true, true, true, true, true, true, true, true, true, true, true, true, true, true, true] rfl rfl
            rw [hQ9]
            exact W.zret (ty := .boolean) (v := 1) hx hb hr (rfl) (fun t ht hW => ⟨⟨congrArg (fun z => Outcome.returned (some (Value.int z))) (show (1 : Int32) = pI (lwA ft st tn kd mn cx cy f n (ox 0) (oy 0) MT WI IN (sWp on ox oy cx cy b)) from (zp_t (⟨by assumption, by assumption, fun j h1 h2 => hall j (by omega) h1 h2⟩)).symm), z9, S1, T1, P1, Q1, by rw [ht]; exact hP9, hD9⟩, hS.F ht⟩) hS.2.2 dX11_isLawful_66
          · have c_4 : ((q : Nat) : Int) < ((ft : Nat) : Int) := zc_nle (nI_toInt b9_6) (nI_toInt b9_5) c_4
            refine lv_iload hx hb dX11_isLawful_30 (lv_at hl 0 rfl) ?_
            refine lv_iload_n hx hb dX11_isLawful_32 rfl (lv_at hl 2 rfl) ?_
            have b9_8 : zlt (f) := show f < 2147483648 by omega
            refine lv_icmp_eq (tgt := 59) hx hb dX11_isLawful_33 rfl (fun c_7 => ?_) (fun c_7 => ?_)
            · have c_7 : ((q : Nat) : Int) = ((f : Nat) : Int) := zc_eq (nI_toInt b9_5) (nI_toInt b9_8) c_7
              refine lv_iinc (v := nI (q + 1)) (lv' := [(4, .int (nI (q + 1))), (0, .ref k0), (1, .int (nI f)), (2, .int 1), (3, .int (nI b))]) hx hb dX11_isLawful_59 hl (k := 0) rfl (nI_add q 1) (Nat.le_of_ble_eq_true rfl) rfl (fun ls hl => ?_)
              refine lv_goto (tgt := 21) hx hb dX11_isLawful_62 rfl ?_
              exact ih_21 (q + 1) z9 S1 T1 P1 Q1 H locs ls (by first | with_reducible assumption | omega) (by first | with_reducible assumption | omega) (by intro j hj h1 h2; rcases Nat.lt_or_ge j q with h | h; exact hall j h h1 h2; obtain rfl : j = q := (by first | with_reducible assumption | omega); first | (exfalso; omega) | exact absurd h1 (by first | with_reducible assumption | assumption) | assumption) hP hD hS (lv_sub hl [0, 1, 2, 3, 4] rfl)
            · have c_7 : ¬ ((q : Nat) : Int) = ((f : Nat) : Int) := zc_ne (nI_toInt b9_5) (nI_toInt b9_8) c_7
              refine lv_aload_n hx hb dX11_isLawful_36 rfl (lv_at hl 1 rfl) ?_
              refine lv_iload hx hb dX11_isLawful_37 (lv_at hl 0 rfl) ?_
              obtain ⟨hPc, hDc, hFc, hI1⟩ := zi_sub (wc := [_, _, _]) hP hD hS hA [0, 1, 2] rfl rfl
              refine zcall (st1 := [.int (pI (q < ft ∧ (st q).toInt = 1 ∧ (tn q).toInt = 0))]) (va_runV (As := [.int (nI q)]) (rest := []) ⟨hx, hb, hml, hown, hts⟩ (k_M_is_n l dC dI cI cZ cF H.size k0 a (upd I0 31 z9) J0 q ft st tn (by first | with_reducible assumption | assumption) (by first | with_reducible assumption | omega) (by first | with_reducible assumption | omega)) (csV_179 hts rfl rfl ⟨Nat.le_of_ble_eq_true rfl, Nat.le_of_ble_eq_true rfl⟩) (zPV2 (q0 := 0) (ci := 9) hPc hDc hK hXN rfl rfl) rfl rfl hl.1 rfl (lv_room (Nat.le_of_ble_eq_true rfl)) dX11_isLawful_39 ⟨Nat.le_of_ble_eq_true rfl, Nat.le_of_ble_eq_true rfl⟩) hS hFc hFc rfl (fun t H locs ht hB hk1 hS => ?_)
              obtain ⟨hP1, hD1⟩ := hB
              rw [ht] at hP1
              replace hP := z0 hP hD hk1 hP1 hI1
              clear hk1 hPc hDc hFc hP1 hD1 ht hI1
              refine lv_if_eq (tgt := 59) hx hb dX11_isLawful_42 rfl (fun c_9 => ?_) (fun c_9 => ?_)
              · have c_9 : ¬ (q < ft ∧ (st q).toInt = 1 ∧ (tn q).toInt = 0) := zp_0 c_9
                refine lv_iinc (v := nI (q + 1)) (lv' := [(4, .int (nI (q + 1))), (0, .ref k0), (1, .int (nI f)), (2, .int 1), (3, .int (nI b))]) hx hb dX11_isLawful_59 hl (k := 0) rfl (nI_add q 1) (Nat.le_of_ble_eq_true rfl) rfl (fun ls hl => ?_)
                refine lv_goto (tgt := 21) hx hb dX11_isLawful_62 rfl ?_
                exact ih_21 (q + 1) z9 S1 T1 P1 Q1 H locs ls (by first | with_reducible assumption | omega) (by first | with_reducible assumption | omega) (by intro j hj h1 h2; rcases Nat.lt_or_ge j q with h | h; exact hall j h h1 h2; obtain rfl : j = q := (by first | with_reducible assumption | omega); first | (exfalso; omega) | exact absurd h1 (by first | with_reducible assumption | assumption) | assumption) hP hD hS (lv_sub hl [0, 1, 2, 3, 4] rfl)
              · have c_9 : q < ft ∧ (st q).toInt = 1 ∧ (tn q).toInt = 0 := zp_1 c_9
                have hw9 := hwf q (by first | with_reducible assumption | assumption) (by omega)
                have hm9 := hw9.1
                have hn9 := hw9.2.1
                have hp9 := hw9.2.2
                refine lv_aload_n hx hb dX11_isLawful_45 rfl (lv_at hl 1 rfl) ?_
                refine lv_iload_n hx hb dX11_isLawful_46 rfl (lv_at hl 2 rfl) ?_
                refine lv_iload hx hb dX11_isLawful_47 (lv_at hl 0 rfl) ?_
                refine lv_iload_n hx hb dX11_isLawful_49 rfl (lv_at hl 3 rfl) ?_
                refine lv_iload_n hx hb dX11_isLawful_50 rfl (lv_at hl 4 rfl) ?_
                obtain ⟨hPc, hDc, hFc⟩ := zo_sub (wc := [_, _, _, _, _, _, _, _, _, _, _, _, _, _]) hP hD hS hA [0, 3, 4, 5, 6, 7, 8, 9, 10, 11, 12, 13, 14, 15] (by decide +kernel) rfl
                refine zcall (st1 := [.int (pI (lawTo (ox 0) (oy 0) (kd f).toInt n (cF40 cx f) (cF40 cy f) (kd q).toInt (nN (mn q)) (cF40 cx q) (cF40 cy q) (MT q) (WI q) (IN q) (fun k => swB on ox oy b (cF40 cx q k).toInt (cF40 cy q k).toInt)))]) (va_runV (As := [.int (nI f), .int (nI q), .int 1, .int (nI b)]) (rest := []) ⟨hx, hb, hml, hown, hts⟩ (k_M_isLawfulTo_p l dC dI cI cZ cF H.size k0 a (upd I0 31 z9) J0 f n q (nN (mn q)) on b kd mn cx cy S1 T1 P1 Q1 ox oy mt wi ins (MT q) (WI q) (IN q) (by first | with_reducible assumption | omega) (by first | with_reducible assumption | assumption) (by first | with_reducible assumption | omega) (by first | with_reducible assumption | assumption) (by first | with_reducible assumption | omega) (by first | with_reducible assumption | assumption) (by first | with_reducible assumption | omega) (by first | with_reducible assumption | assumption) (by first | with_reducible assumption | assumption) (by first | with_reducible assumption | omega) (ho1) (hpo) (hmt q (by first | with_reducible assumption | assumption) (by first | with_reducible assumption | omega)) (hwi q (by first | with_reducible assumption | assumption) (by first | with_reducible assumption | omega)) (hin q (by first | with_reducible assumption | assumption) (by first | with_reducible assumption | omega)) (by first | with_reducible assumption | omega)) (csV_188 hts rfl rfl ⟨Nat.le_of_ble_eq_true rfl, Nat.le_of_ble_eq_true rfl⟩) (zPV2 (q0 := 0) (ci := 9) hPc hDc hK hXN rfl rfl) rfl rfl hl.1 rfl (lv_room (Nat.le_of_ble_eq_true rfl)) dX11_isLawful_51 ⟨Nat.le_of_ble_eq_true rfl, Nat.le_of_ble_eq_true rfl⟩) hS hFc hFc rfl (fun t H locs ht hB hk1 hS => ?_)
                obtain ⟨q_10, q_11, q_12, q_13, q_14, hP1, hD1⟩ := hB
                rw [ht] at hP1
                obtain ⟨hP, hD⟩ := zn (W2 := [(om k0 a (upd I0 31 q_10) J0), _, _, _, _, _, _, (oa (a 32) cI 8 q_11), (oa (a 40) cI 6 q_12), (oa (a 29) cI 42 q_13), (oa (a 30) cI 42 q_14), _, _, _, _, _]) hP hD hk1 hFc hP1 hD1 zl_155 [false, true, true] zl_156 zl_155 (by decide +kernel) rfl rfl rfl rfl rfl
                clear hk1 hPc hDc hFc hP1 hD1 ht
                refine zz_i (v := pI (lawTo (ox 0) (oy 0) (kd f).toInt n (cF40 cx f) (cF40 cy f) (kd q).toInt (nN (mn q)) (cF40 cx q) (cF40 cy q) (MT q) (WI q) (IN q) ((sWp on ox oy cx cy b) q))) (rfl) ?_
                refine lv_if_ne (tgt := 59) hx hb dX11_isLawful_54 rfl (fun c_15 => ?_) (fun c_15 => ?_)
                · have c_15 : lawTo (ox 0) (oy 0) (kd f).toInt n (cF40 cx f) (cF40 cy f) (kd q).toInt (nN (mn q)) (cF40 cx q) (cF40 cy q) (MT q) (WI q) (IN q) ((sWp on ox oy cx cy b) q) := zp_1 c_15
                  refine lv_iinc (v := nI (q + 1)) (lv' := [(4, .int (nI (q + 1))), (0, .ref k0), (1, .int (nI f)), (2, .int 1), (3, .int (nI b))]) hx hb dX11_isLawful_59 hl (k := 0) rfl (nI_add q 1) (Nat.le_of_ble_eq_true rfl) rfl (fun ls hl => ?_)
                  refine lv_goto (tgt := 21) hx hb dX11_isLawful_62 rfl ?_
                  exact ih_21 (q + 1) q_10 q_11 q_12 q_13 q_14 H locs ls (by first | with_reducible assumption | omega) (by first | with_reducible assumption | omega) (by intro j hj h1 h2; rcases Nat.lt_or_ge j q with h | h; exact hall j h h1 h2; obtain rfl : j = q := (by first | with_reducible assumption | omega); first | (exfalso; omega) | exact absurd h1 (by first | with_reducible assumption | assumption) | assumption) hP hD hS (lv_sub hl [0, 1, 2, 3, 4] rfl)
                · have c_15 : ¬ (lawTo (ox 0) (oy 0) (kd f).toInt n (cF40 cx f) (cF40 cy f) (kd q).toInt (nN (mn q)) (cF40 cx q) (cF40 cy q) (MT q) (WI q) (IN q) ((sWp on ox oy cx cy b) q)) := zp_0 c_15
                  refine lv_iconst (v := 0) hx hb dX11_isLawful_57 rfl ?_
                  obtain ⟨hP9, hD9⟩ := zu_sub (wc := [_, _, _, _, _, _, _, _, _, _, _, _, _, _, _, _]) hP hD [true, true, true, true, true, true, true, true, true, true, true, true, true, true, true, true] rfl rfl
                  rw [hQ9]
                  exact W.zret (ty := .boolean) (v := 0) hx hb hr (rfl) (fun t ht hW => ⟨⟨congrArg (fun z => Outcome.returned (some (Value.int z))) (show (0 : Int32) = pI (lwA ft st tn kd mn cx cy f n (ox 0) (oy 0) MT WI IN (sWp on ox oy cx cy b)) from (zp_f (fun h => absurd (h.2.2 q (by first | with_reducible assumption | assumption) (by omega)) (by first | with_reducible assumption | assumption))).symm), q_10, q_11, q_12, q_13, q_14, by rw [ht]; exact hP9, hD9⟩, hS.F ht⟩) hS.2.2 dX11_isLawful_58
      exact hl_21 _ 0 (I0 31) q_2 T0 P0 Q0 H locs ls (Nat.lt_succ_self _) (by first | with_reducible assumption | omega) (by intro j hj; omega) hP hD hS (lv_sub hl [0, 1, 2, 3, 4] rfl)
    · have c_3 : ¬ (mSm (kd f).toInt n (cF40 cx f) (cF40 cy f)) := zp_0 c_3
      refine lv_iconst (v := 0) hx hb dX11_isLawful_16 rfl ?_
      obtain ⟨hP9, hD9⟩ := zu_sub (wc := [_, _, _, _, _, _, _, _, _, _, _, _, _, _, _, _]) hP hD [true, true, true, true, true, true, true, true, true, true, true, true, true, true, true, true] rfl rfl
      rw [hQ9]
      exact W.zret (ty := .boolean) (v := 0) hx hb hr (rfl) (fun t ht hW => ⟨⟨congrArg (fun z => Outcome.returned (some (Value.int z))) (show (0 : Int32) = pI (lwA ft st tn kd mn cx cy f n (ox 0) (oy 0) MT WI IN (sWp on ox oy cx cy b)) from (zp_f (by unfold lwA; first | exact fun h => absurd h.1 (by first | with_reducible assumption | assumption) | exact fun h => absurd h.2.1 (by first | with_reducible assumption | assumption))).symm), (I0 31), q_2, T0, P0, Q0, by rw [ht]; exact hP9, hD9⟩, hS.F ht⟩) hS.2.2 dX11_isLawful_17
set_option maxHeartbeats 4000000 in
set_option maxRecDepth 100000 in
theorem k_M_isLawful_s (l : Launch) (dC : Nat → ClassId) (dI : Nat → Nat → Nat) (cI cZ cF : ClassId) (sz : Nat) (k0 : Nat) (a : Nat → Nat) (I0 : Nat → Int32) (J0 : Nat → Int64) (f : Nat) (n : Nat) (ft : Nat) (on : Nat) (st : Nat → Int32) (tn : Nat → Int32) (kd : Nat → Int32) (mn : Nat → Int32) (cx : Nat → Int32) (cy : Nat → Int32) (S0 : Nat → Int32) (T0 : Nat → Int32) (P0 : Nat → Int32) (Q0 : Nat → Int32) (ox : Nat → Int32) (oy : Nat → Int32) (mt : Nat → Int32) (wi : Nat → Int32) (ins : Nat → Int32) (MT : Nat → Prop) (WI : Nat → Prop) (IN : Nat → Nat → Prop) (hft : I0 0 = nI ft) (h200 : ft ≤ 200) (hf_f : f ≤ 200) (hm_f : mn f = nI n) (hn_f : n ≤ 40) (hwf : ∀ q, lvF ft st tn q → q ≠ f → wfM mn cx cy q) (hon : I0 35 = nI on) (ho40 : on ≤ 40) (ho1 : 1 ≤ on) (hpo : pls on ox oy) (hmt : ∀ q, lvF ft st tn q → q ≠ f → mt q = pI (MT q)) (hwi : ∀ q, lvF ft st tn q → q ≠ f → 5 ≤ (kd q).toInt → wi q = pI (WI q)) (hin : ∀ q, lvF ft st tn q → q ≠ f → ∀ k, k < nN (mn q) → 5 ≤ (kd f).toInt → ins (40 * q + k) = pI (IN q k)) : zM l yX11_isLawful cX11_isLawful 5 (some .boolean) ({ frames := 5, cells := 0, slots := 0, locals := 135 } : Room) [.ref k0, .int (nI f), .int 5, .int (-1)] (dC, dI) (zTy cI cZ cF) [(om k0 a I0 J0), (oa (a 5) cI 201 st), (oa (a 6) cZ 201 tn), (oa (a 1) cI 201 kd), (oa (a 11) cI 201 mn), (oa (a 12) cI 8040 cx), (oa (a 13) cI 8040 cy), (oa (a 32) cI 8 S0), (oa (a 40) cI 6 T0), (oa (a 29) cI 42 P0), (oa (a 30) cI 42 Q0), (oa (a 33) cI 42 ox), (oa (a 34) cI 42 oy), (oa (a 37) cZ 201 mt), (oa (a 38) cZ 201 wi), (oa (a 39) cZ 8040 ins)] sz (some (.int (pI (lwA ft st tn kd mn cx cy f n (ox 0) (oy 0) MT WI IN (sW0))))) (fun A t => ∃ (z9 : Int32), ∃ (S1 : Nat → Int32), ∃ (T1 : Nat → Int32), ∃ (P1 : Nat → Int32), ∃ (Q1 : Nat → Int32), zPD (dC, dI) classes A [(om k0 a (upd I0 31 z9) J0), (oa (a 5) cI 201 st), (oa (a 6) cZ 201 tn), (oa (a 1) cI 201 kd), (oa (a 11) cI 201 mn), (oa (a 12) cI 8040 cx), (oa (a 13) cI 8040 cy), (oa (a 32) cI 8 S1), (oa (a 40) cI 6 T1), (oa (a 29) cI 42 P1), (oa (a 30) cI 42 Q1), (oa (a 33) cI 42 ox), (oa (a 34) cI 42 oy), (oa (a 37) cZ 201 mt), (oa (a 38) cZ 201 wi), (oa (a 39) cZ 8040 ins)] t.heap) 0 0 := by
  refine zIn (own := "ScaleShopModel") (loc := [(0, .ref k0), (1, .int (nI f)), (2, .int 5), (3, .int (-1))]) rfl rfl rfl rfl (fun p e s m below meth c hx hb hr hts hown hlocks hml hnm9 A hA hS hP hD hK hXN Q9 hQ9 ls hl => ?_)
  refine lv_aload_n hx hb dX11_isLawful_0 rfl (lv_at hl 0 rfl) ?_
  refine lv_iload_n hx hb dX11_isLawful_1 rfl (lv_at hl 1 rfl) ?_
  obtain ⟨hPc, hDc, hFc, hI1⟩ := zi_sub (wc := [_, _, _, _]) hP hD hS hA [0, 4, 5, 6] (by decide +kernel) rfl
  refine zcall (st1 := [.int (pI (pls n (cF40 cx f) (cF40 cy f)))]) (va_runV (As := [.int (nI f)]) (rest := []) ⟨hx, hb, hml, hown, hts⟩ (k_M_arePlaces l dC dI cI cZ cF s.heap.size k0 a I0 J0 f n mn cx cy (by first | with_reducible assumption | omega) (by first | with_reducible assumption | assumption) (by first | with_reducible assumption | omega)) (csV_186 hts rfl rfl ⟨Nat.le_of_ble_eq_true rfl, Nat.le_of_ble_eq_true rfl⟩) (zPV2 (q0 := 0) (ci := 9) hPc hDc hK hXN rfl rfl) rfl rfl hl.1 rfl (lv_room (Nat.le_of_ble_eq_true rfl)) dX11_isLawful_2 ⟨Nat.le_of_ble_eq_true rfl, Nat.le_of_ble_eq_true rfl⟩) hS hFc hFc rfl (fun t H locs ht hB hk1 hS => ?_)
  obtain ⟨hP1, hD1⟩ := hB
  rw [ht] at hP1
  replace hP := z0 hP hD hk1 hP1 hI1
  clear hk1 hPc hDc hFc hP1 hD1 ht hI1
  refine lv_if_eq (tgt := 16) hx hb dX11_isLawful_5 rfl (fun c_1 => ?_) (fun c_1 => ?_)
  · have c_1 : ¬ (pls n (cF40 cx f) (cF40 cy f)) := zp_0 c_1
    refine lv_iconst (v := 0) hx hb dX11_isLawful_16 rfl ?_
    obtain ⟨hP9, hD9⟩ := zu_sub (wc := [_, _, _, _, _, _, _, _, _, _, _, _, _, _, _, _]) hP hD [true, true, true, true, true, true, true, true, true, true, true, true, true, true, true, true] rfl rfl
    rw [hQ9]
    exact W.zret (ty := .boolean) (v := 0) hx hb hr (rfl) (fun t ht hW => ⟨⟨congrArg (fun z => Outcome.returned (some (Value.int z))) (show (0 : Int32) = pI (lwA ft st tn kd mn cx cy f n (ox 0) (oy 0) MT WI IN (sW0)) from (zp_f (by unfold lwA; first | exact fun h => absurd h.1 (by first | with_reducible assumption | assumption) | exact fun h => absurd h.2.1 (by first | with_reducible assumption | assumption))).symm), (I0 31), S0, T0, P0, Q0, by rw [ht]; exact hP9, hD9⟩, hS.F ht⟩) hS.2.2 dX11_isLawful_17
  · have c_1 : pls n (cF40 cx f) (cF40 cy f) := zp_1 c_1
    refine lv_aload_n hx hb dX11_isLawful_8 rfl (lv_at hl 0 rfl) ?_
    refine lv_iload_n hx hb dX11_isLawful_9 rfl (lv_at hl 1 rfl) ?_
    obtain ⟨hPc, hDc, hFc⟩ := zo_sub (wc := [_, _, _, _, _, _]) hP hD hS hA [0, 3, 4, 5, 6, 7] (by decide +kernel) rfl
    refine zcall (st1 := [.int (pI (mSm (kd f).toInt n (cF40 cx f) (cF40 cy f)))]) (va_runV (As := [.int (nI f)]) (rest := []) ⟨hx, hb, hml, hown, hts⟩ (k_M_isSimple l dC dI cI cZ cF H.size k0 a I0 J0 f n kd mn cx cy S0 (by first | with_reducible assumption | omega) (by first | with_reducible assumption | assumption) (by first | with_reducible assumption | assumption) (by first | with_reducible assumption | omega)) (csV_187 hts rfl rfl ⟨Nat.le_of_ble_eq_true rfl, Nat.le_of_ble_eq_true rfl⟩) (zPV2 (q0 := 0) (ci := 9) hPc hDc hK hXN rfl rfl) rfl rfl hl.1 rfl (lv_room (Nat.le_of_ble_eq_true rfl)) dX11_isLawful_10 ⟨Nat.le_of_ble_eq_true rfl, Nat.le_of_ble_eq_true rfl⟩) hS hFc hFc rfl (fun t H locs ht hB hk1 hS => ?_)
    obtain ⟨q_2, hP1, hD1⟩ := hB
    rw [ht] at hP1
    obtain ⟨hP, hD⟩ := zn (W2 := [_, _, _, _, _, _, _, (oa (a 32) cI 8 q_2), _, _, _, _, _, _, _, _]) hP hD hk1 hFc hP1 hD1 [0, 3, 4, 5, 6, 7] zl_154 zl_154 [0, 3, 4, 5, 6, 7] (by decide +kernel) rfl rfl rfl rfl rfl
    clear hk1 hPc hDc hFc hP1 hD1 ht
    refine lv_if_ne (tgt := 18) hx hb dX11_isLawful_13 rfl (fun c_3 => ?_) (fun c_3 => ?_)
    · have c_3 : mSm (kd f).toInt n (cF40 cx f) (cF40 cy f) := zp_1 c_3
      have hn1 := mSm_pos (by first | with_reducible assumption | assumption)
      have hpf : pls n (cF40 cx f) (cF40 cy f) := (by first | with_reducible assumption | assumption)
      refine lv_iconst (v := 0) hx hb dX11_isLawful_18 rfl ?_
      refine lv_istore (lv' := [(4, .int 0), (0, .ref k0), (1, .int (nI f)), (2, .int 5), (3, .int (-1))]) hx hb dX11_isLawful_19 hl (Nat.le_of_ble_eq_true rfl) rfl (fun ls hl => ?_)
      have hl_21 : ∀ (n9 : Nat) (q : Nat) (z9 : Int32) (S1 : Nat → Int32) (T1 : Nat → Int32) (P1 : Nat → Int32) (Q1 : Nat → Int32) (H : Heap) (locs : List Loc) (ls : Array Slot), ft - q < n9 → (q ≤ ft) → (∀ j, j < q → lvF ft st tn j → j ≠ f → lawTo (ox 0) (oy 0) (kd f).toInt n (cF40 cx f) (cF40 cy f) (kd j).toInt (nN (mn j)) (cF40 cx j) (cF40 cy j) (MT j) (WI j) (IN j) (sW0 j)) → va_P (dC, dI) classes [(om k0 a (upd I0 31 z9) J0), (oa (a 5) cI 201 st), (oa (a 6) cZ 201 tn), (oa (a 1) cI 201 kd), (oa (a 11) cI 201 mn), (oa (a 12) cI 8040 cx), (oa (a 13) cI 8040 cy), (oa (a 32) cI 8 S1), (oa (a 40) cI 6 T1), (oa (a 29) cI 42 P1), (oa (a 30) cI 42 Q1), (oa (a 33) cI 42 ox), (oa (a 34) cI 42 oy), (oa (a 37) cZ 201 mt), (oa (a 38) cZ 201 wi), (oa (a 39) cZ 8040 ins)] H → va_D A [(om k0 a (upd I0 31 z9) J0), (oa (a 5) cI 201 st), (oa (a 6) cZ 201 tn), (oa (a 1) cI 201 kd), (oa (a 11) cI 201 mn), (oa (a 12) cI 8040 cx), (oa (a 13) cI 8040 cy), (oa (a 32) cI 8 S1), (oa (a 40) cI 6 T1), (oa (a 29) cI 42 P1), (oa (a 30) cI 42 Q1), (oa (a 33) cI 42 ox), (oa (a 34) cI 42 oy), (oa (a 37) cZ 201 mt), (oa (a 38) cZ 201 wi), (oa (a 39) cZ 8040 ins)] → va_S A s.heap H locs → lv_has ls 5 [(4, .int (nI q)), (0, .ref k0), (1, .int (nI f)), (2, .int 5), (3, .int (-1))] → W p l e ({ frames := 5, cells := 0, slots := 0, locals := 135 } : Room) s m ([.ref k0, .int (nI f), .int 5, .int (-1)] : List Value).toArray below meth c H locs 0 0 Q9 (F0 m 21 ls []) := by
        intro n9
        induction n9 with
        | zero => intro q z9 S1 T1 P1 Q1 H locs ls hm; exact absurd hm (Nat.not_lt_zero _)
        | succ n9 ih_21 =>
          intro q z9 S1 T1 P1 Q1 H locs ls hm hq hall hP hD hS hl
          refine lv_iload hx hb dX11_isLawful_21 (lv_at hl 0 rfl) ?_
          refine lv_aload_n hx hb dX11_isLawful_23 rfl (lv_at hl 1 rfl) ?_
          refine va_get (D := (dC, dI)) (ci := 9) (v := .int (I0 0)) (C := RX11) (T := TX11) (N := 55) hx hb hts inX11 hown hK hP 0 rfl rfl 0 (Nat.le_of_ble_eq_true rfl) (hts _ mw_1159) (fun _ h9 => h9) rfl dX11_isLawful_24 ?_
          refine zz_i (v := nI ft) (hft) ?_
          have b9_5 : zlt (q) := show q < 2147483648 by omega
          have b9_6 : zlt (ft) := show ft < 2147483648 by omega
          refine lv_icmp_ge (tgt := 65) hx hb dX11_isLawful_27 rfl (fun c_4 => ?_) (fun c_4 => ?_)
          · have c_4 : ((ft : Nat) : Int) ≤ ((q : Nat) : Int) := zc_le (nI_toInt b9_6) (nI_toInt b9_5) c_4
            refine lv_iconst (v := 1) hx hb dX11_isLawful_65 rfl ?_
            obtain ⟨hP9, hD9⟩ := zu_sub (wc := [_, _, _, _, _, _, _, _, _, _, _, _, _, _, _, _]) hP hD [true, true, true, true, true, true, true, true, true, true, true, true, true, true, true, true] rfl rfl
            rw [hQ9]
            exact W.zret (ty := .boolean) (v := 1) hx hb hr (rfl) (fun t ht hW => ⟨⟨congrArg (fun z => Outcome.returned (some (Value.int z))) (show (1 : Int32) = pI (lwA ft st tn kd mn cx cy f n (ox 0) (oy 0) MT WI IN (sW0)) from (zp_t (⟨by assumption, by assumption, fun j h1 h2 => hall j (by omega) h1 h2⟩)).symm), z9, S1, T1, P1, Q1, by rw [ht]; exact hP9, hD9⟩, hS.F ht⟩) hS.2.2 dX11_isLawful_66
          · have c_4 : ((q : Nat) : Int) < ((ft : Nat) : Int) := zc_nle (nI_toInt b9_6) (nI_toInt b9_5) c_4
            refine lv_iload hx hb dX11_isLawful_30 (lv_at hl 0 rfl) ?_
            refine lv_iload_n hx hb dX11_isLawful_32 rfl (lv_at hl 2 rfl) ?_
            have b9_8 : zlt (f) := show f < 2147483648 by omega
            refine lv_icmp_eq (tgt := 59) hx hb dX11_isLawful_33 rfl (fun c_7 => ?_) (fun c_7 => ?_)
            · have c_7 : ((q : Nat) : Int) = ((f : Nat) : Int) := zc_eq (nI_toInt b9_5) (nI_toInt b9_8) c_7
              refine lv_iinc (v := nI (q + 1)) (lv' := [(4, .int (nI (q + 1))), (0, .ref k0), (1, .int (nI f)), (2, .int 5), (3, .int (-1))]) hx hb dX11_isLawful_59 hl (k := 0) rfl (nI_add q 1) (Nat.le_of_ble_eq_true rfl) rfl (fun ls hl => ?_)
              refine lv_goto (tgt := 21) hx hb dX11_isLawful_62 rfl ?_
              exact ih_21 (q + 1) z9 S1 T1 P1 Q1 H locs ls (by first | with_reducible assumption | omega) (by first | with_reducible assumption | omega) (by intro j hj h1 h2; rcases Nat.lt_or_ge j q with h | h; exact hall j h h1 h2; obtain rfl : j = q := (by first | with_reducible assumption | omega); first | (exfalso; omega) | exact absurd h1 (by first | with_reducible assumption | assumption) | assumption) hP hD hS (lv_sub hl [0, 1, 2, 3, 4] rfl)
            · have c_7 : ¬ ((q : Nat) : Int) = ((f : Nat) : Int) := zc_ne (nI_toInt b9_5) (nI_toInt b9_8) c_7
              refine lv_aload_n hx hb dX11_isLawful_36 rfl (lv_at hl 1 rfl) ?_
              refine lv_iload hx hb dX11_isLawful_37 (lv_at hl 0 rfl) ?_
              obtain ⟨hPc, hDc, hFc, hI1⟩ := zi_sub (wc := [_, _, _]) hP hD hS hA [0, 1, 2] rfl rfl
              refine zcall (st1 := [.int (pI (q < ft ∧ (st q).toInt = 1 ∧ (tn q).toInt = 0))]) (va_runV (As := [.int (nI q)]) (rest := []) ⟨hx, hb, hml, hown, hts⟩ (k_M_is_n l dC dI cI cZ cF H.size k0 a (upd I0 31 z9) J0 q ft st tn (by first | with_reducible assumption | assumption) (by first | with_reducible assumption | omega) (by first | with_reducible assumption | omega)) (csV_179 hts rfl rfl ⟨Nat.le_of_ble_eq_true rfl, Nat.le_of_ble_eq_true rfl⟩) (zPV2 (q0 := 0) (ci := 9) hPc hDc hK hXN rfl rfl) rfl rfl hl.1 rfl (lv_room (Nat.le_of_ble_eq_true rfl)) dX11_isLawful_39 ⟨Nat.le_of_ble_eq_true rfl, Nat.le_of_ble_eq_true rfl⟩) hS hFc hFc rfl (fun t H locs ht hB hk1 hS => ?_)
              obtain ⟨hP1, hD1⟩ := hB
              rw [ht] at hP1
              replace hP := z0 hP hD hk1 hP1 hI1
              clear hk1 hPc hDc hFc hP1 hD1 ht hI1
              refine lv_if_eq (tgt := 59) hx hb dX11_isLawful_42 rfl (fun c_9 => ?_) (fun c_9 => ?_)
              · have c_9 : ¬ (q < ft ∧ (st q).toInt = 1 ∧ (tn q).toInt = 0) := zp_0 c_9
                refine lv_iinc (v := nI (q + 1)) (lv' := [(4, .int (nI (q + 1))), (0, .ref k0), (1, .int (nI f)), (2, .int 5), (3, .int (-1))]) hx hb dX11_isLawful_59 hl (k := 0) rfl (nI_add q 1) (Nat.le_of_ble_eq_true rfl) rfl (fun ls hl => ?_)
                refine lv_goto (tgt := 21) hx hb dX11_isLawful_62 rfl ?_
                exact ih_21 (q + 1) z9 S1 T1 P1 Q1 H locs ls (by first | with_reducible assumption | omega) (by first | with_reducible assumption | omega) (by intro j hj h1 h2; rcases Nat.lt_or_ge j q with h | h; exact hall j h h1 h2; obtain rfl : j = q := (by first | with_reducible assumption | omega); first | (exfalso; omega) | exact absurd h1 (by first | with_reducible assumption | assumption) | assumption) hP hD hS (lv_sub hl [0, 1, 2, 3, 4] rfl)
              · have c_9 : q < ft ∧ (st q).toInt = 1 ∧ (tn q).toInt = 0 := zp_1 c_9
                have hw9 := hwf q (by first | with_reducible assumption | assumption) (by omega)
                have hm9 := hw9.1
                have hn9 := hw9.2.1
                have hp9 := hw9.2.2
                refine lv_aload_n hx hb dX11_isLawful_45 rfl (lv_at hl 1 rfl) ?_
                refine lv_iload_n hx hb dX11_isLawful_46 rfl (lv_at hl 2 rfl) ?_
                refine lv_iload hx hb dX11_isLawful_47 (lv_at hl 0 rfl) ?_
                refine lv_iload_n hx hb dX11_isLawful_49 rfl (lv_at hl 3 rfl) ?_
                refine lv_iload_n hx hb dX11_isLawful_50 rfl (lv_at hl 4 rfl) ?_
                obtain ⟨hPc, hDc, hFc⟩ := zo_sub (wc := [_, _, _, _, _, _, _, _, _, _, _, _, _, _]) hP hD hS hA [0, 3, 4, 5, 6, 7, 8, 9, 10, 11, 12, 13, 14, 15] (by decide +kernel) rfl
                refine zcall (st1 := [.int (pI (lawTo (ox 0) (oy 0) (kd f).toInt n (cF40 cx f) (cF40 cy f) (kd q).toInt (nN (mn q)) (cF40 cx q) (cF40 cy q) (MT q) (WI q) (IN q) (fun _ => False)))]) (va_runV (As := [.int (nI f), .int (nI q), .int 5, .int (-1)]) (rest := []) ⟨hx, hb, hml, hown, hts⟩ (k_M_isLawfulTo_s l dC dI cI cZ cF H.size k0 a (upd I0 31 z9) J0 f n q (nN (mn q)) on kd mn cx cy S1 T1 P1 Q1 ox oy mt wi ins (MT q) (WI q) (IN q) (by first | with_reducible assumption | omega) (by first | with_reducible assumption | assumption) (by first | with_reducible assumption | omega) (by first | with_reducible assumption | assumption) (by first | with_reducible assumption | omega) (by first | with_reducible assumption | assumption) (by first | with_reducible assumption | omega) (by first | with_reducible assumption | assumption) (by first | with_reducible assumption | assumption) (by first | with_reducible assumption | omega) (ho1) (hpo) (hmt q (by first | with_reducible assumption | assumption) (by first | with_reducible assumption | omega)) (hwi q (by first | with_reducible assumption | assumption) (by first | with_reducible assumption | omega)) (hin q (by first | with_reducible assumption | assumption) (by first | with_reducible assumption | omega))) (csV_188 hts rfl rfl ⟨Nat.le_of_ble_eq_true rfl, Nat.le_of_ble_eq_true rfl⟩) (zPV2 (q0 := 0) (ci := 9) hPc hDc hK hXN rfl rfl) rfl rfl hl.1 rfl (lv_room (Nat.le_of_ble_eq_true rfl)) dX11_isLawful_51 ⟨Nat.le_of_ble_eq_true rfl, Nat.le_of_ble_eq_true rfl⟩) hS hFc hFc rfl (fun t H locs ht hB hk1 hS => ?_)
                obtain ⟨q_10, q_11, q_12, q_13, q_14, hP1, hD1⟩ := hB
                rw [ht] at hP1
                obtain ⟨hP, hD⟩ := zn (W2 := [(om k0 a (upd I0 31 q_10) J0), _, _, _, _, _, _, (oa (a 32) cI 8 q_11), (oa (a 40) cI 6 q_12), (oa (a 29) cI 42 q_13), (oa (a 30) cI 42 q_14), _, _, _, _, _]) hP hD hk1 hFc hP1 hD1 zl_155 [false, true, true] zl_156 zl_155 (by decide +kernel) rfl rfl rfl rfl rfl
                clear hk1 hPc hDc hFc hP1 hD1 ht
                refine zz_i (v := pI (lawTo (ox 0) (oy 0) (kd f).toInt n (cF40 cx f) (cF40 cy f) (kd q).toInt (nN (mn q)) (cF40 cx q) (cF40 cy q) (MT q) (WI q) (IN q) (sW0 q))) (rfl) ?_
                refine lv_if_ne (tgt := 59) hx hb dX11_isLawful_54 rfl (fun c_15 => ?_) (fun c_15 => ?_)
                · have c_15 : lawTo (ox 0) (oy 0) (kd f).toInt n (cF40 cx f) (cF40 cy f) (kd q).toInt (nN (mn q)) (cF40 cx q) (cF40 cy q) (MT q) (WI q) (IN q) (sW0 q) := zp_1 c_15
                  refine lv_iinc (v := nI (q + 1)) (lv' := [(4, .int (nI (q + 1))), (0, .ref k0), (1, .int (nI f)), (2, .int 5), (3, .int (-1))]) hx hb dX11_isLawful_59 hl (k := 0) rfl (nI_add q 1) (Nat.le_of_ble_eq_true rfl) rfl (fun ls hl => ?_)
                  refine lv_goto (tgt := 21) hx hb dX11_isLawful_62 rfl ?_
                  exact ih_21 (q + 1) q_10 q_11 q_12 q_13 q_14 H locs ls (by first | with_reducible assumption | omega) (by first | with_reducible assumption | omega) (by intro j hj h1 h2; rcases Nat.lt_or_ge j q with h | h; exact hall j h h1 h2; obtain rfl : j = q := (by first | with_reducible assumption | omega); first | (exfalso; omega) | exact absurd h1 (by first | with_reducible assumption | assumption) | assumption) hP hD hS (lv_sub hl [0, 1, 2, 3, 4] rfl)
                · have c_15 : ¬ (lawTo (ox 0) (oy 0) (kd f).toInt n (cF40 cx f) (cF40 cy f) (kd q).toInt (nN (mn q)) (cF40 cx q) (cF40 cy q) (MT q) (WI q) (IN q) (sW0 q)) := zp_0 c_15
                  refine lv_iconst (v := 0) hx hb dX11_isLawful_57 rfl ?_
                  obtain ⟨hP9, hD9⟩ := zu_sub (wc := [_, _, _, _, _, _, _, _, _, _, _, _, _, _, _, _]) hP hD [true, true, true, true, true, true, true, true, true, true, true, true, true, true, true, true] rfl rfl
                  rw [hQ9]
                  exact W.zret (ty := .boolean) (v := 0) hx hb hr (rfl) (fun t ht hW => ⟨⟨congrArg (fun z => Outcome.returned (some (Value.int z))) (show (0 : Int32) = pI (lwA ft st tn kd mn cx cy f n (ox 0) (oy 0) MT WI IN (sW0)) from (zp_f (fun h => absurd (h.2.2 q (by first | with_reducible assumption | assumption) (by omega)) (by first | with_reducible assumption | assumption))).symm), q_10, q_11, q_12, q_13, q_14, by rw [ht]; exact hP9, hD9⟩, hS.F ht⟩) hS.2.2 dX11_isLawful_58
      exact hl_21 _ 0 (I0 31) q_2 T0 P0 Q0 H locs ls (Nat.lt_succ_self _) (by first | with_reducible assumption | omega) (by intro j hj; omega) hP hD hS (lv_sub hl [0, 1, 2, 3, 4] rfl)
    · have c_3 : ¬ (mSm (kd f).toInt n (cF40 cx f) (cF40 cy f)) := zp_0 c_3
      refine lv_iconst (v := 0) hx hb dX11_isLawful_16 rfl ?_
      obtain ⟨hP9, hD9⟩ := zu_sub (wc := [_, _, _, _, _, _, _, _, _, _, _, _, _, _, _, _]) hP hD [true, true, true, true, true, true, true, true, true, true, true, true, true, true, true, true] rfl rfl
      rw [hQ9]
      exact W.zret (ty := .boolean) (v := 0) hx hb hr (rfl) (fun t ht hW => ⟨⟨congrArg (fun z => Outcome.returned (some (Value.int z))) (show (0 : Int32) = pI (lwA ft st tn kd mn cx cy f n (ox 0) (oy 0) MT WI IN (sW0)) from (zp_f (by unfold lwA; first | exact fun h => absurd h.1 (by first | with_reducible assumption | assumption) | exact fun h => absurd h.2.1 (by first | with_reducible assumption | assumption))).symm), (I0 31), q_2, T0, P0, Q0, by rw [ht]; exact hP9, hD9⟩, hS.F ht⟩) hS.2.2 dX11_isLawful_17
set_option maxHeartbeats 4000000 in
set_option maxRecDepth 100000 in
theorem k_M_isLawful_m (l : Launch) (dC : Nat → ClassId) (dI : Nat → Nat → Nat) (cI cZ cF : ClassId) (sz : Nat) (k0 : Nat) (a : Nat → Nat) (I0 : Nat → Int32) (J0 : Nat → Int64) (f : Nat) (n : Nat) (ft : Nat) (on : Nat) (h : Nat) (st : Nat → Int32) (tn : Nat → Int32) (kd : Nat → Int32) (mn : Nat → Int32) (cx : Nat → Int32) (cy : Nat → Int32) (S0 : Nat → Int32) (T0 : Nat → Int32) (P0 : Nat → Int32) (Q0 : Nat → Int32) (ox : Nat → Int32) (oy : Nat → Int32) (mt : Nat → Int32) (wi : Nat → Int32) (ins : Nat → Int32) (MT : Nat → Prop) (WI : Nat → Prop) (IN : Nat → Nat → Prop) (hft : I0 0 = nI ft) (h200 : ft ≤ 200) (hf_f : f ≤ 200) (hm_f : mn f = nI n) (hn_f : n ≤ 40) (hwf : ∀ q, lvF ft st tn q → q ≠ f → wfM mn cx cy q) (hon : I0 35 = nI on) (ho40 : on ≤ 40) (ho1 : 1 ≤ on) (hpo : pls on ox oy) (hmt : ∀ q, lvF ft st tn q → q ≠ f → mt q = pI (MT q)) (hwi : ∀ q, lvF ft st tn q → q ≠ f → 5 ≤ (kd q).toInt → wi q = pI (WI q)) (hin : ∀ q, lvF ft st tn q → q ≠ f → ∀ k, k < nN (mn q) → 5 ≤ (kd f).toInt → ins (40 * q + k) = pI (IN q k)) (hh : h < 5) (hon2 : n = on) : zM l yX11_isLawful cX11_isLawful 5 (some .boolean) ({ frames := 6, cells := 0, slots := 0, locals := 162 } : Room) [.ref k0, .int (nI f), .int (nI h), .int (-1)] (dC, dI) (zTy cI cZ cF) [(om k0 a I0 J0), (oa (a 5) cI 201 st), (oa (a 6) cZ 201 tn), (oa (a 1) cI 201 kd), (oa (a 11) cI 201 mn), (oa (a 12) cI 8040 cx), (oa (a 13) cI 8040 cy), (oa (a 32) cI 8 S0), (oa (a 40) cI 6 T0), (oa (a 29) cI 42 P0), (oa (a 30) cI 42 Q0), (oa (a 33) cI 42 ox), (oa (a 34) cI 42 oy), (oa (a 37) cZ 201 mt), (oa (a 38) cZ 201 wi), (oa (a 39) cZ 8040 ins)] sz (some (.int (pI (lwA ft st tn kd mn cx cy f n (ox 0) (oy 0) MT WI IN (sWm (kd f).toInt on ox oy cx cy f))))) (fun A t => ∃ (z9 : Int32), ∃ (S1 : Nat → Int32), ∃ (T1 : Nat → Int32), ∃ (P1 : Nat → Int32), ∃ (Q1 : Nat → Int32), zPD (dC, dI) classes A [(om k0 a (upd I0 31 z9) J0), (oa (a 5) cI 201 st), (oa (a 6) cZ 201 tn), (oa (a 1) cI 201 kd), (oa (a 11) cI 201 mn), (oa (a 12) cI 8040 cx), (oa (a 13) cI 8040 cy), (oa (a 32) cI 8 S1), (oa (a 40) cI 6 T1), (oa (a 29) cI 42 P1), (oa (a 30) cI 42 Q1), (oa (a 33) cI 42 ox), (oa (a 34) cI 42 oy), (oa (a 37) cZ 201 mt), (oa (a 38) cZ 201 wi), (oa (a 39) cZ 8040 ins)] t.heap) 0 0 := by
  refine zIn (own := "ScaleShopModel") (loc := [(0, .ref k0), (1, .int (nI f)), (2, .int (nI h)), (3, .int (-1))]) rfl rfl rfl rfl (fun p e s m below meth c hx hb hr hts hown hlocks hml hnm9 A hA hS hP hD hK hXN Q9 hQ9 ls hl => ?_)
  refine lv_aload_n hx hb dX11_isLawful_0 rfl (lv_at hl 0 rfl) ?_
  refine lv_iload_n hx hb dX11_isLawful_1 rfl (lv_at hl 1 rfl) ?_
  obtain ⟨hPc, hDc, hFc, hI1⟩ := zi_sub (wc := [_, _, _, _]) hP hD hS hA [0, 4, 5, 6] (by decide +kernel) rfl
  refine zcall (st1 := [.int (pI (pls n (cF40 cx f) (cF40 cy f)))]) (va_runV (As := [.int (nI f)]) (rest := []) ⟨hx, hb, hml, hown, hts⟩ (k_M_arePlaces l dC dI cI cZ cF s.heap.size k0 a I0 J0 f n mn cx cy (by first | with_reducible assumption | omega) (by first | with_reducible assumption | assumption) (by first | with_reducible assumption | omega)) (csV_186 hts rfl rfl ⟨Nat.le_of_ble_eq_true rfl, Nat.le_of_ble_eq_true rfl⟩) (zPV2 (q0 := 0) (ci := 9) hPc hDc hK hXN rfl rfl) rfl rfl hl.1 rfl (lv_room (Nat.le_of_ble_eq_true rfl)) dX11_isLawful_2 ⟨Nat.le_of_ble_eq_true rfl, Nat.le_of_ble_eq_true rfl⟩) hS hFc hFc rfl (fun t H locs ht hB hk1 hS => ?_)
  obtain ⟨hP1, hD1⟩ := hB
  rw [ht] at hP1
  replace hP := z0 hP hD hk1 hP1 hI1
  clear hk1 hPc hDc hFc hP1 hD1 ht hI1
  refine lv_if_eq (tgt := 16) hx hb dX11_isLawful_5 rfl (fun c_1 => ?_) (fun c_1 => ?_)
  · have c_1 : ¬ (pls n (cF40 cx f) (cF40 cy f)) := zp_0 c_1
    refine lv_iconst (v := 0) hx hb dX11_isLawful_16 rfl ?_
    obtain ⟨hP9, hD9⟩ := zu_sub (wc := [_, _, _, _, _, _, _, _, _, _, _, _, _, _, _, _]) hP hD [true, true, true, true, true, true, true, true, true, true, true, true, true, true, true, true] rfl rfl
    rw [hQ9]
    exact W.zret (ty := .boolean) (v := 0) hx hb hr (rfl) (fun t ht hW => ⟨⟨congrArg (fun z => Outcome.returned (some (Value.int z))) (show (0 : Int32) = pI (lwA ft st tn kd mn cx cy f n (ox 0) (oy 0) MT WI IN (sWm (kd f).toInt on ox oy cx cy f)) from (zp_f (by unfold lwA; first | exact fun h => absurd h.1 (by first | with_reducible assumption | assumption) | exact fun h => absurd h.2.1 (by first | with_reducible assumption | assumption))).symm), (I0 31), S0, T0, P0, Q0, by rw [ht]; exact hP9, hD9⟩, hS.F ht⟩) hS.2.2 dX11_isLawful_17
  · have c_1 : pls n (cF40 cx f) (cF40 cy f) := zp_1 c_1
    refine lv_aload_n hx hb dX11_isLawful_8 rfl (lv_at hl 0 rfl) ?_
    refine lv_iload_n hx hb dX11_isLawful_9 rfl (lv_at hl 1 rfl) ?_
    obtain ⟨hPc, hDc, hFc⟩ := zo_sub (wc := [_, _, _, _, _, _]) hP hD hS hA [0, 3, 4, 5, 6, 7] (by decide +kernel) rfl
    refine zcall (st1 := [.int (pI (mSm (kd f).toInt n (cF40 cx f) (cF40 cy f)))]) (va_runV (As := [.int (nI f)]) (rest := []) ⟨hx, hb, hml, hown, hts⟩ (k_M_isSimple l dC dI cI cZ cF H.size k0 a I0 J0 f n kd mn cx cy S0 (by first | with_reducible assumption | omega) (by first | with_reducible assumption | assumption) (by first | with_reducible assumption | assumption) (by first | with_reducible assumption | omega)) (csV_187 hts rfl rfl ⟨Nat.le_of_ble_eq_true rfl, Nat.le_of_ble_eq_true rfl⟩) (zPV2 (q0 := 0) (ci := 9) hPc hDc hK hXN rfl rfl) rfl rfl hl.1 rfl (lv_room (Nat.le_of_ble_eq_true rfl)) dX11_isLawful_10 ⟨Nat.le_of_ble_eq_true rfl, Nat.le_of_ble_eq_true rfl⟩) hS hFc hFc rfl (fun t H locs ht hB hk1 hS => ?_)
    obtain ⟨q_2, hP1, hD1⟩ := hB
    rw [ht] at hP1
    obtain ⟨hP, hD⟩ := zn (W2 := [_, _, _, _, _, _, _, (oa (a 32) cI 8 q_2), _, _, _, _, _, _, _, _]) hP hD hk1 hFc hP1 hD1 [0, 3, 4, 5, 6, 7] zl_154 zl_154 [0, 3, 4, 5, 6, 7] (by decide +kernel) rfl rfl rfl rfl rfl
    clear hk1 hPc hDc hFc hP1 hD1 ht
    refine lv_if_ne (tgt := 18) hx hb dX11_isLawful_13 rfl (fun c_3 => ?_) (fun c_3 => ?_)
    · have c_3 : mSm (kd f).toInt n (cF40 cx f) (cF40 cy f) := zp_1 c_3
      have hn1 := mSm_pos (by first | with_reducible assumption | assumption)
      have hpf : pls n (cF40 cx f) (cF40 cy f) := (by first | with_reducible assumption | assumption)
      refine lv_iconst (v := 0) hx hb dX11_isLawful_18 rfl ?_
      refine lv_istore (lv' := [(4, .int 0), (0, .ref k0), (1, .int (nI f)), (2, .int (nI h)), (3, .int (-1))]) hx hb dX11_isLawful_19 hl (Nat.le_of_ble_eq_true rfl) rfl (fun ls hl => ?_)
      have hl_21 : ∀ (n9 : Nat) (q : Nat) (z9 : Int32) (S1 : Nat → Int32) (T1 : Nat → Int32) (P1 : Nat → Int32) (Q1 : Nat → Int32) (H : Heap) (locs : List Loc) (ls : Array Slot), ft - q < n9 → (q ≤ ft) → (∀ j, j < q → lvF ft st tn j → j ≠ f → lawTo (ox 0) (oy 0) (kd f).toInt n (cF40 cx f) (cF40 cy f) (kd j).toInt (nN (mn j)) (cF40 cx j) (cF40 cy j) (MT j) (WI j) (IN j) ((sWm (kd f).toInt on ox oy cx cy f) j)) → va_P (dC, dI) classes [(om k0 a (upd I0 31 z9) J0), (oa (a 5) cI 201 st), (oa (a 6) cZ 201 tn), (oa (a 1) cI 201 kd), (oa (a 11) cI 201 mn), (oa (a 12) cI 8040 cx), (oa (a 13) cI 8040 cy), (oa (a 32) cI 8 S1), (oa (a 40) cI 6 T1), (oa (a 29) cI 42 P1), (oa (a 30) cI 42 Q1), (oa (a 33) cI 42 ox), (oa (a 34) cI 42 oy), (oa (a 37) cZ 201 mt), (oa (a 38) cZ 201 wi), (oa (a 39) cZ 8040 ins)] H → va_D A [(om k0 a (upd I0 31 z9) J0), (oa (a 5) cI 201 st), (oa (a 6) cZ 201 tn), (oa (a 1) cI 201 kd), (oa (a 11) cI 201 mn), (oa (a 12) cI 8040 cx), (oa (a 13) cI 8040 cy), (oa (a 32) cI 8 S1), (oa (a 40) cI 6 T1), (oa (a 29) cI 42 P1), (oa (a 30) cI 42 Q1), (oa (a 33) cI 42 ox), (oa (a 34) cI 42 oy), (oa (a 37) cZ 201 mt), (oa (a 38) cZ 201 wi), (oa (a 39) cZ 8040 ins)] → va_S A s.heap H locs → lv_has ls 5 [(4, .int (nI q)), (0, .ref k0), (1, .int (nI f)), (2, .int (nI h)), (3, .int (-1))] → W p l e ({ frames := 6, cells := 0, slots := 0, locals := 162 } : Room) s m ([.ref k0, .int (nI f), .int (nI h), .int (-1)] : List Value).toArray below meth c H locs 0 0 Q9 (F0 m 21 ls []) := by
        intro n9
        induction n9 with
        | zero => intro q z9 S1 T1 P1 Q1 H locs ls hm; exact absurd hm (Nat.not_lt_zero _)
        | succ n9 ih_21 =>
          intro q z9 S1 T1 P1 Q1 H locs ls hm hq hall hP hD hS hl
          refine lv_iload hx hb dX11_isLawful_21 (lv_at hl 0 rfl) ?_
          refine lv_aload_n hx hb dX11_isLawful_23 rfl (lv_at hl 1 rfl) ?_
          refine va_get (D := (dC, dI)) (ci := 9) (v := .int (I0 0)) (C := RX11) (T := TX11) (N := 55) hx hb hts inX11 hown hK hP 0 rfl rfl 0 (Nat.le_of_ble_eq_true rfl) (hts _ mw_1159) (fun _ h9 => h9) rfl dX11_isLawful_24 ?_
          refine zz_i (v := nI ft) (hft) ?_
          have b9_5 : zlt (q) := show q < 2147483648 by omega
          have b9_6 : zlt (ft) := show ft < 2147483648 by omega
          refine lv_icmp_ge (tgt := 65) hx hb dX11_isLawful_27 rfl (fun c_4 => ?_) (fun c_4 => ?_)
          · have c_4 : ((ft : Nat) : Int) ≤ ((q : Nat) : Int) := zc_le (nI_toInt b9_6) (nI_toInt b9_5) c_4
            refine lv_iconst (v := 1) hx hb dX11_isLawful_65 rfl ?_
            obtain ⟨hP9, hD9⟩ := zu_sub (wc := [_, _, _, _, _, _, _, _, _, _, _, _, _, _, _, _]) hP hD [true, true, true, true, true, true, true, true, true, true, true, true, true, true, true, true] rfl rfl
            rw [hQ9]
            exact W.zret (ty := .boolean) (v := 1) hx hb hr (rfl) (fun t ht hW => ⟨⟨congrArg (fun z => Outcome.returned (some (Value.int z))) (show (1 : Int32) = pI (lwA ft st tn kd mn cx cy f n (ox 0) (oy 0) MT WI IN (sWm (kd f).toInt on ox oy cx cy f)) from (zp_t (⟨by assumption, by assumption, fun j h1 h2 => hall j (by omega) h1 h2⟩)).symm), z9, S1, T1, P1, Q1, by rw [ht]; exact hP9, hD9⟩, hS.F ht⟩) hS.2.2 dX11_isLawful_66
          · have c_4 : ((q : Nat) : Int) < ((ft : Nat) : Int) := zc_nle (nI_toInt b9_6) (nI_toInt b9_5) c_4
            refine lv_iload hx hb dX11_isLawful_30 (lv_at hl 0 rfl) ?_
            refine lv_iload_n hx hb dX11_isLawful_32 rfl (lv_at hl 2 rfl) ?_
            have b9_8 : zlt (f) := show f < 2147483648 by omega
            refine lv_icmp_eq (tgt := 59) hx hb dX11_isLawful_33 rfl (fun c_7 => ?_) (fun c_7 => ?_)
            · have c_7 : ((q : Nat) : Int) = ((f : Nat) : Int) := zc_eq (nI_toInt b9_5) (nI_toInt b9_8) c_7
              refine lv_iinc (v := nI (q + 1)) (lv' := [(4, .int (nI (q + 1))), (0, .ref k0), (1, .int (nI f)), (2, .int (nI h)), (3, .int (-1))]) hx hb dX11_isLawful_59 hl (k := 0) rfl (nI_add q 1) (Nat.le_of_ble_eq_true rfl) rfl (fun ls hl => ?_)
              refine lv_goto (tgt := 21) hx hb dX11_isLawful_62 rfl ?_
              exact ih_21 (q + 1) z9 S1 T1 P1 Q1 H locs ls (by first | with_reducible assumption | omega) (by first | with_reducible assumption | omega) (by intro j hj h1 h2; rcases Nat.lt_or_ge j q with h | h; exact hall j h h1 h2; obtain rfl : j = q := (by first | with_reducible assumption | omega); first | (exfalso; omega) | exact absurd h1 (by first | with_reducible assumption | assumption) | assumption) hP hD hS (lv_sub hl [0, 1, 2, 3, 4] rfl)
            · have c_7 : ¬ ((q : Nat) : Int) = ((f : Nat) : Int) := zc_ne (nI_toInt b9_5) (nI_toInt b9_8) c_7
              refine lv_aload_n hx hb dX11_isLawful_36 rfl (lv_at hl 1 rfl) ?_
              refine lv_iload hx hb dX11_isLawful_37 (lv_at hl 0 rfl) ?_
              obtain ⟨hPc, hDc, hFc, hI1⟩ := zi_sub (wc := [_, _, _]) hP hD hS hA [0, 1, 2] rfl rfl
              refine zcall (st1 := [.int (pI (q < ft ∧ (st q).toInt = 1 ∧ (tn q).toInt = 0))]) (va_runV (As := [.int (nI q)]) (rest := []) ⟨hx, hb, hml, hown, hts⟩ (k_M_is_n l dC dI cI cZ cF H.size k0 a (upd I0 31 z9) J0 q ft st tn (by first | with_reducible assumption | assumption) (by first | with_reducible assumption | omega) (by first | with_reducible assumption | omega)) (csV_179 hts rfl rfl ⟨Nat.le_of_ble_eq_true rfl, Nat.le_of_ble_eq_true rfl⟩) (zPV2 (q0 := 0) (ci := 9) hPc hDc hK hXN rfl rfl) rfl rfl hl.1 rfl (lv_room (Nat.le_of_ble_eq_true rfl)) dX11_isLawful_39 ⟨Nat.le_of_ble_eq_true rfl, Nat.le_of_ble_eq_true rfl⟩) hS hFc hFc rfl (fun t H locs ht hB hk1 hS => ?_)
              obtain ⟨hP1, hD1⟩ := hB
              rw [ht] at hP1
              replace hP := z0 hP hD hk1 hP1 hI1
              clear hk1 hPc hDc hFc hP1 hD1 ht hI1
              refine lv_if_eq (tgt := 59) hx hb dX11_isLawful_42 rfl (fun c_9 => ?_) (fun c_9 => ?_)
              · have c_9 : ¬ (q < ft ∧ (st q).toInt = 1 ∧ (tn q).toInt = 0) := zp_0 c_9
                refine lv_iinc (v := nI (q + 1)) (lv' := [(4, .int (nI (q + 1))), (0, .ref k0), (1, .int (nI f)), (2, .int (nI h)), (3, .int (-1))]) hx hb dX11_isLawful_59 hl (k := 0) rfl (nI_add q 1) (Nat.le_of_ble_eq_true rfl) rfl (fun ls hl => ?_)
                refine lv_goto (tgt := 21) hx hb dX11_isLawful_62 rfl ?_
                exact ih_21 (q + 1) z9 S1 T1 P1 Q1 H locs ls (by first | with_reducible assumption | omega) (by first | with_reducible assumption | omega) (by intro j hj h1 h2; rcases Nat.lt_or_ge j q with h | h; exact hall j h h1 h2; obtain rfl : j = q := (by first | with_reducible assumption | omega); first | (exfalso; omega) | exact absurd h1 (by first | with_reducible assumption | assumption) | assumption) hP hD hS (lv_sub hl [0, 1, 2, 3, 4] rfl)
              · have c_9 : q < ft ∧ (st q).toInt = 1 ∧ (tn q).toInt = 0 := zp_1 c_9
                have hw9 := hwf q (by first | with_reducible assumption | assumption) (by omega)
                have hm9 := hw9.1
                have hn9 := hw9.2.1
                have hp9 := hw9.2.2
                refine lv_aload_n hx hb dX11_isLawful_45 rfl (lv_at hl 1 rfl) ?_
                refine lv_iload_n hx hb dX11_isLawful_46 rfl (lv_at hl 2 rfl) ?_
                refine lv_iload hx hb dX11_isLawful_47 (lv_at hl 0 rfl) ?_
                refine lv_iload_n hx hb dX11_isLawful_49 rfl (lv_at hl 3 rfl) ?_
                refine lv_iload_n hx hb dX11_isLawful_50 rfl (lv_at hl 4 rfl) ?_
                obtain ⟨hPc, hDc, hFc⟩ := zo_sub (wc := [_, _, _, _, _, _, _, _, _, _, _, _, _, _]) hP hD hS hA [0, 3, 4, 5, 6, 7, 8, 9, 10, 11, 12, 13, 14, 15] (by decide +kernel) rfl
                refine zcall (st1 := [.int (pI (lawTo (ox 0) (oy 0) (kd f).toInt n (cF40 cx f) (cF40 cy f) (kd q).toInt (nN (mn q)) (cF40 cx q) (cF40 cy q) (MT q) (WI q) (IN q) (fun k => ∃ e, e < eO (kd f).toInt on ∧ swp on ox oy (cF40 cx f) (cF40 cy f) (cF40 cx q k).toInt (cF40 cy q k).toInt e)))]) (va_runV (As := [.int (nI f), .int (nI q), .int (nI h), .int (-1)]) (rest := []) ⟨hx, hb, hml, hown, hts⟩ (k_M_isLawfulTo_m l dC dI cI cZ cF H.size k0 a (upd I0 31 z9) J0 f n q (nN (mn q)) on h kd mn cx cy S1 T1 P1 Q1 ox oy mt wi ins (MT q) (WI q) (IN q) (by first | with_reducible assumption | omega) (by first | with_reducible assumption | assumption) (by first | with_reducible assumption | omega) (by first | with_reducible assumption | assumption) (by first | with_reducible assumption | omega) (by first | with_reducible assumption | assumption) (by first | with_reducible assumption | omega) (by first | with_reducible assumption | assumption) (by first | with_reducible assumption | assumption) (by first | with_reducible assumption | omega) (ho1) (hpo) (hmt q (by first | with_reducible assumption | assumption) (by first | with_reducible assumption | omega)) (hwi q (by first | with_reducible assumption | assumption) (by first | with_reducible assumption | omega)) (hin q (by first | with_reducible assumption | assumption) (by first | with_reducible assumption | omega)) (by first | with_reducible assumption | omega) (by first | with_reducible assumption | omega)) (csV_188 hts rfl rfl ⟨Nat.le_of_ble_eq_true rfl, Nat.le_of_ble_eq_true rfl⟩) (zPV2 (q0 := 0) (ci := 9) hPc hDc hK hXN rfl rfl) rfl rfl hl.1 rfl (lv_room (Nat.le_of_ble_eq_true rfl)) dX11_isLawful_51 ⟨Nat.le_of_ble_eq_true rfl, Nat.le_of_ble_eq_true rfl⟩) hS hFc hFc rfl (fun t H locs ht hB hk1 hS => ?_)
                obtain ⟨q_10, q_11, q_12, q_13, q_14, hP1, hD1⟩ := hB
                rw [ht] at hP1
                obtain ⟨hP, hD⟩ := zn (W2 := [(om k0 a (upd I0 31 q_10) J0), _, _, _, _, _, _, (oa (a 32) cI 8 q_11), (oa (a 40) cI 6 q_12), (oa (a 29) cI 42 q_13), (oa (a 30) cI 42 q_14), _, _, _, _, _]) hP hD hk1 hFc hP1 hD1 zl_155 [false, true, true] zl_156 zl_155 (by decide +kernel) rfl rfl rfl rfl rfl
                clear hk1 hPc hDc hFc hP1 hD1 ht
                refine zz_i (v := pI (lawTo (ox 0) (oy 0) (kd f).toInt n (cF40 cx f) (cF40 cy f) (kd q).toInt (nN (mn q)) (cF40 cx q) (cF40 cy q) (MT q) (WI q) (IN q) ((sWm (kd f).toInt on ox oy cx cy f) q))) (rfl) ?_
                refine lv_if_ne (tgt := 59) hx hb dX11_isLawful_54 rfl (fun c_15 => ?_) (fun c_15 => ?_)
                · have c_15 : lawTo (ox 0) (oy 0) (kd f).toInt n (cF40 cx f) (cF40 cy f) (kd q).toInt (nN (mn q)) (cF40 cx q) (cF40 cy q) (MT q) (WI q) (IN q) ((sWm (kd f).toInt on ox oy cx cy f) q) := zp_1 c_15
                  refine lv_iinc (v := nI (q + 1)) (lv' := [(4, .int (nI (q + 1))), (0, .ref k0), (1, .int (nI f)), (2, .int (nI h)), (3, .int (-1))]) hx hb dX11_isLawful_59 hl (k := 0) rfl (nI_add q 1) (Nat.le_of_ble_eq_true rfl) rfl (fun ls hl => ?_)
                  refine lv_goto (tgt := 21) hx hb dX11_isLawful_62 rfl ?_
                  exact ih_21 (q + 1) q_10 q_11 q_12 q_13 q_14 H locs ls (by first | with_reducible assumption | omega) (by first | with_reducible assumption | omega) (by intro j hj h1 h2; rcases Nat.lt_or_ge j q with h | h; exact hall j h h1 h2; obtain rfl : j = q := (by first | with_reducible assumption | omega); first | (exfalso; omega) | exact absurd h1 (by first | with_reducible assumption | assumption) | assumption) hP hD hS (lv_sub hl [0, 1, 2, 3, 4] rfl)
                · have c_15 : ¬ (lawTo (ox 0) (oy 0) (kd f).toInt n (cF40 cx f) (cF40 cy f) (kd q).toInt (nN (mn q)) (cF40 cx q) (cF40 cy q) (MT q) (WI q) (IN q) ((sWm (kd f).toInt on ox oy cx cy f) q)) := zp_0 c_15
                  refine lv_iconst (v := 0) hx hb dX11_isLawful_57 rfl ?_
                  obtain ⟨hP9, hD9⟩ := zu_sub (wc := [_, _, _, _, _, _, _, _, _, _, _, _, _, _, _, _]) hP hD [true, true, true, true, true, true, true, true, true, true, true, true, true, true, true, true] rfl rfl
                  rw [hQ9]
                  exact W.zret (ty := .boolean) (v := 0) hx hb hr (rfl) (fun t ht hW => ⟨⟨congrArg (fun z => Outcome.returned (some (Value.int z))) (show (0 : Int32) = pI (lwA ft st tn kd mn cx cy f n (ox 0) (oy 0) MT WI IN (sWm (kd f).toInt on ox oy cx cy f)) from (zp_f (fun h => absurd (h.2.2 q (by first | with_reducible assumption | assumption) (by omega)) (by first | with_reducible assumption | assumption))).symm), q_10, q_11, q_12, q_13, q_14, by rw [ht]; exact hP9, hD9⟩, hS.F ht⟩) hS.2.2 dX11_isLawful_58
      exact hl_21 _ 0 (I0 31) q_2 T0 P0 Q0 H locs ls (Nat.lt_succ_self _) (by first | with_reducible assumption | omega) (by intro j hj; omega) hP hD hS (lv_sub hl [0, 1, 2, 3, 4] rfl)
    · have c_3 : ¬ (mSm (kd f).toInt n (cF40 cx f) (cF40 cy f)) := zp_0 c_3
      refine lv_iconst (v := 0) hx hb dX11_isLawful_16 rfl ?_
      obtain ⟨hP9, hD9⟩ := zu_sub (wc := [_, _, _, _, _, _, _, _, _, _, _, _, _, _, _, _]) hP hD [true, true, true, true, true, true, true, true, true, true, true, true, true, true, true, true] rfl rfl
      rw [hQ9]
      exact W.zret (ty := .boolean) (v := 0) hx hb hr (rfl) (fun t ht hW => ⟨⟨congrArg (fun z => Outcome.returned (some (Value.int z))) (show (0 : Int32) = pI (lwA ft st tn kd mn cx cy f n (ox 0) (oy 0) MT WI IN (sWm (kd f).toInt on ox oy cx cy f)) from (zp_f (by unfold lwA; first | exact fun h => absurd h.1 (by first | with_reducible assumption | assumption) | exact fun h => absurd h.2.1 (by first | with_reducible assumption | assumption))).symm), (I0 31), q_2, T0, P0, Q0, by rw [ht]; exact hP9, hD9⟩, hS.F ht⟩) hS.2.2 dX11_isLawful_17
end
