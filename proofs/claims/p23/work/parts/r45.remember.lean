section
set_option maxHeartbeats 4000000 in
set_option maxRecDepth 100000 in
theorem k_M_remember (l : Launch) (dC : Nat → ClassId) (dI : Nat → Nat → Nat) (cI cZ cF : ClassId) (sz : Nat) (k0 : Nat) (a : Nat → Nat) (I0 : Nat → Int32) (J0 : Nat → Int64) (f : Nat) (n : Nat) (ft : Nat) (st : Nat → Int32) (tn : Nat → Int32) (kd : Nat → Int32) (mn : Nat → Int32) (cx : Nat → Int32) (cy : Nat → Int32) (S0 : Nat → Int32) (ox : Nat → Int32) (oy : Nat → Int32) (mt : Nat → Int32) (wi : Nat → Int32) (ins : Nat → Int32) (hft : I0 0 = nI ft) (h200 : ft ≤ 200) (hf_f : f ≤ 200) (hm_f : mn f = nI n) (hn_f : 1 ≤ n ∧ n ≤ 40) (hp_f : pls n (cF40 cx f) (cF40 cy f)) (hwf : ∀ q, lvF ft st tn q → q ≠ f → wfM mn cx cy q) : zM l yX11_remember cX11_remember 4 none ({ frames := 4, cells := 0, slots := 0, locals := 107 } : Room) [.ref k0, .int (nI f)] (dC, dI) (zTy cI cZ cF) [(om k0 a I0 J0), (oa (a 5) cI 201 st), (oa (a 6) cZ 201 tn), (oa (a 1) cI 201 kd), (oa (a 11) cI 201 mn), (oa (a 12) cI 8040 cx), (oa (a 13) cI 8040 cy), (oa (a 32) cI 8 S0), (oa (a 33) cI 42 ox), (oa (a 34) cI 42 oy), (oa (a 37) cZ 201 mt), (oa (a 38) cZ 201 wi), (oa (a 39) cZ 8040 ins)] sz none (fun A t => ∃ (S1 : Nat → Int32), ∃ (ox1 : Nat → Int32), ∃ (oy1 : Nat → Int32), ∃ (mt1 : Nat → Int32), ∃ (wi1 : Nat → Int32), ∃ (ins1 : Nat → Int32), (∀ j, j < n → ox1 j = cx (40 * f + j) ∧ oy1 j = cy (40 * f + j)) ∧ (∀ j, lvF ft st tn j → j ≠ f → mt1 j = pI (bMt kd mn cx cy f n j)) ∧ (∀ j, lvF ft st tn j → j ≠ f → wi1 j = pI (5 ≤ (kd j).toInt ∧ bWi kd mn cx cy f j)) ∧ (∀ j, lvF ft st tn j → j ≠ f → 5 ≤ (kd f).toInt → ∀ i, i < nN (mn j) → ins1 (40 * j + i) = pI (bIn kd cx cy f n j i)) ∧ zPD (dC, dI) classes A [(om k0 a (upd (upd I0 35 (nI n)) 36 (kd f)) J0), (oa (a 5) cI 201 st), (oa (a 6) cZ 201 tn), (oa (a 1) cI 201 kd), (oa (a 11) cI 201 mn), (oa (a 12) cI 8040 cx), (oa (a 13) cI 8040 cy), (oa (a 32) cI 8 S1), (oa (a 33) cI 42 ox1), (oa (a 34) cI 42 oy1), (oa (a 37) cZ 201 mt1), (oa (a 38) cZ 201 wi1), (oa (a 39) cZ 8040 ins1)] t.heap) 0 0 := by
  refine zIn (own := "ScaleShopModel") (loc := [(0, .ref k0), (1, .int (nI f))]) rfl rfl rfl rfl (fun p e s m below meth c hx hb hr hts hown hlocks hml hnm9 A hA hS hP hD hK hXN Q9 hQ9 ls hl => ?_)
  refine lv_aload_n hx hb dX11_remember_0 rfl (lv_at hl 0 rfl) ?_
  refine lv_aload_n hx hb dX11_remember_1 rfl (lv_at hl 0 rfl) ?_
  refine va_get (D := (dC, dI)) (ci := 9) (v := .ref (a 11)) (C := RX11) (T := TX11) (N := 55) hx hb hts inX11 hown hK hP 0 rfl rfl 11 (Nat.le_of_ble_eq_true rfl) (hts _ mw_1170) (fun _ h9 => h9) rfl dX11_remember_2 ?_
  refine lv_iload_n hx hb dX11_remember_5 rfl (lv_at hl 1 rfl) ?_
  have b9_1 : f < 201 := by omega
  refine z_iald hx hb hK hP 4 0 rfl rfl (e := f) rfl b9_1 (Nat.le_of_ble_eq_true rfl) dX11_remember_6 ?_
  refine zz_i (v := nI n) (hm_f) ?_
  refine va_put (D := (dC, dI)) (ci := 9) (v := .int (nI n)) (ty := .int) (C := RX11) (T := TX11) (N := 55) hx hb hts inX11 tyX11 tyX11_ok nmX11 hown hK hP hD hS 0 rfl rfl 35 (by decide) (hts _ mw_1194) (fun _ h9 => h9) rfl (by decide +kernel) rfl rfl (Nat.le_of_ble_eq_true rfl) dX11_remember_7 (fun H locs hP hD hS => ?_)
  obtain ⟨hP, hD⟩ := zre (W2 := [(om k0 a (upd I0 35 (nI n)) J0), _, _, _, _, _, _, _, _, _, _, _, _]) hP hD rfl
  refine lv_aload_n hx hb dX11_remember_10 rfl (lv_at hl 0 rfl) ?_
  refine lv_aload_n hx hb dX11_remember_11 rfl (lv_at hl 0 rfl) ?_
  refine va_get (D := (dC, dI)) (ci := 9) (v := .ref (a 1)) (C := RX11) (T := TX11) (N := 55) hx hb hts inX11 hown hK hP 0 rfl rfl 1 (Nat.le_of_ble_eq_true rfl) (hts _ mw_1160) (fun _ h9 => h9) rfl dX11_remember_12 ?_
  refine lv_iload_n hx hb dX11_remember_15 rfl (lv_at hl 1 rfl) ?_
  refine z_iald hx hb hK hP 3 0 rfl rfl (e := f) rfl b9_1 (Nat.le_of_ble_eq_true rfl) dX11_remember_16 ?_
  refine va_put (D := (dC, dI)) (ci := 9) (v := .int (kd f)) (ty := .int) (C := RX11) (T := TX11) (N := 55) hx hb hts inX11 tyX11 tyX11_ok nmX11 hown hK hP hD hS 0 rfl rfl 36 (by decide) (hts _ mw_1195) (fun _ h9 => h9) rfl (by decide +kernel) rfl rfl (Nat.le_of_ble_eq_true rfl) dX11_remember_17 (fun H locs hP hD hS => ?_)
  obtain ⟨hP, hD⟩ := zre (W2 := [(om k0 a (upd (upd I0 35 (nI n)) 36 (kd f)) J0), _, _, _, _, _, _, _, _, _, _, _, _]) hP hD rfl
  refine lv_iconst (v := 0) hx hb dX11_remember_20 rfl ?_
  refine lv_istore_n (lv' := [(2, .int 0), (0, .ref k0), (1, .int (nI f))]) hx hb dX11_remember_21 rfl hl (Nat.le_of_ble_eq_true rfl) rfl (fun ls hl => ?_)
  have hl_22 : ∀ (n9 : Nat) (k : Nat) (ox1 : Nat → Int32) (oy1 : Nat → Int32) (H : Heap) (locs : List Loc) (ls : Array Slot), n - k < n9 → (k ≤ n) → (∀ j, j < k → ox1 j = cx (40 * f + j) ∧ oy1 j = cy (40 * f + j)) → va_P (dC, dI) classes [(om k0 a (upd (upd I0 35 (nI n)) 36 (kd f)) J0), (oa (a 5) cI 201 st), (oa (a 6) cZ 201 tn), (oa (a 1) cI 201 kd), (oa (a 11) cI 201 mn), (oa (a 12) cI 8040 cx), (oa (a 13) cI 8040 cy), (oa (a 32) cI 8 S0), (oa (a 33) cI 42 ox1), (oa (a 34) cI 42 oy1), (oa (a 37) cZ 201 mt), (oa (a 38) cZ 201 wi), (oa (a 39) cZ 8040 ins)] H → va_D A [(om k0 a (upd (upd I0 35 (nI n)) 36 (kd f)) J0), (oa (a 5) cI 201 st), (oa (a 6) cZ 201 tn), (oa (a 1) cI 201 kd), (oa (a 11) cI 201 mn), (oa (a 12) cI 8040 cx), (oa (a 13) cI 8040 cy), (oa (a 32) cI 8 S0), (oa (a 33) cI 42 ox1), (oa (a 34) cI 42 oy1), (oa (a 37) cZ 201 mt), (oa (a 38) cZ 201 wi), (oa (a 39) cZ 8040 ins)] → va_S A s.heap H locs → lv_has ls 4 [(2, .int (nI k)), (0, .ref k0), (1, .int (nI f))] → W p l e ({ frames := 4, cells := 0, slots := 0, locals := 107 } : Room) s m ([.ref k0, .int (nI f)] : List Value).toArray below meth c H locs 0 0 Q9 (F0 m 22 ls []) := by
    intro n9
    induction n9 with
    | zero => intro k ox1 oy1 H locs ls hm; exact absurd hm (Nat.not_lt_zero _)
    | succ n9 ih_22 =>
      intro k ox1 oy1 H locs ls hm hk hox hP hD hS hl
      refine lv_iload_n hx hb dX11_remember_22 rfl (lv_at hl 0 rfl) ?_
      refine lv_aload_n hx hb dX11_remember_23 rfl (lv_at hl 1 rfl) ?_
      refine va_get (D := (dC, dI)) (ci := 9) (v := .int (nI n)) (C := RX11) (T := TX11) (N := 55) hx hb hts inX11 hown hK hP 0 rfl rfl 35 (Nat.le_of_ble_eq_true rfl) (hts _ mw_1194) (fun _ h9 => h9) rfl dX11_remember_24 ?_
      have b9_3 : zlt (k) := show k < 2147483648 by omega
      have b9_4 : zlt (n) := show n < 2147483648 by omega
      refine lv_icmp_ge (tgt := 70) hx hb dX11_remember_27 rfl (fun c_2 => ?_) (fun c_2 => ?_)
      · have c_2 : ((n : Nat) : Int) ≤ ((k : Nat) : Int) := zc_le (nI_toInt b9_4) (nI_toInt b9_3) c_2
        have hkn : k = n := (by omega)
        rw [hkn] at hox
        clear hkn
        refine lv_iconst (v := 0) hx hb dX11_remember_70 rfl ?_
        refine lv_istore_n (lv' := [(2, .int 0), (0, .ref k0), (1, .int (nI f))]) hx hb dX11_remember_71 rfl hl (Nat.le_of_ble_eq_true rfl) rfl (fun ls hl => ?_)
        have hl_72 : ∀ (n9 : Nat) (q : Nat) (S1 : Nat → Int32) (mt1 : Nat → Int32) (wi1 : Nat → Int32) (ins1 : Nat → Int32) (H : Heap) (locs : List Loc) (ls : Array Slot), ft - q < n9 → (q ≤ ft) → (∀ j, j < q → lvF ft st tn j → j ≠ f → mt1 j = pI (bMt kd mn cx cy f n j)) → (∀ j, j < q → lvF ft st tn j → j ≠ f → wi1 j = pI (5 ≤ (kd j).toInt ∧ bWi kd mn cx cy f j)) → (∀ j, j < q → lvF ft st tn j → j ≠ f → 5 ≤ (kd f).toInt → ∀ i, i < nN (mn j) → ins1 (40 * j + i) = pI (bIn kd cx cy f n j i)) → va_P (dC, dI) classes [(om k0 a (upd (upd I0 35 (nI n)) 36 (kd f)) J0), (oa (a 5) cI 201 st), (oa (a 6) cZ 201 tn), (oa (a 1) cI 201 kd), (oa (a 11) cI 201 mn), (oa (a 12) cI 8040 cx), (oa (a 13) cI 8040 cy), (oa (a 32) cI 8 S1), (oa (a 33) cI 42 ox1), (oa (a 34) cI 42 oy1), (oa (a 37) cZ 201 mt1), (oa (a 38) cZ 201 wi1), (oa (a 39) cZ 8040 ins1)] H → va_D A [(om k0 a (upd (upd I0 35 (nI n)) 36 (kd f)) J0), (oa (a 5) cI 201 st), (oa (a 6) cZ 201 tn), (oa (a 1) cI 201 kd), (oa (a 11) cI 201 mn), (oa (a 12) cI 8040 cx), (oa (a 13) cI 8040 cy), (oa (a 32) cI 8 S1), (oa (a 33) cI 42 ox1), (oa (a 34) cI 42 oy1), (oa (a 37) cZ 201 mt1), (oa (a 38) cZ 201 wi1), (oa (a 39) cZ 8040 ins1)] → va_S A s.heap H locs → lv_has ls 4 [(2, .int (nI q)), (0, .ref k0), (1, .int (nI f))] → W p l e ({ frames := 4, cells := 0, slots := 0, locals := 107 } : Room) s m ([.ref k0, .int (nI f)] : List Value).toArray below meth c H locs 0 0 Q9 (F0 m 72 ls []) := by
          intro n9
          induction n9 with
          | zero => intro q S1 mt1 wi1 ins1 H locs ls hm; exact absurd hm (Nat.not_lt_zero _)
          | succ n9 ih_72 =>
            intro q S1 mt1 wi1 ins1 H locs ls hm hq hmt hwi hin hP hD hS hl
            refine lv_iload_n hx hb dX11_remember_72 rfl (lv_at hl 0 rfl) ?_
            refine lv_aload_n hx hb dX11_remember_73 rfl (lv_at hl 1 rfl) ?_
            refine va_get (D := (dC, dI)) (ci := 9) (v := .int (I0 0)) (C := RX11) (T := TX11) (N := 55) hx hb hts inX11 hown hK hP 0 rfl rfl 0 (Nat.le_of_ble_eq_true rfl) (hts _ mw_1159) (fun _ h9 => h9) rfl dX11_remember_74 ?_
            refine zz_i (v := nI ft) (hft) ?_
            have b9_6 : zlt (q) := show q < 2147483648 by omega
            have b9_7 : zlt (ft) := show ft < 2147483648 by omega
            refine lv_icmp_ge (tgt := 217) hx hb dX11_remember_77 rfl (fun c_5 => ?_) (fun c_5 => ?_)
            · have c_5 : ((ft : Nat) : Int) ≤ ((q : Nat) : Int) := zc_le (nI_toInt b9_7) (nI_toInt b9_6) c_5
              obtain ⟨hP9, hD9⟩ := zu_sub (wc := [_, _, _, _, _, _, _, _, _, _, _, _, _]) hP hD [true, true, true, true, true, true, true, true, true, true, true, true, true] rfl rfl
              rw [hQ9]
              exact W.vret hx hb hr (fun t ht hW => ⟨⟨rfl, S1, ox1, oy1, mt1, wi1, ins1, (fun j hj => hox j hj), (fun j h1 h2 => hmt j (by omega) h1 h2), (fun j h1 h2 => hwi j (by omega) h1 h2), (fun j h1 h2 => hin j (by omega) h1 h2), by rw [ht]; exact hP9, hD9⟩, hS.F ht⟩) hS.2.2 dX11_remember_217
            · have c_5 : ((q : Nat) : Int) < ((ft : Nat) : Int) := zc_nle (nI_toInt b9_7) (nI_toInt b9_6) c_5
              refine lv_iload_n hx hb dX11_remember_80 rfl (lv_at hl 0 rfl) ?_
              refine lv_iload_n hx hb dX11_remember_81 rfl (lv_at hl 2 rfl) ?_
              have b9_9 : zlt (f) := show f < 2147483648 by omega
              refine lv_icmp_eq (tgt := 211) hx hb dX11_remember_82 rfl (fun c_8 => ?_) (fun c_8 => ?_)
              · have c_8 : ((q : Nat) : Int) = ((f : Nat) : Int) := zc_eq (nI_toInt b9_6) (nI_toInt b9_9) c_8
                refine lv_iinc (v := nI (q + 1)) (lv' := [(2, .int (nI (q + 1))), (0, .ref k0), (1, .int (nI f))]) hx hb dX11_remember_211 hl (k := 0) rfl (nI_add q 1) (Nat.le_of_ble_eq_true rfl) rfl (fun ls hl => ?_)
                refine lv_goto (tgt := 72) hx hb dX11_remember_214 rfl ?_
                exact ih_72 (q + 1) S1 mt1 wi1 ins1 H locs ls (by first | with_reducible assumption | omega) (by first | with_reducible assumption | omega) (by intro j hj h1 h2; rcases Nat.lt_or_ge j q with h | h; (first | exact hmt j h h1 h2 | (simp only [upd, if_neg (show j ≠ q by omega)]; exact hmt j h h1 h2)); obtain rfl : j = q := (by first | with_reducible assumption | omega); first | (exfalso; omega) | exact absurd h1 (by first | with_reducible assumption | assumption) | (simp only [upd, if_true])) (by intro j hj h1 h2; rcases Nat.lt_or_ge j q with h | h; (first | exact hwi j h h1 h2 | (simp only [upd, if_neg (show j ≠ q by omega)]; exact hwi j h h1 h2)); obtain rfl : j = q := (by first | with_reducible assumption | omega); first | (exfalso; omega) | exact absurd h1 (by first | with_reducible assumption | assumption) | (simp only [upd, if_true])) (by intro j hj h1 h2 h5 i hi; rcases Nat.lt_or_ge j q with h | h; (first | exact hin2 j h h1 h2 h5 i hi | exact hin j h h1 h2 h5 i hi); obtain rfl : j = q := (by first | with_reducible assumption | omega); first | (exfalso; omega) | exact absurd h1 (by first | with_reducible assumption | assumption) | exact absurd h5 (by first | with_reducible assumption | assumption) | exact hin3 i (by first | with_reducible assumption | omega)) hP hD hS (lv_sub hl [0, 1, 2] rfl)
              · have c_8 : ¬ ((q : Nat) : Int) = ((f : Nat) : Int) := zc_ne (nI_toInt b9_6) (nI_toInt b9_9) c_8
                refine lv_aload_n hx hb dX11_remember_85 rfl (lv_at hl 1 rfl) ?_
                refine lv_iload_n hx hb dX11_remember_86 rfl (lv_at hl 0 rfl) ?_
                obtain ⟨hPc, hDc, hFc, hI1⟩ := zi_sub (wc := [_, _, _]) hP hD hS hA [0, 1, 2] rfl rfl
                refine zcall (st1 := [.int (pI (q < ft ∧ (st q).toInt = 1 ∧ (tn q).toInt = 0))]) (va_runV (As := [.int (nI q)]) (rest := []) ⟨hx, hb, hml, hown, hts⟩ (k_M_is_n l dC dI cI cZ cF H.size k0 a (upd (upd I0 35 (nI n)) 36 (kd f)) J0 q ft st tn (by first | with_reducible assumption | assumption) (by first | with_reducible assumption | omega) (by first | with_reducible assumption | omega)) (csV_179 hts rfl rfl ⟨Nat.le_of_ble_eq_true rfl, Nat.le_of_ble_eq_true rfl⟩) (zPV2 (q0 := 0) (ci := 9) hPc hDc hK hXN rfl rfl) rfl rfl hl.1 rfl (lv_room (Nat.le_of_ble_eq_true rfl)) dX11_remember_87 ⟨Nat.le_of_ble_eq_true rfl, Nat.le_of_ble_eq_true rfl⟩) hS hFc hFc rfl (fun t H locs ht hB hk1 hS => ?_)
                obtain ⟨hP1, hD1⟩ := hB
                rw [ht] at hP1
                replace hP := z0 hP hD hk1 hP1 hI1
                clear hk1 hPc hDc hFc hP1 hD1 ht hI1
                refine lv_if_ne (tgt := 96) hx hb dX11_remember_90 rfl (fun c_10 => ?_) (fun c_10 => ?_)
                · have c_10 : q < ft ∧ (st q).toInt = 1 ∧ (tn q).toInt = 0 := zp_1 c_10
                  have hw9 := hwf q (by first | with_reducible assumption | assumption) (by omega)
                  have hm9 := hw9.1
                  have hn9 := hw9.2.1
                  have hp9 := hw9.2.2
                  refine lv_aload_n hx hb dX11_remember_96 rfl (lv_at hl 1 rfl) ?_
                  refine va_get (D := (dC, dI)) (ci := 9) (v := .ref (a 37)) (C := RX11) (T := TX11) (N := 55) hx hb hts inX11 hown hK hP 0 rfl rfl 37 (Nat.le_of_ble_eq_true rfl) (hts _ mw_1196) (fun _ h9 => h9) rfl dX11_remember_97 ?_
                  refine lv_iload_n hx hb dX11_remember_100 rfl (lv_at hl 0 rfl) ?_
                  refine lv_aload_n hx hb dX11_remember_101 rfl (lv_at hl 1 rfl) ?_
                  refine lv_iload_n hx hb dX11_remember_102 rfl (lv_at hl 2 rfl) ?_
                  refine lv_iload_n hx hb dX11_remember_103 rfl (lv_at hl 0 rfl) ?_
                  obtain ⟨hPc, hDc, hFc⟩ := zo_sub (wc := [_, _, _, _, _, _]) hP hD hS hA [0, 3, 4, 5, 6, 7] (by decide +kernel) rfl
                  refine zcall (st1 := [.int (pI (∃ i, i < eO (kd f).toInt n ∧ ∃ j, j < eO (kd q).toInt (nN (mn q)) ∧ eMt n (cF40 cx f) (cF40 cy f) i (nN (mn q)) (cF40 cx q) (cF40 cy q) j)), .int (nI q), .ref (a 37)]) (va_runV (As := [.int (nI f), .int (nI q)]) (rest := [.int (nI q), .ref (a 37)]) ⟨hx, hb, hml, hown, hts⟩ (k_M_isMet l dC dI cI cZ cF H.size k0 a (upd (upd I0 35 (nI n)) 36 (kd f)) J0 f n q (nN (mn q)) kd mn cx cy S1 (by first | with_reducible assumption | omega) (by first | with_reducible assumption | assumption) (by first | with_reducible assumption | omega) (by first | with_reducible assumption | assumption) (by first | with_reducible assumption | omega) (by first | with_reducible assumption | assumption) (by first | with_reducible assumption | omega) (by first | with_reducible assumption | assumption)) (csV_180 hts rfl rfl ⟨Nat.le_of_ble_eq_true rfl, Nat.le_of_ble_eq_true rfl⟩) (zPV2 (q0 := 0) (ci := 9) hPc hDc hK hXN rfl rfl) rfl rfl hl.1 rfl (lv_room (Nat.le_of_ble_eq_true rfl)) dX11_remember_104 ⟨Nat.le_of_ble_eq_true rfl, Nat.le_of_ble_eq_true rfl⟩) hS hFc hFc rfl (fun t H locs ht hB hk1 hS => ?_)
                  obtain ⟨q_11, hP1, hD1⟩ := hB
                  rw [ht] at hP1
                  obtain ⟨hP, hD⟩ := zn (W2 := [_, _, _, _, _, _, _, (oa (a 32) cI 8 q_11), _, _, _, _, _]) hP hD hk1 hFc hP1 hD1 [0, 3, 4, 5, 6, 7] zl_153 zl_153 [0, 3, 4, 5, 6, 7] (by decide +kernel) rfl rfl rfl rfl rfl
                  clear hk1 hPc hDc hFc hP1 hD1 ht
                  refine zz_i (v := pI (bMt kd mn cx cy f n q)) (rfl) ?_
                  have b9_12 : q < 201 := by omega
                  refine z_zast hx hb hK hP hD hS 10 1 rfl rfl (e := q) (x := pI (bMt kd mn cx cy f n q)) rfl b9_12 (Nat.le_of_ble_eq_true rfl) (zp_and _) dX11_remember_107 (fun H locs hP hD hS => ?_)
                  obtain ⟨hP, hD⟩ := zre (W2 := [_, _, _, _, _, _, _, _, _, _, (oa (a 37) cZ 201 (upd mt1 q (pI (bMt kd mn cx cy f n q)))), _, _]) hP hD rfl
                  refine lv_aload_n hx hb dX11_remember_108 rfl (lv_at hl 1 rfl) ?_
                  refine va_get (D := (dC, dI)) (ci := 9) (v := .ref (a 38)) (C := RX11) (T := TX11) (N := 55) hx hb hts inX11 hown hK hP 0 rfl rfl 38 (Nat.le_of_ble_eq_true rfl) (hts _ mw_1197) (fun _ h9 => h9) rfl dX11_remember_109 ?_
                  refine lv_iload_n hx hb dX11_remember_112 rfl (lv_at hl 0 rfl) ?_
                  refine lv_aload_n hx hb dX11_remember_113 rfl (lv_at hl 1 rfl) ?_
                  refine lv_iload_n hx hb dX11_remember_114 rfl (lv_at hl 0 rfl) ?_
                  obtain ⟨hPc, hDc, hFc, hI1⟩ := zi_sub (wc := [_, _]) hP hD hS hA [0, 3] rfl rfl
                  refine zcall (st1 := [.int (pI (5 ≤ (kd q).toInt)), .int (nI q), .ref (a 38)]) (va_runV (As := [.int (nI q)]) (rest := [.int (nI q), .ref (a 38)]) ⟨hx, hb, hml, hown, hts⟩ (k_M_isRing l dC dI cI cZ cF H.size k0 a (upd (upd I0 35 (nI n)) 36 (kd f)) J0 q kd (by first | with_reducible assumption | omega)) (csV_165 hts rfl rfl ⟨Nat.le_of_ble_eq_true rfl, Nat.le_of_ble_eq_true rfl⟩) (zPV2 (q0 := 0) (ci := 9) hPc hDc hK hXN rfl rfl) rfl rfl hl.1 rfl (lv_room (Nat.le_of_ble_eq_true rfl)) dX11_remember_115 ⟨Nat.le_of_ble_eq_true rfl, Nat.le_of_ble_eq_true rfl⟩) hS hFc hFc rfl (fun t H locs ht hB hk1 hS => ?_)
                  obtain ⟨hP1, hD1⟩ := hB
                  rw [ht] at hP1
                  replace hP := z0 hP hD hk1 hP1 hI1
                  clear hk1 hPc hDc hFc hP1 hD1 ht hI1
                  refine lv_if_eq (tgt := 145) hx hb dX11_remember_118 rfl (fun c_13 => ?_) (fun c_13 => ?_)
                  · have c_13 : ¬ (5 ≤ (kd q).toInt) := zp_0 c_13
                    refine lv_iconst (v := 0) hx hb dX11_remember_145 rfl ?_
                    refine zz_i (v := pI (5 ≤ (kd q).toInt ∧ bWi kd mn cx cy f q)) (by first | exact (zp_t ⟨by assumption, by assumption⟩).symm | exact (zp_f (fun h => absurd h.1 (by first | with_reducible assumption | assumption))).symm | exact (zp_f (fun h => absurd h.2 (by first | with_reducible assumption | assumption))).symm) ?_
                    refine z_zast hx hb hK hP hD hS 11 1 rfl rfl (e := q) (x := pI (5 ≤ (kd q).toInt ∧ bWi kd mn cx cy f q)) rfl b9_12 (Nat.le_of_ble_eq_true rfl) (zp_and _) dX11_remember_146 (fun H locs hP hD hS => ?_)
                    obtain ⟨hP, hD⟩ := zre (W2 := [_, _, _, _, _, _, _, _, _, _, _, (oa (a 38) cZ 201 (upd wi1 q (pI (5 ≤ (kd q).toInt ∧ bWi kd mn cx cy f q)))), _]) hP hD rfl
                    refine lv_iconst (v := 0) hx hb dX11_remember_147 rfl ?_
                    refine lv_istore_n (lv' := [(3, .int 0), (2, .int (nI q)), (0, .ref k0), (1, .int (nI f))]) hx hb dX11_remember_148 rfl hl (Nat.le_of_ble_eq_true rfl) rfl (fun ls hl => ?_)
                    have hl_149 : ∀ (n9 : Nat) (k : Nat) (S2 : Nat → Int32) (ins2 : Nat → Int32) (H : Heap) (locs : List Loc) (ls : Array Slot), nN (mn q) - k < n9 → (k ≤ nN (mn q)) → (∀ j, j < q → lvF ft st tn j → j ≠ f → 5 ≤ (kd f).toInt → ∀ i, i < nN (mn j) → ins2 (40 * j + i) = pI (bIn kd cx cy f n j i)) → (∀ i, i < k → ins2 (40 * q + i) = pI (bIn kd cx cy f n q i)) → va_P (dC, dI) classes [(om k0 a (upd (upd I0 35 (nI n)) 36 (kd f)) J0), (oa (a 5) cI 201 st), (oa (a 6) cZ 201 tn), (oa (a 1) cI 201 kd), (oa (a 11) cI 201 mn), (oa (a 12) cI 8040 cx), (oa (a 13) cI 8040 cy), (oa (a 32) cI 8 S2), (oa (a 33) cI 42 ox1), (oa (a 34) cI 42 oy1), (oa (a 37) cZ 201 (upd mt1 q (pI (bMt kd mn cx cy f n q)))), (oa (a 38) cZ 201 (upd wi1 q (pI (5 ≤ (kd q).toInt ∧ bWi kd mn cx cy f q)))), (oa (a 39) cZ 8040 ins2)] H → va_D A [(om k0 a (upd (upd I0 35 (nI n)) 36 (kd f)) J0), (oa (a 5) cI 201 st), (oa (a 6) cZ 201 tn), (oa (a 1) cI 201 kd), (oa (a 11) cI 201 mn), (oa (a 12) cI 8040 cx), (oa (a 13) cI 8040 cy), (oa (a 32) cI 8 S2), (oa (a 33) cI 42 ox1), (oa (a 34) cI 42 oy1), (oa (a 37) cZ 201 (upd mt1 q (pI (bMt kd mn cx cy f n q)))), (oa (a 38) cZ 201 (upd wi1 q (pI (5 ≤ (kd q).toInt ∧ bWi kd mn cx cy f q)))), (oa (a 39) cZ 8040 ins2)] → va_S A s.heap H locs → lv_has ls 4 [(3, .int (nI k)), (2, .int (nI q)), (0, .ref k0), (1, .int (nI f))] → W p l e ({ frames := 4, cells := 0, slots := 0, locals := 107 } : Room) s m ([.ref k0, .int (nI f)] : List Value).toArray below meth c H locs 0 0 Q9 (F0 m 149 ls []) := by
                      intro n9
                      induction n9 with
                      | zero => intro k S2 ins2 H locs ls hm; exact absurd hm (Nat.not_lt_zero _)
                      | succ n9 ih_149 =>
                        intro k S2 ins2 H locs ls hm hk hin2 hin3 hP hD hS hl
                        refine lv_iload_n hx hb dX11_remember_149 rfl (lv_at hl 0 rfl) ?_
                        refine lv_aload_n hx hb dX11_remember_150 rfl (lv_at hl 2 rfl) ?_
                        refine va_get (D := (dC, dI)) (ci := 9) (v := .ref (a 11)) (C := RX11) (T := TX11) (N := 55) hx hb hts inX11 hown hK hP 0 rfl rfl 11 (Nat.le_of_ble_eq_true rfl) (hts _ mw_1170) (fun _ h9 => h9) rfl dX11_remember_151 ?_
                        refine lv_iload_n hx hb dX11_remember_154 rfl (lv_at hl 1 rfl) ?_
                        refine z_iald hx hb hK hP 4 0 rfl rfl (e := q) rfl b9_12 (Nat.le_of_ble_eq_true rfl) dX11_remember_155 ?_
                        refine zz_i (v := nI (nN (mn q))) (hm9) ?_
                        have b9_15 : zlt (k) := show k < 2147483648 by omega
                        have b9_16 : zlt ((nN (mn q))) := show (nN (mn q)) < 2147483648 by omega
                        refine lv_icmp_ge (tgt := 211) hx hb dX11_remember_156 rfl (fun c_14 => ?_) (fun c_14 => ?_)
                        · have c_14 : ((nN (mn q) : Nat) : Int) ≤ ((k : Nat) : Int) := zc_le (nI_toInt b9_16) (nI_toInt b9_15) c_14
                          refine lv_iinc (v := nI (q + 1)) (lv' := [(2, .int (nI (q + 1))), (3, .int (nI k)), (0, .ref k0), (1, .int (nI f))]) hx hb dX11_remember_211 hl (k := 1) rfl (nI_add q 1) (Nat.le_of_ble_eq_true rfl) rfl (fun ls hl => ?_)
                          refine lv_goto (tgt := 72) hx hb dX11_remember_214 rfl ?_
                          exact ih_72 (q + 1) S2 (upd mt1 q (pI (bMt kd mn cx cy f n q))) (upd wi1 q (pI (5 ≤ (kd q).toInt ∧ bWi kd mn cx cy f q))) ins2 H locs ls (by first | with_reducible assumption | omega) (by first | with_reducible assumption | omega) (by intro j hj h1 h2; rcases Nat.lt_or_ge j q with h | h; (first | exact hmt j h h1 h2 | (simp only [upd, if_neg (show j ≠ q by omega)]; exact hmt j h h1 h2)); obtain rfl : j = q := (by first | with_reducible assumption | omega); first | (exfalso; omega) | exact absurd h1 (by first | with_reducible assumption | assumption) | (simp only [upd, if_true])) (by intro j hj h1 h2; rcases Nat.lt_or_ge j q with h | h; (first | exact hwi j h h1 h2 | (simp only [upd, if_neg (show j ≠ q by omega)]; exact hwi j h h1 h2)); obtain rfl : j = q := (by first | with_reducible assumption | omega); first | (exfalso; omega) | exact absurd h1 (by first | with_reducible assumption | assumption) | (simp only [upd, if_true])) (by intro j hj h1 h2 h5 i hi; rcases Nat.lt_or_ge j q with h | h; (first | exact hin2 j h h1 h2 h5 i hi | exact hin j h h1 h2 h5 i hi); obtain rfl : j = q := (by first | with_reducible assumption | omega); first | (exfalso; omega) | exact absurd h1 (by first | with_reducible assumption | assumption) | exact absurd h5 (by first | with_reducible assumption | assumption) | exact hin3 i (by first | with_reducible assumption | omega)) hP hD hS (lv_sub hl [0, 2, 3] rfl)
                        · have c_14 : ((k : Nat) : Int) < ((nN (mn q) : Nat) : Int) := zc_nle (nI_toInt b9_16) (nI_toInt b9_15) c_14
                          have hk9 : k < nN (mn q) := (by omega)
                          refine lv_aload_n hx hb dX11_remember_159 rfl (lv_at hl 2 rfl) ?_
                          refine lv_iload_n hx hb dX11_remember_160 rfl (lv_at hl 3 rfl) ?_
                          obtain ⟨hPc, hDc, hFc, hI1⟩ := zi_sub (wc := [_, _]) hP hD hS hA [0, 3] rfl rfl
                          refine zcall (st1 := [.int (pI (5 ≤ (kd f).toInt))]) (va_runV (As := [.int (nI f)]) (rest := []) ⟨hx, hb, hml, hown, hts⟩ (k_M_isRing l dC dI cI cZ cF H.size k0 a (upd (upd I0 35 (nI n)) 36 (kd f)) J0 f kd (by first | with_reducible assumption | omega)) (csV_165 hts rfl rfl ⟨Nat.le_of_ble_eq_true rfl, Nat.le_of_ble_eq_true rfl⟩) (zPV2 (q0 := 0) (ci := 9) hPc hDc hK hXN rfl rfl) rfl rfl hl.1 rfl (lv_room (Nat.le_of_ble_eq_true rfl)) dX11_remember_161 ⟨Nat.le_of_ble_eq_true rfl, Nat.le_of_ble_eq_true rfl⟩) hS hFc hFc rfl (fun t H locs ht hB hk1 hS => ?_)
                          obtain ⟨hP1, hD1⟩ := hB
                          rw [ht] at hP1
                          replace hP := z0 hP hD hk1 hP1 hI1
                          clear hk1 hPc hDc hFc hP1 hD1 ht hI1
                          refine lv_if_eq (tgt := 211) hx hb dX11_remember_164 rfl (fun c_17 => ?_) (fun c_17 => ?_)
                          · have c_17 : ¬ (5 ≤ (kd f).toInt) := zp_0 c_17
                            refine lv_iinc (v := nI (q + 1)) (lv' := [(2, .int (nI (q + 1))), (3, .int (nI k)), (0, .ref k0), (1, .int (nI f))]) hx hb dX11_remember_211 hl (k := 1) rfl (nI_add q 1) (Nat.le_of_ble_eq_true rfl) rfl (fun ls hl => ?_)
                            refine lv_goto (tgt := 72) hx hb dX11_remember_214 rfl ?_
                            exact ih_72 (q + 1) S2 (upd mt1 q (pI (bMt kd mn cx cy f n q))) (upd wi1 q (pI (5 ≤ (kd q).toInt ∧ bWi kd mn cx cy f q))) ins2 H locs ls (by first | with_reducible assumption | omega) (by first | with_reducible assumption | omega) (by intro j hj h1 h2; rcases Nat.lt_or_ge j q with h | h; (first | exact hmt j h h1 h2 | (simp only [upd, if_neg (show j ≠ q by omega)]; exact hmt j h h1 h2)); obtain rfl : j = q := (by first | with_reducible assumption | omega); first | (exfalso; omega) | exact absurd h1 (by first | with_reducible assumption | assumption) | (simp only [upd, if_true])) (by intro j hj h1 h2; rcases Nat.lt_or_ge j q with h | h; (first | exact hwi j h h1 h2 | (simp only [upd, if_neg (show j ≠ q by omega)]; exact hwi j h h1 h2)); obtain rfl : j = q := (by first | with_reducible assumption | omega); first | (exfalso; omega) | exact absurd h1 (by first | with_reducible assumption | assumption) | (simp only [upd, if_true])) (by intro j hj h1 h2 h5 i hi; rcases Nat.lt_or_ge j q with h | h; (first | exact hin2 j h h1 h2 h5 i hi | exact hin j h h1 h2 h5 i hi); obtain rfl : j = q := (by first | with_reducible assumption | omega); first | (exfalso; omega) | exact absurd h1 (by first | with_reducible assumption | assumption) | exact absurd h5 (by first | with_reducible assumption | assumption) | exact hin3 i (by first | with_reducible assumption | omega)) hP hD hS (lv_sub hl [0, 2, 3] rfl)
                          · have c_17 : 5 ≤ (kd f).toInt := zp_1 c_17
                            refine lv_aload_n hx hb dX11_remember_167 rfl (lv_at hl 2 rfl) ?_
                            refine va_get (D := (dC, dI)) (ci := 9) (v := .ref (a 39)) (C := RX11) (T := TX11) (N := 55) hx hb hts inX11 hown hK hP 0 rfl rfl 39 (Nat.le_of_ble_eq_true rfl) (hts _ mw_1198) (fun _ h9 => h9) rfl dX11_remember_168 ?_
                            refine lv_bipush (v := 40) hx hb dX11_remember_171 rfl ?_
                            refine lv_iload_n hx hb dX11_remember_173 rfl (lv_at hl 1 rfl) ?_
                            refine lv_imul hx hb dX11_remember_174 ?_
                            refine zz_i (v := nI (40 * q)) (pk_mul 40 q) ?_
                            refine lv_iload_n hx hb dX11_remember_175 rfl (lv_at hl 0 rfl) ?_
                            refine lv_iadd hx hb dX11_remember_176 ?_
                            refine zz_i (v := nI (40 * q + k)) (nI_add (40 * q) k) ?_
                            refine lv_aload_n hx hb dX11_remember_177 rfl (lv_at hl 2 rfl) ?_
                            refine lv_iload_n hx hb dX11_remember_178 rfl (lv_at hl 3 rfl) ?_
                            refine lv_aload_n hx hb dX11_remember_179 rfl (lv_at hl 2 rfl) ?_
                            refine va_get (D := (dC, dI)) (ci := 9) (v := .ref (a 12)) (C := RX11) (T := TX11) (N := 55) hx hb hts inX11 hown hK hP 0 rfl rfl 12 (Nat.le_of_ble_eq_true rfl) (hts _ mw_1171) (fun _ h9 => h9) rfl dX11_remember_180 ?_
                            refine lv_bipush (v := 40) hx hb dX11_remember_183 rfl ?_
                            refine lv_iload_n hx hb dX11_remember_185 rfl (lv_at hl 1 rfl) ?_
                            refine lv_imul hx hb dX11_remember_186 ?_
                            refine zz_i (v := nI (40 * q)) (pk_mul 40 q) ?_
                            refine lv_iload_n hx hb dX11_remember_187 rfl (lv_at hl 0 rfl) ?_
                            refine lv_iadd hx hb dX11_remember_188 ?_
                            refine zz_i (v := nI (40 * q + k)) (nI_add (40 * q) k) ?_
                            have b9_18 : 40 * q + k < 8040 := by omega
                            refine z_iald hx hb hK hP 5 0 rfl rfl (e := 40 * q + k) rfl b9_18 (Nat.le_of_ble_eq_true rfl) dX11_remember_189 ?_
                            refine lv_aload_n hx hb dX11_remember_190 rfl (lv_at hl 2 rfl) ?_
                            refine va_get (D := (dC, dI)) (ci := 9) (v := .ref (a 13)) (C := RX11) (T := TX11) (N := 55) hx hb hts inX11 hown hK hP 0 rfl rfl 13 (Nat.le_of_ble_eq_true rfl) (hts _ mw_1172) (fun _ h9 => h9) rfl dX11_remember_191 ?_
                            refine lv_bipush (v := 40) hx hb dX11_remember_194 rfl ?_
                            refine lv_iload_n hx hb dX11_remember_196 rfl (lv_at hl 1 rfl) ?_
                            refine lv_imul hx hb dX11_remember_197 ?_
                            refine zz_i (v := nI (40 * q)) (pk_mul 40 q) ?_
                            refine lv_iload_n hx hb dX11_remember_198 rfl (lv_at hl 0 rfl) ?_
                            refine lv_iadd hx hb dX11_remember_199 ?_
                            refine zz_i (v := nI (40 * q + k)) (nI_add (40 * q) k) ?_
                            refine z_iald hx hb hK hP 6 0 rfl rfl (e := 40 * q + k) rfl b9_18 (Nat.le_of_ble_eq_true rfl) dX11_remember_200 ?_
                            obtain ⟨hPc, hDc, hFc⟩ := zo_sub (wc := [_, _, _, _, _, _]) hP hD hS hA [0, 3, 4, 5, 6, 7] (by decide +kernel) rfl
                            refine zcall (st1 := [.int (pI (¬ (∃ i, i < eO (kd f).toInt n ∧ eOn n (cF40 cx f) (cF40 cy f) i (cx (40 * q + k)).toInt (cy (40 * q + k)).toInt) ∧ par2 (eTg n (cF40 cx f) (cF40 cy f) (cx (40 * q + k)).toInt (cy (40 * q + k)).toInt) (eO (kd f).toInt n))), .int (nI (40 * q + k)), .ref (a 39)]) (va_runV (As := [.int (nI f), .int (cx (40 * q + k)), .int (cy (40 * q + k))]) (rest := [.int (nI (40 * q + k)), .ref (a 39)]) ⟨hx, hb, hml, hown, hts⟩ (k_M_isInside l dC dI cI cZ cF H.size k0 a (upd (upd I0 35 (nI n)) 36 (kd f)) J0 f n kd mn cx cy S2 (cx (40 * q + k)) (cy (40 * q + k)) (by first | with_reducible assumption | omega) (by first | with_reducible assumption | assumption) (by first | with_reducible assumption | omega) (by first | with_reducible assumption | assumption) ((hp9 k hk9).1) ((hp9 k hk9).2)) (csV_183 hts rfl rfl ⟨Nat.le_of_ble_eq_true rfl, Nat.le_of_ble_eq_true rfl⟩) (zPV2 (q0 := 0) (ci := 9) hPc hDc hK hXN rfl rfl) rfl rfl hl.1 rfl (lv_room (Nat.le_of_ble_eq_true rfl)) dX11_remember_201 ⟨Nat.le_of_ble_eq_true rfl, Nat.le_of_ble_eq_true rfl⟩) hS hFc hFc rfl (fun t H locs ht hB hk1 hS => ?_)
                            obtain ⟨q_19, hP1, hD1⟩ := hB
                            rw [ht] at hP1
                            obtain ⟨hP, hD⟩ := zn (W2 := [_, _, _, _, _, _, _, (oa (a 32) cI 8 q_19), _, _, _, _, _]) hP hD hk1 hFc hP1 hD1 [0, 3, 4, 5, 6, 7] zl_153 zl_153 [0, 3, 4, 5, 6, 7] (by decide +kernel) rfl rfl rfl rfl rfl
                            clear hk1 hPc hDc hFc hP1 hD1 ht
                            refine zz_i (v := pI (bIn kd cx cy f n q k)) (rfl) ?_
                            refine z_zast hx hb hK hP hD hS 12 1 rfl rfl (e := 40 * q + k) (x := pI (bIn kd cx cy f n q k)) rfl b9_18 (Nat.le_of_ble_eq_true rfl) (zp_and _) dX11_remember_204 (fun H locs hP hD hS => ?_)
                            obtain ⟨hP, hD⟩ := zre (W2 := [_, _, _, _, _, _, _, _, _, _, _, _, (oa (a 39) cZ 8040 (upd ins2 (40 * q + k) (pI (bIn kd cx cy f n q k))))]) hP hD rfl
                            refine lv_iinc (v := nI (k + 1)) (lv' := [(3, .int (nI (k + 1))), (2, .int (nI q)), (0, .ref k0), (1, .int (nI f))]) hx hb dX11_remember_205 hl (k := 0) rfl (nI_add k 1) (Nat.le_of_ble_eq_true rfl) rfl (fun ls hl => ?_)
                            refine lv_goto (tgt := 149) hx hb dX11_remember_208 rfl ?_
                            exact ih_149 (k + 1) q_19 (upd ins2 (40 * q + k) (pI (bIn kd cx cy f n q k))) H locs ls (by first | with_reducible assumption | omega) (by first | with_reducible assumption | omega) (by intro j hj h1 h2 h5 i hi; have h8 := (hwf j h1 h2).2.1; simp only [upd, if_neg (show 40 * j + i ≠ 40 * q + k by omega)]; exact hin2 j hj h1 h2 h5 i hi) (by intro i hi; rcases Nat.lt_or_ge i k with h | h; simp only [upd, if_neg (show 40 * q + i ≠ 40 * q + k by omega)]; exact hin3 i h; rw [show i = k by omega]; simp only [upd, if_true]) hP hD hS (lv_sub hl [0, 1, 2, 3] rfl)
                    exact hl_149 _ 0 q_11 ins1 H locs ls (Nat.lt_succ_self _) (by first | with_reducible assumption | omega) (by intro j hj h1 h2 h5 i hi; exact hin j hj h1 h2 h5 i hi) (by intro i hi; omega) hP hD hS (lv_sub hl [0, 1, 2, 3] rfl)
                  · have c_13 : 5 ≤ (kd q).toInt := zp_1 c_13
                    refine lv_aload_n hx hb dX11_remember_121 rfl (lv_at hl 1 rfl) ?_
                    refine lv_iload_n hx hb dX11_remember_122 rfl (lv_at hl 0 rfl) ?_
                    refine lv_aload_n hx hb dX11_remember_123 rfl (lv_at hl 1 rfl) ?_
                    refine va_get (D := (dC, dI)) (ci := 9) (v := .ref (a 33)) (C := RX11) (T := TX11) (N := 55) hx hb hts inX11 hown hK hP 0 rfl rfl 33 (Nat.le_of_ble_eq_true rfl) (hts _ mw_1192) (fun _ h9 => h9) rfl dX11_remember_124 ?_
                    refine lv_iconst (v := 0) hx hb dX11_remember_127 rfl ?_
                    refine z_iald hx hb hK hP 8 0 rfl rfl (e := 0) rfl (Nat.le_of_ble_eq_true rfl) (Nat.le_of_ble_eq_true rfl) dX11_remember_128 ?_
                    refine zz_i (v := cF40 cx f 0) ((hox 0 (by omega)).1) ?_
                    refine lv_aload_n hx hb dX11_remember_129 rfl (lv_at hl 1 rfl) ?_
                    refine va_get (D := (dC, dI)) (ci := 9) (v := .ref (a 34)) (C := RX11) (T := TX11) (N := 55) hx hb hts inX11 hown hK hP 0 rfl rfl 34 (Nat.le_of_ble_eq_true rfl) (hts _ mw_1193) (fun _ h9 => h9) rfl dX11_remember_130 ?_
                    refine lv_iconst (v := 0) hx hb dX11_remember_133 rfl ?_
                    refine z_iald hx hb hK hP 9 0 rfl rfl (e := 0) rfl (Nat.le_of_ble_eq_true rfl) (Nat.le_of_ble_eq_true rfl) dX11_remember_134 ?_
                    refine zz_i (v := cF40 cy f 0) ((hox 0 (by omega)).2) ?_
                    obtain ⟨hPc, hDc, hFc⟩ := zo_sub (wc := [_, _, _, _, _, _]) hP hD hS hA [0, 3, 4, 5, 6, 7] (by decide +kernel) rfl
                    refine zcall (st1 := [.int (pI (¬ (∃ i, i < eO (kd q).toInt (nN (mn q)) ∧ eOn (nN (mn q)) (cF40 cx q) (cF40 cy q) i (cF40 cx f 0).toInt (cF40 cy f 0).toInt) ∧ par2 (eTg (nN (mn q)) (cF40 cx q) (cF40 cy q) (cF40 cx f 0).toInt (cF40 cy f 0).toInt) (eO (kd q).toInt (nN (mn q))))), .int (nI q), .ref (a 38)]) (va_runV (As := [.int (nI q), .int (cF40 cx f 0), .int (cF40 cy f 0)]) (rest := [.int (nI q), .ref (a 38)]) ⟨hx, hb, hml, hown, hts⟩ (k_M_isInside l dC dI cI cZ cF H.size k0 a (upd (upd I0 35 (nI n)) 36 (kd f)) J0 q (nN (mn q)) kd mn cx cy q_11 (cF40 cx f 0) (cF40 cy f 0) (by first | with_reducible assumption | omega) (by first | with_reducible assumption | assumption) (by first | with_reducible assumption | omega) (by first | with_reducible assumption | assumption) ((hp_f 0 (by first | with_reducible assumption | omega)).1) ((hp_f 0 (by first | with_reducible assumption | omega)).2)) (csV_183 hts rfl rfl ⟨Nat.le_of_ble_eq_true rfl, Nat.le_of_ble_eq_true rfl⟩) (zPV2 (q0 := 0) (ci := 9) hPc hDc hK hXN rfl rfl) rfl rfl hl.1 rfl (lv_room (Nat.le_of_ble_eq_true rfl)) dX11_remember_135 ⟨Nat.le_of_ble_eq_true rfl, Nat.le_of_ble_eq_true rfl⟩) hS hFc hFc rfl (fun t H locs ht hB hk1 hS => ?_)
                    obtain ⟨q_20, hP1, hD1⟩ := hB
                    rw [ht] at hP1
                    obtain ⟨hP, hD⟩ := zn (W2 := [_, _, _, _, _, _, _, (oa (a 32) cI 8 q_20), _, _, _, _, _]) hP hD hk1 hFc hP1 hD1 [0, 3, 4, 5, 6, 7] zl_153 zl_153 [0, 3, 4, 5, 6, 7] (by decide +kernel) rfl rfl rfl rfl rfl
                    clear hk1 hPc hDc hFc hP1 hD1 ht
                    refine zz_i (v := pI (bWi kd mn cx cy f q)) (rfl) ?_
                    refine lv_if_eq (tgt := 145) hx hb dX11_remember_138 rfl (fun c_21 => ?_) (fun c_21 => ?_)
                    · have c_21 : ¬ (bWi kd mn cx cy f q) := zp_0 c_21
                      refine lv_iconst (v := 0) hx hb dX11_remember_145 rfl ?_
                      refine zz_i (v := pI (5 ≤ (kd q).toInt ∧ bWi kd mn cx cy f q)) (by first | exact (zp_t ⟨by assumption, by assumption⟩).symm | exact (zp_f (fun h => absurd h.1 (by first | with_reducible assumption | assumption))).symm | exact (zp_f (fun h => absurd h.2 (by first | with_reducible assumption | assumption))).symm) ?_
                      have b9_22 : q < 201 := by omega
                      refine z_zast hx hb hK hP hD hS 11 1 rfl rfl (e := q) (x := pI (5 ≤ (kd q).toInt ∧ bWi kd mn cx cy f q)) rfl b9_22 (Nat.le_of_ble_eq_true rfl) (zp_and _) dX11_remember_146 (fun H locs hP hD hS => ?_)
                      obtain ⟨hP, hD⟩ := zre (W2 := [_, _, _, _, _, _, _, _, _, _, _, (oa (a 38) cZ 201 (upd wi1 q (pI (5 ≤ (kd q).toInt ∧ bWi kd mn cx cy f q)))), _]) hP hD rfl
                      refine lv_iconst (v := 0) hx hb dX11_remember_147 rfl ?_
                      refine lv_istore_n (lv' := [(3, .int 0), (2, .int (nI q)), (0, .ref k0), (1, .int (nI f))]) hx hb dX11_remember_148 rfl hl (Nat.le_of_ble_eq_true rfl) rfl (fun ls hl => ?_)
                      have hl_149 : ∀ (n9 : Nat) (k : Nat) (S2 : Nat → Int32) (ins2 : Nat → Int32) (H : Heap) (locs : List Loc) (ls : Array Slot), nN (mn q) - k < n9 → (k ≤ nN (mn q)) → (∀ j, j < q → lvF ft st tn j → j ≠ f → 5 ≤ (kd f).toInt → ∀ i, i < nN (mn j) → ins2 (40 * j + i) = pI (bIn kd cx cy f n j i)) → (∀ i, i < k → ins2 (40 * q + i) = pI (bIn kd cx cy f n q i)) → va_P (dC, dI) classes [(om k0 a (upd (upd I0 35 (nI n)) 36 (kd f)) J0), (oa (a 5) cI 201 st), (oa (a 6) cZ 201 tn), (oa (a 1) cI 201 kd), (oa (a 11) cI 201 mn), (oa (a 12) cI 8040 cx), (oa (a 13) cI 8040 cy), (oa (a 32) cI 8 S2), (oa (a 33) cI 42 ox1), (oa (a 34) cI 42 oy1), (oa (a 37) cZ 201 (upd mt1 q (pI (bMt kd mn cx cy f n q)))), (oa (a 38) cZ 201 (upd wi1 q (pI (5 ≤ (kd q).toInt ∧ bWi kd mn cx cy f q)))), (oa (a 39) cZ 8040 ins2)] H → va_D A [(om k0 a (upd (upd I0 35 (nI n)) 36 (kd f)) J0), (oa (a 5) cI 201 st), (oa (a 6) cZ 201 tn), (oa (a 1) cI 201 kd), (oa (a 11) cI 201 mn), (oa (a 12) cI 8040 cx), (oa (a 13) cI 8040 cy), (oa (a 32) cI 8 S2), (oa (a 33) cI 42 ox1), (oa (a 34) cI 42 oy1), (oa (a 37) cZ 201 (upd mt1 q (pI (bMt kd mn cx cy f n q)))), (oa (a 38) cZ 201 (upd wi1 q (pI (5 ≤ (kd q).toInt ∧ bWi kd mn cx cy f q)))), (oa (a 39) cZ 8040 ins2)] → va_S A s.heap H locs → lv_has ls 4 [(3, .int (nI k)), (2, .int (nI q)), (0, .ref k0), (1, .int (nI f))] → W p l e ({ frames := 4, cells := 0, slots := 0, locals := 107 } : Room) s m ([.ref k0, .int (nI f)] : List Value).toArray below meth c H locs 0 0 Q9 (F0 m 149 ls []) := by
                        intro n9
                        induction n9 with
                        | zero => intro k S2 ins2 H locs ls hm; exact absurd hm (Nat.not_lt_zero _)
                        | succ n9 ih_149 =>
                          intro k S2 ins2 H locs ls hm hk hin2 hin3 hP hD hS hl
                          refine lv_iload_n hx hb dX11_remember_149 rfl (lv_at hl 0 rfl) ?_
                          refine lv_aload_n hx hb dX11_remember_150 rfl (lv_at hl 2 rfl) ?_
                          refine va_get (D := (dC, dI)) (ci := 9) (v := .ref (a 11)) (C := RX11) (T := TX11) (N := 55) hx hb hts inX11 hown hK hP 0 rfl rfl 11 (Nat.le_of_ble_eq_true rfl) (hts _ mw_1170) (fun _ h9 => h9) rfl dX11_remember_151 ?_
                          refine lv_iload_n hx hb dX11_remember_154 rfl (lv_at hl 1 rfl) ?_
                          refine z_iald hx hb hK hP 4 0 rfl rfl (e := q) rfl b9_22 (Nat.le_of_ble_eq_true rfl) dX11_remember_155 ?_
                          refine zz_i (v := nI (nN (mn q))) (hm9) ?_
                          have b9_24 : zlt (k) := show k < 2147483648 by omega
                          have b9_25 : zlt ((nN (mn q))) := show (nN (mn q)) < 2147483648 by omega
                          refine lv_icmp_ge (tgt := 211) hx hb dX11_remember_156 rfl (fun c_23 => ?_) (fun c_23 => ?_)
                          · have c_23 : ((nN (mn q) : Nat) : Int) ≤ ((k : Nat) : Int) := zc_le (nI_toInt b9_25) (nI_toInt b9_24) c_23
                            refine lv_iinc (v := nI (q + 1)) (lv' := [(2, .int (nI (q + 1))), (3, .int (nI k)), (0, .ref k0), (1, .int (nI f))]) hx hb dX11_remember_211 hl (k := 1) rfl (nI_add q 1) (Nat.le_of_ble_eq_true rfl) rfl (fun ls hl => ?_)
                            refine lv_goto (tgt := 72) hx hb dX11_remember_214 rfl ?_
                            exact ih_72 (q + 1) S2 (upd mt1 q (pI (bMt kd mn cx cy f n q))) (upd wi1 q (pI (5 ≤ (kd q).toInt ∧ bWi kd mn cx cy f q))) ins2 H locs ls (by first | with_reducible assumption | omega) (by first | with_reducible assumption | omega) (by intro j hj h1 h2; rcases Nat.lt_or_ge j q with h | h; (first | exact hmt j h h1 h2 | (simp only [upd, if_neg (show j ≠ q by omega)]; exact hmt j h h1 h2)); obtain rfl : j = q := (by first | with_reducible assumption | omega); first | (exfalso; omega) | exact absurd h1 (by first | with_reducible assumption | assumption) | (simp only [upd, if_true])) (by intro j hj h1 h2; rcases Nat.lt_or_ge j q with h | h; (first | exact hwi j h h1 h2 | (simp only [upd, if_neg (show j ≠ q by omega)]; exact hwi j h h1 h2)); obtain rfl : j = q := (by first | with_reducible assumption | omega); first | (exfalso; omega) | exact absurd h1 (by first | with_reducible assumption | assumption) | (simp only [upd, if_true])) (by intro j hj h1 h2 h5 i hi; rcases Nat.lt_or_ge j q with h | h; (first | exact hin2 j h h1 h2 h5 i hi | exact hin j h h1 h2 h5 i hi); obtain rfl : j = q := (by first | with_reducible assumption | omega); first | (exfalso; omega) | exact absurd h1 (by first | with_reducible assumption | assumption) | exact absurd h5 (by first | with_reducible assumption | assumption) | exact hin3 i (by first | with_reducible assumption | omega)) hP hD hS (lv_sub hl [0, 2, 3] rfl)
                          · have c_23 : ((k : Nat) : Int) < ((nN (mn q) : Nat) : Int) := zc_nle (nI_toInt b9_25) (nI_toInt b9_24) c_23
                            have hk9 : k < nN (mn q) := (by omega)
                            refine lv_aload_n hx hb dX11_remember_159 rfl (lv_at hl 2 rfl) ?_
                            refine lv_iload_n hx hb dX11_remember_160 rfl (lv_at hl 3 rfl) ?_
                            obtain ⟨hPc, hDc, hFc, hI1⟩ := zi_sub (wc := [_, _]) hP hD hS hA [0, 3] rfl rfl
                            refine zcall (st1 := [.int (pI (5 ≤ (kd f).toInt))]) (va_runV (As := [.int (nI f)]) (rest := []) ⟨hx, hb, hml, hown, hts⟩ (k_M_isRing l dC dI cI cZ cF H.size k0 a (upd (upd I0 35 (nI n)) 36 (kd f)) J0 f kd (by first | with_reducible assumption | omega)) (csV_165 hts rfl rfl ⟨Nat.le_of_ble_eq_true rfl, Nat.le_of_ble_eq_true rfl⟩) (zPV2 (q0 := 0) (ci := 9) hPc hDc hK hXN rfl rfl) rfl rfl hl.1 rfl (lv_room (Nat.le_of_ble_eq_true rfl)) dX11_remember_161 ⟨Nat.le_of_ble_eq_true rfl, Nat.le_of_ble_eq_true rfl⟩) hS hFc hFc rfl (fun t H locs ht hB hk1 hS => ?_)
                            obtain ⟨hP1, hD1⟩ := hB
                            rw [ht] at hP1
                            replace hP := z0 hP hD hk1 hP1 hI1
                            clear hk1 hPc hDc hFc hP1 hD1 ht hI1
                            refine lv_if_eq (tgt := 211) hx hb dX11_remember_164 rfl (fun c_26 => ?_) (fun c_26 => ?_)
                            · have c_26 : ¬ (5 ≤ (kd f).toInt) := zp_0 c_26
                              refine lv_iinc (v := nI (q + 1)) (lv' := [(2, .int (nI (q + 1))), (3, .int (nI k)), (0, .ref k0), (1, .int (nI f))]) hx hb dX11_remember_211 hl (k := 1) rfl (nI_add q 1) (Nat.le_of_ble_eq_true rfl) rfl (fun ls hl => ?_)
                              refine lv_goto (tgt := 72) hx hb dX11_remember_214 rfl ?_
                              exact ih_72 (q + 1) S2 (upd mt1 q (pI (bMt kd mn cx cy f n q))) (upd wi1 q (pI (5 ≤ (kd q).toInt ∧ bWi kd mn cx cy f q))) ins2 H locs ls (by first | with_reducible assumption | omega) (by first | with_reducible assumption | omega) (by intro j hj h1 h2; rcases Nat.lt_or_ge j q with h | h; (first | exact hmt j h h1 h2 | (simp only [upd, if_neg (show j ≠ q by omega)]; exact hmt j h h1 h2)); obtain rfl : j = q := (by first | with_reducible assumption | omega); first | (exfalso; omega) | exact absurd h1 (by first | with_reducible assumption | assumption) | (simp only [upd, if_true])) (by intro j hj h1 h2; rcases Nat.lt_or_ge j q with h | h; (first | exact hwi j h h1 h2 | (simp only [upd, if_neg (show j ≠ q by omega)]; exact hwi j h h1 h2)); obtain rfl : j = q := (by first | with_reducible assumption | omega); first | (exfalso; omega) | exact absurd h1 (by first | with_reducible assumption | assumption) | (simp only [upd, if_true])) (by intro j hj h1 h2 h5 i hi; rcases Nat.lt_or_ge j q with h | h; (first | exact hin2 j h h1 h2 h5 i hi | exact hin j h h1 h2 h5 i hi); obtain rfl : j = q := (by first | with_reducible assumption | omega); first | (exfalso; omega) | exact absurd h1 (by first | with_reducible assumption | assumption) | exact absurd h5 (by first | with_reducible assumption | assumption) | exact hin3 i (by first | with_reducible assumption | omega)) hP hD hS (lv_sub hl [0, 2, 3] rfl)
                            · have c_26 : 5 ≤ (kd f).toInt := zp_1 c_26
                              refine lv_aload_n hx hb dX11_remember_167 rfl (lv_at hl 2 rfl) ?_
                              refine va_get (D := (dC, dI)) (ci := 9) (v := .ref (a 39)) (C := RX11) (T := TX11) (N := 55) hx hb hts inX11 hown hK hP 0 rfl rfl 39 (Nat.le_of_ble_eq_true rfl) (hts _ mw_1198) (fun _ h9 => h9) rfl dX11_remember_168 ?_
                              refine lv_bipush (v := 40) hx hb dX11_remember_171 rfl ?_
                              refine lv_iload_n hx hb dX11_remember_173 rfl (lv_at hl 1 rfl) ?_
                              refine lv_imul hx hb dX11_remember_174 ?_
                              refine zz_i (v := nI (40 * q)) (pk_mul 40 q) ?_
                              refine lv_iload_n hx hb dX11_remember_175 rfl (lv_at hl 0 rfl) ?_
                              refine lv_iadd hx hb dX11_remember_176 ?_
                              refine zz_i (v := nI (40 * q + k)) (nI_add (40 * q) k) ?_
                              refine lv_aload_n hx hb dX11_remember_177 rfl (lv_at hl 2 rfl) ?_
                              refine lv_iload_n hx hb dX11_remember_178 rfl (lv_at hl 3 rfl) ?_
                              refine lv_aload_n hx hb dX11_remember_179 rfl (lv_at hl 2 rfl) ?_
                              refine va_get (D := (dC, dI)) (ci := 9) (v := .ref (a 12)) (C := RX11) (T := TX11) (N := 55) hx hb hts inX11 hown hK hP 0 rfl rfl 12 (Nat.le_of_ble_eq_true rfl) (hts _ mw_1171) (fun _ h9 => h9) rfl dX11_remember_180 ?_
                              refine lv_bipush (v := 40) hx hb dX11_remember_183 rfl ?_
                              refine lv_iload_n hx hb dX11_remember_185 rfl (lv_at hl 1 rfl) ?_
                              refine lv_imul hx hb dX11_remember_186 ?_
                              refine zz_i (v := nI (40 * q)) (pk_mul 40 q) ?_
                              refine lv_iload_n hx hb dX11_remember_187 rfl (lv_at hl 0 rfl) ?_
                              refine lv_iadd hx hb dX11_remember_188 ?_
                              refine zz_i (v := nI (40 * q + k)) (nI_add (40 * q) k) ?_
                              have b9_27 : 40 * q + k < 8040 := by omega
                              refine z_iald hx hb hK hP 5 0 rfl rfl (e := 40 * q + k) rfl b9_27 (Nat.le_of_ble_eq_true rfl) dX11_remember_189 ?_
                              refine lv_aload_n hx hb dX11_remember_190 rfl (lv_at hl 2 rfl) ?_
                              refine va_get (D := (dC, dI)) (ci := 9) (v := .ref (a 13)) (C := RX11) (T := TX11) (N := 55) hx hb hts inX11 hown hK hP 0 rfl rfl 13 (Nat.le_of_ble_eq_true rfl) (hts _ mw_1172) (fun _ h9 => h9) rfl dX11_remember_191 ?_
                              refine lv_bipush (v := 40) hx hb dX11_remember_194 rfl ?_
                              refine lv_iload_n hx hb dX11_remember_196 rfl (lv_at hl 1 rfl) ?_
                              refine lv_imul hx hb dX11_remember_197 ?_
                              refine zz_i (v := nI (40 * q)) (pk_mul 40 q) ?_
                              refine lv_iload_n hx hb dX11_remember_198 rfl (lv_at hl 0 rfl) ?_
                              refine lv_iadd hx hb dX11_remember_199 ?_
                              refine zz_i (v := nI (40 * q + k)) (nI_add (40 * q) k) ?_
                              refine z_iald hx hb hK hP 6 0 rfl rfl (e := 40 * q + k) rfl b9_27 (Nat.le_of_ble_eq_true rfl) dX11_remember_200 ?_
                              obtain ⟨hPc, hDc, hFc⟩ := zo_sub (wc := [_, _, _, _, _, _]) hP hD hS hA [0, 3, 4, 5, 6, 7] (by decide +kernel) rfl
                              refine zcall (st1 := [.int (pI (¬ (∃ i, i < eO (kd f).toInt n ∧ eOn n (cF40 cx f) (cF40 cy f) i (cx (40 * q + k)).toInt (cy (40 * q + k)).toInt) ∧ par2 (eTg n (cF40 cx f) (cF40 cy f) (cx (40 * q + k)).toInt (cy (40 * q + k)).toInt) (eO (kd f).toInt n))), .int (nI (40 * q + k)), .ref (a 39)]) (va_runV (As := [.int (nI f), .int (cx (40 * q + k)), .int (cy (40 * q + k))]) (rest := [.int (nI (40 * q + k)), .ref (a 39)]) ⟨hx, hb, hml, hown, hts⟩ (k_M_isInside l dC dI cI cZ cF H.size k0 a (upd (upd I0 35 (nI n)) 36 (kd f)) J0 f n kd mn cx cy S2 (cx (40 * q + k)) (cy (40 * q + k)) (by first | with_reducible assumption | omega) (by first | with_reducible assumption | assumption) (by first | with_reducible assumption | omega) (by first | with_reducible assumption | assumption) ((hp9 k hk9).1) ((hp9 k hk9).2)) (csV_183 hts rfl rfl ⟨Nat.le_of_ble_eq_true rfl, Nat.le_of_ble_eq_true rfl⟩) (zPV2 (q0 := 0) (ci := 9) hPc hDc hK hXN rfl rfl) rfl rfl hl.1 rfl (lv_room (Nat.le_of_ble_eq_true rfl)) dX11_remember_201 ⟨Nat.le_of_ble_eq_true rfl, Nat.le_of_ble_eq_true rfl⟩) hS hFc hFc rfl (fun t H locs ht hB hk1 hS => ?_)
                              obtain ⟨q_28, hP1, hD1⟩ := hB
                              rw [ht] at hP1
                              obtain ⟨hP, hD⟩ := zn (W2 := [_, _, _, _, _, _, _, (oa (a 32) cI 8 q_28), _, _, _, _, _]) hP hD hk1 hFc hP1 hD1 [0, 3, 4, 5, 6, 7] zl_153 zl_153 [0, 3, 4, 5, 6, 7] (by decide +kernel) rfl rfl rfl rfl rfl
                              clear hk1 hPc hDc hFc hP1 hD1 ht
                              refine zz_i (v := pI (bIn kd cx cy f n q k)) (rfl) ?_
                              refine z_zast hx hb hK hP hD hS 12 1 rfl rfl (e := 40 * q + k) (x := pI (bIn kd cx cy f n q k)) rfl b9_27 (Nat.le_of_ble_eq_true rfl) (zp_and _) dX11_remember_204 (fun H locs hP hD hS => ?_)
                              obtain ⟨hP, hD⟩ := zre (W2 := [_, _, _, _, _, _, _, _, _, _, _, _, (oa (a 39) cZ 8040 (upd ins2 (40 * q + k) (pI (bIn kd cx cy f n q k))))]) hP hD rfl
                              refine lv_iinc (v := nI (k + 1)) (lv' := [(3, .int (nI (k + 1))), (2, .int (nI q)), (0, .ref k0), (1, .int (nI f))]) hx hb dX11_remember_205 hl (k := 0) rfl (nI_add k 1) (Nat.le_of_ble_eq_true rfl) rfl (fun ls hl => ?_)
                              refine lv_goto (tgt := 149) hx hb dX11_remember_208 rfl ?_
                              exact ih_149 (k + 1) q_28 (upd ins2 (40 * q + k) (pI (bIn kd cx cy f n q k))) H locs ls (by first | with_reducible assumption | omega) (by first | with_reducible assumption | omega) (by intro j hj h1 h2 h5 i hi; have h8 := (hwf j h1 h2).2.1; simp only [upd, if_neg (show 40 * j + i ≠ 40 * q + k by omega)]; exact hin2 j hj h1 h2 h5 i hi) (by intro i hi; rcases Nat.lt_or_ge i k with h | h; simp only [upd, if_neg (show 40 * q + i ≠ 40 * q + k by omega)]; exact hin3 i h; rw [show i = k by omega]; simp only [upd, if_true]) hP hD hS (lv_sub hl [0, 1, 2, 3] rfl)
                      exact hl_149 _ 0 q_20 ins1 H locs ls (Nat.lt_succ_self _) (by first | with_reducible assumption | omega) (by intro j hj h1 h2 h5 i hi; exact hin j hj h1 h2 h5 i hi) (by intro i hi; omega) hP hD hS (lv_sub hl [0, 1, 2, 3] rfl)
                    · have c_21 : bWi kd mn cx cy f q := zp_1 c_21
                      refine lv_iconst (v := 1) hx hb dX11_remember_141 rfl ?_
                      refine lv_goto (tgt := 146) hx hb dX11_remember_142 rfl ?_
                      refine zz_i (v := pI (5 ≤ (kd q).toInt ∧ bWi kd mn cx cy f q)) (by first | exact (zp_t ⟨by assumption, by assumption⟩).symm | exact (zp_f (fun h => absurd h.1 (by first | with_reducible assumption | assumption))).symm | exact (zp_f (fun h => absurd h.2 (by first | with_reducible assumption | assumption))).symm) ?_
                      have b9_29 : q < 201 := by omega
                      refine z_zast hx hb hK hP hD hS 11 1 rfl rfl (e := q) (x := pI (5 ≤ (kd q).toInt ∧ bWi kd mn cx cy f q)) rfl b9_29 (Nat.le_of_ble_eq_true rfl) (zp_and _) dX11_remember_146 (fun H locs hP hD hS => ?_)
                      obtain ⟨hP, hD⟩ := zre (W2 := [_, _, _, _, _, _, _, _, _, _, _, (oa (a 38) cZ 201 (upd wi1 q (pI (5 ≤ (kd q).toInt ∧ bWi kd mn cx cy f q)))), _]) hP hD rfl
                      refine lv_iconst (v := 0) hx hb dX11_remember_147 rfl ?_
                      refine lv_istore_n (lv' := [(3, .int 0), (2, .int (nI q)), (0, .ref k0), (1, .int (nI f))]) hx hb dX11_remember_148 rfl hl (Nat.le_of_ble_eq_true rfl) rfl (fun ls hl => ?_)
                      have hl_149 : ∀ (n9 : Nat) (k : Nat) (S2 : Nat → Int32) (ins2 : Nat → Int32) (H : Heap) (locs : List Loc) (ls : Array Slot), nN (mn q) - k < n9 → (k ≤ nN (mn q)) → (∀ j, j < q → lvF ft st tn j → j ≠ f → 5 ≤ (kd f).toInt → ∀ i, i < nN (mn j) → ins2 (40 * j + i) = pI (bIn kd cx cy f n j i)) → (∀ i, i < k → ins2 (40 * q + i) = pI (bIn kd cx cy f n q i)) → va_P (dC, dI) classes [(om k0 a (upd (upd I0 35 (nI n)) 36 (kd f)) J0), (oa (a 5) cI 201 st), (oa (a 6) cZ 201 tn), (oa (a 1) cI 201 kd), (oa (a 11) cI 201 mn), (oa (a 12) cI 8040 cx), (oa (a 13) cI 8040 cy), (oa (a 32) cI 8 S2), (oa (a 33) cI 42 ox1), (oa (a 34) cI 42 oy1), (oa (a 37) cZ 201 (upd mt1 q (pI (bMt kd mn cx cy f n q)))), (oa (a 38) cZ 201 (upd wi1 q (pI (5 ≤ (kd q).toInt ∧ bWi kd mn cx cy f q)))), (oa (a 39) cZ 8040 ins2)] H → va_D A [(om k0 a (upd (upd I0 35 (nI n)) 36 (kd f)) J0), (oa (a 5) cI 201 st), (oa (a 6) cZ 201 tn), (oa (a 1) cI 201 kd), (oa (a 11) cI 201 mn), (oa (a 12) cI 8040 cx), (oa (a 13) cI 8040 cy), (oa (a 32) cI 8 S2), (oa (a 33) cI 42 ox1), (oa (a 34) cI 42 oy1), (oa (a 37) cZ 201 (upd mt1 q (pI (bMt kd mn cx cy f n q)))), (oa (a 38) cZ 201 (upd wi1 q (pI (5 ≤ (kd q).toInt ∧ bWi kd mn cx cy f q)))), (oa (a 39) cZ 8040 ins2)] → va_S A s.heap H locs → lv_has ls 4 [(3, .int (nI k)), (2, .int (nI q)), (0, .ref k0), (1, .int (nI f))] → W p l e ({ frames := 4, cells := 0, slots := 0, locals := 107 } : Room) s m ([.ref k0, .int (nI f)] : List Value).toArray below meth c H locs 0 0 Q9 (F0 m 149 ls []) := by
                        intro n9
                        induction n9 with
                        | zero => intro k S2 ins2 H locs ls hm; exact absurd hm (Nat.not_lt_zero _)
                        | succ n9 ih_149 =>
                          intro k S2 ins2 H locs ls hm hk hin2 hin3 hP hD hS hl
                          refine lv_iload_n hx hb dX11_remember_149 rfl (lv_at hl 0 rfl) ?_
                          refine lv_aload_n hx hb dX11_remember_150 rfl (lv_at hl 2 rfl) ?_
                          refine va_get (D := (dC, dI)) (ci := 9) (v := .ref (a 11)) (C := RX11) (T := TX11) (N := 55) hx hb hts inX11 hown hK hP 0 rfl rfl 11 (Nat.le_of_ble_eq_true rfl) (hts _ mw_1170) (fun _ h9 => h9) rfl dX11_remember_151 ?_
                          refine lv_iload_n hx hb dX11_remember_154 rfl (lv_at hl 1 rfl) ?_
                          refine z_iald hx hb hK hP 4 0 rfl rfl (e := q) rfl b9_29 (Nat.le_of_ble_eq_true rfl) dX11_remember_155 ?_
                          refine zz_i (v := nI (nN (mn q))) (hm9) ?_
                          have b9_31 : zlt (k) := show k < 2147483648 by omega
                          have b9_32 : zlt ((nN (mn q))) := show (nN (mn q)) < 2147483648 by omega
                          refine lv_icmp_ge (tgt := 211) hx hb dX11_remember_156 rfl (fun c_30 => ?_) (fun c_30 => ?_)
                          · have c_30 : ((nN (mn q) : Nat) : Int) ≤ ((k : Nat) : Int) := zc_le (nI_toInt b9_32) (nI_toInt b9_31) c_30
                            refine lv_iinc (v := nI (q + 1)) (lv' := [(2, .int (nI (q + 1))), (3, .int (nI k)), (0, .ref k0), (1, .int (nI f))]) hx hb dX11_remember_211 hl (k := 1) rfl (nI_add q 1) (Nat.le_of_ble_eq_true rfl) rfl (fun ls hl => ?_)
                            refine lv_goto (tgt := 72) hx hb dX11_remember_214 rfl ?_
                            exact ih_72 (q + 1) S2 (upd mt1 q (pI (bMt kd mn cx cy f n q))) (upd wi1 q (pI (5 ≤ (kd q).toInt ∧ bWi kd mn cx cy f q))) ins2 H locs ls (by first | with_reducible assumption | omega) (by first | with_reducible assumption | omega) (by intro j hj h1 h2; rcases Nat.lt_or_ge j q with h | h; (first | exact hmt j h h1 h2 | (simp only [upd, if_neg (show j ≠ q by omega)]; exact hmt j h h1 h2)); obtain rfl : j = q := (by first | with_reducible assumption | omega); first | (exfalso; omega) | exact absurd h1 (by first | with_reducible assumption | assumption) | (simp only [upd, if_true])) (by intro j hj h1 h2; rcases Nat.lt_or_ge j q with h | h; (first | exact hwi j h h1 h2 | (simp only [upd, if_neg (show j ≠ q by omega)]; exact hwi j h h1 h2)); obtain rfl : j = q := (by first | with_reducible assumption | omega); first | (exfalso; omega) | exact absurd h1 (by first | with_reducible assumption | assumption) | (simp only [upd, if_true])) (by intro j hj h1 h2 h5 i hi; rcases Nat.lt_or_ge j q with h | h; (first | exact hin2 j h h1 h2 h5 i hi | exact hin j h h1 h2 h5 i hi); obtain rfl : j = q := (by first | with_reducible assumption | omega); first | (exfalso; omega) | exact absurd h1 (by first | with_reducible assumption | assumption) | exact absurd h5 (by first | with_reducible assumption | assumption) | exact hin3 i (by first | with_reducible assumption | omega)) hP hD hS (lv_sub hl [0, 2, 3] rfl)
                          · have c_30 : ((k : Nat) : Int) < ((nN (mn q) : Nat) : Int) := zc_nle (nI_toInt b9_32) (nI_toInt b9_31) c_30
                            have hk9 : k < nN (mn q) := (by omega)
                            refine lv_aload_n hx hb dX11_remember_159 rfl (lv_at hl 2 rfl) ?_
                            refine lv_iload_n hx hb dX11_remember_160 rfl (lv_at hl 3 rfl) ?_
                            obtain ⟨hPc, hDc, hFc, hI1⟩ := zi_sub (wc := [_, _]) hP hD hS hA [0, 3] rfl rfl
                            refine zcall (st1 := [.int (pI (5 ≤ (kd f).toInt))]) (va_runV (As := [.int (nI f)]) (rest := []) ⟨hx, hb, hml, hown, hts⟩ (k_M_isRing l dC dI cI cZ cF H.size k0 a (upd (upd I0 35 (nI n)) 36 (kd f)) J0 f kd (by first | with_reducible assumption | omega)) (csV_165 hts rfl rfl ⟨Nat.le_of_ble_eq_true rfl, Nat.le_of_ble_eq_true rfl⟩) (zPV2 (q0 := 0) (ci := 9) hPc hDc hK hXN rfl rfl) rfl rfl hl.1 rfl (lv_room (Nat.le_of_ble_eq_true rfl)) dX11_remember_161 ⟨Nat.le_of_ble_eq_true rfl, Nat.le_of_ble_eq_true rfl⟩) hS hFc hFc rfl (fun t H locs ht hB hk1 hS => ?_)
                            obtain ⟨hP1, hD1⟩ := hB
                            rw [ht] at hP1
                            replace hP := z0 hP hD hk1 hP1 hI1
                            clear hk1 hPc hDc hFc hP1 hD1 ht hI1
                            refine lv_if_eq (tgt := 211) hx hb dX11_remember_164 rfl (fun c_33 => ?_) (fun c_33 => ?_)
                            · have c_33 : ¬ (5 ≤ (kd f).toInt) := zp_0 c_33
                              refine lv_iinc (v := nI (q + 1)) (lv' := [(2, .int (nI (q + 1))), (3, .int (nI k)), (0, .ref k0), (1, .int (nI f))]) hx hb dX11_remember_211 hl (k := 1) rfl (nI_add q 1) (Nat.le_of_ble_eq_true rfl) rfl (fun ls hl => ?_)
                              refine lv_goto (tgt := 72) hx hb dX11_remember_214 rfl ?_
                              exact ih_72 (q + 1) S2 (upd mt1 q (pI (bMt kd mn cx cy f n q))) (upd wi1 q (pI (5 ≤ (kd q).toInt ∧ bWi kd mn cx cy f q))) ins2 H locs ls (by first | with_reducible assumption | omega) (by first | with_reducible assumption | omega) (by intro j hj h1 h2; rcases Nat.lt_or_ge j q with h | h; (first | exact hmt j h h1 h2 | (simp only [upd, if_neg (show j ≠ q by omega)]; exact hmt j h h1 h2)); obtain rfl : j = q := (by first | with_reducible assumption | omega); first | (exfalso; omega) | exact absurd h1 (by first | with_reducible assumption | assumption) | (simp only [upd, if_true])) (by intro j hj h1 h2; rcases Nat.lt_or_ge j q with h | h; (first | exact hwi j h h1 h2 | (simp only [upd, if_neg (show j ≠ q by omega)]; exact hwi j h h1 h2)); obtain rfl : j = q := (by first | with_reducible assumption | omega); first | (exfalso; omega) | exact absurd h1 (by first | with_reducible assumption | assumption) | (simp only [upd, if_true])) (by intro j hj h1 h2 h5 i hi; rcases Nat.lt_or_ge j q with h | h; (first | exact hin2 j h h1 h2 h5 i hi | exact hin j h h1 h2 h5 i hi); obtain rfl : j = q := (by first | with_reducible assumption | omega); first | (exfalso; omega) | exact absurd h1 (by first | with_reducible assumption | assumption) | exact absurd h5 (by first | with_reducible assumption | assumption) | exact hin3 i (by first | with_reducible assumption | omega)) hP hD hS (lv_sub hl [0, 2, 3] rfl)
                            · have c_33 : 5 ≤ (kd f).toInt := zp_1 c_33
                              refine lv_aload_n hx hb dX11_remember_167 rfl (lv_at hl 2 rfl) ?_
                              refine va_get (D := (dC, dI)) (ci := 9) (v := .ref (a 39)) (C := RX11) (T := TX11) (N := 55) hx hb hts inX11 hown hK hP 0 rfl rfl 39 (Nat.le_of_ble_eq_true rfl) (hts _ mw_1198) (fun _ h9 => h9) rfl dX11_remember_168 ?_
                              refine lv_bipush (v := 40) hx hb dX11_remember_171 rfl ?_
                              refine lv_iload_n hx hb dX11_remember_173 rfl (lv_at hl 1 rfl) ?_
                              refine lv_imul hx hb dX11_remember_174 ?_
                              refine zz_i (v := nI (40 * q)) (pk_mul 40 q) ?_
                              refine lv_iload_n hx hb dX11_remember_175 rfl (lv_at hl 0 rfl) ?_
                              refine lv_iadd hx hb dX11_remember_176 ?_
                              refine zz_i (v := nI (40 * q + k)) (nI_add (40 * q) k) ?_
                              refine lv_aload_n hx hb dX11_remember_177 rfl (lv_at hl 2 rfl) ?_
                              refine lv_iload_n hx hb dX11_remember_178 rfl (lv_at hl 3 rfl) ?_
                              refine lv_aload_n hx hb dX11_remember_179 rfl (lv_at hl 2 rfl) ?_
                              refine va_get (D := (dC, dI)) (ci := 9) (v := .ref (a 12)) (C := RX11) (T := TX11) (N := 55) hx hb hts inX11 hown hK hP 0 rfl rfl 12 (Nat.le_of_ble_eq_true rfl) (hts _ mw_1171) (fun _ h9 => h9) rfl dX11_remember_180 ?_
                              refine lv_bipush (v := 40) hx hb dX11_remember_183 rfl ?_
                              refine lv_iload_n hx hb dX11_remember_185 rfl (lv_at hl 1 rfl) ?_
                              refine lv_imul hx hb dX11_remember_186 ?_
                              refine zz_i (v := nI (40 * q)) (pk_mul 40 q) ?_
                              refine lv_iload_n hx hb dX11_remember_187 rfl (lv_at hl 0 rfl) ?_
                              refine lv_iadd hx hb dX11_remember_188 ?_
                              refine zz_i (v := nI (40 * q + k)) (nI_add (40 * q) k) ?_
                              have b9_34 : 40 * q + k < 8040 := by omega
                              refine z_iald hx hb hK hP 5 0 rfl rfl (e := 40 * q + k) rfl b9_34 (Nat.le_of_ble_eq_true rfl) dX11_remember_189 ?_
                              refine lv_aload_n hx hb dX11_remember_190 rfl (lv_at hl 2 rfl) ?_
                              refine va_get (D := (dC, dI)) (ci := 9) (v := .ref (a 13)) (C := RX11) (T := TX11) (N := 55) hx hb hts inX11 hown hK hP 0 rfl rfl 13 (Nat.le_of_ble_eq_true rfl) (hts _ mw_1172) (fun _ h9 => h9) rfl dX11_remember_191 ?_
                              refine lv_bipush (v := 40) hx hb dX11_remember_194 rfl ?_
                              refine lv_iload_n hx hb dX11_remember_196 rfl (lv_at hl 1 rfl) ?_
                              refine lv_imul hx hb dX11_remember_197 ?_
                              refine zz_i (v := nI (40 * q)) (pk_mul 40 q) ?_
                              refine lv_iload_n hx hb dX11_remember_198 rfl (lv_at hl 0 rfl) ?_
                              refine lv_iadd hx hb dX11_remember_199 ?_
                              refine zz_i (v := nI (40 * q + k)) (nI_add (40 * q) k) ?_
                              refine z_iald hx hb hK hP 6 0 rfl rfl (e := 40 * q + k) rfl b9_34 (Nat.le_of_ble_eq_true rfl) dX11_remember_200 ?_
                              obtain ⟨hPc, hDc, hFc⟩ := zo_sub (wc := [_, _, _, _, _, _]) hP hD hS hA [0, 3, 4, 5, 6, 7] (by decide +kernel) rfl
                              refine zcall (st1 := [.int (pI (¬ (∃ i, i < eO (kd f).toInt n ∧ eOn n (cF40 cx f) (cF40 cy f) i (cx (40 * q + k)).toInt (cy (40 * q + k)).toInt) ∧ par2 (eTg n (cF40 cx f) (cF40 cy f) (cx (40 * q + k)).toInt (cy (40 * q + k)).toInt) (eO (kd f).toInt n))), .int (nI (40 * q + k)), .ref (a 39)]) (va_runV (As := [.int (nI f), .int (cx (40 * q + k)), .int (cy (40 * q + k))]) (rest := [.int (nI (40 * q + k)), .ref (a 39)]) ⟨hx, hb, hml, hown, hts⟩ (k_M_isInside l dC dI cI cZ cF H.size k0 a (upd (upd I0 35 (nI n)) 36 (kd f)) J0 f n kd mn cx cy S2 (cx (40 * q + k)) (cy (40 * q + k)) (by first | with_reducible assumption | omega) (by first | with_reducible assumption | assumption) (by first | with_reducible assumption | omega) (by first | with_reducible assumption | assumption) ((hp9 k hk9).1) ((hp9 k hk9).2)) (csV_183 hts rfl rfl ⟨Nat.le_of_ble_eq_true rfl, Nat.le_of_ble_eq_true rfl⟩) (zPV2 (q0 := 0) (ci := 9) hPc hDc hK hXN rfl rfl) rfl rfl hl.1 rfl (lv_room (Nat.le_of_ble_eq_true rfl)) dX11_remember_201 ⟨Nat.le_of_ble_eq_true rfl, Nat.le_of_ble_eq_true rfl⟩) hS hFc hFc rfl (fun t H locs ht hB hk1 hS => ?_)
                              obtain ⟨q_35, hP1, hD1⟩ := hB
                              rw [ht] at hP1
                              obtain ⟨hP, hD⟩ := zn (W2 := [_, _, _, _, _, _, _, (oa (a 32) cI 8 q_35), _, _, _, _, _]) hP hD hk1 hFc hP1 hD1 [0, 3, 4, 5, 6, 7] zl_153 zl_153 [0, 3, 4, 5, 6, 7] (by decide +kernel) rfl rfl rfl rfl rfl
                              clear hk1 hPc hDc hFc hP1 hD1 ht
                              refine zz_i (v := pI (bIn kd cx cy f n q k)) (rfl) ?_
                              refine z_zast hx hb hK hP hD hS 12 1 rfl rfl (e := 40 * q + k) (x := pI (bIn kd cx cy f n q k)) rfl b9_34 (Nat.le_of_ble_eq_true rfl) (zp_and _) dX11_remember_204 (fun H locs hP hD hS => ?_)
                              obtain ⟨hP, hD⟩ := zre (W2 := [_, _, _, _, _, _, _, _, _, _, _, _, (oa (a 39) cZ 8040 (upd ins2 (40 * q + k) (pI (bIn kd cx cy f n q k))))]) hP hD rfl
                              refine lv_iinc (v := nI (k + 1)) (lv' := [(3, .int (nI (k + 1))), (2, .int (nI q)), (0, .ref k0), (1, .int (nI f))]) hx hb dX11_remember_205 hl (k := 0) rfl (nI_add k 1) (Nat.le_of_ble_eq_true rfl) rfl (fun ls hl => ?_)
                              refine lv_goto (tgt := 149) hx hb dX11_remember_208 rfl ?_
                              exact ih_149 (k + 1) q_35 (upd ins2 (40 * q + k) (pI (bIn kd cx cy f n q k))) H locs ls (by first | with_reducible assumption | omega) (by first | with_reducible assumption | omega) (by intro j hj h1 h2 h5 i hi; have h8 := (hwf j h1 h2).2.1; simp only [upd, if_neg (show 40 * j + i ≠ 40 * q + k by omega)]; exact hin2 j hj h1 h2 h5 i hi) (by intro i hi; rcases Nat.lt_or_ge i k with h | h; simp only [upd, if_neg (show 40 * q + i ≠ 40 * q + k by omega)]; exact hin3 i h; rw [show i = k by omega]; simp only [upd, if_true]) hP hD hS (lv_sub hl [0, 1, 2, 3] rfl)
                      exact hl_149 _ 0 q_20 ins1 H locs ls (Nat.lt_succ_self _) (by first | with_reducible assumption | omega) (by intro j hj h1 h2 h5 i hi; exact hin j hj h1 h2 h5 i hi) (by intro i hi; omega) hP hD hS (lv_sub hl [0, 1, 2, 3] rfl)
                · have c_10 : ¬ (q < ft ∧ (st q).toInt = 1 ∧ (tn q).toInt = 0) := zp_0 c_10
                  refine lv_goto (tgt := 211) hx hb dX11_remember_93 rfl ?_
                  refine lv_iinc (v := nI (q + 1)) (lv' := [(2, .int (nI (q + 1))), (0, .ref k0), (1, .int (nI f))]) hx hb dX11_remember_211 hl (k := 0) rfl (nI_add q 1) (Nat.le_of_ble_eq_true rfl) rfl (fun ls hl => ?_)
                  refine lv_goto (tgt := 72) hx hb dX11_remember_214 rfl ?_
                  exact ih_72 (q + 1) S1 mt1 wi1 ins1 H locs ls (by first | with_reducible assumption | omega) (by first | with_reducible assumption | omega) (by intro j hj h1 h2; rcases Nat.lt_or_ge j q with h | h; (first | exact hmt j h h1 h2 | (simp only [upd, if_neg (show j ≠ q by omega)]; exact hmt j h h1 h2)); obtain rfl : j = q := (by first | with_reducible assumption | omega); first | (exfalso; omega) | exact absurd h1 (by first | with_reducible assumption | assumption) | (simp only [upd, if_true])) (by intro j hj h1 h2; rcases Nat.lt_or_ge j q with h | h; (first | exact hwi j h h1 h2 | (simp only [upd, if_neg (show j ≠ q by omega)]; exact hwi j h h1 h2)); obtain rfl : j = q := (by first | with_reducible assumption | omega); first | (exfalso; omega) | exact absurd h1 (by first | with_reducible assumption | assumption) | (simp only [upd, if_true])) (by intro j hj h1 h2 h5 i hi; rcases Nat.lt_or_ge j q with h | h; (first | exact hin2 j h h1 h2 h5 i hi | exact hin j h h1 h2 h5 i hi); obtain rfl : j = q := (by first | with_reducible assumption | omega); first | (exfalso; omega) | exact absurd h1 (by first | with_reducible assumption | assumption) | exact absurd h5 (by first | with_reducible assumption | assumption) | exact hin3 i (by first | with_reducible assumption | omega)) hP hD hS (lv_sub hl [0, 1, 2] rfl)
        exact hl_72 _ 0 S0 mt wi ins H locs ls (Nat.lt_succ_self _) (by first | with_reducible assumption | omega) (by intro j hj; omega) (by intro j hj; omega) (by intro j hj; omega) hP hD hS (lv_sub hl [0, 1, 2] rfl)
      · have c_2 : ((k : Nat) : Int) < ((n : Nat) : Int) := zc_nle (nI_toInt b9_4) (nI_toInt b9_3) c_2
        refine lv_aload_n hx hb dX11_remember_30 rfl (lv_at hl 1 rfl) ?_
        refine va_get (D := (dC, dI)) (ci := 9) (v := .ref (a 33)) (C := RX11) (T := TX11) (N := 55) hx hb hts inX11 hown hK hP 0 rfl rfl 33 (Nat.le_of_ble_eq_true rfl) (hts _ mw_1192) (fun _ h9 => h9) rfl dX11_remember_31 ?_
        refine lv_iload_n hx hb dX11_remember_34 rfl (lv_at hl 0 rfl) ?_
        refine lv_aload_n hx hb dX11_remember_35 rfl (lv_at hl 1 rfl) ?_
        refine va_get (D := (dC, dI)) (ci := 9) (v := .ref (a 12)) (C := RX11) (T := TX11) (N := 55) hx hb hts inX11 hown hK hP 0 rfl rfl 12 (Nat.le_of_ble_eq_true rfl) (hts _ mw_1171) (fun _ h9 => h9) rfl dX11_remember_36 ?_
        refine lv_bipush (v := 40) hx hb dX11_remember_39 rfl ?_
        refine lv_iload_n hx hb dX11_remember_41 rfl (lv_at hl 2 rfl) ?_
        refine lv_imul hx hb dX11_remember_42 ?_
        refine zz_i (v := nI (40 * f)) (pk_mul 40 f) ?_
        refine lv_iload_n hx hb dX11_remember_43 rfl (lv_at hl 0 rfl) ?_
        refine lv_iadd hx hb dX11_remember_44 ?_
        refine zz_i (v := nI (40 * f + k)) (nI_add (40 * f) k) ?_
        have b9_36 : 40 * f + k < 8040 := by omega
        refine z_iald hx hb hK hP 5 0 rfl rfl (e := 40 * f + k) rfl b9_36 (Nat.le_of_ble_eq_true rfl) dX11_remember_45 ?_
        have b9_37 : k < 42 := by omega
        refine z_iast hx hb hK hP hD hS 8 0 rfl rfl (e := k) (x := cx (40 * f + k)) rfl b9_37 (Nat.le_of_ble_eq_true rfl) dX11_remember_46 (fun H locs hP hD hS => ?_)
        obtain ⟨hP, hD⟩ := zre (W2 := [_, _, _, _, _, _, _, _, (oa (a 33) cI 42 (upd ox1 k (cx (40 * f + k)))), _, _, _, _]) hP hD rfl
        refine lv_aload_n hx hb dX11_remember_47 rfl (lv_at hl 1 rfl) ?_
        refine va_get (D := (dC, dI)) (ci := 9) (v := .ref (a 34)) (C := RX11) (T := TX11) (N := 55) hx hb hts inX11 hown hK hP 0 rfl rfl 34 (Nat.le_of_ble_eq_true rfl) (hts _ mw_1193) (fun _ h9 => h9) rfl dX11_remember_48 ?_
        refine lv_iload_n hx hb dX11_remember_51 rfl (lv_at hl 0 rfl) ?_
        refine lv_aload_n hx hb dX11_remember_52 rfl (lv_at hl 1 rfl) ?_
        refine va_get (D := (dC, dI)) (ci := 9) (v := .ref (a 13)) (C := RX11) (T := TX11) (N := 55) hx hb hts inX11 hown hK hP 0 rfl rfl 13 (Nat.le_of_ble_eq_true rfl) (hts _ mw_1172) (fun _ h9 => h9) rfl dX11_remember_53 ?_
        refine lv_bipush (v := 40) hx hb dX11_remember_56 rfl ?_
        refine lv_iload_n hx hb dX11_remember_58 rfl (lv_at hl 2 rfl) ?_
        refine lv_imul hx hb dX11_remember_59 ?_
        refine zz_i (v := nI (40 * f)) (pk_mul 40 f) ?_
        refine lv_iload_n hx hb dX11_remember_60 rfl (lv_at hl 0 rfl) ?_
        refine lv_iadd hx hb dX11_remember_61 ?_
        refine zz_i (v := nI (40 * f + k)) (nI_add (40 * f) k) ?_
        refine z_iald hx hb hK hP 6 0 rfl rfl (e := 40 * f + k) rfl b9_36 (Nat.le_of_ble_eq_true rfl) dX11_remember_62 ?_
        refine z_iast hx hb hK hP hD hS 9 0 rfl rfl (e := k) (x := cy (40 * f + k)) rfl b9_37 (Nat.le_of_ble_eq_true rfl) dX11_remember_63 (fun H locs hP hD hS => ?_)
        obtain ⟨hP, hD⟩ := zre (W2 := [_, _, _, _, _, _, _, _, _, (oa (a 34) cI 42 (upd oy1 k (cy (40 * f + k)))), _, _, _]) hP hD rfl
        refine lv_iinc (v := nI (k + 1)) (lv' := [(2, .int (nI (k + 1))), (0, .ref k0), (1, .int (nI f))]) hx hb dX11_remember_64 hl (k := 0) rfl (nI_add k 1) (Nat.le_of_ble_eq_true rfl) rfl (fun ls hl => ?_)
        refine lv_goto (tgt := 22) hx hb dX11_remember_67 rfl ?_
        exact ih_22 (k + 1) (upd ox1 k (cx (40 * f + k))) (upd oy1 k (cy (40 * f + k))) H locs ls (by first | with_reducible assumption | omega) (by first | with_reducible assumption | omega) (by intro j hj; rcases Nat.lt_or_ge j k with h | h; simp only [upd, if_neg (show j ≠ k by omega)]; exact hox j h; rw [show j = k by omega]; simp only [upd, if_true]; first | exact ⟨rfl, rfl⟩ | exact ⟨trivial, trivial⟩) hP hD hS (lv_sub hl [0, 1, 2] rfl)
  exact hl_22 _ 0 ox oy H locs ls (Nat.lt_succ_self _) (by first | with_reducible assumption | omega) (by intro j hj; omega) hP hD hS (lv_sub hl [0, 1, 2] rfl)
set_option maxHeartbeats 4000000 in
set_option maxRecDepth 100000 in
theorem k_M_isLawful_p (l : Launch) (dC : Nat → ClassId) (dI : Nat → Nat → Nat) (cI cZ cF : ClassId) (sz : Nat) (k0 : Nat) (a : Nat → Nat) (I0 : Nat → Int32) (J0 : Nat → Int64) (f : Nat) (n : Nat) (ft : Nat) (on : Nat) (b : Nat) (st : Nat → Int32) (tn : Nat → Int32) (kd : Nat → Int32) (mn : Nat → Int32) (cx : Nat → Int32) (cy : Nat → Int32) (S0 : Nat → Int32) (T0 : Nat → Int32) (P0 : Nat → Int32) (Q0 : Nat → Int32) (ox : Nat → Int32) (oy : Nat → Int32) (mt : Nat → Int32) (wi : Nat → Int32) (ins : Nat → Int32) (MT : Nat → Prop) (WI : Nat → Prop) (IN : Nat → Nat → Prop) (hft : I0 0 = nI ft) (h200 : ft ≤ 200) (hf_f : f ≤ 200) (hm_f : mn f = nI n) (hn_f : n ≤ 40) (hwf : ∀ q, lvF ft st tn q → q ≠ f → wfM mn cx cy q) (hon : I0 35 = nI on) (ho40 : on ≤ 40) (ho1 : 1 ≤ on) (hpo : pls on ox oy) (hmt : ∀ q, lvF ft st tn q → q ≠ f → mt q = pI (MT q)) (hwi : ∀ q, lvF ft st tn q → q ≠ f → 5 ≤ (kd q).toInt → wi q = pI (WI q)) (hin : ∀ q, lvF ft st tn q → q ≠ f → ∀ k, k < nN (mn q) → 5 ≤ (kd f).toInt → ins (40 * q + k) = pI (IN q k)) (hb9 : b < on) : zM l yX11_isLawful cX11_isLawful 5 (some .boolean) ({ frames := 5, cells := 0, slots := 0, locals := 135 } : Room) [.ref k0, .int (nI f), .int 1, .int (nI b)] (dC, dI) (zTy cI cZ cF) [(om k0 a I0 J0), (oa (a 5) cI 201 st), (oa (a 6) cZ 201 tn), (oa (a 1) cI 201 kd), (oa (a 11) cI 201 mn), (oa (a 12) cI 8040 cx), (oa (a 13) cI 8040 cy), (oa (a 32) cI 8 S0), (oa (a 40) cI 6 T0), (oa (a 29) cI 42 P0), (oa (a 30) cI 42 Q0), (oa (a 33) cI 42 ox), (oa (a 34) cI 42 oy), (oa (a 37) cZ 201 mt), (oa (a 38) cZ 201 wi), (oa (a 39) cZ 8040 ins)] sz (some (.int (pI (lwA ft st tn kd mn cx cy f n (ox 0) (oy 0) MT WI IN (sWp on ox oy cx cy b))))) (fun A t => ∃ (z9 : Int32), ∃ (S1 : Nat → Int32), ∃ (T1 : Nat → Int32), ∃ (P1 : Nat → Int32), ∃ (Q1 : Nat → Int32), zPD (dC, dI) classes A [(om k0 a (upd I0 31 z9) J0), (oa (a 5) cI 201 st), (oa (a 6) cZ 201 tn), (oa (a 1) cI 201 kd), (oa (a 11) cI 201 mn), (oa (a 12) cI 8040 cx), (oa (a 13) cI 8040 cy), (oa (a 32) cI 8 S1), (oa (a 40) cI 6 T1), (oa (a 29) cI 42 P1), (oa (a 30) cI 42 Q1), (oa (a 33) cI 42 ox), (oa (a 34) cI 42 oy), (oa (a 37) cZ 201 mt), (oa (a 38) cZ 201 wi), (oa (a 39) cZ 8040 ins)] t.heap) 0 0 := by
  refine zIn (own := "ScaleShopModel") (loc := [(0, .ref k0), (1, .int (nI f)), (2, .int 1), (3, .int (nI b))]) rfl rfl rfl rfl (fun p e s m below meth c hx hb hr hts hown hlocks hml hnm9 A hA hS hP hD hK hXN Q9 hQ9 ls hl => ?_)
  refine lv_aload_n hx hb dX11_isLawful_0 rfl (lv_at hl 0 rfl) ?_
  refine lv_iload_n hx hb dX11_isLawful_1 rfl (lv_at hl 1 rfl) ?_
  obtain ⟨hPc, hDc, hFc, hI1⟩ := zi_sub (wc := [_, _, _, _]) hP hD hS hA [0, 4, 5, 6] (by decide +kernel) rfl
  refine zcall (st1 := [.int (pI (pls n (cF40 cx f) (cF40 cy f)))]) (va_runV (As := [.int (nI f)]) (rest := []) ⟨hx, hb, hml, hown, hts⟩ (k_M_arePlaces l dC dI cI cZ cF s.heap.size k0 a I0 J0 f n mn cx cy (by first | with_reducible assumption | omega) (by first | with_reducible assumption | assumption) (by first | with_reducible assumption | omega)) (csV_186 hts rfl rfl ⟨Nat.le_of_ble_eq_true rfl, Nat.le_of_ble_eq_true rfl⟩) (zPV2 (q0 := 0) (ci := 9) hPc hDc hK hXN rfl rfl) rfl rfl hl.1 rfl (lv_room (Nat.le_of_ble_eq_true rfl)) dX11_isLawful_2 ⟨Nat.le_of_ble_eq_true rfl, Nat.le_of_ble_eq_true rfl⟩) hS hFc hFc rfl (fun t H locs ht hB hk1 hS => ?_)
  obtain ⟨hP1, hD1⟩ := hB
  rw [ht] at hP1
  replace hP := z0 hP hD hk1 hP1 hI1
  clear hk1 hPc hDc hFc hP1 hD1 ht hI1
  refine lv_if_eq (tgt := 16) hx hb dX11_isLawful_5 rfl (fun c_1 => ?_) (fun c_1 => ?_)
  · have c_1 : ¬ (pls n (cF40 cx f) (cF40 cy f)) := zp_0 c_1
    refine lv_iconst (v := 0) hx hb dX11_isLawful_16 rfl ?_
    obtain ⟨hP9, hD9⟩ := zu_sub (wc := [_, _, _, _, _, _, _, _, _, _, _, _, _, _, _, _]) hP hD [true, true, true, true, true, true, true, true, true, true, true, true, true, true, true, true] rfl rfl
    rw [hQ9]
    exact W.zret (ty := .boolean) (v := 0) hx hb hr (rfl) (fun t ht hW => ⟨⟨congrArg (fun z => Outcome.returned (some (Value.int z))) (show (0 : Int32) = pI (lwA ft st tn kd mn cx cy f n (ox 0) (oy 0) MT WI IN (sWp on ox oy cx cy b)) from (zp_f (by unfold lwA; first | exact fun h => absurd h.1 (by first | with_reducible assumption | assumption) | exact fun h => absurd h.2.1 (by first | with_reducible assumption | assumption))).symm), (I0 31), S0, T0, P0, Q0, by rw [ht]; exact hP9, hD9⟩, hS.F ht⟩) hS.2.2 dX11_isLawful_17
  · have c_1 : pls n (cF40 cx f) (cF40 cy f) := zp_1 c_1
    refine lv_aload_n hx hb dX11_isLawful_8 rfl (lv_at hl 0 rfl) ?_
    refine lv_iload_n hx hb dX11_isLawful_9 rfl (lv_at hl 1 rfl) ?_
    obtain ⟨hPc, hDc, hFc⟩ := zo_sub (wc := [_, _, _, _, _, _]) hP hD hS hA [0, 3, 4, 5, 6, 7] (by decide +kernel) rfl
    refine zcall (st1 := [.int (pI (mSm (kd f).toInt n (cF40 cx f) (cF40 cy f)))]) (va_runV (As := [.int (nI f)]) (rest := []) ⟨hx, hb, hml, hown, hts⟩ (k_M_isSimple l dC dI cI cZ cF H.size k0 a I0 J0 f n kd mn cx cy S0 (by first | with_reducible assumption | omega) (by first | with_reducible assumption | assumption) (by first | with_reducible assumption | assumption) (by first | with_reducible assumption | omega)) (csV_187 hts rfl rfl ⟨Nat.le_of_ble_eq_true rfl, Nat.le_of_ble_eq_true rfl⟩) (zPV2 (q0 := 0) (ci := 9) hPc hDc hK hXN rfl rfl) rfl rfl hl.1 rfl (lv_room (Nat.le_of_ble_eq_true rfl)) dX11_isLawful_10 ⟨Nat.le_of_ble_eq_true rfl, Nat.le_of_ble_eq_true rfl⟩) hS hFc hFc rfl (fun t H locs ht hB hk1 hS => ?_)
    obtain ⟨q_2, hP1, hD1⟩ := hB
    rw [ht] at hP1
    obtain ⟨hP, hD⟩ := zn (W2 := [_, _, _, _, _, _, _, (oa (a 32) cI 8 q_2), _, _, _, _, _, _, _, _]) hP hD hk1 hFc hP1 hD1 [0, 3, 4, 5, 6, 7] zl_154 zl_154 [0, 3, 4, 5, 6, 7] (by decide +kernel) rfl rfl rfl rfl rfl
    clear hk1 hPc hDc hFc hP1 hD1 ht
    refine lv_if_ne (tgt := 18) hx hb dX11_isLawful_13 rfl (fun c_3 => ?_) (fun c_3 => ?_)
    · have c_3 : mSm (kd f).toInt n (cF40 cx f) (cF40 cy f) := zp_1 c_3
      have hn1 := mSm_pos (by first | with_reducible assumption | assumption)
      have hpf : pls n (cF40 cx f) (cF40 cy f) := (by first | with_reducible assumption | assumption)
      refine lv_iconst (v := 0) hx hb dX11_isLawful_18 rfl ?_
      refine lv_istore (lv' := [(4, .int 0), (0, .ref k0), (1, .int (nI f)), (2, .int 1), (3, .int (nI b))]) hx hb dX11_isLawful_19 hl (Nat.le_of_ble_eq_true rfl) rfl (fun ls hl => ?_)
      have hl_21 : ∀ (n9 : Nat) (q : Nat) (z9 : Int32) (S1 : Nat → Int32) (T1 : Nat → Int32) (P1 : Nat → Int32) (Q1 : Nat → Int32) (H : Heap) (locs : List Loc) (ls : Array Slot), ft - q < n9 → (q ≤ ft) → (∀ j, j < q → lvF ft st tn j → j ≠ f → lawTo (ox 0) (oy 0) (kd f).toInt n (cF40 cx f) (cF40 cy f) (kd j).toInt (nN (mn j)) (cF40 cx j) (cF40 cy j) (MT j) (WI j) (IN j) ((sWp on ox oy cx cy b) j)) → va_P (dC, dI) classes [(om k0 a (upd I0 31 z9) J0), (oa (a 5) cI 201 st), (oa (a 6) cZ 201 tn), (oa (a 1) cI 201 kd), (oa (a 11) cI 201 mn), (oa (a 12) cI 8040 cx), (oa (a 13) cI 8040 cy), (oa (a 32) cI 8 S1), (oa (a 40) cI 6 T1), (oa (a 29) cI 42 P1), (oa (a 30) cI 42 Q1), (oa (a 33) cI 42 ox), (oa (a 34) cI 42 oy), (oa (a 37) cZ 201 mt), (oa (a 38) cZ 201 wi), (oa (a 39) cZ 8040 ins)] H → va_D A [(om k0 a (upd I0 31 z9) J0), (oa (a 5) cI 201 st), (oa (a 6) cZ 201 tn), (oa (a 1) cI 201 kd), (oa (a 11) cI 201 mn), (oa (a 12) cI 8040 cx), (oa (a 13) cI 8040 cy), (oa (a 32) cI 8 S1), (oa (a 40) cI 6 T1), (oa (a 29) cI 42 P1), (oa (a 30) cI 42 Q1), (oa (a 33) cI 42 ox), (oa (a 34) cI 42 oy), (oa (a 37) cZ 201 mt), (oa (a 38) cZ 201 wi), (oa (a 39) cZ 8040 ins)] → va_S A s.heap H locs → lv_has ls 5 [(4, .int (nI q)), (0, .ref k0), (1, .int (nI f)), (2, .int 1), (3, .int (nI b))] → W p l e ({ frames := 5, cells := 0, slots := 0, locals := 135 } : Room) s m ([.ref k0, .int (nI f), .int 1, .int (nI b)] : List Value).toArray below meth c H locs 0 0 Q9 (F0 m 21 ls []) := by
        intro n9
        induction n9 with
        | zero => intro q z9 S1 T1 P1 Q1 H locs ls hm; exact absurd hm (Nat.not_lt_zero _)
        | succ n9 ih_21 =>
          intro q z9 S1 T1 P1 Q1 H locs ls hm hq hall hP hD hS hl
          refine lv_iload hx hb dX11_isLawful_21 (lv_at hl 0 rfl) ?_
          refine lv_aload_n hx hb dX11_isLawful_23 rfl (lv_at hl 1 rfl) ?_
          refine va_get (D := (dC, dI)) (ci := 9) (v := .int (I0 0)) (C := RX11) (T := TX11) (N := 55) hx hb hts inX11 hown hK hP 0 rfl rfl 0 (Nat.le_of_ble_eq_true rfl) (hts _ mw_1159) (fun _ h9 => h9) rfl dX11_isLawful_24 ?_
          refine zz_i (v := nI ft) (hft) ?_
          have b9_5 : zlt (q) := show q < 2147483648 by omega
          have b9_6 : zlt (ft) := show ft < 2147483648 by omega
          refine lv_icmp_ge (tgt := 65) hx hb dX11_isLawful_27 rfl (fun c_4 => ?_) (fun c_4 => ?_)
          · have c_4 : ((ft : Nat) : Int) ≤ ((q : Nat) : Int) := zc_le (nI_toInt b9_6) (nI_toInt b9_5) c_4
            refine lv_iconst (v := 1) hx hb dX11_isLawful_65 rfl ?_
            obtain ⟨hP9, hD9⟩ := zu_sub (wc := [_, _, _, _, _, _, _, _, _, _, _, _, _, _, _, _]) hP hD [true, true, true, true, true, true, true, true, true, true, true, true, true, true, true, true] rfl rfl
            rw [hQ9]
            exact W.zret (ty := .boolean) (v := 1) hx hb hr (rfl) (fun t ht hW => ⟨⟨congrArg (fun z => Outcome.returned (some (Value.int z))) (show (1 : Int32) = pI (lwA ft st tn kd mn cx cy f n (ox 0) (oy 0) MT WI IN (sWp on ox oy cx cy b)) from (zp_t (⟨by assumption, by assumption, fun j h1 h2 => hall j (by omega) h1 h2⟩)).symm), z9, S1, T1, P1, Q1, by rw [ht]; exact hP9, hD9⟩, hS.F ht⟩) hS.2.2 dX11_isLawful_66
          · have c_4 : ((q : Nat) : Int) < ((ft : Nat) : Int) := zc_nle (nI_toInt b9_6) (nI_toInt b9_5) c_4
            refine lv_iload hx hb dX11_isLawful_30 (lv_at hl 0 rfl) ?_
            refine lv_iload_n hx hb dX11_isLawful_32 rfl (lv_at hl 2 rfl) ?_
            have b9_8 : zlt (f) := show f < 2147483648 by omega
            refine lv_icmp_eq (tgt := 59) hx hb dX11_isLawful_33 rfl (fun c_7 => ?_) (fun c_7 => ?_)
            · have c_7 : ((q : Nat) : Int) = ((f : Nat) : Int) := zc_eq (nI_toInt b9_5) (nI_toInt b9_8) c_7
              refine lv_iinc (v := nI (q + 1)) (lv' := [(4, .int (nI (q + 1))), (0, .ref k0), (1, .int (nI f)), (2, .int 1), (3, .int (nI b))]) hx hb dX11_isLawful_59 hl (k := 0) rfl (nI_add q 1) (Nat.le_of_ble_eq_true rfl) rfl (fun ls hl => ?_)
              refine lv_goto (tgt := 21) hx hb dX11_isLawful_62 rfl ?_
              exact ih_21 (q + 1) z9 S1 T1 P1 Q1 H locs ls (by first | with_reducible assumption | omega) (by first | with_reducible assumption | omega) (by intro j hj h1 h2; rcases Nat.lt_or_ge j q with h | h; exact hall j h h1 h2; obtain rfl : j = q := (by first | with_reducible assumption | omega); first | (exfalso; omega) | exact absurd h1 (by first | with_reducible assumption | assumption) | assumption) hP hD hS (lv_sub hl [0, 1, 2, 3, 4] rfl)
            · have c_7 : ¬ ((q : Nat) : Int) = ((f : Nat) : Int) := zc_ne (nI_toInt b9_5) (nI_toInt b9_8) c_7
              refine lv_aload_n hx hb dX11_isLawful_36 rfl (lv_at hl 1 rfl) ?_
              refine lv_iload hx hb dX11_isLawful_37 (lv_at hl 0 rfl) ?_
              obtain ⟨hPc, hDc, hFc, hI1⟩ := zi_sub (wc := [_, _, _]) hP hD hS hA [0, 1, 2] rfl rfl
              refine zcall (st1 := [.int (pI (q < ft ∧ (st q).toInt = 1 ∧ (tn q).toInt = 0))]) (va_runV (As := [.int (nI q)]) (rest := []) ⟨hx, hb, hml, hown, hts⟩ (k_M_is_n l dC dI cI cZ cF H.size k0 a (upd I0 31 z9) J0 q ft st tn (by first | with_reducible assumption | assumption) (by first | with_reducible assumption | omega) (by first | with_reducible assumption | omega)) (csV_179 hts rfl rfl ⟨Nat.le_of_ble_eq_true rfl, Nat.le_of_ble_eq_true rfl⟩) (zPV2 (q0 := 0) (ci := 9) hPc hDc hK hXN rfl rfl) rfl rfl hl.1 rfl (lv_room (Nat.le_of_ble_eq_true rfl)) dX11_isLawful_39 ⟨Nat.le_of_ble_eq_true rfl, Nat.le_of_ble_eq_true rfl⟩) hS hFc hFc rfl (fun t H locs ht hB hk1 hS => ?_)
              obtain ⟨hP1, hD1⟩ := hB
              rw [ht] at hP1
              replace hP := z0 hP hD hk1 hP1 hI1
              clear hk1 hPc hDc hFc hP1 hD1 ht hI1
              refine lv_if_eq (tgt := 59) hx hb dX11_isLawful_42 rfl (fun c_9 => ?_) (fun c_9 => ?_)
              · have c_9 : ¬ (q < ft ∧ (st q).toInt = 1 ∧ (tn q).toInt = 0) := zp_0 c_9
                refine lv_iinc (v := nI (q + 1)) (lv' := [(4, .int (nI (q + 1))), (0, .ref k0), (1, .int (nI f)), (2, .int 1), (3, .int (nI b))]) hx hb dX11_isLawful_59 hl (k := 0) rfl (nI_add q 1) (Nat.le_of_ble_eq_true rfl) rfl (fun ls hl => ?_)
                refine lv_goto (tgt := 21) hx hb dX11_isLawful_62 rfl ?_
                exact ih_21 (q + 1) z9 S1 T1 P1 Q1 H locs ls (by first | with_reducible assumption | omega) (by first | with_reducible assumption | omega) (by intro j hj h1 h2; rcases Nat.lt_or_ge j q with h | h; exact hall j h h1 h2; obtain rfl : j = q := (by first | with_reducible assumption | omega); first | (exfalso; omega) | exact absurd h1 (by first | with_reducible assumption | assumption) | assumption) hP hD hS (lv_sub hl [0, 1, 2, 3, 4] rfl)
              · have c_9 : q < ft ∧ (st q).toInt = 1 ∧ (tn q).toInt = 0 := zp_1 c_9
                have hw9 := hwf q (by first | with_reducible assumption | assumption) (by omega)
                have hm9 := hw9.1
                have hn9 := hw9.2.1
                have hp9 := hw9.2.2
                refine lv_aload_n hx hb dX11_isLawful_45 rfl (lv_at hl 1 rfl) ?_
                refine lv_iload_n hx hb dX11_isLawful_46 rfl (lv_at hl 2 rfl) ?_
                refine lv_iload hx hb dX11_isLawful_47 (lv_at hl 0 rfl) ?_
                refine lv_iload_n hx hb dX11_isLawful_49 rfl (lv_at hl 3 rfl) ?_
                refine lv_iload_n hx hb dX11_isLawful_50 rfl (lv_at hl 4 rfl) ?_
                obtain ⟨hPc, hDc, hFc⟩ := zo_sub (wc := [_, _, _, _, _, _, _, _, _, _, _, _, _, _]) hP hD hS hA [0, 3, 4, 5, 6, 7, 8, 9, 10, 11, 12, 13, 14, 15] (by decide +kernel) rfl
                refine zcall (st1 := [.int (pI (lawTo (ox 0) (oy 0) (kd f).toInt n (cF40 cx f) (cF40 cy f) (kd q).toInt (nN (mn q)) (cF40 cx q) (cF40 cy q) (MT q) (WI q) (IN q) (fun k => swB on ox oy b (cF40 cx q k).toInt (cF40 cy q k).toInt)))]) (va_runV (As := [.int (nI f), .int (nI q), .int 1, .int (nI b)]) (rest := []) ⟨hx, hb, hml, hown, hts⟩ (k_M_isLawfulTo_p l dC dI cI cZ cF H.size k0 a (upd I0 31 z9) J0 f n q (nN (mn q)) on b kd mn cx cy S1 T1 P1 Q1 ox oy mt wi ins (MT q) (WI q) (IN q) (by first | with_reducible assumption | omega) (by first | with_reducible assumption | assumption) (by first | with_reducible assumption | omega) (by first | with_reducible assumption | assumption) (by first | with_reducible assumption | omega) (by first | with_reducible assumption | assumption) (by first | with_reducible assumption | omega) (by first | with_reducible assumption | assumption) (by first | with_reducible assumption | assumption) (by first | with_reducible assumption | omega) (ho1) (hpo) (hmt q (by first | with_reducible assumption | assumption) (by first | with_reducible assumption | omega)) (hwi q (by first | with_reducible assumption | assumption) (by first | with_reducible assumption | omega)) (hin q (by first | with_reducible assumption | assumption) (by first | with_reducible assumption | omega)) (by first | with_reducible assumption | omega)) (csV_188 hts rfl rfl ⟨Nat.le_of_ble_eq_true rfl, Nat.le_of_ble_eq_true rfl⟩) (zPV2 (q0 := 0) (ci := 9) hPc hDc hK hXN rfl rfl) rfl rfl hl.1 rfl (lv_room (Nat.le_of_ble_eq_true rfl)) dX11_isLawful_51 ⟨Nat.le_of_ble_eq_true rfl, Nat.le_of_ble_eq_true rfl⟩) hS hFc hFc rfl (fun t H locs ht hB hk1 hS => ?_)
                obtain ⟨q_10, q_11, q_12, q_13, q_14, hP1, hD1⟩ := hB
                rw [ht] at hP1
                obtain ⟨hP, hD⟩ := zn (W2 := [(om k0 a (upd I0 31 q_10) J0), _, _, _, _, _, _, (oa (a 32) cI 8 q_11), (oa (a 40) cI 6 q_12), (oa (a 29) cI 42 q_13), (oa (a 30) cI 42 q_14), _, _, _, _, _]) hP hD hk1 hFc hP1 hD1 zl_155 [false, true, true] zl_156 zl_155 (by decide +kernel) rfl rfl rfl rfl rfl
                clear hk1 hPc hDc hFc hP1 hD1 ht
                refine zz_i (v := pI (lawTo (ox 0) (oy 0) (kd f).toInt n (cF40 cx f) (cF40 cy f) (kd q).toInt (nN (mn q)) (cF40 cx q) (cF40 cy q) (MT q) (WI q) (IN q) ((sWp on ox oy cx cy b) q))) (rfl) ?_
                refine lv_if_ne (tgt := 59) hx hb dX11_isLawful_54 rfl (fun c_15 => ?_) (fun c_15 => ?_)
                · have c_15 : lawTo (ox 0) (oy 0) (kd f).toInt n (cF40 cx f) (cF40 cy f) (kd q).toInt (nN (mn q)) (cF40 cx q) (cF40 cy q) (MT q) (WI q) (IN q) ((sWp on ox oy cx cy b) q) := zp_1 c_15
                  refine lv_iinc (v := nI (q + 1)) (lv' := [(4, .int (nI (q + 1))), (0, .ref k0), (1, .int (nI f)), (2, .int 1), (3, .int (nI b))]) hx hb dX11_isLawful_59 hl (k := 0) rfl (nI_add q 1) (Nat.le_of_ble_eq_true rfl) rfl (fun ls hl => ?_)
                  refine lv_goto (tgt := 21) hx hb dX11_isLawful_62 rfl ?_
                  exact ih_21 (q + 1) q_10 q_11 q_12 q_13 q_14 H locs ls (by first | with_reducible assumption | omega) (by first | with_reducible assumption | omega) (by intro j hj h1 h2; rcases Nat.lt_or_ge j q with h | h; exact hall j h h1 h2; obtain rfl : j = q := (by first | with_reducible assumption | omega); first | (exfalso; omega) | exact absurd h1 (by first | with_reducible assumption | assumption) | assumption) hP hD hS (lv_sub hl [0, 1, 2, 3, 4] rfl)
                · have c_15 : ¬ (lawTo (ox 0) (oy 0) (kd f).toInt n (cF40 cx f) (cF40 cy f) (kd q).toInt (nN (mn q)) (cF40 cx q) (cF40 cy q) (MT q) (WI q) (IN q) ((sWp on ox oy cx cy b) q)) := zp_0 c_15
                  refine lv_iconst (v := 0) hx hb dX11_isLawful_57 rfl ?_
                  obtain ⟨hP9, hD9⟩ := zu_sub (wc := [_, _, _, _, _, _, _, _, _, _, _, _, _, _, _, _]) hP hD [true, true, true, true, true, true, true, true, true, true, true, true, true, true, true, true] rfl rfl
                  rw [hQ9]
                  exact W.zret (ty := .boolean) (v := 0) hx hb hr (rfl) (fun t ht hW => ⟨⟨congrArg (fun z => Outcome.returned (some (Value.int z))) (show (0 : Int32) = pI (lwA ft st tn kd mn cx cy f n (ox 0) (oy 0) MT WI IN (sWp on ox oy cx cy b)) from (zp_f (fun h => absurd (h.2.2 q (by first | with_reducible assumption | assumption) (by omega)) (by first | with_reducible assumption | assumption))).symm), q_10, q_11, q_12, q_13, q_14, by rw [ht]; exact hP9, hD9⟩, hS.F ht⟩) hS.2.2 dX11_isLawful_58
      exact hl_21 _ 0 (I0 31) q_2 T0 P0 Q0 H locs ls (Nat.lt_succ_self _) (by first | with_reducible assumption | omega) (by intro j hj; omega) hP hD hS (lv_sub hl [0, 1, 2, 3, 4] rfl)
    · have c_3 : ¬ (mSm (kd f).toInt n (cF40 cx f) (cF40 cy f)) := zp_0 c_3
      refine lv_iconst (v := 0) hx hb dX11_isLawful_16 rfl ?_
      obtain ⟨hP9, hD9⟩ := zu_sub (wc := [_, _, _, _, _, _, _, _, _, _, _, _, _, _, _, _]) hP hD [true, true, true, true, true, true, true, true, true, true, true, true, true, true, true, true] rfl rfl
      rw [hQ9]
      exact W.zret (ty := .boolean) (v := 0) hx hb hr (rfl) (fun t ht hW => ⟨⟨congrArg (fun z => Outcome.returned (some (Value.int z))) (show (0 : Int32) = pI (lwA ft st tn kd mn cx cy f n (ox 0) (oy 0) MT WI IN (sWp on ox oy cx cy b)) from (zp_f (by unfold lwA; first | exact fun h => absurd h.1 (by first | with_reducible assumption | assumption) | exact fun h => absurd h.2.1 (by first | with_reducible assumption | assumption))).symm), (I0 31), q_2, T0, P0, Q0, by rw [ht]; exact hP9, hD9⟩, hS.F ht⟩) hS.2.2 dX11_isLawful_17
set_option maxHeartbeats 4000000 in
set_option maxRecDepth 100000 in
theorem k_M_isLawful_s (l : Launch) (dC : Nat → ClassId) (dI : Nat → Nat → Nat) (cI cZ cF : ClassId) (sz : Nat) (k0 : Nat) (a : Nat → Nat) (I0 : Nat → Int32) (J0 : Nat → Int64) (f : Nat) (n : Nat) (ft : Nat) (on : Nat) (st : Nat → Int32) (tn : Nat → Int32) (kd : Nat → Int32) (mn : Nat → Int32) (cx : Nat → Int32) (cy : Nat → Int32) (S0 : Nat → Int32) (T0 : Nat → Int32) (P0 : Nat → Int32) (Q0 : Nat → Int32) (ox : Nat → Int32) (oy : Nat → Int32) (mt : Nat → Int32) (wi : Nat → Int32) (ins : Nat → Int32) (MT : Nat → Prop) (WI : Nat → Prop) (IN : Nat → Nat → Prop) (hft : I0 0 = nI ft) (h200 : ft ≤ 200) (hf_f : f ≤ 200) (hm_f : mn f = nI n) (hn_f : n ≤ 40) (hwf : ∀ q, lvF ft st tn q → q ≠ f → wfM mn cx cy q) (hon : I0 35 = nI on) (ho40 : on ≤ 40) (ho1 : 1 ≤ on) (hpo : pls on ox oy) (hmt : ∀ q, lvF ft st tn q → q ≠ f → mt q = pI (MT q)) (hwi : ∀ q, lvF ft st tn q → q ≠ f → 5 ≤ (kd q).toInt → wi q = pI (WI q)) (hin : ∀ q, lvF ft st tn q → q ≠ f → ∀ k, k < nN (mn q) → 5 ≤ (kd f).toInt → ins (40 * q + k) = pI (IN q k)) : zM l yX11_isLawful cX11_isLawful 5 (some .boolean) ({ frames := 5, cells := 0, slots := 0, locals := 135 } : Room) [.ref k0, .int (nI f), .int 5, .int (-1)] (dC, dI) (zTy cI cZ cF) [(om k0 a I0 J0), (oa (a 5) cI 201 st), (oa (a 6) cZ 201 tn), (oa (a 1) cI 201 kd), (oa (a 11) cI 201 mn), (oa (a 12) cI 8040 cx), (oa (a 13) cI 8040 cy), (oa (a 32) cI 8 S0), (oa (a 40) cI 6 T0), (oa (a 29) cI 42 P0), (oa (a 30) cI 42 Q0), (oa (a 33) cI 42 ox), (oa (a 34) cI 42 oy), (oa (a 37) cZ 201 mt), (oa (a 38) cZ 201 wi), (oa (a 39) cZ 8040 ins)] sz (some (.int (pI (lwA ft st tn kd mn cx cy f n (ox 0) (oy 0) MT WI IN (sW0))))) (fun A t => ∃ (z9 : Int32), ∃ (S1 : Nat → Int32), ∃ (T1 : Nat → Int32), ∃ (P1 : Nat → Int32), ∃ (Q1 : Nat → Int32), zPD (dC, dI) classes A [(om k0 a (upd I0 31 z9) J0), (oa (a 5) cI 201 st), (oa (a 6) cZ 201 tn), (oa (a 1) cI 201 kd), (oa (a 11) cI 201 mn), (oa (a 12) cI 8040 cx), (oa (a 13) cI 8040 cy), (oa (a 32) cI 8 S1), (oa (a 40) cI 6 T1), (oa (a 29) cI 42 P1), (oa (a 30) cI 42 Q1), (oa (a 33) cI 42 ox), (oa (a 34) cI 42 oy), (oa (a 37) cZ 201 mt), (oa (a 38) cZ 201 wi), (oa (a 39) cZ 8040 ins)] t.heap) 0 0 := by
  refine zIn (own := "ScaleShopModel") (loc := [(0, .ref k0), (1, .int (nI f)), (2, .int 5), (3, .int (-1))]) rfl rfl rfl rfl (fun p e s m below meth c hx hb hr hts hown hlocks hml hnm9 A hA hS hP hD hK hXN Q9 hQ9 ls hl => ?_)
  refine lv_aload_n hx hb dX11_isLawful_0 rfl (lv_at hl 0 rfl) ?_
  refine lv_iload_n hx hb dX11_isLawful_1 rfl (lv_at hl 1 rfl) ?_
  obtain ⟨hPc, hDc, hFc, hI1⟩ := zi_sub (wc := [_, _, _, _]) hP hD hS hA [0, 4, 5, 6] (by decide +kernel) rfl
  refine zcall (st1 := [.int (pI (pls n (cF40 cx f) (cF40 cy f)))]) (va_runV (As := [.int (nI f)]) (rest := []) ⟨hx, hb, hml, hown, hts⟩ (k_M_arePlaces l dC dI cI cZ cF s.heap.size k0 a I0 J0 f n mn cx cy (by first | with_reducible assumption | omega) (by first | with_reducible assumption | assumption) (by first | with_reducible assumption | omega)) (csV_186 hts rfl rfl ⟨Nat.le_of_ble_eq_true rfl, Nat.le_of_ble_eq_true rfl⟩) (zPV2 (q0 := 0) (ci := 9) hPc hDc hK hXN rfl rfl) rfl rfl hl.1 rfl (lv_room (Nat.le_of_ble_eq_true rfl)) dX11_isLawful_2 ⟨Nat.le_of_ble_eq_true rfl, Nat.le_of_ble_eq_true rfl⟩) hS hFc hFc rfl (fun t H locs ht hB hk1 hS => ?_)
  obtain ⟨hP1, hD1⟩ := hB
  rw [ht] at hP1
  replace hP := z0 hP hD hk1 hP1 hI1
  clear hk1 hPc hDc hFc hP1 hD1 ht hI1
  refine lv_if_eq (tgt := 16) hx hb dX11_isLawful_5 rfl (fun c_1 => ?_) (fun c_1 => ?_)
  · have c_1 : ¬ (pls n (cF40 cx f) (cF40 cy f)) := zp_0 c_1
    refine lv_iconst (v := 0) hx hb dX11_isLawful_16 rfl ?_
    obtain ⟨hP9, hD9⟩ := zu_sub (wc := [_, _, _, _, _, _, _, _, _, _, _, _, _, _, _, _]) hP hD [true, true, true, true, true, true, true, true, true, true, true, true, true, true, true, true] rfl rfl
    rw [hQ9]
    exact W.zret (ty := .boolean) (v := 0) hx hb hr (rfl) (fun t ht hW => ⟨⟨congrArg (fun z => Outcome.returned (some (Value.int z))) (show (0 : Int32) = pI (lwA ft st tn kd mn cx cy f n (ox 0) (oy 0) MT WI IN (sW0)) from (zp_f (by unfold lwA; first | exact fun h => absurd h.1 (by first | with_reducible assumption | assumption) | exact fun h => absurd h.2.1 (by first | with_reducible assumption | assumption))).symm), (I0 31), S0, T0, P0, Q0, by rw [ht]; exact hP9, hD9⟩, hS.F ht⟩) hS.2.2 dX11_isLawful_17
  · have c_1 : pls n (cF40 cx f) (cF40 cy f) := zp_1 c_1
    refine lv_aload_n hx hb dX11_isLawful_8 rfl (lv_at hl 0 rfl) ?_
    refine lv_iload_n hx hb dX11_isLawful_9 rfl (lv_at hl 1 rfl) ?_
    obtain ⟨hPc, hDc, hFc⟩ := zo_sub (wc := [_, _, _, _, _, _]) hP hD hS hA [0, 3, 4, 5, 6, 7] (by decide +kernel) rfl
    refine zcall (st1 := [.int (pI (mSm (kd f).toInt n (cF40 cx f) (cF40 cy f)))]) (va_runV (As := [.int (nI f)]) (rest := []) ⟨hx, hb, hml, hown, hts⟩ (k_M_isSimple l dC dI cI cZ cF H.size k0 a I0 J0 f n kd mn cx cy S0 (by first | with_reducible assumption | omega) (by first | with_reducible assumption | assumption) (by first | with_reducible assumption | assumption) (by first | with_reducible assumption | omega)) (csV_187 hts rfl rfl ⟨Nat.le_of_ble_eq_true rfl, Nat.le_of_ble_eq_true rfl⟩) (zPV2 (q0 := 0) (ci := 9) hPc hDc hK hXN rfl rfl) rfl rfl hl.1 rfl (lv_room (Nat.le_of_ble_eq_true rfl)) dX11_isLawful_10 ⟨Nat.le_of_ble_eq_true rfl, Nat.le_of_ble_eq_true rfl⟩) hS hFc hFc rfl (fun t H locs ht hB hk1 hS => ?_)
    obtain ⟨q_2, hP1, hD1⟩ := hB
    rw [ht] at hP1
    obtain ⟨hP, hD⟩ := zn (W2 := [_, _, _, _, _, _, _, (oa (a 32) cI 8 q_2), _, _, _, _, _, _, _, _]) hP hD hk1 hFc hP1 hD1 [0, 3, 4, 5, 6, 7] zl_154 zl_154 [0, 3, 4, 5, 6, 7] (by decide +kernel) rfl rfl rfl rfl rfl
    clear hk1 hPc hDc hFc hP1 hD1 ht
    refine lv_if_ne (tgt := 18) hx hb dX11_isLawful_13 rfl (fun c_3 => ?_) (fun c_3 => ?_)
    · have c_3 : mSm (kd f).toInt n (cF40 cx f) (cF40 cy f) := zp_1 c_3
      have hn1 := mSm_pos (by first | with_reducible assumption | assumption)
      have hpf : pls n (cF40 cx f) (cF40 cy f) := (by first | with_reducible assumption | assumption)
      refine lv_iconst (v := 0) hx hb dX11_isLawful_18 rfl ?_
      refine lv_istore (lv' := [(4, .int 0), (0, .ref k0), (1, .int (nI f)), (2, .int 5), (3, .int (-1))]) hx hb dX11_isLawful_19 hl (Nat.le_of_ble_eq_true rfl) rfl (fun ls hl => ?_)
      have hl_21 : ∀ (n9 : Nat) (q : Nat) (z9 : Int32) (S1 : Nat → Int32) (T1 : Nat → Int32) (P1 : Nat → Int32) (Q1 : Nat → Int32) (H : Heap) (locs : List Loc) (ls : Array Slot), ft - q < n9 → (q ≤ ft) → (∀ j, j < q → lvF ft st tn j → j ≠ f → lawTo (ox 0) (oy 0) (kd f).toInt n (cF40 cx f) (cF40 cy f) (kd j).toInt (nN (mn j)) (cF40 cx j) (cF40 cy j) (MT j) (WI j) (IN j) (sW0 j)) → va_P (dC, dI) classes [(om k0 a (upd I0 31 z9) J0), (oa (a 5) cI 201 st), (oa (a 6) cZ 201 tn), (oa (a 1) cI 201 kd), (oa (a 11) cI 201 mn), (oa (a 12) cI 8040 cx), (oa (a 13) cI 8040 cy), (oa (a 32) cI 8 S1), (oa (a 40) cI 6 T1), (oa (a 29) cI 42 P1), (oa (a 30) cI 42 Q1), (oa (a 33) cI 42 ox), (oa (a 34) cI 42 oy), (oa (a 37) cZ 201 mt), (oa (a 38) cZ 201 wi), (oa (a 39) cZ 8040 ins)] H → va_D A [(om k0 a (upd I0 31 z9) J0), (oa (a 5) cI 201 st), (oa (a 6) cZ 201 tn), (oa (a 1) cI 201 kd), (oa (a 11) cI 201 mn), (oa (a 12) cI 8040 cx), (oa (a 13) cI 8040 cy), (oa (a 32) cI 8 S1), (oa (a 40) cI 6 T1), (oa (a 29) cI 42 P1), (oa (a 30) cI 42 Q1), (oa (a 33) cI 42 ox), (oa (a 34) cI 42 oy), (oa (a 37) cZ 201 mt), (oa (a 38) cZ 201 wi), (oa (a 39) cZ 8040 ins)] → va_S A s.heap H locs → lv_has ls 5 [(4, .int (nI q)), (0, .ref k0), (1, .int (nI f)), (2, .int 5), (3, .int (-1))] → W p l e ({ frames := 5, cells := 0, slots := 0, locals := 135 } : Room) s m ([.ref k0, .int (nI f), .int 5, .int (-1)] : List Value).toArray below meth c H locs 0 0 Q9 (F0 m 21 ls []) := by
        intro n9
        induction n9 with
        | zero => intro q z9 S1 T1 P1 Q1 H locs ls hm; exact absurd hm (Nat.not_lt_zero _)
        | succ n9 ih_21 =>
          intro q z9 S1 T1 P1 Q1 H locs ls hm hq hall hP hD hS hl
          refine lv_iload hx hb dX11_isLawful_21 (lv_at hl 0 rfl) ?_
          refine lv_aload_n hx hb dX11_isLawful_23 rfl (lv_at hl 1 rfl) ?_
          refine va_get (D := (dC, dI)) (ci := 9) (v := .int (I0 0)) (C := RX11) (T := TX11) (N := 55) hx hb hts inX11 hown hK hP 0 rfl rfl 0 (Nat.le_of_ble_eq_true rfl) (hts _ mw_1159) (fun _ h9 => h9) rfl dX11_isLawful_24 ?_
          refine zz_i (v := nI ft) (hft) ?_
          have b9_5 : zlt (q) := show q < 2147483648 by omega
          have b9_6 : zlt (ft) := show ft < 2147483648 by omega
          refine lv_icmp_ge (tgt := 65) hx hb dX11_isLawful_27 rfl (fun c_4 => ?_) (fun c_4 => ?_)
          · have c_4 : ((ft : Nat) : Int) ≤ ((q : Nat) : Int) := zc_le (nI_toInt b9_6) (nI_toInt b9_5) c_4
            refine lv_iconst (v := 1) hx hb dX11_isLawful_65 rfl ?_
            obtain ⟨hP9, hD9⟩ := zu_sub (wc := [_, _, _, _, _, _, _, _, _, _, _, _, _, _, _, _]) hP hD [true, true, true, true, true, true, true, true, true, true, true, true, true, true, true, true] rfl rfl
            rw [hQ9]
            exact W.zret (ty := .boolean) (v := 1) hx hb hr (rfl) (fun t ht hW => ⟨⟨congrArg (fun z => Outcome.returned (some (Value.int z))) (show (1 : Int32) = pI (lwA ft st tn kd mn cx cy f n (ox 0) (oy 0) MT WI IN (sW0)) from (zp_t (⟨by assumption, by assumption, fun j h1 h2 => hall j (by omega) h1 h2⟩)).symm), z9, S1, T1, P1, Q1, by rw [ht]; exact hP9, hD9⟩, hS.F ht⟩) hS.2.2 dX11_isLawful_66
          · have c_4 : ((q : Nat) : Int) < ((ft : Nat) : Int) := zc_nle (nI_toInt b9_6) (nI_toInt b9_5) c_4
            refine lv_iload hx hb dX11_isLawful_30 (lv_at hl 0 rfl) ?_
            refine lv_iload_n hx hb dX11_isLawful_32 rfl (lv_at hl 2 rfl) ?_
            have b9_8 : zlt (f) := show f < 2147483648 by omega
            refine lv_icmp_eq (tgt := 59) hx hb dX11_isLawful_33 rfl (fun c_7 => ?_) (fun c_7 => ?_)
            · have c_7 : ((q : Nat) : Int) = ((f : Nat) : Int) := zc_eq (nI_toInt b9_5) (nI_toInt b9_8) c_7
              refine lv_iinc (v := nI (q + 1)) (lv' := [(4, .int (nI (q + 1))), (0, .ref k0), (1, .int (nI f)), (2, .int 5), (3, .int (-1))]) hx hb dX11_isLawful_59 hl (k := 0) rfl (nI_add q 1) (Nat.le_of_ble_eq_true rfl) rfl (fun ls hl => ?_)
              refine lv_goto (tgt := 21) hx hb dX11_isLawful_62 rfl ?_
              exact ih_21 (q + 1) z9 S1 T1 P1 Q1 H locs ls (by first | with_reducible assumption | omega) (by first | with_reducible assumption | omega) (by intro j hj h1 h2; rcases Nat.lt_or_ge j q with h | h; exact hall j h h1 h2; obtain rfl : j = q := (by first | with_reducible assumption | omega); first | (exfalso; omega) | exact absurd h1 (by first | with_reducible assumption | assumption) | assumption) hP hD hS (lv_sub hl [0, 1, 2, 3, 4] rfl)
            · have c_7 : ¬ ((q : Nat) : Int) = ((f : Nat) : Int) := zc_ne (nI_toInt b9_5) (nI_toInt b9_8) c_7
              refine lv_aload_n hx hb dX11_isLawful_36 rfl (lv_at hl 1 rfl) ?_
              refine lv_iload hx hb dX11_isLawful_37 (lv_at hl 0 rfl) ?_
              obtain ⟨hPc, hDc, hFc, hI1⟩ := zi_sub (wc := [_, _, _]) hP hD hS hA [0, 1, 2] rfl rfl
              refine zcall (st1 := [.int (pI (q < ft ∧ (st q).toInt = 1 ∧ (tn q).toInt = 0))]) (va_runV (As := [.int (nI q)]) (rest := []) ⟨hx, hb, hml, hown, hts⟩ (k_M_is_n l dC dI cI cZ cF H.size k0 a (upd I0 31 z9) J0 q ft st tn (by first | with_reducible assumption | assumption) (by first | with_reducible assumption | omega) (by first | with_reducible assumption | omega)) (csV_179 hts rfl rfl ⟨Nat.le_of_ble_eq_true rfl, Nat.le_of_ble_eq_true rfl⟩) (zPV2 (q0 := 0) (ci := 9) hPc hDc hK hXN rfl rfl) rfl rfl hl.1 rfl (lv_room (Nat.le_of_ble_eq_true rfl)) dX11_isLawful_39 ⟨Nat.le_of_ble_eq_true rfl, Nat.le_of_ble_eq_true rfl⟩) hS hFc hFc rfl (fun t H locs ht hB hk1 hS => ?_)
              obtain ⟨hP1, hD1⟩ := hB
              rw [ht] at hP1
              replace hP := z0 hP hD hk1 hP1 hI1
              clear hk1 hPc hDc hFc hP1 hD1 ht hI1
              refine lv_if_eq (tgt := 59) hx hb dX11_isLawful_42 rfl (fun c_9 => ?_) (fun c_9 => ?_)
              · have c_9 : ¬ (q < ft ∧ (st q).toInt = 1 ∧ (tn q).toInt = 0) := zp_0 c_9
                refine lv_iinc (v := nI (q + 1)) (lv' := [(4, .int (nI (q + 1))), (0, .ref k0), (1, .int (nI f)), (2, .int 5), (3, .int (-1))]) hx hb dX11_isLawful_59 hl (k := 0) rfl (nI_add q 1) (Nat.le_of_ble_eq_true rfl) rfl (fun ls hl => ?_)
                refine lv_goto (tgt := 21) hx hb dX11_isLawful_62 rfl ?_
                exact ih_21 (q + 1) z9 S1 T1 P1 Q1 H locs ls (by first | with_reducible assumption | omega) (by first | with_reducible assumption | omega) (by intro j hj h1 h2; rcases Nat.lt_or_ge j q with h | h; exact hall j h h1 h2; obtain rfl : j = q := (by first | with_reducible assumption | omega); first | (exfalso; omega) | exact absurd h1 (by first | with_reducible assumption | assumption) | assumption) hP hD hS (lv_sub hl [0, 1, 2, 3, 4] rfl)
              · have c_9 : q < ft ∧ (st q).toInt = 1 ∧ (tn q).toInt = 0 := zp_1 c_9
                have hw9 := hwf q (by first | with_reducible assumption | assumption) (by omega)
                have hm9 := hw9.1
                have hn9 := hw9.2.1
                have hp9 := hw9.2.2
                refine lv_aload_n hx hb dX11_isLawful_45 rfl (lv_at hl 1 rfl) ?_
                refine lv_iload_n hx hb dX11_isLawful_46 rfl (lv_at hl 2 rfl) ?_
                refine lv_iload hx hb dX11_isLawful_47 (lv_at hl 0 rfl) ?_
                refine lv_iload_n hx hb dX11_isLawful_49 rfl (lv_at hl 3 rfl) ?_
                refine lv_iload_n hx hb dX11_isLawful_50 rfl (lv_at hl 4 rfl) ?_
                obtain ⟨hPc, hDc, hFc⟩ := zo_sub (wc := [_, _, _, _, _, _, _, _, _, _, _, _, _, _]) hP hD hS hA [0, 3, 4, 5, 6, 7, 8, 9, 10, 11, 12, 13, 14, 15] (by decide +kernel) rfl
                refine zcall (st1 := [.int (pI (lawTo (ox 0) (oy 0) (kd f).toInt n (cF40 cx f) (cF40 cy f) (kd q).toInt (nN (mn q)) (cF40 cx q) (cF40 cy q) (MT q) (WI q) (IN q) (fun _ => False)))]) (va_runV (As := [.int (nI f), .int (nI q), .int 5, .int (-1)]) (rest := []) ⟨hx, hb, hml, hown, hts⟩ (k_M_isLawfulTo_s l dC dI cI cZ cF H.size k0 a (upd I0 31 z9) J0 f n q (nN (mn q)) on kd mn cx cy S1 T1 P1 Q1 ox oy mt wi ins (MT q) (WI q) (IN q) (by first | with_reducible assumption | omega) (by first | with_reducible assumption | assumption) (by first | with_reducible assumption | omega) (by first | with_reducible assumption | assumption) (by first | with_reducible assumption | omega) (by first | with_reducible assumption | assumption) (by first | with_reducible assumption | omega) (by first | with_reducible assumption | assumption) (by first | with_reducible assumption | assumption) (by first | with_reducible assumption | omega) (ho1) (hpo) (hmt q (by first | with_reducible assumption | assumption) (by first | with_reducible assumption | omega)) (hwi q (by first | with_reducible assumption | assumption) (by first | with_reducible assumption | omega)) (hin q (by first | with_reducible assumption | assumption) (by first | with_reducible assumption | omega))) (csV_188 hts rfl rfl ⟨Nat.le_of_ble_eq_true rfl, Nat.le_of_ble_eq_true rfl⟩) (zPV2 (q0 := 0) (ci := 9) hPc hDc hK hXN rfl rfl) rfl rfl hl.1 rfl (lv_room (Nat.le_of_ble_eq_true rfl)) dX11_isLawful_51 ⟨Nat.le_of_ble_eq_true rfl, Nat.le_of_ble_eq_true rfl⟩) hS hFc hFc rfl (fun t H locs ht hB hk1 hS => ?_)
                obtain ⟨q_10, q_11, q_12, q_13, q_14, hP1, hD1⟩ := hB
                rw [ht] at hP1
                obtain ⟨hP, hD⟩ := zn (W2 := [(om k0 a (upd I0 31 q_10) J0), _, _, _, _, _, _, (oa (a 32) cI 8 q_11), (oa (a 40) cI 6 q_12), (oa (a 29) cI 42 q_13), (oa (a 30) cI 42 q_14), _, _, _, _, _]) hP hD hk1 hFc hP1 hD1 zl_155 [false, true, true] zl_156 zl_155 (by decide +kernel) rfl rfl rfl rfl rfl
                clear hk1 hPc hDc hFc hP1 hD1 ht
                refine zz_i (v := pI (lawTo (ox 0) (oy 0) (kd f).toInt n (cF40 cx f) (cF40 cy f) (kd q).toInt (nN (mn q)) (cF40 cx q) (cF40 cy q) (MT q) (WI q) (IN q) (sW0 q))) (rfl) ?_
                refine lv_if_ne (tgt := 59) hx hb dX11_isLawful_54 rfl (fun c_15 => ?_) (fun c_15 => ?_)
                · have c_15 : lawTo (ox 0) (oy 0) (kd f).toInt n (cF40 cx f) (cF40 cy f) (kd q).toInt (nN (mn q)) (cF40 cx q) (cF40 cy q) (MT q) (WI q) (IN q) (sW0 q) := zp_1 c_15
                  refine lv_iinc (v := nI (q + 1)) (lv' := [(4, .int (nI (q + 1))), (0, .ref k0), (1, .int (nI f)), (2, .int 5), (3, .int (-1))]) hx hb dX11_isLawful_59 hl (k := 0) rfl (nI_add q 1) (Nat.le_of_ble_eq_true rfl) rfl (fun ls hl => ?_)
                  refine lv_goto (tgt := 21) hx hb dX11_isLawful_62 rfl ?_
                  exact ih_21 (q + 1) q_10 q_11 q_12 q_13 q_14 H locs ls (by first | with_reducible assumption | omega) (by first | with_reducible assumption | omega) (by intro j hj h1 h2; rcases Nat.lt_or_ge j q with h | h; exact hall j h h1 h2; obtain rfl : j = q := (by first | with_reducible assumption | omega); first | (exfalso; omega) | exact absurd h1 (by first | with_reducible assumption | assumption) | assumption) hP hD hS (lv_sub hl [0, 1, 2, 3, 4] rfl)
                · have c_15 : ¬ (lawTo (ox 0) (oy 0) (kd f).toInt n (cF40 cx f) (cF40 cy f) (kd q).toInt (nN (mn q)) (cF40 cx q) (cF40 cy q) (MT q) (WI q) (IN q) (sW0 q)) := zp_0 c_15
                  refine lv_iconst (v := 0) hx hb dX11_isLawful_57 rfl ?_
                  obtain ⟨hP9, hD9⟩ := zu_sub (wc := [_, _, _, _, _, _, _, _, _, _, _, _, _, _, _, _]) hP hD [true, true, true, true, true, true, true, true, true, true, true, true, true, true, true, true] rfl rfl
                  rw [hQ9]
                  exact W.zret (ty := .boolean) (v := 0) hx hb hr (rfl) (fun t ht hW => ⟨⟨congrArg (fun z => Outcome.returned (some (Value.int z))) (show (0 : Int32) = pI (lwA ft st tn kd mn cx cy f n (ox 0) (oy 0) MT WI IN (sW0)) from (zp_f (fun h => absurd (h.2.2 q (by first | with_reducible assumption | assumption) (by omega)) (by first | with_reducible assumption | assumption))).symm), q_10, q_11, q_12, q_13, q_14, by rw [ht]; exact hP9, hD9⟩, hS.F ht⟩) hS.2.2 dX11_isLawful_58
      exact hl_21 _ 0 (I0 31) q_2 T0 P0 Q0 H locs ls (Nat.lt_succ_self _) (by first | with_reducible assumption | omega) (by intro j hj; omega) hP hD hS (lv_sub hl [0, 1, 2, 3, 4] rfl)
    · have c_3 : ¬ (mSm (kd f).toInt n (cF40 cx f) (cF40 cy f)) := zp_0 c_3
      refine lv_iconst (v := 0) hx hb dX11_isLawful_16 rfl ?_
      obtain ⟨hP9, hD9⟩ := zu_sub (wc := [_, _, _, _, _, _, _, _, _, _, _, _, _, _, _, _]) hP hD [true, true, true, true, true, true, true, true, true, true, true, true, true, true, true, true] rfl rfl
      rw [hQ9]
      exact W.zret (ty := .boolean) (v := 0) hx hb hr (rfl) (fun t ht hW => ⟨⟨congrArg (fun z => Outcome.returned (some (Value.int z))) (show (0 : Int32) = pI (lwA ft st tn kd mn cx cy f n (ox 0) (oy 0) MT WI IN (sW0)) from (zp_f (by unfold lwA; first | exact fun h => absurd h.1 (by first | with_reducible assumption | assumption) | exact fun h => absurd h.2.1 (by first | with_reducible assumption | assumption))).symm), (I0 31), q_2, T0, P0, Q0, by rw [ht]; exact hP9, hD9⟩, hS.F ht⟩) hS.2.2 dX11_isLawful_17
set_option maxHeartbeats 4000000 in
set_option maxRecDepth 100000 in
theorem k_M_isLawful_m (l : Launch) (dC : Nat → ClassId) (dI : Nat → Nat → Nat) (cI cZ cF : ClassId) (sz : Nat) (k0 : Nat) (a : Nat → Nat) (I0 : Nat → Int32) (J0 : Nat → Int64) (f : Nat) (n : Nat) (ft : Nat) (on : Nat) (h : Nat) (st : Nat → Int32) (tn : Nat → Int32) (kd : Nat → Int32) (mn : Nat → Int32) (cx : Nat → Int32) (cy : Nat → Int32) (S0 : Nat → Int32) (T0 : Nat → Int32) (P0 : Nat → Int32) (Q0 : Nat → Int32) (ox : Nat → Int32) (oy : Nat → Int32) (mt : Nat → Int32) (wi : Nat → Int32) (ins : Nat → Int32) (MT : Nat → Prop) (WI : Nat → Prop) (IN : Nat → Nat → Prop) (hft : I0 0 = nI ft) (h200 : ft ≤ 200) (hf_f : f ≤ 200) (hm_f : mn f = nI n) (hn_f : n ≤ 40) (hwf : ∀ q, lvF ft st tn q → q ≠ f → wfM mn cx cy q) (hon : I0 35 = nI on) (ho40 : on ≤ 40) (ho1 : 1 ≤ on) (hpo : pls on ox oy) (hmt : ∀ q, lvF ft st tn q → q ≠ f → mt q = pI (MT q)) (hwi : ∀ q, lvF ft st tn q → q ≠ f → 5 ≤ (kd q).toInt → wi q = pI (WI q)) (hin : ∀ q, lvF ft st tn q → q ≠ f → ∀ k, k < nN (mn q) → 5 ≤ (kd f).toInt → ins (40 * q + k) = pI (IN q k)) (hh : h < 5) (hon2 : n = on) : zM l yX11_isLawful cX11_isLawful 5 (some .boolean) ({ frames := 6, cells := 0, slots := 0, locals := 162 } : Room) [.ref k0, .int (nI f), .int (nI h), .int (-1)] (dC, dI) (zTy cI cZ cF) [(om k0 a I0 J0), (oa (a 5) cI 201 st), (oa (a 6) cZ 201 tn), (oa (a 1) cI 201 kd), (oa (a 11) cI 201 mn), (oa (a 12) cI 8040 cx), (oa (a 13) cI 8040 cy), (oa (a 32) cI 8 S0), (oa (a 40) cI 6 T0), (oa (a 29) cI 42 P0), (oa (a 30) cI 42 Q0), (oa (a 33) cI 42 ox), (oa (a 34) cI 42 oy), (oa (a 37) cZ 201 mt), (oa (a 38) cZ 201 wi), (oa (a 39) cZ 8040 ins)] sz (some (.int (pI (lwA ft st tn kd mn cx cy f n (ox 0) (oy 0) MT WI IN (sWm (kd f).toInt on ox oy cx cy f))))) (fun A t => ∃ (z9 : Int32), ∃ (S1 : Nat → Int32), ∃ (T1 : Nat → Int32), ∃ (P1 : Nat → Int32), ∃ (Q1 : Nat → Int32), zPD (dC, dI) classes A [(om k0 a (upd I0 31 z9) J0), (oa (a 5) cI 201 st), (oa (a 6) cZ 201 tn), (oa (a 1) cI 201 kd), (oa (a 11) cI 201 mn), (oa (a 12) cI 8040 cx), (oa (a 13) cI 8040 cy), (oa (a 32) cI 8 S1), (oa (a 40) cI 6 T1), (oa (a 29) cI 42 P1), (oa (a 30) cI 42 Q1), (oa (a 33) cI 42 ox), (oa (a 34) cI 42 oy), (oa (a 37) cZ 201 mt), (oa (a 38) cZ 201 wi), (oa (a 39) cZ 8040 ins)] t.heap) 0 0 := by
  refine zIn (own := "ScaleShopModel") (loc := [(0, .ref k0), (1, .int (nI f)), (2, .int (nI h)), (3, .int (-1))]) rfl rfl rfl rfl (fun p e s m below meth c hx hb hr hts hown hlocks hml hnm9 A hA hS hP hD hK hXN Q9 hQ9 ls hl => ?_)
  refine lv_aload_n hx hb dX11_isLawful_0 rfl (lv_at hl 0 rfl) ?_
  refine lv_iload_n hx hb dX11_isLawful_1 rfl (lv_at hl 1 rfl) ?_
  obtain ⟨hPc, hDc, hFc, hI1⟩ := zi_sub (wc := [_, _, _, _]) hP hD hS hA [0, 4, 5, 6] (by decide +kernel) rfl
  refine zcall (st1 := [.int (pI (pls n (cF40 cx f) (cF40 cy f)))]) (va_runV (As := [.int (nI f)]) (rest := []) ⟨hx, hb, hml, hown, hts⟩ (k_M_arePlaces l dC dI cI cZ cF s.heap.size k0 a I0 J0 f n mn cx cy (by first | with_reducible assumption | omega) (by first | with_reducible assumption | assumption) (by first | with_reducible assumption | omega)) (csV_186 hts rfl rfl ⟨Nat.le_of_ble_eq_true rfl, Nat.le_of_ble_eq_true rfl⟩) (zPV2 (q0 := 0) (ci := 9) hPc hDc hK hXN rfl rfl) rfl rfl hl.1 rfl (lv_room (Nat.le_of_ble_eq_true rfl)) dX11_isLawful_2 ⟨Nat.le_of_ble_eq_true rfl, Nat.le_of_ble_eq_true rfl⟩) hS hFc hFc rfl (fun t H locs ht hB hk1 hS => ?_)
  obtain ⟨hP1, hD1⟩ := hB
  rw [ht] at hP1
  replace hP := z0 hP hD hk1 hP1 hI1
  clear hk1 hPc hDc hFc hP1 hD1 ht hI1
  refine lv_if_eq (tgt := 16) hx hb dX11_isLawful_5 rfl (fun c_1 => ?_) (fun c_1 => ?_)
  · have c_1 : ¬ (pls n (cF40 cx f) (cF40 cy f)) := zp_0 c_1
    refine lv_iconst (v := 0) hx hb dX11_isLawful_16 rfl ?_
    obtain ⟨hP9, hD9⟩ := zu_sub (wc := [_, _, _, _, _, _, _, _, _, _, _, _, _, _, _, _]) hP hD [true, true, true, true, true, true, true, true, true, true, true, true, true, true, true, true] rfl rfl
    rw [hQ9]
    exact W.zret (ty := .boolean) (v := 0) hx hb hr (rfl) (fun t ht hW => ⟨⟨congrArg (fun z => Outcome.returned (some (Value.int z))) (show (0 : Int32) = pI (lwA ft st tn kd mn cx cy f n (ox 0) (oy 0) MT WI IN (sWm (kd f).toInt on ox oy cx cy f)) from (zp_f (by unfold lwA; first | exact fun h => absurd h.1 (by first | with_reducible assumption | assumption) | exact fun h => absurd h.2.1 (by first | with_reducible assumption | assumption))).symm), (I0 31), S0, T0, P0, Q0, by rw [ht]; exact hP9, hD9⟩, hS.F ht⟩) hS.2.2 dX11_isLawful_17
  · have c_1 : pls n (cF40 cx f) (cF40 cy f) := zp_1 c_1
    refine lv_aload_n hx hb dX11_isLawful_8 rfl (lv_at hl 0 rfl) ?_
    refine lv_iload_n hx hb dX11_isLawful_9 rfl (lv_at hl 1 rfl) ?_
    obtain ⟨hPc, hDc, hFc⟩ := zo_sub (wc := [_, _, _, _, _, _]) hP hD hS hA [0, 3, 4, 5, 6, 7] (by decide +kernel) rfl
    refine zcall (st1 := [.int (pI (mSm (kd f).toInt n (cF40 cx f) (cF40 cy f)))]) (va_runV (As := [.int (nI f)]) (rest := []) ⟨hx, hb, hml, hown, hts⟩ (k_M_isSimple l dC dI cI cZ cF H.size k0 a I0 J0 f n kd mn cx cy S0 (by first | with_reducible assumption | omega) (by first | with_reducible assumption | assumption) (by first | with_reducible assumption | assumption) (by first | with_reducible assumption | omega)) (csV_187 hts rfl rfl ⟨Nat.le_of_ble_eq_true rfl, Nat.le_of_ble_eq_true rfl⟩) (zPV2 (q0 := 0) (ci := 9) hPc hDc hK hXN rfl rfl) rfl rfl hl.1 rfl (lv_room (Nat.le_of_ble_eq_true rfl)) dX11_isLawful_10 ⟨Nat.le_of_ble_eq_true rfl, Nat.le_of_ble_eq_true rfl⟩) hS hFc hFc rfl (fun t H locs ht hB hk1 hS => ?_)
    obtain ⟨q_2, hP1, hD1⟩ := hB
    rw [ht] at hP1
    obtain ⟨hP, hD⟩ := zn (W2 := [_, _, _, _, _, _, _, (oa (a 32) cI 8 q_2), _, _, _, _, _, _, _, _]) hP hD hk1 hFc hP1 hD1 [0, 3, 4, 5, 6, 7] zl_154 zl_154 [0, 3, 4, 5, 6, 7] (by decide +kernel) rfl rfl rfl rfl rfl
    clear hk1 hPc hDc hFc hP1 hD1 ht
    refine lv_if_ne (tgt := 18) hx hb dX11_isLawful_13 rfl (fun c_3 => ?_) (fun c_3 => ?_)
    · have c_3 : mSm (kd f).toInt n (cF40 cx f) (cF40 cy f) := zp_1 c_3
      have hn1 := mSm_pos (by first | with_reducible assumption | assumption)
      have hpf : pls n (cF40 cx f) (cF40 cy f) := (by first | with_reducible assumption | assumption)
      refine lv_iconst (v := 0) hx hb dX11_isLawful_18 rfl ?_
      refine lv_istore (lv' := [(4, .int 0), (0, .ref k0), (1, .int (nI f)), (2, .int (nI h)), (3, .int (-1))]) hx hb dX11_isLawful_19 hl (Nat.le_of_ble_eq_true rfl) rfl (fun ls hl => ?_)
      have hl_21 : ∀ (n9 : Nat) (q : Nat) (z9 : Int32) (S1 : Nat → Int32) (T1 : Nat → Int32) (P1 : Nat → Int32) (Q1 : Nat → Int32) (H : Heap) (locs : List Loc) (ls : Array Slot), ft - q < n9 → (q ≤ ft) → (∀ j, j < q → lvF ft st tn j → j ≠ f → lawTo (ox 0) (oy 0) (kd f).toInt n (cF40 cx f) (cF40 cy f) (kd j).toInt (nN (mn j)) (cF40 cx j) (cF40 cy j) (MT j) (WI j) (IN j) ((sWm (kd f).toInt on ox oy cx cy f) j)) → va_P (dC, dI) classes [(om k0 a (upd I0 31 z9) J0), (oa (a 5) cI 201 st), (oa (a 6) cZ 201 tn), (oa (a 1) cI 201 kd), (oa (a 11) cI 201 mn), (oa (a 12) cI 8040 cx), (oa (a 13) cI 8040 cy), (oa (a 32) cI 8 S1), (oa (a 40) cI 6 T1), (oa (a 29) cI 42 P1), (oa (a 30) cI 42 Q1), (oa (a 33) cI 42 ox), (oa (a 34) cI 42 oy), (oa (a 37) cZ 201 mt), (oa (a 38) cZ 201 wi), (oa (a 39) cZ 8040 ins)] H → va_D A [(om k0 a (upd I0 31 z9) J0), (oa (a 5) cI 201 st), (oa (a 6) cZ 201 tn), (oa (a 1) cI 201 kd), (oa (a 11) cI 201 mn), (oa (a 12) cI 8040 cx), (oa (a 13) cI 8040 cy), (oa (a 32) cI 8 S1), (oa (a 40) cI 6 T1), (oa (a 29) cI 42 P1), (oa (a 30) cI 42 Q1), (oa (a 33) cI 42 ox), (oa (a 34) cI 42 oy), (oa (a 37) cZ 201 mt), (oa (a 38) cZ 201 wi), (oa (a 39) cZ 8040 ins)] → va_S A s.heap H locs → lv_has ls 5 [(4, .int (nI q)), (0, .ref k0), (1, .int (nI f)), (2, .int (nI h)), (3, .int (-1))] → W p l e ({ frames := 6, cells := 0, slots := 0, locals := 162 } : Room) s m ([.ref k0, .int (nI f), .int (nI h), .int (-1)] : List Value).toArray below meth c H locs 0 0 Q9 (F0 m 21 ls []) := by
        intro n9
        induction n9 with
        | zero => intro q z9 S1 T1 P1 Q1 H locs ls hm; exact absurd hm (Nat.not_lt_zero _)
        | succ n9 ih_21 =>
          intro q z9 S1 T1 P1 Q1 H locs ls hm hq hall hP hD hS hl
          refine lv_iload hx hb dX11_isLawful_21 (lv_at hl 0 rfl) ?_
          refine lv_aload_n hx hb dX11_isLawful_23 rfl (lv_at hl 1 rfl) ?_
          refine va_get (D := (dC, dI)) (ci := 9) (v := .int (I0 0)) (C := RX11) (T := TX11) (N := 55) hx hb hts inX11 hown hK hP 0 rfl rfl 0 (Nat.le_of_ble_eq_true rfl) (hts _ mw_1159) (fun _ h9 => h9) rfl dX11_isLawful_24 ?_
          refine zz_i (v := nI ft) (hft) ?_
          have b9_5 : zlt (q) := show q < 2147483648 by omega
          have b9_6 : zlt (ft) := show ft < 2147483648 by omega
          refine lv_icmp_ge (tgt := 65) hx hb dX11_isLawful_27 rfl (fun c_4 => ?_) (fun c_4 => ?_)
          · have c_4 : ((ft : Nat) : Int) ≤ ((q : Nat) : Int) := zc_le (nI_toInt b9_6) (nI_toInt b9_5) c_4
            refine lv_iconst (v := 1) hx hb dX11_isLawful_65 rfl ?_
            obtain ⟨hP9, hD9⟩ := zu_sub (wc := [_, _, _, _, _, _, _, _, _, _, _, _, _, _, _, _]) hP hD [true, true, true, true, true, true, true, true, true, true, true, true, true, true, true, true] rfl rfl
            rw [hQ9]
            exact W.zret (ty := .boolean) (v := 1) hx hb hr (rfl) (fun t ht hW => ⟨⟨congrArg (fun z => Outcome.returned (some (Value.int z))) (show (1 : Int32) = pI (lwA ft st tn kd mn cx cy f n (ox 0) (oy 0) MT WI IN (sWm (kd f).toInt on ox oy cx cy f)) from (zp_t (⟨by assumption, by assumption, fun j h1 h2 => hall j (by omega) h1 h2⟩)).symm), z9, S1, T1, P1, Q1, by rw [ht]; exact hP9, hD9⟩, hS.F ht⟩) hS.2.2 dX11_isLawful_66
          · have c_4 : ((q : Nat) : Int) < ((ft : Nat) : Int) := zc_nle (nI_toInt b9_6) (nI_toInt b9_5) c_4
            refine lv_iload hx hb dX11_isLawful_30 (lv_at hl 0 rfl) ?_
            refine lv_iload_n hx hb dX11_isLawful_32 rfl (lv_at hl 2 rfl) ?_
            have b9_8 : zlt (f) := show f < 2147483648 by omega
            refine lv_icmp_eq (tgt := 59) hx hb dX11_isLawful_33 rfl (fun c_7 => ?_) (fun c_7 => ?_)
            · have c_7 : ((q : Nat) : Int) = ((f : Nat) : Int) := zc_eq (nI_toInt b9_5) (nI_toInt b9_8) c_7
              refine lv_iinc (v := nI (q + 1)) (lv' := [(4, .int (nI (q + 1))), (0, .ref k0), (1, .int (nI f)), (2, .int (nI h)), (3, .int (-1))]) hx hb dX11_isLawful_59 hl (k := 0) rfl (nI_add q 1) (Nat.le_of_ble_eq_true rfl) rfl (fun ls hl => ?_)
              refine lv_goto (tgt := 21) hx hb dX11_isLawful_62 rfl ?_
              exact ih_21 (q + 1) z9 S1 T1 P1 Q1 H locs ls (by first | with_reducible assumption | omega) (by first | with_reducible assumption | omega) (by intro j hj h1 h2; rcases Nat.lt_or_ge j q with h | h; exact hall j h h1 h2; obtain rfl : j = q := (by first | with_reducible assumption | omega); first | (exfalso; omega) | exact absurd h1 (by first | with_reducible assumption | assumption) | assumption) hP hD hS (lv_sub hl [0, 1, 2, 3, 4] rfl)
            · have c_7 : ¬ ((q : Nat) : Int) = ((f : Nat) : Int) := zc_ne (nI_toInt b9_5) (nI_toInt b9_8) c_7
              refine lv_aload_n hx hb dX11_isLawful_36 rfl (lv_at hl 1 rfl) ?_
              refine lv_iload hx hb dX11_isLawful_37 (lv_at hl 0 rfl) ?_
              obtain ⟨hPc, hDc, hFc, hI1⟩ := zi_sub (wc := [_, _, _]) hP hD hS hA [0, 1, 2] rfl rfl
              refine zcall (st1 := [.int (pI (q < ft ∧ (st q).toInt = 1 ∧ (tn q).toInt = 0))]) (va_runV (As := [.int (nI q)]) (rest := []) ⟨hx, hb, hml, hown, hts⟩ (k_M_is_n l dC dI cI cZ cF H.size k0 a (upd I0 31 z9) J0 q ft st tn (by first | with_reducible assumption | assumption) (by first | with_reducible assumption | omega) (by first | with_reducible assumption | omega)) (csV_179 hts rfl rfl ⟨Nat.le_of_ble_eq_true rfl, Nat.le_of_ble_eq_true rfl⟩) (zPV2 (q0 := 0) (ci := 9) hPc hDc hK hXN rfl rfl) rfl rfl hl.1 rfl (lv_room (Nat.le_of_ble_eq_true rfl)) dX11_isLawful_39 ⟨Nat.le_of_ble_eq_true rfl, Nat.le_of_ble_eq_true rfl⟩) hS hFc hFc rfl (fun t H locs ht hB hk1 hS => ?_)
              obtain ⟨hP1, hD1⟩ := hB
              rw [ht] at hP1
              replace hP := z0 hP hD hk1 hP1 hI1
              clear hk1 hPc hDc hFc hP1 hD1 ht hI1
              refine lv_if_eq (tgt := 59) hx hb dX11_isLawful_42 rfl (fun c_9 => ?_) (fun c_9 => ?_)
              · have c_9 : ¬ (q < ft ∧ (st q).toInt = 1 ∧ (tn q).toInt = 0) := zp_0 c_9
                refine lv_iinc (v := nI (q + 1)) (lv' := [(4, .int (nI (q + 1))), (0, .ref k0), (1, .int (nI f)), (2, .int (nI h)), (3, .int (-1))]) hx hb dX11_isLawful_59 hl (k := 0) rfl (nI_add q 1) (Nat.le_of_ble_eq_true rfl) rfl (fun ls hl => ?_)
                refine lv_goto (tgt := 21) hx hb dX11_isLawful_62 rfl ?_
                exact ih_21 (q + 1) z9 S1 T1 P1 Q1 H locs ls (by first | with_reducible assumption | omega) (by first | with_reducible assumption | omega) (by intro j hj h1 h2; rcases Nat.lt_or_ge j q with h | h; exact hall j h h1 h2; obtain rfl : j = q := (by first | with_reducible assumption | omega); first | (exfalso; omega) | exact absurd h1 (by first | with_reducible assumption | assumption) | assumption) hP hD hS (lv_sub hl [0, 1, 2, 3, 4] rfl)
              · have c_9 : q < ft ∧ (st q).toInt = 1 ∧ (tn q).toInt = 0 := zp_1 c_9
                have hw9 := hwf q (by first | with_reducible assumption | assumption) (by omega)
                have hm9 := hw9.1
                have hn9 := hw9.2.1
                have hp9 := hw9.2.2
                refine lv_aload_n hx hb dX11_isLawful_45 rfl (lv_at hl 1 rfl) ?_
                refine lv_iload_n hx hb dX11_isLawful_46 rfl (lv_at hl 2 rfl) ?_
                refine lv_iload hx hb dX11_isLawful_47 (lv_at hl 0 rfl) ?_
                refine lv_iload_n hx hb dX11_isLawful_49 rfl (lv_at hl 3 rfl) ?_
                refine lv_iload_n hx hb dX11_isLawful_50 rfl (lv_at hl 4 rfl) ?_
                obtain ⟨hPc, hDc, hFc⟩ := zo_sub (wc := [_, _, _, _, _, _, _, _, _, _, _, _, _, _]) hP hD hS hA [0, 3, 4, 5, 6, 7, 8, 9, 10, 11, 12, 13, 14, 15] (by decide +kernel) rfl
                refine zcall (st1 := [.int (pI (lawTo (ox 0) (oy 0) (kd f).toInt n (cF40 cx f) (cF40 cy f) (kd q).toInt (nN (mn q)) (cF40 cx q) (cF40 cy q) (MT q) (WI q) (IN q) (fun k => ∃ e, e < eO (kd f).toInt on ∧ swp on ox oy (cF40 cx f) (cF40 cy f) (cF40 cx q k).toInt (cF40 cy q k).toInt e)))]) (va_runV (As := [.int (nI f), .int (nI q), .int (nI h), .int (-1)]) (rest := []) ⟨hx, hb, hml, hown, hts⟩ (k_M_isLawfulTo_m l dC dI cI cZ cF H.size k0 a (upd I0 31 z9) J0 f n q (nN (mn q)) on h kd mn cx cy S1 T1 P1 Q1 ox oy mt wi ins (MT q) (WI q) (IN q) (by first | with_reducible assumption | omega) (by first | with_reducible assumption | assumption) (by first | with_reducible assumption | omega) (by first | with_reducible assumption | assumption) (by first | with_reducible assumption | omega) (by first | with_reducible assumption | assumption) (by first | with_reducible assumption | omega) (by first | with_reducible assumption | assumption) (by first | with_reducible assumption | assumption) (by first | with_reducible assumption | omega) (ho1) (hpo) (hmt q (by first | with_reducible assumption | assumption) (by first | with_reducible assumption | omega)) (hwi q (by first | with_reducible assumption | assumption) (by first | with_reducible assumption | omega)) (hin q (by first | with_reducible assumption | assumption) (by first | with_reducible assumption | omega)) (by first | with_reducible assumption | omega) (by first | with_reducible assumption | omega)) (csV_188 hts rfl rfl ⟨Nat.le_of_ble_eq_true rfl, Nat.le_of_ble_eq_true rfl⟩) (zPV2 (q0 := 0) (ci := 9) hPc hDc hK hXN rfl rfl) rfl rfl hl.1 rfl (lv_room (Nat.le_of_ble_eq_true rfl)) dX11_isLawful_51 ⟨Nat.le_of_ble_eq_true rfl, Nat.le_of_ble_eq_true rfl⟩) hS hFc hFc rfl (fun t H locs ht hB hk1 hS => ?_)
                obtain ⟨q_10, q_11, q_12, q_13, q_14, hP1, hD1⟩ := hB
                rw [ht] at hP1
                obtain ⟨hP, hD⟩ := zn (W2 := [(om k0 a (upd I0 31 q_10) J0), _, _, _, _, _, _, (oa (a 32) cI 8 q_11), (oa (a 40) cI 6 q_12), (oa (a 29) cI 42 q_13), (oa (a 30) cI 42 q_14), _, _, _, _, _]) hP hD hk1 hFc hP1 hD1 zl_155 [false, true, true] zl_156 zl_155 (by decide +kernel) rfl rfl rfl rfl rfl
                clear hk1 hPc hDc hFc hP1 hD1 ht
                refine zz_i (v := pI (lawTo (ox 0) (oy 0) (kd f).toInt n (cF40 cx f) (cF40 cy f) (kd q).toInt (nN (mn q)) (cF40 cx q) (cF40 cy q) (MT q) (WI q) (IN q) ((sWm (kd f).toInt on ox oy cx cy f) q))) (rfl) ?_
                refine lv_if_ne (tgt := 59) hx hb dX11_isLawful_54 rfl (fun c_15 => ?_) (fun c_15 => ?_)
                · have c_15 : lawTo (ox 0) (oy 0) (kd f).toInt n (cF40 cx f) (cF40 cy f) (kd q).toInt (nN (mn q)) (cF40 cx q) (cF40 cy q) (MT q) (WI q) (IN q) ((sWm (kd f).toInt on ox oy cx cy f) q) := zp_1 c_15
                  refine lv_iinc (v := nI (q + 1)) (lv' := [(4, .int (nI (q + 1))), (0, .ref k0), (1, .int (nI f)), (2, .int (nI h)), (3, .int (-1))]) hx hb dX11_isLawful_59 hl (k := 0) rfl (nI_add q 1) (Nat.le_of_ble_eq_true rfl) rfl (fun ls hl => ?_)
                  refine lv_goto (tgt := 21) hx hb dX11_isLawful_62 rfl ?_
                  exact ih_21 (q + 1) q_10 q_11 q_12 q_13 q_14 H locs ls (by first | with_reducible assumption | omega) (by first | with_reducible assumption | omega) (by intro j hj h1 h2; rcases Nat.lt_or_ge j q with h | h; exact hall j h h1 h2; obtain rfl : j = q := (by first | with_reducible assumption | omega); first | (exfalso; omega) | exact absurd h1 (by first | with_reducible assumption | assumption) | assumption) hP hD hS (lv_sub hl [0, 1, 2, 3, 4] rfl)
                · have c_15 : ¬ (lawTo (ox 0) (oy 0) (kd f).toInt n (cF40 cx f) (cF40 cy f) (kd q).toInt (nN (mn q)) (cF40 cx q) (cF40 cy q) (MT q) (WI q) (IN q) ((sWm (kd f).toInt on ox oy cx cy f) q)) := zp_0 c_15
                  refine lv_iconst (v := 0) hx hb dX11_isLawful_57 rfl ?_
                  obtain ⟨hP9, hD9⟩ := zu_sub (wc := [_, _, _, _, _, _, _, _, _, _, _, _, _, _, _, _]) hP hD [true, true, true, true, true, true, true, true, true, true, true, true, true, true, true, true] rfl rfl
                  rw [hQ9]
                  exact W.zret (ty := .boolean) (v := 0) hx hb hr (rfl) (fun t ht hW => ⟨⟨congrArg (fun z => Outcome.returned (some (Value.int z))) (show (0 : Int32) = pI (lwA ft st tn kd mn cx cy f n (ox 0) (oy 0) MT WI IN (sWm (kd f).toInt on ox oy cx cy f)) from (zp_f (fun h => absurd (h.2.2 q (by first | with_reducible assumption | assumption) (by omega)) (by first | with_reducible assumption | assumption))).symm), q_10, q_11, q_12, q_13, q_14, by rw [ht]; exact hP9, hD9⟩, hS.F ht⟩) hS.2.2 dX11_isLawful_58
      exact hl_21 _ 0 (I0 31) q_2 T0 P0 Q0 H locs ls (Nat.lt_succ_self _) (by first | with_reducible assumption | omega) (by intro j hj; omega) hP hD hS (lv_sub hl [0, 1, 2, 3, 4] rfl)
    · have c_3 : ¬ (mSm (kd f).toInt n (cF40 cx f) (cF40 cy f)) := zp_0 c_3
      refine lv_iconst (v := 0) hx hb dX11_isLawful_16 rfl ?_
      obtain ⟨hP9, hD9⟩ := zu_sub (wc := [_, _, _, _, _, _, _, _, _, _, _, _, _, _, _, _]) hP hD [true, true, true, true, true, true, true, true, true, true, true, true, true, true, true, true] rfl rfl
      rw [hQ9]
      exact W.zret (ty := .boolean) (v := 0) hx hb hr (rfl) (fun t ht hW => ⟨⟨congrArg (fun z => Outcome.returned (some (Value.int z))) (show (0 : Int32) = pI (lwA ft st tn kd mn cx cy f n (ox 0) (oy 0) MT WI IN (sWm (kd f).toInt on ox oy cx cy f)) from (zp_f (by unfold lwA; first | exact fun h => absurd h.1 (by first | with_reducible assumption | assumption) | exact fun h => absurd h.2.1 (by first | with_reducible assumption | assumption))).symm), (I0 31), q_2, T0, P0, Q0, by rw [ht]; exact hP9, hD9⟩, hS.F ht⟩) hS.2.2 dX11_isLawful_17
end
section
set_option maxHeartbeats 4000000 in
set_option maxRecDepth 100000 in
theorem k_M_mayGo (l : Launch) (dC : Nat → ClassId) (dI : Nat → Nat → Nat) (cI cZ cF : ClassId) (sz : Nat) (k0 : Nat) (a : Nat → Nat) (I0 : Nat → Int32) (J0 : Nat → Int64) (f : Nat) (n : Nat) (k : Nat) (ft : Nat) (st : Nat → Int32) (tn : Nat → Int32) (kd : Nat → Int32) (mn : Nat → Int32) (cx : Nat → Int32) (cy : Nat → Int32) (S0 : Nat → Int32) (hft : I0 0 = nI ft) (h200 : ft ≤ 200) (hf_f : f ≤ 200) (hm_f : mn f = nI n) (hn_f : 1 ≤ n ∧ n ≤ 40) (hp_f : pls n (cF40 cx f) (cF40 cy f)) (hk9 : k < n) (hwf : ∀ q, lvF ft st tn q → wfM mn cx cy q) : zM l yX11_mayGo cX11_mayGo 3 (some .boolean) ({ frames := 4, cells := 0, slots := 0, locals := 104 } : Room) [.ref k0, .int (nI f), .int (nI k)] (dC, dI) (zTy cI cZ cF) [(om k0 a I0 J0), (oa (a 5) cI 201 st), (oa (a 6) cZ 201 tn), (oa (a 1) cI 201 kd), (oa (a 11) cI 201 mn), (oa (a 12) cI 8040 cx), (oa (a 13) cI 8040 cy), (oa (a 32) cI 8 S0)] sz (some (.int (pI (mGo ft st tn kd mn cx cy f n k)))) (fun A t => ∃ (S1 : Nat → Int32), zPD (dC, dI) classes A [(om k0 a I0 J0), (oa (a 5) cI 201 st), (oa (a 6) cZ 201 tn), (oa (a 1) cI 201 kd), (oa (a 11) cI 201 mn), (oa (a 12) cI 8040 cx), (oa (a 13) cI 8040 cy), (oa (a 32) cI 8 S1)] t.heap) 0 0 := by
  refine zIn (own := "ScaleShopModel") (loc := [(0, .ref k0), (1, .int (nI f)), (2, .int (nI k))]) rfl rfl rfl rfl (fun p e s m below meth c hx hb hr hts hown hlocks hml hnm9 A hA hS hP hD hK hXN Q9 hQ9 ls hl => ?_)
  refine lv_aload_n hx hb dX11_mayGo_0 rfl (lv_at hl 0 rfl) ?_
  refine lv_iload_n hx hb dX11_mayGo_1 rfl (lv_at hl 1 rfl) ?_
  obtain ⟨hPc, hDc, hFc, hI1⟩ := zi_sub (wc := [_, _]) hP hD hS hA [0, 3] rfl rfl
  refine zcall (st1 := [.int (pI (5 ≤ (kd f).toInt))]) (va_runV (As := [.int (nI f)]) (rest := []) ⟨hx, hb, hml, hown, hts⟩ (k_M_isRing l dC dI cI cZ cF s.heap.size k0 a I0 J0 f kd (by first | with_reducible assumption | omega)) (csV_165 hts rfl rfl ⟨Nat.le_of_ble_eq_true rfl, Nat.le_of_ble_eq_true rfl⟩) (zPV2 (q0 := 0) (ci := 9) hPc hDc hK hXN rfl rfl) rfl rfl hl.1 rfl (lv_room (Nat.le_of_ble_eq_true rfl)) dX11_mayGo_2 ⟨Nat.le_of_ble_eq_true rfl, Nat.le_of_ble_eq_true rfl⟩) hS hFc hFc rfl (fun t H locs ht hB hk1 hS => ?_)
  obtain ⟨hP1, hD1⟩ := hB
  rw [ht] at hP1
  replace hP := z0 hP hD hk1 hP1 hI1
  clear hk1 hPc hDc hFc hP1 hD1 ht hI1
  refine lv_if_eq (tgt := 21) hx hb dX11_mayGo_5 rfl (fun c_1 => ?_) (fun c_1 => ?_)
  · have c_1 : ¬ (5 ≤ (kd f).toInt) := zp_0 c_1
    refine lv_iload_n hx hb dX11_mayGo_21 rfl (lv_at hl 2 rfl) ?_
    have b9_3 : zlt (k) := show k < 2147483648 by omega
    refine lv_if_eq (tgt := 37) hx hb dX11_mayGo_22 rfl (fun c_2 => ?_) (fun c_2 => ?_)
    · have c_2 : ((k : Nat) : Int) = 0 := zc_eq (nI_toInt b9_3) rfl c_2
      refine lv_iconst (v := 0) hx hb dX11_mayGo_37 rfl ?_
      obtain ⟨hP9, hD9⟩ := zu_sub (wc := [_, _, _, _, _, _, _, _]) hP hD [true, true, true, true, true, true, true, true] rfl rfl
      rw [hQ9]
      exact W.zret (ty := .boolean) (v := 0) hx hb hr (rfl) (fun t ht hW => ⟨⟨congrArg (fun z => Outcome.returned (some (Value.int z))) (show (0 : Int32) = pI (mGo ft st tn kd mn cx cy f n k) from (zp_f (by unfold mGo; intro h; rcases h.1 with h9 | h9 <;> first | omega | exact absurd h9.1 (by first | with_reducible assumption | assumption))).symm), S0, by rw [ht]; exact hP9, hD9⟩, hS.F ht⟩) hS.2.2 dX11_mayGo_38
    · have c_2 : ¬ ((k : Nat) : Int) = 0 := zc_ne (nI_toInt b9_3) rfl c_2
      refine lv_iload_n hx hb dX11_mayGo_25 rfl (lv_at hl 2 rfl) ?_
      refine lv_aload_n hx hb dX11_mayGo_26 rfl (lv_at hl 0 rfl) ?_
      refine va_get (D := (dC, dI)) (ci := 9) (v := .ref (a 11)) (C := RX11) (T := TX11) (N := 55) hx hb hts inX11 hown hK hP 0 rfl rfl 11 (Nat.le_of_ble_eq_true rfl) (hts _ mw_1170) (fun _ h9 => h9) rfl dX11_mayGo_27 ?_
      refine lv_iload_n hx hb dX11_mayGo_30 rfl (lv_at hl 1 rfl) ?_
      have b9_4 : f < 201 := by omega
      refine z_iald hx hb hK hP 4 0 rfl rfl (e := f) rfl b9_4 (Nat.le_of_ble_eq_true rfl) dX11_mayGo_31 ?_
      refine zz_i (v := nI n) (hm_f) ?_
      refine lv_iconst (v := 1) hx hb dX11_mayGo_32 rfl ?_
      refine lv_isub hx hb dX11_mayGo_33 ?_
      refine zz_i (v := nI (n - 1)) (pk_sub (a := n) (b := 1) (by omega)) ?_
      have b9_6 : zlt ((n - 1)) := show (n - 1) < 2147483648 by omega
      refine lv_icmp_ne (tgt := 39) hx hb dX11_mayGo_34 rfl (fun c_5 => ?_) (fun c_5 => ?_)
      · have c_5 : ¬ ((k : Nat) : Int) = ((n - 1 : Nat) : Int) := zc_ne (nI_toInt b9_3) (nI_toInt b9_6) c_5
        refine lv_aload_n hx hb dX11_mayGo_39 rfl (lv_at hl 0 rfl) ?_
        refine lv_iload_n hx hb dX11_mayGo_40 rfl (lv_at hl 1 rfl) ?_
        refine lv_aload_n hx hb dX11_mayGo_41 rfl (lv_at hl 0 rfl) ?_
        refine va_get (D := (dC, dI)) (ci := 9) (v := .ref (a 12)) (C := RX11) (T := TX11) (N := 55) hx hb hts inX11 hown hK hP 0 rfl rfl 12 (Nat.le_of_ble_eq_true rfl) (hts _ mw_1171) (fun _ h9 => h9) rfl dX11_mayGo_42 ?_
        refine lv_bipush (v := 40) hx hb dX11_mayGo_45 rfl ?_
        refine lv_iload_n hx hb dX11_mayGo_47 rfl (lv_at hl 1 rfl) ?_
        refine lv_imul hx hb dX11_mayGo_48 ?_
        refine zz_i (v := nI (40 * f)) (pk_mul 40 f) ?_
        refine lv_iload_n hx hb dX11_mayGo_49 rfl (lv_at hl 2 rfl) ?_
        refine lv_iadd hx hb dX11_mayGo_50 ?_
        refine zz_i (v := nI (40 * f + k)) (nI_add (40 * f) k) ?_
        have b9_7 : 40 * f + k < 8040 := by omega
        refine z_iald hx hb hK hP 5 0 rfl rfl (e := 40 * f + k) rfl b9_7 (Nat.le_of_ble_eq_true rfl) dX11_mayGo_51 ?_
        refine lv_aload_n hx hb dX11_mayGo_52 rfl (lv_at hl 0 rfl) ?_
        refine va_get (D := (dC, dI)) (ci := 9) (v := .ref (a 13)) (C := RX11) (T := TX11) (N := 55) hx hb hts inX11 hown hK hP 0 rfl rfl 13 (Nat.le_of_ble_eq_true rfl) (hts _ mw_1172) (fun _ h9 => h9) rfl dX11_mayGo_53 ?_
        refine lv_bipush (v := 40) hx hb dX11_mayGo_56 rfl ?_
        refine lv_iload_n hx hb dX11_mayGo_58 rfl (lv_at hl 1 rfl) ?_
        refine lv_imul hx hb dX11_mayGo_59 ?_
        refine zz_i (v := nI (40 * f)) (pk_mul 40 f) ?_
        refine lv_iload_n hx hb dX11_mayGo_60 rfl (lv_at hl 2 rfl) ?_
        refine lv_iadd hx hb dX11_mayGo_61 ?_
        refine zz_i (v := nI (40 * f + k)) (nI_add (40 * f) k) ?_
        refine z_iald hx hb hK hP 6 0 rfl rfl (e := 40 * f + k) rfl b9_7 (Nat.le_of_ble_eq_true rfl) dX11_mayGo_62 ?_
        obtain ⟨hPc, hDc, hFc⟩ := zo_sub (wc := [_, _, _, _, _, _, _, _]) hP hD hS hA [0, 1, 2, 3, 4, 5, 6, 7] (by decide +kernel) rfl
        refine zcall (st1 := [.int (pI (∃ q, (q < ft ∧ (st q).toInt = 1 ∧ (tn q).toInt = 0) ∧ q ≠ f ∧ onF kd mn cx cy q (cx (40 * f + k)).toInt (cy (40 * f + k)).toInt))]) (va_runV (As := [.int (nI f), .int (cx (40 * f + k)), .int (cy (40 * f + k))]) (rest := []) ⟨hx, hb, hml, hown, hts⟩ (k_M_isHeld l dC dI cI cZ cF H.size k0 a I0 J0 f ft st tn kd mn cx cy S0 (cx (40 * f + k)) (cy (40 * f + k)) (by first | with_reducible assumption | assumption) (by first | with_reducible assumption | omega) (by first | with_reducible assumption | assumption) (by first | with_reducible assumption | omega) ((hp_f k hk9).1) ((hp_f k hk9).2)) (csV_189 hts rfl rfl ⟨Nat.le_of_ble_eq_true rfl, Nat.le_of_ble_eq_true rfl⟩) (zPV2 (q0 := 0) (ci := 9) hPc hDc hK hXN rfl rfl) rfl rfl hl.1 rfl (lv_room (Nat.le_of_ble_eq_true rfl)) dX11_mayGo_63 ⟨Nat.le_of_ble_eq_true rfl, Nat.le_of_ble_eq_true rfl⟩) hS hFc hFc rfl (fun t H locs ht hB hk1 hS => ?_)
        obtain ⟨q_8, hP1, hD1⟩ := hB
        rw [ht] at hP1
        obtain ⟨hP, hD⟩ := zn (W2 := [_, _, _, _, _, _, _, (oa (a 32) cI 8 q_8)]) hP hD hk1 hFc hP1 hD1 zl_157 [] zl_158 zl_157 (by decide +kernel) rfl rfl rfl rfl rfl
        clear hk1 hPc hDc hFc hP1 hD1 ht
        refine lv_if_ne (tgt := 73) hx hb dX11_mayGo_66 rfl (fun c_9 => ?_) (fun c_9 => ?_)
        · have c_9 : ∃ q, (q < ft ∧ (st q).toInt = 1 ∧ (tn q).toInt = 0) ∧ q ≠ f ∧ onF kd mn cx cy q (cx (40 * f + k)).toInt (cy (40 * f + k)).toInt := zp_1 c_9
          refine lv_iconst (v := 0) hx hb dX11_mayGo_73 rfl ?_
          obtain ⟨hP9, hD9⟩ := zu_sub (wc := [_, _, _, _, _, _, _, _]) hP hD [true, true, true, true, true, true, true, true] rfl rfl
          rw [hQ9]
          exact W.zret (ty := .boolean) (v := 0) hx hb hr (rfl) (fun t ht hW => ⟨⟨congrArg (fun z => Outcome.returned (some (Value.int z))) (show (0 : Int32) = pI (mGo ft st tn kd mn cx cy f n k) from (zp_f (by unfold mGo; first | exact ⟨by first | exact Or.inl ⟨by assumption, by omega⟩ | exact Or.inr ⟨by assumption, by omega, by omega⟩, by assumption⟩ | exact fun h => h.2 (by first | with_reducible assumption | assumption))).symm), q_8, by rw [ht]; exact hP9, hD9⟩, hS.F ht⟩) hS.2.2 dX11_mayGo_74
        · have c_9 : ¬ (∃ q, (q < ft ∧ (st q).toInt = 1 ∧ (tn q).toInt = 0) ∧ q ≠ f ∧ onF kd mn cx cy q (cx (40 * f + k)).toInt (cy (40 * f + k)).toInt) := zp_0 c_9
          refine lv_iconst (v := 1) hx hb dX11_mayGo_69 rfl ?_
          refine lv_goto (tgt := 74) hx hb dX11_mayGo_70 rfl ?_
          obtain ⟨hP9, hD9⟩ := zu_sub (wc := [_, _, _, _, _, _, _, _]) hP hD [true, true, true, true, true, true, true, true] rfl rfl
          rw [hQ9]
          exact W.zret (ty := .boolean) (v := 1) hx hb hr (rfl) (fun t ht hW => ⟨⟨congrArg (fun z => Outcome.returned (some (Value.int z))) (show (1 : Int32) = pI (mGo ft st tn kd mn cx cy f n k) from (zp_t (by unfold mGo; first | exact ⟨by first | exact Or.inl ⟨by assumption, by omega⟩ | exact Or.inr ⟨by assumption, by omega, by omega⟩, by assumption⟩ | exact fun h => h.2 (by first | with_reducible assumption | assumption))).symm), q_8, by rw [ht]; exact hP9, hD9⟩, hS.F ht⟩) hS.2.2 dX11_mayGo_74
      · have c_5 : ((k : Nat) : Int) = ((n - 1 : Nat) : Int) := zc_eq (nI_toInt b9_3) (nI_toInt b9_6) c_5
        refine lv_iconst (v := 0) hx hb dX11_mayGo_37 rfl ?_
        obtain ⟨hP9, hD9⟩ := zu_sub (wc := [_, _, _, _, _, _, _, _]) hP hD [true, true, true, true, true, true, true, true] rfl rfl
        rw [hQ9]
        exact W.zret (ty := .boolean) (v := 0) hx hb hr (rfl) (fun t ht hW => ⟨⟨congrArg (fun z => Outcome.returned (some (Value.int z))) (show (0 : Int32) = pI (mGo ft st tn kd mn cx cy f n k) from (zp_f (by unfold mGo; intro h; rcases h.1 with h9 | h9 <;> first | omega | exact absurd h9.1 (by first | with_reducible assumption | assumption))).symm), S0, by rw [ht]; exact hP9, hD9⟩, hS.F ht⟩) hS.2.2 dX11_mayGo_38
  · have c_1 : 5 ≤ (kd f).toInt := zp_1 c_1
    refine lv_aload_n hx hb dX11_mayGo_8 rfl (lv_at hl 0 rfl) ?_
    refine va_get (D := (dC, dI)) (ci := 9) (v := .ref (a 11)) (C := RX11) (T := TX11) (N := 55) hx hb hts inX11 hown hK hP 0 rfl rfl 11 (Nat.le_of_ble_eq_true rfl) (hts _ mw_1170) (fun _ h9 => h9) rfl dX11_mayGo_9 ?_
    refine lv_iload_n hx hb dX11_mayGo_12 rfl (lv_at hl 1 rfl) ?_
    have b9_10 : f < 201 := by omega
    refine z_iald hx hb hK hP 4 0 rfl rfl (e := f) rfl b9_10 (Nat.le_of_ble_eq_true rfl) dX11_mayGo_13 ?_
    refine zz_i (v := nI n) (hm_f) ?_
    refine lv_iconst (v := 3) hx hb dX11_mayGo_14 rfl ?_
    have b9_12 : zlt (n) := show n < 2147483648 by omega
    refine lv_icmp_ne (tgt := 39) hx hb dX11_mayGo_15 rfl (fun c_11 => ?_) (fun c_11 => ?_)
    · have c_11 : ¬ ((n : Nat) : Int) = 3 := zc_ne (nI_toInt b9_12) rfl c_11
      refine lv_aload_n hx hb dX11_mayGo_39 rfl (lv_at hl 0 rfl) ?_
      refine lv_iload_n hx hb dX11_mayGo_40 rfl (lv_at hl 1 rfl) ?_
      refine lv_aload_n hx hb dX11_mayGo_41 rfl (lv_at hl 0 rfl) ?_
      refine va_get (D := (dC, dI)) (ci := 9) (v := .ref (a 12)) (C := RX11) (T := TX11) (N := 55) hx hb hts inX11 hown hK hP 0 rfl rfl 12 (Nat.le_of_ble_eq_true rfl) (hts _ mw_1171) (fun _ h9 => h9) rfl dX11_mayGo_42 ?_
      refine lv_bipush (v := 40) hx hb dX11_mayGo_45 rfl ?_
      refine lv_iload_n hx hb dX11_mayGo_47 rfl (lv_at hl 1 rfl) ?_
      refine lv_imul hx hb dX11_mayGo_48 ?_
      refine zz_i (v := nI (40 * f)) (pk_mul 40 f) ?_
      refine lv_iload_n hx hb dX11_mayGo_49 rfl (lv_at hl 2 rfl) ?_
      refine lv_iadd hx hb dX11_mayGo_50 ?_
      refine zz_i (v := nI (40 * f + k)) (nI_add (40 * f) k) ?_
      have b9_13 : 40 * f + k < 8040 := by omega
      refine z_iald hx hb hK hP 5 0 rfl rfl (e := 40 * f + k) rfl b9_13 (Nat.le_of_ble_eq_true rfl) dX11_mayGo_51 ?_
      refine lv_aload_n hx hb dX11_mayGo_52 rfl (lv_at hl 0 rfl) ?_
      refine va_get (D := (dC, dI)) (ci := 9) (v := .ref (a 13)) (C := RX11) (T := TX11) (N := 55) hx hb hts inX11 hown hK hP 0 rfl rfl 13 (Nat.le_of_ble_eq_true rfl) (hts _ mw_1172) (fun _ h9 => h9) rfl dX11_mayGo_53 ?_
      refine lv_bipush (v := 40) hx hb dX11_mayGo_56 rfl ?_
      refine lv_iload_n hx hb dX11_mayGo_58 rfl (lv_at hl 1 rfl) ?_
      refine lv_imul hx hb dX11_mayGo_59 ?_
      refine zz_i (v := nI (40 * f)) (pk_mul 40 f) ?_
      refine lv_iload_n hx hb dX11_mayGo_60 rfl (lv_at hl 2 rfl) ?_
      refine lv_iadd hx hb dX11_mayGo_61 ?_
      refine zz_i (v := nI (40 * f + k)) (nI_add (40 * f) k) ?_
      refine z_iald hx hb hK hP 6 0 rfl rfl (e := 40 * f + k) rfl b9_13 (Nat.le_of_ble_eq_true rfl) dX11_mayGo_62 ?_
      obtain ⟨hPc, hDc, hFc⟩ := zo_sub (wc := [_, _, _, _, _, _, _, _]) hP hD hS hA [0, 1, 2, 3, 4, 5, 6, 7] (by decide +kernel) rfl
      refine zcall (st1 := [.int (pI (∃ q, (q < ft ∧ (st q).toInt = 1 ∧ (tn q).toInt = 0) ∧ q ≠ f ∧ onF kd mn cx cy q (cx (40 * f + k)).toInt (cy (40 * f + k)).toInt))]) (va_runV (As := [.int (nI f), .int (cx (40 * f + k)), .int (cy (40 * f + k))]) (rest := []) ⟨hx, hb, hml, hown, hts⟩ (k_M_isHeld l dC dI cI cZ cF H.size k0 a I0 J0 f ft st tn kd mn cx cy S0 (cx (40 * f + k)) (cy (40 * f + k)) (by first | with_reducible assumption | assumption) (by first | with_reducible assumption | omega) (by first | with_reducible assumption | assumption) (by first | with_reducible assumption | omega) ((hp_f k hk9).1) ((hp_f k hk9).2)) (csV_189 hts rfl rfl ⟨Nat.le_of_ble_eq_true rfl, Nat.le_of_ble_eq_true rfl⟩) (zPV2 (q0 := 0) (ci := 9) hPc hDc hK hXN rfl rfl) rfl rfl hl.1 rfl (lv_room (Nat.le_of_ble_eq_true rfl)) dX11_mayGo_63 ⟨Nat.le_of_ble_eq_true rfl, Nat.le_of_ble_eq_true rfl⟩) hS hFc hFc rfl (fun t H locs ht hB hk1 hS => ?_)
      obtain ⟨q_14, hP1, hD1⟩ := hB
      rw [ht] at hP1
      obtain ⟨hP, hD⟩ := zn (W2 := [_, _, _, _, _, _, _, (oa (a 32) cI 8 q_14)]) hP hD hk1 hFc hP1 hD1 zl_157 [] zl_158 zl_157 (by decide +kernel) rfl rfl rfl rfl rfl
      clear hk1 hPc hDc hFc hP1 hD1 ht
      refine lv_if_ne (tgt := 73) hx hb dX11_mayGo_66 rfl (fun c_15 => ?_) (fun c_15 => ?_)
      · have c_15 : ∃ q, (q < ft ∧ (st q).toInt = 1 ∧ (tn q).toInt = 0) ∧ q ≠ f ∧ onF kd mn cx cy q (cx (40 * f + k)).toInt (cy (40 * f + k)).toInt := zp_1 c_15
        refine lv_iconst (v := 0) hx hb dX11_mayGo_73 rfl ?_
        obtain ⟨hP9, hD9⟩ := zu_sub (wc := [_, _, _, _, _, _, _, _]) hP hD [true, true, true, true, true, true, true, true] rfl rfl
        rw [hQ9]
        exact W.zret (ty := .boolean) (v := 0) hx hb hr (rfl) (fun t ht hW => ⟨⟨congrArg (fun z => Outcome.returned (some (Value.int z))) (show (0 : Int32) = pI (mGo ft st tn kd mn cx cy f n k) from (zp_f (by unfold mGo; first | exact ⟨by first | exact Or.inl ⟨by assumption, by omega⟩ | exact Or.inr ⟨by assumption, by omega, by omega⟩, by assumption⟩ | exact fun h => h.2 (by first | with_reducible assumption | assumption))).symm), q_14, by rw [ht]; exact hP9, hD9⟩, hS.F ht⟩) hS.2.2 dX11_mayGo_74
      · have c_15 : ¬ (∃ q, (q < ft ∧ (st q).toInt = 1 ∧ (tn q).toInt = 0) ∧ q ≠ f ∧ onF kd mn cx cy q (cx (40 * f + k)).toInt (cy (40 * f + k)).toInt) := zp_0 c_15
        refine lv_iconst (v := 1) hx hb dX11_mayGo_69 rfl ?_
        refine lv_goto (tgt := 74) hx hb dX11_mayGo_70 rfl ?_
        obtain ⟨hP9, hD9⟩ := zu_sub (wc := [_, _, _, _, _, _, _, _]) hP hD [true, true, true, true, true, true, true, true] rfl rfl
        rw [hQ9]
        exact W.zret (ty := .boolean) (v := 1) hx hb hr (rfl) (fun t ht hW => ⟨⟨congrArg (fun z => Outcome.returned (some (Value.int z))) (show (1 : Int32) = pI (mGo ft st tn kd mn cx cy f n k) from (zp_t (by unfold mGo; first | exact ⟨by first | exact Or.inl ⟨by assumption, by omega⟩ | exact Or.inr ⟨by assumption, by omega, by omega⟩, by assumption⟩ | exact fun h => h.2 (by first | with_reducible assumption | assumption))).symm), q_14, by rw [ht]; exact hP9, hD9⟩, hS.F ht⟩) hS.2.2 dX11_mayGo_74
    · have c_11 : ((n : Nat) : Int) = 3 := zc_eq (nI_toInt b9_12) rfl c_11
      refine lv_goto (tgt := 37) hx hb dX11_mayGo_18 rfl ?_
      refine lv_iconst (v := 0) hx hb dX11_mayGo_37 rfl ?_
      obtain ⟨hP9, hD9⟩ := zu_sub (wc := [_, _, _, _, _, _, _, _]) hP hD [true, true, true, true, true, true, true, true] rfl rfl
      rw [hQ9]
      exact W.zret (ty := .boolean) (v := 0) hx hb hr (rfl) (fun t ht hW => ⟨⟨congrArg (fun z => Outcome.returned (some (Value.int z))) (show (0 : Int32) = pI (mGo ft st tn kd mn cx cy f n k) from (zp_f (by unfold mGo; intro h; rcases h.1 with h9 | h9 <;> first | omega | exact absurd h9.1 (by first | with_reducible assumption | assumption))).symm), S0, by rw [ht]; exact hP9, hD9⟩, hS.F ht⟩) hS.2.2 dX11_mayGo_38
set_option maxHeartbeats 4000000 in
set_option maxRecDepth 100000 in
theorem k_M_goes (l : Launch) (dC : Nat → ClassId) (dI : Nat → Nat → Nat) (cI cZ cF : ClassId) (sz : Nat) (k0 : Nat) (a : Nat → Nat) (I0 : Nat → Int32) (J0 : Nat → Int64) (f : Nat) (n : Nat) (k : Nat) (ft : Nat) (st : Nat → Int32) (tn : Nat → Int32) (kd : Nat → Int32) (mn : Nat → Int32) (cx : Nat → Int32) (cy : Nat → Int32) (S0 : Nat → Int32) (T0 : Nat → Int32) (P0 : Nat → Int32) (Q0 : Nat → Int32) (ox : Nat → Int32) (oy : Nat → Int32) (mt : Nat → Int32) (wi : Nat → Int32) (ins : Nat → Int32) (hft : I0 0 = nI ft) (h200 : ft ≤ 200) (hf_f : f ≤ 200) (hm_f : mn f = nI n) (hn_f : 1 ≤ n ∧ n ≤ 40) (hp_f : pls n (cF40 cx f) (cF40 cy f)) (hk9 : k < n) (hn2 : 2 ≤ n) (hwf : ∀ q, lvF ft st tn q → wfM mn cx cy q) : zM l yX11_goes cX11_goes 4 (some .boolean) ({ frames := 6, cells := 0, slots := 0, locals := 159 } : Room) [.ref k0, .int (nI f), .int (nI k)] (dC, dI) (zTy cI cZ cF) [(om k0 a I0 J0), (oa (a 5) cI 201 st), (oa (a 6) cZ 201 tn), (oa (a 1) cI 201 kd), (oa (a 11) cI 201 mn), (oa (a 12) cI 8040 cx), (oa (a 13) cI 8040 cy), (oa (a 32) cI 8 S0), (oa (a 40) cI 6 T0), (oa (a 29) cI 42 P0), (oa (a 30) cI 42 Q0), (oa (a 33) cI 42 ox), (oa (a 34) cI 42 oy), (oa (a 37) cZ 201 mt), (oa (a 38) cZ 201 wi), (oa (a 39) cZ 8040 ins)] sz (some (.int (pI (lwP ft st tn kd mn cx cy f n k)))) (fun A t => ∃ (z9 : Int32), ∃ (mn1 : Nat → Int32), ∃ (cx1 : Nat → Int32), ∃ (cy1 : Nat → Int32), ∃ (S1 : Nat → Int32), ∃ (T1 : Nat → Int32), ∃ (P1 : Nat → Int32), ∃ (Q1 : Nat → Int32), ∃ (ox1 : Nat → Int32), ∃ (oy1 : Nat → Int32), ∃ (mt1 : Nat → Int32), ∃ (wi1 : Nat → Int32), ∃ (ins1 : Nat → Int32), (lwP ft st tn kd mn cx cy f n k → mn1 = upd mn f (nI (n - 1)) ∧ cx1 = shp f k (n - 1) cx ∧ cy1 = shp f k (n - 1) cy) ∧ (¬ lwP ft st tn kd mn cx cy f n k → mn1 = mn ∧ cx1 = cx ∧ cy1 = cy) ∧ zPD (dC, dI) classes A [(om k0 a (upd (upd (upd I0 31 z9) 35 (nI n)) 36 (kd f)) J0), (oa (a 5) cI 201 st), (oa (a 6) cZ 201 tn), (oa (a 1) cI 201 kd), (oa (a 11) cI 201 mn1), (oa (a 12) cI 8040 cx1), (oa (a 13) cI 8040 cy1), (oa (a 32) cI 8 S1), (oa (a 40) cI 6 T1), (oa (a 29) cI 42 P1), (oa (a 30) cI 42 Q1), (oa (a 33) cI 42 ox1), (oa (a 34) cI 42 oy1), (oa (a 37) cZ 201 mt1), (oa (a 38) cZ 201 wi1), (oa (a 39) cZ 8040 ins1)] t.heap) 0 0 := by
  refine zIn (own := "ScaleShopModel") (loc := [(0, .ref k0), (1, .int (nI f)), (2, .int (nI k))]) rfl rfl rfl rfl (fun p e s m below meth c hx hb hr hts hown hlocks hml hnm9 A hA hS hP hD hK hXN Q9 hQ9 ls hl => ?_)
  refine lv_aload_n hx hb dX11_goes_0 rfl (lv_at hl 0 rfl) ?_
  refine lv_iload_n hx hb dX11_goes_1 rfl (lv_at hl 1 rfl) ?_
  obtain ⟨hPc, hDc, hFc⟩ := zo_sub (wc := [_, _, _, _, _, _, _, _, _, _, _, _, _]) hP hD hS hA [0, 1, 2, 3, 4, 5, 6, 7, 11, 12, 13, 14, 15] (by decide +kernel) rfl
  refine zcall (st1 := []) (va_runV (As := [.int (nI f)]) (rest := []) ⟨hx, hb, hml, hown, hts⟩ (k_M_remember l dC dI cI cZ cF s.heap.size k0 a I0 J0 f n ft st tn kd mn cx cy S0 ox oy mt wi ins (by first | with_reducible assumption | assumption) (by first | with_reducible assumption | omega) (by first | with_reducible assumption | omega) (by first | with_reducible assumption | assumption) (by first | with_reducible assumption | omega) (by first | with_reducible assumption | assumption) (fun q h1 _ => hwf q h1)) (csV_190 hts rfl rfl ⟨Nat.le_of_ble_eq_true rfl, Nat.le_of_ble_eq_true rfl⟩) (zPV2 (q0 := 0) (ci := 9) hPc hDc hK hXN rfl rfl) rfl rfl hl.1 rfl (lv_room (Nat.le_of_ble_eq_true rfl)) dX11_goes_2 ⟨Nat.le_of_ble_eq_true rfl, Nat.le_of_ble_eq_true rfl⟩) hS hFc hFc rfl (fun t H locs ht hB hk1 hS => ?_)
  refine ex6 hB (fun S1 ox1 oy1 mt1 wi1 ins1 hB0 => ?_)
  clear hB
  obtain ⟨hox, hmt, hwi, hin, hP1, hD1⟩ := hB0
  rw [ht] at hP1
  obtain ⟨hP, hD⟩ := zn (W2 := [(om k0 a (upd (upd I0 35 (nI n)) 36 (kd f)) J0), _, _, _, _, _, _, (oa (a 32) cI 8 S1), _, _, _, (oa (a 33) cI 42 ox1), (oa (a 34) cI 42 oy1), (oa (a 37) cZ 201 mt1), (oa (a 38) cZ 201 wi1), (oa (a 39) cZ 8040 ins1)]) hP hD hk1 hFc hP1 hD1 zl_159 zl_160 zl_161 zl_159 (by decide +kernel) rfl rfl rfl rfl rfl
  clear hk1 hPc hDc hFc hP1 hD1 ht
  refine lv_iload_n hx hb dX11_goes_5 rfl (lv_at hl 2 rfl) ?_
  refine lv_istore_n (lv' := [(3, .int (nI k)), (0, .ref k0), (1, .int (nI f)), (2, .int (nI k))]) hx hb dX11_goes_6 rfl hl (Nat.le_of_ble_eq_true rfl) rfl (fun ls hl => ?_)
  have hl_7 : ∀ (n9 : Nat) (i : Nat) (cx1 : Nat → Int32) (cy1 : Nat → Int32) (H : Heap) (locs : List Loc) (ls : Array Slot), n - i < n9 → (i ≤ n - 1) → (k ≤ i) → (cx1 = shp f k i cx) → (cy1 = shp f k i cy) → va_P (dC, dI) classes [(om k0 a (upd (upd I0 35 (nI n)) 36 (kd f)) J0), (oa (a 5) cI 201 st), (oa (a 6) cZ 201 tn), (oa (a 1) cI 201 kd), (oa (a 11) cI 201 mn), (oa (a 12) cI 8040 cx1), (oa (a 13) cI 8040 cy1), (oa (a 32) cI 8 S1), (oa (a 40) cI 6 T0), (oa (a 29) cI 42 P0), (oa (a 30) cI 42 Q0), (oa (a 33) cI 42 ox1), (oa (a 34) cI 42 oy1), (oa (a 37) cZ 201 mt1), (oa (a 38) cZ 201 wi1), (oa (a 39) cZ 8040 ins1)] H → va_D A [(om k0 a (upd (upd I0 35 (nI n)) 36 (kd f)) J0), (oa (a 5) cI 201 st), (oa (a 6) cZ 201 tn), (oa (a 1) cI 201 kd), (oa (a 11) cI 201 mn), (oa (a 12) cI 8040 cx1), (oa (a 13) cI 8040 cy1), (oa (a 32) cI 8 S1), (oa (a 40) cI 6 T0), (oa (a 29) cI 42 P0), (oa (a 30) cI 42 Q0), (oa (a 33) cI 42 ox1), (oa (a 34) cI 42 oy1), (oa (a 37) cZ 201 mt1), (oa (a 38) cZ 201 wi1), (oa (a 39) cZ 8040 ins1)] → va_S A s.heap H locs → lv_has ls 4 [(3, .int (nI i)), (0, .ref k0), (1, .int (nI f)), (2, .int (nI k))] → W p l e ({ frames := 6, cells := 0, slots := 0, locals := 159 } : Room) s m ([.ref k0, .int (nI f), .int (nI k)] : List Value).toArray below meth c H locs 0 0 Q9 (F0 m 7 ls []) := by
    intro n9
    induction n9 with
    | zero => intro i cx1 cy1 H locs ls hm; exact absurd hm (Nat.not_lt_zero _)
    | succ n9 ih_7 =>
      intro i cx1 cy1 H locs ls hm hi hki hcx hcy hP hD hS hl
      refine lv_iload_n hx hb dX11_goes_7 rfl (lv_at hl 0 rfl) ?_
      refine lv_aload_n hx hb dX11_goes_8 rfl (lv_at hl 1 rfl) ?_
      refine va_get (D := (dC, dI)) (ci := 9) (v := .int (nI n)) (C := RX11) (T := TX11) (N := 55) hx hb hts inX11 hown hK hP 0 rfl rfl 35 (Nat.le_of_ble_eq_true rfl) (hts _ mw_1194) (fun _ h9 => h9) rfl dX11_goes_9 ?_
      refine lv_iconst (v := 1) hx hb dX11_goes_12 rfl ?_
      refine lv_isub hx hb dX11_goes_13 ?_
      refine zz_i (v := nI (n - 1)) (pk_sub (a := n) (b := 1) (by omega)) ?_
      have b9_2 : zlt (i) := show i < 2147483648 by omega
      have b9_3 : zlt ((n - 1)) := show (n - 1) < 2147483648 by omega
      refine lv_icmp_ge (tgt := 61) hx hb dX11_goes_14 rfl (fun c_1 => ?_) (fun c_1 => ?_)
      · have c_1 : ((n - 1 : Nat) : Int) ≤ ((i : Nat) : Int) := zc_le (nI_toInt b9_3) (nI_toInt b9_2) c_1
        have hin9 : i = n - 1 := (by omega)
        rw [hin9] at hcx hcy
        have hpo : pls n ox1 oy1 := fun j hj => by rw [(hox j hj).1, (hox j hj).2]; exact hp_f j hj
        have hwf2 : ∀ q, lvF ft st tn q → q ≠ f → wfM (upd mn f (nI (n - 1))) cx1 cy1 q := fun q h1 h2 => wfM_o (hwf q h1) h2 (fun j hj => by simp only [upd, if_neg hj]) (fun j hj => by rw [hcx, hcy]; exact ⟨shp_o (by omega) hj, shp_o (by omega) hj⟩)
        have hmq : ∀ q, q ≠ f → upd mn f (nI (n - 1)) q = mn q := fun q hq => by simp only [upd, if_neg hq]
        refine lv_aload_n hx hb dX11_goes_61 rfl (lv_at hl 1 rfl) ?_
        refine va_get (D := (dC, dI)) (ci := 9) (v := .ref (a 11)) (C := RX11) (T := TX11) (N := 55) hx hb hts inX11 hown hK hP 0 rfl rfl 11 (Nat.le_of_ble_eq_true rfl) (hts _ mw_1170) (fun _ h9 => h9) rfl dX11_goes_62 ?_
        refine lv_iload_n hx hb dX11_goes_65 rfl (lv_at hl 2 rfl) ?_
        refine lv_aload_n hx hb dX11_goes_66 rfl (lv_at hl 1 rfl) ?_
        refine va_get (D := (dC, dI)) (ci := 9) (v := .int (nI n)) (C := RX11) (T := TX11) (N := 55) hx hb hts inX11 hown hK hP 0 rfl rfl 35 (Nat.le_of_ble_eq_true rfl) (hts _ mw_1194) (fun _ h9 => h9) rfl dX11_goes_67 ?_
        refine lv_iconst (v := 1) hx hb dX11_goes_70 rfl ?_
        refine lv_isub hx hb dX11_goes_71 ?_
        refine zz_i (v := nI (n - 1)) (pk_sub (a := n) (b := 1) (by omega)) ?_
        have b9_4 : f < 201 := by omega
        refine z_iast hx hb hK hP hD hS 4 0 rfl rfl (e := f) (x := nI (n - 1)) rfl b9_4 (Nat.le_of_ble_eq_true rfl) dX11_goes_72 (fun H locs hP hD hS => ?_)
        obtain ⟨hP, hD⟩ := zre (W2 := [_, _, _, _, (oa (a 11) cI 201 (upd mn f (nI (n - 1)))), _, _, _, _, _, _, _, _, _, _, _]) hP hD rfl
        refine lv_aload_n hx hb dX11_goes_73 rfl (lv_at hl 1 rfl) ?_
        refine lv_iload_n hx hb dX11_goes_74 rfl (lv_at hl 2 rfl) ?_
        refine lv_iconst (v := 1) hx hb dX11_goes_75 rfl ?_
        refine lv_iload_n hx hb dX11_goes_76 rfl (lv_at hl 3 rfl) ?_
        obtain ⟨hPc, hDc, hFc⟩ := zo_sub (wc := [_, _, _, _, _, _, _, _, _, _, _, _, _, _, _, _]) hP hD hS hA [0, 1, 2, 3, 4, 5, 6, 7, 8, 9, 10, 11, 12, 13, 14, 15] (by decide +kernel) rfl
        refine zcall (st1 := [.int (pI (lwA ft st tn kd (upd mn f (nI (n - 1))) cx1 cy1 f (n - 1) (ox1 0) (oy1 0) (bMt kd mn cx cy f n) (bWi kd mn cx cy f) (bIn kd cx cy f n) (sWp n ox1 oy1 cx1 cy1 k)))]) (va_runV (As := [.int (nI f), .int 1, .int (nI k)]) (rest := []) ⟨hx, hb, hml, hown, hts⟩ (k_M_isLawful_p l dC dI cI cZ cF H.size k0 a (upd (upd I0 35 (nI n)) 36 (kd f)) J0 f (n - 1) ft n k st tn kd (upd mn f (nI (n - 1))) cx1 cy1 S1 T0 P0 Q0 ox1 oy1 mt1 wi1 ins1 (bMt kd mn cx cy f n) (bWi kd mn cx cy f) (bIn kd cx cy f n) (by first | with_reducible assumption | assumption) (by first | with_reducible assumption | omega) (by first | with_reducible assumption | omega) (by simp only [upd, if_true]) (by first | with_reducible assumption | omega) (hwf2) (rfl) (by first | with_reducible assumption | omega) (by first | with_reducible assumption | omega) (hpo) (hmt) (fun q h1 h2 h5 => by rw [hwi q h1 h2]; exact zp_iff ⟨fun h => h.2, fun h => ⟨h5, h⟩⟩) (fun q h1 h2 i hi h5 => hin q h1 h2 h5 i (by rw [hmq q h2] at hi; exact hi)) (by first | with_reducible assumption | omega)) (csV_191 hts rfl rfl ⟨Nat.le_of_ble_eq_true rfl, Nat.le_of_ble_eq_true rfl⟩) (zPV2 (q0 := 0) (ci := 9) hPc hDc hK hXN rfl rfl) rfl rfl hl.1 rfl (lv_room (Nat.le_of_ble_eq_true rfl)) dX11_goes_77 ⟨Nat.le_of_ble_eq_true rfl, Nat.le_of_ble_eq_true rfl⟩) hS hFc hFc rfl (fun t H locs ht hB hk1 hS => ?_)
        obtain ⟨z9, S2, T1, P1, Q1, hP1, hD1⟩ := hB
        rw [ht] at hP1
        obtain ⟨hP, hD⟩ := zn (W2 := [(om k0 a (upd (upd (upd I0 31 z9) 35 (nI n)) 36 (kd f)) J0), _, _, _, _, _, _, (oa (a 32) cI 8 S2), (oa (a 40) cI 6 T1), (oa (a 29) cI 42 P1), (oa (a 30) cI 42 Q1), _, _, _, _, _]) hP hD hk1 hFc hP1 hD1 zl_80 [] zl_79 zl_80 (by decide +kernel) rfl rfl rfl rfl rfl
        clear hk1 hPc hDc hFc hP1 hD1 ht
        refine zz_i (v := pI (lwP ft st tn kd mn cx cy f n k)) (by unfold lwP; rw [hcx, hcy, (hox 0 (by omega)).1, (hox 0 (by omega)).2]; congr 2; funext q i; exact swB_c hk9 hox) ?_
        refine lv_if_eq (tgt := 85) hx hb dX11_goes_80 rfl (fun c_5 => ?_) (fun c_5 => ?_)
        · have c_5 : ¬ (lwP ft st tn kd mn cx cy f n k) := zp_0 c_5
          refine lv_aload_n hx hb dX11_goes_85 rfl (lv_at hl 1 rfl) ?_
          refine lv_iload_n hx hb dX11_goes_86 rfl (lv_at hl 2 rfl) ?_
          obtain ⟨hPc, hDc, hFc⟩ := zo_sub (wc := [_, _, _, _, _, _, _]) hP hD hS hA [0, 3, 4, 5, 6, 11, 12] (by decide +kernel) rfl
          refine zcall (st1 := []) (va_runV (As := [.int (nI f)]) (rest := []) ⟨hx, hb, hml, hown, hts⟩ (k_M_forgetNew l dC dI cI cZ cF H.size k0 a (upd (upd (upd I0 31 z9) 35 (nI n)) 36 (kd f)) J0 f n kd (upd mn f (nI (n - 1))) cx1 cy1 ox1 oy1 (by first | with_reducible assumption | omega) (rfl) (by first | with_reducible assumption | omega)) (csV_192 hts rfl rfl ⟨Nat.le_of_ble_eq_true rfl, Nat.le_of_ble_eq_true rfl⟩) (zPV2 (q0 := 0) (ci := 9) hPc hDc hK hXN rfl rfl) rfl rfl hl.1 rfl (lv_room (Nat.le_of_ble_eq_true rfl)) dX11_goes_87 ⟨Nat.le_of_ble_eq_true rfl, Nat.le_of_ble_eq_true rfl⟩) hS hFc hFc rfl (fun t H locs ht hB hk1 hS => ?_)
          obtain ⟨cx2, cy2, hc1, hc2, hP1, hD1⟩ := hB
          rw [ht] at hP1
          obtain ⟨hP, hD⟩ := zn (W2 := [_, _, _, (oa (a 1) cI 201 (upd kd f ((upd (upd (upd I0 31 z9) 35 (nI n)) 36 (kd f)) 36))), (oa (a 11) cI 201 (upd (upd mn f (nI (n - 1))) f (nI n))), (oa (a 12) cI 8040 cx2), (oa (a 13) cI 8040 cy2), _, _, _, _, _, _, _, _, _]) hP hD hk1 hFc hP1 hD1 [0, 3, 4, 5, 6, 11, 12] zl_162 zl_162 [0, 3, 4, 5, 6, 11, 12] (by decide +kernel) rfl rfl rfl rfl rfl
          clear hk1 hPc hDc hFc hP1 hD1 ht
          refine lv_iconst (v := 0) hx hb dX11_goes_90 rfl ?_
          have hz1 := fn_c (c := cx) (fun j hj => (hc1 j hj).1) (fun j hj => (hox j hj).1) (fun j hj => ((hc2 j hj).1).trans (by rw [hcx]; unfold shp; rw [if_neg (by omega)]))
          have hz2 := fn_c (c := cy) (fun j hj => (hc1 j hj).2) (fun j hj => (hox j hj).2) (fun j hj => ((hc2 j hj).2).trans (by rw [hcy]; unfold shp; rw [if_neg (by omega)]))
          obtain ⟨hP9, hD9⟩ := zu_sub (wc := [(om k0 a (upd (upd (upd I0 31 z9) 35 (nI n)) 36 (kd f)) J0), (oa (a 5) cI 201 st), (oa (a 6) cZ 201 tn), (oa (a 1) cI 201 (upd kd f ((upd (upd (upd I0 31 z9) 35 (nI n)) 36 (kd f)) 36))), (oa (a 11) cI 201 (upd (upd mn f (nI (n - 1))) f (nI n))), (oa (a 12) cI 8040 cx2), (oa (a 13) cI 8040 cy2), (oa (a 32) cI 8 S2), (oa (a 40) cI 6 T1), (oa (a 29) cI 42 P1), (oa (a 30) cI 42 Q1), (oa (a 33) cI 42 ox1), (oa (a 34) cI 42 oy1), (oa (a 37) cZ 201 mt1), (oa (a 38) cZ 201 wi1), (oa (a 39) cZ 8040 ins1)]) hP hD [true, true, true, true, true, true, true, true, true, true, true, true, true, true, true, true] rfl rfl
          have hE9 : ([(om k0 a (upd (upd (upd I0 31 z9) 35 (nI n)) 36 (kd f)) J0), (oa (a 5) cI 201 st), (oa (a 6) cZ 201 tn), (oa (a 1) cI 201 (upd kd f ((upd (upd (upd I0 31 z9) 35 (nI n)) 36 (kd f)) 36))), (oa (a 11) cI 201 (upd (upd mn f (nI (n - 1))) f (nI n))), (oa (a 12) cI 8040 cx2), (oa (a 13) cI 8040 cy2), (oa (a 32) cI 8 S2), (oa (a 40) cI 6 T1), (oa (a 29) cI 42 P1), (oa (a 30) cI 42 Q1), (oa (a 33) cI 42 ox1), (oa (a 34) cI 42 oy1), (oa (a 37) cZ 201 mt1), (oa (a 38) cZ 201 wi1), (oa (a 39) cZ 8040 ins1)] : va_W) = [(om k0 a (upd (upd (upd I0 31 z9) 35 (nI n)) 36 (kd f)) J0), (oa (a 5) cI 201 st), (oa (a 6) cZ 201 tn), (oa (a 1) cI 201 kd), (oa (a 11) cI 201 (upd (upd mn f (nI (n - 1))) f (nI n))), (oa (a 12) cI 8040 cx2), (oa (a 13) cI 8040 cy2), (oa (a 32) cI 8 S2), (oa (a 40) cI 6 T1), (oa (a 29) cI 42 P1), (oa (a 30) cI 42 Q1), (oa (a 33) cI 42 ox1), (oa (a 34) cI 42 oy1), (oa (a 37) cZ 201 mt1), (oa (a 38) cZ 201 wi1), (oa (a 39) cZ 8040 ins1)] := by rw [show (upd kd f ((upd (upd (upd I0 31 z9) 35 (nI n)) 36 (kd f)) 36) : Nat → Int32) = kd from upd_self rfl]
          rw [hE9] at hP9 hD9
          rw [hQ9]
          exact W.zret (ty := .boolean) (v := 0) hx hb hr (rfl) (fun t ht hW => ⟨⟨congrArg (fun z => Outcome.returned (some (Value.int z))) (show (0 : Int32) = pI (lwP ft st tn kd mn cx cy f n k) from (zp_f (by simp_all)).symm), z9, (upd (upd mn f (nI (n - 1))) f (nI n)), cx2, cy2, S2, T1, P1, Q1, ox1, oy1, mt1, wi1, ins1, (fun h => absurd h (by first | with_reducible assumption | assumption)), (fun _ => ⟨upd_back hm_f, hz1, hz2⟩), by rw [ht]; exact hP9, hD9⟩, hS.F ht⟩) hS.2.2 dX11_goes_91
        · have c_5 : lwP ft st tn kd mn cx cy f n k := zp_1 c_5
          refine lv_iconst (v := 1) hx hb dX11_goes_83 rfl ?_
          obtain ⟨hP9, hD9⟩ := zu_sub (wc := [_, _, _, _, _, _, _, _, _, _, _, _, _, _, _, _]) hP hD [true, true, true, true, true, true, true, true, true, true, true, true, true, true, true, true] rfl rfl
          rw [hQ9]
          exact W.zret (ty := .boolean) (v := 1) hx hb hr (rfl) (fun t ht hW => ⟨⟨congrArg (fun z => Outcome.returned (some (Value.int z))) (show (1 : Int32) = pI (lwP ft st tn kd mn cx cy f n k) from (zp_t (by simp_all)).symm), z9, (upd mn f (nI (n - 1))), cx1, cy1, S2, T1, P1, Q1, ox1, oy1, mt1, wi1, ins1, (fun _ => ⟨rfl, hcx, hcy⟩), (fun h => absurd (by first | with_reducible assumption | assumption) h), by rw [ht]; exact hP9, hD9⟩, hS.F ht⟩) hS.2.2 dX11_goes_84
      · have c_1 : ((i : Nat) : Int) < ((n - 1 : Nat) : Int) := zc_nle (nI_toInt b9_3) (nI_toInt b9_2) c_1
        refine lv_aload_n hx hb dX11_goes_17 rfl (lv_at hl 1 rfl) ?_
        refine va_get (D := (dC, dI)) (ci := 9) (v := .ref (a 12)) (C := RX11) (T := TX11) (N := 55) hx hb hts inX11 hown hK hP 0 rfl rfl 12 (Nat.le_of_ble_eq_true rfl) (hts _ mw_1171) (fun _ h9 => h9) rfl dX11_goes_18 ?_
        refine lv_bipush (v := 40) hx hb dX11_goes_21 rfl ?_
        refine lv_iload_n hx hb dX11_goes_23 rfl (lv_at hl 2 rfl) ?_
        refine lv_imul hx hb dX11_goes_24 ?_
        refine zz_i (v := nI (40 * f)) (pk_mul 40 f) ?_
        refine lv_iload_n hx hb dX11_goes_25 rfl (lv_at hl 0 rfl) ?_
        refine lv_iadd hx hb dX11_goes_26 ?_
        refine zz_i (v := nI (40 * f + i)) (nI_add (40 * f) i) ?_
        refine lv_aload_n hx hb dX11_goes_27 rfl (lv_at hl 1 rfl) ?_
        refine va_get (D := (dC, dI)) (ci := 9) (v := .ref (a 33)) (C := RX11) (T := TX11) (N := 55) hx hb hts inX11 hown hK hP 0 rfl rfl 33 (Nat.le_of_ble_eq_true rfl) (hts _ mw_1192) (fun _ h9 => h9) rfl dX11_goes_28 ?_
        refine lv_iload_n hx hb dX11_goes_31 rfl (lv_at hl 0 rfl) ?_
        refine lv_iconst (v := 1) hx hb dX11_goes_32 rfl ?_
        refine lv_iadd hx hb dX11_goes_33 ?_
        refine zz_i (v := nI (i + 1)) (nI_add i 1) ?_
        have b9_6 : i + 1 < 42 := by omega
        refine z_iald hx hb hK hP 11 0 rfl rfl (e := i + 1) rfl b9_6 (Nat.le_of_ble_eq_true rfl) dX11_goes_34 ?_
        have b9_7 : 40 * f + i < 8040 := by omega
        refine z_iast hx hb hK hP hD hS 5 0 rfl rfl (e := 40 * f + i) (x := ox1 (i + 1)) rfl b9_7 (Nat.le_of_ble_eq_true rfl) dX11_goes_35 (fun H locs hP hD hS => ?_)
        obtain ⟨hP, hD⟩ := zre (W2 := [_, _, _, _, _, (oa (a 12) cI 8040 (upd cx1 (40 * f + i) (ox1 (i + 1)))), _, _, _, _, _, _, _, _, _, _]) hP hD rfl
        refine lv_aload_n hx hb dX11_goes_36 rfl (lv_at hl 1 rfl) ?_
        refine va_get (D := (dC, dI)) (ci := 9) (v := .ref (a 13)) (C := RX11) (T := TX11) (N := 55) hx hb hts inX11 hown hK hP 0 rfl rfl 13 (Nat.le_of_ble_eq_true rfl) (hts _ mw_1172) (fun _ h9 => h9) rfl dX11_goes_37 ?_
        refine lv_bipush (v := 40) hx hb dX11_goes_40 rfl ?_
        refine lv_iload_n hx hb dX11_goes_42 rfl (lv_at hl 2 rfl) ?_
        refine lv_imul hx hb dX11_goes_43 ?_
        refine zz_i (v := nI (40 * f)) (pk_mul 40 f) ?_
        refine lv_iload_n hx hb dX11_goes_44 rfl (lv_at hl 0 rfl) ?_
        refine lv_iadd hx hb dX11_goes_45 ?_
        refine zz_i (v := nI (40 * f + i)) (nI_add (40 * f) i) ?_
        refine lv_aload_n hx hb dX11_goes_46 rfl (lv_at hl 1 rfl) ?_
        refine va_get (D := (dC, dI)) (ci := 9) (v := .ref (a 34)) (C := RX11) (T := TX11) (N := 55) hx hb hts inX11 hown hK hP 0 rfl rfl 34 (Nat.le_of_ble_eq_true rfl) (hts _ mw_1193) (fun _ h9 => h9) rfl dX11_goes_47 ?_
        refine lv_iload_n hx hb dX11_goes_50 rfl (lv_at hl 0 rfl) ?_
        refine lv_iconst (v := 1) hx hb dX11_goes_51 rfl ?_
        refine lv_iadd hx hb dX11_goes_52 ?_
        refine zz_i (v := nI (i + 1)) (nI_add i 1) ?_
        refine z_iald hx hb hK hP 12 0 rfl rfl (e := i + 1) rfl b9_6 (Nat.le_of_ble_eq_true rfl) dX11_goes_53 ?_
        refine z_iast hx hb hK hP hD hS 6 0 rfl rfl (e := 40 * f + i) (x := oy1 (i + 1)) rfl b9_7 (Nat.le_of_ble_eq_true rfl) dX11_goes_54 (fun H locs hP hD hS => ?_)
        obtain ⟨hP, hD⟩ := zre (W2 := [_, _, _, _, _, _, (oa (a 13) cI 8040 (upd cy1 (40 * f + i) (oy1 (i + 1)))), _, _, _, _, _, _, _, _, _]) hP hD rfl
        refine lv_iinc (v := nI (i + 1)) (lv' := [(3, .int (nI (i + 1))), (0, .ref k0), (1, .int (nI f)), (2, .int (nI k))]) hx hb dX11_goes_55 hl (k := 0) rfl (nI_add i 1) (Nat.le_of_ble_eq_true rfl) rfl (fun ls hl => ?_)
        refine lv_goto (tgt := 7) hx hb dX11_goes_58 rfl ?_
        exact ih_7 (i + 1) (upd cx1 (40 * f + i) (ox1 (i + 1))) (upd cy1 (40 * f + i) (oy1 (i + 1))) H locs ls (by first | with_reducible assumption | omega) (by first | with_reducible assumption | omega) (by first | with_reducible assumption | omega) (shp_s hki hcx (hox (i + 1) (by first | with_reducible assumption | omega)).1) (shp_s hki hcy (hox (i + 1) (by first | with_reducible assumption | omega)).2) hP hD hS (lv_sub hl [0, 1, 2, 3] rfl)
  exact hl_7 _ k cx cy H locs ls (Nat.lt_succ_self _) (by first | with_reducible assumption | omega) (by first | with_reducible assumption | omega) (shp_0 f k cx) (shp_0 f k cy) hP hD hS (lv_sub hl [0, 1, 2, 3] rfl)
end
section
set_option maxHeartbeats 4000000 in
set_option maxRecDepth 100000 in
theorem k_M_write (l : Launch) (dC : Nat → ClassId) (dI : Nat → Nat → Nat) (cI cZ cF : ClassId) (sz : Nat) (k0 : Nat) (a : Nat → Nat) (I0 : Nat → Int32) (J0 : Nat → Int64) (wa : Nat) (cp : Nat) (v : Int32) (sh : Nat → Int32) (hwa : I0 41 = nI wa) (hwc : wa ≤ 4096 * cp) (hc1 : 1 ≤ cp) (hcm : cp ≤ 512) : zM l yX11_write cX11_write 4 none ({ frames := 0, cells := dc cp wa - cp, slots := 8192 * (dc cp wa - cp), locals := 0 } : Room) [.ref k0, .int v] (dC, dI) (zTy cI cZ cF) [(om k0 a I0 J0), (oa (a 28) cI (4096 * cp) sh)] sz none (fun A t => ∃ (b1 : Nat), ∃ (c1 : Nat), ∃ (sh1 : Nat → Int32), (c1 = dc cp wa) ∧ (sh1 wa = v) ∧ (∀ j, j < wa → sh1 j = sh j) ∧ (∀ j, j ≠ wa → j < 4096 * cp → sh1 j = sh j) ∧ zPD (dC, dI) classes A [(om k0 (va_up a 28 b1) (upd I0 41 (nI (wa + 1))) J0), (oa b1 cI (4096 * c1) sh1)] t.heap) (dc cp wa - cp) (8192 * (dc cp wa - cp)) := by
  refine zIn (own := "ScaleShopModel") (loc := [(0, .ref k0), (1, .int v)]) rfl rfl rfl rfl (fun p e s m below meth c hx hb hr hts hown hlocks hml hnm9 A hA hS hP hD hK hXN Q9 hQ9 ls hl => ?_)
  have hdc : dc cp wa = if wa = 4096 * cp then 2 * cp else cp := rfl
  refine lv_aload_n hx hb dX11_write_0 rfl (lv_at hl 0 rfl) ?_
  refine va_get (D := (dC, dI)) (ci := 9) (v := .int (I0 41)) (C := RX11) (T := TX11) (N := 55) hx hb hts inX11 hown hK hP 0 rfl rfl 41 (Nat.le_of_ble_eq_true rfl) (hts _ mw_1200) (fun _ h9 => h9) rfl dX11_write_1 ?_
  refine zz_i (v := nI wa) (hwa) ?_
  refine lv_aload_n hx hb dX11_write_4 rfl (lv_at hl 0 rfl) ?_
  refine va_get (D := (dC, dI)) (ci := 9) (v := .ref (a 28)) (C := RX11) (T := TX11) (N := 55) hx hb hts inX11 hown hK hP 0 rfl rfl 28 (Nat.le_of_ble_eq_true rfl) (hts _ mw_1187) (fun _ h9 => h9) rfl dX11_write_5 ?_
  refine va_alen (v := nI (4096 * cp)) hx hb hK hP 1 0 rfl rfl rfl dX11_write_8 ?_
  have b9_2 : zlt (wa) := show wa < 2147483648 by omega
  have b9_3 : zlt ((4096 * cp)) := show (4096 * cp) < 2147483648 by omega
  refine lv_icmp_ne (tgt := 51) hx hb dX11_write_9 rfl (fun c_1 => ?_) (fun c_1 => ?_)
  · have c_1 : ¬ ((wa : Nat) : Int) = ((4096 * cp : Nat) : Int) := zc_ne (nI_toInt b9_2) (nI_toInt b9_3) c_1
    refine lv_aload_n hx hb dX11_write_51 rfl (lv_at hl 0 rfl) ?_
    refine va_get (D := (dC, dI)) (ci := 9) (v := .ref (a 28)) (C := RX11) (T := TX11) (N := 55) hx hb hts inX11 hown hK hP 0 rfl rfl 28 (Nat.le_of_ble_eq_true rfl) (hts _ mw_1187) (fun _ h9 => h9) rfl dX11_write_52 ?_
    refine lv_aload_n hx hb dX11_write_55 rfl (lv_at hl 0 rfl) ?_
    refine va_get (D := (dC, dI)) (ci := 9) (v := .int (I0 41)) (C := RX11) (T := TX11) (N := 55) hx hb hts inX11 hown hK hP 0 rfl rfl 41 (Nat.le_of_ble_eq_true rfl) (hts _ mw_1200) (fun _ h9 => h9) rfl dX11_write_56 ?_
    refine zz_i (v := nI wa) (hwa) ?_
    refine lv_iload_n hx hb dX11_write_59 rfl (lv_at hl 1 rfl) ?_
    have b9_4 : wa < (4096 * cp) := by omega
    refine z_iast hx hb hK hP hD hS 1 0 rfl rfl (e := wa) (x := v) rfl b9_4 b9_3 dX11_write_60 (fun H locs hP hD hS => ?_)
    obtain ⟨hP, hD⟩ := zre (W2 := [_, (oa (a 28) cI (4096 * cp) (upd sh wa v))]) hP hD rfl
    refine lv_aload_n hx hb dX11_write_61 rfl (lv_at hl 0 rfl) ?_
    refine lv_dup hx hb dX11_write_62 rfl ?_
    refine va_get (D := (dC, dI)) (ci := 9) (v := .int (I0 41)) (C := RX11) (T := TX11) (N := 55) hx hb hts inX11 hown hK hP 0 rfl rfl 41 (Nat.le_of_ble_eq_true rfl) (hts _ mw_1200) (fun _ h9 => h9) rfl dX11_write_63 ?_
    refine zz_i (v := nI wa) (hwa) ?_
    refine lv_iconst (v := 1) hx hb dX11_write_66 rfl ?_
    refine lv_iadd hx hb dX11_write_67 ?_
    refine zz_i (v := nI (wa + 1)) (nI_add wa 1) ?_
    refine va_put (D := (dC, dI)) (ci := 9) (v := .int (nI (wa + 1))) (ty := .int) (C := RX11) (T := TX11) (N := 55) hx hb hts inX11 tyX11 tyX11_ok nmX11 hown hK hP hD hS 0 rfl rfl 41 (by decide) (hts _ mw_1200) (fun _ h9 => h9) rfl (by decide +kernel) rfl rfl (Nat.le_of_ble_eq_true rfl) dX11_write_68 (fun H locs hP hD hS => ?_)
    obtain ⟨hP, hD⟩ := zre (W2 := [(om k0 a (upd I0 41 (nI (wa + 1))) J0), _]) hP hD rfl
    obtain ⟨hP9, hD9⟩ := zu_sub (wc := [_, _]) hP hD [true, true] rfl rfl
    refine W.widen (k := dc cp wa - cp) (n := 8192 * (dc cp wa - cp)) (by omega) (by omega) ?_
    rw [hQ9]
    exact W.vret hx hb hr (fun t ht hW => ⟨⟨rfl, (a 28), cp, (upd sh wa v), (by first | (rw [hdc, if_neg (by omega)]) | (rw [hdc])), (by exact up_at _ _ _), (by first | exact up_lo (fun j hj => hall j (by omega)) (Nat.le_refl _) | exact up_lo (fun j hj => rfl) (Nat.le_refl _)), (by first | exact up_ne (fun j hj => hall j (by omega)) | exact up_ne (fun j hj => rfl)), by rw [ht]; exact hP9, hD9⟩, hS.F ht⟩) hS.2.2 dX11_write_71
  · have c_1 : ((wa : Nat) : Int) = ((4096 * cp : Nat) : Int) := zc_eq (nI_toInt b9_2) (nI_toInt b9_3) c_1
    have hwe : wa = 4096 * cp := (by omega)
    rw [if_pos hwe] at hdc
    refine lv_iconst (v := 2) hx hb dX11_write_12 rfl ?_
    refine lv_aload_n hx hb dX11_write_13 rfl (lv_at hl 0 rfl) ?_
    refine va_get (D := (dC, dI)) (ci := 9) (v := .int (I0 41)) (C := RX11) (T := TX11) (N := 55) hx hb hts inX11 hown hK hP 0 rfl rfl 41 (Nat.le_of_ble_eq_true rfl) (hts _ mw_1200) (fun _ h9 => h9) rfl dX11_write_14 ?_
    refine zz_i (v := nI wa) (hwa) ?_
    refine lv_imul hx hb dX11_write_17 ?_
    refine zz_i (v := nI (2 * wa)) (pk_mul 2 wa) ?_
    refine zz_i (v := nI (4096 * (2 * cp))) (zn_eq (by omega)) ?_
    refine zz_newa (atype := .int) (a0 := (4096 * (2 * cp), .inl (fun _ => 0))) hx hb (hts _ mw_195) (ty := .int) rfl hK hP hD hS hA (n := nI (4096 * (2 * cp))) (N' := 4096 * (2 * cp)) (cA := cI) 0 rfl (fun _ => rfl) (nI_pos (by omega)) (nI_clamp (by omega)) (show (4096 * (2 * cp)) * 4 ≤ 536870912 by omega) (show 1 ≤ dc cp wa - cp by omega) (show (0 + (4096 * (2 * cp))) ≤ 8192 * (dc cp wa - cp) by omega) dX11_write_18 (fun nb H hP hD hS => ?_)
    obtain ⟨hP, hD⟩ := zre (W2 := [_, _, (oa nb cI (4096 * (2 * cp)) (fun _ => 0))]) hP hD rfl
    refine lv_astore_n (lv' := [(2, .ref nb), (0, .ref k0), (1, .int v)]) hx hb dX11_write_20 rfl hl (Nat.le_of_ble_eq_true rfl) rfl (fun ls hl => ?_)
    refine lv_iconst (v := 0) hx hb dX11_write_21 rfl ?_
    refine lv_istore_n (lv' := [(3, .int 0), (2, .ref nb), (0, .ref k0), (1, .int v)]) hx hb dX11_write_22 rfl hl (Nat.le_of_ble_eq_true rfl) rfl (fun ls hl => ?_)
    have hl_23 : ∀ (n9 : Nat) (k : Nat) (f1 : Nat → Int32) (H : Heap) (locs : List Loc) (ls : Array Slot), wa - k < n9 → (k ≤ wa) → (∀ j, j < k → f1 j = sh j) → va_P (dC, dI) classes [(om k0 a I0 J0), (oa (a 28) cI (4096 * cp) sh), (oa nb cI (4096 * (2 * cp)) f1)] H → va_D A [(om k0 a I0 J0), (oa (a 28) cI (4096 * cp) sh), (oa nb cI (4096 * (2 * cp)) f1)] → va_S A s.heap H locs → lv_has ls 4 [(3, .int (nI k)), (2, .ref nb), (0, .ref k0), (1, .int v)] → W p l e ({ frames := 0, cells := dc cp wa - cp, slots := 8192 * (dc cp wa - cp), locals := 0 } : Room) s m ([.ref k0, .int v] : List Value).toArray below meth c H locs 1 (0 + (4096 * (2 * cp))) Q9 (F0 m 23 ls []) := by
      intro n9
      induction n9 with
      | zero => intro k f1 H locs ls hm; exact absurd hm (Nat.not_lt_zero _)
      | succ n9 ih_23 =>
        intro k f1 H locs ls hm hk hall hP hD hS hl
        refine lv_iload_n hx hb dX11_write_23 rfl (lv_at hl 0 rfl) ?_
        refine lv_aload_n hx hb dX11_write_24 rfl (lv_at hl 2 rfl) ?_
        refine va_get (D := (dC, dI)) (ci := 9) (v := .int (I0 41)) (C := RX11) (T := TX11) (N := 55) hx hb hts inX11 hown hK hP 0 rfl rfl 41 (Nat.le_of_ble_eq_true rfl) (hts _ mw_1200) (fun _ h9 => h9) rfl dX11_write_25 ?_
        refine zz_i (v := nI wa) (hwa) ?_
        have b9_6 : zlt (k) := show k < 2147483648 by omega
        refine lv_icmp_ge (tgt := 46) hx hb dX11_write_28 rfl (fun c_5 => ?_) (fun c_5 => ?_)
        · have c_5 : ((wa : Nat) : Int) ≤ ((k : Nat) : Int) := zc_le (nI_toInt b9_2) (nI_toInt b9_6) c_5
          refine lv_aload_n hx hb dX11_write_46 rfl (lv_at hl 2 rfl) ?_
          refine lv_aload_n hx hb dX11_write_47 rfl (lv_at hl 1 rfl) ?_
          refine va_put (D := (dC, dI)) (ci := 9) (v := .ref nb) (ty := .array .int) (C := RX11) (T := TX11) (N := 55) hx hb hts inX11 tyX11 tyX11_ok nmX11 hown hK hP hD hS 0 rfl rfl 28 (by decide) (hts _ mw_1187) (fun _ h9 => h9) rfl (by decide +kernel) rfl rfl (Nat.le_of_ble_eq_true rfl) dX11_write_48 (fun H locs hP hD hS => ?_)
          obtain ⟨hP, hD⟩ := zre (W2 := [(om k0 (va_up a 28 nb) I0 J0), _, _]) hP hD rfl
          refine lv_aload_n hx hb dX11_write_51 rfl (lv_at hl 2 rfl) ?_
          refine va_get (D := (dC, dI)) (ci := 9) (v := .ref nb) (C := RX11) (T := TX11) (N := 55) hx hb hts inX11 hown hK hP 0 rfl rfl 28 (Nat.le_of_ble_eq_true rfl) (hts _ mw_1187) (fun _ h9 => h9) rfl dX11_write_52 ?_
          refine lv_aload_n hx hb dX11_write_55 rfl (lv_at hl 2 rfl) ?_
          refine va_get (D := (dC, dI)) (ci := 9) (v := .int (I0 41)) (C := RX11) (T := TX11) (N := 55) hx hb hts inX11 hown hK hP 0 rfl rfl 41 (Nat.le_of_ble_eq_true rfl) (hts _ mw_1200) (fun _ h9 => h9) rfl dX11_write_56 ?_
          refine zz_i (v := nI wa) (hwa) ?_
          refine lv_iload_n hx hb dX11_write_59 rfl (lv_at hl 3 rfl) ?_
          have b9_7 : wa < (4096 * (2 * cp)) := by omega
          have b9_8 : zlt ((4096 * (2 * cp))) := show (4096 * (2 * cp)) < 2147483648 by omega
          refine z_iast hx hb hK hP hD hS 2 0 rfl rfl (e := wa) (x := v) rfl b9_7 b9_8 dX11_write_60 (fun H locs hP hD hS => ?_)
          obtain ⟨hP, hD⟩ := zre (W2 := [_, _, (oa nb cI (4096 * (2 * cp)) (upd f1 wa v))]) hP hD rfl
          refine lv_aload_n hx hb dX11_write_61 rfl (lv_at hl 2 rfl) ?_
          refine lv_dup hx hb dX11_write_62 rfl ?_
          refine va_get (D := (dC, dI)) (ci := 9) (v := .int (I0 41)) (C := RX11) (T := TX11) (N := 55) hx hb hts inX11 hown hK hP 0 rfl rfl 41 (Nat.le_of_ble_eq_true rfl) (hts _ mw_1200) (fun _ h9 => h9) rfl dX11_write_63 ?_
          refine zz_i (v := nI wa) (hwa) ?_
          refine lv_iconst (v := 1) hx hb dX11_write_66 rfl ?_
          refine lv_iadd hx hb dX11_write_67 ?_
          refine zz_i (v := nI (wa + 1)) (nI_add wa 1) ?_
          refine va_put (D := (dC, dI)) (ci := 9) (v := .int (nI (wa + 1))) (ty := .int) (C := RX11) (T := TX11) (N := 55) hx hb hts inX11 tyX11 tyX11_ok nmX11 hown hK hP hD hS 0 rfl rfl 41 (by decide) (hts _ mw_1200) (fun _ h9 => h9) rfl (by decide +kernel) rfl rfl (Nat.le_of_ble_eq_true rfl) dX11_write_68 (fun H locs hP hD hS => ?_)
          obtain ⟨hP, hD⟩ := zre (W2 := [(om k0 (va_up a 28 nb) (upd I0 41 (nI (wa + 1))) J0), _, _]) hP hD rfl
          obtain ⟨hP9, hD9⟩ := zu_sub (wc := [_, _]) hP hD [true, false, true] rfl rfl
          refine W.widen (k := dc cp wa - cp) (n := 8192 * (dc cp wa - cp)) (by omega) (by omega) ?_
          rw [hQ9]
          exact W.vret hx hb hr (fun t ht hW => ⟨⟨rfl, nb, (2 * cp), (upd f1 wa v), (by first | (rw [hdc, if_neg (by omega)]) | (rw [hdc])), (by exact up_at _ _ _), (by first | exact up_lo (fun j hj => hall j (by omega)) (Nat.le_refl _) | exact up_lo (fun j hj => rfl) (Nat.le_refl _)), (by first | exact up_ne (fun j hj => hall j (by omega)) | exact up_ne (fun j hj => rfl)), by rw [ht]; exact hP9, hD9⟩, hS.F ht⟩) hS.2.2 dX11_write_71
        · have c_5 : ((k : Nat) : Int) < ((wa : Nat) : Int) := zc_nle (nI_toInt b9_2) (nI_toInt b9_6) c_5
          refine lv_aload_n hx hb dX11_write_31 rfl (lv_at hl 1 rfl) ?_
          refine lv_iload_n hx hb dX11_write_32 rfl (lv_at hl 0 rfl) ?_
          refine lv_aload_n hx hb dX11_write_33 rfl (lv_at hl 2 rfl) ?_
          refine va_get (D := (dC, dI)) (ci := 9) (v := .ref (a 28)) (C := RX11) (T := TX11) (N := 55) hx hb hts inX11 hown hK hP 0 rfl rfl 28 (Nat.le_of_ble_eq_true rfl) (hts _ mw_1187) (fun _ h9 => h9) rfl dX11_write_34 ?_
          refine lv_iload_n hx hb dX11_write_37 rfl (lv_at hl 0 rfl) ?_
          have b9_9 : k < (4096 * cp) := by omega
          refine z_iald hx hb hK hP 1 0 rfl rfl (e := k) rfl b9_9 b9_3 dX11_write_38 ?_
          have b9_10 : k < (4096 * (2 * cp)) := by omega
          have b9_11 : zlt ((4096 * (2 * cp))) := show (4096 * (2 * cp)) < 2147483648 by omega
          refine z_iast hx hb hK hP hD hS 2 0 rfl rfl (e := k) (x := sh k) rfl b9_10 b9_11 dX11_write_39 (fun H locs hP hD hS => ?_)
          obtain ⟨hP, hD⟩ := zre (W2 := [_, _, (oa nb cI (4096 * (2 * cp)) (upd f1 k (sh k)))]) hP hD rfl
          refine lv_iinc (v := nI (k + 1)) (lv' := [(3, .int (nI (k + 1))), (2, .ref nb), (0, .ref k0), (1, .int v)]) hx hb dX11_write_40 hl (k := 0) rfl (nI_add k 1) (Nat.le_of_ble_eq_true rfl) rfl (fun ls hl => ?_)
          refine lv_goto (tgt := 23) hx hb dX11_write_43 rfl ?_
          exact ih_23 (k + 1) (upd f1 k (sh k)) H locs ls (by first | with_reducible assumption | omega) (by first | with_reducible assumption | omega) (up_sn hall rfl) hP hD hS (lv_sub hl [0, 1, 2, 3] rfl)
    exact hl_23 _ 0 (fun _ => 0) H [] ls (Nat.lt_succ_self _) (by first | with_reducible assumption | omega) (by intro j hj; omega) hP hD hS (lv_sub hl [0, 1, 2, 3] rfl)
set_option maxHeartbeats 4000000 in
set_option maxRecDepth 100000 in
theorem k_M_next (l : Launch) (dC : Nat → ClassId) (dI : Nat → Nat → Nat) (cI cZ cF : ClassId) (sz : Nat) (k0 : Nat) (a : Nat → Nat) (I0 : Nat → Int32) (J0 : Nat → Int64) (ra : Nat) (cp : Nat) (sh : Nat → Int32) (hra : I0 42 = nI ra) (hrc : ra < 4096 * cp) (hcm : cp ≤ 512) : zM l yX11_next cX11_next 1 (some .int) ({ frames := 0, cells := 0, slots := 0, locals := 0 } : Room) [.ref k0] (dC, dI) (zTy cI cZ cF) [(om k0 a I0 J0), (oa (a 28) cI (4096 * cp) sh)] sz (some (.int (sh ra))) (fun A t => zPD (dC, dI) classes A [(om k0 a (upd I0 42 (nI (ra + 1))) J0), (oa (a 28) cI (4096 * cp) sh)] t.heap) 0 0 := by
  refine zIn (own := "ScaleShopModel") (loc := [(0, .ref k0)]) rfl rfl rfl rfl (fun p e s m below meth c hx hb hr hts hown hlocks hml hnm9 A hA hS hP hD hK hXN Q9 hQ9 ls hl => ?_)
  refine lv_aload_n hx hb dX11_next_0 rfl (lv_at hl 0 rfl) ?_
  refine lv_dup hx hb dX11_next_1 rfl ?_
  refine va_get (D := (dC, dI)) (ci := 9) (v := .int (I0 42)) (C := RX11) (T := TX11) (N := 55) hx hb hts inX11 hown hK hP 0 rfl rfl 42 (Nat.le_of_ble_eq_true rfl) (hts _ mw_1201) (fun _ h9 => h9) rfl dX11_next_2 ?_
  refine zz_i (v := nI ra) (hra) ?_
  refine lv_iconst (v := 1) hx hb dX11_next_5 rfl ?_
  refine lv_iadd hx hb dX11_next_6 ?_
  refine zz_i (v := nI (ra + 1)) (nI_add ra 1) ?_
  refine va_put (D := (dC, dI)) (ci := 9) (v := .int (nI (ra + 1))) (ty := .int) (C := RX11) (T := TX11) (N := 55) hx hb hts inX11 tyX11 tyX11_ok nmX11 hown hK hP hD hS 0 rfl rfl 42 (by decide) (hts _ mw_1201) (fun _ h9 => h9) rfl (by decide +kernel) rfl rfl (Nat.le_of_ble_eq_true rfl) dX11_next_7 (fun H locs hP hD hS => ?_)
  obtain ⟨hP, hD⟩ := zre (W2 := [(om k0 a (upd I0 42 (nI (ra + 1))) J0), _]) hP hD rfl
  refine lv_aload_n hx hb dX11_next_10 rfl (lv_at hl 0 rfl) ?_
  refine va_get (D := (dC, dI)) (ci := 9) (v := .ref (a 28)) (C := RX11) (T := TX11) (N := 55) hx hb hts inX11 hown hK hP 0 rfl rfl 28 (Nat.le_of_ble_eq_true rfl) (hts _ mw_1187) (fun _ h9 => h9) rfl dX11_next_11 ?_
  refine lv_aload_n hx hb dX11_next_14 rfl (lv_at hl 0 rfl) ?_
  refine va_get (D := (dC, dI)) (ci := 9) (v := .int (nI (ra + 1))) (C := RX11) (T := TX11) (N := 55) hx hb hts inX11 hown hK hP 0 rfl rfl 42 (Nat.le_of_ble_eq_true rfl) (hts _ mw_1201) (fun _ h9 => h9) rfl dX11_next_15 ?_
  refine lv_iconst (v := 1) hx hb dX11_next_18 rfl ?_
  refine lv_isub hx hb dX11_next_19 ?_
  refine zz_i (v := nI ((ra + 1) - 1)) (pk_sub (a := ra + 1) (b := 1) (by omega)) ?_
  have b9_1 : zlt ((4096 * cp)) := show (4096 * cp) < 2147483648 by omega
  refine z_iald hx hb hK hP 1 0 rfl rfl (e := (ra + 1) - 1) rfl (by omega) b9_1 dX11_next_20 ?_
  refine zz_i (v := sh ra) (by first | rfl | (congr 1; omega)) ?_
  obtain ⟨hP9, hD9⟩ := zu_sub (wc := [_, _]) hP hD [true, true] rfl rfl
  rw [hQ9]
  exact W.iret (v := sh ra) hx hb hr (fun t ht hW => ⟨⟨rfl, by rw [ht]; exact hP9, hD9⟩, hS.F ht⟩) hS.2.2 dX11_next_21
end
section
set_option maxHeartbeats 4000000 in
set_option maxRecDepth 100000 in
theorem k_M_keep (l : Launch) (dC : Nat → ClassId) (dI : Nat → Nat → Nat) (cI cZ cF : ClassId) (sz : Nat) (k0 : Nat) (a : Nat → Nat) (I0 : Nat → Int32) (J0 : Nat → Int64) (i : Nat) (ft : Nat) (w0 : Nat) (cp : Nat) (cE : Nat) (kd : Nat → Int32) (st : Nat → Int32) (gb : Nat → Int32) (it : Nat → Int32) (pa : Nat → Int32) (pb : Nat → Int32) (rk : Nat → Int32) (wd : Nat → Int32) (tw : Nat → Int32) (tn : Nat → Int32) (mn : Nat → Int32) (cx : Nat → Int32) (cy : Nat → Int32) (sa : Nat → Int32) (sh : Nat → Int32) (hft : I0 0 = nI ft) (h200 : ft ≤ 200) (hi5 : i < 515) (hsa : sa i = nI w0) (hmn : ∀ f, f < ft → (tn f).toInt = 0 → ¬ (st f).toInt = 0 → mn f = nI (nN (mn f)) ∧ nN (mn f) ≤ 40) (hc1 : 1 ≤ cp) (hpw : pw cp cE) (hw0 : w0 ≤ 4096 * cp) (hfit : psN (nnF st tn mn) w0 ft ≤ 4096 * cE) (hmin : cE = cp ∨ 2048 * cE < psN (nnF st tn mn) w0 ft) (hcE : cE ≤ 512) : zM l yX11_keep cX11_keep 5 none ({ frames := 1, cells := cE - cp, slots := 8192 * (cE - cp), locals := 23 } : Room) [.ref k0, .int (nI i)] (dC, dI) (zTy cI cZ cF) [(om k0 a I0 J0), (oa (a 1) cI 201 kd), (oa (a 5) cI 201 st), (oa (a 7) cI 201 gb), (oa (a 10) cI 201 it), (oa (a 8) cI 201 pa), (oa (a 9) cI 201 pb), (oa (a 2) cI 201 rk), (oa (a 3) cI 201 wd), (oa (a 4) cI 201 tw), (oa (a 6) cZ 201 tn), (oa (a 11) cI 201 mn), (oa (a 12) cI 8040 cx), (oa (a 13) cI 8040 cy), (oa (a 27) cI 516 sa), (oa (a 28) cI (4096 * cp) sh)] sz none (fun A t => ∃ (b1 : Nat), ∃ (sh1 : Nat → Int32), (sh1 w0 = nI ft) ∧ (∀ j, j < w0 → sh1 j = sh j) ∧ (∀ g, g < ft → ∀ j, j < 10 + 2 * nnF st tn mn g → sh1 (psN (nnF st tn mn) w0 g + j) = (shD kd st gb it pa pb rk wd tw (nnF st tn mn) cx cy) g j) ∧ (∀ j, psN (nnF st tn mn) w0 ft ≤ j → j < 4096 * cp → sh1 j = sh j) ∧ zPD (dC, dI) classes A [(om k0 (va_up a 28 b1) (upd I0 41 (nI (psN (nnF st tn mn) w0 ft))) J0), (oa (a 1) cI 201 kd), (oa (a 5) cI 201 st), (oa (a 7) cI 201 gb), (oa (a 10) cI 201 it), (oa (a 8) cI 201 pa), (oa (a 9) cI 201 pb), (oa (a 2) cI 201 rk), (oa (a 3) cI 201 wd), (oa (a 4) cI 201 tw), (oa (a 6) cZ 201 tn), (oa (a 11) cI 201 mn), (oa (a 12) cI 8040 cx), (oa (a 13) cI 8040 cy), (oa (a 27) cI 516 (upd sa (i + 1) (nI (psN (nnF st tn mn) w0 ft)))), (oa b1 cI (4096 * cE) sh1)] t.heap) (cE - cp) (8192 * (cE - cp)) := by
  refine zIn (own := "ScaleShopModel") (loc := [(0, .ref k0), (1, .int (nI i))]) rfl rfl rfl rfl (fun p e s m below meth c hx hb hr hts hown hlocks hml hnm9 A hA hS hP hD hK hXN Q9 hQ9 ls hl => ?_)
  refine lv_aload_n hx hb dX11_keep_0 rfl (lv_at hl 0 rfl) ?_
  refine lv_aload_n hx hb dX11_keep_1 rfl (lv_at hl 0 rfl) ?_
  refine va_get (D := (dC, dI)) (ci := 9) (v := .ref (a 27)) (C := RX11) (T := TX11) (N := 55) hx hb hts inX11 hown hK hP 0 rfl rfl 27 (Nat.le_of_ble_eq_true rfl) (hts _ mw_1186) (fun _ h9 => h9) rfl dX11_keep_2 ?_
  refine lv_iload_n hx hb dX11_keep_5 rfl (lv_at hl 1 rfl) ?_
  have b9_1 : i < 516 := by omega
  refine z_iald hx hb hK hP 14 0 rfl rfl (e := i) rfl b9_1 (Nat.le_of_ble_eq_true rfl) dX11_keep_6 ?_
  refine zz_i (v := nI w0) (hsa) ?_
  refine va_put (D := (dC, dI)) (ci := 9) (v := .int (nI w0)) (ty := .int) (C := RX11) (T := TX11) (N := 55) hx hb hts inX11 tyX11 tyX11_ok nmX11 hown hK hP hD hS 0 rfl rfl 41 (by decide) (hts _ mw_1200) (fun _ h9 => h9) rfl (by decide +kernel) rfl rfl (Nat.le_of_ble_eq_true rfl) dX11_keep_7 (fun H locs hP hD hS => ?_)
  obtain ⟨hP, hD⟩ := zre (W2 := [(om k0 a (upd I0 41 (nI w0)) J0), _, _, _, _, _, _, _, _, _, _, _, _, _, _, _]) hP hD rfl
  refine lv_aload_n hx hb dX11_keep_10 rfl (lv_at hl 0 rfl) ?_
  refine lv_aload_n hx hb dX11_keep_11 rfl (lv_at hl 0 rfl) ?_
  refine va_get (D := (dC, dI)) (ci := 9) (v := .int (I0 0)) (C := RX11) (T := TX11) (N := 55) hx hb hts inX11 hown hK hP 0 rfl rfl 0 (Nat.le_of_ble_eq_true rfl) (hts _ mw_1159) (fun _ h9 => h9) rfl dX11_keep_12 ?_
  refine zz_i (v := nI ft) (hft) ?_
  have hmo0 := psN_ge (nnF st tn mn) w0 ft
  have hd0 := dc_pw hpw (w := w0) (by omega)
  obtain ⟨hPc, hDc, hFc⟩ := zo_sub (wc := [_, _]) hP hD hS hA [0, 15] rfl rfl
  refine zcall (st1 := []) (va_runV (As := [.int (nI ft)]) (rest := []) ⟨hx, hb, hml, hown, hts⟩ (k_M_write l dC dI cI cZ cF H.size k0 a (upd I0 41 (nI w0)) J0 w0 cp (nI ft) sh (rfl) (by first | with_reducible assumption | omega) (by first | with_reducible assumption | omega) (by first | with_reducible assumption | omega)) (csV_193 hts rfl rfl ⟨Nat.le_of_ble_eq_true rfl, Nat.le_of_ble_eq_true rfl⟩) (zPV2 (q0 := 0) (ci := 9) hPc hDc hK hXN rfl rfl) rfl rfl hl.1 rfl (lv_room (Nat.le_of_ble_eq_true rfl)) dX11_keep_15 ⟨show (0 + (dc cp w0 - cp)) ≤ cE - cp by omega, show (0 + (8192 * (dc cp w0 - cp))) ≤ 8192 * (cE - cp) by omega⟩) hS hFc hFc rfl (fun t H locs ht hB hk1 hS => ?_)
  obtain ⟨b0, c0, sh0, hcc0, hwv0, hwk0, hwo0, hP1, hD1⟩ := hB
  rw [ht] at hP1
  obtain ⟨hP, hD⟩ := zn (W2 := [_, _, _, _, _, _, _, _, _, _, _, _, _, _, (om k0 (va_up a 28 b0) (upd I0 41 (nI (w0 + 1))) J0), (oa b0 cI (4096 * c0) sh0)]) hP hD hk1 hFc hP1 hD1 [0, 15] zl_163 zl_164 [14, 15] (by decide +kernel) rfl rfl rfl rfl rfl
  clear hk1 hPc hDc hFc hP1 hD1 ht
  have hV0 := KI_0 (D := (shD kd st gb it pa pb rk wd tw (nnF st tn mn) cx cy)) (nn := nnF st tn mn) hc1 hpw hw0 (by omega) hwv0 hwk0 hwo0 hcc0
  have hU0 := hV0.1
  refine lv_iconst (v := 0) hx hb dX11_keep_18 rfl ?_
  refine lv_istore_n (lv' := [(2, .int 0), (0, .ref k0), (1, .int (nI i))]) hx hb dX11_keep_19 rfl hl (Nat.le_of_ble_eq_true rfl) rfl (fun ls hl => ?_)
  have hl_20 : ∀ (n9 : Nat) (q : Nat) (b1 : Nat) (c1 : Nat) (w : Nat) (sh1 : Nat → Int32) (H : Heap) (locs : List Loc) (ls : Array Slot), ft - q < n9 → (q ≤ ft) → (KI cp cE w0 (nI ft) (nnF st tn mn) (shD kd st gb it pa pb rk wd tw (nnF st tn mn) cx cy) sh q 0 sh1 c1 w) → va_P (dC, dI) classes [(oa (a 1) cI 201 kd), (oa (a 5) cI 201 st), (oa (a 7) cI 201 gb), (oa (a 10) cI 201 it), (oa (a 8) cI 201 pa), (oa (a 9) cI 201 pb), (oa (a 2) cI 201 rk), (oa (a 3) cI 201 wd), (oa (a 4) cI 201 tw), (oa (a 6) cZ 201 tn), (oa (a 11) cI 201 mn), (oa (a 12) cI 8040 cx), (oa (a 13) cI 8040 cy), (oa (a 27) cI 516 sa), (om k0 (va_up a 28 b1) (upd I0 41 (nI w)) J0), (oa b1 cI (4096 * c1) sh1)] H → va_D A [(oa (a 1) cI 201 kd), (oa (a 5) cI 201 st), (oa (a 7) cI 201 gb), (oa (a 10) cI 201 it), (oa (a 8) cI 201 pa), (oa (a 9) cI 201 pb), (oa (a 2) cI 201 rk), (oa (a 3) cI 201 wd), (oa (a 4) cI 201 tw), (oa (a 6) cZ 201 tn), (oa (a 11) cI 201 mn), (oa (a 12) cI 8040 cx), (oa (a 13) cI 8040 cy), (oa (a 27) cI 516 sa), (om k0 (va_up a 28 b1) (upd I0 41 (nI w)) J0), (oa b1 cI (4096 * c1) sh1)] → va_S A s.heap H locs → lv_has ls 5 [(2, .int (nI q)), (0, .ref k0), (1, .int (nI i))] → W p l e ({ frames := 1, cells := cE - cp, slots := 8192 * (cE - cp), locals := 23 } : Room) s m ([.ref k0, .int (nI i)] : List Value).toArray below meth c H locs (c1 - cp) (8192 * (c1 - cp)) Q9 (F0 m 20 ls []) := by
    intro n9
    induction n9 with
    | zero => intro q b1 c1 w sh1 H locs ls hm; exact absurd hm (Nat.not_lt_zero _)
    | succ n9 ih_20 =>
      intro q b1 c1 w sh1 H locs ls hm hq hV hP hD hS hl
      have hU := hV.1
      refine lv_iload_n hx hb dX11_keep_20 rfl (lv_at hl 0 rfl) ?_
      refine lv_aload_n hx hb dX11_keep_21 rfl (lv_at hl 1 rfl) ?_
      refine va_get (D := (dC, dI)) (ci := 9) (v := .int (I0 0)) (C := RX11) (T := TX11) (N := 55) hx hb hts inX11 hown hK hP 14 rfl rfl 0 (Nat.le_of_ble_eq_true rfl) (hts _ mw_1159) (fun _ h9 => h9) rfl dX11_keep_22 ?_
      refine zz_i (v := nI ft) (hft) ?_
      have b9_3 : zlt (q) := show q < 2147483648 by omega
      have b9_4 : zlt (ft) := show ft < 2147483648 by omega
      refine lv_icmp_ge (tgt := 205) hx hb dX11_keep_25 rfl (fun c_2 => ?_) (fun c_2 => ?_)
      · have c_2 : ((ft : Nat) : Int) ≤ ((q : Nat) : Int) := zc_le (nI_toInt b9_4) (nI_toInt b9_3) c_2
        refine lv_aload_n hx hb dX11_keep_205 rfl (lv_at hl 1 rfl) ?_
        refine va_get (D := (dC, dI)) (ci := 9) (v := .ref (a 27)) (C := RX11) (T := TX11) (N := 55) hx hb hts inX11 hown hK hP 14 rfl rfl 27 (Nat.le_of_ble_eq_true rfl) (hts _ mw_1186) (fun _ h9 => h9) rfl dX11_keep_206 ?_
        refine lv_iload_n hx hb dX11_keep_209 rfl (lv_at hl 2 rfl) ?_
        refine lv_iconst (v := 1) hx hb dX11_keep_210 rfl ?_
        refine lv_iadd hx hb dX11_keep_211 ?_
        refine zz_i (v := nI (i + 1)) (nI_add i 1) ?_
        refine lv_aload_n hx hb dX11_keep_212 rfl (lv_at hl 1 rfl) ?_
        refine va_get (D := (dC, dI)) (ci := 9) (v := .int (nI w)) (C := RX11) (T := TX11) (N := 55) hx hb hts inX11 hown hK hP 14 rfl rfl 41 (Nat.le_of_ble_eq_true rfl) (hts _ mw_1200) (fun _ h9 => h9) rfl dX11_keep_213 ?_
        have b9_5 : i + 1 < 516 := by omega
        refine z_iast hx hb hK hP hD hS 13 0 rfl rfl (e := i + 1) (x := nI w) rfl b9_5 (Nat.le_of_ble_eq_true rfl) dX11_keep_216 (fun H locs hP hD hS => ?_)
        obtain ⟨hP, hD⟩ := zre (W2 := [_, _, _, _, _, _, _, _, _, _, _, _, _, (oa (a 27) cI 516 (upd sa (i + 1) (nI w))), _, _]) hP hD rfl
        have hqe : q = ft := (by omega)
        rw [hqe] at hV
        have hU9 := hV.1
        have hce : c1 = cE := (by rcases hmin with h | h; omega; exact pw_end (e := psN (nnF st tn mn) w0 ft) hV.1.1 (by omega) (by omega))
        have hwe : w = psN (nnF st tn mn) w0 ft := hV.1.2.2.2.2
        obtain ⟨hP9, hD9⟩ := zq_sub (wc := [(om k0 (va_up a 28 b1) (upd I0 41 (nI w)) J0), (oa (a 1) cI 201 kd), (oa (a 5) cI 201 st), (oa (a 7) cI 201 gb), (oa (a 10) cI 201 it), (oa (a 8) cI 201 pa), (oa (a 9) cI 201 pb), (oa (a 2) cI 201 rk), (oa (a 3) cI 201 wd), (oa (a 4) cI 201 tw), (oa (a 6) cZ 201 tn), (oa (a 11) cI 201 mn), (oa (a 12) cI 8040 cx), (oa (a 13) cI 8040 cy), (oa (a 27) cI 516 (upd sa (i + 1) (nI w))), (oa b1 cI (4096 * c1) sh1)]) hP hD [14, 0, 1, 2, 3, 4, 5, 6, 7, 8, 9, 10, 11, 12, 13, 15] rfl rfl
        have hE9 : ([(om k0 (va_up a 28 b1) (upd I0 41 (nI w)) J0), (oa (a 1) cI 201 kd), (oa (a 5) cI 201 st), (oa (a 7) cI 201 gb), (oa (a 10) cI 201 it), (oa (a 8) cI 201 pa), (oa (a 9) cI 201 pb), (oa (a 2) cI 201 rk), (oa (a 3) cI 201 wd), (oa (a 4) cI 201 tw), (oa (a 6) cZ 201 tn), (oa (a 11) cI 201 mn), (oa (a 12) cI 8040 cx), (oa (a 13) cI 8040 cy), (oa (a 27) cI 516 (upd sa (i + 1) (nI w))), (oa b1 cI (4096 * c1) sh1)] : va_W) = [(om k0 (va_up a 28 b1) (upd I0 41 (nI (psN (nnF st tn mn) w0 ft))) J0), (oa (a 1) cI 201 kd), (oa (a 5) cI 201 st), (oa (a 7) cI 201 gb), (oa (a 10) cI 201 it), (oa (a 8) cI 201 pa), (oa (a 9) cI 201 pb), (oa (a 2) cI 201 rk), (oa (a 3) cI 201 wd), (oa (a 4) cI 201 tw), (oa (a 6) cZ 201 tn), (oa (a 11) cI 201 mn), (oa (a 12) cI 8040 cx), (oa (a 13) cI 8040 cy), (oa (a 27) cI 516 (upd sa (i + 1) (nI (psN (nnF st tn mn) w0 ft)))), (oa b1 cI (4096 * cE) sh1)] := by rw [hwe, hce]
        rw [hE9] at hP9 hD9
        refine W.widen (k := cE - cp) (n := 8192 * (cE - cp)) (by omega) (by omega) ?_
        rw [hQ9]
        exact W.vret hx hb hr (fun t ht hW => ⟨⟨rfl, b1, sh1, (hV.2.1), (hV.2.2.1), (hV.2.2.2.1), (fun j hj hc => hV.2.2.2.2.2 j (by omega) hc), by rw [ht]; exact hP9, hD9⟩, hS.F ht⟩) hS.2.2 dX11_keep_217
      · have c_2 : ((q : Nat) : Int) < ((ft : Nat) : Int) := zc_nle (nI_toInt b9_4) (nI_toInt b9_3) c_2
        have hmo := psN_mono (nnF st tn mn) w0 (f := q) (g := ft) (by omega)
        refine lv_aload_n hx hb dX11_keep_28 rfl (lv_at hl 1 rfl) ?_
        refine lv_aload_n hx hb dX11_keep_29 rfl (lv_at hl 1 rfl) ?_
        refine va_get (D := (dC, dI)) (ci := 9) (v := .ref (a 1)) (C := RX11) (T := TX11) (N := 55) hx hb hts inX11 hown hK hP 14 rfl rfl 1 (Nat.le_of_ble_eq_true rfl) (hts _ mw_1160) (fun _ h9 => h9) rfl dX11_keep_30 ?_
        refine lv_iload_n hx hb dX11_keep_33 rfl (lv_at hl 0 rfl) ?_
        have b9_6 : q < 201 := by omega
        refine z_iald hx hb hK hP 0 0 rfl rfl (e := q) rfl b9_6 (Nat.le_of_ble_eq_true rfl) dX11_keep_34 ?_
        have hd_0 := dc_pw hV.1.1 (w := w) (by omega)
        obtain ⟨hPc, hDc, hFc⟩ := zo_sub (wc := [_, _]) hP hD hS hA [14, 15] rfl rfl
        refine zcall (st1 := []) (va_runV (As := [.int (kd q)]) (rest := []) ⟨hx, hb, hml, hown, hts⟩ (k_M_write l dC dI cI cZ cF H.size k0 (va_up a 28 b1) (upd I0 41 (nI w)) J0 w c1 (kd q) sh1 (rfl) (by first | with_reducible assumption | omega) (by first | with_reducible assumption | omega) (by first | with_reducible assumption | omega)) (csV_193 hts rfl rfl ⟨Nat.le_of_ble_eq_true rfl, Nat.le_of_ble_eq_true rfl⟩) (zPV2 (q0 := 0) (ci := 9) hPc hDc hK hXN rfl rfl) rfl rfl hl.1 rfl (lv_room (Nat.le_of_ble_eq_true rfl)) dX11_keep_35 ⟨show (c1 - cp + (dc c1 w - c1)) ≤ cE - cp by omega, show (8192 * (c1 - cp) + (8192 * (dc c1 w - c1))) ≤ 8192 * (cE - cp) by omega⟩) hS hFc hFc rfl (fun t H locs ht hB hk1 hS => ?_)
        obtain ⟨bb0, cc0, sv0, hcc_0, hwv_0, hwk_0, hwo_0, hP1, hD1⟩ := hB
        rw [ht] at hP1
        obtain ⟨hP, hD⟩ := zn (W2 := [_, _, _, _, _, _, _, _, _, _, _, _, _, _, (om k0 (va_up a 28 bb0) (upd I0 41 (nI (w + 1))) J0), (oa bb0 cI (4096 * cc0) sv0)]) hP hD hk1 hFc hP1 hD1 [14, 15] zl_165 zl_164 [14, 15] (by decide +kernel) rfl rfl rfl rfl rfl
        clear hk1 hPc hDc hFc hP1 hD1 ht
        have hV_0 := KI_s hc1 hV (by omega) hwv_0 hwk_0 hwo_0 hcc_0
        have hU_0 := hV_0.1
        refine lv_aload_n hx hb dX11_keep_38 rfl (lv_at hl 1 rfl) ?_
        refine lv_aload_n hx hb dX11_keep_39 rfl (lv_at hl 1 rfl) ?_
        refine va_get (D := (dC, dI)) (ci := 9) (v := .ref (a 5)) (C := RX11) (T := TX11) (N := 55) hx hb hts inX11 hown hK hP 14 rfl rfl 5 (Nat.le_of_ble_eq_true rfl) (hts _ mw_1164) (fun _ h9 => h9) rfl dX11_keep_40 ?_
        refine lv_iload_n hx hb dX11_keep_43 rfl (lv_at hl 0 rfl) ?_
        refine z_iald hx hb hK hP 1 0 rfl rfl (e := q) rfl b9_6 (Nat.le_of_ble_eq_true rfl) dX11_keep_44 ?_
        have hd_1 := dc_pw hV_0.1.1 (w := w + 1) (by omega)
        obtain ⟨hPc, hDc, hFc⟩ := zo_sub (wc := [_, _]) hP hD hS hA [14, 15] rfl rfl
        refine zcall (st1 := []) (va_runV (As := [.int (st q)]) (rest := []) ⟨hx, hb, hml, hown, hts⟩ (k_M_write l dC dI cI cZ cF H.size k0 (va_up a 28 bb0) (upd I0 41 (nI (w + 1))) J0 (w + 1) cc0 (st q) sv0 (rfl) (by first | with_reducible assumption | omega) (by first | with_reducible assumption | omega) (by first | with_reducible assumption | omega)) (csV_193 hts rfl rfl ⟨Nat.le_of_ble_eq_true rfl, Nat.le_of_ble_eq_true rfl⟩) (zPV2 (q0 := 0) (ci := 9) hPc hDc hK hXN rfl rfl) rfl rfl hl.1 rfl (lv_room (Nat.le_of_ble_eq_true rfl)) dX11_keep_45 ⟨show ((c1 - cp + (dc c1 w - c1)) + (dc cc0 (w + 1) - cc0)) ≤ cE - cp by omega, show ((8192 * (c1 - cp) + (8192 * (dc c1 w - c1))) + (8192 * (dc cc0 (w + 1) - cc0))) ≤ 8192 * (cE - cp) by omega⟩) hS hFc hFc rfl (fun t H locs ht hB hk1 hS => ?_)
        obtain ⟨bb1, cc1, sv1, hcc_1, hwv_1, hwk_1, hwo_1, hP1, hD1⟩ := hB
        rw [ht] at hP1
        obtain ⟨hP, hD⟩ := zn (W2 := [_, _, _, _, _, _, _, _, _, _, _, _, _, _, (om k0 (va_up a 28 bb1) (upd I0 41 (nI ((w + 1) + 1))) J0), (oa bb1 cI (4096 * cc1) sv1)]) hP hD hk1 hFc hP1 hD1 [14, 15] zl_165 zl_164 [14, 15] (by decide +kernel) rfl rfl rfl rfl rfl
        clear hk1 hPc hDc hFc hP1 hD1 ht
        have hV_1 := KI_s hc1 hV_0 (by omega) hwv_1 hwk_1 hwo_1 hcc_1
        have hU_1 := hV_1.1
        refine lv_aload_n hx hb dX11_keep_48 rfl (lv_at hl 1 rfl) ?_
        refine lv_aload_n hx hb dX11_keep_49 rfl (lv_at hl 1 rfl) ?_
        refine va_get (D := (dC, dI)) (ci := 9) (v := .ref (a 7)) (C := RX11) (T := TX11) (N := 55) hx hb hts inX11 hown hK hP 14 rfl rfl 7 (Nat.le_of_ble_eq_true rfl) (hts _ mw_1166) (fun _ h9 => h9) rfl dX11_keep_50 ?_
        refine lv_iload_n hx hb dX11_keep_53 rfl (lv_at hl 0 rfl) ?_
        refine z_iald hx hb hK hP 2 0 rfl rfl (e := q) rfl b9_6 (Nat.le_of_ble_eq_true rfl) dX11_keep_54 ?_
        have hd_2 := dc_pw hV_1.1.1 (w := w + 1 + 1) (by omega)
        obtain ⟨hPc, hDc, hFc⟩ := zo_sub (wc := [_, _]) hP hD hS hA [14, 15] rfl rfl
        refine zcall (st1 := []) (va_runV (As := [.int (gb q)]) (rest := []) ⟨hx, hb, hml, hown, hts⟩ (k_M_write l dC dI cI cZ cF H.size k0 (va_up a 28 bb1) (upd I0 41 (nI ((w + 1) + 1))) J0 ((w + 1) + 1) cc1 (gb q) sv1 (rfl) (by first | with_reducible assumption | omega) (by first | with_reducible assumption | omega) (by first | with_reducible assumption | omega)) (csV_193 hts rfl rfl ⟨Nat.le_of_ble_eq_true rfl, Nat.le_of_ble_eq_true rfl⟩) (zPV2 (q0 := 0) (ci := 9) hPc hDc hK hXN rfl rfl) rfl rfl hl.1 rfl (lv_room (Nat.le_of_ble_eq_true rfl)) dX11_keep_55 ⟨show (((c1 - cp + (dc c1 w - c1)) + (dc cc0 (w + 1) - cc0)) + (dc cc1 ((w + 1) + 1) - cc1)) ≤ cE - cp by omega, show (((8192 * (c1 - cp) + (8192 * (dc c1 w - c1))) + (8192 * (dc cc0 (w + 1) - cc0))) + (8192 * (dc cc1 ((w + 1) + 1) - cc1))) ≤ 8192 * (cE - cp) by omega⟩) hS hFc hFc rfl (fun t H locs ht hB hk1 hS => ?_)
        obtain ⟨bb2, cc2, sv2, hcc_2, hwv_2, hwk_2, hwo_2, hP1, hD1⟩ := hB
        rw [ht] at hP1
        obtain ⟨hP, hD⟩ := zn (W2 := [_, _, _, _, _, _, _, _, _, _, _, _, _, _, (om k0 (va_up a 28 bb2) (upd I0 41 (nI (((w + 1) + 1) + 1))) J0), (oa bb2 cI (4096 * cc2) sv2)]) hP hD hk1 hFc hP1 hD1 [14, 15] zl_165 zl_164 [14, 15] (by decide +kernel) rfl rfl rfl rfl rfl
        clear hk1 hPc hDc hFc hP1 hD1 ht
        have hV_2 := KI_s hc1 hV_1 (by omega) hwv_2 hwk_2 hwo_2 hcc_2
        have hU_2 := hV_2.1
        refine lv_aload_n hx hb dX11_keep_58 rfl (lv_at hl 1 rfl) ?_
        refine lv_aload_n hx hb dX11_keep_59 rfl (lv_at hl 1 rfl) ?_
        refine va_get (D := (dC, dI)) (ci := 9) (v := .ref (a 10)) (C := RX11) (T := TX11) (N := 55) hx hb hts inX11 hown hK hP 14 rfl rfl 10 (Nat.le_of_ble_eq_true rfl) (hts _ mw_1169) (fun _ h9 => h9) rfl dX11_keep_60 ?_
        refine lv_iload_n hx hb dX11_keep_63 rfl (lv_at hl 0 rfl) ?_
        refine z_iald hx hb hK hP 3 0 rfl rfl (e := q) rfl b9_6 (Nat.le_of_ble_eq_true rfl) dX11_keep_64 ?_
        have hd_3 := dc_pw hV_2.1.1 (w := w + 1 + 1 + 1) (by omega)
        obtain ⟨hPc, hDc, hFc⟩ := zo_sub (wc := [_, _]) hP hD hS hA [14, 15] rfl rfl
        refine zcall (st1 := []) (va_runV (As := [.int (it q)]) (rest := []) ⟨hx, hb, hml, hown, hts⟩ (k_M_write l dC dI cI cZ cF H.size k0 (va_up a 28 bb2) (upd I0 41 (nI (((w + 1) + 1) + 1))) J0 (((w + 1) + 1) + 1) cc2 (it q) sv2 (rfl) (by first | with_reducible assumption | omega) (by first | with_reducible assumption | omega) (by first | with_reducible assumption | omega)) (csV_193 hts rfl rfl ⟨Nat.le_of_ble_eq_true rfl, Nat.le_of_ble_eq_true rfl⟩) (zPV2 (q0 := 0) (ci := 9) hPc hDc hK hXN rfl rfl) rfl rfl hl.1 rfl (lv_room (Nat.le_of_ble_eq_true rfl)) dX11_keep_65 ⟨show ((((c1 - cp + (dc c1 w - c1)) + (dc cc0 (w + 1) - cc0)) + (dc cc1 ((w + 1) + 1) - cc1)) + (dc cc2 (((w + 1) + 1) + 1) - cc2)) ≤ cE - cp by omega, show ((((8192 * (c1 - cp) + (8192 * (dc c1 w - c1))) + (8192 * (dc cc0 (w + 1) - cc0))) + (8192 * (dc cc1 ((w + 1) + 1) - cc1))) + (8192 * (dc cc2 (((w + 1) + 1) + 1) - cc2))) ≤ 8192 * (cE - cp) by omega⟩) hS hFc hFc rfl (fun t H locs ht hB hk1 hS => ?_)
        obtain ⟨bb3, cc3, sv3, hcc_3, hwv_3, hwk_3, hwo_3, hP1, hD1⟩ := hB
        rw [ht] at hP1
        obtain ⟨hP, hD⟩ := zn (W2 := [_, _, _, _, _, _, _, _, _, _, _, _, _, _, (om k0 (va_up a 28 bb3) (upd I0 41 (nI ((((w + 1) + 1) + 1) + 1))) J0), (oa bb3 cI (4096 * cc3) sv3)]) hP hD hk1 hFc hP1 hD1 [14, 15] zl_165 zl_164 [14, 15] (by decide +kernel) rfl rfl rfl rfl rfl
        clear hk1 hPc hDc hFc hP1 hD1 ht
        have hV_3 := KI_s hc1 hV_2 (by omega) hwv_3 hwk_3 hwo_3 hcc_3
        have hU_3 := hV_3.1
        refine lv_aload_n hx hb dX11_keep_68 rfl (lv_at hl 1 rfl) ?_
        refine lv_aload_n hx hb dX11_keep_69 rfl (lv_at hl 1 rfl) ?_
        refine va_get (D := (dC, dI)) (ci := 9) (v := .ref (a 8)) (C := RX11) (T := TX11) (N := 55) hx hb hts inX11 hown hK hP 14 rfl rfl 8 (Nat.le_of_ble_eq_true rfl) (hts _ mw_1167) (fun _ h9 => h9) rfl dX11_keep_70 ?_
        refine lv_iload_n hx hb dX11_keep_73 rfl (lv_at hl 0 rfl) ?_
        refine z_iald hx hb hK hP 4 0 rfl rfl (e := q) rfl b9_6 (Nat.le_of_ble_eq_true rfl) dX11_keep_74 ?_
        have hd_4 := dc_pw hV_3.1.1 (w := w + 1 + 1 + 1 + 1) (by omega)
        obtain ⟨hPc, hDc, hFc⟩ := zo_sub (wc := [_, _]) hP hD hS hA [14, 15] rfl rfl
        refine zcall (st1 := []) (va_runV (As := [.int (pa q)]) (rest := []) ⟨hx, hb, hml, hown, hts⟩ (k_M_write l dC dI cI cZ cF H.size k0 (va_up a 28 bb3) (upd I0 41 (nI ((((w + 1) + 1) + 1) + 1))) J0 ((((w + 1) + 1) + 1) + 1) cc3 (pa q) sv3 (rfl) (by first | with_reducible assumption | omega) (by first | with_reducible assumption | omega) (by first | with_reducible assumption | omega)) (csV_193 hts rfl rfl ⟨Nat.le_of_ble_eq_true rfl, Nat.le_of_ble_eq_true rfl⟩) (zPV2 (q0 := 0) (ci := 9) hPc hDc hK hXN rfl rfl) rfl rfl hl.1 rfl (lv_room (Nat.le_of_ble_eq_true rfl)) dX11_keep_75 ⟨show (((((c1 - cp + (dc c1 w - c1)) + (dc cc0 (w + 1) - cc0)) + (dc cc1 ((w + 1) + 1) - cc1)) + (dc cc2 (((w + 1) + 1) + 1) - cc2)) + (dc cc3 ((((w + 1) + 1) + 1) + 1) - cc3)) ≤ cE - cp by omega, show (((((8192 * (c1 - cp) + (8192 * (dc c1 w - c1))) + (8192 * (dc cc0 (w + 1) - cc0))) + (8192 * (dc cc1 ((w + 1) + 1) - cc1))) + (8192 * (dc cc2 (((w + 1) + 1) + 1) - cc2))) + (8192 * (dc cc3 ((((w + 1) + 1) + 1) + 1) - cc3))) ≤ 8192 * (cE - cp) by omega⟩) hS hFc hFc rfl (fun t H locs ht hB hk1 hS => ?_)
        obtain ⟨bb4, cc4, sv4, hcc_4, hwv_4, hwk_4, hwo_4, hP1, hD1⟩ := hB
        rw [ht] at hP1
        obtain ⟨hP, hD⟩ := zn (W2 := [_, _, _, _, _, _, _, _, _, _, _, _, _, _, (om k0 (va_up a 28 bb4) (upd I0 41 (nI (((((w + 1) + 1) + 1) + 1) + 1))) J0), (oa bb4 cI (4096 * cc4) sv4)]) hP hD hk1 hFc hP1 hD1 [14, 15] zl_165 zl_164 [14, 15] (by decide +kernel) rfl rfl rfl rfl rfl
        clear hk1 hPc hDc hFc hP1 hD1 ht
        have hV_4 := KI_s hc1 hV_3 (by omega) hwv_4 hwk_4 hwo_4 hcc_4
        have hU_4 := hV_4.1
        refine lv_aload_n hx hb dX11_keep_78 rfl (lv_at hl 1 rfl) ?_
        refine lv_aload_n hx hb dX11_keep_79 rfl (lv_at hl 1 rfl) ?_
        refine va_get (D := (dC, dI)) (ci := 9) (v := .ref (a 9)) (C := RX11) (T := TX11) (N := 55) hx hb hts inX11 hown hK hP 14 rfl rfl 9 (Nat.le_of_ble_eq_true rfl) (hts _ mw_1168) (fun _ h9 => h9) rfl dX11_keep_80 ?_
        refine lv_iload_n hx hb dX11_keep_83 rfl (lv_at hl 0 rfl) ?_
        refine z_iald hx hb hK hP 5 0 rfl rfl (e := q) rfl b9_6 (Nat.le_of_ble_eq_true rfl) dX11_keep_84 ?_
        have hd_5 := dc_pw hV_4.1.1 (w := w + 1 + 1 + 1 + 1 + 1) (by omega)
        obtain ⟨hPc, hDc, hFc⟩ := zo_sub (wc := [_, _]) hP hD hS hA [14, 15] rfl rfl
        refine zcall (st1 := []) (va_runV (As := [.int (pb q)]) (rest := []) ⟨hx, hb, hml, hown, hts⟩ (k_M_write l dC dI cI cZ cF H.size k0 (va_up a 28 bb4) (upd I0 41 (nI (((((w + 1) + 1) + 1) + 1) + 1))) J0 (((((w + 1) + 1) + 1) + 1) + 1) cc4 (pb q) sv4 (rfl) (by first | with_reducible assumption | omega) (by first | with_reducible assumption | omega) (by first | with_reducible assumption | omega)) (csV_193 hts rfl rfl ⟨Nat.le_of_ble_eq_true rfl, Nat.le_of_ble_eq_true rfl⟩) (zPV2 (q0 := 0) (ci := 9) hPc hDc hK hXN rfl rfl) rfl rfl hl.1 rfl (lv_room (Nat.le_of_ble_eq_true rfl)) dX11_keep_85 ⟨show ((((((c1 - cp + (dc c1 w - c1)) + (dc cc0 (w + 1) - cc0)) + (dc cc1 ((w + 1) + 1) - cc1)) + (dc cc2 (((w + 1) + 1) + 1) - cc2)) + (dc cc3 ((((w + 1) + 1) + 1) + 1) - cc3)) + (dc cc4 (((((w + 1) + 1) + 1) + 1) + 1) - cc4)) ≤ cE - cp by omega, show ((((((8192 * (c1 - cp) + (8192 * (dc c1 w - c1))) + (8192 * (dc cc0 (w + 1) - cc0))) + (8192 * (dc cc1 ((w + 1) + 1) - cc1))) + (8192 * (dc cc2 (((w + 1) + 1) + 1) - cc2))) + (8192 * (dc cc3 ((((w + 1) + 1) + 1) + 1) - cc3))) + (8192 * (dc cc4 (((((w + 1) + 1) + 1) + 1) + 1) - cc4))) ≤ 8192 * (cE - cp) by omega⟩) hS hFc hFc rfl (fun t H locs ht hB hk1 hS => ?_)
        obtain ⟨bb5, cc5, sv5, hcc_5, hwv_5, hwk_5, hwo_5, hP1, hD1⟩ := hB
        rw [ht] at hP1
        obtain ⟨hP, hD⟩ := zn (W2 := [_, _, _, _, _, _, _, _, _, _, _, _, _, _, (om k0 (va_up a 28 bb5) (upd I0 41 (nI ((((((w + 1) + 1) + 1) + 1) + 1) + 1))) J0), (oa bb5 cI (4096 * cc5) sv5)]) hP hD hk1 hFc hP1 hD1 [14, 15] zl_165 zl_164 [14, 15] (by decide +kernel) rfl rfl rfl rfl rfl
        clear hk1 hPc hDc hFc hP1 hD1 ht
        have hV_5 := KI_s hc1 hV_4 (by omega) hwv_5 hwk_5 hwo_5 hcc_5
        have hU_5 := hV_5.1
        refine lv_aload_n hx hb dX11_keep_88 rfl (lv_at hl 1 rfl) ?_
        refine lv_aload_n hx hb dX11_keep_89 rfl (lv_at hl 1 rfl) ?_
        refine va_get (D := (dC, dI)) (ci := 9) (v := .ref (a 2)) (C := RX11) (T := TX11) (N := 55) hx hb hts inX11 hown hK hP 14 rfl rfl 2 (Nat.le_of_ble_eq_true rfl) (hts _ mw_1161) (fun _ h9 => h9) rfl dX11_keep_90 ?_
        refine lv_iload_n hx hb dX11_keep_93 rfl (lv_at hl 0 rfl) ?_
        refine z_iald hx hb hK hP 6 0 rfl rfl (e := q) rfl b9_6 (Nat.le_of_ble_eq_true rfl) dX11_keep_94 ?_
        have hd_6 := dc_pw hV_5.1.1 (w := w + 1 + 1 + 1 + 1 + 1 + 1) (by omega)
        obtain ⟨hPc, hDc, hFc⟩ := zo_sub (wc := [_, _]) hP hD hS hA [14, 15] rfl rfl
        refine zcall (st1 := []) (va_runV (As := [.int (rk q)]) (rest := []) ⟨hx, hb, hml, hown, hts⟩ (k_M_write l dC dI cI cZ cF H.size k0 (va_up a 28 bb5) (upd I0 41 (nI ((((((w + 1) + 1) + 1) + 1) + 1) + 1))) J0 ((((((w + 1) + 1) + 1) + 1) + 1) + 1) cc5 (rk q) sv5 (rfl) (by first | with_reducible assumption | omega) (by first | with_reducible assumption | omega) (by first | with_reducible assumption | omega)) (csV_193 hts rfl rfl ⟨Nat.le_of_ble_eq_true rfl, Nat.le_of_ble_eq_true rfl⟩) (zPV2 (q0 := 0) (ci := 9) hPc hDc hK hXN rfl rfl) rfl rfl hl.1 rfl (lv_room (Nat.le_of_ble_eq_true rfl)) dX11_keep_95 ⟨show (((((((c1 - cp + (dc c1 w - c1)) + (dc cc0 (w + 1) - cc0)) + (dc cc1 ((w + 1) + 1) - cc1)) + (dc cc2 (((w + 1) + 1) + 1) - cc2)) + (dc cc3 ((((w + 1) + 1) + 1) + 1) - cc3)) + (dc cc4 (((((w + 1) + 1) + 1) + 1) + 1) - cc4)) + (dc cc5 ((((((w + 1) + 1) + 1) + 1) + 1) + 1) - cc5)) ≤ cE - cp by omega, show (((((((8192 * (c1 - cp) + (8192 * (dc c1 w - c1))) + (8192 * (dc cc0 (w + 1) - cc0))) + (8192 * (dc cc1 ((w + 1) + 1) - cc1))) + (8192 * (dc cc2 (((w + 1) + 1) + 1) - cc2))) + (8192 * (dc cc3 ((((w + 1) + 1) + 1) + 1) - cc3))) + (8192 * (dc cc4 (((((w + 1) + 1) + 1) + 1) + 1) - cc4))) + (8192 * (dc cc5 ((((((w + 1) + 1) + 1) + 1) + 1) + 1) - cc5))) ≤ 8192 * (cE - cp) by omega⟩) hS hFc hFc rfl (fun t H locs ht hB hk1 hS => ?_)
        obtain ⟨bb6, cc6, sv6, hcc_6, hwv_6, hwk_6, hwo_6, hP1, hD1⟩ := hB
        rw [ht] at hP1
        obtain ⟨hP, hD⟩ := zn (W2 := [_, _, _, _, _, _, _, _, _, _, _, _, _, _, (om k0 (va_up a 28 bb6) (upd I0 41 (nI (((((((w + 1) + 1) + 1) + 1) + 1) + 1) + 1))) J0), (oa bb6 cI (4096 * cc6) sv6)]) hP hD hk1 hFc hP1 hD1 [14, 15] zl_165 zl_164 [14, 15] (by decide +kernel) rfl rfl rfl rfl rfl
        clear hk1 hPc hDc hFc hP1 hD1 ht
        have hV_6 := KI_s hc1 hV_5 (by omega) hwv_6 hwk_6 hwo_6 hcc_6
        have hU_6 := hV_6.1
        refine lv_aload_n hx hb dX11_keep_98 rfl (lv_at hl 1 rfl) ?_
        refine lv_aload_n hx hb dX11_keep_99 rfl (lv_at hl 1 rfl) ?_
        refine va_get (D := (dC, dI)) (ci := 9) (v := .ref (a 3)) (C := RX11) (T := TX11) (N := 55) hx hb hts inX11 hown hK hP 14 rfl rfl 3 (Nat.le_of_ble_eq_true rfl) (hts _ mw_1162) (fun _ h9 => h9) rfl dX11_keep_100 ?_
        refine lv_iload_n hx hb dX11_keep_103 rfl (lv_at hl 0 rfl) ?_
        refine z_iald hx hb hK hP 7 0 rfl rfl (e := q) rfl b9_6 (Nat.le_of_ble_eq_true rfl) dX11_keep_104 ?_
        have hd_7 := dc_pw hV_6.1.1 (w := w + 1 + 1 + 1 + 1 + 1 + 1 + 1) (by omega)
        obtain ⟨hPc, hDc, hFc⟩ := zo_sub (wc := [_, _]) hP hD hS hA [14, 15] rfl rfl
        refine zcall (st1 := []) (va_runV (As := [.int (wd q)]) (rest := []) ⟨hx, hb, hml, hown, hts⟩ (k_M_write l dC dI cI cZ cF H.size k0 (va_up a 28 bb6) (upd I0 41 (nI (((((((w + 1) + 1) + 1) + 1) + 1) + 1) + 1))) J0 (((((((w + 1) + 1) + 1) + 1) + 1) + 1) + 1) cc6 (wd q) sv6 (rfl) (by first | with_reducible assumption | omega) (by first | with_reducible assumption | omega) (by first | with_reducible assumption | omega)) (csV_193 hts rfl rfl ⟨Nat.le_of_ble_eq_true rfl, Nat.le_of_ble_eq_true rfl⟩) (zPV2 (q0 := 0) (ci := 9) hPc hDc hK hXN rfl rfl) rfl rfl hl.1 rfl (lv_room (Nat.le_of_ble_eq_true rfl)) dX11_keep_105 ⟨show ((((((((c1 - cp + (dc c1 w - c1)) + (dc cc0 (w + 1) - cc0)) + (dc cc1 ((w + 1) + 1) - cc1)) + (dc cc2 (((w + 1) + 1) + 1) - cc2)) + (dc cc3 ((((w + 1) + 1) + 1) + 1) - cc3)) + (dc cc4 (((((w + 1) + 1) + 1) + 1) + 1) - cc4)) + (dc cc5 ((((((w + 1) + 1) + 1) + 1) + 1) + 1) - cc5)) + (dc cc6 (((((((w + 1) + 1) + 1) + 1) + 1) + 1) + 1) - cc6)) ≤ cE - cp by omega, show ((((((((8192 * (c1 - cp) + (8192 * (dc c1 w - c1))) + (8192 * (dc cc0 (w + 1) - cc0))) + (8192 * (dc cc1 ((w + 1) + 1) - cc1))) + (8192 * (dc cc2 (((w + 1) + 1) + 1) - cc2))) + (8192 * (dc cc3 ((((w + 1) + 1) + 1) + 1) - cc3))) + (8192 * (dc cc4 (((((w + 1) + 1) + 1) + 1) + 1) - cc4))) + (8192 * (dc cc5 ((((((w + 1) + 1) + 1) + 1) + 1) + 1) - cc5))) + (8192 * (dc cc6 (((((((w + 1) + 1) + 1) + 1) + 1) + 1) + 1) - cc6))) ≤ 8192 * (cE - cp) by omega⟩) hS hFc hFc rfl (fun t H locs ht hB hk1 hS => ?_)
        obtain ⟨bb7, cc7, sv7, hcc_7, hwv_7, hwk_7, hwo_7, hP1, hD1⟩ := hB
        rw [ht] at hP1
        obtain ⟨hP, hD⟩ := zn (W2 := [_, _, _, _, _, _, _, _, _, _, _, _, _, _, (om k0 (va_up a 28 bb7) (upd I0 41 (nI ((((((((w + 1) + 1) + 1) + 1) + 1) + 1) + 1) + 1))) J0), (oa bb7 cI (4096 * cc7) sv7)]) hP hD hk1 hFc hP1 hD1 [14, 15] zl_165 zl_164 [14, 15] (by decide +kernel) rfl rfl rfl rfl rfl
        clear hk1 hPc hDc hFc hP1 hD1 ht
        have hV_7 := KI_s hc1 hV_6 (by omega) hwv_7 hwk_7 hwo_7 hcc_7
        have hU_7 := hV_7.1
        refine lv_aload_n hx hb dX11_keep_108 rfl (lv_at hl 1 rfl) ?_
        refine lv_aload_n hx hb dX11_keep_109 rfl (lv_at hl 1 rfl) ?_
        refine va_get (D := (dC, dI)) (ci := 9) (v := .ref (a 4)) (C := RX11) (T := TX11) (N := 55) hx hb hts inX11 hown hK hP 14 rfl rfl 4 (Nat.le_of_ble_eq_true rfl) (hts _ mw_1163) (fun _ h9 => h9) rfl dX11_keep_110 ?_
        refine lv_iload_n hx hb dX11_keep_113 rfl (lv_at hl 0 rfl) ?_
        refine z_iald hx hb hK hP 8 0 rfl rfl (e := q) rfl b9_6 (Nat.le_of_ble_eq_true rfl) dX11_keep_114 ?_
        have hd_8 := dc_pw hV_7.1.1 (w := w + 1 + 1 + 1 + 1 + 1 + 1 + 1 + 1) (by omega)
        obtain ⟨hPc, hDc, hFc⟩ := zo_sub (wc := [_, _]) hP hD hS hA [14, 15] rfl rfl
        refine zcall (st1 := []) (va_runV (As := [.int (tw q)]) (rest := []) ⟨hx, hb, hml, hown, hts⟩ (k_M_write l dC dI cI cZ cF H.size k0 (va_up a 28 bb7) (upd I0 41 (nI ((((((((w + 1) + 1) + 1) + 1) + 1) + 1) + 1) + 1))) J0 ((((((((w + 1) + 1) + 1) + 1) + 1) + 1) + 1) + 1) cc7 (tw q) sv7 (rfl) (by first | with_reducible assumption | omega) (by first | with_reducible assumption | omega) (by first | with_reducible assumption | omega)) (csV_193 hts rfl rfl ⟨Nat.le_of_ble_eq_true rfl, Nat.le_of_ble_eq_true rfl⟩) (zPV2 (q0 := 0) (ci := 9) hPc hDc hK hXN rfl rfl) rfl rfl hl.1 rfl (lv_room (Nat.le_of_ble_eq_true rfl)) dX11_keep_115 ⟨show (((((((((c1 - cp + (dc c1 w - c1)) + (dc cc0 (w + 1) - cc0)) + (dc cc1 ((w + 1) + 1) - cc1)) + (dc cc2 (((w + 1) + 1) + 1) - cc2)) + (dc cc3 ((((w + 1) + 1) + 1) + 1) - cc3)) + (dc cc4 (((((w + 1) + 1) + 1) + 1) + 1) - cc4)) + (dc cc5 ((((((w + 1) + 1) + 1) + 1) + 1) + 1) - cc5)) + (dc cc6 (((((((w + 1) + 1) + 1) + 1) + 1) + 1) + 1) - cc6)) + (dc cc7 ((((((((w + 1) + 1) + 1) + 1) + 1) + 1) + 1) + 1) - cc7)) ≤ cE - cp by omega, show (((((((((8192 * (c1 - cp) + (8192 * (dc c1 w - c1))) + (8192 * (dc cc0 (w + 1) - cc0))) + (8192 * (dc cc1 ((w + 1) + 1) - cc1))) + (8192 * (dc cc2 (((w + 1) + 1) + 1) - cc2))) + (8192 * (dc cc3 ((((w + 1) + 1) + 1) + 1) - cc3))) + (8192 * (dc cc4 (((((w + 1) + 1) + 1) + 1) + 1) - cc4))) + (8192 * (dc cc5 ((((((w + 1) + 1) + 1) + 1) + 1) + 1) - cc5))) + (8192 * (dc cc6 (((((((w + 1) + 1) + 1) + 1) + 1) + 1) + 1) - cc6))) + (8192 * (dc cc7 ((((((((w + 1) + 1) + 1) + 1) + 1) + 1) + 1) + 1) - cc7))) ≤ 8192 * (cE - cp) by omega⟩) hS hFc hFc rfl (fun t H locs ht hB hk1 hS => ?_)
        obtain ⟨bb8, cc8, sv8, hcc_8, hwv_8, hwk_8, hwo_8, hP1, hD1⟩ := hB
        rw [ht] at hP1
        obtain ⟨hP, hD⟩ := zn (W2 := [_, _, _, _, _, _, _, _, _, _, _, _, _, _, (om k0 (va_up a 28 bb8) (upd I0 41 (nI (((((((((w + 1) + 1) + 1) + 1) + 1) + 1) + 1) + 1) + 1))) J0), (oa bb8 cI (4096 * cc8) sv8)]) hP hD hk1 hFc hP1 hD1 [14, 15] zl_165 zl_164 [14, 15] (by decide +kernel) rfl rfl rfl rfl rfl
        clear hk1 hPc hDc hFc hP1 hD1 ht
        have hV_8 := KI_s hc1 hV_7 (by omega) hwv_8 hwk_8 hwo_8 hcc_8
        have hU_8 := hV_8.1
        refine lv_aload_n hx hb dX11_keep_118 rfl (lv_at hl 1 rfl) ?_
        have hj_7 : W p l e ({ frames := 1, cells := cE - cp, slots := 8192 * (cE - cp), locals := 23 } : Room) s m ([.ref k0, .int (nI i)] : List Value).toArray below meth c H locs (((((((((c1 - cp + (dc c1 w - c1)) + (dc cc0 (w + 1) - cc0)) + (dc cc1 ((w + 1) + 1) - cc1)) + (dc cc2 (((w + 1) + 1) + 1) - cc2)) + (dc cc3 ((((w + 1) + 1) + 1) + 1) - cc3)) + (dc cc4 (((((w + 1) + 1) + 1) + 1) + 1) - cc4)) + (dc cc5 ((((((w + 1) + 1) + 1) + 1) + 1) + 1) - cc5)) + (dc cc6 (((((((w + 1) + 1) + 1) + 1) + 1) + 1) + 1) - cc6)) + (dc cc7 ((((((((w + 1) + 1) + 1) + 1) + 1) + 1) + 1) + 1) - cc7)) (((((((((8192 * (c1 - cp) + (8192 * (dc c1 w - c1))) + (8192 * (dc cc0 (w + 1) - cc0))) + (8192 * (dc cc1 ((w + 1) + 1) - cc1))) + (8192 * (dc cc2 (((w + 1) + 1) + 1) - cc2))) + (8192 * (dc cc3 ((((w + 1) + 1) + 1) + 1) - cc3))) + (8192 * (dc cc4 (((((w + 1) + 1) + 1) + 1) + 1) - cc4))) + (8192 * (dc cc5 ((((((w + 1) + 1) + 1) + 1) + 1) + 1) - cc5))) + (8192 * (dc cc6 (((((((w + 1) + 1) + 1) + 1) + 1) + 1) + 1) - cc6))) + (8192 * (dc cc7 ((((((((w + 1) + 1) + 1) + 1) + 1) + 1) + 1) + 1) - cc7))) Q9 (F0 m 146 ls [.int (nI (nnF st tn mn q))]) := by
          refine lv_istore_n (lv' := [(3, .int (nI (nnF st tn mn q))), (2, .int (nI q)), (0, .ref k0), (1, .int (nI i))]) hx hb dX11_keep_146 rfl hl (Nat.le_of_ble_eq_true rfl) rfl (fun ls hl => ?_)
          refine lv_aload_n hx hb dX11_keep_147 rfl (lv_at hl 2 rfl) ?_
          refine lv_iload_n hx hb dX11_keep_148 rfl (lv_at hl 0 rfl) ?_
          have hd_9 := dc_pw hV_8.1.1 (w := w + 1 + 1 + 1 + 1 + 1 + 1 + 1 + 1 + 1) (by omega)
          obtain ⟨hPc, hDc, hFc⟩ := zo_sub (wc := [_, _]) hP hD hS hA [14, 15] rfl rfl
          refine zcall (st1 := []) (va_runV (As := [.int (nI (nnF st tn mn q))]) (rest := []) ⟨hx, hb, hml, hown, hts⟩ (k_M_write l dC dI cI cZ cF H.size k0 (va_up a 28 bb8) (upd I0 41 (nI (((((((((w + 1) + 1) + 1) + 1) + 1) + 1) + 1) + 1) + 1))) J0 (((((((((w + 1) + 1) + 1) + 1) + 1) + 1) + 1) + 1) + 1) cc8 (nI (nnF st tn mn q)) sv8 (rfl) (by first | with_reducible assumption | omega) (by first | with_reducible assumption | omega) (by first | with_reducible assumption | omega)) (csV_193 hts rfl rfl ⟨Nat.le_of_ble_eq_true rfl, Nat.le_of_ble_eq_true rfl⟩) (zPV2 (q0 := 0) (ci := 9) hPc hDc hK hXN rfl rfl) rfl rfl hl.1 rfl (lv_room (Nat.le_of_ble_eq_true rfl)) dX11_keep_149 ⟨show ((((((((((c1 - cp + (dc c1 w - c1)) + (dc cc0 (w + 1) - cc0)) + (dc cc1 ((w + 1) + 1) - cc1)) + (dc cc2 (((w + 1) + 1) + 1) - cc2)) + (dc cc3 ((((w + 1) + 1) + 1) + 1) - cc3)) + (dc cc4 (((((w + 1) + 1) + 1) + 1) + 1) - cc4)) + (dc cc5 ((((((w + 1) + 1) + 1) + 1) + 1) + 1) - cc5)) + (dc cc6 (((((((w + 1) + 1) + 1) + 1) + 1) + 1) + 1) - cc6)) + (dc cc7 ((((((((w + 1) + 1) + 1) + 1) + 1) + 1) + 1) + 1) - cc7)) + (dc cc8 (((((((((w + 1) + 1) + 1) + 1) + 1) + 1) + 1) + 1) + 1) - cc8)) ≤ cE - cp by omega, show ((((((((((8192 * (c1 - cp) + (8192 * (dc c1 w - c1))) + (8192 * (dc cc0 (w + 1) - cc0))) + (8192 * (dc cc1 ((w + 1) + 1) - cc1))) + (8192 * (dc cc2 (((w + 1) + 1) + 1) - cc2))) + (8192 * (dc cc3 ((((w + 1) + 1) + 1) + 1) - cc3))) + (8192 * (dc cc4 (((((w + 1) + 1) + 1) + 1) + 1) - cc4))) + (8192 * (dc cc5 ((((((w + 1) + 1) + 1) + 1) + 1) + 1) - cc5))) + (8192 * (dc cc6 (((((((w + 1) + 1) + 1) + 1) + 1) + 1) + 1) - cc6))) + (8192 * (dc cc7 ((((((((w + 1) + 1) + 1) + 1) + 1) + 1) + 1) + 1) - cc7))) + (8192 * (dc cc8 (((((((((w + 1) + 1) + 1) + 1) + 1) + 1) + 1) + 1) + 1) - cc8))) ≤ 8192 * (cE - cp) by omega⟩) hS hFc hFc rfl (fun t H locs ht hB hk1 hS => ?_)
          obtain ⟨bb9, cc9, sv9, hcc_9, hwv_9, hwk_9, hwo_9, hP1, hD1⟩ := hB
          rw [ht] at hP1
          obtain ⟨hP, hD⟩ := zn (W2 := [_, _, _, _, _, _, _, _, _, _, _, _, _, _, (om k0 (va_up a 28 bb9) (upd I0 41 (nI ((((((((((w + 1) + 1) + 1) + 1) + 1) + 1) + 1) + 1) + 1) + 1))) J0), (oa bb9 cI (4096 * cc9) sv9)]) hP hD hk1 hFc hP1 hD1 [14, 15] zl_165 zl_164 [14, 15] (by decide +kernel) rfl rfl rfl rfl rfl
          clear hk1 hPc hDc hFc hP1 hD1 ht
          have hV_9 := KI_s hc1 hV_8 (by omega) hwv_9 hwk_9 hwo_9 hcc_9
          have hU_9 := hV_9.1
          refine lv_iconst (v := 0) hx hb dX11_keep_152 rfl ?_
          refine lv_istore (lv' := [(4, .int 0), (3, .int (nI (nnF st tn mn q))), (2, .int (nI q)), (0, .ref k0), (1, .int (nI i))]) hx hb dX11_keep_153 hl (Nat.le_of_ble_eq_true rfl) rfl (fun ls hl => ?_)
          have hl_155 : ∀ (n9 : Nat) (k : Nat) (b2 : Nat) (c2 : Nat) (w2 : Nat) (sh2 : Nat → Int32) (H : Heap) (locs : List Loc) (ls : Array Slot), nnF st tn mn q - k < n9 → (k ≤ nnF st tn mn q) → (KI cp cE w0 (nI ft) (nnF st tn mn) (shD kd st gb it pa pb rk wd tw (nnF st tn mn) cx cy) sh q (10 + 2 * k) sh2 c2 w2) → va_P (dC, dI) classes [(oa (a 1) cI 201 kd), (oa (a 5) cI 201 st), (oa (a 7) cI 201 gb), (oa (a 10) cI 201 it), (oa (a 8) cI 201 pa), (oa (a 9) cI 201 pb), (oa (a 2) cI 201 rk), (oa (a 3) cI 201 wd), (oa (a 4) cI 201 tw), (oa (a 6) cZ 201 tn), (oa (a 11) cI 201 mn), (oa (a 12) cI 8040 cx), (oa (a 13) cI 8040 cy), (oa (a 27) cI 516 sa), (om k0 (va_up a 28 b2) (upd I0 41 (nI w2)) J0), (oa b2 cI (4096 * c2) sh2)] H → va_D A [(oa (a 1) cI 201 kd), (oa (a 5) cI 201 st), (oa (a 7) cI 201 gb), (oa (a 10) cI 201 it), (oa (a 8) cI 201 pa), (oa (a 9) cI 201 pb), (oa (a 2) cI 201 rk), (oa (a 3) cI 201 wd), (oa (a 4) cI 201 tw), (oa (a 6) cZ 201 tn), (oa (a 11) cI 201 mn), (oa (a 12) cI 8040 cx), (oa (a 13) cI 8040 cy), (oa (a 27) cI 516 sa), (om k0 (va_up a 28 b2) (upd I0 41 (nI w2)) J0), (oa b2 cI (4096 * c2) sh2)] → va_S A s.heap H locs → lv_has ls 5 [(4, .int (nI k)), (3, .int (nI (nnF st tn mn q))), (2, .int (nI q)), (0, .ref k0), (1, .int (nI i))] → W p l e ({ frames := 1, cells := cE - cp, slots := 8192 * (cE - cp), locals := 23 } : Room) s m ([.ref k0, .int (nI i)] : List Value).toArray below meth c H locs (c2 - cp) (8192 * (c2 - cp)) Q9 (F0 m 155 ls []) := by
            intro n9
            induction n9 with
            | zero => intro k b2 c2 w2 sh2 H locs ls hm; exact absurd hm (Nat.not_lt_zero _)
            | succ n9 ih_155 =>
              intro k b2 c2 w2 sh2 H locs ls hm hk hV2 hP hD hS hl
              have hU2 := hV2.1
              have hn40 : nnF st tn mn q ≤ 40 := (by unfold nnF; split; exact (hmn q (by omega) (by omega) (by omega)).2; omega)
              refine lv_iload hx hb dX11_keep_155 (lv_at hl 0 rfl) ?_
              refine lv_iload_n hx hb dX11_keep_157 rfl (lv_at hl 1 rfl) ?_
              have b9_9 : zlt (k) := show k < 2147483648 by omega
              have b9_10 : zlt ((nnF st tn mn q)) := show (nnF st tn mn q) < 2147483648 by omega
              refine lv_icmp_ge (tgt := 199) hx hb dX11_keep_158 rfl (fun c_8 => ?_) (fun c_8 => ?_)
              · have c_8 : ((nnF st tn mn q : Nat) : Int) ≤ ((k : Nat) : Int) := zc_le (nI_toInt b9_10) (nI_toInt b9_9) c_8
                refine lv_iinc (v := nI (q + 1)) (lv' := [(2, .int (nI (q + 1))), (4, .int (nI k)), (3, .int (nI (nnF st tn mn q))), (0, .ref k0), (1, .int (nI i))]) hx hb dX11_keep_199 hl (k := 2) rfl (nI_add q 1) (Nat.le_of_ble_eq_true rfl) rfl (fun ls hl => ?_)
                refine lv_goto (tgt := 20) hx hb dX11_keep_202 rfl ?_
                refine W.widen (k := c2 - cp) (n := 8192 * (c2 - cp)) (by omega) (by omega) ?_
                exact ih_20 (q + 1) b2 c2 w2 sh2 H locs ls (by first | with_reducible assumption | omega) (by first | with_reducible assumption | omega) (KI_n hV2 (by first | with_reducible assumption | omega)) hP hD hS (lv_sub hl [0, 3, 4] rfl)
              · have c_8 : ((k : Nat) : Int) < ((nnF st tn mn q : Nat) : Int) := zc_nle (nI_toInt b9_10) (nI_toInt b9_9) c_8
                have hdx := dc_pw hV2.1.1 (w := w2) (by omega)
                refine lv_aload_n hx hb dX11_keep_161 rfl (lv_at hl 3 rfl) ?_
                refine lv_aload_n hx hb dX11_keep_162 rfl (lv_at hl 3 rfl) ?_
                refine va_get (D := (dC, dI)) (ci := 9) (v := .ref (a 12)) (C := RX11) (T := TX11) (N := 55) hx hb hts inX11 hown hK hP 14 rfl rfl 12 (Nat.le_of_ble_eq_true rfl) (hts _ mw_1171) (fun _ h9 => h9) rfl dX11_keep_163 ?_
                refine lv_bipush (v := 40) hx hb dX11_keep_166 rfl ?_
                refine lv_iload_n hx hb dX11_keep_168 rfl (lv_at hl 2 rfl) ?_
                refine lv_imul hx hb dX11_keep_169 ?_
                refine zz_i (v := nI (40 * q)) (pk_mul 40 q) ?_
                refine lv_iload hx hb dX11_keep_170 (lv_at hl 0 rfl) ?_
                refine lv_iadd hx hb dX11_keep_172 ?_
                refine zz_i (v := nI (40 * q + k)) (nI_add (40 * q) k) ?_
                have b9_11 : 40 * q + k < 8040 := by omega
                refine z_iald hx hb hK hP 11 0 rfl rfl (e := 40 * q + k) rfl b9_11 (Nat.le_of_ble_eq_true rfl) dX11_keep_173 ?_
                obtain ⟨hPc, hDc, hFc⟩ := zo_sub (wc := [_, _]) hP hD hS hA [14, 15] rfl rfl
                refine zcall (st1 := []) (va_runV (As := [.int (cx (40 * q + k))]) (rest := []) ⟨hx, hb, hml, hown, hts⟩ (k_M_write l dC dI cI cZ cF H.size k0 (va_up a 28 b2) (upd I0 41 (nI w2)) J0 w2 c2 (cx (40 * q + k)) sh2 (rfl) (by first | with_reducible assumption | omega) (by first | with_reducible assumption | omega) (by first | with_reducible assumption | omega)) (csV_193 hts rfl rfl ⟨Nat.le_of_ble_eq_true rfl, Nat.le_of_ble_eq_true rfl⟩) (zPV2 (q0 := 0) (ci := 9) hPc hDc hK hXN rfl rfl) rfl rfl hl.1 rfl (lv_room (Nat.le_of_ble_eq_true rfl)) dX11_keep_174 ⟨show (c2 - cp + (dc c2 w2 - c2)) ≤ cE - cp by omega, show (8192 * (c2 - cp) + (8192 * (dc c2 w2 - c2))) ≤ 8192 * (cE - cp) by omega⟩) hS hFc hFc rfl (fun t H locs ht hB hk1 hS => ?_)
                obtain ⟨bx, cx9, sx, hcx, hwvx, hwkx, hwox, hP1, hD1⟩ := hB
                rw [ht] at hP1
                obtain ⟨hP, hD⟩ := zn (W2 := [_, _, _, _, _, _, _, _, _, _, _, _, _, _, (om k0 (va_up a 28 bx) (upd I0 41 (nI (w2 + 1))) J0), (oa bx cI (4096 * cx9) sx)]) hP hD hk1 hFc hP1 hD1 [14, 15] zl_165 zl_164 [14, 15] (by decide +kernel) rfl rfl rfl rfl rfl
                clear hk1 hPc hDc hFc hP1 hD1 ht
                have hV3 := KI_s hc1 hV2 (by omega) (hwvx.trans (shD_x (by omega)).symm) hwkx hwox hcx
                have hU3 := hV3.1
                have hdy := dc_pw hV3.1.1 (w := w2 + 1) (by omega)
                refine lv_aload_n hx hb dX11_keep_177 rfl (lv_at hl 3 rfl) ?_
                refine lv_aload_n hx hb dX11_keep_178 rfl (lv_at hl 3 rfl) ?_
                refine va_get (D := (dC, dI)) (ci := 9) (v := .ref (a 13)) (C := RX11) (T := TX11) (N := 55) hx hb hts inX11 hown hK hP 14 rfl rfl 13 (Nat.le_of_ble_eq_true rfl) (hts _ mw_1172) (fun _ h9 => h9) rfl dX11_keep_179 ?_
                refine lv_bipush (v := 40) hx hb dX11_keep_182 rfl ?_
                refine lv_iload_n hx hb dX11_keep_184 rfl (lv_at hl 2 rfl) ?_
                refine lv_imul hx hb dX11_keep_185 ?_
                refine zz_i (v := nI (40 * q)) (pk_mul 40 q) ?_
                refine lv_iload hx hb dX11_keep_186 (lv_at hl 0 rfl) ?_
                refine lv_iadd hx hb dX11_keep_188 ?_
                refine zz_i (v := nI (40 * q + k)) (nI_add (40 * q) k) ?_
                refine z_iald hx hb hK hP 12 0 rfl rfl (e := 40 * q + k) rfl b9_11 (Nat.le_of_ble_eq_true rfl) dX11_keep_189 ?_
                obtain ⟨hPc, hDc, hFc⟩ := zo_sub (wc := [_, _]) hP hD hS hA [14, 15] rfl rfl
                refine zcall (st1 := []) (va_runV (As := [.int (cy (40 * q + k))]) (rest := []) ⟨hx, hb, hml, hown, hts⟩ (k_M_write l dC dI cI cZ cF H.size k0 (va_up a 28 bx) (upd I0 41 (nI (w2 + 1))) J0 (w2 + 1) cx9 (cy (40 * q + k)) sx (rfl) (by first | with_reducible assumption | omega) (by first | with_reducible assumption | omega) (by first | with_reducible assumption | omega)) (csV_193 hts rfl rfl ⟨Nat.le_of_ble_eq_true rfl, Nat.le_of_ble_eq_true rfl⟩) (zPV2 (q0 := 0) (ci := 9) hPc hDc hK hXN rfl rfl) rfl rfl hl.1 rfl (lv_room (Nat.le_of_ble_eq_true rfl)) dX11_keep_190 ⟨show ((c2 - cp + (dc c2 w2 - c2)) + (dc cx9 (w2 + 1) - cx9)) ≤ cE - cp by omega, show ((8192 * (c2 - cp) + (8192 * (dc c2 w2 - c2))) + (8192 * (dc cx9 (w2 + 1) - cx9))) ≤ 8192 * (cE - cp) by omega⟩) hS hFc hFc rfl (fun t H locs ht hB hk1 hS => ?_)
                obtain ⟨by9, cy9, sy, hcy, hwvy, hwky, hwoy, hP1, hD1⟩ := hB
                rw [ht] at hP1
                obtain ⟨hP, hD⟩ := zn (W2 := [_, _, _, _, _, _, _, _, _, _, _, _, _, _, (om k0 (va_up a 28 by9) (upd I0 41 (nI ((w2 + 1) + 1))) J0), (oa by9 cI (4096 * cy9) sy)]) hP hD hk1 hFc hP1 hD1 [14, 15] zl_165 zl_164 [14, 15] (by decide +kernel) rfl rfl rfl rfl rfl
                clear hk1 hPc hDc hFc hP1 hD1 ht
                have hV4 := KI_s hc1 hV3 (by omega) (hwvy.trans (shD_y (by omega)).symm) hwky hwoy hcy
                have hU4 := hV4.1
                refine lv_iinc (v := nI (k + 1)) (lv' := [(4, .int (nI (k + 1))), (3, .int (nI (nnF st tn mn q))), (2, .int (nI q)), (0, .ref k0), (1, .int (nI i))]) hx hb dX11_keep_193 hl (k := 0) rfl (nI_add k 1) (Nat.le_of_ble_eq_true rfl) rfl (fun ls hl => ?_)
                refine lv_goto (tgt := 155) hx hb dX11_keep_196 rfl ?_
                refine W.widen (k := cy9 - cp) (n := 8192 * (cy9 - cp)) (by omega) (by omega) ?_
                exact ih_155 (k + 1) by9 cy9 ((w2 + 1) + 1) sy H locs ls (by first | with_reducible assumption | omega) (by first | with_reducible assumption | omega) (hV4) hP hD hS (lv_sub hl [0, 1, 2, 3, 4] rfl)
          refine W.widen (k := cc9 - cp) (n := 8192 * (cc9 - cp)) (by omega) (by omega) ?_
          exact hl_155 _ 0 bb9 cc9 ((((((((((w + 1) + 1) + 1) + 1) + 1) + 1) + 1) + 1) + 1) + 1) sv9 H locs ls (Nat.lt_succ_self _) (by first | with_reducible assumption | omega) (hV_9) hP hD hS (lv_sub hl [0, 1, 2, 3, 4] rfl)
        refine va_get (D := (dC, dI)) (ci := 9) (v := .ref (a 6)) (C := RX11) (T := TX11) (N := 55) hx hb hts inX11 hown hK hP 14 rfl rfl 6 (Nat.le_of_ble_eq_true rfl) (hts _ mw_1165) (fun _ h9 => h9) rfl dX11_keep_119 ?_
        refine lv_iload_n hx hb dX11_keep_122 rfl (lv_at hl 0 rfl) ?_
        refine z_zald hx hb hK hP 9 1 rfl rfl (e := q) rfl b9_6 (Nat.le_of_ble_eq_true rfl) dX11_keep_123 ?_
        refine lv_if_ne (tgt := 136) hx hb dX11_keep_124 rfl (fun c_12 => ?_) (fun c_12 => ?_)
        · have c_12 : ¬ (tn q).toInt = 0 := zc_ne rfl rfl c_12
          refine lv_iconst (v := 0) hx hb dX11_keep_136 rfl ?_
          refine lv_goto (tgt := 146) hx hb dX11_keep_137 rfl ?_
          refine zz_i (v := nI (nnF st tn mn q)) (by unfold nnF; first | (rw [if_neg (by omega)]; rfl) | (rw [if_pos ⟨by omega, by omega⟩])) ?_
          exact hj_7 
        · have c_12 : (tn q).toInt = 0 := zc_eq rfl rfl c_12
          refine lv_aload_n hx hb dX11_keep_127 rfl (lv_at hl 1 rfl) ?_
          refine va_get (D := (dC, dI)) (ci := 9) (v := .ref (a 5)) (C := RX11) (T := TX11) (N := 55) hx hb hts inX11 hown hK hP 14 rfl rfl 5 (Nat.le_of_ble_eq_true rfl) (hts _ mw_1164) (fun _ h9 => h9) rfl dX11_keep_128 ?_
          refine lv_iload_n hx hb dX11_keep_131 rfl (lv_at hl 0 rfl) ?_
          refine z_iald hx hb hK hP 1 0 rfl rfl (e := q) rfl b9_6 (Nat.le_of_ble_eq_true rfl) dX11_keep_132 ?_
          refine lv_if_ne (tgt := 140) hx hb dX11_keep_133 rfl (fun c_13 => ?_) (fun c_13 => ?_)
          · have c_13 : ¬ (st q).toInt = 0 := zc_ne rfl rfl c_13
            have hm9 := hmn q (by omega) (by omega) (by omega)
            refine lv_aload_n hx hb dX11_keep_140 rfl (lv_at hl 1 rfl) ?_
            refine va_get (D := (dC, dI)) (ci := 9) (v := .ref (a 11)) (C := RX11) (T := TX11) (N := 55) hx hb hts inX11 hown hK hP 14 rfl rfl 11 (Nat.le_of_ble_eq_true rfl) (hts _ mw_1170) (fun _ h9 => h9) rfl dX11_keep_141 ?_
            refine lv_iload_n hx hb dX11_keep_144 rfl (lv_at hl 0 rfl) ?_
            refine z_iald hx hb hK hP 10 0 rfl rfl (e := q) rfl b9_6 (Nat.le_of_ble_eq_true rfl) dX11_keep_145 ?_
            refine zz_i (v := nI (nN (mn q))) (hm9.1) ?_
            refine zz_i (v := nI (nnF st tn mn q)) (by unfold nnF; first | (rw [if_neg (by omega)]; rfl) | (rw [if_pos ⟨by omega, by omega⟩])) ?_
            exact hj_7 
          · have c_13 : (st q).toInt = 0 := zc_eq rfl rfl c_13
            refine lv_iconst (v := 0) hx hb dX11_keep_136 rfl ?_
            refine lv_goto (tgt := 146) hx hb dX11_keep_137 rfl ?_
            refine zz_i (v := nI (nnF st tn mn q)) (by unfold nnF; first | (rw [if_neg (by omega)]; rfl) | (rw [if_pos ⟨by omega, by omega⟩])) ?_
            exact hj_7 
  refine W.widen (k := c0 - cp) (n := 8192 * (c0 - cp)) (by omega) (by omega) ?_
  exact hl_20 _ 0 b0 c0 (w0 + 1) sh0 H locs ls (Nat.lt_succ_self _) (by first | with_reducible assumption | omega) (hV0) hP hD hS (lv_sub hl [0, 1, 2] rfl)
end
section
set_option maxHeartbeats 4000000 in
set_option maxRecDepth 100000 in
theorem k_M_restore (l : Launch) (dC : Nat → ClassId) (dI : Nat → Nat → Nat) (cI cZ cF : ClassId) (sz : Nat) (k0 : Nat) (a : Nat → Nat) (I0 : Nat → Int32) (J0 : Nat → Int64) (i : Nat) (ft1 : Nat) (w0 : Nat) (cp : Nat) (nn : Nat → Nat) (D : Nat → Nat → Int32) (kd : Nat → Int32) (st : Nat → Int32) (gb : Nat → Int32) (it : Nat → Int32) (pa : Nat → Int32) (pb : Nat → Int32) (rk : Nat → Int32) (wd : Nat → Int32) (tw : Nat → Int32) (tn : Nat → Int32) (mn : Nat → Int32) (cx : Nat → Int32) (cy : Nat → Int32) (sa : Nat → Int32) (sh : Nat → Int32) (hi5 : i < 516) (hsa : sa i = nI w0) (hft1 : sh w0 = nI ft1) (h200 : ft1 ≤ 200) (hblk : ∀ g, g < ft1 → ∀ j, j < 10 + 2 * nn g → sh (psN nn w0 g + j) = D g j) (h9 : ∀ g, g < ft1 → D g 9 = nI (nn g)) (hn40 : ∀ g, g < ft1 → nn g ≤ 40) (hfit : psN nn w0 ft1 ≤ 4096 * cp) (hcm : cp ≤ 512) : zM l yX11_restore cX11_restore 5 none ({ frames := 1, cells := 0, slots := 0, locals := 20 } : Room) [.ref k0, .int (nI i)] (dC, dI) (zTy cI cZ cF) [(om k0 a I0 J0), (oa (a 1) cI 201 kd), (oa (a 5) cI 201 st), (oa (a 7) cI 201 gb), (oa (a 10) cI 201 it), (oa (a 8) cI 201 pa), (oa (a 9) cI 201 pb), (oa (a 2) cI 201 rk), (oa (a 3) cI 201 wd), (oa (a 4) cI 201 tw), (oa (a 6) cZ 201 tn), (oa (a 11) cI 201 mn), (oa (a 12) cI 8040 cx), (oa (a 13) cI 8040 cy), (oa (a 27) cI 516 sa), (oa (a 28) cI (4096 * cp) sh)] sz none (fun A t => zPD (dC, dI) classes A [(om k0 a (upd (upd I0 0 (nI ft1)) 42 (nI (psN nn w0 ft1))) J0), (oa (a 1) cI 201 (rsA ft1 (fun g => D g 0) kd)), (oa (a 5) cI 201 (rsA ft1 (fun g => D g 1) st)), (oa (a 7) cI 201 (rsA ft1 (fun g => D g 2) gb)), (oa (a 10) cI 201 (rsA ft1 (fun g => D g 3) it)), (oa (a 8) cI 201 (rsA ft1 (fun g => D g 4) pa)), (oa (a 9) cI 201 (rsA ft1 (fun g => D g 5) pb)), (oa (a 2) cI 201 (rsA ft1 (fun g => D g 6) rk)), (oa (a 3) cI 201 (rsA ft1 (fun g => D g 7) wd)), (oa (a 4) cI 201 (rsA ft1 (fun g => D g 8) tw)), (oa (a 6) cZ 201 tn), (oa (a 11) cI 201 (rsM ft1 D nn tn mn)), (oa (a 12) cI 8040 (rsC ft1 0 D nn 10 cx)), (oa (a 13) cI 8040 (rsC ft1 0 D nn 11 cy)), (oa (a 27) cI 516 sa), (oa (a 28) cI (4096 * cp) sh)] t.heap) 0 0 := by
  refine zIn (own := "ScaleShopModel") (loc := [(0, .ref k0), (1, .int (nI i))]) rfl rfl rfl rfl (fun p e s m below meth c hx hb hr hts hown hlocks hml hnm9 A hA hS hP hD hK hXN Q9 hQ9 ls hl => ?_)
  refine lv_aload_n hx hb dX11_restore_0 rfl (lv_at hl 0 rfl) ?_
  refine lv_aload_n hx hb dX11_restore_1 rfl (lv_at hl 0 rfl) ?_
  refine va_get (D := (dC, dI)) (ci := 9) (v := .ref (a 27)) (C := RX11) (T := TX11) (N := 55) hx hb hts inX11 hown hK hP 0 rfl rfl 27 (Nat.le_of_ble_eq_true rfl) (hts _ mw_1186) (fun _ h9 => h9) rfl dX11_restore_2 ?_
  refine lv_iload_n hx hb dX11_restore_5 rfl (lv_at hl 1 rfl) ?_
  have b9_1 : i < 516 := by omega
  refine z_iald hx hb hK hP 14 0 rfl rfl (e := i) rfl b9_1 (Nat.le_of_ble_eq_true rfl) dX11_restore_6 ?_
  refine zz_i (v := nI w0) (hsa) ?_
  refine va_put (D := (dC, dI)) (ci := 9) (v := .int (nI w0)) (ty := .int) (C := RX11) (T := TX11) (N := 55) hx hb hts inX11 tyX11 tyX11_ok nmX11 hown hK hP hD hS 0 rfl rfl 42 (by decide) (hts _ mw_1201) (fun _ h9 => h9) rfl (by decide +kernel) rfl rfl (Nat.le_of_ble_eq_true rfl) dX11_restore_7 (fun H locs hP hD hS => ?_)
  obtain ⟨hP, hD⟩ := zre (W2 := [(om k0 a (upd I0 42 (nI w0)) J0), _, _, _, _, _, _, _, _, _, _, _, _, _, _, _]) hP hD rfl
  refine lv_aload_n hx hb dX11_restore_10 rfl (lv_at hl 0 rfl) ?_
  refine lv_aload_n hx hb dX11_restore_11 rfl (lv_at hl 0 rfl) ?_
  have hge := psN_ge nn w0 ft1
  obtain ⟨hPc, hDc, hFc⟩ := zo_sub (wc := [_, _]) hP hD hS hA [0, 15] rfl rfl
  refine zcall (st1 := [.int (sh w0), .ref k0]) (va_runV (As := []) (rest := [.ref k0]) ⟨hx, hb, hml, hown, hts⟩ (k_M_next l dC dI cI cZ cF H.size k0 a (upd I0 42 (nI w0)) J0 w0 cp sh (rfl) (by first | with_reducible assumption | omega) (by first | with_reducible assumption | omega)) (csV_194 hts rfl rfl ⟨Nat.le_of_ble_eq_true rfl, Nat.le_of_ble_eq_true rfl⟩) (zPV2 (q0 := 0) (ci := 9) hPc hDc hK hXN rfl rfl) rfl rfl hl.1 rfl (lv_room (Nat.le_of_ble_eq_true rfl)) dX11_restore_12 ⟨Nat.le_of_ble_eq_true rfl, Nat.le_of_ble_eq_true rfl⟩) hS hFc hFc rfl (fun t H locs ht hB hk1 hS => ?_)
  obtain ⟨hP1, hD1⟩ := hB
  rw [ht] at hP1
  obtain ⟨hP, hD⟩ := zn (W2 := [(om k0 a (upd I0 42 (nI (w0 + 1))) J0), _, _, _, _, _, _, _, _, _, _, _, _, _, _, _]) hP hD hk1 hFc hP1 hD1 [0, 15] zl_163 zl_166 [0, 15] (by decide +kernel) rfl rfl rfl rfl rfl
  clear hk1 hPc hDc hFc hP1 hD1 ht
  refine zz_i (v := nI ft1) (hft1) ?_
  refine va_put (D := (dC, dI)) (ci := 9) (v := .int (nI ft1)) (ty := .int) (C := RX11) (T := TX11) (N := 55) hx hb hts inX11 tyX11 tyX11_ok nmX11 hown hK hP hD hS 0 rfl rfl 0 (by decide) (hts _ mw_1159) (fun _ h9 => h9) rfl (by decide +kernel) rfl rfl (Nat.le_of_ble_eq_true rfl) dX11_restore_15 (fun H locs hP hD hS => ?_)
  obtain ⟨hP, hD⟩ := zre (W2 := [(om k0 a (upd (upd I0 0 (nI ft1)) 42 (nI (w0 + 1))) J0), _, _, _, _, _, _, _, _, _, _, _, _, _, _, _]) hP hD rfl
  refine lv_iconst (v := 0) hx hb dX11_restore_18 rfl ?_
  refine lv_istore_n (lv' := [(2, .int 0), (0, .ref k0), (1, .int (nI i))]) hx hb dX11_restore_19 rfl hl (Nat.le_of_ble_eq_true rfl) rfl (fun ls hl => ?_)
  have hl_20 : ∀ (n9 : Nat) (q : Nat) (w : Nat) (kd1 : Nat → Int32) (st1 : Nat → Int32) (gb1 : Nat → Int32) (it1 : Nat → Int32) (pa1 : Nat → Int32) (pb1 : Nat → Int32) (rk1 : Nat → Int32) (wd1 : Nat → Int32) (tw1 : Nat → Int32) (mn1 : Nat → Int32) (cx1 : Nat → Int32) (cy1 : Nat → Int32) (H : Heap) (locs : List Loc) (ls : Array Slot), ft1 - q < n9 → (q ≤ ft1) → (w = psN nn w0 q) → (kd1 = rsA q (fun g => D g 0) kd) → (st1 = rsA q (fun g => D g 1) st) → (gb1 = rsA q (fun g => D g 2) gb) → (it1 = rsA q (fun g => D g 3) it) → (pa1 = rsA q (fun g => D g 4) pa) → (pb1 = rsA q (fun g => D g 5) pb) → (rk1 = rsA q (fun g => D g 6) rk) → (wd1 = rsA q (fun g => D g 7) wd) → (tw1 = rsA q (fun g => D g 8) tw) → (mn1 = rsM q D nn tn mn) → (cx1 = rsC q 0 D nn 10 cx) → (cy1 = rsC q 0 D nn 11 cy) → va_P (dC, dI) classes [(om k0 a (upd (upd I0 0 (nI ft1)) 42 (nI w)) J0), (oa (a 1) cI 201 kd1), (oa (a 5) cI 201 st1), (oa (a 7) cI 201 gb1), (oa (a 10) cI 201 it1), (oa (a 8) cI 201 pa1), (oa (a 9) cI 201 pb1), (oa (a 2) cI 201 rk1), (oa (a 3) cI 201 wd1), (oa (a 4) cI 201 tw1), (oa (a 6) cZ 201 tn), (oa (a 11) cI 201 mn1), (oa (a 12) cI 8040 cx1), (oa (a 13) cI 8040 cy1), (oa (a 27) cI 516 sa), (oa (a 28) cI (4096 * cp) sh)] H → va_D A [(om k0 a (upd (upd I0 0 (nI ft1)) 42 (nI w)) J0), (oa (a 1) cI 201 kd1), (oa (a 5) cI 201 st1), (oa (a 7) cI 201 gb1), (oa (a 10) cI 201 it1), (oa (a 8) cI 201 pa1), (oa (a 9) cI 201 pb1), (oa (a 2) cI 201 rk1), (oa (a 3) cI 201 wd1), (oa (a 4) cI 201 tw1), (oa (a 6) cZ 201 tn), (oa (a 11) cI 201 mn1), (oa (a 12) cI 8040 cx1), (oa (a 13) cI 8040 cy1), (oa (a 27) cI 516 sa), (oa (a 28) cI (4096 * cp) sh)] → va_S A s.heap H locs → lv_has ls 5 [(2, .int (nI q)), (0, .ref k0), (1, .int (nI i))] → W p l e ({ frames := 1, cells := 0, slots := 0, locals := 20 } : Room) s m ([.ref k0, .int (nI i)] : List Value).toArray below meth c H locs 0 0 Q9 (F0 m 20 ls []) := by
    intro n9
    induction n9 with
    | zero => intro q w kd1 st1 gb1 it1 pa1 pb1 rk1 wd1 tw1 mn1 cx1 cy1 H locs ls hm; exact absurd hm (Nat.not_lt_zero _)
    | succ n9 ih_20 =>
      intro q w kd1 st1 gb1 it1 pa1 pb1 rk1 wd1 tw1 mn1 cx1 cy1 H locs ls hm hq hw h_kd h_st h_gb h_it h_pa h_pb h_rk h_wd h_tw h_mn h_cx h_cy hP hD hS hl
      refine lv_iload_n hx hb dX11_restore_20 rfl (lv_at hl 0 rfl) ?_
      refine lv_aload_n hx hb dX11_restore_21 rfl (lv_at hl 1 rfl) ?_
      refine va_get (D := (dC, dI)) (ci := 9) (v := .int (nI ft1)) (C := RX11) (T := TX11) (N := 55) hx hb hts inX11 hown hK hP 0 rfl rfl 0 (Nat.le_of_ble_eq_true rfl) (hts _ mw_1159) (fun _ h9 => h9) rfl dX11_restore_22 ?_
      have b9_3 : zlt (q) := show q < 2147483648 by omega
      have b9_4 : zlt (ft1) := show ft1 < 2147483648 by omega
      refine lv_icmp_ge (tgt := 201) hx hb dX11_restore_25 rfl (fun c_2 => ?_) (fun c_2 => ?_)
      · have c_2 : ((ft1 : Nat) : Int) ≤ ((q : Nat) : Int) := zc_le (nI_toInt b9_4) (nI_toInt b9_3) c_2
        have hqe : q = ft1 := (by omega)
        rw [hqe] at hw h_cx h_cy h_mn h_kd h_st h_gb h_it h_pa h_pb h_rk h_wd h_tw
        obtain ⟨hP9, hD9⟩ := zu_sub (wc := [(om k0 a (upd (upd I0 0 (nI ft1)) 42 (nI w)) J0), (oa (a 1) cI 201 kd1), (oa (a 5) cI 201 st1), (oa (a 7) cI 201 gb1), (oa (a 10) cI 201 it1), (oa (a 8) cI 201 pa1), (oa (a 9) cI 201 pb1), (oa (a 2) cI 201 rk1), (oa (a 3) cI 201 wd1), (oa (a 4) cI 201 tw1), (oa (a 6) cZ 201 tn), (oa (a 11) cI 201 mn1), (oa (a 12) cI 8040 cx1), (oa (a 13) cI 8040 cy1), (oa (a 27) cI 516 sa), (oa (a 28) cI (4096 * cp) sh)]) hP hD [true, true, true, true, true, true, true, true, true, true, true, true, true, true, true, true] rfl rfl
        have hE9 : ([(om k0 a (upd (upd I0 0 (nI ft1)) 42 (nI w)) J0), (oa (a 1) cI 201 kd1), (oa (a 5) cI 201 st1), (oa (a 7) cI 201 gb1), (oa (a 10) cI 201 it1), (oa (a 8) cI 201 pa1), (oa (a 9) cI 201 pb1), (oa (a 2) cI 201 rk1), (oa (a 3) cI 201 wd1), (oa (a 4) cI 201 tw1), (oa (a 6) cZ 201 tn), (oa (a 11) cI 201 mn1), (oa (a 12) cI 8040 cx1), (oa (a 13) cI 8040 cy1), (oa (a 27) cI 516 sa), (oa (a 28) cI (4096 * cp) sh)] : va_W) = [(om k0 a (upd (upd I0 0 (nI ft1)) 42 (nI (psN nn w0 ft1))) J0), (oa (a 1) cI 201 (rsA ft1 (fun g => D g 0) kd)), (oa (a 5) cI 201 (rsA ft1 (fun g => D g 1) st)), (oa (a 7) cI 201 (rsA ft1 (fun g => D g 2) gb)), (oa (a 10) cI 201 (rsA ft1 (fun g => D g 3) it)), (oa (a 8) cI 201 (rsA ft1 (fun g => D g 4) pa)), (oa (a 9) cI 201 (rsA ft1 (fun g => D g 5) pb)), (oa (a 2) cI 201 (rsA ft1 (fun g => D g 6) rk)), (oa (a 3) cI 201 (rsA ft1 (fun g => D g 7) wd)), (oa (a 4) cI 201 (rsA ft1 (fun g => D g 8) tw)), (oa (a 6) cZ 201 tn), (oa (a 11) cI 201 (rsM ft1 D nn tn mn)), (oa (a 12) cI 8040 (rsC ft1 0 D nn 10 cx)), (oa (a 13) cI 8040 (rsC ft1 0 D nn 11 cy)), (oa (a 27) cI 516 sa), (oa (a 28) cI (4096 * cp) sh)] := by rw [hw, h_cx, h_cy, h_mn, h_kd, h_st, h_gb, h_it, h_pa, h_pb, h_rk, h_wd, h_tw]
        rw [hE9] at hP9 hD9
        rw [hQ9]
        exact W.vret hx hb hr (fun t ht hW => ⟨⟨rfl, by rw [ht]; exact hP9, hD9⟩, hS.F ht⟩) hS.2.2 dX11_restore_201
      · have c_2 : ((q : Nat) : Int) < ((ft1 : Nat) : Int) := zc_nle (nI_toInt b9_4) (nI_toInt b9_3) c_2
        have hmo := psN_mono nn w0 (f := q) (g := ft1) (by omega)
        have hq40 := hn40 q (by omega)
        refine lv_aload_n hx hb dX11_restore_28 rfl (lv_at hl 1 rfl) ?_
        refine va_get (D := (dC, dI)) (ci := 9) (v := .ref (a 1)) (C := RX11) (T := TX11) (N := 55) hx hb hts inX11 hown hK hP 0 rfl rfl 1 (Nat.le_of_ble_eq_true rfl) (hts _ mw_1160) (fun _ h9 => h9) rfl dX11_restore_29 ?_
        refine lv_iload_n hx hb dX11_restore_32 rfl (lv_at hl 0 rfl) ?_
        refine lv_aload_n hx hb dX11_restore_33 rfl (lv_at hl 1 rfl) ?_
        obtain ⟨hPc, hDc, hFc⟩ := zo_sub (wc := [_, _]) hP hD hS hA [0, 15] rfl rfl
        refine zcall (st1 := [.int (sh w), .int (nI q), .ref (a 1)]) (va_runV (As := []) (rest := [.int (nI q), .ref (a 1)]) ⟨hx, hb, hml, hown, hts⟩ (k_M_next l dC dI cI cZ cF H.size k0 a (upd (upd I0 0 (nI ft1)) 42 (nI w)) J0 w cp sh (rfl) (by first | with_reducible assumption | omega) (by first | with_reducible assumption | omega)) (csV_194 hts rfl rfl ⟨Nat.le_of_ble_eq_true rfl, Nat.le_of_ble_eq_true rfl⟩) (zPV2 (q0 := 0) (ci := 9) hPc hDc hK hXN rfl rfl) rfl rfl hl.1 rfl (lv_room (Nat.le_of_ble_eq_true rfl)) dX11_restore_34 ⟨Nat.le_of_ble_eq_true rfl, Nat.le_of_ble_eq_true rfl⟩) hS hFc hFc rfl (fun t H locs ht hB hk1 hS => ?_)
        obtain ⟨hP1, hD1⟩ := hB
        rw [ht] at hP1
        obtain ⟨hP, hD⟩ := zn (W2 := [(om k0 a (upd (upd I0 0 (nI ft1)) 42 (nI (w + 1))) J0), _, _, _, _, _, _, _, _, _, _, _, _, _, _, _]) hP hD hk1 hFc hP1 hD1 [0, 15] zl_163 zl_166 [0, 15] (by decide +kernel) rfl rfl rfl rfl rfl
        clear hk1 hPc hDc hFc hP1 hD1 ht
        refine zz_i (v := D q 0) ((show sh w = D q 0 from by rw [show w = psN nn w0 q + 0 by omega]; exact hblk q (by omega) _ (by omega))) ?_
        have b9_5 : q < 201 := by omega
        refine z_iast hx hb hK hP hD hS 1 0 rfl rfl (e := q) (x := D q 0) rfl b9_5 (Nat.le_of_ble_eq_true rfl) dX11_restore_37 (fun H locs hP hD hS => ?_)
        obtain ⟨hP, hD⟩ := zre (W2 := [_, (oa (a 1) cI 201 (upd kd1 q (D q 0))), _, _, _, _, _, _, _, _, _, _, _, _, _, _]) hP hD rfl
        refine lv_aload_n hx hb dX11_restore_38 rfl (lv_at hl 1 rfl) ?_
        refine va_get (D := (dC, dI)) (ci := 9) (v := .ref (a 5)) (C := RX11) (T := TX11) (N := 55) hx hb hts inX11 hown hK hP 0 rfl rfl 5 (Nat.le_of_ble_eq_true rfl) (hts _ mw_1164) (fun _ h9 => h9) rfl dX11_restore_39 ?_
        refine lv_iload_n hx hb dX11_restore_42 rfl (lv_at hl 0 rfl) ?_
        refine lv_aload_n hx hb dX11_restore_43 rfl (lv_at hl 1 rfl) ?_
        obtain ⟨hPc, hDc, hFc⟩ := zo_sub (wc := [_, _]) hP hD hS hA [0, 15] rfl rfl
        refine zcall (st1 := [.int (sh (w + 1)), .int (nI q), .ref (a 5)]) (va_runV (As := []) (rest := [.int (nI q), .ref (a 5)]) ⟨hx, hb, hml, hown, hts⟩ (k_M_next l dC dI cI cZ cF H.size k0 a (upd (upd I0 0 (nI ft1)) 42 (nI (w + 1))) J0 (w + 1) cp sh (rfl) (by first | with_reducible assumption | omega) (by first | with_reducible assumption | omega)) (csV_194 hts rfl rfl ⟨Nat.le_of_ble_eq_true rfl, Nat.le_of_ble_eq_true rfl⟩) (zPV2 (q0 := 0) (ci := 9) hPc hDc hK hXN rfl rfl) rfl rfl hl.1 rfl (lv_room (Nat.le_of_ble_eq_true rfl)) dX11_restore_44 ⟨Nat.le_of_ble_eq_true rfl, Nat.le_of_ble_eq_true rfl⟩) hS hFc hFc rfl (fun t H locs ht hB hk1 hS => ?_)
        obtain ⟨hP1, hD1⟩ := hB
        rw [ht] at hP1
        obtain ⟨hP, hD⟩ := zn (W2 := [(om k0 a (upd (upd I0 0 (nI ft1)) 42 (nI ((w + 1) + 1))) J0), _, _, _, _, _, _, _, _, _, _, _, _, _, _, _]) hP hD hk1 hFc hP1 hD1 [0, 15] zl_163 zl_166 [0, 15] (by decide +kernel) rfl rfl rfl rfl rfl
        clear hk1 hPc hDc hFc hP1 hD1 ht
        refine zz_i (v := D q 1) ((show sh (w + 1) = D q 1 from by rw [show w + 1 = psN nn w0 q + 1 by omega]; exact hblk q (by omega) _ (by omega))) ?_
        refine z_iast hx hb hK hP hD hS 2 0 rfl rfl (e := q) (x := D q 1) rfl b9_5 (Nat.le_of_ble_eq_true rfl) dX11_restore_47 (fun H locs hP hD hS => ?_)
        obtain ⟨hP, hD⟩ := zre (W2 := [_, _, (oa (a 5) cI 201 (upd st1 q (D q 1))), _, _, _, _, _, _, _, _, _, _, _, _, _]) hP hD rfl
        refine lv_aload_n hx hb dX11_restore_48 rfl (lv_at hl 1 rfl) ?_
        refine va_get (D := (dC, dI)) (ci := 9) (v := .ref (a 7)) (C := RX11) (T := TX11) (N := 55) hx hb hts inX11 hown hK hP 0 rfl rfl 7 (Nat.le_of_ble_eq_true rfl) (hts _ mw_1166) (fun _ h9 => h9) rfl dX11_restore_49 ?_
        refine lv_iload_n hx hb dX11_restore_52 rfl (lv_at hl 0 rfl) ?_
        refine lv_aload_n hx hb dX11_restore_53 rfl (lv_at hl 1 rfl) ?_
        obtain ⟨hPc, hDc, hFc⟩ := zo_sub (wc := [_, _]) hP hD hS hA [0, 15] rfl rfl
        refine zcall (st1 := [.int (sh ((w + 1) + 1)), .int (nI q), .ref (a 7)]) (va_runV (As := []) (rest := [.int (nI q), .ref (a 7)]) ⟨hx, hb, hml, hown, hts⟩ (k_M_next l dC dI cI cZ cF H.size k0 a (upd (upd I0 0 (nI ft1)) 42 (nI ((w + 1) + 1))) J0 ((w + 1) + 1) cp sh (rfl) (by first | with_reducible assumption | omega) (by first | with_reducible assumption | omega)) (csV_194 hts rfl rfl ⟨Nat.le_of_ble_eq_true rfl, Nat.le_of_ble_eq_true rfl⟩) (zPV2 (q0 := 0) (ci := 9) hPc hDc hK hXN rfl rfl) rfl rfl hl.1 rfl (lv_room (Nat.le_of_ble_eq_true rfl)) dX11_restore_54 ⟨Nat.le_of_ble_eq_true rfl, Nat.le_of_ble_eq_true rfl⟩) hS hFc hFc rfl (fun t H locs ht hB hk1 hS => ?_)
        obtain ⟨hP1, hD1⟩ := hB
        rw [ht] at hP1
        obtain ⟨hP, hD⟩ := zn (W2 := [(om k0 a (upd (upd I0 0 (nI ft1)) 42 (nI (((w + 1) + 1) + 1))) J0), _, _, _, _, _, _, _, _, _, _, _, _, _, _, _]) hP hD hk1 hFc hP1 hD1 [0, 15] zl_163 zl_166 [0, 15] (by decide +kernel) rfl rfl rfl rfl rfl
        clear hk1 hPc hDc hFc hP1 hD1 ht
        refine zz_i (v := D q 2) ((show sh ((w + 1) + 1) = D q 2 from by rw [show (w + 1) + 1 = psN nn w0 q + 2 by omega]; exact hblk q (by omega) _ (by omega))) ?_
        refine z_iast hx hb hK hP hD hS 3 0 rfl rfl (e := q) (x := D q 2) rfl b9_5 (Nat.le_of_ble_eq_true rfl) dX11_restore_57 (fun H locs hP hD hS => ?_)
        obtain ⟨hP, hD⟩ := zre (W2 := [_, _, _, (oa (a 7) cI 201 (upd gb1 q (D q 2))), _, _, _, _, _, _, _, _, _, _, _, _]) hP hD rfl
        refine lv_aload_n hx hb dX11_restore_58 rfl (lv_at hl 1 rfl) ?_
        refine va_get (D := (dC, dI)) (ci := 9) (v := .ref (a 10)) (C := RX11) (T := TX11) (N := 55) hx hb hts inX11 hown hK hP 0 rfl rfl 10 (Nat.le_of_ble_eq_true rfl) (hts _ mw_1169) (fun _ h9 => h9) rfl dX11_restore_59 ?_
        refine lv_iload_n hx hb dX11_restore_62 rfl (lv_at hl 0 rfl) ?_
        refine lv_aload_n hx hb dX11_restore_63 rfl (lv_at hl 1 rfl) ?_
        obtain ⟨hPc, hDc, hFc⟩ := zo_sub (wc := [_, _]) hP hD hS hA [0, 15] rfl rfl
        refine zcall (st1 := [.int (sh (((w + 1) + 1) + 1)), .int (nI q), .ref (a 10)]) (va_runV (As := []) (rest := [.int (nI q), .ref (a 10)]) ⟨hx, hb, hml, hown, hts⟩ (k_M_next l dC dI cI cZ cF H.size k0 a (upd (upd I0 0 (nI ft1)) 42 (nI (((w + 1) + 1) + 1))) J0 (((w + 1) + 1) + 1) cp sh (rfl) (by first | with_reducible assumption | omega) (by first | with_reducible assumption | omega)) (csV_194 hts rfl rfl ⟨Nat.le_of_ble_eq_true rfl, Nat.le_of_ble_eq_true rfl⟩) (zPV2 (q0 := 0) (ci := 9) hPc hDc hK hXN rfl rfl) rfl rfl hl.1 rfl (lv_room (Nat.le_of_ble_eq_true rfl)) dX11_restore_64 ⟨Nat.le_of_ble_eq_true rfl, Nat.le_of_ble_eq_true rfl⟩) hS hFc hFc rfl (fun t H locs ht hB hk1 hS => ?_)
        obtain ⟨hP1, hD1⟩ := hB
        rw [ht] at hP1
        obtain ⟨hP, hD⟩ := zn (W2 := [(om k0 a (upd (upd I0 0 (nI ft1)) 42 (nI ((((w + 1) + 1) + 1) + 1))) J0), _, _, _, _, _, _, _, _, _, _, _, _, _, _, _]) hP hD hk1 hFc hP1 hD1 [0, 15] zl_163 zl_166 [0, 15] (by decide +kernel) rfl rfl rfl rfl rfl
        clear hk1 hPc hDc hFc hP1 hD1 ht
        refine zz_i (v := D q 3) ((show sh (((w + 1) + 1) + 1) = D q 3 from by rw [show ((w + 1) + 1) + 1 = psN nn w0 q + 3 by omega]; exact hblk q (by omega) _ (by omega))) ?_
        refine z_iast hx hb hK hP hD hS 4 0 rfl rfl (e := q) (x := D q 3) rfl b9_5 (Nat.le_of_ble_eq_true rfl) dX11_restore_67 (fun H locs hP hD hS => ?_)
        obtain ⟨hP, hD⟩ := zre (W2 := [_, _, _, _, (oa (a 10) cI 201 (upd it1 q (D q 3))), _, _, _, _, _, _, _, _, _, _, _]) hP hD rfl
        refine lv_aload_n hx hb dX11_restore_68 rfl (lv_at hl 1 rfl) ?_
        refine va_get (D := (dC, dI)) (ci := 9) (v := .ref (a 8)) (C := RX11) (T := TX11) (N := 55) hx hb hts inX11 hown hK hP 0 rfl rfl 8 (Nat.le_of_ble_eq_true rfl) (hts _ mw_1167) (fun _ h9 => h9) rfl dX11_restore_69 ?_
        refine lv_iload_n hx hb dX11_restore_72 rfl (lv_at hl 0 rfl) ?_
        refine lv_aload_n hx hb dX11_restore_73 rfl (lv_at hl 1 rfl) ?_
        obtain ⟨hPc, hDc, hFc⟩ := zo_sub (wc := [_, _]) hP hD hS hA [0, 15] rfl rfl
        refine zcall (st1 := [.int (sh ((((w + 1) + 1) + 1) + 1)), .int (nI q), .ref (a 8)]) (va_runV (As := []) (rest := [.int (nI q), .ref (a 8)]) ⟨hx, hb, hml, hown, hts⟩ (k_M_next l dC dI cI cZ cF H.size k0 a (upd (upd I0 0 (nI ft1)) 42 (nI ((((w + 1) + 1) + 1) + 1))) J0 ((((w + 1) + 1) + 1) + 1) cp sh (rfl) (by first | with_reducible assumption | omega) (by first | with_reducible assumption | omega)) (csV_194 hts rfl rfl ⟨Nat.le_of_ble_eq_true rfl, Nat.le_of_ble_eq_true rfl⟩) (zPV2 (q0 := 0) (ci := 9) hPc hDc hK hXN rfl rfl) rfl rfl hl.1 rfl (lv_room (Nat.le_of_ble_eq_true rfl)) dX11_restore_74 ⟨Nat.le_of_ble_eq_true rfl, Nat.le_of_ble_eq_true rfl⟩) hS hFc hFc rfl (fun t H locs ht hB hk1 hS => ?_)
        obtain ⟨hP1, hD1⟩ := hB
        rw [ht] at hP1
        obtain ⟨hP, hD⟩ := zn (W2 := [(om k0 a (upd (upd I0 0 (nI ft1)) 42 (nI (((((w + 1) + 1) + 1) + 1) + 1))) J0), _, _, _, _, _, _, _, _, _, _, _, _, _, _, _]) hP hD hk1 hFc hP1 hD1 [0, 15] zl_163 zl_166 [0, 15] (by decide +kernel) rfl rfl rfl rfl rfl
        clear hk1 hPc hDc hFc hP1 hD1 ht
        refine zz_i (v := D q 4) ((show sh ((((w + 1) + 1) + 1) + 1) = D q 4 from by rw [show (((w + 1) + 1) + 1) + 1 = psN nn w0 q + 4 by omega]; exact hblk q (by omega) _ (by omega))) ?_
        refine z_iast hx hb hK hP hD hS 5 0 rfl rfl (e := q) (x := D q 4) rfl b9_5 (Nat.le_of_ble_eq_true rfl) dX11_restore_77 (fun H locs hP hD hS => ?_)
        obtain ⟨hP, hD⟩ := zre (W2 := [_, _, _, _, _, (oa (a 8) cI 201 (upd pa1 q (D q 4))), _, _, _, _, _, _, _, _, _, _]) hP hD rfl
        refine lv_aload_n hx hb dX11_restore_78 rfl (lv_at hl 1 rfl) ?_
        refine va_get (D := (dC, dI)) (ci := 9) (v := .ref (a 9)) (C := RX11) (T := TX11) (N := 55) hx hb hts inX11 hown hK hP 0 rfl rfl 9 (Nat.le_of_ble_eq_true rfl) (hts _ mw_1168) (fun _ h9 => h9) rfl dX11_restore_79 ?_
        refine lv_iload_n hx hb dX11_restore_82 rfl (lv_at hl 0 rfl) ?_
        refine lv_aload_n hx hb dX11_restore_83 rfl (lv_at hl 1 rfl) ?_
        obtain ⟨hPc, hDc, hFc⟩ := zo_sub (wc := [_, _]) hP hD hS hA [0, 15] rfl rfl
        refine zcall (st1 := [.int (sh (((((w + 1) + 1) + 1) + 1) + 1)), .int (nI q), .ref (a 9)]) (va_runV (As := []) (rest := [.int (nI q), .ref (a 9)]) ⟨hx, hb, hml, hown, hts⟩ (k_M_next l dC dI cI cZ cF H.size k0 a (upd (upd I0 0 (nI ft1)) 42 (nI (((((w + 1) + 1) + 1) + 1) + 1))) J0 (((((w + 1) + 1) + 1) + 1) + 1) cp sh (rfl) (by first | with_reducible assumption | omega) (by first | with_reducible assumption | omega)) (csV_194 hts rfl rfl ⟨Nat.le_of_ble_eq_true rfl, Nat.le_of_ble_eq_true rfl⟩) (zPV2 (q0 := 0) (ci := 9) hPc hDc hK hXN rfl rfl) rfl rfl hl.1 rfl (lv_room (Nat.le_of_ble_eq_true rfl)) dX11_restore_84 ⟨Nat.le_of_ble_eq_true rfl, Nat.le_of_ble_eq_true rfl⟩) hS hFc hFc rfl (fun t H locs ht hB hk1 hS => ?_)
        obtain ⟨hP1, hD1⟩ := hB
        rw [ht] at hP1
        obtain ⟨hP, hD⟩ := zn (W2 := [(om k0 a (upd (upd I0 0 (nI ft1)) 42 (nI ((((((w + 1) + 1) + 1) + 1) + 1) + 1))) J0), _, _, _, _, _, _, _, _, _, _, _, _, _, _, _]) hP hD hk1 hFc hP1 hD1 [0, 15] zl_163 zl_166 [0, 15] (by decide +kernel) rfl rfl rfl rfl rfl
        clear hk1 hPc hDc hFc hP1 hD1 ht
        refine zz_i (v := D q 5) ((show sh (((((w + 1) + 1) + 1) + 1) + 1) = D q 5 from by rw [show ((((w + 1) + 1) + 1) + 1) + 1 = psN nn w0 q + 5 by omega]; exact hblk q (by omega) _ (by omega))) ?_
        refine z_iast hx hb hK hP hD hS 6 0 rfl rfl (e := q) (x := D q 5) rfl b9_5 (Nat.le_of_ble_eq_true rfl) dX11_restore_87 (fun H locs hP hD hS => ?_)
        obtain ⟨hP, hD⟩ := zre (W2 := [_, _, _, _, _, _, (oa (a 9) cI 201 (upd pb1 q (D q 5))), _, _, _, _, _, _, _, _, _]) hP hD rfl
        refine lv_aload_n hx hb dX11_restore_88 rfl (lv_at hl 1 rfl) ?_
        refine va_get (D := (dC, dI)) (ci := 9) (v := .ref (a 2)) (C := RX11) (T := TX11) (N := 55) hx hb hts inX11 hown hK hP 0 rfl rfl 2 (Nat.le_of_ble_eq_true rfl) (hts _ mw_1161) (fun _ h9 => h9) rfl dX11_restore_89 ?_
        refine lv_iload_n hx hb dX11_restore_92 rfl (lv_at hl 0 rfl) ?_
        refine lv_aload_n hx hb dX11_restore_93 rfl (lv_at hl 1 rfl) ?_
        obtain ⟨hPc, hDc, hFc⟩ := zo_sub (wc := [_, _]) hP hD hS hA [0, 15] rfl rfl
        refine zcall (st1 := [.int (sh ((((((w + 1) + 1) + 1) + 1) + 1) + 1)), .int (nI q), .ref (a 2)]) (va_runV (As := []) (rest := [.int (nI q), .ref (a 2)]) ⟨hx, hb, hml, hown, hts⟩ (k_M_next l dC dI cI cZ cF H.size k0 a (upd (upd I0 0 (nI ft1)) 42 (nI ((((((w + 1) + 1) + 1) + 1) + 1) + 1))) J0 ((((((w + 1) + 1) + 1) + 1) + 1) + 1) cp sh (rfl) (by first | with_reducible assumption | omega) (by first | with_reducible assumption | omega)) (csV_194 hts rfl rfl ⟨Nat.le_of_ble_eq_true rfl, Nat.le_of_ble_eq_true rfl⟩) (zPV2 (q0 := 0) (ci := 9) hPc hDc hK hXN rfl rfl) rfl rfl hl.1 rfl (lv_room (Nat.le_of_ble_eq_true rfl)) dX11_restore_94 ⟨Nat.le_of_ble_eq_true rfl, Nat.le_of_ble_eq_true rfl⟩) hS hFc hFc rfl (fun t H locs ht hB hk1 hS => ?_)
        obtain ⟨hP1, hD1⟩ := hB
        rw [ht] at hP1
        obtain ⟨hP, hD⟩ := zn (W2 := [(om k0 a (upd (upd I0 0 (nI ft1)) 42 (nI (((((((w + 1) + 1) + 1) + 1) + 1) + 1) + 1))) J0), _, _, _, _, _, _, _, _, _, _, _, _, _, _, _]) hP hD hk1 hFc hP1 hD1 [0, 15] zl_163 zl_166 [0, 15] (by decide +kernel) rfl rfl rfl rfl rfl
        clear hk1 hPc hDc hFc hP1 hD1 ht
        refine zz_i (v := D q 6) ((show sh ((((((w + 1) + 1) + 1) + 1) + 1) + 1) = D q 6 from by rw [show (((((w + 1) + 1) + 1) + 1) + 1) + 1 = psN nn w0 q + 6 by omega]; exact hblk q (by omega) _ (by omega))) ?_
        refine z_iast hx hb hK hP hD hS 7 0 rfl rfl (e := q) (x := D q 6) rfl b9_5 (Nat.le_of_ble_eq_true rfl) dX11_restore_97 (fun H locs hP hD hS => ?_)
        obtain ⟨hP, hD⟩ := zre (W2 := [_, _, _, _, _, _, _, (oa (a 2) cI 201 (upd rk1 q (D q 6))), _, _, _, _, _, _, _, _]) hP hD rfl
        refine lv_aload_n hx hb dX11_restore_98 rfl (lv_at hl 1 rfl) ?_
        refine va_get (D := (dC, dI)) (ci := 9) (v := .ref (a 3)) (C := RX11) (T := TX11) (N := 55) hx hb hts inX11 hown hK hP 0 rfl rfl 3 (Nat.le_of_ble_eq_true rfl) (hts _ mw_1162) (fun _ h9 => h9) rfl dX11_restore_99 ?_
        refine lv_iload_n hx hb dX11_restore_102 rfl (lv_at hl 0 rfl) ?_
        refine lv_aload_n hx hb dX11_restore_103 rfl (lv_at hl 1 rfl) ?_
        obtain ⟨hPc, hDc, hFc⟩ := zo_sub (wc := [_, _]) hP hD hS hA [0, 15] rfl rfl
        refine zcall (st1 := [.int (sh (((((((w + 1) + 1) + 1) + 1) + 1) + 1) + 1)), .int (nI q), .ref (a 3)]) (va_runV (As := []) (rest := [.int (nI q), .ref (a 3)]) ⟨hx, hb, hml, hown, hts⟩ (k_M_next l dC dI cI cZ cF H.size k0 a (upd (upd I0 0 (nI ft1)) 42 (nI (((((((w + 1) + 1) + 1) + 1) + 1) + 1) + 1))) J0 (((((((w + 1) + 1) + 1) + 1) + 1) + 1) + 1) cp sh (rfl) (by first | with_reducible assumption | omega) (by first | with_reducible assumption | omega)) (csV_194 hts rfl rfl ⟨Nat.le_of_ble_eq_true rfl, Nat.le_of_ble_eq_true rfl⟩) (zPV2 (q0 := 0) (ci := 9) hPc hDc hK hXN rfl rfl) rfl rfl hl.1 rfl (lv_room (Nat.le_of_ble_eq_true rfl)) dX11_restore_104 ⟨Nat.le_of_ble_eq_true rfl, Nat.le_of_ble_eq_true rfl⟩) hS hFc hFc rfl (fun t H locs ht hB hk1 hS => ?_)
        obtain ⟨hP1, hD1⟩ := hB
        rw [ht] at hP1
        obtain ⟨hP, hD⟩ := zn (W2 := [(om k0 a (upd (upd I0 0 (nI ft1)) 42 (nI ((((((((w + 1) + 1) + 1) + 1) + 1) + 1) + 1) + 1))) J0), _, _, _, _, _, _, _, _, _, _, _, _, _, _, _]) hP hD hk1 hFc hP1 hD1 [0, 15] zl_163 zl_166 [0, 15] (by decide +kernel) rfl rfl rfl rfl rfl
        clear hk1 hPc hDc hFc hP1 hD1 ht
        refine zz_i (v := D q 7) ((show sh (((((((w + 1) + 1) + 1) + 1) + 1) + 1) + 1) = D q 7 from by rw [show ((((((w + 1) + 1) + 1) + 1) + 1) + 1) + 1 = psN nn w0 q + 7 by omega]; exact hblk q (by omega) _ (by omega))) ?_
        refine z_iast hx hb hK hP hD hS 8 0 rfl rfl (e := q) (x := D q 7) rfl b9_5 (Nat.le_of_ble_eq_true rfl) dX11_restore_107 (fun H locs hP hD hS => ?_)
        obtain ⟨hP, hD⟩ := zre (W2 := [_, _, _, _, _, _, _, _, (oa (a 3) cI 201 (upd wd1 q (D q 7))), _, _, _, _, _, _, _]) hP hD rfl
        refine lv_aload_n hx hb dX11_restore_108 rfl (lv_at hl 1 rfl) ?_
        refine va_get (D := (dC, dI)) (ci := 9) (v := .ref (a 4)) (C := RX11) (T := TX11) (N := 55) hx hb hts inX11 hown hK hP 0 rfl rfl 4 (Nat.le_of_ble_eq_true rfl) (hts _ mw_1163) (fun _ h9 => h9) rfl dX11_restore_109 ?_
        refine lv_iload_n hx hb dX11_restore_112 rfl (lv_at hl 0 rfl) ?_
        refine lv_aload_n hx hb dX11_restore_113 rfl (lv_at hl 1 rfl) ?_
        obtain ⟨hPc, hDc, hFc⟩ := zo_sub (wc := [_, _]) hP hD hS hA [0, 15] rfl rfl
        refine zcall (st1 := [.int (sh ((((((((w + 1) + 1) + 1) + 1) + 1) + 1) + 1) + 1)), .int (nI q), .ref (a 4)]) (va_runV (As := []) (rest := [.int (nI q), .ref (a 4)]) ⟨hx, hb, hml, hown, hts⟩ (k_M_next l dC dI cI cZ cF H.size k0 a (upd (upd I0 0 (nI ft1)) 42 (nI ((((((((w + 1) + 1) + 1) + 1) + 1) + 1) + 1) + 1))) J0 ((((((((w + 1) + 1) + 1) + 1) + 1) + 1) + 1) + 1) cp sh (rfl) (by first | with_reducible assumption | omega) (by first | with_reducible assumption | omega)) (csV_194 hts rfl rfl ⟨Nat.le_of_ble_eq_true rfl, Nat.le_of_ble_eq_true rfl⟩) (zPV2 (q0 := 0) (ci := 9) hPc hDc hK hXN rfl rfl) rfl rfl hl.1 rfl (lv_room (Nat.le_of_ble_eq_true rfl)) dX11_restore_114 ⟨Nat.le_of_ble_eq_true rfl, Nat.le_of_ble_eq_true rfl⟩) hS hFc hFc rfl (fun t H locs ht hB hk1 hS => ?_)
        obtain ⟨hP1, hD1⟩ := hB
        rw [ht] at hP1
        obtain ⟨hP, hD⟩ := zn (W2 := [(om k0 a (upd (upd I0 0 (nI ft1)) 42 (nI (((((((((w + 1) + 1) + 1) + 1) + 1) + 1) + 1) + 1) + 1))) J0), _, _, _, _, _, _, _, _, _, _, _, _, _, _, _]) hP hD hk1 hFc hP1 hD1 [0, 15] zl_163 zl_166 [0, 15] (by decide +kernel) rfl rfl rfl rfl rfl
        clear hk1 hPc hDc hFc hP1 hD1 ht
        refine zz_i (v := D q 8) ((show sh ((((((((w + 1) + 1) + 1) + 1) + 1) + 1) + 1) + 1) = D q 8 from by rw [show (((((((w + 1) + 1) + 1) + 1) + 1) + 1) + 1) + 1 = psN nn w0 q + 8 by omega]; exact hblk q (by omega) _ (by omega))) ?_
        refine z_iast hx hb hK hP hD hS 9 0 rfl rfl (e := q) (x := D q 8) rfl b9_5 (Nat.le_of_ble_eq_true rfl) dX11_restore_117 (fun H locs hP hD hS => ?_)
        obtain ⟨hP, hD⟩ := zre (W2 := [_, _, _, _, _, _, _, _, _, (oa (a 4) cI 201 (upd tw1 q (D q 8))), _, _, _, _, _, _]) hP hD rfl
        refine lv_aload_n hx hb dX11_restore_118 rfl (lv_at hl 1 rfl) ?_
        obtain ⟨hPc, hDc, hFc⟩ := zo_sub (wc := [_, _]) hP hD hS hA [0, 15] rfl rfl
        refine zcall (st1 := [.int (sh (((((((((w + 1) + 1) + 1) + 1) + 1) + 1) + 1) + 1) + 1))]) (va_runV (As := []) (rest := []) ⟨hx, hb, hml, hown, hts⟩ (k_M_next l dC dI cI cZ cF H.size k0 a (upd (upd I0 0 (nI ft1)) 42 (nI (((((((((w + 1) + 1) + 1) + 1) + 1) + 1) + 1) + 1) + 1))) J0 (((((((((w + 1) + 1) + 1) + 1) + 1) + 1) + 1) + 1) + 1) cp sh (rfl) (by first | with_reducible assumption | omega) (by first | with_reducible assumption | omega)) (csV_194 hts rfl rfl ⟨Nat.le_of_ble_eq_true rfl, Nat.le_of_ble_eq_true rfl⟩) (zPV2 (q0 := 0) (ci := 9) hPc hDc hK hXN rfl rfl) rfl rfl hl.1 rfl (lv_room (Nat.le_of_ble_eq_true rfl)) dX11_restore_119 ⟨Nat.le_of_ble_eq_true rfl, Nat.le_of_ble_eq_true rfl⟩) hS hFc hFc rfl (fun t H locs ht hB hk1 hS => ?_)
        obtain ⟨hP1, hD1⟩ := hB
        rw [ht] at hP1
        obtain ⟨hP, hD⟩ := zn (W2 := [(om k0 a (upd (upd I0 0 (nI ft1)) 42 (nI ((((((((((w + 1) + 1) + 1) + 1) + 1) + 1) + 1) + 1) + 1) + 1))) J0), _, _, _, _, _, _, _, _, _, _, _, _, _, _, _]) hP hD hk1 hFc hP1 hD1 [0, 15] zl_163 zl_166 [0, 15] (by decide +kernel) rfl rfl rfl rfl rfl
        clear hk1 hPc hDc hFc hP1 hD1 ht
        refine zz_i (v := nI (nn q)) ((show sh (((((((((w + 1) + 1) + 1) + 1) + 1) + 1) + 1) + 1) + 1) = D q 9 from by rw [show ((((((((w + 1) + 1) + 1) + 1) + 1) + 1) + 1) + 1) + 1 = psN nn w0 q + 9 by omega]; exact hblk q (by omega) _ (by omega)).trans (h9 q (by omega))) ?_
        refine lv_istore_n (lv' := [(3, .int (nI (nn q))), (2, .int (nI q)), (0, .ref k0), (1, .int (nI i))]) hx hb dX11_restore_122 rfl hl (Nat.le_of_ble_eq_true rfl) rfl (fun ls hl => ?_)
        refine lv_aload_n hx hb dX11_restore_123 rfl (lv_at hl 2 rfl) ?_
        refine va_get (D := (dC, dI)) (ci := 9) (v := .ref (a 5)) (C := RX11) (T := TX11) (N := 55) hx hb hts inX11 hown hK hP 0 rfl rfl 5 (Nat.le_of_ble_eq_true rfl) (hts _ mw_1164) (fun _ h9 => h9) rfl dX11_restore_124 ?_
        refine lv_iload_n hx hb dX11_restore_127 rfl (lv_at hl 1 rfl) ?_
        refine z_iald hx hb hK hP 2 0 rfl rfl (e := q) rfl b9_5 (Nat.le_of_ble_eq_true rfl) dX11_restore_128 ?_
        refine zz_i (v := D q 1) (up_at _ _ _) ?_
        refine lv_if_eq (tgt := 148) hx hb dX11_restore_129 rfl (fun c_6 => ?_) (fun c_6 => ?_)
        · have c_6 : (D q 1).toInt = 0 := zc_eq rfl rfl c_6
          refine lv_iconst (v := 0) hx hb dX11_restore_148 rfl ?_
          refine lv_istore (lv' := [(4, .int 0), (3, .int (nI (nn q))), (2, .int (nI q)), (0, .ref k0), (1, .int (nI i))]) hx hb dX11_restore_149 hl (Nat.le_of_ble_eq_true rfl) rfl (fun ls hl => ?_)
          have hl_151 : ∀ (n9 : Nat) (k : Nat) (w2 : Nat) (cx2 : Nat → Int32) (cy2 : Nat → Int32) (H : Heap) (locs : List Loc) (ls : Array Slot), nn q - k < n9 → (k ≤ nn q) → (w2 = psN nn w0 q + 10 + 2 * k) → (cx2 = rsC q k D nn 10 cx) → (cy2 = rsC q k D nn 11 cy) → va_P (dC, dI) classes [(om k0 a (upd (upd I0 0 (nI ft1)) 42 (nI w2)) J0), (oa (a 1) cI 201 (upd kd1 q (D q 0))), (oa (a 5) cI 201 (upd st1 q (D q 1))), (oa (a 7) cI 201 (upd gb1 q (D q 2))), (oa (a 10) cI 201 (upd it1 q (D q 3))), (oa (a 8) cI 201 (upd pa1 q (D q 4))), (oa (a 9) cI 201 (upd pb1 q (D q 5))), (oa (a 2) cI 201 (upd rk1 q (D q 6))), (oa (a 3) cI 201 (upd wd1 q (D q 7))), (oa (a 4) cI 201 (upd tw1 q (D q 8))), (oa (a 6) cZ 201 tn), (oa (a 11) cI 201 mn1), (oa (a 12) cI 8040 cx2), (oa (a 13) cI 8040 cy2), (oa (a 27) cI 516 sa), (oa (a 28) cI (4096 * cp) sh)] H → va_D A [(om k0 a (upd (upd I0 0 (nI ft1)) 42 (nI w2)) J0), (oa (a 1) cI 201 (upd kd1 q (D q 0))), (oa (a 5) cI 201 (upd st1 q (D q 1))), (oa (a 7) cI 201 (upd gb1 q (D q 2))), (oa (a 10) cI 201 (upd it1 q (D q 3))), (oa (a 8) cI 201 (upd pa1 q (D q 4))), (oa (a 9) cI 201 (upd pb1 q (D q 5))), (oa (a 2) cI 201 (upd rk1 q (D q 6))), (oa (a 3) cI 201 (upd wd1 q (D q 7))), (oa (a 4) cI 201 (upd tw1 q (D q 8))), (oa (a 6) cZ 201 tn), (oa (a 11) cI 201 mn1), (oa (a 12) cI 8040 cx2), (oa (a 13) cI 8040 cy2), (oa (a 27) cI 516 sa), (oa (a 28) cI (4096 * cp) sh)] → va_S A s.heap H locs → lv_has ls 5 [(4, .int (nI k)), (3, .int (nI (nn q))), (2, .int (nI q)), (0, .ref k0), (1, .int (nI i))] → W p l e ({ frames := 1, cells := 0, slots := 0, locals := 20 } : Room) s m ([.ref k0, .int (nI i)] : List Value).toArray below meth c H locs 0 0 Q9 (F0 m 151 ls []) := by
            intro n9
            induction n9 with
            | zero => intro k w2 cx2 cy2 H locs ls hm; exact absurd hm (Nat.not_lt_zero _)
            | succ n9 ih_151 =>
              intro k w2 cx2 cy2 H locs ls hm hk hw2 h_cx2 h_cy2 hP hD hS hl
              refine lv_iload hx hb dX11_restore_151 (lv_at hl 0 rfl) ?_
              refine lv_iload_n hx hb dX11_restore_153 rfl (lv_at hl 1 rfl) ?_
              have b9_8 : zlt (k) := show k < 2147483648 by omega
              have b9_9 : zlt ((nn q)) := show (nn q) < 2147483648 by omega
              refine lv_icmp_ge (tgt := 195) hx hb dX11_restore_154 rfl (fun c_7 => ?_) (fun c_7 => ?_)
              · have c_7 : ((nn q : Nat) : Int) ≤ ((k : Nat) : Int) := zc_le (nI_toInt b9_9) (nI_toInt b9_8) c_7
                refine lv_iinc (v := nI (q + 1)) (lv' := [(2, .int (nI (q + 1))), (4, .int (nI k)), (3, .int (nI (nn q))), (0, .ref k0), (1, .int (nI i))]) hx hb dX11_restore_195 hl (k := 2) rfl (nI_add q 1) (Nat.le_of_ble_eq_true rfl) rfl (fun ls hl => ?_)
                refine lv_goto (tgt := 20) hx hb dX11_restore_198 rfl ?_
                exact ih_20 (q + 1) w2 (upd kd1 q (D q 0)) (upd st1 q (D q 1)) (upd gb1 q (D q 2)) (upd it1 q (D q 3)) (upd pa1 q (D q 4)) (upd pb1 q (D q 5)) (upd rk1 q (D q 6)) (upd wd1 q (D q 7)) (upd tw1 q (D q 8)) mn1 cx2 cy2 H locs ls (by first | with_reducible assumption | omega) (by first | with_reducible assumption | omega) (by show _ = psN nn w0 q + (10 + 2 * nn q); omega) (rsA_s h_kd rfl) (rsA_s h_st rfl) (rsA_s h_gb rfl) (rsA_s h_it rfl) (rsA_s h_pa rfl) (rsA_s h_pb rfl) (rsA_s h_rk rfl) (rsA_s h_wd rfl) (rsA_s h_tw rfl) (by first | exact rsM_y h_mn (by first | with_reducible assumption | omega) (by first | with_reducible assumption | omega) | exact rsM_n h_mn (by first | with_reducible assumption | omega)) (rsC_n h_cx2 (by first | with_reducible assumption | omega)) (rsC_n h_cy2 (by first | with_reducible assumption | omega)) hP hD hS (lv_sub hl [0, 3, 4] rfl)
              · have c_7 : ((k : Nat) : Int) < ((nn q : Nat) : Int) := zc_nle (nI_toInt b9_9) (nI_toInt b9_8) c_7
                refine lv_aload_n hx hb dX11_restore_157 rfl (lv_at hl 3 rfl) ?_
                refine va_get (D := (dC, dI)) (ci := 9) (v := .ref (a 12)) (C := RX11) (T := TX11) (N := 55) hx hb hts inX11 hown hK hP 0 rfl rfl 12 (Nat.le_of_ble_eq_true rfl) (hts _ mw_1171) (fun _ h9 => h9) rfl dX11_restore_158 ?_
                refine lv_bipush (v := 40) hx hb dX11_restore_161 rfl ?_
                refine lv_iload_n hx hb dX11_restore_163 rfl (lv_at hl 2 rfl) ?_
                refine lv_imul hx hb dX11_restore_164 ?_
                refine zz_i (v := nI (40 * q)) (pk_mul 40 q) ?_
                refine lv_iload hx hb dX11_restore_165 (lv_at hl 0 rfl) ?_
                refine lv_iadd hx hb dX11_restore_167 ?_
                refine zz_i (v := nI (40 * q + k)) (nI_add (40 * q) k) ?_
                refine lv_aload_n hx hb dX11_restore_168 rfl (lv_at hl 3 rfl) ?_
                obtain ⟨hPc, hDc, hFc⟩ := zo_sub (wc := [_, _]) hP hD hS hA [0, 15] rfl rfl
                refine zcall (st1 := [.int (sh w2), .int (nI (40 * q + k)), .ref (a 12)]) (va_runV (As := []) (rest := [.int (nI (40 * q + k)), .ref (a 12)]) ⟨hx, hb, hml, hown, hts⟩ (k_M_next l dC dI cI cZ cF H.size k0 a (upd (upd I0 0 (nI ft1)) 42 (nI w2)) J0 w2 cp sh (rfl) (by first | with_reducible assumption | omega) (by first | with_reducible assumption | omega)) (csV_194 hts rfl rfl ⟨Nat.le_of_ble_eq_true rfl, Nat.le_of_ble_eq_true rfl⟩) (zPV2 (q0 := 0) (ci := 9) hPc hDc hK hXN rfl rfl) rfl rfl hl.1 rfl (lv_room (Nat.le_of_ble_eq_true rfl)) dX11_restore_169 ⟨Nat.le_of_ble_eq_true rfl, Nat.le_of_ble_eq_true rfl⟩) hS hFc hFc rfl (fun t H locs ht hB hk1 hS => ?_)
                obtain ⟨hP1, hD1⟩ := hB
                rw [ht] at hP1
                obtain ⟨hP, hD⟩ := zn (W2 := [(om k0 a (upd (upd I0 0 (nI ft1)) 42 (nI (w2 + 1))) J0), _, _, _, _, _, _, _, _, _, _, _, _, _, _, _]) hP hD hk1 hFc hP1 hD1 [0, 15] zl_163 zl_166 [0, 15] (by decide +kernel) rfl rfl rfl rfl rfl
                clear hk1 hPc hDc hFc hP1 hD1 ht
                refine zz_i (v := D q (10 + 2 * k)) ((show sh w2 = D q (10 + 2 * k) from by rw [show w2 = psN nn w0 q + (10 + 2 * k) by omega]; exact hblk q (by omega) _ (by omega))) ?_
                have b9_10 : 40 * q + k < 8040 := by omega
                refine z_iast hx hb hK hP hD hS 12 0 rfl rfl (e := 40 * q + k) (x := D q (10 + 2 * k)) rfl b9_10 (Nat.le_of_ble_eq_true rfl) dX11_restore_172 (fun H locs hP hD hS => ?_)
                obtain ⟨hP, hD⟩ := zre (W2 := [_, _, _, _, _, _, _, _, _, _, _, _, (oa (a 12) cI 8040 (upd cx2 (40 * q + k) (D q (10 + 2 * k)))), _, _, _]) hP hD rfl
                refine lv_aload_n hx hb dX11_restore_173 rfl (lv_at hl 3 rfl) ?_
                refine va_get (D := (dC, dI)) (ci := 9) (v := .ref (a 13)) (C := RX11) (T := TX11) (N := 55) hx hb hts inX11 hown hK hP 0 rfl rfl 13 (Nat.le_of_ble_eq_true rfl) (hts _ mw_1172) (fun _ h9 => h9) rfl dX11_restore_174 ?_
                refine lv_bipush (v := 40) hx hb dX11_restore_177 rfl ?_
                refine lv_iload_n hx hb dX11_restore_179 rfl (lv_at hl 2 rfl) ?_
                refine lv_imul hx hb dX11_restore_180 ?_
                refine zz_i (v := nI (40 * q)) (pk_mul 40 q) ?_
                refine lv_iload hx hb dX11_restore_181 (lv_at hl 0 rfl) ?_
                refine lv_iadd hx hb dX11_restore_183 ?_
                refine zz_i (v := nI (40 * q + k)) (nI_add (40 * q) k) ?_
                refine lv_aload_n hx hb dX11_restore_184 rfl (lv_at hl 3 rfl) ?_
                obtain ⟨hPc, hDc, hFc⟩ := zo_sub (wc := [_, _]) hP hD hS hA [0, 15] rfl rfl
                refine zcall (st1 := [.int (sh (w2 + 1)), .int (nI (40 * q + k)), .ref (a 13)]) (va_runV (As := []) (rest := [.int (nI (40 * q + k)), .ref (a 13)]) ⟨hx, hb, hml, hown, hts⟩ (k_M_next l dC dI cI cZ cF H.size k0 a (upd (upd I0 0 (nI ft1)) 42 (nI (w2 + 1))) J0 (w2 + 1) cp sh (rfl) (by first | with_reducible assumption | omega) (by first | with_reducible assumption | omega)) (csV_194 hts rfl rfl ⟨Nat.le_of_ble_eq_true rfl, Nat.le_of_ble_eq_true rfl⟩) (zPV2 (q0 := 0) (ci := 9) hPc hDc hK hXN rfl rfl) rfl rfl hl.1 rfl (lv_room (Nat.le_of_ble_eq_true rfl)) dX11_restore_185 ⟨Nat.le_of_ble_eq_true rfl, Nat.le_of_ble_eq_true rfl⟩) hS hFc hFc rfl (fun t H locs ht hB hk1 hS => ?_)
                obtain ⟨hP1, hD1⟩ := hB
                rw [ht] at hP1
                obtain ⟨hP, hD⟩ := zn (W2 := [(om k0 a (upd (upd I0 0 (nI ft1)) 42 (nI ((w2 + 1) + 1))) J0), _, _, _, _, _, _, _, _, _, _, _, _, _, _, _]) hP hD hk1 hFc hP1 hD1 [0, 15] zl_163 zl_166 [0, 15] (by decide +kernel) rfl rfl rfl rfl rfl
                clear hk1 hPc hDc hFc hP1 hD1 ht
                refine zz_i (v := D q (11 + 2 * k)) ((show sh (w2 + 1) = D q (11 + 2 * k) from by rw [show w2 + 1 = psN nn w0 q + (11 + 2 * k) by omega]; exact hblk q (by omega) _ (by omega))) ?_
                refine z_iast hx hb hK hP hD hS 13 0 rfl rfl (e := 40 * q + k) (x := D q (11 + 2 * k)) rfl b9_10 (Nat.le_of_ble_eq_true rfl) dX11_restore_188 (fun H locs hP hD hS => ?_)
                obtain ⟨hP, hD⟩ := zre (W2 := [_, _, _, _, _, _, _, _, _, _, _, _, _, (oa (a 13) cI 8040 (upd cy2 (40 * q + k) (D q (11 + 2 * k)))), _, _]) hP hD rfl
                refine lv_iinc (v := nI (k + 1)) (lv' := [(4, .int (nI (k + 1))), (3, .int (nI (nn q))), (2, .int (nI q)), (0, .ref k0), (1, .int (nI i))]) hx hb dX11_restore_189 hl (k := 0) rfl (nI_add k 1) (Nat.le_of_ble_eq_true rfl) rfl (fun ls hl => ?_)
                refine lv_goto (tgt := 151) hx hb dX11_restore_192 rfl ?_
                exact ih_151 (k + 1) ((w2 + 1) + 1) (upd cx2 (40 * q + k) (D q (10 + 2 * k))) (upd cy2 (40 * q + k) (D q (11 + 2 * k))) H locs ls (by first | with_reducible assumption | omega) (by first | with_reducible assumption | omega) (by first | with_reducible assumption | omega) (rsC_s h_cx2 (by first | with_reducible assumption | omega) rfl) (rsC_s h_cy2 (by first | with_reducible assumption | omega) rfl) hP hD hS (lv_sub hl [0, 1, 2, 3, 4] rfl)
          exact hl_151 _ 0 ((((((((((w + 1) + 1) + 1) + 1) + 1) + 1) + 1) + 1) + 1) + 1) cx1 cy1 H locs ls (Nat.lt_succ_self _) (by first | with_reducible assumption | omega) (by first | with_reducible assumption | omega) (h_cx) (h_cy) hP hD hS (lv_sub hl [0, 1, 2, 3, 4] rfl)
        · have c_6 : ¬ (D q 1).toInt = 0 := zc_ne rfl rfl c_6
          refine lv_aload_n hx hb dX11_restore_132 rfl (lv_at hl 2 rfl) ?_
          refine va_get (D := (dC, dI)) (ci := 9) (v := .ref (a 6)) (C := RX11) (T := TX11) (N := 55) hx hb hts inX11 hown hK hP 0 rfl rfl 6 (Nat.le_of_ble_eq_true rfl) (hts _ mw_1165) (fun _ h9 => h9) rfl dX11_restore_133 ?_
          refine lv_iload_n hx hb dX11_restore_136 rfl (lv_at hl 1 rfl) ?_
          refine z_zald hx hb hK hP 10 1 rfl rfl (e := q) rfl b9_5 (Nat.le_of_ble_eq_true rfl) dX11_restore_137 ?_
          refine lv_if_ne (tgt := 148) hx hb dX11_restore_138 rfl (fun c_11 => ?_) (fun c_11 => ?_)
          · have c_11 : ¬ (tn q).toInt = 0 := zc_ne rfl rfl c_11
            refine lv_iconst (v := 0) hx hb dX11_restore_148 rfl ?_
            refine lv_istore (lv' := [(4, .int 0), (3, .int (nI (nn q))), (2, .int (nI q)), (0, .ref k0), (1, .int (nI i))]) hx hb dX11_restore_149 hl (Nat.le_of_ble_eq_true rfl) rfl (fun ls hl => ?_)
            have hl_151 : ∀ (n9 : Nat) (k : Nat) (w2 : Nat) (cx2 : Nat → Int32) (cy2 : Nat → Int32) (H : Heap) (locs : List Loc) (ls : Array Slot), nn q - k < n9 → (k ≤ nn q) → (w2 = psN nn w0 q + 10 + 2 * k) → (cx2 = rsC q k D nn 10 cx) → (cy2 = rsC q k D nn 11 cy) → va_P (dC, dI) classes [(om k0 a (upd (upd I0 0 (nI ft1)) 42 (nI w2)) J0), (oa (a 1) cI 201 (upd kd1 q (D q 0))), (oa (a 5) cI 201 (upd st1 q (D q 1))), (oa (a 7) cI 201 (upd gb1 q (D q 2))), (oa (a 10) cI 201 (upd it1 q (D q 3))), (oa (a 8) cI 201 (upd pa1 q (D q 4))), (oa (a 9) cI 201 (upd pb1 q (D q 5))), (oa (a 2) cI 201 (upd rk1 q (D q 6))), (oa (a 3) cI 201 (upd wd1 q (D q 7))), (oa (a 4) cI 201 (upd tw1 q (D q 8))), (oa (a 6) cZ 201 tn), (oa (a 11) cI 201 mn1), (oa (a 12) cI 8040 cx2), (oa (a 13) cI 8040 cy2), (oa (a 27) cI 516 sa), (oa (a 28) cI (4096 * cp) sh)] H → va_D A [(om k0 a (upd (upd I0 0 (nI ft1)) 42 (nI w2)) J0), (oa (a 1) cI 201 (upd kd1 q (D q 0))), (oa (a 5) cI 201 (upd st1 q (D q 1))), (oa (a 7) cI 201 (upd gb1 q (D q 2))), (oa (a 10) cI 201 (upd it1 q (D q 3))), (oa (a 8) cI 201 (upd pa1 q (D q 4))), (oa (a 9) cI 201 (upd pb1 q (D q 5))), (oa (a 2) cI 201 (upd rk1 q (D q 6))), (oa (a 3) cI 201 (upd wd1 q (D q 7))), (oa (a 4) cI 201 (upd tw1 q (D q 8))), (oa (a 6) cZ 201 tn), (oa (a 11) cI 201 mn1), (oa (a 12) cI 8040 cx2), (oa (a 13) cI 8040 cy2), (oa (a 27) cI 516 sa), (oa (a 28) cI (4096 * cp) sh)] → va_S A s.heap H locs → lv_has ls 5 [(4, .int (nI k)), (3, .int (nI (nn q))), (2, .int (nI q)), (0, .ref k0), (1, .int (nI i))] → W p l e ({ frames := 1, cells := 0, slots := 0, locals := 20 } : Room) s m ([.ref k0, .int (nI i)] : List Value).toArray below meth c H locs 0 0 Q9 (F0 m 151 ls []) := by
              intro n9
              induction n9 with
              | zero => intro k w2 cx2 cy2 H locs ls hm; exact absurd hm (Nat.not_lt_zero _)
              | succ n9 ih_151 =>
                intro k w2 cx2 cy2 H locs ls hm hk hw2 h_cx2 h_cy2 hP hD hS hl
                refine lv_iload hx hb dX11_restore_151 (lv_at hl 0 rfl) ?_
                refine lv_iload_n hx hb dX11_restore_153 rfl (lv_at hl 1 rfl) ?_
                have b9_13 : zlt (k) := show k < 2147483648 by omega
                have b9_14 : zlt ((nn q)) := show (nn q) < 2147483648 by omega
                refine lv_icmp_ge (tgt := 195) hx hb dX11_restore_154 rfl (fun c_12 => ?_) (fun c_12 => ?_)
                · have c_12 : ((nn q : Nat) : Int) ≤ ((k : Nat) : Int) := zc_le (nI_toInt b9_14) (nI_toInt b9_13) c_12
                  refine lv_iinc (v := nI (q + 1)) (lv' := [(2, .int (nI (q + 1))), (4, .int (nI k)), (3, .int (nI (nn q))), (0, .ref k0), (1, .int (nI i))]) hx hb dX11_restore_195 hl (k := 2) rfl (nI_add q 1) (Nat.le_of_ble_eq_true rfl) rfl (fun ls hl => ?_)
                  refine lv_goto (tgt := 20) hx hb dX11_restore_198 rfl ?_
                  exact ih_20 (q + 1) w2 (upd kd1 q (D q 0)) (upd st1 q (D q 1)) (upd gb1 q (D q 2)) (upd it1 q (D q 3)) (upd pa1 q (D q 4)) (upd pb1 q (D q 5)) (upd rk1 q (D q 6)) (upd wd1 q (D q 7)) (upd tw1 q (D q 8)) mn1 cx2 cy2 H locs ls (by first | with_reducible assumption | omega) (by first | with_reducible assumption | omega) (by show _ = psN nn w0 q + (10 + 2 * nn q); omega) (rsA_s h_kd rfl) (rsA_s h_st rfl) (rsA_s h_gb rfl) (rsA_s h_it rfl) (rsA_s h_pa rfl) (rsA_s h_pb rfl) (rsA_s h_rk rfl) (rsA_s h_wd rfl) (rsA_s h_tw rfl) (by first | exact rsM_y h_mn (by first | with_reducible assumption | omega) (by first | with_reducible assumption | omega) | exact rsM_n h_mn (by first | with_reducible assumption | omega)) (rsC_n h_cx2 (by first | with_reducible assumption | omega)) (rsC_n h_cy2 (by first | with_reducible assumption | omega)) hP hD hS (lv_sub hl [0, 3, 4] rfl)
                · have c_12 : ((k : Nat) : Int) < ((nn q : Nat) : Int) := zc_nle (nI_toInt b9_14) (nI_toInt b9_13) c_12
                  refine lv_aload_n hx hb dX11_restore_157 rfl (lv_at hl 3 rfl) ?_
                  refine va_get (D := (dC, dI)) (ci := 9) (v := .ref (a 12)) (C := RX11) (T := TX11) (N := 55) hx hb hts inX11 hown hK hP 0 rfl rfl 12 (Nat.le_of_ble_eq_true rfl) (hts _ mw_1171) (fun _ h9 => h9) rfl dX11_restore_158 ?_
                  refine lv_bipush (v := 40) hx hb dX11_restore_161 rfl ?_
                  refine lv_iload_n hx hb dX11_restore_163 rfl (lv_at hl 2 rfl) ?_
                  refine lv_imul hx hb dX11_restore_164 ?_
                  refine zz_i (v := nI (40 * q)) (pk_mul 40 q) ?_
                  refine lv_iload hx hb dX11_restore_165 (lv_at hl 0 rfl) ?_
                  refine lv_iadd hx hb dX11_restore_167 ?_
                  refine zz_i (v := nI (40 * q + k)) (nI_add (40 * q) k) ?_
                  refine lv_aload_n hx hb dX11_restore_168 rfl (lv_at hl 3 rfl) ?_
                  obtain ⟨hPc, hDc, hFc⟩ := zo_sub (wc := [_, _]) hP hD hS hA [0, 15] rfl rfl
                  refine zcall (st1 := [.int (sh w2), .int (nI (40 * q + k)), .ref (a 12)]) (va_runV (As := []) (rest := [.int (nI (40 * q + k)), .ref (a 12)]) ⟨hx, hb, hml, hown, hts⟩ (k_M_next l dC dI cI cZ cF H.size k0 a (upd (upd I0 0 (nI ft1)) 42 (nI w2)) J0 w2 cp sh (rfl) (by first | with_reducible assumption | omega) (by first | with_reducible assumption | omega)) (csV_194 hts rfl rfl ⟨Nat.le_of_ble_eq_true rfl, Nat.le_of_ble_eq_true rfl⟩) (zPV2 (q0 := 0) (ci := 9) hPc hDc hK hXN rfl rfl) rfl rfl hl.1 rfl (lv_room (Nat.le_of_ble_eq_true rfl)) dX11_restore_169 ⟨Nat.le_of_ble_eq_true rfl, Nat.le_of_ble_eq_true rfl⟩) hS hFc hFc rfl (fun t H locs ht hB hk1 hS => ?_)
                  obtain ⟨hP1, hD1⟩ := hB
                  rw [ht] at hP1
                  obtain ⟨hP, hD⟩ := zn (W2 := [(om k0 a (upd (upd I0 0 (nI ft1)) 42 (nI (w2 + 1))) J0), _, _, _, _, _, _, _, _, _, _, _, _, _, _, _]) hP hD hk1 hFc hP1 hD1 [0, 15] zl_163 zl_166 [0, 15] (by decide +kernel) rfl rfl rfl rfl rfl
                  clear hk1 hPc hDc hFc hP1 hD1 ht
                  refine zz_i (v := D q (10 + 2 * k)) ((show sh w2 = D q (10 + 2 * k) from by rw [show w2 = psN nn w0 q + (10 + 2 * k) by omega]; exact hblk q (by omega) _ (by omega))) ?_
                  have b9_15 : 40 * q + k < 8040 := by omega
                  refine z_iast hx hb hK hP hD hS 12 0 rfl rfl (e := 40 * q + k) (x := D q (10 + 2 * k)) rfl b9_15 (Nat.le_of_ble_eq_true rfl) dX11_restore_172 (fun H locs hP hD hS => ?_)
                  obtain ⟨hP, hD⟩ := zre (W2 := [_, _, _, _, _, _, _, _, _, _, _, _, (oa (a 12) cI 8040 (upd cx2 (40 * q + k) (D q (10 + 2 * k)))), _, _, _]) hP hD rfl
                  refine lv_aload_n hx hb dX11_restore_173 rfl (lv_at hl 3 rfl) ?_
                  refine va_get (D := (dC, dI)) (ci := 9) (v := .ref (a 13)) (C := RX11) (T := TX11) (N := 55) hx hb hts inX11 hown hK hP 0 rfl rfl 13 (Nat.le_of_ble_eq_true rfl) (hts _ mw_1172) (fun _ h9 => h9) rfl dX11_restore_174 ?_
                  refine lv_bipush (v := 40) hx hb dX11_restore_177 rfl ?_
                  refine lv_iload_n hx hb dX11_restore_179 rfl (lv_at hl 2 rfl) ?_
                  refine lv_imul hx hb dX11_restore_180 ?_
                  refine zz_i (v := nI (40 * q)) (pk_mul 40 q) ?_
                  refine lv_iload hx hb dX11_restore_181 (lv_at hl 0 rfl) ?_
                  refine lv_iadd hx hb dX11_restore_183 ?_
                  refine zz_i (v := nI (40 * q + k)) (nI_add (40 * q) k) ?_
                  refine lv_aload_n hx hb dX11_restore_184 rfl (lv_at hl 3 rfl) ?_
                  obtain ⟨hPc, hDc, hFc⟩ := zo_sub (wc := [_, _]) hP hD hS hA [0, 15] rfl rfl
                  refine zcall (st1 := [.int (sh (w2 + 1)), .int (nI (40 * q + k)), .ref (a 13)]) (va_runV (As := []) (rest := [.int (nI (40 * q + k)), .ref (a 13)]) ⟨hx, hb, hml, hown, hts⟩ (k_M_next l dC dI cI cZ cF H.size k0 a (upd (upd I0 0 (nI ft1)) 42 (nI (w2 + 1))) J0 (w2 + 1) cp sh (rfl) (by first | with_reducible assumption | omega) (by first | with_reducible assumption | omega)) (csV_194 hts rfl rfl ⟨Nat.le_of_ble_eq_true rfl, Nat.le_of_ble_eq_true rfl⟩) (zPV2 (q0 := 0) (ci := 9) hPc hDc hK hXN rfl rfl) rfl rfl hl.1 rfl (lv_room (Nat.le_of_ble_eq_true rfl)) dX11_restore_185 ⟨Nat.le_of_ble_eq_true rfl, Nat.le_of_ble_eq_true rfl⟩) hS hFc hFc rfl (fun t H locs ht hB hk1 hS => ?_)
                  obtain ⟨hP1, hD1⟩ := hB
                  rw [ht] at hP1
                  obtain ⟨hP, hD⟩ := zn (W2 := [(om k0 a (upd (upd I0 0 (nI ft1)) 42 (nI ((w2 + 1) + 1))) J0), _, _, _, _, _, _, _, _, _, _, _, _, _, _, _]) hP hD hk1 hFc hP1 hD1 [0, 15] zl_163 zl_166 [0, 15] (by decide +kernel) rfl rfl rfl rfl rfl
                  clear hk1 hPc hDc hFc hP1 hD1 ht
                  refine zz_i (v := D q (11 + 2 * k)) ((show sh (w2 + 1) = D q (11 + 2 * k) from by rw [show w2 + 1 = psN nn w0 q + (11 + 2 * k) by omega]; exact hblk q (by omega) _ (by omega))) ?_
                  refine z_iast hx hb hK hP hD hS 13 0 rfl rfl (e := 40 * q + k) (x := D q (11 + 2 * k)) rfl b9_15 (Nat.le_of_ble_eq_true rfl) dX11_restore_188 (fun H locs hP hD hS => ?_)
                  obtain ⟨hP, hD⟩ := zre (W2 := [_, _, _, _, _, _, _, _, _, _, _, _, _, (oa (a 13) cI 8040 (upd cy2 (40 * q + k) (D q (11 + 2 * k)))), _, _]) hP hD rfl
                  refine lv_iinc (v := nI (k + 1)) (lv' := [(4, .int (nI (k + 1))), (3, .int (nI (nn q))), (2, .int (nI q)), (0, .ref k0), (1, .int (nI i))]) hx hb dX11_restore_189 hl (k := 0) rfl (nI_add k 1) (Nat.le_of_ble_eq_true rfl) rfl (fun ls hl => ?_)
                  refine lv_goto (tgt := 151) hx hb dX11_restore_192 rfl ?_
                  exact ih_151 (k + 1) ((w2 + 1) + 1) (upd cx2 (40 * q + k) (D q (10 + 2 * k))) (upd cy2 (40 * q + k) (D q (11 + 2 * k))) H locs ls (by first | with_reducible assumption | omega) (by first | with_reducible assumption | omega) (by first | with_reducible assumption | omega) (rsC_s h_cx2 (by first | with_reducible assumption | omega) rfl) (rsC_s h_cy2 (by first | with_reducible assumption | omega) rfl) hP hD hS (lv_sub hl [0, 1, 2, 3, 4] rfl)
            exact hl_151 _ 0 ((((((((((w + 1) + 1) + 1) + 1) + 1) + 1) + 1) + 1) + 1) + 1) cx1 cy1 H locs ls (Nat.lt_succ_self _) (by first | with_reducible assumption | omega) (by first | with_reducible assumption | omega) (h_cx) (h_cy) hP hD hS (lv_sub hl [0, 1, 2, 3, 4] rfl)
          · have c_11 : (tn q).toInt = 0 := zc_eq rfl rfl c_11
            refine lv_aload_n hx hb dX11_restore_141 rfl (lv_at hl 2 rfl) ?_
            refine va_get (D := (dC, dI)) (ci := 9) (v := .ref (a 11)) (C := RX11) (T := TX11) (N := 55) hx hb hts inX11 hown hK hP 0 rfl rfl 11 (Nat.le_of_ble_eq_true rfl) (hts _ mw_1170) (fun _ h9 => h9) rfl dX11_restore_142 ?_
            refine lv_iload_n hx hb dX11_restore_145 rfl (lv_at hl 1 rfl) ?_
            refine lv_iload_n hx hb dX11_restore_146 rfl (lv_at hl 0 rfl) ?_
            refine z_iast hx hb hK hP hD hS 11 0 rfl rfl (e := q) (x := nI (nn q)) rfl b9_5 (Nat.le_of_ble_eq_true rfl) dX11_restore_147 (fun H locs hP hD hS => ?_)
            obtain ⟨hP, hD⟩ := zre (W2 := [_, _, _, _, _, _, _, _, _, _, _, (oa (a 11) cI 201 (upd mn1 q (nI (nn q)))), _, _, _, _]) hP hD rfl
            refine lv_iconst (v := 0) hx hb dX11_restore_148 rfl ?_
            refine lv_istore (lv' := [(4, .int 0), (3, .int (nI (nn q))), (2, .int (nI q)), (0, .ref k0), (1, .int (nI i))]) hx hb dX11_restore_149 hl (Nat.le_of_ble_eq_true rfl) rfl (fun ls hl => ?_)
            have hl_151 : ∀ (n9 : Nat) (k : Nat) (w2 : Nat) (cx2 : Nat → Int32) (cy2 : Nat → Int32) (H : Heap) (locs : List Loc) (ls : Array Slot), nn q - k < n9 → (k ≤ nn q) → (w2 = psN nn w0 q + 10 + 2 * k) → (cx2 = rsC q k D nn 10 cx) → (cy2 = rsC q k D nn 11 cy) → va_P (dC, dI) classes [(om k0 a (upd (upd I0 0 (nI ft1)) 42 (nI w2)) J0), (oa (a 1) cI 201 (upd kd1 q (D q 0))), (oa (a 5) cI 201 (upd st1 q (D q 1))), (oa (a 7) cI 201 (upd gb1 q (D q 2))), (oa (a 10) cI 201 (upd it1 q (D q 3))), (oa (a 8) cI 201 (upd pa1 q (D q 4))), (oa (a 9) cI 201 (upd pb1 q (D q 5))), (oa (a 2) cI 201 (upd rk1 q (D q 6))), (oa (a 3) cI 201 (upd wd1 q (D q 7))), (oa (a 4) cI 201 (upd tw1 q (D q 8))), (oa (a 6) cZ 201 tn), (oa (a 11) cI 201 (upd mn1 q (nI (nn q)))), (oa (a 12) cI 8040 cx2), (oa (a 13) cI 8040 cy2), (oa (a 27) cI 516 sa), (oa (a 28) cI (4096 * cp) sh)] H → va_D A [(om k0 a (upd (upd I0 0 (nI ft1)) 42 (nI w2)) J0), (oa (a 1) cI 201 (upd kd1 q (D q 0))), (oa (a 5) cI 201 (upd st1 q (D q 1))), (oa (a 7) cI 201 (upd gb1 q (D q 2))), (oa (a 10) cI 201 (upd it1 q (D q 3))), (oa (a 8) cI 201 (upd pa1 q (D q 4))), (oa (a 9) cI 201 (upd pb1 q (D q 5))), (oa (a 2) cI 201 (upd rk1 q (D q 6))), (oa (a 3) cI 201 (upd wd1 q (D q 7))), (oa (a 4) cI 201 (upd tw1 q (D q 8))), (oa (a 6) cZ 201 tn), (oa (a 11) cI 201 (upd mn1 q (nI (nn q)))), (oa (a 12) cI 8040 cx2), (oa (a 13) cI 8040 cy2), (oa (a 27) cI 516 sa), (oa (a 28) cI (4096 * cp) sh)] → va_S A s.heap H locs → lv_has ls 5 [(4, .int (nI k)), (3, .int (nI (nn q))), (2, .int (nI q)), (0, .ref k0), (1, .int (nI i))] → W p l e ({ frames := 1, cells := 0, slots := 0, locals := 20 } : Room) s m ([.ref k0, .int (nI i)] : List Value).toArray below meth c H locs 0 0 Q9 (F0 m 151 ls []) := by
              intro n9
              induction n9 with
              | zero => intro k w2 cx2 cy2 H locs ls hm; exact absurd hm (Nat.not_lt_zero _)
              | succ n9 ih_151 =>
                intro k w2 cx2 cy2 H locs ls hm hk hw2 h_cx2 h_cy2 hP hD hS hl
                refine lv_iload hx hb dX11_restore_151 (lv_at hl 0 rfl) ?_
                refine lv_iload_n hx hb dX11_restore_153 rfl (lv_at hl 1 rfl) ?_
                have b9_17 : zlt (k) := show k < 2147483648 by omega
                have b9_18 : zlt ((nn q)) := show (nn q) < 2147483648 by omega
                refine lv_icmp_ge (tgt := 195) hx hb dX11_restore_154 rfl (fun c_16 => ?_) (fun c_16 => ?_)
                · have c_16 : ((nn q : Nat) : Int) ≤ ((k : Nat) : Int) := zc_le (nI_toInt b9_18) (nI_toInt b9_17) c_16
                  refine lv_iinc (v := nI (q + 1)) (lv' := [(2, .int (nI (q + 1))), (4, .int (nI k)), (3, .int (nI (nn q))), (0, .ref k0), (1, .int (nI i))]) hx hb dX11_restore_195 hl (k := 2) rfl (nI_add q 1) (Nat.le_of_ble_eq_true rfl) rfl (fun ls hl => ?_)
                  refine lv_goto (tgt := 20) hx hb dX11_restore_198 rfl ?_
                  exact ih_20 (q + 1) w2 (upd kd1 q (D q 0)) (upd st1 q (D q 1)) (upd gb1 q (D q 2)) (upd it1 q (D q 3)) (upd pa1 q (D q 4)) (upd pb1 q (D q 5)) (upd rk1 q (D q 6)) (upd wd1 q (D q 7)) (upd tw1 q (D q 8)) (upd mn1 q (nI (nn q))) cx2 cy2 H locs ls (by first | with_reducible assumption | omega) (by first | with_reducible assumption | omega) (by show _ = psN nn w0 q + (10 + 2 * nn q); omega) (rsA_s h_kd rfl) (rsA_s h_st rfl) (rsA_s h_gb rfl) (rsA_s h_it rfl) (rsA_s h_pa rfl) (rsA_s h_pb rfl) (rsA_s h_rk rfl) (rsA_s h_wd rfl) (rsA_s h_tw rfl) (by first | exact rsM_y h_mn (by first | with_reducible assumption | omega) (by first | with_reducible assumption | omega) | exact rsM_n h_mn (by first | with_reducible assumption | omega)) (rsC_n h_cx2 (by first | with_reducible assumption | omega)) (rsC_n h_cy2 (by first | with_reducible assumption | omega)) hP hD hS (lv_sub hl [0, 3, 4] rfl)
                · have c_16 : ((k : Nat) : Int) < ((nn q : Nat) : Int) := zc_nle (nI_toInt b9_18) (nI_toInt b9_17) c_16
                  refine lv_aload_n hx hb dX11_restore_157 rfl (lv_at hl 3 rfl) ?_
                  refine va_get (D := (dC, dI)) (ci := 9) (v := .ref (a 12)) (C := RX11) (T := TX11) (N := 55) hx hb hts inX11 hown hK hP 0 rfl rfl 12 (Nat.le_of_ble_eq_true rfl) (hts _ mw_1171) (fun _ h9 => h9) rfl dX11_restore_158 ?_
                  refine lv_bipush (v := 40) hx hb dX11_restore_161 rfl ?_
                  refine lv_iload_n hx hb dX11_restore_163 rfl (lv_at hl 2 rfl) ?_
                  refine lv_imul hx hb dX11_restore_164 ?_
                  refine zz_i (v := nI (40 * q)) (pk_mul 40 q) ?_
                  refine lv_iload hx hb dX11_restore_165 (lv_at hl 0 rfl) ?_
                  refine lv_iadd hx hb dX11_restore_167 ?_
                  refine zz_i (v := nI (40 * q + k)) (nI_add (40 * q) k) ?_
                  refine lv_aload_n hx hb dX11_restore_168 rfl (lv_at hl 3 rfl) ?_
                  obtain ⟨hPc, hDc, hFc⟩ := zo_sub (wc := [_, _]) hP hD hS hA [0, 15] rfl rfl
                  refine zcall (st1 := [.int (sh w2), .int (nI (40 * q + k)), .ref (a 12)]) (va_runV (As := []) (rest := [.int (nI (40 * q + k)), .ref (a 12)]) ⟨hx, hb, hml, hown, hts⟩ (k_M_next l dC dI cI cZ cF H.size k0 a (upd (upd I0 0 (nI ft1)) 42 (nI w2)) J0 w2 cp sh (rfl) (by first | with_reducible assumption | omega) (by first | with_reducible assumption | omega)) (csV_194 hts rfl rfl ⟨Nat.le_of_ble_eq_true rfl, Nat.le_of_ble_eq_true rfl⟩) (zPV2 (q0 := 0) (ci := 9) hPc hDc hK hXN rfl rfl) rfl rfl hl.1 rfl (lv_room (Nat.le_of_ble_eq_true rfl)) dX11_restore_169 ⟨Nat.le_of_ble_eq_true rfl, Nat.le_of_ble_eq_true rfl⟩) hS hFc hFc rfl (fun t H locs ht hB hk1 hS => ?_)
                  obtain ⟨hP1, hD1⟩ := hB
                  rw [ht] at hP1
                  obtain ⟨hP, hD⟩ := zn (W2 := [(om k0 a (upd (upd I0 0 (nI ft1)) 42 (nI (w2 + 1))) J0), _, _, _, _, _, _, _, _, _, _, _, _, _, _, _]) hP hD hk1 hFc hP1 hD1 [0, 15] zl_163 zl_166 [0, 15] (by decide +kernel) rfl rfl rfl rfl rfl
                  clear hk1 hPc hDc hFc hP1 hD1 ht
                  refine zz_i (v := D q (10 + 2 * k)) ((show sh w2 = D q (10 + 2 * k) from by rw [show w2 = psN nn w0 q + (10 + 2 * k) by omega]; exact hblk q (by omega) _ (by omega))) ?_
                  have b9_19 : 40 * q + k < 8040 := by omega
                  refine z_iast hx hb hK hP hD hS 12 0 rfl rfl (e := 40 * q + k) (x := D q (10 + 2 * k)) rfl b9_19 (Nat.le_of_ble_eq_true rfl) dX11_restore_172 (fun H locs hP hD hS => ?_)
                  obtain ⟨hP, hD⟩ := zre (W2 := [_, _, _, _, _, _, _, _, _, _, _, _, (oa (a 12) cI 8040 (upd cx2 (40 * q + k) (D q (10 + 2 * k)))), _, _, _]) hP hD rfl
                  refine lv_aload_n hx hb dX11_restore_173 rfl (lv_at hl 3 rfl) ?_
                  refine va_get (D := (dC, dI)) (ci := 9) (v := .ref (a 13)) (C := RX11) (T := TX11) (N := 55) hx hb hts inX11 hown hK hP 0 rfl rfl 13 (Nat.le_of_ble_eq_true rfl) (hts _ mw_1172) (fun _ h9 => h9) rfl dX11_restore_174 ?_
                  refine lv_bipush (v := 40) hx hb dX11_restore_177 rfl ?_
                  refine lv_iload_n hx hb dX11_restore_179 rfl (lv_at hl 2 rfl) ?_
                  refine lv_imul hx hb dX11_restore_180 ?_
                  refine zz_i (v := nI (40 * q)) (pk_mul 40 q) ?_
                  refine lv_iload hx hb dX11_restore_181 (lv_at hl 0 rfl) ?_
                  refine lv_iadd hx hb dX11_restore_183 ?_
                  refine zz_i (v := nI (40 * q + k)) (nI_add (40 * q) k) ?_
                  refine lv_aload_n hx hb dX11_restore_184 rfl (lv_at hl 3 rfl) ?_
                  obtain ⟨hPc, hDc, hFc⟩ := zo_sub (wc := [_, _]) hP hD hS hA [0, 15] rfl rfl
                  refine zcall (st1 := [.int (sh (w2 + 1)), .int (nI (40 * q + k)), .ref (a 13)]) (va_runV (As := []) (rest := [.int (nI (40 * q + k)), .ref (a 13)]) ⟨hx, hb, hml, hown, hts⟩ (k_M_next l dC dI cI cZ cF H.size k0 a (upd (upd I0 0 (nI ft1)) 42 (nI (w2 + 1))) J0 (w2 + 1) cp sh (rfl) (by first | with_reducible assumption | omega) (by first | with_reducible assumption | omega)) (csV_194 hts rfl rfl ⟨Nat.le_of_ble_eq_true rfl, Nat.le_of_ble_eq_true rfl⟩) (zPV2 (q0 := 0) (ci := 9) hPc hDc hK hXN rfl rfl) rfl rfl hl.1 rfl (lv_room (Nat.le_of_ble_eq_true rfl)) dX11_restore_185 ⟨Nat.le_of_ble_eq_true rfl, Nat.le_of_ble_eq_true rfl⟩) hS hFc hFc rfl (fun t H locs ht hB hk1 hS => ?_)
                  obtain ⟨hP1, hD1⟩ := hB
                  rw [ht] at hP1
                  obtain ⟨hP, hD⟩ := zn (W2 := [(om k0 a (upd (upd I0 0 (nI ft1)) 42 (nI ((w2 + 1) + 1))) J0), _, _, _, _, _, _, _, _, _, _, _, _, _, _, _]) hP hD hk1 hFc hP1 hD1 [0, 15] zl_163 zl_166 [0, 15] (by decide +kernel) rfl rfl rfl rfl rfl
                  clear hk1 hPc hDc hFc hP1 hD1 ht
                  refine zz_i (v := D q (11 + 2 * k)) ((show sh (w2 + 1) = D q (11 + 2 * k) from by rw [show w2 + 1 = psN nn w0 q + (11 + 2 * k) by omega]; exact hblk q (by omega) _ (by omega))) ?_
                  refine z_iast hx hb hK hP hD hS 13 0 rfl rfl (e := 40 * q + k) (x := D q (11 + 2 * k)) rfl b9_19 (Nat.le_of_ble_eq_true rfl) dX11_restore_188 (fun H locs hP hD hS => ?_)
                  obtain ⟨hP, hD⟩ := zre (W2 := [_, _, _, _, _, _, _, _, _, _, _, _, _, (oa (a 13) cI 8040 (upd cy2 (40 * q + k) (D q (11 + 2 * k)))), _, _]) hP hD rfl
                  refine lv_iinc (v := nI (k + 1)) (lv' := [(4, .int (nI (k + 1))), (3, .int (nI (nn q))), (2, .int (nI q)), (0, .ref k0), (1, .int (nI i))]) hx hb dX11_restore_189 hl (k := 0) rfl (nI_add k 1) (Nat.le_of_ble_eq_true rfl) rfl (fun ls hl => ?_)
                  refine lv_goto (tgt := 151) hx hb dX11_restore_192 rfl ?_
                  exact ih_151 (k + 1) ((w2 + 1) + 1) (upd cx2 (40 * q + k) (D q (10 + 2 * k))) (upd cy2 (40 * q + k) (D q (11 + 2 * k))) H locs ls (by first | with_reducible assumption | omega) (by first | with_reducible assumption | omega) (by first | with_reducible assumption | omega) (rsC_s h_cx2 (by first | with_reducible assumption | omega) rfl) (rsC_s h_cy2 (by first | with_reducible assumption | omega) rfl) hP hD hS (lv_sub hl [0, 1, 2, 3, 4] rfl)
            exact hl_151 _ 0 ((((((((((w + 1) + 1) + 1) + 1) + 1) + 1) + 1) + 1) + 1) + 1) cx1 cy1 H locs ls (Nat.lt_succ_self _) (by first | with_reducible assumption | omega) (by first | with_reducible assumption | omega) (h_cx) (h_cy) hP hD hS (lv_sub hl [0, 1, 2, 3, 4] rfl)
  exact hl_20 _ 0 (w0 + 1) kd st gb it pa pb rk wd tw mn cx cy H locs ls (Nat.lt_succ_self _) (by first | with_reducible assumption | omega) (rfl) (rsA_0 _ _) (rsA_0 _ _) (rsA_0 _ _) (rsA_0 _ _) (rsA_0 _ _) (rsA_0 _ _) (rsA_0 _ _) (rsA_0 _ _) (rsA_0 _ _) (rsM_0 _ _ _ _) (rsC_0 _ _ _ _) (rsC_0 _ _ _ _) hP hD hS (lv_sub hl [0, 1, 2] rfl)
end
section
set_option maxHeartbeats 4000000 in
set_option maxRecDepth 100000 in
theorem k_M_begins (l : Launch) (dC : Nat → ClassId) (dI : Nat → Nat → Nat) (cI cZ cF : ClassId) (sz : Nat) (k0 : Nat) (a : Nat → Nat) (I0 : Nat → Int32) (J0 : Nat → Int64) (dn : Nat) (bs : Nat) (ft : Nat) (w0 : Nat) (cp : Nat) (cE : Nat) (kd : Nat → Int32) (st : Nat → Int32) (gb : Nat → Int32) (it : Nat → Int32) (pa : Nat → Int32) (pb : Nat → Int32) (rk : Nat → Int32) (wd : Nat → Int32) (tw : Nat → Int32) (tn : Nat → Int32) (mn : Nat → Int32) (cx : Nat → Int32) (cy : Nat → Int32) (sa : Nat → Int32) (sh : Nat → Int32) (hft : I0 0 = nI ft) (h200 : ft ≤ 200) (hdn : I0 19 = nI dn) (hbs : I0 21 = nI bs) (hbd : bs ≤ dn) (hd512 : dn ≤ 512) (hi5 : (dn - bs) < 515) (hsa : sa (dn - bs) = nI w0) (hmn : ∀ f, f < ft → (tn f).toInt = 0 → ¬ (st f).toInt = 0 → mn f = nI (nN (mn f)) ∧ nN (mn f) ≤ 40) (hc1 : 1 ≤ cp) (hpw : pw cp cE) (hw0 : w0 ≤ 4096 * cp) (hfit : psN (nnF st tn mn) w0 ft ≤ 4096 * cE) (hmin : cE = cp ∨ 2048 * cE < psN (nnF st tn mn) w0 ft) (hcE : cE ≤ 512) : zM l yX11_begins cX11_begins 1 none ({ frames := 2, cells := cE - cp, slots := 8192 * (cE - cp), locals := 47 } : Room) [.ref k0] (dC, dI) (zTy cI cZ cF) [(om k0 a I0 J0), (oa (a 1) cI 201 kd), (oa (a 5) cI 201 st), (oa (a 7) cI 201 gb), (oa (a 10) cI 201 it), (oa (a 8) cI 201 pa), (oa (a 9) cI 201 pb), (oa (a 2) cI 201 rk), (oa (a 3) cI 201 wd), (oa (a 4) cI 201 tw), (oa (a 6) cZ 201 tn), (oa (a 11) cI 201 mn), (oa (a 12) cI 8040 cx), (oa (a 13) cI 8040 cy), (oa (a 27) cI 516 sa), (oa (a 28) cI (4096 * cp) sh)] sz none (fun A t => ∃ (b1 : Nat), ∃ (sh1 : Nat → Int32), (sh1 w0 = nI ft) ∧ (∀ j, j < w0 → sh1 j = sh j) ∧ (∀ g, g < ft → ∀ j, j < 10 + 2 * nnF st tn mn g → sh1 (psN (nnF st tn mn) w0 g + j) = (shD kd st gb it pa pb rk wd tw (nnF st tn mn) cx cy) g j) ∧ (∀ j, psN (nnF st tn mn) w0 ft ≤ j → j < 4096 * cp → sh1 j = sh j) ∧ zPD (dC, dI) classes A [(om k0 (va_up a 28 b1) (upd I0 41 (nI (psN (nnF st tn mn) w0 ft))) J0), (oa (a 1) cI 201 kd), (oa (a 5) cI 201 st), (oa (a 7) cI 201 gb), (oa (a 10) cI 201 it), (oa (a 8) cI 201 pa), (oa (a 9) cI 201 pb), (oa (a 2) cI 201 rk), (oa (a 3) cI 201 wd), (oa (a 4) cI 201 tw), (oa (a 6) cZ 201 tn), (oa (a 11) cI 201 mn), (oa (a 12) cI 8040 cx), (oa (a 13) cI 8040 cy), (oa (a 27) cI 516 (upd sa ((dn - bs) + 1) (nI (psN (nnF st tn mn) w0 ft)))), (oa b1 cI (4096 * cE) sh1)] t.heap) (cE - cp) (8192 * (cE - cp)) := by
  refine zIn (own := "ScaleShopModel") (loc := [(0, .ref k0)]) rfl rfl rfl rfl (fun p e s m below meth c hx hb hr hts hown hlocks hml hnm9 A hA hS hP hD hK hXN Q9 hQ9 ls hl => ?_)
  refine lv_aload_n hx hb dX11_begins_0 rfl (lv_at hl 0 rfl) ?_
  refine lv_aload_n hx hb dX11_begins_1 rfl (lv_at hl 0 rfl) ?_
  refine va_get (D := (dC, dI)) (ci := 9) (v := .int (I0 19)) (C := RX11) (T := TX11) (N := 55) hx hb hts inX11 hown hK hP 0 rfl rfl 19 (Nat.le_of_ble_eq_true rfl) (hts _ mw_1178) (fun _ h9 => h9) rfl dX11_begins_2 ?_
  refine zz_i (v := nI dn) (hdn) ?_
  refine lv_aload_n hx hb dX11_begins_5 rfl (lv_at hl 0 rfl) ?_
  refine va_get (D := (dC, dI)) (ci := 9) (v := .int (I0 21)) (C := RX11) (T := TX11) (N := 55) hx hb hts inX11 hown hK hP 0 rfl rfl 21 (Nat.le_of_ble_eq_true rfl) (hts _ mw_1180) (fun _ h9 => h9) rfl dX11_begins_6 ?_
  refine zz_i (v := nI bs) (hbs) ?_
  refine lv_isub hx hb dX11_begins_9 ?_
  refine zz_i (v := nI (dn - bs)) (pk_sub (a := dn) (b := bs) (by omega)) ?_
  obtain ⟨hPc, hDc, hFc⟩ := zo_sub (wc := [_, _, _, _, _, _, _, _, _, _, _, _, _, _, _, _]) hP hD hS hA [0, 1, 2, 3, 4, 5, 6, 7, 8, 9, 10, 11, 12, 13, 14, 15] (by decide +kernel) rfl
  refine zcall (st1 := []) (va_runV (As := [.int (nI (dn - bs))]) (rest := []) ⟨hx, hb, hml, hown, hts⟩ (k_M_keep l dC dI cI cZ cF s.heap.size k0 a I0 J0 (dn - bs) ft w0 cp cE kd st gb it pa pb rk wd tw tn mn cx cy sa sh (by first | with_reducible assumption | assumption) (by first | with_reducible assumption | omega) (by first | with_reducible assumption | omega) (by first | with_reducible assumption | assumption) (by first | with_reducible assumption | assumption) (by first | with_reducible assumption | omega) (by first | with_reducible assumption | assumption) (by first | with_reducible assumption | omega) (by first | with_reducible assumption | assumption) (by first | with_reducible assumption | assumption) (by first | with_reducible assumption | omega)) (csV_195 hts rfl rfl ⟨Nat.le_of_ble_eq_true rfl, Nat.le_of_ble_eq_true rfl⟩) (zPV2 (q0 := 0) (ci := 9) hPc hDc hK hXN rfl rfl) rfl rfl hl.1 rfl (lv_room (Nat.le_of_ble_eq_true rfl)) dX11_begins_10 ⟨show (0 + (cE - cp)) ≤ cE - cp by omega, show (0 + (8192 * (cE - cp))) ≤ 8192 * (cE - cp) by omega⟩) hS hFc hFc rfl (fun t H locs ht hB hk1 hS => ?_)
  obtain ⟨b1, sh1, hkf, hkl, hkb, hko, hP1, hD1⟩ := hB
  rw [ht] at hP1
  obtain ⟨hP, hD⟩ := zn (W2 := [(om k0 (va_up a 28 b1) (upd I0 41 (nI (psN (nnF st tn mn) w0 ft))) J0), (oa (a 1) cI 201 kd), (oa (a 5) cI 201 st), (oa (a 7) cI 201 gb), (oa (a 10) cI 201 it), (oa (a 8) cI 201 pa), (oa (a 9) cI 201 pb), (oa (a 2) cI 201 rk), (oa (a 3) cI 201 wd), (oa (a 4) cI 201 tw), (oa (a 6) cZ 201 tn), (oa (a 11) cI 201 mn), (oa (a 12) cI 8040 cx), (oa (a 13) cI 8040 cy), (oa (a 27) cI 516 (upd sa ((dn - bs) + 1) (nI (psN (nnF st tn mn) w0 ft)))), (oa b1 cI (4096 * cE) sh1)]) hP hD hk1 hFc hP1 hD1 zl_80 [] zl_79 zl_80 (by decide +kernel) rfl rfl rfl rfl rfl
  clear hk1 hPc hDc hFc hP1 hD1 ht
  obtain ⟨hP9, hD9⟩ := zu_sub (wc := [_, _, _, _, _, _, _, _, _, _, _, _, _, _, _, _]) hP hD [true, true, true, true, true, true, true, true, true, true, true, true, true, true, true, true] rfl rfl
  refine W.widen (k := cE - cp) (n := 8192 * (cE - cp)) (by omega) (by omega) ?_
  rw [hQ9]
  exact W.vret hx hb hr (fun t ht hW => ⟨⟨rfl, b1, sh1, (hkf), (hkl), (hkb), (hko), by rw [ht]; exact hP9, hD9⟩, hS.F ht⟩) hS.2.2 dX11_begins_13
set_option maxHeartbeats 4000000 in
set_option maxRecDepth 100000 in
theorem k_M_ends (l : Launch) (dC : Nat → ClassId) (dI : Nat → Nat → Nat) (cI cZ cF : ClassId) (sz : Nat) (k0 : Nat) (a : Nat → Nat) (I0 : Nat → Int32) (J0 : Nat → Int64) (e1 : Int32) (e2 : Int32) (e3 : Int32) (dn : Nat) (bs : Nat) (ft : Nat) (w0 : Nat) (cp : Nat) (cE : Nat) (kd : Nat → Int32) (st : Nat → Int32) (gb : Nat → Int32) (it : Nat → Int32) (pa : Nat → Int32) (pb : Nat → Int32) (rk : Nat → Int32) (wd : Nat → Int32) (tw : Nat → Int32) (tn : Nat → Int32) (mn : Nat → Int32) (cx : Nat → Int32) (cy : Nat → Int32) (sa : Nat → Int32) (sh : Nat → Int32) (wh : Nat → Int32) (of9 : Nat → Int32) (we : Nat → Int32) (hft : I0 0 = nI ft) (h200 : ft ≤ 200) (hdn : I0 19 = nI dn) (hbs : I0 21 = nI bs) (hbd : bs ≤ dn) (hd512 : dn ≤ 512) (hi5 : (dn + 1 - bs) < 515) (hsa : sa (dn + 1 - bs) = nI w0) (hmn : ∀ f, f < ft → (tn f).toInt = 0 → ¬ (st f).toInt = 0 → mn f = nI (nN (mn f)) ∧ nN (mn f) ≤ 40) (hc1 : 1 ≤ cp) (hpw : pw cp cE) (hw0 : w0 ≤ 4096 * cp) (hfit : psN (nnF st tn mn) w0 ft ≤ 4096 * cE) (hmin : cE = cp ∨ 2048 * cE < psN (nnF st tn mn) w0 ft) (hcE : cE ≤ 512) : zM l yX11_ends cX11_ends 4 (some .int) ({ frames := 2, cells := cE - cp, slots := 8192 * (cE - cp), locals := 47 } : Room) [.ref k0, .int e1, .int e2, .int e3] (dC, dI) (zTy cI cZ cF) [(om k0 a I0 J0), (oa (a 1) cI 201 kd), (oa (a 5) cI 201 st), (oa (a 7) cI 201 gb), (oa (a 10) cI 201 it), (oa (a 8) cI 201 pa), (oa (a 9) cI 201 pb), (oa (a 2) cI 201 rk), (oa (a 3) cI 201 wd), (oa (a 4) cI 201 tw), (oa (a 6) cZ 201 tn), (oa (a 11) cI 201 mn), (oa (a 12) cI 8040 cx), (oa (a 13) cI 8040 cy), (oa (a 27) cI 516 sa), (oa (a 28) cI (4096 * cp) sh), (oa (a 16) cI 514 wh), (oa (a 17) cI 514 of9), (oa (a 18) cI 514 we)] sz (some (.int (nI (dn + 1)))) (fun A t => ∃ (b1 : Nat), ∃ (sh1 : Nat → Int32), (sh1 w0 = nI ft) ∧ (∀ j, j < w0 → sh1 j = sh j) ∧ (∀ g, g < ft → ∀ j, j < 10 + 2 * nnF st tn mn g → sh1 (psN (nnF st tn mn) w0 g + j) = (shD kd st gb it pa pb rk wd tw (nnF st tn mn) cx cy) g j) ∧ (∀ j, psN (nnF st tn mn) w0 ft ≤ j → j < 4096 * cp → sh1 j = sh j) ∧ zPD (dC, dI) classes A [(om k0 (va_up a 28 b1) (upd (upd (upd (upd I0 14 0) 19 (nI (dn + 1))) 20 0) 41 (nI (psN (nnF st tn mn) w0 ft))) J0), (oa (a 1) cI 201 kd), (oa (a 5) cI 201 st), (oa (a 7) cI 201 gb), (oa (a 10) cI 201 it), (oa (a 8) cI 201 pa), (oa (a 9) cI 201 pb), (oa (a 2) cI 201 rk), (oa (a 3) cI 201 wd), (oa (a 4) cI 201 tw), (oa (a 6) cZ 201 tn), (oa (a 11) cI 201 mn), (oa (a 12) cI 8040 cx), (oa (a 13) cI 8040 cy), (oa (a 27) cI 516 (upd sa ((dn + 1 - bs) + 1) (nI (psN (nnF st tn mn) w0 ft)))), (oa b1 cI (4096 * cE) sh1), (oa (a 16) cI 514 (upd wh (dn + 1) e1)), (oa (a 17) cI 514 (upd of9 (dn + 1) e2)), (oa (a 18) cI 514 (upd we (dn + 1) e3))] t.heap) (cE - cp) (8192 * (cE - cp)) := by
  refine zIn (own := "ScaleShopModel") (loc := [(0, .ref k0), (1, .int e1), (2, .int e2), (3, .int e3)]) rfl rfl rfl rfl (fun p e s m below meth c hx hb hr hts hown hlocks hml hnm9 A hA hS hP hD hK hXN Q9 hQ9 ls hl => ?_)
  refine lv_aload_n hx hb dX11_ends_0 rfl (lv_at hl 0 rfl) ?_
  refine lv_dup hx hb dX11_ends_1 rfl ?_
  refine va_get (D := (dC, dI)) (ci := 9) (v := .int (I0 19)) (C := RX11) (T := TX11) (N := 55) hx hb hts inX11 hown hK hP 0 rfl rfl 19 (Nat.le_of_ble_eq_true rfl) (hts _ mw_1178) (fun _ h9 => h9) rfl dX11_ends_2 ?_
  refine zz_i (v := nI dn) (hdn) ?_
  refine lv_iconst (v := 1) hx hb dX11_ends_5 rfl ?_
  refine lv_iadd hx hb dX11_ends_6 ?_
  refine zz_i (v := nI (dn + 1)) (nI_add dn 1) ?_
  refine va_put (D := (dC, dI)) (ci := 9) (v := .int (nI (dn + 1))) (ty := .int) (C := RX11) (T := TX11) (N := 55) hx hb hts inX11 tyX11 tyX11_ok nmX11 hown hK hP hD hS 0 rfl rfl 19 (by decide) (hts _ mw_1178) (fun _ h9 => h9) rfl (by decide +kernel) rfl rfl (Nat.le_of_ble_eq_true rfl) dX11_ends_7 (fun H locs hP hD hS => ?_)
  obtain ⟨hP, hD⟩ := zre (W2 := [(om k0 a (upd I0 19 (nI (dn + 1))) J0), _, _, _, _, _, _, _, _, _, _, _, _, _, _, _, _, _, _]) hP hD rfl
  refine lv_aload_n hx hb dX11_ends_10 rfl (lv_at hl 0 rfl) ?_
  refine lv_iconst (v := 0) hx hb dX11_ends_11 rfl ?_
  refine va_put (D := (dC, dI)) (ci := 9) (v := .int 0) (ty := .int) (C := RX11) (T := TX11) (N := 55) hx hb hts inX11 tyX11 tyX11_ok nmX11 hown hK hP hD hS 0 rfl rfl 20 (by decide) (hts _ mw_1179) (fun _ h9 => h9) rfl (by decide +kernel) rfl rfl (Nat.le_of_ble_eq_true rfl) dX11_ends_12 (fun H locs hP hD hS => ?_)
  obtain ⟨hP, hD⟩ := zre (W2 := [(om k0 a (upd (upd I0 19 (nI (dn + 1))) 20 0) J0), _, _, _, _, _, _, _, _, _, _, _, _, _, _, _, _, _, _]) hP hD rfl
  refine lv_aload_n hx hb dX11_ends_15 rfl (lv_at hl 0 rfl) ?_
  refine va_get (D := (dC, dI)) (ci := 9) (v := .ref (a 16)) (C := RX11) (T := TX11) (N := 55) hx hb hts inX11 hown hK hP 0 rfl rfl 16 (Nat.le_of_ble_eq_true rfl) (hts _ mw_1175) (fun _ h9 => h9) rfl dX11_ends_16 ?_
  refine lv_aload_n hx hb dX11_ends_19 rfl (lv_at hl 0 rfl) ?_
  refine va_get (D := (dC, dI)) (ci := 9) (v := .int (nI (dn + 1))) (C := RX11) (T := TX11) (N := 55) hx hb hts inX11 hown hK hP 0 rfl rfl 19 (Nat.le_of_ble_eq_true rfl) (hts _ mw_1178) (fun _ h9 => h9) rfl dX11_ends_20 ?_
  refine lv_iload_n hx hb dX11_ends_23 rfl (lv_at hl 1 rfl) ?_
  have b9_1 : dn + 1 < 514 := by omega
  refine z_iast hx hb hK hP hD hS 16 0 rfl rfl (e := dn + 1) (x := e1) rfl b9_1 (Nat.le_of_ble_eq_true rfl) dX11_ends_24 (fun H locs hP hD hS => ?_)
  obtain ⟨hP, hD⟩ := zre (W2 := [_, _, _, _, _, _, _, _, _, _, _, _, _, _, _, _, (oa (a 16) cI 514 (upd wh (dn + 1) e1)), _, _]) hP hD rfl
  refine lv_aload_n hx hb dX11_ends_25 rfl (lv_at hl 0 rfl) ?_
  refine va_get (D := (dC, dI)) (ci := 9) (v := .ref (a 17)) (C := RX11) (T := TX11) (N := 55) hx hb hts inX11 hown hK hP 0 rfl rfl 17 (Nat.le_of_ble_eq_true rfl) (hts _ mw_1176) (fun _ h9 => h9) rfl dX11_ends_26 ?_
  refine lv_aload_n hx hb dX11_ends_29 rfl (lv_at hl 0 rfl) ?_
  refine va_get (D := (dC, dI)) (ci := 9) (v := .int (nI (dn + 1))) (C := RX11) (T := TX11) (N := 55) hx hb hts inX11 hown hK hP 0 rfl rfl 19 (Nat.le_of_ble_eq_true rfl) (hts _ mw_1178) (fun _ h9 => h9) rfl dX11_ends_30 ?_
  refine lv_iload_n hx hb dX11_ends_33 rfl (lv_at hl 2 rfl) ?_
  refine z_iast hx hb hK hP hD hS 17 0 rfl rfl (e := dn + 1) (x := e2) rfl b9_1 (Nat.le_of_ble_eq_true rfl) dX11_ends_34 (fun H locs hP hD hS => ?_)
  obtain ⟨hP, hD⟩ := zre (W2 := [_, _, _, _, _, _, _, _, _, _, _, _, _, _, _, _, _, (oa (a 17) cI 514 (upd of9 (dn + 1) e2)), _]) hP hD rfl
  refine lv_aload_n hx hb dX11_ends_35 rfl (lv_at hl 0 rfl) ?_
  refine va_get (D := (dC, dI)) (ci := 9) (v := .ref (a 18)) (C := RX11) (T := TX11) (N := 55) hx hb hts inX11 hown hK hP 0 rfl rfl 18 (Nat.le_of_ble_eq_true rfl) (hts _ mw_1177) (fun _ h9 => h9) rfl dX11_ends_36 ?_
  refine lv_aload_n hx hb dX11_ends_39 rfl (lv_at hl 0 rfl) ?_
  refine va_get (D := (dC, dI)) (ci := 9) (v := .int (nI (dn + 1))) (C := RX11) (T := TX11) (N := 55) hx hb hts inX11 hown hK hP 0 rfl rfl 19 (Nat.le_of_ble_eq_true rfl) (hts _ mw_1178) (fun _ h9 => h9) rfl dX11_ends_40 ?_
  refine lv_iload_n hx hb dX11_ends_43 rfl (lv_at hl 3 rfl) ?_
  refine z_iast hx hb hK hP hD hS 18 0 rfl rfl (e := dn + 1) (x := e3) rfl b9_1 (Nat.le_of_ble_eq_true rfl) dX11_ends_44 (fun H locs hP hD hS => ?_)
  obtain ⟨hP, hD⟩ := zre (W2 := [_, _, _, _, _, _, _, _, _, _, _, _, _, _, _, _, _, _, (oa (a 18) cI 514 (upd we (dn + 1) e3))]) hP hD rfl
  refine lv_aload_n hx hb dX11_ends_45 rfl (lv_at hl 0 rfl) ?_
  refine lv_aload_n hx hb dX11_ends_46 rfl (lv_at hl 0 rfl) ?_
  refine va_get (D := (dC, dI)) (ci := 9) (v := .int (nI (dn + 1))) (C := RX11) (T := TX11) (N := 55) hx hb hts inX11 hown hK hP 0 rfl rfl 19 (Nat.le_of_ble_eq_true rfl) (hts _ mw_1178) (fun _ h9 => h9) rfl dX11_ends_47 ?_
  refine lv_aload_n hx hb dX11_ends_50 rfl (lv_at hl 0 rfl) ?_
  refine va_get (D := (dC, dI)) (ci := 9) (v := .int (I0 21)) (C := RX11) (T := TX11) (N := 55) hx hb hts inX11 hown hK hP 0 rfl rfl 21 (Nat.le_of_ble_eq_true rfl) (hts _ mw_1180) (fun _ h9 => h9) rfl dX11_ends_51 ?_
  refine zz_i (v := nI bs) (hbs) ?_
  refine lv_isub hx hb dX11_ends_54 ?_
  refine zz_i (v := nI ((dn + 1) - bs)) (pk_sub (a := dn + 1) (b := bs) (by omega)) ?_
  obtain ⟨hPc, hDc, hFc⟩ := zo_sub (wc := [_, _, _, _, _, _, _, _, _, _, _, _, _, _, _, _]) hP hD hS hA [0, 1, 2, 3, 4, 5, 6, 7, 8, 9, 10, 11, 12, 13, 14, 15] (by decide +kernel) rfl
  refine zcall (st1 := []) (va_runV (As := [.int (nI ((dn + 1) - bs))]) (rest := []) ⟨hx, hb, hml, hown, hts⟩ (k_M_keep l dC dI cI cZ cF H.size k0 a (upd (upd I0 19 (nI (dn + 1))) 20 0) J0 ((dn + 1) - bs) ft w0 cp cE kd st gb it pa pb rk wd tw tn mn cx cy sa sh (by first | with_reducible assumption | assumption) (by first | with_reducible assumption | omega) (by first | with_reducible assumption | omega) (by first | with_reducible assumption | assumption) (by first | with_reducible assumption | assumption) (by first | with_reducible assumption | omega) (by first | with_reducible assumption | assumption) (by first | with_reducible assumption | omega) (by first | with_reducible assumption | assumption) (by first | with_reducible assumption | assumption) (by first | with_reducible assumption | omega)) (csV_195 hts rfl rfl ⟨Nat.le_of_ble_eq_true rfl, Nat.le_of_ble_eq_true rfl⟩) (zPV2 (q0 := 0) (ci := 9) hPc hDc hK hXN rfl rfl) rfl rfl hl.1 rfl (lv_room (Nat.le_of_ble_eq_true rfl)) dX11_ends_55 ⟨show (0 + (cE - cp)) ≤ cE - cp by omega, show (0 + (8192 * (cE - cp))) ≤ 8192 * (cE - cp) by omega⟩) hS hFc hFc rfl (fun t H locs ht hB hk1 hS => ?_)
  obtain ⟨b1, sh1, hkf, hkl, hkb, hko, hP1, hD1⟩ := hB
  rw [ht] at hP1
  obtain ⟨hP, hD⟩ := zn (W2 := [_, _, _, (om k0 (va_up a 28 b1) (upd (upd (upd I0 19 (nI (dn + 1))) 20 0) 41 (nI (psN (nnF st tn mn) w0 ft))) J0), (oa (a 1) cI 201 kd), (oa (a 5) cI 201 st), (oa (a 7) cI 201 gb), (oa (a 10) cI 201 it), (oa (a 8) cI 201 pa), (oa (a 9) cI 201 pb), (oa (a 2) cI 201 rk), (oa (a 3) cI 201 wd), (oa (a 4) cI 201 tw), (oa (a 6) cZ 201 tn), (oa (a 11) cI 201 mn), (oa (a 12) cI 8040 cx), (oa (a 13) cI 8040 cy), (oa (a 27) cI 516 (upd sa (((dn + 1) - bs) + 1) (nI (psN (nnF st tn mn) w0 ft)))), (oa b1 cI (4096 * cE) sh1)]) hP hD hk1 hFc hP1 hD1 zl_80 zl_167 zl_168 zl_169 (by decide +kernel) rfl rfl rfl rfl rfl
  clear hk1 hPc hDc hFc hP1 hD1 ht
  refine lv_aload_n hx hb dX11_ends_58 rfl (lv_at hl 0 rfl) ?_
  refine lv_iconst (v := 0) hx hb dX11_ends_59 rfl ?_
  refine va_put (D := (dC, dI)) (ci := 9) (v := .int 0) (ty := .int) (C := RX11) (T := TX11) (N := 55) hx hb hts inX11 tyX11 tyX11_ok nmX11 hown hK hP hD hS 3 rfl rfl 14 (by decide) (hts _ mw_1173) (fun _ h9 => h9) rfl (by decide +kernel) rfl rfl (Nat.le_of_ble_eq_true rfl) dX11_ends_60 (fun H locs hP hD hS => ?_)
  obtain ⟨hP, hD⟩ := zre (W2 := [_, _, _, (om k0 (va_up a 28 b1) (upd (upd (upd (upd I0 14 0) 19 (nI (dn + 1))) 20 0) 41 (nI (psN (nnF st tn mn) w0 ft))) J0), _, _, _, _, _, _, _, _, _, _, _, _, _, _, _]) hP hD rfl
  refine lv_aload_n hx hb dX11_ends_63 rfl (lv_at hl 0 rfl) ?_
  refine va_get (D := (dC, dI)) (ci := 9) (v := .int (nI (dn + 1))) (C := RX11) (T := TX11) (N := 55) hx hb hts inX11 hown hK hP 3 rfl rfl 19 (Nat.le_of_ble_eq_true rfl) (hts _ mw_1178) (fun _ h9 => h9) rfl dX11_ends_64 ?_
  obtain ⟨hP9, hD9⟩ := zq_sub (wc := [_, _, _, _, _, _, _, _, _, _, _, _, _, _, _, _, _, _, _]) hP hD [3, 4, 5, 6, 7, 8, 9, 10, 11, 12, 13, 14, 15, 16, 17, 18, 0, 1, 2] rfl rfl
  refine W.widen (k := cE - cp) (n := 8192 * (cE - cp)) (by omega) (by omega) ?_
  rw [hQ9]
  exact W.iret (v := nI (dn + 1)) hx hb hr (fun t ht hW => ⟨⟨rfl, b1, sh1, (hkf), (hkl), (hkb), (hko), by rw [ht]; exact hP9, hD9⟩, hS.F ht⟩) hS.2.2 dX11_ends_67
set_option maxHeartbeats 4000000 in
set_option maxRecDepth 100000 in
theorem k_M_lose (l : Launch) (dC : Nat → ClassId) (dI : Nat → Nat → Nat) (cI cZ cF : ClassId) (sz : Nat) (k0 : Nat) (a : Nat → Nat) (I0 : Nat → Int32) (J0 : Nat → Int64) (e1 : Int32) (e2 : Int32) (e3 : Int32) (e4 : Int32) (ln : Nat) (cl : Nat) (la : Nat → Int32) (lb : Nat → Int32) (lc : Nat → Int32) (ld : Nat → Int32) (hln : I0 26 = nI ln) (hlc : ln ≤ 64 * cl) (hcl1 : 1 ≤ cl) (hclm : cl ≤ 1000000) : zM l yX11_lose cX11_lose 11 none ({ frames := 0, cells := 4 * (dl cl ln - cl), slots := 512 * (dl cl ln - cl), locals := 0 } : Room) [.ref k0, .int e1, .int e2, .int e3, .int e4] (dC, dI) (zTy cI cZ cF) [(om k0 a I0 J0), (oa (a 22) cI (64 * cl) la), (oa (a 23) cI (64 * cl) lb), (oa (a 24) cI (64 * cl) lc), (oa (a 25) cI (64 * cl) ld)] sz none (fun A t => ∃ (bl0 : Nat), ∃ (bl1 : Nat), ∃ (bl2 : Nat), ∃ (bl3 : Nat), ∃ (cl1 : Nat), ∃ (la1 : Nat → Int32), ∃ (lb1 : Nat → Int32), ∃ (lc1 : Nat → Int32), ∃ (ld1 : Nat → Int32), (cl1 = dl cl ln) ∧ (la1 ln = e1) ∧ (lb1 ln = e2) ∧ (lc1 ln = e3) ∧ (ld1 ln = e4) ∧ (∀ j, j < ln → la1 j = la j) ∧ (∀ j, j < ln → lb1 j = lb j) ∧ (∀ j, j < ln → lc1 j = lc j) ∧ (∀ j, j < ln → ld1 j = ld j) ∧ zPD (dC, dI) classes A [(om k0 (va_up (va_up (va_up (va_up a 22 bl0) 23 bl1) 24 bl2) 25 bl3) (upd I0 26 (nI (ln + 1))) J0), (oa bl0 cI (64 * cl1) la1), (oa bl1 cI (64 * cl1) lb1), (oa bl2 cI (64 * cl1) lc1), (oa bl3 cI (64 * cl1) ld1)] t.heap) (4 * (dl cl ln - cl)) (512 * (dl cl ln - cl)) := by
  refine zIn (own := "ScaleShopModel") (loc := [(0, .ref k0), (1, .int e1), (2, .int e2), (3, .int e3), (4, .int e4)]) rfl rfl rfl rfl (fun p e s m below meth c hx hb hr hts hown hlocks hml hnm9 A hA hS hP hD hK hXN Q9 hQ9 ls hl => ?_)
  have hdl : dl cl ln = if ln = 64 * cl then 2 * cl else cl := rfl
  refine lv_aload_n hx hb dX11_lose_0 rfl (lv_at hl 0 rfl) ?_
  refine va_get (D := (dC, dI)) (ci := 9) (v := .int (I0 26)) (C := RX11) (T := TX11) (N := 55) hx hb hts inX11 hown hK hP 0 rfl rfl 26 (Nat.le_of_ble_eq_true rfl) (hts _ mw_1185) (fun _ h9 => h9) rfl dX11_lose_1 ?_
  refine zz_i (v := nI ln) (hln) ?_
  refine lv_aload_n hx hb dX11_lose_4 rfl (lv_at hl 0 rfl) ?_
  refine va_get (D := (dC, dI)) (ci := 9) (v := .ref (a 23)) (C := RX11) (T := TX11) (N := 55) hx hb hts inX11 hown hK hP 0 rfl rfl 23 (Nat.le_of_ble_eq_true rfl) (hts _ mw_1182) (fun _ h9 => h9) rfl dX11_lose_5 ?_
  refine va_alen (v := nI (64 * cl)) hx hb hK hP 2 0 rfl rfl rfl dX11_lose_8 ?_
  have b9_2 : zlt (ln) := show ln < 2147483648 by omega
  have b9_3 : zlt ((64 * cl)) := show (64 * cl) < 2147483648 by omega
  refine lv_icmp_ne (tgt := 134) hx hb dX11_lose_9 rfl (fun c_1 => ?_) (fun c_1 => ?_)
  · have c_1 : ¬ ((ln : Nat) : Int) = ((64 * cl : Nat) : Int) := zc_ne (nI_toInt b9_2) (nI_toInt b9_3) c_1
    refine lv_aload_n hx hb dX11_lose_134 rfl (lv_at hl 0 rfl) ?_
    refine va_get (D := (dC, dI)) (ci := 9) (v := .ref (a 22)) (C := RX11) (T := TX11) (N := 55) hx hb hts inX11 hown hK hP 0 rfl rfl 22 (Nat.le_of_ble_eq_true rfl) (hts _ mw_1181) (fun _ h9 => h9) rfl dX11_lose_135 ?_
    refine lv_aload_n hx hb dX11_lose_138 rfl (lv_at hl 0 rfl) ?_
    refine va_get (D := (dC, dI)) (ci := 9) (v := .int (I0 26)) (C := RX11) (T := TX11) (N := 55) hx hb hts inX11 hown hK hP 0 rfl rfl 26 (Nat.le_of_ble_eq_true rfl) (hts _ mw_1185) (fun _ h9 => h9) rfl dX11_lose_139 ?_
    refine zz_i (v := nI ln) (hln) ?_
    refine lv_iload_n hx hb dX11_lose_142 rfl (lv_at hl 1 rfl) ?_
    have b9_4 : ln < (64 * cl) := by omega
    refine z_iast hx hb hK hP hD hS 1 0 rfl rfl (e := ln) (x := e1) rfl b9_4 b9_3 dX11_lose_143 (fun H locs hP hD hS => ?_)
    obtain ⟨hP, hD⟩ := zre (W2 := [_, (oa (a 22) cI (64 * cl) (upd la ln e1)), _, _, _]) hP hD rfl
    refine lv_aload_n hx hb dX11_lose_144 rfl (lv_at hl 0 rfl) ?_
    refine va_get (D := (dC, dI)) (ci := 9) (v := .ref (a 23)) (C := RX11) (T := TX11) (N := 55) hx hb hts inX11 hown hK hP 0 rfl rfl 23 (Nat.le_of_ble_eq_true rfl) (hts _ mw_1182) (fun _ h9 => h9) rfl dX11_lose_145 ?_
    refine lv_aload_n hx hb dX11_lose_148 rfl (lv_at hl 0 rfl) ?_
    refine va_get (D := (dC, dI)) (ci := 9) (v := .int (I0 26)) (C := RX11) (T := TX11) (N := 55) hx hb hts inX11 hown hK hP 0 rfl rfl 26 (Nat.le_of_ble_eq_true rfl) (hts _ mw_1185) (fun _ h9 => h9) rfl dX11_lose_149 ?_
    refine zz_i (v := nI ln) (hln) ?_
    refine lv_iload_n hx hb dX11_lose_152 rfl (lv_at hl 2 rfl) ?_
    refine z_iast hx hb hK hP hD hS 2 0 rfl rfl (e := ln) (x := e2) rfl b9_4 b9_3 dX11_lose_153 (fun H locs hP hD hS => ?_)
    obtain ⟨hP, hD⟩ := zre (W2 := [_, _, (oa (a 23) cI (64 * cl) (upd lb ln e2)), _, _]) hP hD rfl
    refine lv_aload_n hx hb dX11_lose_154 rfl (lv_at hl 0 rfl) ?_
    refine va_get (D := (dC, dI)) (ci := 9) (v := .ref (a 24)) (C := RX11) (T := TX11) (N := 55) hx hb hts inX11 hown hK hP 0 rfl rfl 24 (Nat.le_of_ble_eq_true rfl) (hts _ mw_1183) (fun _ h9 => h9) rfl dX11_lose_155 ?_
    refine lv_aload_n hx hb dX11_lose_158 rfl (lv_at hl 0 rfl) ?_
    refine va_get (D := (dC, dI)) (ci := 9) (v := .int (I0 26)) (C := RX11) (T := TX11) (N := 55) hx hb hts inX11 hown hK hP 0 rfl rfl 26 (Nat.le_of_ble_eq_true rfl) (hts _ mw_1185) (fun _ h9 => h9) rfl dX11_lose_159 ?_
    refine zz_i (v := nI ln) (hln) ?_
    refine lv_iload_n hx hb dX11_lose_162 rfl (lv_at hl 3 rfl) ?_
    refine z_iast hx hb hK hP hD hS 3 0 rfl rfl (e := ln) (x := e3) rfl b9_4 b9_3 dX11_lose_163 (fun H locs hP hD hS => ?_)
    obtain ⟨hP, hD⟩ := zre (W2 := [_, _, _, (oa (a 24) cI (64 * cl) (upd lc ln e3)), _]) hP hD rfl
    refine lv_aload_n hx hb dX11_lose_164 rfl (lv_at hl 0 rfl) ?_
    refine va_get (D := (dC, dI)) (ci := 9) (v := .ref (a 25)) (C := RX11) (T := TX11) (N := 55) hx hb hts inX11 hown hK hP 0 rfl rfl 25 (Nat.le_of_ble_eq_true rfl) (hts _ mw_1184) (fun _ h9 => h9) rfl dX11_lose_165 ?_
    refine lv_aload_n hx hb dX11_lose_168 rfl (lv_at hl 0 rfl) ?_
    refine va_get (D := (dC, dI)) (ci := 9) (v := .int (I0 26)) (C := RX11) (T := TX11) (N := 55) hx hb hts inX11 hown hK hP 0 rfl rfl 26 (Nat.le_of_ble_eq_true rfl) (hts _ mw_1185) (fun _ h9 => h9) rfl dX11_lose_169 ?_
    refine zz_i (v := nI ln) (hln) ?_
    refine lv_iload hx hb dX11_lose_172 (lv_at hl 4 rfl) ?_
    refine z_iast hx hb hK hP hD hS 4 0 rfl rfl (e := ln) (x := e4) rfl b9_4 b9_3 dX11_lose_174 (fun H locs hP hD hS => ?_)
    obtain ⟨hP, hD⟩ := zre (W2 := [_, _, _, _, (oa (a 25) cI (64 * cl) (upd ld ln e4))]) hP hD rfl
    refine lv_aload_n hx hb dX11_lose_175 rfl (lv_at hl 0 rfl) ?_
    refine lv_dup hx hb dX11_lose_176 rfl ?_
    refine va_get (D := (dC, dI)) (ci := 9) (v := .int (I0 26)) (C := RX11) (T := TX11) (N := 55) hx hb hts inX11 hown hK hP 0 rfl rfl 26 (Nat.le_of_ble_eq_true rfl) (hts _ mw_1185) (fun _ h9 => h9) rfl dX11_lose_177 ?_
    refine zz_i (v := nI ln) (hln) ?_
    refine lv_iconst (v := 1) hx hb dX11_lose_180 rfl ?_
    refine lv_iadd hx hb dX11_lose_181 ?_
    refine zz_i (v := nI (ln + 1)) (nI_add ln 1) ?_
    refine va_put (D := (dC, dI)) (ci := 9) (v := .int (nI (ln + 1))) (ty := .int) (C := RX11) (T := TX11) (N := 55) hx hb hts inX11 tyX11 tyX11_ok nmX11 hown hK hP hD hS 0 rfl rfl 26 (by decide) (hts _ mw_1185) (fun _ h9 => h9) rfl (by decide +kernel) rfl rfl (Nat.le_of_ble_eq_true rfl) dX11_lose_182 (fun H locs hP hD hS => ?_)
    obtain ⟨hP, hD⟩ := zre (W2 := [(om k0 a (upd I0 26 (nI (ln + 1))) J0), _, _, _, _]) hP hD rfl
    obtain ⟨hP9, hD9⟩ := zu_sub (wc := [_, _, _, _, _]) hP hD [true, true, true, true, true] rfl rfl
    refine W.widen (k := 4 * (dl cl ln - cl)) (n := 512 * (dl cl ln - cl)) (by omega) (by omega) ?_
    rw [hQ9]
    exact W.vret hx hb hr (fun t ht hW => ⟨⟨rfl, (a 22), (a 23), (a 24), (a 25), cl, (upd la ln e1), (upd lb ln e2), (upd lc ln e3), (upd ld ln e4), (by first | (rw [hdl, if_neg (by omega)]) | (rw [hdl])), (by exact up_at _ _ _), (by exact up_at _ _ _), (by exact up_at _ _ _), (by exact up_at _ _ _), (by first | exact up_lo (fun j hj => ha1 j (by omega)) (Nat.le_refl _) | exact up_lo (fun j hj => rfl) (Nat.le_refl _)), (by first | exact up_lo (fun j hj => ha2 j (by omega)) (Nat.le_refl _) | exact up_lo (fun j hj => rfl) (Nat.le_refl _)), (by first | exact up_lo (fun j hj => ha3 j (by omega)) (Nat.le_refl _) | exact up_lo (fun j hj => rfl) (Nat.le_refl _)), (by first | exact up_lo (fun j hj => ha4 j (by omega)) (Nat.le_refl _) | exact up_lo (fun j hj => rfl) (Nat.le_refl _)), by rw [ht]; exact hP9, hD9⟩, hS.F ht⟩) hS.2.2 dX11_lose_185
  · have c_1 : ((ln : Nat) : Int) = ((64 * cl : Nat) : Int) := zc_eq (nI_toInt b9_2) (nI_toInt b9_3) c_1
    have hle : ln = 64 * cl := (by omega)
    rw [if_pos hle] at hdl
    refine lv_iconst (v := 2) hx hb dX11_lose_12 rfl ?_
    refine lv_aload_n hx hb dX11_lose_13 rfl (lv_at hl 0 rfl) ?_
    refine va_get (D := (dC, dI)) (ci := 9) (v := .int (I0 26)) (C := RX11) (T := TX11) (N := 55) hx hb hts inX11 hown hK hP 0 rfl rfl 26 (Nat.le_of_ble_eq_true rfl) (hts _ mw_1185) (fun _ h9 => h9) rfl dX11_lose_14 ?_
    refine zz_i (v := nI ln) (hln) ?_
    refine lv_imul hx hb dX11_lose_17 ?_
    refine zz_i (v := nI (2 * ln)) (pk_mul 2 ln) ?_
    refine zz_i (v := nI (64 * (2 * cl))) (zn_eq (by omega)) ?_
    refine lv_istore (lv' := [(5, .int (nI (64 * (2 * cl)))), (0, .ref k0), (1, .int e1), (2, .int e2), (3, .int e3), (4, .int e4)]) hx hb dX11_lose_18 hl (Nat.le_of_ble_eq_true rfl) rfl (fun ls hl => ?_)
    refine lv_iload hx hb dX11_lose_20 (lv_at hl 0 rfl) ?_
    refine zz_newa (atype := .int) (a0 := (64 * (2 * cl), .inl (fun _ => 0))) hx hb (hts _ mw_195) (ty := .int) rfl hK hP hD hS hA (n := nI (64 * (2 * cl))) (N' := 64 * (2 * cl)) (cA := cI) 0 rfl (fun _ => rfl) (nI_pos (by omega)) (nI_clamp (by omega)) (show (64 * (2 * cl)) * 4 ≤ 536870912 by omega) (show 1 ≤ 4 * (dl cl ln - cl) by omega) (show (0 + (64 * (2 * cl))) ≤ 512 * (dl cl ln - cl) by omega) dX11_lose_22 (fun n1 H hP hD hS => ?_)
    obtain ⟨hP, hD⟩ := zre (W2 := [_, _, _, _, _, (oa n1 cI (64 * (2 * cl)) (fun _ => 0))]) hP hD rfl
    refine lv_astore (lv' := [(6, .ref n1), (5, .int (nI (64 * (2 * cl)))), (0, .ref k0), (1, .int e1), (2, .int e2), (3, .int e3), (4, .int e4)]) hx hb dX11_lose_24 hl (Nat.le_of_ble_eq_true rfl) rfl (fun ls hl => ?_)
    refine lv_iload hx hb dX11_lose_26 (lv_at hl 1 rfl) ?_
    refine zz_newa (atype := .int) (a0 := (64 * (2 * cl), .inl (fun _ => 0))) hx hb (hts _ mw_195) (ty := .int) rfl hK hP hD hS hA (n := nI (64 * (2 * cl))) (N' := 64 * (2 * cl)) (cA := cI) 0 rfl (fun _ => rfl) (nI_pos (by omega)) (nI_clamp (by omega)) (show (64 * (2 * cl)) * 4 ≤ 536870912 by omega) (show 2 ≤ 4 * (dl cl ln - cl) by omega) (show ((0 + (64 * (2 * cl))) + (64 * (2 * cl))) ≤ 512 * (dl cl ln - cl) by omega) dX11_lose_28 (fun n2 H hP hD hS => ?_)
    obtain ⟨hP, hD⟩ := zre (W2 := [_, _, _, _, _, _, (oa n2 cI (64 * (2 * cl)) (fun _ => 0))]) hP hD rfl
    refine lv_astore (lv' := [(7, .ref n2), (6, .ref n1), (5, .int (nI (64 * (2 * cl)))), (0, .ref k0), (1, .int e1), (2, .int e2), (3, .int e3), (4, .int e4)]) hx hb dX11_lose_30 hl (Nat.le_of_ble_eq_true rfl) rfl (fun ls hl => ?_)
    refine lv_iload hx hb dX11_lose_32 (lv_at hl 2 rfl) ?_
    refine zz_newa (atype := .int) (a0 := (64 * (2 * cl), .inl (fun _ => 0))) hx hb (hts _ mw_195) (ty := .int) rfl hK hP hD hS hA (n := nI (64 * (2 * cl))) (N' := 64 * (2 * cl)) (cA := cI) 0 rfl (fun _ => rfl) (nI_pos (by omega)) (nI_clamp (by omega)) (show (64 * (2 * cl)) * 4 ≤ 536870912 by omega) (show 3 ≤ 4 * (dl cl ln - cl) by omega) (show (((0 + (64 * (2 * cl))) + (64 * (2 * cl))) + (64 * (2 * cl))) ≤ 512 * (dl cl ln - cl) by omega) dX11_lose_34 (fun n3 H hP hD hS => ?_)
    obtain ⟨hP, hD⟩ := zre (W2 := [_, _, _, _, _, _, _, (oa n3 cI (64 * (2 * cl)) (fun _ => 0))]) hP hD rfl
    refine lv_astore (lv' := [(8, .ref n3), (7, .ref n2), (6, .ref n1), (5, .int (nI (64 * (2 * cl)))), (0, .ref k0), (1, .int e1), (2, .int e2), (3, .int e3), (4, .int e4)]) hx hb dX11_lose_36 hl (Nat.le_of_ble_eq_true rfl) rfl (fun ls hl => ?_)
    refine lv_iload hx hb dX11_lose_38 (lv_at hl 3 rfl) ?_
    refine zz_newa (atype := .int) (a0 := (64 * (2 * cl), .inl (fun _ => 0))) hx hb (hts _ mw_195) (ty := .int) rfl hK hP hD hS hA (n := nI (64 * (2 * cl))) (N' := 64 * (2 * cl)) (cA := cI) 0 rfl (fun _ => rfl) (nI_pos (by omega)) (nI_clamp (by omega)) (show (64 * (2 * cl)) * 4 ≤ 536870912 by omega) (show 4 ≤ 4 * (dl cl ln - cl) by omega) (show ((((0 + (64 * (2 * cl))) + (64 * (2 * cl))) + (64 * (2 * cl))) + (64 * (2 * cl))) ≤ 512 * (dl cl ln - cl) by omega) dX11_lose_40 (fun n4 H hP hD hS => ?_)
    obtain ⟨hP, hD⟩ := zre (W2 := [_, _, _, _, _, _, _, _, (oa n4 cI (64 * (2 * cl)) (fun _ => 0))]) hP hD rfl
    refine lv_astore (lv' := [(9, .ref n4), (8, .ref n3), (7, .ref n2), (6, .ref n1), (5, .int (nI (64 * (2 * cl)))), (0, .ref k0), (1, .int e1), (2, .int e2), (3, .int e3), (4, .int e4)]) hx hb dX11_lose_42 hl (Nat.le_of_ble_eq_true rfl) rfl (fun ls hl => ?_)
    refine lv_iconst (v := 0) hx hb dX11_lose_44 rfl ?_
    refine lv_istore (lv' := [(10, .int 0), (9, .ref n4), (8, .ref n3), (7, .ref n2), (6, .ref n1), (5, .int (nI (64 * (2 * cl)))), (0, .ref k0), (1, .int e1), (2, .int e2), (3, .int e3), (4, .int e4)]) hx hb dX11_lose_45 hl (Nat.le_of_ble_eq_true rfl) rfl (fun ls hl => ?_)
    have hl_47 : ∀ (n9 : Nat) (k : Nat) (f1 : Nat → Int32) (f2 : Nat → Int32) (f3 : Nat → Int32) (f4 : Nat → Int32) (H : Heap) (locs : List Loc) (ls : Array Slot), ln - k < n9 → (k ≤ ln) → (∀ j, j < k → f1 j = la j) → (∀ j, j < k → f2 j = lb j) → (∀ j, j < k → f3 j = lc j) → (∀ j, j < k → f4 j = ld j) → va_P (dC, dI) classes [(om k0 a I0 J0), (oa (a 22) cI (64 * cl) la), (oa (a 23) cI (64 * cl) lb), (oa (a 24) cI (64 * cl) lc), (oa (a 25) cI (64 * cl) ld), (oa n1 cI (64 * (2 * cl)) f1), (oa n2 cI (64 * (2 * cl)) f2), (oa n3 cI (64 * (2 * cl)) f3), (oa n4 cI (64 * (2 * cl)) f4)] H → va_D A [(om k0 a I0 J0), (oa (a 22) cI (64 * cl) la), (oa (a 23) cI (64 * cl) lb), (oa (a 24) cI (64 * cl) lc), (oa (a 25) cI (64 * cl) ld), (oa n1 cI (64 * (2 * cl)) f1), (oa n2 cI (64 * (2 * cl)) f2), (oa n3 cI (64 * (2 * cl)) f3), (oa n4 cI (64 * (2 * cl)) f4)] → va_S A s.heap H locs → lv_has ls 11 [(10, .int (nI k)), (9, .ref n4), (8, .ref n3), (7, .ref n2), (6, .ref n1), (5, .int (nI (64 * (2 * cl)))), (0, .ref k0), (1, .int e1), (2, .int e2), (3, .int e3), (4, .int e4)] → W p l e ({ frames := 0, cells := 4 * (dl cl ln - cl), slots := 512 * (dl cl ln - cl), locals := 0 } : Room) s m ([.ref k0, .int e1, .int e2, .int e3, .int e4] : List Value).toArray below meth c H locs 4 ((((0 + (64 * (2 * cl))) + (64 * (2 * cl))) + (64 * (2 * cl))) + (64 * (2 * cl))) Q9 (F0 m 47 ls []) := by
      intro n9
      induction n9 with
      | zero => intro k f1 f2 f3 f4 H locs ls hm; exact absurd hm (Nat.not_lt_zero _)
      | succ n9 ih_47 =>
        intro k f1 f2 f3 f4 H locs ls hm hk ha1 ha2 ha3 ha4 hP hD hS hl
        refine lv_iload hx hb dX11_lose_47 (lv_at hl 0 rfl) ?_
        refine lv_aload_n hx hb dX11_lose_49 rfl (lv_at hl 6 rfl) ?_
        refine va_get (D := (dC, dI)) (ci := 9) (v := .int (I0 26)) (C := RX11) (T := TX11) (N := 55) hx hb hts inX11 hown hK hP 0 rfl rfl 26 (Nat.le_of_ble_eq_true rfl) (hts _ mw_1185) (fun _ h9 => h9) rfl dX11_lose_50 ?_
        refine zz_i (v := nI ln) (hln) ?_
        have b9_6 : zlt (k) := show k < 2147483648 by omega
        refine lv_icmp_ge (tgt := 110) hx hb dX11_lose_53 rfl (fun c_5 => ?_) (fun c_5 => ?_)
        · have c_5 : ((ln : Nat) : Int) ≤ ((k : Nat) : Int) := zc_le (nI_toInt b9_2) (nI_toInt b9_6) c_5
          refine lv_aload_n hx hb dX11_lose_110 rfl (lv_at hl 6 rfl) ?_
          refine lv_aload hx hb dX11_lose_111 (lv_at hl 4 rfl) ?_
          refine va_put (D := (dC, dI)) (ci := 9) (v := .ref n1) (ty := .array .int) (C := RX11) (T := TX11) (N := 55) hx hb hts inX11 tyX11 tyX11_ok nmX11 hown hK hP hD hS 0 rfl rfl 22 (by decide) (hts _ mw_1181) (fun _ h9 => h9) rfl (by decide +kernel) rfl rfl (Nat.le_of_ble_eq_true rfl) dX11_lose_113 (fun H locs hP hD hS => ?_)
          obtain ⟨hP, hD⟩ := zre (W2 := [(om k0 (va_up a 22 n1) I0 J0), _, _, _, _, _, _, _, _]) hP hD rfl
          refine lv_aload_n hx hb dX11_lose_116 rfl (lv_at hl 6 rfl) ?_
          refine lv_aload hx hb dX11_lose_117 (lv_at hl 3 rfl) ?_
          refine va_put (D := (dC, dI)) (ci := 9) (v := .ref n2) (ty := .array .int) (C := RX11) (T := TX11) (N := 55) hx hb hts inX11 tyX11 tyX11_ok nmX11 hown hK hP hD hS 0 rfl rfl 23 (by decide) (hts _ mw_1182) (fun _ h9 => h9) rfl (by decide +kernel) rfl rfl (Nat.le_of_ble_eq_true rfl) dX11_lose_119 (fun H locs hP hD hS => ?_)
          obtain ⟨hP, hD⟩ := zre (W2 := [(om k0 (va_up (va_up a 22 n1) 23 n2) I0 J0), _, _, _, _, _, _, _, _]) hP hD rfl
          refine lv_aload_n hx hb dX11_lose_122 rfl (lv_at hl 6 rfl) ?_
          refine lv_aload hx hb dX11_lose_123 (lv_at hl 2 rfl) ?_
          refine va_put (D := (dC, dI)) (ci := 9) (v := .ref n3) (ty := .array .int) (C := RX11) (T := TX11) (N := 55) hx hb hts inX11 tyX11 tyX11_ok nmX11 hown hK hP hD hS 0 rfl rfl 24 (by decide) (hts _ mw_1183) (fun _ h9 => h9) rfl (by decide +kernel) rfl rfl (Nat.le_of_ble_eq_true rfl) dX11_lose_125 (fun H locs hP hD hS => ?_)
          obtain ⟨hP, hD⟩ := zre (W2 := [(om k0 (va_up (va_up (va_up a 22 n1) 23 n2) 24 n3) I0 J0), _, _, _, _, _, _, _, _]) hP hD rfl
          refine lv_aload_n hx hb dX11_lose_128 rfl (lv_at hl 6 rfl) ?_
          refine lv_aload hx hb dX11_lose_129 (lv_at hl 1 rfl) ?_
          refine va_put (D := (dC, dI)) (ci := 9) (v := .ref n4) (ty := .array .int) (C := RX11) (T := TX11) (N := 55) hx hb hts inX11 tyX11 tyX11_ok nmX11 hown hK hP hD hS 0 rfl rfl 25 (by decide) (hts _ mw_1184) (fun _ h9 => h9) rfl (by decide +kernel) rfl rfl (Nat.le_of_ble_eq_true rfl) dX11_lose_131 (fun H locs hP hD hS => ?_)
          obtain ⟨hP, hD⟩ := zre (W2 := [(om k0 (va_up (va_up (va_up (va_up a 22 n1) 23 n2) 24 n3) 25 n4) I0 J0), _, _, _, _, _, _, _, _]) hP hD rfl
          refine lv_aload_n hx hb dX11_lose_134 rfl (lv_at hl 6 rfl) ?_
          refine va_get (D := (dC, dI)) (ci := 9) (v := .ref n1) (C := RX11) (T := TX11) (N := 55) hx hb hts inX11 hown hK hP 0 rfl rfl 22 (Nat.le_of_ble_eq_true rfl) (hts _ mw_1181) (fun _ h9 => h9) rfl dX11_lose_135 ?_
          refine lv_aload_n hx hb dX11_lose_138 rfl (lv_at hl 6 rfl) ?_
          refine va_get (D := (dC, dI)) (ci := 9) (v := .int (I0 26)) (C := RX11) (T := TX11) (N := 55) hx hb hts inX11 hown hK hP 0 rfl rfl 26 (Nat.le_of_ble_eq_true rfl) (hts _ mw_1185) (fun _ h9 => h9) rfl dX11_lose_139 ?_
          refine zz_i (v := nI ln) (hln) ?_
          refine lv_iload_n hx hb dX11_lose_142 rfl (lv_at hl 7 rfl) ?_
          have b9_7 : ln < (64 * (2 * cl)) := by omega
          have b9_8 : zlt ((64 * (2 * cl))) := show (64 * (2 * cl)) < 2147483648 by omega
          refine z_iast hx hb hK hP hD hS 5 0 rfl rfl (e := ln) (x := e1) rfl b9_7 b9_8 dX11_lose_143 (fun H locs hP hD hS => ?_)
          obtain ⟨hP, hD⟩ := zre (W2 := [_, _, _, _, _, (oa n1 cI (64 * (2 * cl)) (upd f1 ln e1)), _, _, _]) hP hD rfl
          refine lv_aload_n hx hb dX11_lose_144 rfl (lv_at hl 6 rfl) ?_
          refine va_get (D := (dC, dI)) (ci := 9) (v := .ref n2) (C := RX11) (T := TX11) (N := 55) hx hb hts inX11 hown hK hP 0 rfl rfl 23 (Nat.le_of_ble_eq_true rfl) (hts _ mw_1182) (fun _ h9 => h9) rfl dX11_lose_145 ?_
          refine lv_aload_n hx hb dX11_lose_148 rfl (lv_at hl 6 rfl) ?_
          refine va_get (D := (dC, dI)) (ci := 9) (v := .int (I0 26)) (C := RX11) (T := TX11) (N := 55) hx hb hts inX11 hown hK hP 0 rfl rfl 26 (Nat.le_of_ble_eq_true rfl) (hts _ mw_1185) (fun _ h9 => h9) rfl dX11_lose_149 ?_
          refine zz_i (v := nI ln) (hln) ?_
          refine lv_iload_n hx hb dX11_lose_152 rfl (lv_at hl 8 rfl) ?_
          refine z_iast hx hb hK hP hD hS 6 0 rfl rfl (e := ln) (x := e2) rfl b9_7 b9_8 dX11_lose_153 (fun H locs hP hD hS => ?_)
          obtain ⟨hP, hD⟩ := zre (W2 := [_, _, _, _, _, _, (oa n2 cI (64 * (2 * cl)) (upd f2 ln e2)), _, _]) hP hD rfl
          refine lv_aload_n hx hb dX11_lose_154 rfl (lv_at hl 6 rfl) ?_
          refine va_get (D := (dC, dI)) (ci := 9) (v := .ref n3) (C := RX11) (T := TX11) (N := 55) hx hb hts inX11 hown hK hP 0 rfl rfl 24 (Nat.le_of_ble_eq_true rfl) (hts _ mw_1183) (fun _ h9 => h9) rfl dX11_lose_155 ?_
          refine lv_aload_n hx hb dX11_lose_158 rfl (lv_at hl 6 rfl) ?_
          refine va_get (D := (dC, dI)) (ci := 9) (v := .int (I0 26)) (C := RX11) (T := TX11) (N := 55) hx hb hts inX11 hown hK hP 0 rfl rfl 26 (Nat.le_of_ble_eq_true rfl) (hts _ mw_1185) (fun _ h9 => h9) rfl dX11_lose_159 ?_
          refine zz_i (v := nI ln) (hln) ?_
          refine lv_iload_n hx hb dX11_lose_162 rfl (lv_at hl 9 rfl) ?_
          refine z_iast hx hb hK hP hD hS 7 0 rfl rfl (e := ln) (x := e3) rfl b9_7 b9_8 dX11_lose_163 (fun H locs hP hD hS => ?_)
          obtain ⟨hP, hD⟩ := zre (W2 := [_, _, _, _, _, _, _, (oa n3 cI (64 * (2 * cl)) (upd f3 ln e3)), _]) hP hD rfl
          refine lv_aload_n hx hb dX11_lose_164 rfl (lv_at hl 6 rfl) ?_
          refine va_get (D := (dC, dI)) (ci := 9) (v := .ref n4) (C := RX11) (T := TX11) (N := 55) hx hb hts inX11 hown hK hP 0 rfl rfl 25 (Nat.le_of_ble_eq_true rfl) (hts _ mw_1184) (fun _ h9 => h9) rfl dX11_lose_165 ?_
          refine lv_aload_n hx hb dX11_lose_168 rfl (lv_at hl 6 rfl) ?_
          refine va_get (D := (dC, dI)) (ci := 9) (v := .int (I0 26)) (C := RX11) (T := TX11) (N := 55) hx hb hts inX11 hown hK hP 0 rfl rfl 26 (Nat.le_of_ble_eq_true rfl) (hts _ mw_1185) (fun _ h9 => h9) rfl dX11_lose_169 ?_
          refine zz_i (v := nI ln) (hln) ?_
          refine lv_iload hx hb dX11_lose_172 (lv_at hl 10 rfl) ?_
          refine z_iast hx hb hK hP hD hS 8 0 rfl rfl (e := ln) (x := e4) rfl b9_7 b9_8 dX11_lose_174 (fun H locs hP hD hS => ?_)
          obtain ⟨hP, hD⟩ := zre (W2 := [_, _, _, _, _, _, _, _, (oa n4 cI (64 * (2 * cl)) (upd f4 ln e4))]) hP hD rfl
          refine lv_aload_n hx hb dX11_lose_175 rfl (lv_at hl 6 rfl) ?_
          refine lv_dup hx hb dX11_lose_176 rfl ?_
          refine va_get (D := (dC, dI)) (ci := 9) (v := .int (I0 26)) (C := RX11) (T := TX11) (N := 55) hx hb hts inX11 hown hK hP 0 rfl rfl 26 (Nat.le_of_ble_eq_true rfl) (hts _ mw_1185) (fun _ h9 => h9) rfl dX11_lose_177 ?_
          refine zz_i (v := nI ln) (hln) ?_
          refine lv_iconst (v := 1) hx hb dX11_lose_180 rfl ?_
          refine lv_iadd hx hb dX11_lose_181 ?_
          refine zz_i (v := nI (ln + 1)) (nI_add ln 1) ?_
          refine va_put (D := (dC, dI)) (ci := 9) (v := .int (nI (ln + 1))) (ty := .int) (C := RX11) (T := TX11) (N := 55) hx hb hts inX11 tyX11 tyX11_ok nmX11 hown hK hP hD hS 0 rfl rfl 26 (by decide) (hts _ mw_1185) (fun _ h9 => h9) rfl (by decide +kernel) rfl rfl (Nat.le_of_ble_eq_true rfl) dX11_lose_182 (fun H locs hP hD hS => ?_)
          obtain ⟨hP, hD⟩ := zre (W2 := [(om k0 (va_up (va_up (va_up (va_up a 22 n1) 23 n2) 24 n3) 25 n4) (upd I0 26 (nI (ln + 1))) J0), _, _, _, _, _, _, _, _]) hP hD rfl
          obtain ⟨hP9, hD9⟩ := zu_sub (wc := [_, _, _, _, _]) hP hD [true, false, false, false, false, true, true, true, true] rfl rfl
          refine W.widen (k := 4 * (dl cl ln - cl)) (n := 512 * (dl cl ln - cl)) (by omega) (by omega) ?_
          rw [hQ9]
          exact W.vret hx hb hr (fun t ht hW => ⟨⟨rfl, n1, n2, n3, n4, (2 * cl), (upd f1 ln e1), (upd f2 ln e2), (upd f3 ln e3), (upd f4 ln e4), (by first | (rw [hdl, if_neg (by omega)]) | (rw [hdl])), (by exact up_at _ _ _), (by exact up_at _ _ _), (by exact up_at _ _ _), (by exact up_at _ _ _), (by first | exact up_lo (fun j hj => ha1 j (by omega)) (Nat.le_refl _) | exact up_lo (fun j hj => rfl) (Nat.le_refl _)), (by first | exact up_lo (fun j hj => ha2 j (by omega)) (Nat.le_refl _) | exact up_lo (fun j hj => rfl) (Nat.le_refl _)), (by first | exact up_lo (fun j hj => ha3 j (by omega)) (Nat.le_refl _) | exact up_lo (fun j hj => rfl) (Nat.le_refl _)), (by first | exact up_lo (fun j hj => ha4 j (by omega)) (Nat.le_refl _) | exact up_lo (fun j hj => rfl) (Nat.le_refl _)), by rw [ht]; exact hP9, hD9⟩, hS.F ht⟩) hS.2.2 dX11_lose_185
        · have c_5 : ((k : Nat) : Int) < ((ln : Nat) : Int) := zc_nle (nI_toInt b9_2) (nI_toInt b9_6) c_5
          refine lv_aload hx hb dX11_lose_56 (lv_at hl 4 rfl) ?_
          refine lv_iload hx hb dX11_lose_58 (lv_at hl 0 rfl) ?_
          refine lv_aload_n hx hb dX11_lose_60 rfl (lv_at hl 6 rfl) ?_
          refine va_get (D := (dC, dI)) (ci := 9) (v := .ref (a 22)) (C := RX11) (T := TX11) (N := 55) hx hb hts inX11 hown hK hP 0 rfl rfl 22 (Nat.le_of_ble_eq_true rfl) (hts _ mw_1181) (fun _ h9 => h9) rfl dX11_lose_61 ?_
          refine lv_iload hx hb dX11_lose_64 (lv_at hl 0 rfl) ?_
          have b9_9 : k < (64 * cl) := by omega
          refine z_iald hx hb hK hP 1 0 rfl rfl (e := k) rfl b9_9 b9_3 dX11_lose_66 ?_
          have b9_10 : k < (64 * (2 * cl)) := by omega
          have b9_11 : zlt ((64 * (2 * cl))) := show (64 * (2 * cl)) < 2147483648 by omega
          refine z_iast hx hb hK hP hD hS 5 0 rfl rfl (e := k) (x := la k) rfl b9_10 b9_11 dX11_lose_67 (fun H locs hP hD hS => ?_)
          obtain ⟨hP, hD⟩ := zre (W2 := [_, _, _, _, _, (oa n1 cI (64 * (2 * cl)) (upd f1 k (la k))), _, _, _]) hP hD rfl
          refine lv_aload hx hb dX11_lose_68 (lv_at hl 3 rfl) ?_
          refine lv_iload hx hb dX11_lose_70 (lv_at hl 0 rfl) ?_
          refine lv_aload_n hx hb dX11_lose_72 rfl (lv_at hl 6 rfl) ?_
          refine va_get (D := (dC, dI)) (ci := 9) (v := .ref (a 23)) (C := RX11) (T := TX11) (N := 55) hx hb hts inX11 hown hK hP 0 rfl rfl 23 (Nat.le_of_ble_eq_true rfl) (hts _ mw_1182) (fun _ h9 => h9) rfl dX11_lose_73 ?_
          refine lv_iload hx hb dX11_lose_76 (lv_at hl 0 rfl) ?_
          refine z_iald hx hb hK hP 2 0 rfl rfl (e := k) rfl b9_9 b9_3 dX11_lose_78 ?_
          refine z_iast hx hb hK hP hD hS 6 0 rfl rfl (e := k) (x := lb k) rfl b9_10 b9_11 dX11_lose_79 (fun H locs hP hD hS => ?_)
          obtain ⟨hP, hD⟩ := zre (W2 := [_, _, _, _, _, _, (oa n2 cI (64 * (2 * cl)) (upd f2 k (lb k))), _, _]) hP hD rfl
          refine lv_aload hx hb dX11_lose_80 (lv_at hl 2 rfl) ?_
          refine lv_iload hx hb dX11_lose_82 (lv_at hl 0 rfl) ?_
          refine lv_aload_n hx hb dX11_lose_84 rfl (lv_at hl 6 rfl) ?_
          refine va_get (D := (dC, dI)) (ci := 9) (v := .ref (a 24)) (C := RX11) (T := TX11) (N := 55) hx hb hts inX11 hown hK hP 0 rfl rfl 24 (Nat.le_of_ble_eq_true rfl) (hts _ mw_1183) (fun _ h9 => h9) rfl dX11_lose_85 ?_
          refine lv_iload hx hb dX11_lose_88 (lv_at hl 0 rfl) ?_
          refine z_iald hx hb hK hP 3 0 rfl rfl (e := k) rfl b9_9 b9_3 dX11_lose_90 ?_
          refine z_iast hx hb hK hP hD hS 7 0 rfl rfl (e := k) (x := lc k) rfl b9_10 b9_11 dX11_lose_91 (fun H locs hP hD hS => ?_)
          obtain ⟨hP, hD⟩ := zre (W2 := [_, _, _, _, _, _, _, (oa n3 cI (64 * (2 * cl)) (upd f3 k (lc k))), _]) hP hD rfl
          refine lv_aload hx hb dX11_lose_92 (lv_at hl 1 rfl) ?_
          refine lv_iload hx hb dX11_lose_94 (lv_at hl 0 rfl) ?_
          refine lv_aload_n hx hb dX11_lose_96 rfl (lv_at hl 6 rfl) ?_
          refine va_get (D := (dC, dI)) (ci := 9) (v := .ref (a 25)) (C := RX11) (T := TX11) (N := 55) hx hb hts inX11 hown hK hP 0 rfl rfl 25 (Nat.le_of_ble_eq_true rfl) (hts _ mw_1184) (fun _ h9 => h9) rfl dX11_lose_97 ?_
          refine lv_iload hx hb dX11_lose_100 (lv_at hl 0 rfl) ?_
          refine z_iald hx hb hK hP 4 0 rfl rfl (e := k) rfl b9_9 b9_3 dX11_lose_102 ?_
          refine z_iast hx hb hK hP hD hS 8 0 rfl rfl (e := k) (x := ld k) rfl b9_10 b9_11 dX11_lose_103 (fun H locs hP hD hS => ?_)
          obtain ⟨hP, hD⟩ := zre (W2 := [_, _, _, _, _, _, _, _, (oa n4 cI (64 * (2 * cl)) (upd f4 k (ld k)))]) hP hD rfl
          refine lv_iinc (v := nI (k + 1)) (lv' := [(10, .int (nI (k + 1))), (9, .ref n4), (8, .ref n3), (7, .ref n2), (6, .ref n1), (5, .int (nI (64 * (2 * cl)))), (0, .ref k0), (1, .int e1), (2, .int e2), (3, .int e3), (4, .int e4)]) hx hb dX11_lose_104 hl (k := 0) rfl (nI_add k 1) (Nat.le_of_ble_eq_true rfl) rfl (fun ls hl => ?_)
          refine lv_goto (tgt := 47) hx hb dX11_lose_107 rfl ?_
          exact ih_47 (k + 1) (upd f1 k (la k)) (upd f2 k (lb k)) (upd f3 k (lc k)) (upd f4 k (ld k)) H locs ls (by first | with_reducible assumption | omega) (by first | with_reducible assumption | omega) (up_sn ha1 rfl) (up_sn ha2 rfl) (up_sn ha3 rfl) (up_sn ha4 rfl) hP hD hS (lv_sub hl [0, 1, 2, 3, 4, 5, 6, 7, 8, 9, 10] rfl)
    exact hl_47 _ 0 (fun _ => 0) (fun _ => 0) (fun _ => 0) (fun _ => 0) H [] ls (Nat.lt_succ_self _) (by first | with_reducible assumption | omega) (by intro j hj; omega) (by intro j hj; omega) (by intro j hj; omega) (by intro j hj; omega) hP hD hS (lv_sub hl [0, 1, 2, 3, 4, 5, 6, 7, 8, 9, 10] rfl)
set_option maxHeartbeats 4000000 in
set_option maxRecDepth 100000 in
theorem k_M_squeeze (l : Launch) (dC : Nat → ClassId) (dI : Nat → Nat → Nat) (cI cZ cF : ClassId) (sz : Nat) (k0 : Nat) (a : Nat → Nat) (I0 : Nat → Int32) (J0 : Nat → Int64) (fr : Nat) (ln : Nat) (cl : Nat) (la : Nat → Int32) (lb : Nat → Int32) (lc : Nat → Int32) (ld : Nat → Int32) (hln : I0 26 = nI ln) (hlc : ln ≤ 64 * cl) (hcl1 : 1 ≤ cl) (hclm : cl ≤ 1000000) (hfr : fr ≤ 64000000) : zM l yX11_squeeze cX11_squeeze 4 none ({ frames := 0, cells := 0, slots := 0, locals := 0 } : Room) [.ref k0, .int (nI fr)] (dC, dI) (zTy cI cZ cF) [(om k0 a I0 J0), (oa (a 22) cI (64 * cl) la), (oa (a 23) cI (64 * cl) lb), (oa (a 24) cI (64 * cl) lc), (oa (a 25) cI (64 * cl) ld)] sz none (fun A t => ∃ (t9 : Nat), ∃ (la1 : Nat → Int32), ∃ (lb1 : Nat → Int32), ∃ (lc1 : Nat → Int32), ∃ (ld1 : Nat → Int32), (t9 ≤ ln) ∧ (∀ j, j < t9 → ∃ i, i < ln ∧ lb1 j = lb i ∧ lc1 j = lc i) ∧ zPD (dC, dI) classes A [(om k0 a (upd I0 26 (nI t9)) J0), (oa (a 22) cI (64 * cl) la1), (oa (a 23) cI (64 * cl) lb1), (oa (a 24) cI (64 * cl) lc1), (oa (a 25) cI (64 * cl) ld1)] t.heap) 0 0 := by
  refine zIn (own := "ScaleShopModel") (loc := [(0, .ref k0), (1, .int (nI fr))]) rfl rfl rfl rfl (fun p e s m below meth c hx hb hr hts hown hlocks hml hnm9 A hA hS hP hD hK hXN Q9 hQ9 ls hl => ?_)
  refine lv_iconst (v := 0) hx hb dX11_squeeze_0 rfl ?_
  refine lv_istore_n (lv' := [(2, .int 0), (0, .ref k0), (1, .int (nI fr))]) hx hb dX11_squeeze_1 rfl hl (Nat.le_of_ble_eq_true rfl) rfl (fun ls hl => ?_)
  refine lv_iconst (v := 0) hx hb dX11_squeeze_2 rfl ?_
  refine lv_istore_n (lv' := [(3, .int 0), (2, .int 0), (0, .ref k0), (1, .int (nI fr))]) hx hb dX11_squeeze_3 rfl hl (Nat.le_of_ble_eq_true rfl) rfl (fun ls hl => ?_)
  have hl_4 : ∀ (n9 : Nat) (k : Nat) (t9 : Nat) (la1 : Nat → Int32) (lb1 : Nat → Int32) (lc1 : Nat → Int32) (ld1 : Nat → Int32) (H : Heap) (locs : List Loc) (ls : Array Slot), ln - k < n9 → (k ≤ ln) → (t9 ≤ k) → (∀ j, j < t9 → ∃ i, i < ln ∧ lb1 j = lb i ∧ lc1 j = lc i) → (∀ j, k ≤ j → lb1 j = lb j ∧ lc1 j = lc j) → va_P (dC, dI) classes [(om k0 a I0 J0), (oa (a 22) cI (64 * cl) la1), (oa (a 23) cI (64 * cl) lb1), (oa (a 24) cI (64 * cl) lc1), (oa (a 25) cI (64 * cl) ld1)] H → va_D A [(om k0 a I0 J0), (oa (a 22) cI (64 * cl) la1), (oa (a 23) cI (64 * cl) lb1), (oa (a 24) cI (64 * cl) lc1), (oa (a 25) cI (64 * cl) ld1)] → va_S A s.heap H locs → lv_has ls 4 [(3, .int (nI k)), (2, .int (nI t9)), (0, .ref k0), (1, .int (nI fr))] → W p l e ({ frames := 0, cells := 0, slots := 0, locals := 0 } : Room) s m ([.ref k0, .int (nI fr)] : List Value).toArray below meth c H locs 0 0 Q9 (F0 m 4 ls []) := by
    intro n9
    induction n9 with
    | zero => intro k t9 la1 lb1 lc1 ld1 H locs ls hm; exact absurd hm (Nat.not_lt_zero _)
    | succ n9 ih_4 =>
      intro k t9 la1 lb1 lc1 ld1 H locs ls hm hk ht hs hrr hP hD hS hl
      refine lv_iload_n hx hb dX11_squeeze_4 rfl (lv_at hl 0 rfl) ?_
      refine lv_aload_n hx hb dX11_squeeze_5 rfl (lv_at hl 2 rfl) ?_
      refine va_get (D := (dC, dI)) (ci := 9) (v := .int (I0 26)) (C := RX11) (T := TX11) (N := 55) hx hb hts inX11 hown hK hP 0 rfl rfl 26 (Nat.le_of_ble_eq_true rfl) (hts _ mw_1185) (fun _ h9 => h9) rfl dX11_squeeze_6 ?_
      refine zz_i (v := nI ln) (hln) ?_
      have b9_2 : zlt (k) := show k < 2147483648 by omega
      have b9_3 : zlt (ln) := show ln < 2147483648 by omega
      refine lv_icmp_ge (tgt := 90) hx hb dX11_squeeze_9 rfl (fun c_1 => ?_) (fun c_1 => ?_)
      · have c_1 : ((ln : Nat) : Int) ≤ ((k : Nat) : Int) := zc_le (nI_toInt b9_3) (nI_toInt b9_2) c_1
        refine lv_aload_n hx hb dX11_squeeze_90 rfl (lv_at hl 2 rfl) ?_
        refine lv_iload_n hx hb dX11_squeeze_91 rfl (lv_at hl 1 rfl) ?_
        refine va_put (D := (dC, dI)) (ci := 9) (v := .int (nI t9)) (ty := .int) (C := RX11) (T := TX11) (N := 55) hx hb hts inX11 tyX11 tyX11_ok nmX11 hown hK hP hD hS 0 rfl rfl 26 (by decide) (hts _ mw_1185) (fun _ h9 => h9) rfl (by decide +kernel) rfl rfl (Nat.le_of_ble_eq_true rfl) dX11_squeeze_92 (fun H locs hP hD hS => ?_)
        obtain ⟨hP, hD⟩ := zre (W2 := [(om k0 a (upd I0 26 (nI t9)) J0), _, _, _, _]) hP hD rfl
        obtain ⟨hP9, hD9⟩ := zu_sub (wc := [_, _, _, _, _]) hP hD [true, true, true, true, true] rfl rfl
        rw [hQ9]
        exact W.vret hx hb hr (fun t ht hW => ⟨⟨rfl, t9, la1, lb1, lc1, ld1, (by omega), (hs), by rw [ht]; exact hP9, hD9⟩, hS.F ht⟩) hS.2.2 dX11_squeeze_95
      · have c_1 : ((k : Nat) : Int) < ((ln : Nat) : Int) := zc_nle (nI_toInt b9_3) (nI_toInt b9_2) c_1
        refine lv_iload_n hx hb dX11_squeeze_12 rfl (lv_at hl 0 rfl) ?_
        refine lv_iload_n hx hb dX11_squeeze_13 rfl (lv_at hl 3 rfl) ?_
        have b9_5 : zlt (fr) := show fr < 2147483648 by omega
        refine lv_icmp_ge (tgt := 33) hx hb dX11_squeeze_14 rfl (fun c_4 => ?_) (fun c_4 => ?_)
        · have c_4 : ((fr : Nat) : Int) ≤ ((k : Nat) : Int) := zc_le (nI_toInt b9_5) (nI_toInt b9_2) c_4
          refine lv_aload_n hx hb dX11_squeeze_33 rfl (lv_at hl 2 rfl) ?_
          refine va_get (D := (dC, dI)) (ci := 9) (v := .ref (a 22)) (C := RX11) (T := TX11) (N := 55) hx hb hts inX11 hown hK hP 0 rfl rfl 22 (Nat.le_of_ble_eq_true rfl) (hts _ mw_1181) (fun _ h9 => h9) rfl dX11_squeeze_34 ?_
          refine lv_iload_n hx hb dX11_squeeze_37 rfl (lv_at hl 1 rfl) ?_
          refine lv_aload_n hx hb dX11_squeeze_38 rfl (lv_at hl 2 rfl) ?_
          refine va_get (D := (dC, dI)) (ci := 9) (v := .ref (a 22)) (C := RX11) (T := TX11) (N := 55) hx hb hts inX11 hown hK hP 0 rfl rfl 22 (Nat.le_of_ble_eq_true rfl) (hts _ mw_1181) (fun _ h9 => h9) rfl dX11_squeeze_39 ?_
          refine lv_iload_n hx hb dX11_squeeze_42 rfl (lv_at hl 0 rfl) ?_
          have b9_6 : k < (64 * cl) := by omega
          have b9_7 : zlt ((64 * cl)) := show (64 * cl) < 2147483648 by omega
          refine z_iald hx hb hK hP 1 0 rfl rfl (e := k) rfl b9_6 b9_7 dX11_squeeze_43 ?_
          have b9_8 : t9 < (64 * cl) := by omega
          refine z_iast hx hb hK hP hD hS 1 0 rfl rfl (e := t9) (x := la1 k) rfl b9_8 b9_7 dX11_squeeze_44 (fun H locs hP hD hS => ?_)
          obtain ⟨hP, hD⟩ := zre (W2 := [_, (oa (a 22) cI (64 * cl) (upd la1 t9 (la1 k))), _, _, _]) hP hD rfl
          refine lv_aload_n hx hb dX11_squeeze_45 rfl (lv_at hl 2 rfl) ?_
          refine va_get (D := (dC, dI)) (ci := 9) (v := .ref (a 23)) (C := RX11) (T := TX11) (N := 55) hx hb hts inX11 hown hK hP 0 rfl rfl 23 (Nat.le_of_ble_eq_true rfl) (hts _ mw_1182) (fun _ h9 => h9) rfl dX11_squeeze_46 ?_
          refine lv_iload_n hx hb dX11_squeeze_49 rfl (lv_at hl 1 rfl) ?_
          refine lv_aload_n hx hb dX11_squeeze_50 rfl (lv_at hl 2 rfl) ?_
          refine va_get (D := (dC, dI)) (ci := 9) (v := .ref (a 23)) (C := RX11) (T := TX11) (N := 55) hx hb hts inX11 hown hK hP 0 rfl rfl 23 (Nat.le_of_ble_eq_true rfl) (hts _ mw_1182) (fun _ h9 => h9) rfl dX11_squeeze_51 ?_
          refine lv_iload_n hx hb dX11_squeeze_54 rfl (lv_at hl 0 rfl) ?_
          refine z_iald hx hb hK hP 2 0 rfl rfl (e := k) rfl b9_6 b9_7 dX11_squeeze_55 ?_
          refine z_iast hx hb hK hP hD hS 2 0 rfl rfl (e := t9) (x := lb1 k) rfl b9_8 b9_7 dX11_squeeze_56 (fun H locs hP hD hS => ?_)
          obtain ⟨hP, hD⟩ := zre (W2 := [_, _, (oa (a 23) cI (64 * cl) (upd lb1 t9 (lb1 k))), _, _]) hP hD rfl
          refine lv_aload_n hx hb dX11_squeeze_57 rfl (lv_at hl 2 rfl) ?_
          refine va_get (D := (dC, dI)) (ci := 9) (v := .ref (a 24)) (C := RX11) (T := TX11) (N := 55) hx hb hts inX11 hown hK hP 0 rfl rfl 24 (Nat.le_of_ble_eq_true rfl) (hts _ mw_1183) (fun _ h9 => h9) rfl dX11_squeeze_58 ?_
          refine lv_iload_n hx hb dX11_squeeze_61 rfl (lv_at hl 1 rfl) ?_
          refine lv_aload_n hx hb dX11_squeeze_62 rfl (lv_at hl 2 rfl) ?_
          refine va_get (D := (dC, dI)) (ci := 9) (v := .ref (a 24)) (C := RX11) (T := TX11) (N := 55) hx hb hts inX11 hown hK hP 0 rfl rfl 24 (Nat.le_of_ble_eq_true rfl) (hts _ mw_1183) (fun _ h9 => h9) rfl dX11_squeeze_63 ?_
          refine lv_iload_n hx hb dX11_squeeze_66 rfl (lv_at hl 0 rfl) ?_
          refine z_iald hx hb hK hP 3 0 rfl rfl (e := k) rfl b9_6 b9_7 dX11_squeeze_67 ?_
          refine z_iast hx hb hK hP hD hS 3 0 rfl rfl (e := t9) (x := lc1 k) rfl b9_8 b9_7 dX11_squeeze_68 (fun H locs hP hD hS => ?_)
          obtain ⟨hP, hD⟩ := zre (W2 := [_, _, _, (oa (a 24) cI (64 * cl) (upd lc1 t9 (lc1 k))), _]) hP hD rfl
          refine lv_aload_n hx hb dX11_squeeze_69 rfl (lv_at hl 2 rfl) ?_
          refine va_get (D := (dC, dI)) (ci := 9) (v := .ref (a 25)) (C := RX11) (T := TX11) (N := 55) hx hb hts inX11 hown hK hP 0 rfl rfl 25 (Nat.le_of_ble_eq_true rfl) (hts _ mw_1184) (fun _ h9 => h9) rfl dX11_squeeze_70 ?_
          refine lv_iload_n hx hb dX11_squeeze_73 rfl (lv_at hl 1 rfl) ?_
          refine lv_aload_n hx hb dX11_squeeze_74 rfl (lv_at hl 2 rfl) ?_
          refine va_get (D := (dC, dI)) (ci := 9) (v := .ref (a 25)) (C := RX11) (T := TX11) (N := 55) hx hb hts inX11 hown hK hP 0 rfl rfl 25 (Nat.le_of_ble_eq_true rfl) (hts _ mw_1184) (fun _ h9 => h9) rfl dX11_squeeze_75 ?_
          refine lv_iload_n hx hb dX11_squeeze_78 rfl (lv_at hl 0 rfl) ?_
          refine z_iald hx hb hK hP 4 0 rfl rfl (e := k) rfl b9_6 b9_7 dX11_squeeze_79 ?_
          refine z_iast hx hb hK hP hD hS 4 0 rfl rfl (e := t9) (x := ld1 k) rfl b9_8 b9_7 dX11_squeeze_80 (fun H locs hP hD hS => ?_)
          obtain ⟨hP, hD⟩ := zre (W2 := [_, _, _, _, (oa (a 25) cI (64 * cl) (upd ld1 t9 (ld1 k)))]) hP hD rfl
          refine lv_iinc (v := nI (t9 + 1)) (lv' := [(2, .int (nI (t9 + 1))), (3, .int (nI k)), (0, .ref k0), (1, .int (nI fr))]) hx hb dX11_squeeze_81 hl (k := 1) rfl (nI_add t9 1) (Nat.le_of_ble_eq_true rfl) rfl (fun ls hl => ?_)
          refine lv_iinc (v := nI (k + 1)) (lv' := [(3, .int (nI (k + 1))), (2, .int (nI (t9 + 1))), (0, .ref k0), (1, .int (nI fr))]) hx hb dX11_squeeze_84 hl (k := 1) rfl (nI_add k 1) (Nat.le_of_ble_eq_true rfl) rfl (fun ls hl => ?_)
          refine lv_goto (tgt := 4) hx hb dX11_squeeze_87 rfl ?_
          exact ih_4 (k + 1) (t9 + 1) (upd la1 t9 (la1 k)) (upd lb1 t9 (lb1 k)) (upd lc1 t9 (lc1 k)) (upd ld1 t9 (ld1 k)) H locs ls (by first | with_reducible assumption | omega) (by first | with_reducible assumption | omega) (by first | with_reducible assumption | omega) (by first | exact hs | (intro j hj; rcases Nat.lt_or_ge j t9 with h | h; simp only [upd, if_neg (show j ≠ t9 by omega)]; exact hs j h; rw [show j = t9 by omega]; simp only [upd, if_true]; exact ⟨k, by omega, (hrr k (Nat.le_refl _)).1, (hrr k (Nat.le_refl _)).2⟩)) (by intro j hj; first | exact hrr j (by first | with_reducible assumption | omega) | (simp only [upd, if_neg (show j ≠ t9 by omega)]; exact hrr j (by first | with_reducible assumption | omega))) hP hD hS (lv_sub hl [0, 1, 2, 3] rfl)
        · have c_4 : ((k : Nat) : Int) < ((fr : Nat) : Int) := zc_nle (nI_toInt b9_5) (nI_toInt b9_2) c_4
          refine lv_aload_n hx hb dX11_squeeze_17 rfl (lv_at hl 2 rfl) ?_
          refine va_get (D := (dC, dI)) (ci := 9) (v := .ref (a 25)) (C := RX11) (T := TX11) (N := 55) hx hb hts inX11 hown hK hP 0 rfl rfl 25 (Nat.le_of_ble_eq_true rfl) (hts _ mw_1184) (fun _ h9 => h9) rfl dX11_squeeze_18 ?_
          refine lv_iload_n hx hb dX11_squeeze_21 rfl (lv_at hl 0 rfl) ?_
          have b9_9 : k < (64 * cl) := by omega
          have b9_10 : zlt ((64 * cl)) := show (64 * cl) < 2147483648 by omega
          refine z_iald hx hb hK hP 4 0 rfl rfl (e := k) rfl b9_9 b9_10 dX11_squeeze_22 ?_
          refine lv_aload_n hx hb dX11_squeeze_23 rfl (lv_at hl 2 rfl) ?_
          refine va_get (D := (dC, dI)) (ci := 9) (v := .int (I0 19)) (C := RX11) (T := TX11) (N := 55) hx hb hts inX11 hown hK hP 0 rfl rfl 19 (Nat.le_of_ble_eq_true rfl) (hts _ mw_1178) (fun _ h9 => h9) rfl dX11_squeeze_24 ?_
          refine lv_icmp_le (tgt := 33) hx hb dX11_squeeze_27 rfl (fun c_11 => ?_) (fun c_11 => ?_)
          · have c_11 : (ld1 k).toInt ≤ (I0 19).toInt := zc_le rfl rfl c_11
            refine lv_aload_n hx hb dX11_squeeze_33 rfl (lv_at hl 2 rfl) ?_
            refine va_get (D := (dC, dI)) (ci := 9) (v := .ref (a 22)) (C := RX11) (T := TX11) (N := 55) hx hb hts inX11 hown hK hP 0 rfl rfl 22 (Nat.le_of_ble_eq_true rfl) (hts _ mw_1181) (fun _ h9 => h9) rfl dX11_squeeze_34 ?_
            refine lv_iload_n hx hb dX11_squeeze_37 rfl (lv_at hl 1 rfl) ?_
            refine lv_aload_n hx hb dX11_squeeze_38 rfl (lv_at hl 2 rfl) ?_
            refine va_get (D := (dC, dI)) (ci := 9) (v := .ref (a 22)) (C := RX11) (T := TX11) (N := 55) hx hb hts inX11 hown hK hP 0 rfl rfl 22 (Nat.le_of_ble_eq_true rfl) (hts _ mw_1181) (fun _ h9 => h9) rfl dX11_squeeze_39 ?_
            refine lv_iload_n hx hb dX11_squeeze_42 rfl (lv_at hl 0 rfl) ?_
            refine z_iald hx hb hK hP 1 0 rfl rfl (e := k) rfl b9_9 b9_10 dX11_squeeze_43 ?_
            have b9_12 : t9 < (64 * cl) := by omega
            refine z_iast hx hb hK hP hD hS 1 0 rfl rfl (e := t9) (x := la1 k) rfl b9_12 b9_10 dX11_squeeze_44 (fun H locs hP hD hS => ?_)
            obtain ⟨hP, hD⟩ := zre (W2 := [_, (oa (a 22) cI (64 * cl) (upd la1 t9 (la1 k))), _, _, _]) hP hD rfl
            refine lv_aload_n hx hb dX11_squeeze_45 rfl (lv_at hl 2 rfl) ?_
            refine va_get (D := (dC, dI)) (ci := 9) (v := .ref (a 23)) (C := RX11) (T := TX11) (N := 55) hx hb hts inX11 hown hK hP 0 rfl rfl 23 (Nat.le_of_ble_eq_true rfl) (hts _ mw_1182) (fun _ h9 => h9) rfl dX11_squeeze_46 ?_
            refine lv_iload_n hx hb dX11_squeeze_49 rfl (lv_at hl 1 rfl) ?_
            refine lv_aload_n hx hb dX11_squeeze_50 rfl (lv_at hl 2 rfl) ?_
            refine va_get (D := (dC, dI)) (ci := 9) (v := .ref (a 23)) (C := RX11) (T := TX11) (N := 55) hx hb hts inX11 hown hK hP 0 rfl rfl 23 (Nat.le_of_ble_eq_true rfl) (hts _ mw_1182) (fun _ h9 => h9) rfl dX11_squeeze_51 ?_
            refine lv_iload_n hx hb dX11_squeeze_54 rfl (lv_at hl 0 rfl) ?_
            refine z_iald hx hb hK hP 2 0 rfl rfl (e := k) rfl b9_9 b9_10 dX11_squeeze_55 ?_
            refine z_iast hx hb hK hP hD hS 2 0 rfl rfl (e := t9) (x := lb1 k) rfl b9_12 b9_10 dX11_squeeze_56 (fun H locs hP hD hS => ?_)
            obtain ⟨hP, hD⟩ := zre (W2 := [_, _, (oa (a 23) cI (64 * cl) (upd lb1 t9 (lb1 k))), _, _]) hP hD rfl
            refine lv_aload_n hx hb dX11_squeeze_57 rfl (lv_at hl 2 rfl) ?_
            refine va_get (D := (dC, dI)) (ci := 9) (v := .ref (a 24)) (C := RX11) (T := TX11) (N := 55) hx hb hts inX11 hown hK hP 0 rfl rfl 24 (Nat.le_of_ble_eq_true rfl) (hts _ mw_1183) (fun _ h9 => h9) rfl dX11_squeeze_58 ?_
            refine lv_iload_n hx hb dX11_squeeze_61 rfl (lv_at hl 1 rfl) ?_
            refine lv_aload_n hx hb dX11_squeeze_62 rfl (lv_at hl 2 rfl) ?_
            refine va_get (D := (dC, dI)) (ci := 9) (v := .ref (a 24)) (C := RX11) (T := TX11) (N := 55) hx hb hts inX11 hown hK hP 0 rfl rfl 24 (Nat.le_of_ble_eq_true rfl) (hts _ mw_1183) (fun _ h9 => h9) rfl dX11_squeeze_63 ?_
            refine lv_iload_n hx hb dX11_squeeze_66 rfl (lv_at hl 0 rfl) ?_
            refine z_iald hx hb hK hP 3 0 rfl rfl (e := k) rfl b9_9 b9_10 dX11_squeeze_67 ?_
            refine z_iast hx hb hK hP hD hS 3 0 rfl rfl (e := t9) (x := lc1 k) rfl b9_12 b9_10 dX11_squeeze_68 (fun H locs hP hD hS => ?_)
            obtain ⟨hP, hD⟩ := zre (W2 := [_, _, _, (oa (a 24) cI (64 * cl) (upd lc1 t9 (lc1 k))), _]) hP hD rfl
            refine lv_aload_n hx hb dX11_squeeze_69 rfl (lv_at hl 2 rfl) ?_
            refine va_get (D := (dC, dI)) (ci := 9) (v := .ref (a 25)) (C := RX11) (T := TX11) (N := 55) hx hb hts inX11 hown hK hP 0 rfl rfl 25 (Nat.le_of_ble_eq_true rfl) (hts _ mw_1184) (fun _ h9 => h9) rfl dX11_squeeze_70 ?_
            refine lv_iload_n hx hb dX11_squeeze_73 rfl (lv_at hl 1 rfl) ?_
            refine lv_aload_n hx hb dX11_squeeze_74 rfl (lv_at hl 2 rfl) ?_
            refine va_get (D := (dC, dI)) (ci := 9) (v := .ref (a 25)) (C := RX11) (T := TX11) (N := 55) hx hb hts inX11 hown hK hP 0 rfl rfl 25 (Nat.le_of_ble_eq_true rfl) (hts _ mw_1184) (fun _ h9 => h9) rfl dX11_squeeze_75 ?_
            refine lv_iload_n hx hb dX11_squeeze_78 rfl (lv_at hl 0 rfl) ?_
            refine z_iald hx hb hK hP 4 0 rfl rfl (e := k) rfl b9_9 b9_10 dX11_squeeze_79 ?_
            refine z_iast hx hb hK hP hD hS 4 0 rfl rfl (e := t9) (x := ld1 k) rfl b9_12 b9_10 dX11_squeeze_80 (fun H locs hP hD hS => ?_)
            obtain ⟨hP, hD⟩ := zre (W2 := [_, _, _, _, (oa (a 25) cI (64 * cl) (upd ld1 t9 (ld1 k)))]) hP hD rfl
            refine lv_iinc (v := nI (t9 + 1)) (lv' := [(2, .int (nI (t9 + 1))), (3, .int (nI k)), (0, .ref k0), (1, .int (nI fr))]) hx hb dX11_squeeze_81 hl (k := 1) rfl (nI_add t9 1) (Nat.le_of_ble_eq_true rfl) rfl (fun ls hl => ?_)
            refine lv_iinc (v := nI (k + 1)) (lv' := [(3, .int (nI (k + 1))), (2, .int (nI (t9 + 1))), (0, .ref k0), (1, .int (nI fr))]) hx hb dX11_squeeze_84 hl (k := 1) rfl (nI_add k 1) (Nat.le_of_ble_eq_true rfl) rfl (fun ls hl => ?_)
            refine lv_goto (tgt := 4) hx hb dX11_squeeze_87 rfl ?_
            exact ih_4 (k + 1) (t9 + 1) (upd la1 t9 (la1 k)) (upd lb1 t9 (lb1 k)) (upd lc1 t9 (lc1 k)) (upd ld1 t9 (ld1 k)) H locs ls (by first | with_reducible assumption | omega) (by first | with_reducible assumption | omega) (by first | with_reducible assumption | omega) (by first | exact hs | (intro j hj; rcases Nat.lt_or_ge j t9 with h | h; simp only [upd, if_neg (show j ≠ t9 by omega)]; exact hs j h; rw [show j = t9 by omega]; simp only [upd, if_true]; exact ⟨k, by omega, (hrr k (Nat.le_refl _)).1, (hrr k (Nat.le_refl _)).2⟩)) (by intro j hj; first | exact hrr j (by first | with_reducible assumption | omega) | (simp only [upd, if_neg (show j ≠ t9 by omega)]; exact hrr j (by first | with_reducible assumption | omega))) hP hD hS (lv_sub hl [0, 1, 2, 3] rfl)
          · have c_11 : (I0 19).toInt < (ld1 k).toInt := zc_nle rfl rfl c_11
            refine lv_goto (tgt := 84) hx hb dX11_squeeze_30 rfl ?_
            refine lv_iinc (v := nI (k + 1)) (lv' := [(3, .int (nI (k + 1))), (2, .int (nI t9)), (0, .ref k0), (1, .int (nI fr))]) hx hb dX11_squeeze_84 hl (k := 0) rfl (nI_add k 1) (Nat.le_of_ble_eq_true rfl) rfl (fun ls hl => ?_)
            refine lv_goto (tgt := 4) hx hb dX11_squeeze_87 rfl ?_
            exact ih_4 (k + 1) t9 la1 lb1 lc1 ld1 H locs ls (by first | with_reducible assumption | omega) (by first | with_reducible assumption | omega) (by first | with_reducible assumption | omega) (by first | exact hs | (intro j hj; rcases Nat.lt_or_ge j t9 with h | h; simp only [upd, if_neg (show j ≠ t9 by omega)]; exact hs j h; rw [show j = t9 by omega]; simp only [upd, if_true]; exact ⟨k, by omega, (hrr k (Nat.le_refl _)).1, (hrr k (Nat.le_refl _)).2⟩)) (by intro j hj; first | exact hrr j (by first | with_reducible assumption | omega) | (simp only [upd, if_neg (show j ≠ t9 by omega)]; exact hrr j (by first | with_reducible assumption | omega))) hP hD hS (lv_sub hl [0, 1, 2, 3] rfl)
  exact hl_4 _ 0 0 la lb lc ld s.heap [] ls (Nat.lt_succ_self _) (by first | with_reducible assumption | omega) (by first | with_reducible assumption | omega) (by intro j hj; omega) (by intro j hj; exact ⟨rfl, rfl⟩) hP hD hS (lv_sub hl [0, 1, 2, 3] rfl)
end
