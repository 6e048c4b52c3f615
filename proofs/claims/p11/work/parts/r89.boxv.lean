section
set_option maxHeartbeats 4000000 in
set_option maxRecDepth 100000 in
theorem k_M_box_v (l : Launch) (dC : Nat → ClassId) (dI : Nat → Nat → Nat) (cI cZ cF : ClassId) (sz : Nat) (k0 : Nat) (a : Nat → Nat) (I0 : Nat → Int32) (J0 : Nat → Int64) (f : Nat) (n : Nat) (mn : Nat → Int32) (cx : Nat → Int32) (cy : Nat → Int32) (hf_f : f ≤ 200) (hm_f : mn f = nI n) (hn_f : 1 ≤ n ∧ n ≤ 40) (hp_f : pls n (cF40 cx f) (cF40 cy f)) : zM l yX11_box cX11_box 7 none ({ frames := 1, cells := 0, slots := 0, locals := 14 } : Room) [.ref k0, .int (nI f), .int 1] (dC, dI) (zTy cI cZ cF) [(om k0 a I0 J0), (oa (a 11) cI 201 mn), (oa (a 12) cI 8040 cx), (oa (a 13) cI 8040 cy)] sz none (fun A t => ∃ (x1 : Int32), ∃ (x2 : Int32), ∃ (x3 : Int32), ∃ (x4 : Int32), (x1 = iI (mnI (cF40 cx f 0).toInt (cF40 cx f) n)) ∧ (x2 = iI (mnI (cF40 cy f 0).toInt (cF40 cy f) n)) ∧ (x3 = iI (mxI (cF40 cx f 0).toInt (cF40 cx f) n)) ∧ (x4 = iI (mxI (cF40 cy f 0).toInt (cF40 cy f) n)) ∧ zPD (dC, dI) classes A [(om k0 a (upd (upd (upd (upd I0 44 x1) 45 x2) 46 x3) 47 x4) J0), (oa (a 11) cI 201 mn), (oa (a 12) cI 8040 cx), (oa (a 13) cI 8040 cy)] t.heap) 0 0 := by
  refine zIn (own := "ScaleShopModel") (loc := [(0, .ref k0), (1, .int (nI f)), (2, .int 1)]) rfl rfl rfl rfl (fun p e s m below meth c hx hb hr hts hown hlocks hml hnm9 A hA hS hP hD hK hXN Q9 hQ9 ls hl => ?_)
  refine lv_iconst (v := 0) hx hb dX11_box_0 rfl ?_
  refine lv_istore_n (lv' := [(3, .int 0), (0, .ref k0), (1, .int (nI f)), (2, .int 1)]) hx hb dX11_box_1 rfl hl (Nat.le_of_ble_eq_true rfl) rfl (fun ls hl => ?_)
  have hl_2 : ∀ (n9 : Nat) (k : Nat) (x1 : Int32) (x2 : Int32) (x3 : Int32) (x4 : Int32) (H : Heap) (locs : List Loc) (ls : Array Slot), n - k < n9 → (k ≤ n) → (0 < k → (x1.toInt = mnI (cF40 cx f 0).toInt (cF40 cx f) k ∧ x2.toInt = mnI (cF40 cy f 0).toInt (cF40 cy f) k ∧ x3.toInt = mxI (cF40 cx f 0).toInt (cF40 cx f) k ∧ x4.toInt = mxI (cF40 cy f 0).toInt (cF40 cy f) k)) → va_P (dC, dI) classes [(om k0 a (upd (upd (upd (upd I0 44 x1) 45 x2) 46 x3) 47 x4) J0), (oa (a 11) cI 201 mn), (oa (a 12) cI 8040 cx), (oa (a 13) cI 8040 cy)] H → va_D A [(om k0 a (upd (upd (upd (upd I0 44 x1) 45 x2) 46 x3) 47 x4) J0), (oa (a 11) cI 201 mn), (oa (a 12) cI 8040 cx), (oa (a 13) cI 8040 cy)] → va_S A s.heap H locs → lv_has ls 7 [(3, .int (nI k)), (0, .ref k0), (1, .int (nI f)), (2, .int 1)] → W p l e ({ frames := 1, cells := 0, slots := 0, locals := 14 } : Room) s m ([.ref k0, .int (nI f), .int 1] : List Value).toArray below meth c H locs 0 0 Q9 (F0 m 2 ls []) := by
    intro n9
    induction n9 with
    | zero => intro k x1 x2 x3 x4 H locs ls hm; exact absurd hm (Nat.not_lt_zero _)
    | succ n9 ih_2 =>
      intro k x1 x2 x3 x4 H locs ls hm hk hz hP hD hS hl
      refine lv_iload_n hx hb dX11_box_2 rfl (lv_at hl 0 rfl) ?_
      refine lv_aload_n hx hb dX11_box_3 rfl (lv_at hl 1 rfl) ?_
      refine va_get (D := (dC, dI)) (ci := 9) (v := .ref (a 11)) (C := RX11) (T := TX11) (N := 55) hx hb hts inX11 hown hK hP 0 rfl rfl 11 (Nat.le_of_ble_eq_true rfl) (hts _ mw_1170) (fun _ h9 => h9) rfl dX11_box_4 ?_
      refine lv_iload_n hx hb dX11_box_7 rfl (lv_at hl 2 rfl) ?_
      have b9_1 : f < 201 := by omega
      refine z_iald hx hb hK hP 1 0 rfl rfl (e := f) rfl b9_1 (Nat.le_of_ble_eq_true rfl) dX11_box_8 ?_
      refine zz_i (v := nI n) (hm_f) ?_
      have b9_3 : zlt (k) := show k < 2147483648 by omega
      have b9_4 : zlt (n) := show n < 2147483648 by omega
      refine lv_icmp_ge (tgt := 151) hx hb dX11_box_9 rfl (fun c_2 => ?_) (fun c_2 => ?_)
      · have c_2 : ((n : Nat) : Int) ≤ ((k : Nat) : Int) := zc_le (nI_toInt b9_4) (nI_toInt b9_3) c_2
        have hkn : k = n := (by omega)
        rw [hkn] at hz
        have hz9 := hz (by omega)
        obtain ⟨hP9, hD9⟩ := zu_sub (wc := [_, _, _, _]) hP hD [true, true, true, true] rfl rfl
        rw [hQ9]
        exact W.vret hx hb hr (fun t ht hW => ⟨⟨rfl, x1, x2, x3, x4, (iI_of hz9.1), (iI_of hz9.2.1), (iI_of hz9.2.2.1), (iI_of hz9.2.2.2), by rw [ht]; exact hP9, hD9⟩, hS.F ht⟩) hS.2.2 dX11_box_151
      · have c_2 : ((k : Nat) : Int) < ((n : Nat) : Int) := zc_nle (nI_toInt b9_4) (nI_toInt b9_3) c_2
        have hk9 : k < n := (by omega)
        refine lv_aload_n hx hb dX11_box_12 rfl (lv_at hl 1 rfl) ?_
        refine va_get (D := (dC, dI)) (ci := 9) (v := .ref (a 12)) (C := RX11) (T := TX11) (N := 55) hx hb hts inX11 hown hK hP 0 rfl rfl 12 (Nat.le_of_ble_eq_true rfl) (hts _ mw_1171) (fun _ h9 => h9) rfl dX11_box_13 ?_
        refine lv_bipush (v := 40) hx hb dX11_box_16 rfl ?_
        refine lv_iload_n hx hb dX11_box_18 rfl (lv_at hl 2 rfl) ?_
        refine lv_imul hx hb dX11_box_19 ?_
        refine zz_i (v := nI (40 * f)) (pk_mul 40 f) ?_
        refine lv_iload_n hx hb dX11_box_20 rfl (lv_at hl 0 rfl) ?_
        refine lv_iadd hx hb dX11_box_21 ?_
        refine zz_i (v := nI (40 * f + k)) (nI_add (40 * f) k) ?_
        have b9_5 : 40 * f + k < 8040 := by omega
        refine z_iald hx hb hK hP 2 0 rfl rfl (e := 40 * f + k) rfl b9_5 (Nat.le_of_ble_eq_true rfl) dX11_box_22 ?_
        refine zz_i (v := cF40 cx f k) (rfl) ?_
        refine lv_istore (lv' := [(4, .int (cF40 cx f k)), (3, .int (nI k)), (0, .ref k0), (1, .int (nI f)), (2, .int 1)]) hx hb dX11_box_23 hl (Nat.le_of_ble_eq_true rfl) rfl (fun ls hl => ?_)
        refine lv_aload_n hx hb dX11_box_25 rfl (lv_at hl 2 rfl) ?_
        refine va_get (D := (dC, dI)) (ci := 9) (v := .ref (a 13)) (C := RX11) (T := TX11) (N := 55) hx hb hts inX11 hown hK hP 0 rfl rfl 13 (Nat.le_of_ble_eq_true rfl) (hts _ mw_1172) (fun _ h9 => h9) rfl dX11_box_26 ?_
        refine lv_bipush (v := 40) hx hb dX11_box_29 rfl ?_
        refine lv_iload_n hx hb dX11_box_31 rfl (lv_at hl 3 rfl) ?_
        refine lv_imul hx hb dX11_box_32 ?_
        refine zz_i (v := nI (40 * f)) (pk_mul 40 f) ?_
        refine lv_iload_n hx hb dX11_box_33 rfl (lv_at hl 1 rfl) ?_
        refine lv_iadd hx hb dX11_box_34 ?_
        refine zz_i (v := nI (40 * f + k)) (nI_add (40 * f) k) ?_
        refine z_iald hx hb hK hP 3 0 rfl rfl (e := 40 * f + k) rfl b9_5 (Nat.le_of_ble_eq_true rfl) dX11_box_35 ?_
        refine zz_i (v := cF40 cy f k) (rfl) ?_
        refine lv_istore (lv' := [(5, .int (cF40 cy f k)), (4, .int (cF40 cx f k)), (3, .int (nI k)), (0, .ref k0), (1, .int (nI f)), (2, .int 1)]) hx hb dX11_box_36 hl (Nat.le_of_ble_eq_true rfl) rfl (fun ls hl => ?_)
        refine lv_iload_n hx hb dX11_box_38 rfl (lv_at hl 5 rfl) ?_
        refine lv_if_eq (tgt := 50) hx hb dX11_box_39 rfl (fun c_6 => ?_) (fun c_6 => ?_)
        · exact absurd c_6 (by decide)
        · refine lv_iload_n hx hb dX11_box_42 rfl (lv_at hl 2 rfl) ?_
          refine lv_if_ne (tgt := 50) hx hb dX11_box_43 rfl (fun c_7 => ?_) (fun c_7 => ?_)
          · have c_7 : ¬ ((k : Nat) : Int) = 0 := zc_ne (nI_toInt b9_3) rfl c_7
            refine lv_iconst (v := 0) hx hb dX11_box_50 rfl ?_
            refine lv_istore (lv' := [(6, .int 0), (5, .int (cF40 cy f k)), (4, .int (cF40 cx f k)), (3, .int (nI k)), (0, .ref k0), (1, .int (nI f)), (2, .int 1)]) hx hb dX11_box_51 hl (Nat.le_of_ble_eq_true rfl) rfl (fun ls hl => ?_)
            refine lv_aload_n hx hb dX11_box_53 rfl (lv_at hl 4 rfl) ?_
            refine lv_iload hx hb dX11_box_54 (lv_at hl 0 rfl) ?_
            refine lv_if_eq (tgt := 64) hx hb dX11_box_56 rfl (fun c_8 => ?_) (fun c_8 => ?_)
            · refine lv_aload_n hx hb dX11_box_64 rfl (lv_at hl 4 rfl) ?_
              refine va_get (D := (dC, dI)) (ci := 9) (v := .int x1) (C := RX11) (T := TX11) (N := 55) hx hb hts inX11 hown hK hP 0 rfl rfl 44 (Nat.le_of_ble_eq_true rfl) (hts _ mw_1203) (fun _ h9 => h9) rfl dX11_box_65 ?_
              refine lv_iload hx hb dX11_box_68 (lv_at hl 2 rfl) ?_
              refine va_mmin hx hb (by rw [hml]; exact hl.1.symm) hown (hts _ mw_1397) (hts _ mw_858) (hts _ mw_103) (hts _ mw_mincode) (Nat.le_of_ble_eq_true rfl) (Nat.le_of_ble_eq_true rfl) (Nat.le_of_ble_eq_true rfl) (Nat.le_of_ble_eq_true rfl) dX11_box_70 ?_
              refine lv_topi (fun v_9 ev_9 => ?_)
              have hv_9 : v_9.toInt = min x1.toInt (cF40 cx f k).toInt := zmin rfl rfl ev_9
              refine va_put (D := (dC, dI)) (ci := 9) (v := .int v_9) (ty := .int) (C := RX11) (T := TX11) (N := 55) hx hb hts inX11 tyX11 tyX11_ok nmX11 hown hK hP hD hS 0 rfl rfl 44 (by decide) (hts _ mw_1203) (fun _ h9 => h9) rfl (by decide +kernel) rfl rfl (Nat.le_of_ble_eq_true rfl) dX11_box_73 (fun H locs hP hD hS => ?_)
              obtain ⟨hP, hD⟩ := zre (W2 := [(om k0 a (upd (upd (upd (upd I0 44 v_9) 45 x2) 46 x3) 47 x4) J0), _, _, _]) hP hD rfl
              refine lv_aload_n hx hb dX11_box_76 rfl (lv_at hl 4 rfl) ?_
              refine lv_iload hx hb dX11_box_77 (lv_at hl 0 rfl) ?_
              refine lv_if_eq (tgt := 87) hx hb dX11_box_79 rfl (fun c_10 => ?_) (fun c_10 => ?_)
              · refine lv_aload_n hx hb dX11_box_87 rfl (lv_at hl 4 rfl) ?_
                refine va_get (D := (dC, dI)) (ci := 9) (v := .int x2) (C := RX11) (T := TX11) (N := 55) hx hb hts inX11 hown hK hP 0 rfl rfl 45 (Nat.le_of_ble_eq_true rfl) (hts _ mw_1204) (fun _ h9 => h9) rfl dX11_box_88 ?_
                refine lv_iload hx hb dX11_box_91 (lv_at hl 1 rfl) ?_
                refine va_mmin hx hb (by rw [hml]; exact hl.1.symm) hown (hts _ mw_1397) (hts _ mw_858) (hts _ mw_103) (hts _ mw_mincode) (Nat.le_of_ble_eq_true rfl) (Nat.le_of_ble_eq_true rfl) (Nat.le_of_ble_eq_true rfl) (Nat.le_of_ble_eq_true rfl) dX11_box_93 ?_
                refine lv_topi (fun v_11 ev_11 => ?_)
                have hv_11 : v_11.toInt = min x2.toInt (cF40 cy f k).toInt := zmin rfl rfl ev_11
                refine va_put (D := (dC, dI)) (ci := 9) (v := .int v_11) (ty := .int) (C := RX11) (T := TX11) (N := 55) hx hb hts inX11 tyX11 tyX11_ok nmX11 hown hK hP hD hS 0 rfl rfl 45 (by decide) (hts _ mw_1204) (fun _ h9 => h9) rfl (by decide +kernel) rfl rfl (Nat.le_of_ble_eq_true rfl) dX11_box_96 (fun H locs hP hD hS => ?_)
                obtain ⟨hP, hD⟩ := zre (W2 := [(om k0 a (upd (upd (upd (upd I0 44 v_9) 45 v_11) 46 x3) 47 x4) J0), _, _, _]) hP hD rfl
                refine lv_aload_n hx hb dX11_box_99 rfl (lv_at hl 4 rfl) ?_
                refine lv_iload hx hb dX11_box_100 (lv_at hl 0 rfl) ?_
                refine lv_if_eq (tgt := 110) hx hb dX11_box_102 rfl (fun c_12 => ?_) (fun c_12 => ?_)
                · refine lv_aload_n hx hb dX11_box_110 rfl (lv_at hl 4 rfl) ?_
                  refine va_get (D := (dC, dI)) (ci := 9) (v := .int x3) (C := RX11) (T := TX11) (N := 55) hx hb hts inX11 hown hK hP 0 rfl rfl 46 (Nat.le_of_ble_eq_true rfl) (hts _ mw_1205) (fun _ h9 => h9) rfl dX11_box_111 ?_
                  refine lv_iload hx hb dX11_box_114 (lv_at hl 2 rfl) ?_
                  refine va_mmax hx hb (by rw [hml]; exact hl.1.symm) hown (hts _ mw_1398) (hts _ mw_159) (hts _ mw_103) (hts _ mw_maxcode) (Nat.le_of_ble_eq_true rfl) (Nat.le_of_ble_eq_true rfl) (Nat.le_of_ble_eq_true rfl) (Nat.le_of_ble_eq_true rfl) dX11_box_116 ?_
                  refine lv_topi (fun v_13 ev_13 => ?_)
                  have hv_13 : v_13.toInt = max x3.toInt (cF40 cx f k).toInt := zmax rfl rfl ev_13
                  refine va_put (D := (dC, dI)) (ci := 9) (v := .int v_13) (ty := .int) (C := RX11) (T := TX11) (N := 55) hx hb hts inX11 tyX11 tyX11_ok nmX11 hown hK hP hD hS 0 rfl rfl 46 (by decide) (hts _ mw_1205) (fun _ h9 => h9) rfl (by decide +kernel) rfl rfl (Nat.le_of_ble_eq_true rfl) dX11_box_119 (fun H locs hP hD hS => ?_)
                  obtain ⟨hP, hD⟩ := zre (W2 := [(om k0 a (upd (upd (upd (upd I0 44 v_9) 45 v_11) 46 v_13) 47 x4) J0), _, _, _]) hP hD rfl
                  refine lv_aload_n hx hb dX11_box_122 rfl (lv_at hl 4 rfl) ?_
                  refine lv_iload hx hb dX11_box_123 (lv_at hl 0 rfl) ?_
                  refine lv_if_eq (tgt := 133) hx hb dX11_box_125 rfl (fun c_14 => ?_) (fun c_14 => ?_)
                  · refine lv_aload_n hx hb dX11_box_133 rfl (lv_at hl 4 rfl) ?_
                    refine va_get (D := (dC, dI)) (ci := 9) (v := .int x4) (C := RX11) (T := TX11) (N := 55) hx hb hts inX11 hown hK hP 0 rfl rfl 47 (Nat.le_of_ble_eq_true rfl) (hts _ mw_1206) (fun _ h9 => h9) rfl dX11_box_134 ?_
                    refine lv_iload hx hb dX11_box_137 (lv_at hl 1 rfl) ?_
                    refine va_mmax hx hb (by rw [hml]; exact hl.1.symm) hown (hts _ mw_1398) (hts _ mw_159) (hts _ mw_103) (hts _ mw_maxcode) (Nat.le_of_ble_eq_true rfl) (Nat.le_of_ble_eq_true rfl) (Nat.le_of_ble_eq_true rfl) (Nat.le_of_ble_eq_true rfl) dX11_box_139 ?_
                    refine lv_topi (fun v_15 ev_15 => ?_)
                    have hv_15 : v_15.toInt = max x4.toInt (cF40 cy f k).toInt := zmax rfl rfl ev_15
                    refine va_put (D := (dC, dI)) (ci := 9) (v := .int v_15) (ty := .int) (C := RX11) (T := TX11) (N := 55) hx hb hts inX11 tyX11 tyX11_ok nmX11 hown hK hP hD hS 0 rfl rfl 47 (by decide) (hts _ mw_1206) (fun _ h9 => h9) rfl (by decide +kernel) rfl rfl (Nat.le_of_ble_eq_true rfl) dX11_box_142 (fun H locs hP hD hS => ?_)
                    obtain ⟨hP, hD⟩ := zre (W2 := [(om k0 a (upd (upd (upd (upd I0 44 v_9) 45 v_11) 46 v_13) 47 v_15) J0), _, _, _]) hP hD rfl
                    refine lv_iinc (v := nI (k + 1)) (lv' := [(3, .int (nI (k + 1))), (6, .int 0), (5, .int (cF40 cy f k)), (4, .int (cF40 cx f k)), (0, .ref k0), (1, .int (nI f)), (2, .int 1)]) hx hb dX11_box_145 hl (k := 3) rfl (nI_add k 1) (Nat.le_of_ble_eq_true rfl) rfl (fun ls hl => ?_)
                    refine lv_goto (tgt := 2) hx hb dX11_box_148 rfl ?_
                    exact ih_2 (k + 1) v_9 v_11 v_13 v_15 H locs ls (by first | with_reducible assumption | omega) (by first | with_reducible assumption | omega) (by intro _; rw [mnI_s, mnI_s, mxI_s, mxI_s]; rcases Nat.eq_zero_or_pos k with h0 | h0; (try (have e1 : mnI (cF40 cx f 0).toInt (cF40 cx f) k = (cF40 cx f 0).toInt := (by rw [h0]; rfl); have e2 : mnI (cF40 cy f 0).toInt (cF40 cy f) k = (cF40 cy f 0).toInt := (by rw [h0]; rfl); have e3 : mxI (cF40 cx f 0).toInt (cF40 cx f) k = (cF40 cx f 0).toInt := (by rw [h0]; rfl); have e4 : mxI (cF40 cy f 0).toInt (cF40 cy f) k = (cF40 cy f 0).toInt := (by rw [h0]; rfl); have e5 : (cF40 cx f k).toInt = (cF40 cx f 0).toInt := (by rw [h0]); have e6 : (cF40 cy f k).toInt = (cF40 cy f 0).toInt := (by rw [h0]))); (first | omega | (have h9 := hz; omega)); (first | (have h9 := hz h0; omega) | (have h9 := hz; omega) | omega)) hP hD hS (lv_sub hl [0, 4, 5, 6] rfl)
                  · exact absurd (by decide) c_14
                · exact absurd (by decide) c_12
              · exact absurd (by decide) c_10
            · exact absurd (by decide) c_8
          · have c_7 : ((k : Nat) : Int) = 0 := zc_eq (nI_toInt b9_3) rfl c_7
            refine lv_iconst (v := 1) hx hb dX11_box_46 rfl ?_
            refine lv_goto (tgt := 51) hx hb dX11_box_47 rfl ?_
            refine lv_istore (lv' := [(6, .int 1), (5, .int (cF40 cy f k)), (4, .int (cF40 cx f k)), (3, .int (nI k)), (0, .ref k0), (1, .int (nI f)), (2, .int 1)]) hx hb dX11_box_51 hl (Nat.le_of_ble_eq_true rfl) rfl (fun ls hl => ?_)
            refine lv_aload_n hx hb dX11_box_53 rfl (lv_at hl 4 rfl) ?_
            refine lv_iload hx hb dX11_box_54 (lv_at hl 0 rfl) ?_
            refine lv_if_eq (tgt := 64) hx hb dX11_box_56 rfl (fun c_16 => ?_) (fun c_16 => ?_)
            · exact absurd c_16 (by decide)
            · refine lv_iload hx hb dX11_box_59 (lv_at hl 2 rfl) ?_
              refine lv_goto (tgt := 73) hx hb dX11_box_61 rfl ?_
              refine va_put (D := (dC, dI)) (ci := 9) (v := .int (cF40 cx f k)) (ty := .int) (C := RX11) (T := TX11) (N := 55) hx hb hts inX11 tyX11 tyX11_ok nmX11 hown hK hP hD hS 0 rfl rfl 44 (by decide) (hts _ mw_1203) (fun _ h9 => h9) rfl (by decide +kernel) rfl rfl (Nat.le_of_ble_eq_true rfl) dX11_box_73 (fun H locs hP hD hS => ?_)
              obtain ⟨hP, hD⟩ := zre (W2 := [(om k0 a (upd (upd (upd (upd I0 44 (cF40 cx f k)) 45 x2) 46 x3) 47 x4) J0), _, _, _]) hP hD rfl
              refine lv_aload_n hx hb dX11_box_76 rfl (lv_at hl 4 rfl) ?_
              refine lv_iload hx hb dX11_box_77 (lv_at hl 0 rfl) ?_
              refine lv_if_eq (tgt := 87) hx hb dX11_box_79 rfl (fun c_17 => ?_) (fun c_17 => ?_)
              · exact absurd c_17 (by decide)
              · refine lv_iload hx hb dX11_box_82 (lv_at hl 1 rfl) ?_
                refine lv_goto (tgt := 96) hx hb dX11_box_84 rfl ?_
                refine va_put (D := (dC, dI)) (ci := 9) (v := .int (cF40 cy f k)) (ty := .int) (C := RX11) (T := TX11) (N := 55) hx hb hts inX11 tyX11 tyX11_ok nmX11 hown hK hP hD hS 0 rfl rfl 45 (by decide) (hts _ mw_1204) (fun _ h9 => h9) rfl (by decide +kernel) rfl rfl (Nat.le_of_ble_eq_true rfl) dX11_box_96 (fun H locs hP hD hS => ?_)
                obtain ⟨hP, hD⟩ := zre (W2 := [(om k0 a (upd (upd (upd (upd I0 44 (cF40 cx f k)) 45 (cF40 cy f k)) 46 x3) 47 x4) J0), _, _, _]) hP hD rfl
                refine lv_aload_n hx hb dX11_box_99 rfl (lv_at hl 4 rfl) ?_
                refine lv_iload hx hb dX11_box_100 (lv_at hl 0 rfl) ?_
                refine lv_if_eq (tgt := 110) hx hb dX11_box_102 rfl (fun c_18 => ?_) (fun c_18 => ?_)
                · exact absurd c_18 (by decide)
                · refine lv_iload hx hb dX11_box_105 (lv_at hl 2 rfl) ?_
                  refine lv_goto (tgt := 119) hx hb dX11_box_107 rfl ?_
                  refine va_put (D := (dC, dI)) (ci := 9) (v := .int (cF40 cx f k)) (ty := .int) (C := RX11) (T := TX11) (N := 55) hx hb hts inX11 tyX11 tyX11_ok nmX11 hown hK hP hD hS 0 rfl rfl 46 (by decide) (hts _ mw_1205) (fun _ h9 => h9) rfl (by decide +kernel) rfl rfl (Nat.le_of_ble_eq_true rfl) dX11_box_119 (fun H locs hP hD hS => ?_)
                  obtain ⟨hP, hD⟩ := zre (W2 := [(om k0 a (upd (upd (upd (upd I0 44 (cF40 cx f k)) 45 (cF40 cy f k)) 46 (cF40 cx f k)) 47 x4) J0), _, _, _]) hP hD rfl
                  refine lv_aload_n hx hb dX11_box_122 rfl (lv_at hl 4 rfl) ?_
                  refine lv_iload hx hb dX11_box_123 (lv_at hl 0 rfl) ?_
                  refine lv_if_eq (tgt := 133) hx hb dX11_box_125 rfl (fun c_19 => ?_) (fun c_19 => ?_)
                  · exact absurd c_19 (by decide)
                  · refine lv_iload hx hb dX11_box_128 (lv_at hl 1 rfl) ?_
                    refine lv_goto (tgt := 142) hx hb dX11_box_130 rfl ?_
                    refine va_put (D := (dC, dI)) (ci := 9) (v := .int (cF40 cy f k)) (ty := .int) (C := RX11) (T := TX11) (N := 55) hx hb hts inX11 tyX11 tyX11_ok nmX11 hown hK hP hD hS 0 rfl rfl 47 (by decide) (hts _ mw_1206) (fun _ h9 => h9) rfl (by decide +kernel) rfl rfl (Nat.le_of_ble_eq_true rfl) dX11_box_142 (fun H locs hP hD hS => ?_)
                    obtain ⟨hP, hD⟩ := zre (W2 := [(om k0 a (upd (upd (upd (upd I0 44 (cF40 cx f k)) 45 (cF40 cy f k)) 46 (cF40 cx f k)) 47 (cF40 cy f k)) J0), _, _, _]) hP hD rfl
                    refine lv_iinc (v := nI (k + 1)) (lv' := [(3, .int (nI (k + 1))), (6, .int 1), (5, .int (cF40 cy f k)), (4, .int (cF40 cx f k)), (0, .ref k0), (1, .int (nI f)), (2, .int 1)]) hx hb dX11_box_145 hl (k := 3) rfl (nI_add k 1) (Nat.le_of_ble_eq_true rfl) rfl (fun ls hl => ?_)
                    refine lv_goto (tgt := 2) hx hb dX11_box_148 rfl ?_
                    exact ih_2 (k + 1) (cF40 cx f k) (cF40 cy f k) (cF40 cx f k) (cF40 cy f k) H locs ls (by first | with_reducible assumption | omega) (by first | with_reducible assumption | omega) (by intro _; rw [mnI_s, mnI_s, mxI_s, mxI_s]; rcases Nat.eq_zero_or_pos k with h0 | h0; (try (have e1 : mnI (cF40 cx f 0).toInt (cF40 cx f) k = (cF40 cx f 0).toInt := (by rw [h0]; rfl); have e2 : mnI (cF40 cy f 0).toInt (cF40 cy f) k = (cF40 cy f 0).toInt := (by rw [h0]; rfl); have e3 : mxI (cF40 cx f 0).toInt (cF40 cx f) k = (cF40 cx f 0).toInt := (by rw [h0]; rfl); have e4 : mxI (cF40 cy f 0).toInt (cF40 cy f) k = (cF40 cy f 0).toInt := (by rw [h0]; rfl); have e5 : (cF40 cx f k).toInt = (cF40 cx f 0).toInt := (by rw [h0]); have e6 : (cF40 cy f k).toInt = (cF40 cy f 0).toInt := (by rw [h0]))); (first | omega | (have h9 := hz; omega)); (first | (have h9 := hz h0; omega) | (have h9 := hz; omega) | omega)) hP hD hS (lv_sub hl [0, 4, 5, 6] rfl)
  exact hl_2 _ 0 (I0 44) (I0 45) (I0 46) (I0 47) s.heap [] ls (Nat.lt_succ_self _) (by first | with_reducible assumption | omega) (by first | with_reducible assumption | omega) hP hD hS (lv_sub hl [0, 1, 2, 3] rfl)
end
section
set_option maxHeartbeats 4000000 in
set_option maxRecDepth 100000 in
theorem k_M_square_4 (l : Launch) (dC : Nat → ClassId) (dI : Nat → Nat → Nat) (cI cZ cF : ClassId) (sz : Nat) (k0 : Nat) (a : Nat → Nat) (I0 : Nat → Int32) (J0 : Nat → Int64) (f : Nat) (n : Nat) (ft : Nat) (ms : Int32) (kd : Nat → Int32) (st : Nat → Int32) (gb : Nat → Int32) (it : Nat → Int32) (pa : Nat → Int32) (pb : Nat → Int32) (rk : Nat → Int32) (wd : Nat → Int32) (tw : Nat → Int32) (tn : Nat → Int32) (mn : Nat → Int32) (cx : Nat → Int32) (cy : Nat → Int32) (sa : Nat → Int32) (sh : Nat → Int32) (wh : Nat → Int32) (of9 : Nat → Int32) (we : Nat → Int32) (S0 : Nat → Int32) (T0 : Nat → Int32) (P0 : Nat → Int32) (Q0 : Nat → Int32) (ox : Nat → Int32) (oy : Nat → Int32) (mt : Nat → Int32) (wi : Nat → Int32) (ins : Nat → Int32) (la : Nat → Int32) (lb : Nat → Int32) (lc : Nat → Int32) (ld : Nat → Int32) (cp : Nat) (cl : Nat) (hft : I0 0 = nI ft) (h200 : ft ≤ 200) (hf_f : f ≤ 200) (hm_f : mn f = nI n) (hn_f : 1 ≤ n ∧ n ≤ 40) (hp_f : pls n (cF40 cx f) (cF40 cy f)) (hft_f : f < ft) (hwf : ∀ q, lvF ft st tn q → wfM mn cx cy q) (hst1 : (st f).toInt = 1) (htn0 : (tn f).toInt = 0) (hkd5 : (kd f).toInt = 5) (hms : 0 ≤ ms.toInt) (hdf : ms.toInt < dfB n (cF40 cx f) (cF40 cy f)) : zM l yX11_square cX11_square 6 (some .boolean) ({ frames := 2, cells := 0, slots := 0, locals := 49 } : Room) [.ref k0, .int (nI f), .int ms] (dC, dI) (zTy cI cZ cF) [(om k0 a I0 J0), (oa (a 1) cI 201 kd), (oa (a 5) cI 201 st), (oa (a 7) cI 201 gb), (oa (a 10) cI 201 it), (oa (a 8) cI 201 pa), (oa (a 9) cI 201 pb), (oa (a 2) cI 201 rk), (oa (a 3) cI 201 wd), (oa (a 4) cI 201 tw), (oa (a 6) cZ 201 tn), (oa (a 11) cI 201 mn), (oa (a 12) cI 8040 cx), (oa (a 13) cI 8040 cy), (oa (a 27) cI 516 sa), (oa (a 28) cI (4096 * cp) sh), (oa (a 16) cI 514 wh), (oa (a 17) cI 514 of9), (oa (a 18) cI 514 we), (oa (a 32) cI 8 S0), (oa (a 40) cI 6 T0), (oa (a 29) cI 42 P0), (oa (a 30) cI 42 Q0), (oa (a 33) cI 42 ox), (oa (a 34) cI 42 oy), (oa (a 37) cZ 201 mt), (oa (a 38) cZ 201 wi), (oa (a 39) cZ 8040 ins), (oa (a 22) cI (64 * cl) la), (oa (a 23) cI (64 * cl) lb), (oa (a 24) cI (64 * cl) lc), (oa (a 25) cI (64 * cl) ld)] sz (some (.int 0)) (fun A t => ∃ (S1 : Nat → Int32), ∃ (x1 : Int32), ∃ (x2 : Int32), ∃ (x3 : Int32), ∃ (x4 : Int32), (x1 = iI (mnI (cF40 cx f 0).toInt (cF40 cx f) n)) ∧ (x2 = iI (mnI (cF40 cy f 0).toInt (cF40 cy f) n)) ∧ (x3 = iI (mxI (cF40 cx f 0).toInt (cF40 cx f) n)) ∧ (x4 = iI (mxI (cF40 cy f 0).toInt (cF40 cy f) n)) ∧ zPD (dC, dI) classes A [(om k0 a (upd (upd (upd (upd (upd (upd I0 14 4) 15 (I0 15)) 44 x1) 45 x2) 46 x3) 47 x4) J0), (oa (a 1) cI 201 kd), (oa (a 5) cI 201 st), (oa (a 7) cI 201 gb), (oa (a 10) cI 201 it), (oa (a 8) cI 201 pa), (oa (a 9) cI 201 pb), (oa (a 2) cI 201 rk), (oa (a 3) cI 201 wd), (oa (a 4) cI 201 tw), (oa (a 6) cZ 201 tn), (oa (a 11) cI 201 mn), (oa (a 12) cI 8040 cx), (oa (a 13) cI 8040 cy), (oa (a 27) cI 516 sa), (oa (a 28) cI (4096 * cp) sh), (oa (a 16) cI 514 wh), (oa (a 17) cI 514 of9), (oa (a 18) cI 514 we), (oa (a 32) cI 8 S1), (oa (a 40) cI 6 T0), (oa (a 29) cI 42 P0), (oa (a 30) cI 42 Q0), (oa (a 33) cI 42 ox), (oa (a 34) cI 42 oy), (oa (a 37) cZ 201 mt), (oa (a 38) cZ 201 wi), (oa (a 39) cZ 8040 ins), (oa (a 22) cI (64 * cl) la), (oa (a 23) cI (64 * cl) lb), (oa (a 24) cI (64 * cl) lc), (oa (a 25) cI (64 * cl) ld)] t.heap) 0 0 := by
  refine zIn (own := "ScaleShopModel") (loc := [(0, .ref k0), (1, .int (nI f)), (2, .int ms)]) rfl rfl rfl rfl (fun p e s m below meth c hx hb hr hts hown hlocks hml hnm9 A hA hS hP hD hK hXN Q9 hQ9 ls hl => ?_)
  refine lv_aload_n hx hb dX11_square_0 rfl (lv_at hl 0 rfl) ?_
  refine lv_iload_n hx hb dX11_square_1 rfl (lv_at hl 1 rfl) ?_
  obtain ⟨hPc, hDc, hFc, hI1⟩ := zi_sub (wc := [_, _]) hP hD hS hA [0, 2] rfl rfl
  refine zcall (st1 := [.int (wrN (st f))]) (va_runV (As := [.int (nI f)]) (rest := []) ⟨hx, hb, hml, hown, hts⟩ (k_M_wrong l dC dI cI cZ cF s.heap.size k0 a I0 J0 f ft st (by first | with_reducible assumption | assumption) (by first | with_reducible assumption | omega) (by first | with_reducible assumption | omega)) (csV_209 hts rfl rfl ⟨Nat.le_of_ble_eq_true rfl, Nat.le_of_ble_eq_true rfl⟩) (zPV2 (q0 := 0) (ci := 9) hPc hDc hK hXN rfl rfl) rfl rfl hl.1 rfl (lv_room (Nat.le_of_ble_eq_true rfl)) dX11_square_2 ⟨Nat.le_of_ble_eq_true rfl, Nat.le_of_ble_eq_true rfl⟩) hS hFc hFc rfl (fun t H locs ht hB hk1 hS => ?_)
  obtain ⟨hP1, hD1⟩ := hB
  rw [ht] at hP1
  replace hP := z0 hP hD hk1 hP1 hI1
  clear hk1 hPc hDc hFc hP1 hD1 ht hI1
  refine zz_i2 (wrN_s (st f)) (fun hs9 => ?_) (fun hs9 => ?_)
  · skip
    refine lv_istore_n (lv' := [(3, .int 0), (0, .ref k0), (1, .int (nI f)), (2, .int ms)]) hx hb dX11_square_5 rfl hl (Nat.le_of_ble_eq_true rfl) rfl (fun ls hl => ?_)
    refine lv_iload_n hx hb dX11_square_6 rfl (lv_at hl 0 rfl) ?_
    refine lv_if_le (tgt := 14) hx hb dX11_square_7 rfl (fun c_1 => ?_) (fun c_1 => ?_)
    · refine lv_aload_n hx hb dX11_square_14 rfl (lv_at hl 1 rfl) ?_
      refine va_get (D := (dC, dI)) (ci := 9) (v := .ref (a 1)) (C := RX11) (T := TX11) (N := 55) hx hb hts inX11 hown hK hP 0 rfl rfl 1 (Nat.le_of_ble_eq_true rfl) (hts _ mw_1160) (fun _ h9 => h9) rfl dX11_square_15 ?_
      refine lv_iload_n hx hb dX11_square_18 rfl (lv_at hl 2 rfl) ?_
      have b9_2 : f < 201 := by omega
      refine z_iald hx hb hK hP 1 0 rfl rfl (e := f) rfl b9_2 (Nat.le_of_ble_eq_true rfl) dX11_square_19 ?_
      refine lv_iconst (v := 5) hx hb dX11_square_20 rfl ?_
      refine lv_icmp_eq (tgt := 28) hx hb dX11_square_21 rfl (fun c_3 => ?_) (fun c_3 => ?_)
      · have c_3 : (kd f).toInt = 5 := zc_eq rfl rfl c_3
        refine lv_iload_n hx hb dX11_square_28 rfl (lv_at hl 3 rfl) ?_
        refine lv_if_ge (tgt := 36) hx hb dX11_square_29 rfl (fun c_4 => ?_) (fun c_4 => ?_)
        · have c_4 : 0 ≤ ms.toInt := zc_le rfl rfl c_4
          refine lv_iconst (v := 0) hx hb dX11_square_36 rfl ?_
          refine lv_istore_n (lv' := [(3, .int 0), (0, .ref k0), (1, .int (nI f)), (2, .int ms)]) hx hb dX11_square_37 rfl hl (Nat.le_of_ble_eq_true rfl) rfl (fun ls hl => ?_)
          refine lv_iload_n hx hb dX11_square_38 rfl (lv_at hl 0 rfl) ?_
          refine lv_if_le (tgt := 48) hx hb dX11_square_39 rfl (fun c_5 => ?_) (fun c_5 => ?_)
          · refine lv_aload_n hx hb dX11_square_48 rfl (lv_at hl 1 rfl) ?_
            refine va_get (D := (dC, dI)) (ci := 9) (v := .ref (a 6)) (C := RX11) (T := TX11) (N := 55) hx hb hts inX11 hown hK hP 0 rfl rfl 6 (Nat.le_of_ble_eq_true rfl) (hts _ mw_1165) (fun _ h9 => h9) rfl dX11_square_49 ?_
            refine lv_iload_n hx hb dX11_square_52 rfl (lv_at hl 2 rfl) ?_
            refine z_zald hx hb hK hP 10 1 rfl rfl (e := f) rfl b9_2 (Nat.le_of_ble_eq_true rfl) dX11_square_53 ?_
            refine lv_if_eq (tgt := 63) hx hb dX11_square_54 rfl (fun c_6 => ?_) (fun c_6 => ?_)
            · have c_6 : (tn f).toInt = 0 := zc_eq rfl rfl c_6
              refine lv_aload_n hx hb dX11_square_63 rfl (lv_at hl 1 rfl) ?_
              refine lv_iload_n hx hb dX11_square_64 rfl (lv_at hl 2 rfl) ?_
              refine lv_iconst (v := 1) hx hb dX11_square_65 rfl ?_
              obtain ⟨hPc, hDc, hFc⟩ := zo_sub (wc := [_, _, _, _]) hP hD hS hA [0, 11, 12, 13] (by decide +kernel) rfl
              refine zcall (st1 := []) (va_runV (As := [.int (nI f), .int 1]) (rest := []) ⟨hx, hb, hml, hown, hts⟩ (k_M_box_v l dC dI cI cZ cF H.size k0 a I0 J0 f n mn cx cy (by first | with_reducible assumption | omega) (by first | with_reducible assumption | assumption) (by first | with_reducible assumption | omega) (by first | with_reducible assumption | assumption)) (csV_221 hts rfl rfl ⟨Nat.le_of_ble_eq_true rfl, Nat.le_of_ble_eq_true rfl⟩) (zPV2 (q0 := 0) (ci := 9) hPc hDc hK hXN rfl rfl) rfl rfl hl.1 rfl (lv_room (Nat.le_of_ble_eq_true rfl)) dX11_square_66 ⟨Nat.le_of_ble_eq_true rfl, Nat.le_of_ble_eq_true rfl⟩) hS hFc hFc rfl (fun t H locs ht hB hk1 hS => ?_)
              obtain ⟨x1, x2, x3, x4, eb1, eb2, eb3, eb4, hP1, hD1⟩ := hB
              rw [ht] at hP1
              obtain ⟨hP, hD⟩ := zn (W2 := [(om k0 a (upd (upd (upd (upd I0 44 x1) 45 x2) 46 x3) 47 x4) J0), _, _, _, _, _, _, _, _, _, _, _, _, _, _, _, _, _, _, _, _, _, _, _, _, _, _, _, _, _, _, _]) hP hD hk1 hFc hP1 hD1 [0, 11, 12, 13] zl_248 zl_248 [0, 11, 12, 13] (by decide +kernel) rfl rfl rfl rfl rfl
              clear hk1 hPc hDc hFc hP1 hD1 ht
              refine lv_ldc2 hx hb hown (hts _ mw_1575) dX11_square_69 ?_
              refine lv_aload_n hx hb dX11_square_72 rfl (lv_at hl 1 rfl) ?_
              refine va_get (D := (dC, dI)) (ci := 9) (v := .int x3) (C := RX11) (T := TX11) (N := 55) hx hb hts inX11 hown hK hP 0 rfl rfl 46 (Nat.le_of_ble_eq_true rfl) (hts _ mw_1205) (fun _ h9 => h9) rfl dX11_square_73 ?_
              refine lv_aload_n hx hb dX11_square_76 rfl (lv_at hl 1 rfl) ?_
              refine va_get (D := (dC, dI)) (ci := 9) (v := .int x1) (C := RX11) (T := TX11) (N := 55) hx hb hts inX11 hown hK hP 0 rfl rfl 44 (Nat.le_of_ble_eq_true rfl) (hts _ mw_1203) (fun _ h9 => h9) rfl dX11_square_77 ?_
              refine lv_isub hx hb dX11_square_80 ?_
              refine lv_i2l (v := (x3 - x1).toInt64) hx hb dX11_square_81 (rfl) ?_
              refine lv_lmul hx hb dX11_square_82 ?_
              refine lv_aload_n hx hb dX11_square_83 rfl (lv_at hl 1 rfl) ?_
              refine va_get (D := (dC, dI)) (ci := 9) (v := .int x4) (C := RX11) (T := TX11) (N := 55) hx hb hts inX11 hown hK hP 0 rfl rfl 47 (Nat.le_of_ble_eq_true rfl) (hts _ mw_1206) (fun _ h9 => h9) rfl dX11_square_84 ?_
              refine lv_aload_n hx hb dX11_square_87 rfl (lv_at hl 1 rfl) ?_
              refine va_get (D := (dC, dI)) (ci := 9) (v := .int x2) (C := RX11) (T := TX11) (N := 55) hx hb hts inX11 hown hK hP 0 rfl rfl 45 (Nat.le_of_ble_eq_true rfl) (hts _ mw_1204) (fun _ h9 => h9) rfl dX11_square_88 ?_
              refine lv_isub hx hb dX11_square_91 ?_
              refine lv_i2l (v := (x4 - x2).toInt64) hx hb dX11_square_92 (rfl) ?_
              refine lv_lmul hx hb dX11_square_93 ?_
              refine lv_aload_n hx hb dX11_square_94 rfl (lv_at hl 1 rfl) ?_
              refine lv_iload_n hx hb dX11_square_95 rfl (lv_at hl 2 rfl) ?_
              obtain ⟨hPc, hDc, hFc⟩ := zo_sub (wc := [_, _, _, _, _]) hP hD hS hA [0, 11, 12, 13, 19] (by decide +kernel) rfl
              refine zcall (st1 := [.long (jI ((Int.natAbs (ar2 n (cF40 cx f) (cF40 cy f) n) : Nat) : Int)), .long ((2 * ((x3 - x1).toInt64)) * ((x4 - x2).toInt64))]) (va_runV (As := [.int (nI f)]) (rest := [.long ((2 * ((x3 - x1).toInt64)) * ((x4 - x2).toInt64))]) ⟨hx, hb, hml, hown, hts⟩ (k_M_area l dC dI cI cZ cF H.size k0 a (upd (upd (upd (upd I0 44 x1) 45 x2) 46 x3) 47 x4) J0 f n mn cx cy S0 (by first | with_reducible assumption | omega) (by first | with_reducible assumption | assumption) (by first | with_reducible assumption | omega) (by first | with_reducible assumption | assumption)) (csV_218 hts rfl rfl ⟨Nat.le_of_ble_eq_true rfl, Nat.le_of_ble_eq_true rfl⟩) (zPV2 (q0 := 0) (ci := 9) hPc hDc hK hXN rfl rfl) rfl rfl hl.1 rfl (lv_room (Nat.le_of_ble_eq_true rfl)) dX11_square_96 ⟨Nat.le_of_ble_eq_true rfl, Nat.le_of_ble_eq_true rfl⟩) hS hFc hFc rfl (fun t H locs ht hB hk1 hS => ?_)
              obtain ⟨S2, hP1, hD1⟩ := hB
              rw [ht] at hP1
              obtain ⟨hP, hD⟩ := zn (W2 := [_, _, _, _, _, _, _, _, _, _, _, _, _, _, _, _, _, _, _, (oa (a 32) cI 8 S2), _, _, _, _, _, _, _, _, _, _, _, _]) hP hD hk1 hFc hP1 hD1 [0, 11, 12, 13, 19] zl_249 zl_249 [0, 11, 12, 13, 19] (by decide +kernel) rfl rfl rfl rfl rfl
              clear hk1 hPc hDc hFc hP1 hD1 ht
              have hdfb := dfB_b hp_f hn_f.1 hn_f.2
              have hmsb := i32B ms
              refine lv_lsub hx hb dX11_square_99 ?_
              refine zz_l (v := jI (dfB n (cF40 cx f) (cF40 cy f))) (by rw [eb1, eb2, eb3, eb4]; exact sqL hp_f hn_f.1 hn_f.2) ?_
              refine lv_lstore (lv' := [(4, .long (jI (dfB n (cF40 cx f) (cF40 cy f)))), (3, .int 0), (0, .ref k0), (1, .int (nI f)), (2, .int ms)]) hx hb dX11_square_100 hl (Nat.le_of_ble_eq_true rfl) rfl (fun ls hl => ?_)
              refine lv_lload hx hb dX11_square_102 (lv_at hl 0 rfl) ?_
              refine lv_iload_n hx hb dX11_square_104 rfl (lv_at hl 4 rfl) ?_
              refine lv_i2l (v := ms.toInt64) hx hb dX11_square_105 (rfl) ?_
              refine zz_l (v := jI ms.toInt) (jI_of (i64 _)) ?_
              refine W.lcmp hx hb dX11_square_106 ?_
              refine lv_if_le (tgt := 116) hx hb dX11_square_107 rfl (fun c_7 => ?_) (fun c_7 => ?_)
              · have c_7 : (dfB n (cF40 cx f) (cF40 cy f)) ≤ ms.toInt := zl_le (jI_toInt (by omega)) (jI_toInt (by omega)) c_7
                exfalso; omega
              · have c_7 : ms.toInt < (dfB n (cF40 cx f) (cF40 cy f)) := zl_nle (jI_toInt (by omega)) (jI_toInt (by omega)) c_7
                refine lv_aload_n hx hb dX11_square_110 rfl (lv_at hl 2 rfl) ?_
                refine lv_iconst (v := 4) hx hb dX11_square_111 rfl ?_
                obtain ⟨hPc, hDc, hFc⟩ := zo_sub (wc := [_]) hP hD hS hA [0] rfl rfl
                refine zcall (st1 := [.int 0]) (va_runV (As := [.int 4]) (rest := []) ⟨hx, hb, hml, hown, hts⟩ (k_M_no l dC dI cI cZ cF H.size k0 a (upd (upd (upd (upd I0 44 x1) 45 x2) 46 x3) 47 x4) J0 4 (by decide)) (csV_198 hts rfl rfl ⟨Nat.le_of_ble_eq_true rfl, Nat.le_of_ble_eq_true rfl⟩) (zPV2 (q0 := 0) (ci := 9) hPc hDc hK hXN rfl rfl) rfl rfl hl.1 rfl (lv_room (Nat.le_of_ble_eq_true rfl)) dX11_square_112 ⟨Nat.le_of_ble_eq_true rfl, Nat.le_of_ble_eq_true rfl⟩) hS hFc hFc rfl (fun t H locs ht hB hk1 hS => ?_)
                obtain ⟨hP1, hD1⟩ := hB
                rw [ht] at hP1
                obtain ⟨hP, hD⟩ := zn (W2 := [(om k0 a (upd (upd (upd (upd (upd (upd I0 14 4) 15 (I0 15)) 44 x1) 45 x2) 46 x3) 47 x4) J0), _, _, _, _, _, _, _, _, _, _, _, _, _, _, _, _, _, _, _, _, _, _, _, _, _, _, _, _, _, _, _]) hP hD hk1 hFc hP1 hD1 [0] zl_183 zl_183 [0] (by decide +kernel) rfl rfl rfl rfl rfl
                clear hk1 hPc hDc hFc hP1 hD1 ht
                obtain ⟨hP9, hD9⟩ := zu_sub (wc := [_, _, _, _, _, _, _, _, _, _, _, _, _, _, _, _, _, _, _, _, _, _, _, _, _, _, _, _, _, _, _, _]) hP hD (true :: true :: true :: true :: true :: true :: true :: true :: true :: true :: true :: true :: true :: true :: true :: true :: true :: true :: true :: true :: true :: true :: true :: true :: true :: true :: true :: true :: true :: true :: true :: true :: []) rfl rfl
                rw [hQ9]
                exact W.zret (ty := .boolean) (v := 0) hx hb hr (rfl) (fun t ht hW => ⟨⟨rfl, S2, x1, x2, x3, x4, (eb1), (eb2), (eb3), (eb4), by rw [ht]; exact hP9, hD9⟩, hS.F ht⟩) hS.2.2 dX11_square_115
            · have c_6 : ¬ (tn f).toInt = 0 := zc_ne rfl rfl c_6
              exfalso; omega
          · exact absurd (by decide) c_5
        · have c_4 : ms.toInt < 0 := zc_nle rfl rfl c_4
          exfalso; omega
      · have c_3 : ¬ (kd f).toInt = 5 := zc_ne rfl rfl c_3
        exfalso; omega
    · exact absurd (by decide) c_1
  · skip
    refine lv_istore_n (lv' := [(3, .int 2), (0, .ref k0), (1, .int (nI f)), (2, .int ms)]) hx hb dX11_square_5 rfl hl (Nat.le_of_ble_eq_true rfl) rfl (fun ls hl => ?_)
    refine lv_iload_n hx hb dX11_square_6 rfl (lv_at hl 0 rfl) ?_
    refine lv_if_le (tgt := 14) hx hb dX11_square_7 rfl (fun c_8 => ?_) (fun c_8 => ?_)
    · exact absurd c_8 (by decide)
    · exfalso; omega
end
section
set_option maxHeartbeats 4000000 in
set_option maxRecDepth 100000 in
theorem k_M_square_n (l : Launch) (dC : Nat → ClassId) (dI : Nat → Nat → Nat) (cI cZ cF : ClassId) (sz : Nat) (k0 : Nat) (a : Nat → Nat) (I0 : Nat → Int32) (J0 : Nat → Int64) (f : Nat) (n : Nat) (ft : Nat) (ms : Int32) (kd : Nat → Int32) (st : Nat → Int32) (gb : Nat → Int32) (it : Nat → Int32) (pa : Nat → Int32) (pb : Nat → Int32) (rk : Nat → Int32) (wd : Nat → Int32) (tw : Nat → Int32) (tn : Nat → Int32) (mn : Nat → Int32) (cx : Nat → Int32) (cy : Nat → Int32) (sa : Nat → Int32) (sh : Nat → Int32) (wh : Nat → Int32) (of9 : Nat → Int32) (we : Nat → Int32) (S0 : Nat → Int32) (T0 : Nat → Int32) (P0 : Nat → Int32) (Q0 : Nat → Int32) (ox : Nat → Int32) (oy : Nat → Int32) (mt : Nat → Int32) (wi : Nat → Int32) (ins : Nat → Int32) (la : Nat → Int32) (lb : Nat → Int32) (lc : Nat → Int32) (ld : Nat → Int32) (cp : Nat) (cl : Nat) (hft : I0 0 = nI ft) (h200 : ft ≤ 200) (hf_f : f ≤ 200) (hm_f : mn f = nI n) (hn_f : 1 ≤ n ∧ n ≤ 40) (hp_f : pls n (cF40 cx f) (cF40 cy f)) (hft_f : f < ft) (hwf : ∀ q, lvF ft st tn q → wfM mn cx cy q) (hst1 : (st f).toInt = 1) (htn0 : (tn f).toInt = 0) (hkd5 : (kd f).toInt = 5) (hms : 0 ≤ ms.toInt) (hdf : dfB n (cF40 cx f) (cF40 cy f) ≤ ms.toInt) (hlaw : ¬ lwS ft st tn kd mn cx cy f n) : zM l yX11_square cX11_square 6 (some .boolean) ({ frames := 7, cells := 0, slots := 0, locals := 183 } : Room) [.ref k0, .int (nI f), .int ms] (dC, dI) (zTy cI cZ cF) [(om k0 a I0 J0), (oa (a 1) cI 201 kd), (oa (a 5) cI 201 st), (oa (a 7) cI 201 gb), (oa (a 10) cI 201 it), (oa (a 8) cI 201 pa), (oa (a 9) cI 201 pb), (oa (a 2) cI 201 rk), (oa (a 3) cI 201 wd), (oa (a 4) cI 201 tw), (oa (a 6) cZ 201 tn), (oa (a 11) cI 201 mn), (oa (a 12) cI 8040 cx), (oa (a 13) cI 8040 cy), (oa (a 27) cI 516 sa), (oa (a 28) cI (4096 * cp) sh), (oa (a 16) cI 514 wh), (oa (a 17) cI 514 of9), (oa (a 18) cI 514 we), (oa (a 32) cI 8 S0), (oa (a 40) cI 6 T0), (oa (a 29) cI 42 P0), (oa (a 30) cI 42 Q0), (oa (a 33) cI 42 ox), (oa (a 34) cI 42 oy), (oa (a 37) cZ 201 mt), (oa (a 38) cZ 201 wi), (oa (a 39) cZ 8040 ins), (oa (a 22) cI (64 * cl) la), (oa (a 23) cI (64 * cl) lb), (oa (a 24) cI (64 * cl) lc), (oa (a 25) cI (64 * cl) ld)] sz (some (.int 0)) (fun A t => ∃ (z9 : Int32), ∃ (S1 : Nat → Int32), ∃ (T1 : Nat → Int32), ∃ (P1 : Nat → Int32), ∃ (Q1 : Nat → Int32), ∃ (ox1 : Nat → Int32), ∃ (oy1 : Nat → Int32), ∃ (mt1 : Nat → Int32), ∃ (wi1 : Nat → Int32), ∃ (ins1 : Nat → Int32), ∃ (x1 : Int32), ∃ (x2 : Int32), ∃ (x3 : Int32), ∃ (x4 : Int32), (x1 = iI (mnI (cF40 cx f 0).toInt (cF40 cx f) n)) ∧ (x2 = iI (mnI (cF40 cy f 0).toInt (cF40 cy f) n)) ∧ (x3 = iI (mxI (cF40 cx f 0).toInt (cF40 cx f) n)) ∧ (x4 = iI (mxI (cF40 cy f 0).toInt (cF40 cy f) n)) ∧ zPD (dC, dI) classes A [(om k0 a (upd (upd (upd (upd (upd (upd (upd (upd (upd I0 14 7) 15 (I0 15 + 1)) 31 z9) 35 (nI n)) 36 (kd f)) 44 x1) 45 x2) 46 x3) 47 x4) J0), (oa (a 1) cI 201 kd), (oa (a 5) cI 201 st), (oa (a 7) cI 201 gb), (oa (a 10) cI 201 it), (oa (a 8) cI 201 pa), (oa (a 9) cI 201 pb), (oa (a 2) cI 201 rk), (oa (a 3) cI 201 wd), (oa (a 4) cI 201 tw), (oa (a 6) cZ 201 tn), (oa (a 11) cI 201 mn), (oa (a 12) cI 8040 (fgX f n (cF40 cx f) (bxX f x1 x3 4 cx))), (oa (a 13) cI 8040 (fgX f n (cF40 cy f) (bxY f x2 x4 4 cy))), (oa (a 27) cI 516 sa), (oa (a 28) cI (4096 * cp) sh), (oa (a 16) cI 514 wh), (oa (a 17) cI 514 of9), (oa (a 18) cI 514 we), (oa (a 32) cI 8 S1), (oa (a 40) cI 6 T1), (oa (a 29) cI 42 P1), (oa (a 30) cI 42 Q1), (oa (a 33) cI 42 ox1), (oa (a 34) cI 42 oy1), (oa (a 37) cZ 201 mt1), (oa (a 38) cZ 201 wi1), (oa (a 39) cZ 8040 ins1), (oa (a 22) cI (64 * cl) la), (oa (a 23) cI (64 * cl) lb), (oa (a 24) cI (64 * cl) lc), (oa (a 25) cI (64 * cl) ld)] t.heap) 0 0 := by
  refine zIn (own := "ScaleShopModel") (loc := [(0, .ref k0), (1, .int (nI f)), (2, .int ms)]) rfl rfl rfl rfl (fun p e s m below meth c hx hb hr hts hown hlocks hml hnm9 A hA hS hP hD hK hXN Q9 hQ9 ls hl => ?_)
  refine lv_aload_n hx hb dX11_square_0 rfl (lv_at hl 0 rfl) ?_
  refine lv_iload_n hx hb dX11_square_1 rfl (lv_at hl 1 rfl) ?_
  obtain ⟨hPc, hDc, hFc, hI1⟩ := zi_sub (wc := [_, _]) hP hD hS hA [0, 2] rfl rfl
  refine zcall (st1 := [.int (wrN (st f))]) (va_runV (As := [.int (nI f)]) (rest := []) ⟨hx, hb, hml, hown, hts⟩ (k_M_wrong l dC dI cI cZ cF s.heap.size k0 a I0 J0 f ft st (by first | with_reducible assumption | assumption) (by first | with_reducible assumption | omega) (by first | with_reducible assumption | omega)) (csV_209 hts rfl rfl ⟨Nat.le_of_ble_eq_true rfl, Nat.le_of_ble_eq_true rfl⟩) (zPV2 (q0 := 0) (ci := 9) hPc hDc hK hXN rfl rfl) rfl rfl hl.1 rfl (lv_room (Nat.le_of_ble_eq_true rfl)) dX11_square_2 ⟨Nat.le_of_ble_eq_true rfl, Nat.le_of_ble_eq_true rfl⟩) hS hFc hFc rfl (fun t H locs ht hB hk1 hS => ?_)
  obtain ⟨hP1, hD1⟩ := hB
  rw [ht] at hP1
  replace hP := z0 hP hD hk1 hP1 hI1
  clear hk1 hPc hDc hFc hP1 hD1 ht hI1
  refine zz_i2 (wrN_s (st f)) (fun hs9 => ?_) (fun hs9 => ?_)
  · skip
    refine lv_istore_n (lv' := [(3, .int 0), (0, .ref k0), (1, .int (nI f)), (2, .int ms)]) hx hb dX11_square_5 rfl hl (Nat.le_of_ble_eq_true rfl) rfl (fun ls hl => ?_)
    refine lv_iload_n hx hb dX11_square_6 rfl (lv_at hl 0 rfl) ?_
    refine lv_if_le (tgt := 14) hx hb dX11_square_7 rfl (fun c_1 => ?_) (fun c_1 => ?_)
    · refine lv_aload_n hx hb dX11_square_14 rfl (lv_at hl 1 rfl) ?_
      refine va_get (D := (dC, dI)) (ci := 9) (v := .ref (a 1)) (C := RX11) (T := TX11) (N := 55) hx hb hts inX11 hown hK hP 0 rfl rfl 1 (Nat.le_of_ble_eq_true rfl) (hts _ mw_1160) (fun _ h9 => h9) rfl dX11_square_15 ?_
      refine lv_iload_n hx hb dX11_square_18 rfl (lv_at hl 2 rfl) ?_
      have b9_2 : f < 201 := by omega
      refine z_iald hx hb hK hP 1 0 rfl rfl (e := f) rfl b9_2 (Nat.le_of_ble_eq_true rfl) dX11_square_19 ?_
      refine lv_iconst (v := 5) hx hb dX11_square_20 rfl ?_
      refine lv_icmp_eq (tgt := 28) hx hb dX11_square_21 rfl (fun c_3 => ?_) (fun c_3 => ?_)
      · have c_3 : (kd f).toInt = 5 := zc_eq rfl rfl c_3
        refine lv_iload_n hx hb dX11_square_28 rfl (lv_at hl 3 rfl) ?_
        refine lv_if_ge (tgt := 36) hx hb dX11_square_29 rfl (fun c_4 => ?_) (fun c_4 => ?_)
        · have c_4 : 0 ≤ ms.toInt := zc_le rfl rfl c_4
          refine lv_iconst (v := 0) hx hb dX11_square_36 rfl ?_
          refine lv_istore_n (lv' := [(3, .int 0), (0, .ref k0), (1, .int (nI f)), (2, .int ms)]) hx hb dX11_square_37 rfl hl (Nat.le_of_ble_eq_true rfl) rfl (fun ls hl => ?_)
          refine lv_iload_n hx hb dX11_square_38 rfl (lv_at hl 0 rfl) ?_
          refine lv_if_le (tgt := 48) hx hb dX11_square_39 rfl (fun c_5 => ?_) (fun c_5 => ?_)
          · refine lv_aload_n hx hb dX11_square_48 rfl (lv_at hl 1 rfl) ?_
            refine va_get (D := (dC, dI)) (ci := 9) (v := .ref (a 6)) (C := RX11) (T := TX11) (N := 55) hx hb hts inX11 hown hK hP 0 rfl rfl 6 (Nat.le_of_ble_eq_true rfl) (hts _ mw_1165) (fun _ h9 => h9) rfl dX11_square_49 ?_
            refine lv_iload_n hx hb dX11_square_52 rfl (lv_at hl 2 rfl) ?_
            refine z_zald hx hb hK hP 10 1 rfl rfl (e := f) rfl b9_2 (Nat.le_of_ble_eq_true rfl) dX11_square_53 ?_
            refine lv_if_eq (tgt := 63) hx hb dX11_square_54 rfl (fun c_6 => ?_) (fun c_6 => ?_)
            · have c_6 : (tn f).toInt = 0 := zc_eq rfl rfl c_6
              refine lv_aload_n hx hb dX11_square_63 rfl (lv_at hl 1 rfl) ?_
              refine lv_iload_n hx hb dX11_square_64 rfl (lv_at hl 2 rfl) ?_
              refine lv_iconst (v := 1) hx hb dX11_square_65 rfl ?_
              obtain ⟨hPc, hDc, hFc⟩ := zo_sub (wc := [_, _, _, _]) hP hD hS hA [0, 11, 12, 13] (by decide +kernel) rfl
              refine zcall (st1 := []) (va_runV (As := [.int (nI f), .int 1]) (rest := []) ⟨hx, hb, hml, hown, hts⟩ (k_M_box_v l dC dI cI cZ cF H.size k0 a I0 J0 f n mn cx cy (by first | with_reducible assumption | omega) (by first | with_reducible assumption | assumption) (by first | with_reducible assumption | omega) (by first | with_reducible assumption | assumption)) (csV_221 hts rfl rfl ⟨Nat.le_of_ble_eq_true rfl, Nat.le_of_ble_eq_true rfl⟩) (zPV2 (q0 := 0) (ci := 9) hPc hDc hK hXN rfl rfl) rfl rfl hl.1 rfl (lv_room (Nat.le_of_ble_eq_true rfl)) dX11_square_66 ⟨Nat.le_of_ble_eq_true rfl, Nat.le_of_ble_eq_true rfl⟩) hS hFc hFc rfl (fun t H locs ht hB hk1 hS => ?_)
              obtain ⟨x1, x2, x3, x4, eb1, eb2, eb3, eb4, hP1, hD1⟩ := hB
              rw [ht] at hP1
              obtain ⟨hP, hD⟩ := zn (W2 := [(om k0 a (upd (upd (upd (upd I0 44 x1) 45 x2) 46 x3) 47 x4) J0), _, _, _, _, _, _, _, _, _, _, _, _, _, _, _, _, _, _, _, _, _, _, _, _, _, _, _, _, _, _, _]) hP hD hk1 hFc hP1 hD1 [0, 11, 12, 13] zl_248 zl_248 [0, 11, 12, 13] (by decide +kernel) rfl rfl rfl rfl rfl
              clear hk1 hPc hDc hFc hP1 hD1 ht
              refine lv_ldc2 hx hb hown (hts _ mw_1575) dX11_square_69 ?_
              refine lv_aload_n hx hb dX11_square_72 rfl (lv_at hl 1 rfl) ?_
              refine va_get (D := (dC, dI)) (ci := 9) (v := .int x3) (C := RX11) (T := TX11) (N := 55) hx hb hts inX11 hown hK hP 0 rfl rfl 46 (Nat.le_of_ble_eq_true rfl) (hts _ mw_1205) (fun _ h9 => h9) rfl dX11_square_73 ?_
              refine lv_aload_n hx hb dX11_square_76 rfl (lv_at hl 1 rfl) ?_
              refine va_get (D := (dC, dI)) (ci := 9) (v := .int x1) (C := RX11) (T := TX11) (N := 55) hx hb hts inX11 hown hK hP 0 rfl rfl 44 (Nat.le_of_ble_eq_true rfl) (hts _ mw_1203) (fun _ h9 => h9) rfl dX11_square_77 ?_
              refine lv_isub hx hb dX11_square_80 ?_
              refine lv_i2l (v := (x3 - x1).toInt64) hx hb dX11_square_81 (rfl) ?_
              refine lv_lmul hx hb dX11_square_82 ?_
              refine lv_aload_n hx hb dX11_square_83 rfl (lv_at hl 1 rfl) ?_
              refine va_get (D := (dC, dI)) (ci := 9) (v := .int x4) (C := RX11) (T := TX11) (N := 55) hx hb hts inX11 hown hK hP 0 rfl rfl 47 (Nat.le_of_ble_eq_true rfl) (hts _ mw_1206) (fun _ h9 => h9) rfl dX11_square_84 ?_
              refine lv_aload_n hx hb dX11_square_87 rfl (lv_at hl 1 rfl) ?_
              refine va_get (D := (dC, dI)) (ci := 9) (v := .int x2) (C := RX11) (T := TX11) (N := 55) hx hb hts inX11 hown hK hP 0 rfl rfl 45 (Nat.le_of_ble_eq_true rfl) (hts _ mw_1204) (fun _ h9 => h9) rfl dX11_square_88 ?_
              refine lv_isub hx hb dX11_square_91 ?_
              refine lv_i2l (v := (x4 - x2).toInt64) hx hb dX11_square_92 (rfl) ?_
              refine lv_lmul hx hb dX11_square_93 ?_
              refine lv_aload_n hx hb dX11_square_94 rfl (lv_at hl 1 rfl) ?_
              refine lv_iload_n hx hb dX11_square_95 rfl (lv_at hl 2 rfl) ?_
              obtain ⟨hPc, hDc, hFc⟩ := zo_sub (wc := [_, _, _, _, _]) hP hD hS hA [0, 11, 12, 13, 19] (by decide +kernel) rfl
              refine zcall (st1 := [.long (jI ((Int.natAbs (ar2 n (cF40 cx f) (cF40 cy f) n) : Nat) : Int)), .long ((2 * ((x3 - x1).toInt64)) * ((x4 - x2).toInt64))]) (va_runV (As := [.int (nI f)]) (rest := [.long ((2 * ((x3 - x1).toInt64)) * ((x4 - x2).toInt64))]) ⟨hx, hb, hml, hown, hts⟩ (k_M_area l dC dI cI cZ cF H.size k0 a (upd (upd (upd (upd I0 44 x1) 45 x2) 46 x3) 47 x4) J0 f n mn cx cy S0 (by first | with_reducible assumption | omega) (by first | with_reducible assumption | assumption) (by first | with_reducible assumption | omega) (by first | with_reducible assumption | assumption)) (csV_218 hts rfl rfl ⟨Nat.le_of_ble_eq_true rfl, Nat.le_of_ble_eq_true rfl⟩) (zPV2 (q0 := 0) (ci := 9) hPc hDc hK hXN rfl rfl) rfl rfl hl.1 rfl (lv_room (Nat.le_of_ble_eq_true rfl)) dX11_square_96 ⟨Nat.le_of_ble_eq_true rfl, Nat.le_of_ble_eq_true rfl⟩) hS hFc hFc rfl (fun t H locs ht hB hk1 hS => ?_)
              obtain ⟨S2, hP1, hD1⟩ := hB
              rw [ht] at hP1
              obtain ⟨hP, hD⟩ := zn (W2 := [_, _, _, _, _, _, _, _, _, _, _, _, _, _, _, _, _, _, _, (oa (a 32) cI 8 S2), _, _, _, _, _, _, _, _, _, _, _, _]) hP hD hk1 hFc hP1 hD1 [0, 11, 12, 13, 19] zl_249 zl_249 [0, 11, 12, 13, 19] (by decide +kernel) rfl rfl rfl rfl rfl
              clear hk1 hPc hDc hFc hP1 hD1 ht
              have hdfb := dfB_b hp_f hn_f.1 hn_f.2
              have hmsb := i32B ms
              refine lv_lsub hx hb dX11_square_99 ?_
              refine zz_l (v := jI (dfB n (cF40 cx f) (cF40 cy f))) (by rw [eb1, eb2, eb3, eb4]; exact sqL hp_f hn_f.1 hn_f.2) ?_
              refine lv_lstore (lv' := [(4, .long (jI (dfB n (cF40 cx f) (cF40 cy f)))), (3, .int 0), (0, .ref k0), (1, .int (nI f)), (2, .int ms)]) hx hb dX11_square_100 hl (Nat.le_of_ble_eq_true rfl) rfl (fun ls hl => ?_)
              refine lv_lload hx hb dX11_square_102 (lv_at hl 0 rfl) ?_
              refine lv_iload_n hx hb dX11_square_104 rfl (lv_at hl 4 rfl) ?_
              refine lv_i2l (v := ms.toInt64) hx hb dX11_square_105 (rfl) ?_
              refine zz_l (v := jI ms.toInt) (jI_of (i64 _)) ?_
              refine W.lcmp hx hb dX11_square_106 ?_
              refine lv_if_le (tgt := 116) hx hb dX11_square_107 rfl (fun c_7 => ?_) (fun c_7 => ?_)
              · have c_7 : (dfB n (cF40 cx f) (cF40 cy f)) ≤ ms.toInt := zl_le (jI_toInt (by omega)) (jI_toInt (by omega)) c_7
                refine lv_aload_n hx hb dX11_square_116 rfl (lv_at hl 2 rfl) ?_
                refine lv_iload_n hx hb dX11_square_117 rfl (lv_at hl 3 rfl) ?_
                obtain ⟨hPc, hDc, hFc⟩ := zo_sub (wc := [_, _, _, _, _, _, _, _, _, _, _, _, _]) hP hD hS hA [0, 2, 10, 1, 11, 12, 13, 19, 23, 24, 25, 26, 27] (by decide +kernel) rfl
                refine zcall (st1 := []) (va_runV (As := [.int (nI f)]) (rest := []) ⟨hx, hb, hml, hown, hts⟩ (k_M_remember l dC dI cI cZ cF H.size k0 a (upd (upd (upd (upd I0 44 x1) 45 x2) 46 x3) 47 x4) J0 f n ft st tn kd mn cx cy S2 ox oy mt wi ins (by first | with_reducible assumption | assumption) (by first | with_reducible assumption | omega) (by first | with_reducible assumption | omega) (by first | with_reducible assumption | assumption) (by first | with_reducible assumption | omega) (by first | with_reducible assumption | assumption) (fun q h1 _ => hwf q h1)) (csV_190 hts rfl rfl ⟨Nat.le_of_ble_eq_true rfl, Nat.le_of_ble_eq_true rfl⟩) (zPV2 (q0 := 0) (ci := 9) hPc hDc hK hXN rfl rfl) rfl rfl hl.1 rfl (lv_room (Nat.le_of_ble_eq_true rfl)) dX11_square_118 ⟨Nat.le_of_ble_eq_true rfl, Nat.le_of_ble_eq_true rfl⟩) hS hFc hFc rfl (fun t H locs ht hB hk1 hS => ?_)
                refine ex6 hB (fun S1 ox1 oy1 mt1 wi1 ins1 hB0 => ?_)
                clear hB
                obtain ⟨hox, hmt, hwi, hin, hP1, hD1⟩ := hB0
                rw [ht] at hP1
                obtain ⟨hP, hD⟩ := zn (W2 := [(om k0 a (upd (upd (upd (upd (upd (upd I0 35 (nI n)) 36 (kd f)) 44 x1) 45 x2) 46 x3) 47 x4) J0), _, _, _, _, _, _, _, _, _, _, _, _, _, _, _, _, _, _, (oa (a 32) cI 8 S1), _, _, _, (oa (a 33) cI 42 ox1), (oa (a 34) cI 42 oy1), (oa (a 37) cZ 201 mt1), (oa (a 38) cZ 201 wi1), (oa (a 39) cZ 8040 ins1), _, _, _, _]) hP hD hk1 hFc hP1 hD1 zl_194 zl_195 zl_195 zl_194 (by decide +kernel) rfl rfl rfl rfl rfl
                clear hk1 hPc hDc hFc hP1 hD1 ht
                refine lv_aload_n hx hb dX11_square_121 rfl (lv_at hl 2 rfl) ?_
                refine lv_iload_n hx hb dX11_square_122 rfl (lv_at hl 3 rfl) ?_
                obtain ⟨hPc, hDc, hFc⟩ := zo_sub (wc := [_, _, _, _, _]) hP hD hS hA [0, 1, 11, 12, 13] (by decide +kernel) rfl
                refine zcall (st1 := []) (va_runV (As := [.int (nI f)]) (rest := []) ⟨hx, hb, hml, hown, hts⟩ (k_M_layBox l dC dI cI cZ cF H.size k0 a (upd (upd (upd (upd (upd (upd I0 35 (nI n)) 36 (kd f)) 44 x1) 45 x2) 46 x3) 47 x4) J0 f kd mn cx cy (by first | with_reducible assumption | omega)) (csV_222 hts rfl rfl ⟨Nat.le_of_ble_eq_true rfl, Nat.le_of_ble_eq_true rfl⟩) (zPV2 (q0 := 0) (ci := 9) hPc hDc hK hXN rfl rfl) rfl rfl hl.1 rfl (lv_room (Nat.le_of_ble_eq_true rfl)) dX11_square_123 ⟨Nat.le_of_ble_eq_true rfl, Nat.le_of_ble_eq_true rfl⟩) hS hFc hFc rfl (fun t H locs ht hB hk1 hS => ?_)
                obtain ⟨hP1, hD1⟩ := hB
                rw [ht] at hP1
                obtain ⟨hP, hD⟩ := zn (W2 := [_, (oa (a 1) cI 201 (upd kd f 6)), _, _, _, _, _, _, _, _, _, (oa (a 11) cI 201 (upd mn f 4)), (oa (a 12) cI 8040 (bxX f (x1) (x3) 4 cx)), (oa (a 13) cI 8040 (bxY f (x2) (x4) 4 cy)), _, _, _, _, _, _, _, _, _, _, _, _, _, _, _, _, _, _]) hP hD hk1 hFc hP1 hD1 [0, 1, 11, 12, 13] zl_250 zl_250 [0, 1, 11, 12, 13] (by decide +kernel) rfl rfl rfl rfl rfl
                clear hk1 hPc hDc hFc hP1 hD1 ht
                refine lv_aload_n hx hb dX11_square_126 rfl (lv_at hl 2 rfl) ?_
                refine lv_iload_n hx hb dX11_square_127 rfl (lv_at hl 3 rfl) ?_
                refine lv_iconst (v := 5) hx hb dX11_square_128 rfl ?_
                have hum : upd (upd mn f 4) f (nI n) = mn := upd_back hm_f
                have huk : upd (upd kd f 6) f (kd f) = kd := upd_back rfl
                have hpo : pls n ox1 oy1 := fun j hj => by rw [(hox j hj).1, (hox j hj).2]; exact hp_f j hj
                have hbo : ∀ j, (j < 40 * f ∨ 40 * f + 40 ≤ j) → (bxX f x1 x3 4 cx) j = cx j ∧ (bxY f x2 x4 4 cy) j = cy j := fun j hj => ⟨bxX_o (by omega), bxY_o (by omega)⟩
                have hwf2 : ∀ q, lvF ft st tn q → q ≠ f → wfM (upd mn f 4) (bxX f x1 x3 4 cx) (bxY f x2 x4 4 cy) q := fun q h1 h2 => wfM_o (hwf q h1) h2 (fun j hj => if_neg hj) hbo
                have hlq : lwA ft st tn (upd kd f 6) (upd mn f 4) (bxX f x1 x3 4 cx) (bxY f x2 x4 4 cy) f 4 (ox1 0) (oy1 0) (bMt kd mn cx cy f n) (bWi kd mn cx cy f) (bIn kd cx cy f n) sW0 = lwS ft st tn kd mn cx cy f n := (by rw [(hox 0 (by omega)).1, (hox 0 (by omega)).2, eb1, eb2, eb3, eb4]; rfl)
                have hbx : fgX f n ox1 (bxX f x1 x3 4 cx) = fgX f n (cF40 cx f) (bxX f x1 x3 4 cx) := fgX_cg (fun k9 h9 => (hox k9 h9).1)
                have hby : fgX f n oy1 (bxY f x2 x4 4 cy) = fgX f n (cF40 cy f) (bxY f x2 x4 4 cy) := fgX_cg (fun k9 h9 => (hox k9 h9).2)
                obtain ⟨hPc, hDc, hFc⟩ := zo_sub (wc := [_, _, _, _, _, _, _, _, _, _, _, _, _, _, _, _, _, _, _, _, _, _, _, _, _, _, _, _, _, _, _, _]) hP hD hS hA [0, 1, 2, 3, 4, 5, 6, 7, 8, 9, 10, 11, 12, 13, 14, 15, 16, 17, 18, 19, 20, 21, 22, 23, 24, 25, 26, 27, 28, 29, 30, 31] (by decide +kernel) rfl
                refine zcall (st1 := [.int 0]) (va_runV (As := [.int (nI f), .int 5]) (rest := []) ⟨hx, hb, hml, hown, hts⟩ (k_M_changes_sn l dC dI cI cZ cF H.size k0 a (upd (upd (upd (upd (upd (upd I0 35 (nI n)) 36 (kd f)) 44 x1) 45 x2) 46 x3) 47 x4) J0 f 4 ft n (kd f) (upd kd f 6) st gb it pa pb rk wd tw tn (upd mn f 4) (bxX f (x1) (x3) 4 cx) (bxY f (x2) (x4) 4 cy) sa sh wh of9 we S1 T0 P0 Q0 ox1 oy1 mt1 wi1 ins1 la lb lc ld (bMt kd mn cx cy f n) (bWi kd mn cx cy f) (bIn kd cx cy f n) cp cl (hft) (by first | with_reducible assumption | omega) (by first | with_reducible assumption | omega) ((up_at _ _ _).trans rfl) (by first | with_reducible assumption | omega) (hwf2) (by first | with_reducible assumption | omega) (by first | with_reducible assumption | omega) (hpo) (hmt) (fun q h1 h2 h5 => by rw [hwi q h1 h2]; exact zp_iff ⟨fun h => h.2, fun h => ⟨by rw [show upd kd f 6 q = kd q from if_neg h2] at h5; exact h5, h⟩⟩) (fun q h1 h2 i hi h5 => hin q h1 h2 (by first | with_reducible assumption | omega) i (by rw [show upd mn f 4 q = mn q from if_neg h2] at hi; exact hi)) (hft_f) (by rw [hlq]; exact hlaw)) (csV_212 hts rfl rfl ⟨Nat.le_of_ble_eq_true rfl, Nat.le_of_ble_eq_true rfl⟩) (zPV2 (q0 := 0) (ci := 9) hPc hDc hK hXN rfl rfl) rfl rfl hl.1 rfl (lv_room (Nat.le_of_ble_eq_true rfl)) dX11_square_129 ⟨Nat.le_of_ble_eq_true rfl, Nat.le_of_ble_eq_true rfl⟩) hS hFc hFc rfl (fun t H locs ht hB hk1 hS => ?_)
                obtain ⟨z8, S3, T2, P2, Q2, hP1, hD1⟩ := hB
                rw [ht] at hP1
                obtain ⟨hP, hD⟩ := zn (W2 := [(om k0 a (upd (upd (upd (upd (upd (upd (upd (upd (upd I0 14 7) 15 (I0 15 + 1)) 31 z8) 35 (nI n)) 36 (kd f)) 44 x1) 45 x2) 46 x3) 47 x4) J0), (oa (a 1) cI 201 (upd (upd kd f 6) f (kd f))), _, _, _, _, _, _, _, _, _, (oa (a 11) cI 201 (upd (upd mn f 4) f (nI n))), (oa (a 12) cI 8040 (fgX f n ox1 (bxX f (x1) (x3) 4 cx))), (oa (a 13) cI 8040 (fgX f n oy1 (bxY f (x2) (x4) 4 cy))), _, _, _, _, _, (oa (a 32) cI 8 S3), (oa (a 40) cI 6 T2), (oa (a 29) cI 42 P2), (oa (a 30) cI 42 Q2), _, _, _, _, _, _, _, _, _]) hP hD hk1 hFc hP1 hD1 zl_196 [] zl_197 zl_196 (by decide +kernel) rfl rfl rfl rfl rfl
                clear hk1 hPc hDc hFc hP1 hD1 ht
                obtain ⟨hP9, hD9⟩ := zu_sub (wc := [(om k0 a (upd (upd (upd (upd (upd (upd (upd (upd (upd I0 14 7) 15 (I0 15 + 1)) 31 z8) 35 (nI n)) 36 (kd f)) 44 x1) 45 x2) 46 x3) 47 x4) J0), (oa (a 1) cI 201 (upd (upd kd f 6) f (kd f))), (oa (a 5) cI 201 st), (oa (a 7) cI 201 gb), (oa (a 10) cI 201 it), (oa (a 8) cI 201 pa), (oa (a 9) cI 201 pb), (oa (a 2) cI 201 rk), (oa (a 3) cI 201 wd), (oa (a 4) cI 201 tw), (oa (a 6) cZ 201 tn), (oa (a 11) cI 201 (upd (upd mn f 4) f (nI n))), (oa (a 12) cI 8040 (fgX f n ox1 (bxX f (x1) (x3) 4 cx))), (oa (a 13) cI 8040 (fgX f n oy1 (bxY f (x2) (x4) 4 cy))), (oa (a 27) cI 516 sa), (oa (a 28) cI (4096 * cp) sh), (oa (a 16) cI 514 wh), (oa (a 17) cI 514 of9), (oa (a 18) cI 514 we), (oa (a 32) cI 8 S3), (oa (a 40) cI 6 T2), (oa (a 29) cI 42 P2), (oa (a 30) cI 42 Q2), (oa (a 33) cI 42 ox1), (oa (a 34) cI 42 oy1), (oa (a 37) cZ 201 mt1), (oa (a 38) cZ 201 wi1), (oa (a 39) cZ 8040 ins1), (oa (a 22) cI (64 * cl) la), (oa (a 23) cI (64 * cl) lb), (oa (a 24) cI (64 * cl) lc), (oa (a 25) cI (64 * cl) ld)]) hP hD (true :: true :: true :: true :: true :: true :: true :: true :: true :: true :: true :: true :: true :: true :: true :: true :: true :: true :: true :: true :: true :: true :: true :: true :: true :: true :: true :: true :: true :: true :: true :: true :: []) rfl rfl
                have hE9 : ([(om k0 a (upd (upd (upd (upd (upd (upd (upd (upd (upd I0 14 7) 15 (I0 15 + 1)) 31 z8) 35 (nI n)) 36 (kd f)) 44 x1) 45 x2) 46 x3) 47 x4) J0), (oa (a 1) cI 201 (upd (upd kd f 6) f (kd f))), (oa (a 5) cI 201 st), (oa (a 7) cI 201 gb), (oa (a 10) cI 201 it), (oa (a 8) cI 201 pa), (oa (a 9) cI 201 pb), (oa (a 2) cI 201 rk), (oa (a 3) cI 201 wd), (oa (a 4) cI 201 tw), (oa (a 6) cZ 201 tn), (oa (a 11) cI 201 (upd (upd mn f 4) f (nI n))), (oa (a 12) cI 8040 (fgX f n ox1 (bxX f (x1) (x3) 4 cx))), (oa (a 13) cI 8040 (fgX f n oy1 (bxY f (x2) (x4) 4 cy))), (oa (a 27) cI 516 sa), (oa (a 28) cI (4096 * cp) sh), (oa (a 16) cI 514 wh), (oa (a 17) cI 514 of9), (oa (a 18) cI 514 we), (oa (a 32) cI 8 S3), (oa (a 40) cI 6 T2), (oa (a 29) cI 42 P2), (oa (a 30) cI 42 Q2), (oa (a 33) cI 42 ox1), (oa (a 34) cI 42 oy1), (oa (a 37) cZ 201 mt1), (oa (a 38) cZ 201 wi1), (oa (a 39) cZ 8040 ins1), (oa (a 22) cI (64 * cl) la), (oa (a 23) cI (64 * cl) lb), (oa (a 24) cI (64 * cl) lc), (oa (a 25) cI (64 * cl) ld)] : va_W) = [(om k0 a (upd (upd (upd (upd (upd (upd (upd (upd (upd I0 14 7) 15 (I0 15 + 1)) 31 z8) 35 (nI n)) 36 (kd f)) 44 x1) 45 x2) 46 x3) 47 x4) J0), (oa (a 1) cI 201 kd), (oa (a 5) cI 201 st), (oa (a 7) cI 201 gb), (oa (a 10) cI 201 it), (oa (a 8) cI 201 pa), (oa (a 9) cI 201 pb), (oa (a 2) cI 201 rk), (oa (a 3) cI 201 wd), (oa (a 4) cI 201 tw), (oa (a 6) cZ 201 tn), (oa (a 11) cI 201 mn), (oa (a 12) cI 8040 (fgX f n (cF40 cx f) (bxX f x1 x3 4 cx))), (oa (a 13) cI 8040 (fgX f n (cF40 cy f) (bxY f x2 x4 4 cy))), (oa (a 27) cI 516 sa), (oa (a 28) cI (4096 * cp) sh), (oa (a 16) cI 514 wh), (oa (a 17) cI 514 of9), (oa (a 18) cI 514 we), (oa (a 32) cI 8 S3), (oa (a 40) cI 6 T2), (oa (a 29) cI 42 P2), (oa (a 30) cI 42 Q2), (oa (a 33) cI 42 ox1), (oa (a 34) cI 42 oy1), (oa (a 37) cZ 201 mt1), (oa (a 38) cZ 201 wi1), (oa (a 39) cZ 8040 ins1), (oa (a 22) cI (64 * cl) la), (oa (a 23) cI (64 * cl) lb), (oa (a 24) cI (64 * cl) lc), (oa (a 25) cI (64 * cl) ld)] := by rw [hum, huk, hbx, hby]
                rw [hE9] at hP9 hD9
                rw [hQ9]
                exact W.zret (ty := .boolean) (v := 0) hx hb hr (rfl) (fun t ht hW => ⟨⟨rfl, z8, S3, T2, P2, Q2, ox1, oy1, mt1, wi1, ins1, x1, x2, x3, x4, (eb1), (eb2), (eb3), (eb4), by rw [ht]; exact hP9, hD9⟩, hS.F ht⟩) hS.2.2 dX11_square_132
              · have c_7 : ms.toInt < (dfB n (cF40 cx f) (cF40 cy f)) := zl_nle (jI_toInt (by omega)) (jI_toInt (by omega)) c_7
                exfalso; omega
            · have c_6 : ¬ (tn f).toInt = 0 := zc_ne rfl rfl c_6
              exfalso; omega
          · exact absurd (by decide) c_5
        · have c_4 : ms.toInt < 0 := zc_nle rfl rfl c_4
          exfalso; omega
      · have c_3 : ¬ (kd f).toInt = 5 := zc_ne rfl rfl c_3
        exfalso; omega
    · exact absurd (by decide) c_1
  · skip
    refine lv_istore_n (lv' := [(3, .int 2), (0, .ref k0), (1, .int (nI f)), (2, .int ms)]) hx hb dX11_square_5 rfl hl (Nat.le_of_ble_eq_true rfl) rfl (fun ls hl => ?_)
    refine lv_iload_n hx hb dX11_square_6 rfl (lv_at hl 0 rfl) ?_
    refine lv_if_le (tgt := 14) hx hb dX11_square_7 rfl (fun c_8 => ?_) (fun c_8 => ?_)
    · exact absurd c_8 (by decide)
    · exfalso; omega
set_option maxHeartbeats 4000000 in
set_option maxRecDepth 100000 in
theorem k_M_square_y (l : Launch) (dC : Nat → ClassId) (dI : Nat → Nat → Nat) (cI cZ cF : ClassId) (sz : Nat) (k0 : Nat) (a : Nat → Nat) (I0 : Nat → Int32) (J0 : Nat → Int64) (f : Nat) (n : Nat) (ft : Nat) (ms : Int32) (kd : Nat → Int32) (st : Nat → Int32) (gb : Nat → Int32) (it : Nat → Int32) (pa : Nat → Int32) (pb : Nat → Int32) (rk : Nat → Int32) (wd : Nat → Int32) (tw : Nat → Int32) (tn : Nat → Int32) (mn : Nat → Int32) (cx : Nat → Int32) (cy : Nat → Int32) (sa : Nat → Int32) (sh : Nat → Int32) (wh : Nat → Int32) (of9 : Nat → Int32) (we : Nat → Int32) (S0 : Nat → Int32) (T0 : Nat → Int32) (P0 : Nat → Int32) (Q0 : Nat → Int32) (ox : Nat → Int32) (oy : Nat → Int32) (mt : Nat → Int32) (wi : Nat → Int32) (ins : Nat → Int32) (la : Nat → Int32) (lb : Nat → Int32) (lc : Nat → Int32) (ld : Nat → Int32) (dn : Nat) (bs : Nat) (w0 : Nat) (cp : Nat) (c1 : Nat) (c2 : Nat) (ln : Nat) (cl : Nat) (hft : I0 0 = nI ft) (h200 : ft ≤ 200) (hf_f : f ≤ 200) (hm_f : mn f = nI n) (hn_f : 1 ≤ n ∧ n ≤ 40) (hp_f : pls n (cF40 cx f) (cF40 cy f)) (hft_f : f < ft) (hwf : ∀ q, lvF ft st tn q → wfM mn cx cy q) (hst1 : (st f).toInt = 1) (htn0 : (tn f).toInt = 0) (hkd5 : (kd f).toInt = 5) (hms : 0 ≤ ms.toInt) (hdf : dfB n (cF40 cx f) (cF40 cy f) ≤ ms.toInt) (hdn : I0 19 = nI dn) (hbs : I0 21 = nI bs) (hbd : bs ≤ dn) (hd512 : dn ≤ 512) (hi5_1 : (dn - bs) < 515) (hsa_1 : sa (dn - bs) = nI w0) (hmn_1 : ∀ v9, v9 < ft → (tn v9).toInt = 0 → ¬ (st v9).toInt = 0 → mn v9 = nI (nN (mn v9)) ∧ nN (mn v9) ≤ 40) (hc1_1 : 1 ≤ cp) (hpw_1 : pw cp c1) (hw0_1 : w0 ≤ 4096 * cp) (hfit_1 : psN (nnF st tn mn) w0 ft ≤ 4096 * c1) (hmin_1 : c1 = cp ∨ 2048 * c1 < psN (nnF st tn mn) w0 ft) (hcE_1 : c1 ≤ 512) (hpw_2 : pw c1 c2) (hfit_2 : psN (nnF st tn (upd mn f 4)) (psN (nnF st tn mn) w0 ft) ft ≤ 4096 * c2) (hmin_2 : c2 = c1 ∨ 2048 * c2 < psN (nnF st tn (upd mn f 4)) (psN (nnF st tn mn) w0 ft) ft) (hcE_2 : c2 ≤ 512) (hlc : ln ≤ 64 * cl) (hcl1 : 1 ≤ cl) (hclm : cl ≤ 1000000) (hlaw : lwS ft st tn kd mn cx cy f n) : zM l yX11_square cX11_square 6 (some .boolean) ({ frames := 7, cells := c2 - cp, slots := 8192 * (c2 - cp), locals := 183 } : Room) [.ref k0, .int (nI f), .int ms] (dC, dI) (zTy cI cZ cF) [(om k0 a (upd I0 26 (nI ln)) J0), (oa (a 1) cI 201 kd), (oa (a 5) cI 201 st), (oa (a 7) cI 201 gb), (oa (a 10) cI 201 it), (oa (a 8) cI 201 pa), (oa (a 9) cI 201 pb), (oa (a 2) cI 201 rk), (oa (a 3) cI 201 wd), (oa (a 4) cI 201 tw), (oa (a 6) cZ 201 tn), (oa (a 11) cI 201 mn), (oa (a 12) cI 8040 cx), (oa (a 13) cI 8040 cy), (oa (a 27) cI 516 sa), (oa (a 28) cI (4096 * cp) sh), (oa (a 16) cI 514 wh), (oa (a 17) cI 514 of9), (oa (a 18) cI 514 we), (oa (a 32) cI 8 S0), (oa (a 40) cI 6 T0), (oa (a 29) cI 42 P0), (oa (a 30) cI 42 Q0), (oa (a 33) cI 42 ox), (oa (a 34) cI 42 oy), (oa (a 37) cZ 201 mt), (oa (a 38) cZ 201 wi), (oa (a 39) cZ 8040 ins), (oa (a 22) cI (64 * cl) la), (oa (a 23) cI (64 * cl) lb), (oa (a 24) cI (64 * cl) lc), (oa (a 25) cI (64 * cl) ld)] sz (some (.int 1)) (fun A t => ∃ (z9 : Int32), ∃ (b2 : Nat), ∃ (sh2 : Nat → Int32), ∃ (t9 : Nat), ∃ (S1 : Nat → Int32), ∃ (T1 : Nat → Int32), ∃ (P1 : Nat → Int32), ∃ (Q1 : Nat → Int32), ∃ (ox1 : Nat → Int32), ∃ (oy1 : Nat → Int32), ∃ (mt1 : Nat → Int32), ∃ (wi1 : Nat → Int32), ∃ (ins1 : Nat → Int32), ∃ (la1 : Nat → Int32), ∃ (lb1 : Nat → Int32), ∃ (lc1 : Nat → Int32), ∃ (ld1 : Nat → Int32), ∃ (x1 : Int32), ∃ (x2 : Int32), ∃ (x3 : Int32), ∃ (x4 : Int32), (x1 = iI (mnI (cF40 cx f 0).toInt (cF40 cx f) n)) ∧ (x2 = iI (mnI (cF40 cy f 0).toInt (cF40 cy f) n)) ∧ (x3 = iI (mxI (cF40 cx f 0).toInt (cF40 cx f) n)) ∧ (x4 = iI (mxI (cF40 cy f 0).toInt (cF40 cy f) n)) ∧ (sh2 w0 = nI ft) ∧ (∀ j, j < w0 → sh2 j = sh j) ∧ (∀ g, g < ft → ∀ j, j < 10 + 2 * (nnF st tn mn) g → sh2 (psN (nnF st tn mn) w0 g + j) = (shD kd st gb it pa pb rk wd tw (nnF st tn mn) cx cy) g j) ∧ (sh2 (psN (nnF st tn mn) w0 ft) = nI ft) ∧ (∀ g, g < ft → ∀ j, j < 10 + 2 * (nnF st tn (upd mn f 4)) g → sh2 (psN (nnF st tn (upd mn f 4)) (psN (nnF st tn mn) w0 ft) g + j) = (shD (upd kd f 6) st gb it pa pb rk wd tw (nnF st tn (upd mn f 4)) (bxX f x1 x3 4 cx) (bxY f x2 x4 4 cy)) g j) ∧ (t9 ≤ ln) ∧ (∀ j, j < t9 → ∃ i, i < ln ∧ lb1 j = lb i ∧ lc1 j = lc i) ∧ zPD (dC, dI) classes A [(om k0 (va_up a 28 b2) (upd (upd (upd (upd (upd (upd (upd (upd (upd (upd (upd (upd I0 14 0) 19 (nI (dn + 1))) 20 0) 26 (nI t9)) 31 z9) 35 (nI n)) 36 (kd f)) 41 (nI (psN (nnF st tn (upd mn f 4)) (psN (nnF st tn mn) w0 ft) ft))) 44 x1) 45 x2) 46 x3) 47 x4) J0), (oa (a 1) cI 201 (upd kd f 6)), (oa (a 5) cI 201 st), (oa (a 7) cI 201 gb), (oa (a 10) cI 201 it), (oa (a 8) cI 201 pa), (oa (a 9) cI 201 pb), (oa (a 2) cI 201 rk), (oa (a 3) cI 201 wd), (oa (a 4) cI 201 tw), (oa (a 6) cZ 201 tn), (oa (a 11) cI 201 (upd mn f 4)), (oa (a 12) cI 8040 (bxX f x1 x3 4 cx)), (oa (a 13) cI 8040 (bxY f x2 x4 4 cy)), (oa (a 27) cI 516 (upd (upd sa (dn - bs + 1) (nI (psN (nnF st tn mn) w0 ft))) (dn + 1 - bs + 1) (nI (psN (nnF st tn (upd mn f 4)) (psN (nnF st tn mn) w0 ft) ft)))), (oa b2 cI (4096 * c2) sh2), (oa (a 16) cI 514 (upd wh (dn + 1) (5 : Int32))), (oa (a 17) cI 514 (upd of9 (dn + 1) (nI f))), (oa (a 18) cI 514 (upd we (dn + 1) (0 : Int32))), (oa (a 32) cI 8 S1), (oa (a 40) cI 6 T1), (oa (a 29) cI 42 P1), (oa (a 30) cI 42 Q1), (oa (a 33) cI 42 ox1), (oa (a 34) cI 42 oy1), (oa (a 37) cZ 201 mt1), (oa (a 38) cZ 201 wi1), (oa (a 39) cZ 8040 ins1), (oa (a 22) cI (64 * cl) la1), (oa (a 23) cI (64 * cl) lb1), (oa (a 24) cI (64 * cl) lc1), (oa (a 25) cI (64 * cl) ld1)] t.heap) (c2 - cp) (8192 * (c2 - cp)) := by
  refine zIn (own := "ScaleShopModel") (loc := [(0, .ref k0), (1, .int (nI f)), (2, .int ms)]) rfl rfl rfl rfl (fun p e s m below meth c hx hb hr hts hown hlocks hml hnm9 A hA hS hP hD hK hXN Q9 hQ9 ls hl => ?_)
  have hq1 := pw_le hpw_1
  have hq2 := pw_le hpw_2
  refine lv_aload_n hx hb dX11_square_0 rfl (lv_at hl 0 rfl) ?_
  refine lv_iload_n hx hb dX11_square_1 rfl (lv_at hl 1 rfl) ?_
  obtain ⟨hPc, hDc, hFc, hI1⟩ := zi_sub (wc := [_, _]) hP hD hS hA [0, 2] rfl rfl
  refine zcall (st1 := [.int (wrN (st f))]) (va_runV (As := [.int (nI f)]) (rest := []) ⟨hx, hb, hml, hown, hts⟩ (k_M_wrong l dC dI cI cZ cF s.heap.size k0 a (upd I0 26 (nI ln)) J0 f ft st (by first | with_reducible assumption | assumption) (by first | with_reducible assumption | omega) (by first | with_reducible assumption | omega)) (csV_209 hts rfl rfl ⟨Nat.le_of_ble_eq_true rfl, Nat.le_of_ble_eq_true rfl⟩) (zPV2 (q0 := 0) (ci := 9) hPc hDc hK hXN rfl rfl) rfl rfl hl.1 rfl (lv_room (Nat.le_of_ble_eq_true rfl)) dX11_square_2 ⟨Nat.zero_le _, Nat.zero_le _⟩) hS hFc hFc rfl (fun t H locs ht hB hk1 hS => ?_)
  obtain ⟨hP1, hD1⟩ := hB
  rw [ht] at hP1
  replace hP := z0 hP hD hk1 hP1 hI1
  clear hk1 hPc hDc hFc hP1 hD1 ht hI1
  refine zz_i2 (wrN_s (st f)) (fun hs9 => ?_) (fun hs9 => ?_)
  · skip
    refine lv_istore_n (lv' := [(3, .int 0), (0, .ref k0), (1, .int (nI f)), (2, .int ms)]) hx hb dX11_square_5 rfl hl (Nat.le_of_ble_eq_true rfl) rfl (fun ls hl => ?_)
    refine lv_iload_n hx hb dX11_square_6 rfl (lv_at hl 0 rfl) ?_
    refine lv_if_le (tgt := 14) hx hb dX11_square_7 rfl (fun c_1 => ?_) (fun c_1 => ?_)
    · refine lv_aload_n hx hb dX11_square_14 rfl (lv_at hl 1 rfl) ?_
      refine va_get (D := (dC, dI)) (ci := 9) (v := .ref (a 1)) (C := RX11) (T := TX11) (N := 55) hx hb hts inX11 hown hK hP 0 rfl rfl 1 (Nat.le_of_ble_eq_true rfl) (hts _ mw_1160) (fun _ h9 => h9) rfl dX11_square_15 ?_
      refine lv_iload_n hx hb dX11_square_18 rfl (lv_at hl 2 rfl) ?_
      have b9_2 : f < 201 := by omega
      refine z_iald hx hb hK hP 1 0 rfl rfl (e := f) rfl b9_2 (Nat.le_of_ble_eq_true rfl) dX11_square_19 ?_
      refine lv_iconst (v := 5) hx hb dX11_square_20 rfl ?_
      refine lv_icmp_eq (tgt := 28) hx hb dX11_square_21 rfl (fun c_3 => ?_) (fun c_3 => ?_)
      · have c_3 : (kd f).toInt = 5 := zc_eq rfl rfl c_3
        refine lv_iload_n hx hb dX11_square_28 rfl (lv_at hl 3 rfl) ?_
        refine lv_if_ge (tgt := 36) hx hb dX11_square_29 rfl (fun c_4 => ?_) (fun c_4 => ?_)
        · have c_4 : 0 ≤ ms.toInt := zc_le rfl rfl c_4
          refine lv_iconst (v := 0) hx hb dX11_square_36 rfl ?_
          refine lv_istore_n (lv' := [(3, .int 0), (0, .ref k0), (1, .int (nI f)), (2, .int ms)]) hx hb dX11_square_37 rfl hl (Nat.le_of_ble_eq_true rfl) rfl (fun ls hl => ?_)
          refine lv_iload_n hx hb dX11_square_38 rfl (lv_at hl 0 rfl) ?_
          refine lv_if_le (tgt := 48) hx hb dX11_square_39 rfl (fun c_5 => ?_) (fun c_5 => ?_)
          · refine lv_aload_n hx hb dX11_square_48 rfl (lv_at hl 1 rfl) ?_
            refine va_get (D := (dC, dI)) (ci := 9) (v := .ref (a 6)) (C := RX11) (T := TX11) (N := 55) hx hb hts inX11 hown hK hP 0 rfl rfl 6 (Nat.le_of_ble_eq_true rfl) (hts _ mw_1165) (fun _ h9 => h9) rfl dX11_square_49 ?_
            refine lv_iload_n hx hb dX11_square_52 rfl (lv_at hl 2 rfl) ?_
            refine z_zald hx hb hK hP 10 1 rfl rfl (e := f) rfl b9_2 (Nat.le_of_ble_eq_true rfl) dX11_square_53 ?_
            refine lv_if_eq (tgt := 63) hx hb dX11_square_54 rfl (fun c_6 => ?_) (fun c_6 => ?_)
            · have c_6 : (tn f).toInt = 0 := zc_eq rfl rfl c_6
              refine lv_aload_n hx hb dX11_square_63 rfl (lv_at hl 1 rfl) ?_
              refine lv_iload_n hx hb dX11_square_64 rfl (lv_at hl 2 rfl) ?_
              refine lv_iconst (v := 1) hx hb dX11_square_65 rfl ?_
              obtain ⟨hPc, hDc, hFc⟩ := zo_sub (wc := [_, _, _, _]) hP hD hS hA [0, 11, 12, 13] (by decide +kernel) rfl
              refine zcall (st1 := []) (va_runV (As := [.int (nI f), .int 1]) (rest := []) ⟨hx, hb, hml, hown, hts⟩ (k_M_box_v l dC dI cI cZ cF H.size k0 a (upd I0 26 (nI ln)) J0 f n mn cx cy (by first | with_reducible assumption | omega) (by first | with_reducible assumption | assumption) (by first | with_reducible assumption | omega) (by first | with_reducible assumption | assumption)) (csV_221 hts rfl rfl ⟨Nat.le_of_ble_eq_true rfl, Nat.le_of_ble_eq_true rfl⟩) (zPV2 (q0 := 0) (ci := 9) hPc hDc hK hXN rfl rfl) rfl rfl hl.1 rfl (lv_room (Nat.le_of_ble_eq_true rfl)) dX11_square_66 ⟨Nat.zero_le _, Nat.zero_le _⟩) hS hFc hFc rfl (fun t H locs ht hB hk1 hS => ?_)
              obtain ⟨x1, x2, x3, x4, eb1, eb2, eb3, eb4, hP1, hD1⟩ := hB
              rw [ht] at hP1
              obtain ⟨hP, hD⟩ := zn (W2 := [(om k0 a (upd (upd (upd (upd (upd I0 26 (nI ln)) 44 x1) 45 x2) 46 x3) 47 x4) J0), _, _, _, _, _, _, _, _, _, _, _, _, _, _, _, _, _, _, _, _, _, _, _, _, _, _, _, _, _, _, _]) hP hD hk1 hFc hP1 hD1 [0, 11, 12, 13] zl_248 zl_248 [0, 11, 12, 13] (by decide +kernel) rfl rfl rfl rfl rfl
              clear hk1 hPc hDc hFc hP1 hD1 ht
              refine lv_ldc2 hx hb hown (hts _ mw_1575) dX11_square_69 ?_
              refine lv_aload_n hx hb dX11_square_72 rfl (lv_at hl 1 rfl) ?_
              refine va_get (D := (dC, dI)) (ci := 9) (v := .int x3) (C := RX11) (T := TX11) (N := 55) hx hb hts inX11 hown hK hP 0 rfl rfl 46 (Nat.le_of_ble_eq_true rfl) (hts _ mw_1205) (fun _ h9 => h9) rfl dX11_square_73 ?_
              refine lv_aload_n hx hb dX11_square_76 rfl (lv_at hl 1 rfl) ?_
              refine va_get (D := (dC, dI)) (ci := 9) (v := .int x1) (C := RX11) (T := TX11) (N := 55) hx hb hts inX11 hown hK hP 0 rfl rfl 44 (Nat.le_of_ble_eq_true rfl) (hts _ mw_1203) (fun _ h9 => h9) rfl dX11_square_77 ?_
              refine lv_isub hx hb dX11_square_80 ?_
              refine lv_i2l (v := (x3 - x1).toInt64) hx hb dX11_square_81 (rfl) ?_
              refine lv_lmul hx hb dX11_square_82 ?_
              refine lv_aload_n hx hb dX11_square_83 rfl (lv_at hl 1 rfl) ?_
              refine va_get (D := (dC, dI)) (ci := 9) (v := .int x4) (C := RX11) (T := TX11) (N := 55) hx hb hts inX11 hown hK hP 0 rfl rfl 47 (Nat.le_of_ble_eq_true rfl) (hts _ mw_1206) (fun _ h9 => h9) rfl dX11_square_84 ?_
              refine lv_aload_n hx hb dX11_square_87 rfl (lv_at hl 1 rfl) ?_
              refine va_get (D := (dC, dI)) (ci := 9) (v := .int x2) (C := RX11) (T := TX11) (N := 55) hx hb hts inX11 hown hK hP 0 rfl rfl 45 (Nat.le_of_ble_eq_true rfl) (hts _ mw_1204) (fun _ h9 => h9) rfl dX11_square_88 ?_
              refine lv_isub hx hb dX11_square_91 ?_
              refine lv_i2l (v := (x4 - x2).toInt64) hx hb dX11_square_92 (rfl) ?_
              refine lv_lmul hx hb dX11_square_93 ?_
              refine lv_aload_n hx hb dX11_square_94 rfl (lv_at hl 1 rfl) ?_
              refine lv_iload_n hx hb dX11_square_95 rfl (lv_at hl 2 rfl) ?_
              obtain ⟨hPc, hDc, hFc⟩ := zo_sub (wc := [_, _, _, _, _]) hP hD hS hA [0, 11, 12, 13, 19] (by decide +kernel) rfl
              refine zcall (st1 := [.long (jI ((Int.natAbs (ar2 n (cF40 cx f) (cF40 cy f) n) : Nat) : Int)), .long ((2 * ((x3 - x1).toInt64)) * ((x4 - x2).toInt64))]) (va_runV (As := [.int (nI f)]) (rest := [.long ((2 * ((x3 - x1).toInt64)) * ((x4 - x2).toInt64))]) ⟨hx, hb, hml, hown, hts⟩ (k_M_area l dC dI cI cZ cF H.size k0 a (upd (upd (upd (upd (upd I0 26 (nI ln)) 44 x1) 45 x2) 46 x3) 47 x4) J0 f n mn cx cy S0 (by first | with_reducible assumption | omega) (by first | with_reducible assumption | assumption) (by first | with_reducible assumption | omega) (by first | with_reducible assumption | assumption)) (csV_218 hts rfl rfl ⟨Nat.le_of_ble_eq_true rfl, Nat.le_of_ble_eq_true rfl⟩) (zPV2 (q0 := 0) (ci := 9) hPc hDc hK hXN rfl rfl) rfl rfl hl.1 rfl (lv_room (Nat.le_of_ble_eq_true rfl)) dX11_square_96 ⟨Nat.zero_le _, Nat.zero_le _⟩) hS hFc hFc rfl (fun t H locs ht hB hk1 hS => ?_)
              obtain ⟨S2, hP1, hD1⟩ := hB
              rw [ht] at hP1
              obtain ⟨hP, hD⟩ := zn (W2 := [_, _, _, _, _, _, _, _, _, _, _, _, _, _, _, _, _, _, _, (oa (a 32) cI 8 S2), _, _, _, _, _, _, _, _, _, _, _, _]) hP hD hk1 hFc hP1 hD1 [0, 11, 12, 13, 19] zl_249 zl_249 [0, 11, 12, 13, 19] (by decide +kernel) rfl rfl rfl rfl rfl
              clear hk1 hPc hDc hFc hP1 hD1 ht
              have hdfb := dfB_b hp_f hn_f.1 hn_f.2
              have hmsb := i32B ms
              refine lv_lsub hx hb dX11_square_99 ?_
              refine zz_l (v := jI (dfB n (cF40 cx f) (cF40 cy f))) (by rw [eb1, eb2, eb3, eb4]; exact sqL hp_f hn_f.1 hn_f.2) ?_
              refine lv_lstore (lv' := [(4, .long (jI (dfB n (cF40 cx f) (cF40 cy f)))), (3, .int 0), (0, .ref k0), (1, .int (nI f)), (2, .int ms)]) hx hb dX11_square_100 hl (Nat.le_of_ble_eq_true rfl) rfl (fun ls hl => ?_)
              refine lv_lload hx hb dX11_square_102 (lv_at hl 0 rfl) ?_
              refine lv_iload_n hx hb dX11_square_104 rfl (lv_at hl 4 rfl) ?_
              refine lv_i2l (v := ms.toInt64) hx hb dX11_square_105 (rfl) ?_
              refine zz_l (v := jI ms.toInt) (jI_of (i64 _)) ?_
              refine W.lcmp hx hb dX11_square_106 ?_
              refine lv_if_le (tgt := 116) hx hb dX11_square_107 rfl (fun c_7 => ?_) (fun c_7 => ?_)
              · have c_7 : (dfB n (cF40 cx f) (cF40 cy f)) ≤ ms.toInt := zl_le (jI_toInt (by omega)) (jI_toInt (by omega)) c_7
                refine lv_aload_n hx hb dX11_square_116 rfl (lv_at hl 2 rfl) ?_
                refine lv_iload_n hx hb dX11_square_117 rfl (lv_at hl 3 rfl) ?_
                obtain ⟨hPc, hDc, hFc⟩ := zo_sub (wc := [_, _, _, _, _, _, _, _, _, _, _, _, _]) hP hD hS hA [0, 2, 10, 1, 11, 12, 13, 19, 23, 24, 25, 26, 27] (by decide +kernel) rfl
                refine zcall (st1 := []) (va_runV (As := [.int (nI f)]) (rest := []) ⟨hx, hb, hml, hown, hts⟩ (k_M_remember l dC dI cI cZ cF H.size k0 a (upd (upd (upd (upd (upd I0 26 (nI ln)) 44 x1) 45 x2) 46 x3) 47 x4) J0 f n ft st tn kd mn cx cy S2 ox oy mt wi ins (by first | with_reducible assumption | assumption) (by first | with_reducible assumption | omega) (by first | with_reducible assumption | omega) (by first | with_reducible assumption | assumption) (by first | with_reducible assumption | omega) (by first | with_reducible assumption | assumption) (fun q h1 _ => hwf q h1)) (csV_190 hts rfl rfl ⟨Nat.le_of_ble_eq_true rfl, Nat.le_of_ble_eq_true rfl⟩) (zPV2 (q0 := 0) (ci := 9) hPc hDc hK hXN rfl rfl) rfl rfl hl.1 rfl (lv_room (Nat.le_of_ble_eq_true rfl)) dX11_square_118 ⟨Nat.zero_le _, Nat.zero_le _⟩) hS hFc hFc rfl (fun t H locs ht hB hk1 hS => ?_)
                refine ex6 hB (fun S1 ox1 oy1 mt1 wi1 ins1 hB0 => ?_)
                clear hB
                obtain ⟨hox, hmt, hwi, hin, hP1, hD1⟩ := hB0
                rw [ht] at hP1
                obtain ⟨hP, hD⟩ := zn (W2 := [(om k0 a (upd (upd (upd (upd (upd (upd (upd I0 26 (nI ln)) 35 (nI n)) 36 (kd f)) 44 x1) 45 x2) 46 x3) 47 x4) J0), _, _, _, _, _, _, _, _, _, _, _, _, _, _, _, _, _, _, (oa (a 32) cI 8 S1), _, _, _, (oa (a 33) cI 42 ox1), (oa (a 34) cI 42 oy1), (oa (a 37) cZ 201 mt1), (oa (a 38) cZ 201 wi1), (oa (a 39) cZ 8040 ins1), _, _, _, _]) hP hD hk1 hFc hP1 hD1 zl_194 zl_195 zl_195 zl_194 (by decide +kernel) rfl rfl rfl rfl rfl
                clear hk1 hPc hDc hFc hP1 hD1 ht
                refine lv_aload_n hx hb dX11_square_121 rfl (lv_at hl 2 rfl) ?_
                refine lv_iload_n hx hb dX11_square_122 rfl (lv_at hl 3 rfl) ?_
                obtain ⟨hPc, hDc, hFc⟩ := zo_sub (wc := [_, _, _, _, _]) hP hD hS hA [0, 1, 11, 12, 13] (by decide +kernel) rfl
                refine zcall (st1 := []) (va_runV (As := [.int (nI f)]) (rest := []) ⟨hx, hb, hml, hown, hts⟩ (k_M_layBox l dC dI cI cZ cF H.size k0 a (upd (upd (upd (upd (upd (upd (upd I0 26 (nI ln)) 35 (nI n)) 36 (kd f)) 44 x1) 45 x2) 46 x3) 47 x4) J0 f kd mn cx cy (by first | with_reducible assumption | omega)) (csV_222 hts rfl rfl ⟨Nat.le_of_ble_eq_true rfl, Nat.le_of_ble_eq_true rfl⟩) (zPV2 (q0 := 0) (ci := 9) hPc hDc hK hXN rfl rfl) rfl rfl hl.1 rfl (lv_room (Nat.le_of_ble_eq_true rfl)) dX11_square_123 ⟨Nat.zero_le _, Nat.zero_le _⟩) hS hFc hFc rfl (fun t H locs ht hB hk1 hS => ?_)
                obtain ⟨hP1, hD1⟩ := hB
                rw [ht] at hP1
                obtain ⟨hP, hD⟩ := zn (W2 := [_, (oa (a 1) cI 201 (upd kd f 6)), _, _, _, _, _, _, _, _, _, (oa (a 11) cI 201 (upd mn f 4)), (oa (a 12) cI 8040 (bxX f (x1) (x3) 4 cx)), (oa (a 13) cI 8040 (bxY f (x2) (x4) 4 cy)), _, _, _, _, _, _, _, _, _, _, _, _, _, _, _, _, _, _]) hP hD hk1 hFc hP1 hD1 [0, 1, 11, 12, 13] zl_250 zl_250 [0, 1, 11, 12, 13] (by decide +kernel) rfl rfl rfl rfl rfl
                clear hk1 hPc hDc hFc hP1 hD1 ht
                refine lv_aload_n hx hb dX11_square_126 rfl (lv_at hl 2 rfl) ?_
                refine lv_iload_n hx hb dX11_square_127 rfl (lv_at hl 3 rfl) ?_
                refine lv_iconst (v := 5) hx hb dX11_square_128 rfl ?_
                have hum : upd (upd mn f 4) f (nI n) = mn := upd_back hm_f
                have huk : upd (upd kd f 6) f (kd f) = kd := upd_back rfl
                have hpo : pls n ox1 oy1 := fun j hj => by rw [(hox j hj).1, (hox j hj).2]; exact hp_f j hj
                have hbo : ∀ j, (j < 40 * f ∨ 40 * f + 40 ≤ j) → (bxX f x1 x3 4 cx) j = cx j ∧ (bxY f x2 x4 4 cy) j = cy j := fun j hj => ⟨bxX_o (by omega), bxY_o (by omega)⟩
                have hwf2 : ∀ q, lvF ft st tn q → q ≠ f → wfM (upd mn f 4) (bxX f x1 x3 4 cx) (bxY f x2 x4 4 cy) q := fun q h1 h2 => wfM_o (hwf q h1) h2 (fun j hj => if_neg hj) hbo
                have hlq : lwA ft st tn (upd kd f 6) (upd mn f 4) (bxX f x1 x3 4 cx) (bxY f x2 x4 4 cy) f 4 (ox1 0) (oy1 0) (bMt kd mn cx cy f n) (bWi kd mn cx cy f) (bIn kd cx cy f n) sW0 = lwS ft st tn kd mn cx cy f n := (by rw [(hox 0 (by omega)).1, (hox 0 (by omega)).2, eb1, eb2, eb3, eb4]; rfl)
                have hbx : fgX f n ox1 (bxX f x1 x3 4 cx) = fgX f n (cF40 cx f) (bxX f x1 x3 4 cx) := fgX_cg (fun k9 h9 => (hox k9 h9).1)
                have hby : fgX f n oy1 (bxY f x2 x4 4 cy) = fgX f n (cF40 cy f) (bxY f x2 x4 4 cy) := fgX_cg (fun k9 h9 => (hox k9 h9).2)
                obtain ⟨hPc, hDc, hFc⟩ := zo_sub (wc := [_, _, _, _, _, _, _, _, _, _, _, _, _, _, _, _, _, _, _, _, _, _, _, _, _, _, _, _, _, _, _, _]) hP hD hS hA [0, 1, 2, 3, 4, 5, 6, 7, 8, 9, 10, 11, 12, 13, 14, 15, 16, 17, 18, 19, 20, 21, 22, 23, 24, 25, 26, 27, 28, 29, 30, 31] (by decide +kernel) rfl
                refine zcall (st1 := [.int 1]) (va_runV (As := [.int (nI f), .int 5]) (rest := []) ⟨hx, hb, hml, hown, hts⟩ (k_M_changes_sy l dC dI cI cZ cF H.size k0 a (upd (upd (upd (upd (upd (upd (upd I0 26 (nI ln)) 35 (nI n)) 36 (kd f)) 44 x1) 45 x2) 46 x3) 47 x4) J0 f 4 ft n (kd f) (upd kd f 6) st gb it pa pb rk wd tw tn (upd mn f 4) (bxX f (x1) (x3) 4 cx) (bxY f (x2) (x4) 4 cy) sa sh wh of9 we S1 T0 P0 Q0 ox1 oy1 mt1 wi1 ins1 la lb lc ld (bMt kd mn cx cy f n) (bWi kd mn cx cy f) (bIn kd cx cy f n) dn bs w0 cp c1 c2 ln cl (hft) (by first | with_reducible assumption | omega) (by first | with_reducible assumption | omega) ((up_at _ _ _).trans rfl) (by first | with_reducible assumption | omega) (hwf2) (by first | with_reducible assumption | omega) (by first | with_reducible assumption | omega) (hpo) (hmt) (fun q h1 h2 h5 => by rw [hwi q h1 h2]; exact zp_iff ⟨fun h => h.2, fun h => ⟨by rw [show upd kd f 6 q = kd q from if_neg h2] at h5; exact h5, h⟩⟩) (fun q h1 h2 i hi h5 => hin q h1 h2 (by first | with_reducible assumption | omega) i (by rw [show upd mn f 4 q = mn q from if_neg h2] at hi; exact hi)) (hft_f) (hdn) (hbs) (by first | with_reducible assumption | omega) (by first | with_reducible assumption | omega) (hi5_1) (hsa_1) (by rw [hum]; exact hmn_1) (hc1_1) (hpw_1) (hw0_1) (by rw [hum]; exact hfit_1) (by rw [hum]; exact hmin_1) (hcE_1) (by intro v9 h1 h2 h3; by_cases e9 : v9 = f; (rw [e9, up_at]; exact ⟨rfl, by decide⟩); (rw [show upd mn f 4 v9 = mn v9 from if_neg e9]; exact hmn_1 v9 h1 h2 h3)) (hpw_2) (by rw [hum]; exact hfit_2) (by rw [hum]; exact hmin_2) (hcE_2) (fun j h1 h2 => ⟨(bxX_o (by first | with_reducible assumption | omega)).trans (hox j h2).1.symm, (bxY_o (by first | with_reducible assumption | omega)).trans (hox j h2).2.symm⟩) (hlc) (hcl1) (hclm) (trivial) (by rw [hlq]; exact hlaw)) (csV_212 hts rfl rfl ⟨Nat.le_of_ble_eq_true rfl, Nat.le_of_ble_eq_true rfl⟩) (zPV2 (q0 := 0) (ci := 9) hPc hDc hK hXN rfl rfl) rfl rfl hl.1 rfl (lv_room (Nat.le_of_ble_eq_true rfl)) dX11_square_129 ⟨show (0 + (c2 - cp)) ≤ c2 - cp by omega, show (0 + (8192 * (c2 - cp))) ≤ 8192 * (c2 - cp) by omega⟩) hS hFc hFc rfl (fun t H locs ht hB hk1 hS => ?_)
                refine ex12 hB (fun z8 b2 sh2 t9 S3 T2 P2 Q2 la1 lb1 lc1 ld1 hB0 => ?_)
                clear hB
                obtain ⟨p0, p1, p2, p3, p4, p5, p6, hP1, hD1⟩ := hB0
                rw [ht] at hP1
                obtain ⟨hP, hD⟩ := zn (W2 := [(om k0 (va_up a 28 b2) (upd (upd (upd (upd (upd (upd (upd (upd (upd (upd (upd (upd I0 14 0) 19 (nI (dn + 1))) 20 0) 26 (nI t9)) 31 z8) 35 (nI n)) 36 (kd f)) 41 (nI (psN (nnF st tn (upd mn f 4)) (psN (nnF st tn (upd (upd mn f 4) f (nI n))) w0 ft) ft))) 44 x1) 45 x2) 46 x3) 47 x4) J0), (oa (a 1) cI 201 (upd kd f 6)), (oa (a 5) cI 201 st), (oa (a 7) cI 201 gb), (oa (a 10) cI 201 it), (oa (a 8) cI 201 pa), (oa (a 9) cI 201 pb), (oa (a 2) cI 201 rk), (oa (a 3) cI 201 wd), (oa (a 4) cI 201 tw), (oa (a 6) cZ 201 tn), (oa (a 11) cI 201 (upd mn f 4)), (oa (a 12) cI 8040 (bxX f (x1) (x3) 4 cx)), (oa (a 13) cI 8040 (bxY f (x2) (x4) 4 cy)), (oa (a 27) cI 516 (upd (upd sa (dn - bs + 1) (nI (psN (nnF st tn (upd (upd mn f 4) f (nI n))) w0 ft))) (dn + 1 - bs + 1) (nI (psN (nnF st tn (upd mn f 4)) (psN (nnF st tn (upd (upd mn f 4) f (nI n))) w0 ft) ft)))), (oa b2 cI (4096 * c2) sh2), (oa (a 16) cI 514 (upd wh (dn + 1) (5 : Int32))), (oa (a 17) cI 514 (upd of9 (dn + 1) (nI f))), (oa (a 18) cI 514 (upd we (dn + 1) (0 : Int32))), (oa (a 32) cI 8 S3), (oa (a 40) cI 6 T2), (oa (a 29) cI 42 P2), (oa (a 30) cI 42 Q2), (oa (a 33) cI 42 ox1), (oa (a 34) cI 42 oy1), (oa (a 37) cZ 201 mt1), (oa (a 38) cZ 201 wi1), (oa (a 39) cZ 8040 ins1), (oa (a 22) cI (64 * cl) la1), (oa (a 23) cI (64 * cl) lb1), (oa (a 24) cI (64 * cl) lc1), (oa (a 25) cI (64 * cl) ld1)]) hP hD hk1 hFc hP1 hD1 zl_196 [] zl_197 zl_196 (by decide +kernel) rfl rfl rfl rfl rfl
                clear hk1 hPc hDc hFc hP1 hD1 ht
                obtain ⟨hP9, hD9⟩ := zu_sub (wc := [(om k0 (va_up a 28 b2) (upd (upd (upd (upd (upd (upd (upd (upd (upd (upd (upd (upd I0 14 0) 19 (nI (dn + 1))) 20 0) 26 (nI t9)) 31 z8) 35 (nI n)) 36 (kd f)) 41 (nI (psN (nnF st tn (upd mn f 4)) (psN (nnF st tn (upd (upd mn f 4) f (nI n))) w0 ft) ft))) 44 x1) 45 x2) 46 x3) 47 x4) J0), (oa (a 1) cI 201 (upd kd f 6)), (oa (a 5) cI 201 st), (oa (a 7) cI 201 gb), (oa (a 10) cI 201 it), (oa (a 8) cI 201 pa), (oa (a 9) cI 201 pb), (oa (a 2) cI 201 rk), (oa (a 3) cI 201 wd), (oa (a 4) cI 201 tw), (oa (a 6) cZ 201 tn), (oa (a 11) cI 201 (upd mn f 4)), (oa (a 12) cI 8040 (bxX f (x1) (x3) 4 cx)), (oa (a 13) cI 8040 (bxY f (x2) (x4) 4 cy)), (oa (a 27) cI 516 (upd (upd sa (dn - bs + 1) (nI (psN (nnF st tn (upd (upd mn f 4) f (nI n))) w0 ft))) (dn + 1 - bs + 1) (nI (psN (nnF st tn (upd mn f 4)) (psN (nnF st tn (upd (upd mn f 4) f (nI n))) w0 ft) ft)))), (oa b2 cI (4096 * c2) sh2), (oa (a 16) cI 514 (upd wh (dn + 1) (5 : Int32))), (oa (a 17) cI 514 (upd of9 (dn + 1) (nI f))), (oa (a 18) cI 514 (upd we (dn + 1) (0 : Int32))), (oa (a 32) cI 8 S3), (oa (a 40) cI 6 T2), (oa (a 29) cI 42 P2), (oa (a 30) cI 42 Q2), (oa (a 33) cI 42 ox1), (oa (a 34) cI 42 oy1), (oa (a 37) cZ 201 mt1), (oa (a 38) cZ 201 wi1), (oa (a 39) cZ 8040 ins1), (oa (a 22) cI (64 * cl) la1), (oa (a 23) cI (64 * cl) lb1), (oa (a 24) cI (64 * cl) lc1), (oa (a 25) cI (64 * cl) ld1)]) hP hD (true :: true :: true :: true :: true :: true :: true :: true :: true :: true :: true :: true :: true :: true :: true :: true :: true :: true :: true :: true :: true :: true :: true :: true :: true :: true :: true :: true :: true :: true :: true :: true :: []) rfl rfl
                have hE9 : ([(om k0 (va_up a 28 b2) (upd (upd (upd (upd (upd (upd (upd (upd (upd (upd (upd (upd I0 14 0) 19 (nI (dn + 1))) 20 0) 26 (nI t9)) 31 z8) 35 (nI n)) 36 (kd f)) 41 (nI (psN (nnF st tn (upd mn f 4)) (psN (nnF st tn (upd (upd mn f 4) f (nI n))) w0 ft) ft))) 44 x1) 45 x2) 46 x3) 47 x4) J0), (oa (a 1) cI 201 (upd kd f 6)), (oa (a 5) cI 201 st), (oa (a 7) cI 201 gb), (oa (a 10) cI 201 it), (oa (a 8) cI 201 pa), (oa (a 9) cI 201 pb), (oa (a 2) cI 201 rk), (oa (a 3) cI 201 wd), (oa (a 4) cI 201 tw), (oa (a 6) cZ 201 tn), (oa (a 11) cI 201 (upd mn f 4)), (oa (a 12) cI 8040 (bxX f (x1) (x3) 4 cx)), (oa (a 13) cI 8040 (bxY f (x2) (x4) 4 cy)), (oa (a 27) cI 516 (upd (upd sa (dn - bs + 1) (nI (psN (nnF st tn (upd (upd mn f 4) f (nI n))) w0 ft))) (dn + 1 - bs + 1) (nI (psN (nnF st tn (upd mn f 4)) (psN (nnF st tn (upd (upd mn f 4) f (nI n))) w0 ft) ft)))), (oa b2 cI (4096 * c2) sh2), (oa (a 16) cI 514 (upd wh (dn + 1) (5 : Int32))), (oa (a 17) cI 514 (upd of9 (dn + 1) (nI f))), (oa (a 18) cI 514 (upd we (dn + 1) (0 : Int32))), (oa (a 32) cI 8 S3), (oa (a 40) cI 6 T2), (oa (a 29) cI 42 P2), (oa (a 30) cI 42 Q2), (oa (a 33) cI 42 ox1), (oa (a 34) cI 42 oy1), (oa (a 37) cZ 201 mt1), (oa (a 38) cZ 201 wi1), (oa (a 39) cZ 8040 ins1), (oa (a 22) cI (64 * cl) la1), (oa (a 23) cI (64 * cl) lb1), (oa (a 24) cI (64 * cl) lc1), (oa (a 25) cI (64 * cl) ld1)] : va_W) = [(om k0 (va_up a 28 b2) (upd (upd (upd (upd (upd (upd (upd (upd (upd (upd (upd (upd I0 14 0) 19 (nI (dn + 1))) 20 0) 26 (nI t9)) 31 z8) 35 (nI n)) 36 (kd f)) 41 (nI (psN (nnF st tn (upd mn f 4)) (psN (nnF st tn mn) w0 ft) ft))) 44 x1) 45 x2) 46 x3) 47 x4) J0), (oa (a 1) cI 201 (upd kd f 6)), (oa (a 5) cI 201 st), (oa (a 7) cI 201 gb), (oa (a 10) cI 201 it), (oa (a 8) cI 201 pa), (oa (a 9) cI 201 pb), (oa (a 2) cI 201 rk), (oa (a 3) cI 201 wd), (oa (a 4) cI 201 tw), (oa (a 6) cZ 201 tn), (oa (a 11) cI 201 (upd mn f 4)), (oa (a 12) cI 8040 (bxX f x1 x3 4 cx)), (oa (a 13) cI 8040 (bxY f x2 x4 4 cy)), (oa (a 27) cI 516 (upd (upd sa (dn - bs + 1) (nI (psN (nnF st tn mn) w0 ft))) (dn + 1 - bs + 1) (nI (psN (nnF st tn (upd mn f 4)) (psN (nnF st tn mn) w0 ft) ft)))), (oa b2 cI (4096 * c2) sh2), (oa (a 16) cI 514 (upd wh (dn + 1) (5 : Int32))), (oa (a 17) cI 514 (upd of9 (dn + 1) (nI f))), (oa (a 18) cI 514 (upd we (dn + 1) (0 : Int32))), (oa (a 32) cI 8 S3), (oa (a 40) cI 6 T2), (oa (a 29) cI 42 P2), (oa (a 30) cI 42 Q2), (oa (a 33) cI 42 ox1), (oa (a 34) cI 42 oy1), (oa (a 37) cZ 201 mt1), (oa (a 38) cZ 201 wi1), (oa (a 39) cZ 8040 ins1), (oa (a 22) cI (64 * cl) la1), (oa (a 23) cI (64 * cl) lb1), (oa (a 24) cI (64 * cl) lc1), (oa (a 25) cI (64 * cl) ld1)] := by rw [hum]
                rw [hE9] at hP9 hD9
                refine W.widen (k := c2 - cp) (n := 8192 * (c2 - cp)) (by omega) (by omega) ?_
                rw [hQ9]
                exact W.zret (ty := .boolean) (v := 1) hx hb hr (rfl) (fun t ht hW => ⟨⟨rfl, z8, b2, sh2, t9, S3, T2, P2, Q2, ox1, oy1, mt1, wi1, ins1, la1, lb1, lc1, ld1, x1, x2, x3, x4, (eb1), (eb2), (eb3), (eb4), (p0), (p1), (fun g hg j hj => by have h9 := p2; rw [hum, huk, hbx, hby] at h9; rw [h9 g hg j hj]; have h40 := nn_le hmn_1 hg; exact shD_cg (fun k hk => ⟨sqK (fun _ _ => rfl) (fun j hj => (hbo j hj).1) (by omega) (fun e => by rw [e, nnF_at hst1 htn0 hm_f hn_f.2] at hk; exact hk) hn_f.2, sqK (fun _ _ => rfl) (fun j hj => (hbo j hj).2) (by omega) (fun e => by rw [e, nnF_at hst1 htn0 hm_f hn_f.2] at hk; exact hk) hn_f.2⟩) hj), (by have h9 := p3; rw [hum] at h9; exact h9), (by have h9 := p4; rw [hum] at h9; exact h9), (p5), (p6), by rw [ht]; exact hP9, hD9⟩, hS.F ht⟩) hS.2.2 dX11_square_132
              · have c_7 : ms.toInt < (dfB n (cF40 cx f) (cF40 cy f)) := zl_nle (jI_toInt (by omega)) (jI_toInt (by omega)) c_7
                exfalso; omega
            · have c_6 : ¬ (tn f).toInt = 0 := zc_ne rfl rfl c_6
              exfalso; omega
          · exact absurd (by decide) c_5
        · have c_4 : ms.toInt < 0 := zc_nle rfl rfl c_4
          exfalso; omega
      · have c_3 : ¬ (kd f).toInt = 5 := zc_ne rfl rfl c_3
        exfalso; omega
    · exact absurd (by decide) c_1
  · skip
    refine lv_istore_n (lv' := [(3, .int 2), (0, .ref k0), (1, .int (nI f)), (2, .int ms)]) hx hb dX11_square_5 rfl hl (Nat.le_of_ble_eq_true rfl) rfl (fun ls hl => ?_)
    refine lv_iload_n hx hb dX11_square_6 rfl (lv_at hl 0 rfl) ?_
    refine lv_if_le (tgt := 14) hx hb dX11_square_7 rfl (fun c_8 => ?_) (fun c_8 => ?_)
    · exact absurd c_8 (by decide)
    · exfalso; omega
end
