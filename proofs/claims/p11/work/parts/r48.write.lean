section
set_option maxHeartbeats 4000000 in
set_option maxRecDepth 100000 in
theorem k_M_write (l : Launch) (dC : Nat → ClassId) (dI : Nat → Nat → Nat) (cI cZ cF : ClassId) (sz : Nat) (k0 : Nat) (a : Nat → Nat) (I0 : Nat → Int32) (J0 : Nat → Int64) (wa : Nat) (cp : Nat) (v : Int32) (sh : Nat → Int32) (hwa : I0 41 = nI wa) (hwc : wa ≤ 4096 * cp) (hc1 : 1 ≤ cp) (hcm : cp ≤ 512) : zM l yX11_write cX11_write 4 none ({ frames := 0, cells := dc cp wa - cp, slots := 8192 * (dc cp wa - cp), locals := 0 } : Room) [.ref k0, .int v] (dC, dI) (zTy cI cZ cF) [(om k0 a I0 J0), (oa (a 28) cI (4096 * cp) sh)] sz none (fun A t => ∃ (b1 : Nat), ∃ (c1 : Nat), ∃ (sh1 : Nat → Int32), (c1 = dc cp wa) ∧ (sh1 wa = v) ∧ (∀ j, j < wa → sh1 j = sh j) ∧ (∀ j, j ≠ wa → j < 4096 * cp → sh1 j = sh j) ∧ zPD (dC, dI) classes A [(om k0 (va_up a 28 b1) (upd I0 41 (nI (wa + 1))) J0), (oa b1 cI (4096 * c1) sh1)] t.heap) (dc cp wa - cp) (8192 * (dc cp wa - cp)) := by
  refine zIn (own := "ScaleShopModel") (loc := [(0, .ref k0), (1, .int v)]) rfl rfl rfl rfl (fun p e s m below meth c hx hb hr hts hown hlocks hml hnm9 A hA hS hP hD hK hXN Q9 hQ9 ls hl => ?_)
  have hdc : dc cp wa = if wa = 4096 * cp then 2 * cp else cp := rfl
  refine lv_aload_n hx hb dX11_write_0 rfl (lv_at hl 0 rfl) ?_
  refine va_get (D := (dC, dI)) (ci := 9) (v := .int (I0 41)) (C := RX11) (T := TX11) (N := 55) hx hb hts inX11 hown hK hP 0 rfl rfl 41 (Nat.le_of_ble_eq_true rfl) (hts _ mw_1200) (fun _ h9 => h9) rfl dX11_write_1 ?_
  refine zz_i (v := nI wa) (hwa) ?_
  refine lv_aload_n hx hb dX11_write_4 rfl (lv_at hl 0 rfl) ?_
  refine va_get (D := (dC, dI)) (ci := 9) (v := .ref (a 28)) (C := RX11) (T := TX11) (N := 55) hx hb hts inX11 hown hK hP 0 rfl rfl 28 (Nat.le_of_ble_eq_true rfl) (hts _ mw_1187) (fun _ h9 => h9) rfl dX11_write_5 ?_
  refine va_alen (v := nI (4096 * cp)) hx hb hK hP 1 0 rfl rfl rfl dX11_write_8 ?_
  have b9_2 : zlt (wa) := show wa < 2147483648 by omega
  have b9_3 : zlt ((4096 * cp)) := show (4096 * cp) < 2147483648 by omega
  refine lv_icmp_ne (tgt := 51) hx hb dX11_write_9 rfl (fun c_1 => ?_) (fun c_1 => ?_)
  · have c_1 : ¬ ((wa : Nat) : Int) = ((4096 * cp : Nat) : Int) := zc_ne (nI_toInt b9_2) (nI_toInt b9_3) c_1
    refine lv_aload_n hx hb dX11_write_51 rfl (lv_at hl 0 rfl) ?_
    refine va_get (D := (dC, dI)) (ci := 9) (v := .ref (a 28)) (C := RX11) (T := TX11) (N := 55) hx hb hts inX11 hown hK hP 0 rfl rfl 28 (Nat.le_of_ble_eq_true rfl) (hts _ mw_1187) (fun _ h9 => h9) rfl dX11_write_52 ?_
    refine lv_aload_n hx hb dX11_write_55 rfl (lv_at hl 0 rfl) ?_
    refine va_get (D := (dC, dI)) (ci := 9) (v := .int (I0 41)) (C := RX11) (T := TX11) (N := 55) hx hb hts inX11 hown hK hP 0 rfl rfl 41 (Nat.le_of_ble_eq_true rfl) (hts _ mw_1200) (fun _ h9 => h9) rfl dX11_write_56 ?_
    refine zz_i (v := nI wa) (hwa) ?_
    refine lv_iload_n hx hb dX11_write_59 rfl (lv_at hl 1 rfl) ?_
    have b9_4 : wa < (4096 * cp) := by omega
    refine z_iast hx hb hK hP hD hS 1 0 rfl rfl (e := wa) (x := v) rfl b9_4 b9_3 dX11_write_60 (fun H locs hP hD hS => ?_)
    obtain ⟨hP, hD⟩ := zre (W2 := [_, (oa (a 28) cI (4096 * cp) (upd sh wa v))]) hP hD rfl
    refine lv_aload_n hx hb dX11_write_61 rfl (lv_at hl 0 rfl) ?_
    refine lv_dup hx hb dX11_write_62 rfl ?_
    refine va_get (D := (dC, dI)) (ci := 9) (v := .int (I0 41)) (C := RX11) (T := TX11) (N := 55) hx hb hts inX11 hown hK hP 0 rfl rfl 41 (Nat.le_of_ble_eq_true rfl) (hts _ mw_1200) (fun _ h9 => h9) rfl dX11_write_63 ?_
    refine zz_i (v := nI wa) (hwa) ?_
    refine lv_iconst (v := 1) hx hb dX11_write_66 rfl ?_
    refine lv_iadd hx hb dX11_write_67 ?_
    refine zz_i (v := nI (wa + 1)) (nI_add wa 1) ?_
    refine va_put (D := (dC, dI)) (ci := 9) (v := .int (nI (wa + 1))) (ty := .int) (C := RX11) (T := TX11) (N := 55) hx hb hts inX11 tyX11 tyX11_ok nmX11 hown hK hP hD hS 0 rfl rfl 41 (by decide) (hts _ mw_1200) (fun _ h9 => h9) rfl (by decide +kernel) rfl rfl (Nat.le_of_ble_eq_true rfl) dX11_write_68 (fun H locs hP hD hS => ?_)
    obtain ⟨hP, hD⟩ := zre (W2 := [(om k0 a (upd I0 41 (nI (wa + 1))) J0), _]) hP hD rfl
    obtain ⟨hP9, hD9⟩ := zu_sub (wc := [_, _]) hP hD [true, true] rfl rfl
    refine W.widen (k := dc cp wa - cp) (n := 8192 * (dc cp wa - cp)) (by omega) (by omega) ?_
    rw [hQ9]
    exact W.vret hx hb hr (fun t ht hW => ⟨⟨rfl, (a 28), cp, (upd sh wa v), (by first | (rw [hdc, if_neg (by omega)]) | (rw [hdc])), (by exact up_at _ _ _), (by first | exact up_lo (fun j hj => hall j (by omega)) (Nat.le_refl _) | exact up_lo (fun j hj => rfl) (Nat.le_refl _)), (by first | exact up_ne (fun j hj => hall j (by omega)) | exact up_ne (fun j hj => rfl)), by rw [ht]; exact hP9, hD9⟩, hS.F ht⟩) hS.2.2 dX11_write_71
  · have c_1 : ((wa : Nat) : Int) = ((4096 * cp : Nat) : Int) := zc_eq (nI_toInt b9_2) (nI_toInt b9_3) c_1
    have hwe : wa = 4096 * cp := (by omega)
    rw [if_pos hwe] at hdc
    refine lv_iconst (v := 2) hx hb dX11_write_12 rfl ?_
    refine lv_aload_n hx hb dX11_write_13 rfl (lv_at hl 0 rfl) ?_
    refine va_get (D := (dC, dI)) (ci := 9) (v := .int (I0 41)) (C := RX11) (T := TX11) (N := 55) hx hb hts inX11 hown hK hP 0 rfl rfl 41 (Nat.le_of_ble_eq_true rfl) (hts _ mw_1200) (fun _ h9 => h9) rfl dX11_write_14 ?_
    refine zz_i (v := nI wa) (hwa) ?_
    refine lv_imul hx hb dX11_write_17 ?_
    refine zz_i (v := nI (2 * wa)) (pk_mul 2 wa) ?_
    refine zz_i (v := nI (4096 * (2 * cp))) (zn_eq (by omega)) ?_
    refine zz_newa (atype := .int) (a0 := (4096 * (2 * cp), .inl (fun _ => 0))) hx hb (hts _ mw_195) (ty := .int) rfl hK hP hD hS hA (n := nI (4096 * (2 * cp))) (N' := 4096 * (2 * cp)) (cA := cI) 0 rfl (fun _ => rfl) (nI_pos (by omega)) (nI_clamp (by omega)) (show (4096 * (2 * cp)) * 4 ≤ 536870912 by omega) (show 1 ≤ dc cp wa - cp by omega) (show (0 + (4096 * (2 * cp))) ≤ 8192 * (dc cp wa - cp) by omega) dX11_write_18 (fun nb H hP hD hS => ?_)
    obtain ⟨hP, hD⟩ := zre (W2 := [_, _, (oa nb cI (4096 * (2 * cp)) (fun _ => 0))]) hP hD rfl
    refine lv_astore_n (lv' := [(2, .ref nb), (0, .ref k0), (1, .int v)]) hx hb dX11_write_20 rfl hl (Nat.le_of_ble_eq_true rfl) rfl (fun ls hl => ?_)
    refine lv_iconst (v := 0) hx hb dX11_write_21 rfl ?_
    refine lv_istore_n (lv' := [(3, .int 0), (2, .ref nb), (0, .ref k0), (1, .int v)]) hx hb dX11_write_22 rfl hl (Nat.le_of_ble_eq_true rfl) rfl (fun ls hl => ?_)
    have hl_23 : ∀ (n9 : Nat) (k : Nat) (f1 : Nat → Int32) (H : Heap) (locs : List Loc) (ls : Array Slot), wa - k < n9 → (k ≤ wa) → (∀ j, j < k → f1 j = sh j) → va_P (dC, dI) classes [(om k0 a I0 J0), (oa (a 28) cI (4096 * cp) sh), (oa nb cI (4096 * (2 * cp)) f1)] H → va_D A [(om k0 a I0 J0), (oa (a 28) cI (4096 * cp) sh), (oa nb cI (4096 * (2 * cp)) f1)] → va_S A s.heap H locs → lv_has ls 4 [(3, .int (nI k)), (2, .ref nb), (0, .ref k0), (1, .int v)] → W p l e ({ frames := 0, cells := dc cp wa - cp, slots := 8192 * (dc cp wa - cp), locals := 0 } : Room) s m ([.ref k0, .int v] : List Value).toArray below meth c H locs 1 (0 + (4096 * (2 * cp))) Q9 (F0 m 23 ls []) := by
      intro n9
      induction n9 with
      | zero => intro k f1 H locs ls hm; exact absurd hm (Nat.not_lt_zero _)
      | succ n9 ih_23 =>
        intro k f1 H locs ls hm hk hall hP hD hS hl
        refine lv_iload_n hx hb dX11_write_23 rfl (lv_at hl 0 rfl) ?_
        refine lv_aload_n hx hb dX11_write_24 rfl (lv_at hl 2 rfl) ?_
        refine va_get (D := (dC, dI)) (ci := 9) (v := .int (I0 41)) (C := RX11) (T := TX11) (N := 55) hx hb hts inX11 hown hK hP 0 rfl rfl 41 (Nat.le_of_ble_eq_true rfl) (hts _ mw_1200) (fun _ h9 => h9) rfl dX11_write_25 ?_
        refine zz_i (v := nI wa) (hwa) ?_
        have b9_6 : zlt (k) := show k < 2147483648 by omega
        refine lv_icmp_ge (tgt := 46) hx hb dX11_write_28 rfl (fun c_5 => ?_) (fun c_5 => ?_)
        · have c_5 : ((wa : Nat) : Int) ≤ ((k : Nat) : Int) := zc_le (nI_toInt b9_2) (nI_toInt b9_6) c_5
          refine lv_aload_n hx hb dX11_write_46 rfl (lv_at hl 2 rfl) ?_
          refine lv_aload_n hx hb dX11_write_47 rfl (lv_at hl 1 rfl) ?_
          refine va_put (D := (dC, dI)) (ci := 9) (v := .ref nb) (ty := .array .int) (C := RX11) (T := TX11) (N := 55) hx hb hts inX11 tyX11 tyX11_ok nmX11 hown hK hP hD hS 0 rfl rfl 28 (by decide) (hts _ mw_1187) (fun _ h9 => h9) rfl (by decide +kernel) rfl rfl (Nat.le_of_ble_eq_true rfl) dX11_write_48 (fun H locs hP hD hS => ?_)
          obtain ⟨hP, hD⟩ := zre (W2 := [(om k0 (va_up a 28 nb) I0 J0), _, _]) hP hD rfl
          refine lv_aload_n hx hb dX11_write_51 rfl (lv_at hl 2 rfl) ?_
          refine va_get (D := (dC, dI)) (ci := 9) (v := .ref nb) (C := RX11) (T := TX11) (N := 55) hx hb hts inX11 hown hK hP 0 rfl rfl 28 (Nat.le_of_ble_eq_true rfl) (hts _ mw_1187) (fun _ h9 => h9) rfl dX11_write_52 ?_
          refine lv_aload_n hx hb dX11_write_55 rfl (lv_at hl 2 rfl) ?_
          refine va_get (D := (dC, dI)) (ci := 9) (v := .int (I0 41)) (C := RX11) (T := TX11) (N := 55) hx hb hts inX11 hown hK hP 0 rfl rfl 41 (Nat.le_of_ble_eq_true rfl) (hts _ mw_1200) (fun _ h9 => h9) rfl dX11_write_56 ?_
          refine zz_i (v := nI wa) (hwa) ?_
          refine lv_iload_n hx hb dX11_write_59 rfl (lv_at hl 3 rfl) ?_
          have b9_7 : wa < (4096 * (2 * cp)) := by omega
          have b9_8 : zlt ((4096 * (2 * cp))) := show (4096 * (2 * cp)) < 2147483648 by omega
          refine z_iast hx hb hK hP hD hS 2 0 rfl rfl (e := wa) (x := v) rfl b9_7 b9_8 dX11_write_60 (fun H locs hP hD hS => ?_)
          obtain ⟨hP, hD⟩ := zre (W2 := [_, _, (oa nb cI (4096 * (2 * cp)) (upd f1 wa v))]) hP hD rfl
          refine lv_aload_n hx hb dX11_write_61 rfl (lv_at hl 2 rfl) ?_
          refine lv_dup hx hb dX11_write_62 rfl ?_
          refine va_get (D := (dC, dI)) (ci := 9) (v := .int (I0 41)) (C := RX11) (T := TX11) (N := 55) hx hb hts inX11 hown hK hP 0 rfl rfl 41 (Nat.le_of_ble_eq_true rfl) (hts _ mw_1200) (fun _ h9 => h9) rfl dX11_write_63 ?_
          refine zz_i (v := nI wa) (hwa) ?_
          refine lv_iconst (v := 1) hx hb dX11_write_66 rfl ?_
          refine lv_iadd hx hb dX11_write_67 ?_
          refine zz_i (v := nI (wa + 1)) (nI_add wa 1) ?_
          refine va_put (D := (dC, dI)) (ci := 9) (v := .int (nI (wa + 1))) (ty := .int) (C := RX11) (T := TX11) (N := 55) hx hb hts inX11 tyX11 tyX11_ok nmX11 hown hK hP hD hS 0 rfl rfl 41 (by decide) (hts _ mw_1200) (fun _ h9 => h9) rfl (by decide +kernel) rfl rfl (Nat.le_of_ble_eq_true rfl) dX11_write_68 (fun H locs hP hD hS => ?_)
          obtain ⟨hP, hD⟩ := zre (W2 := [(om k0 (va_up a 28 nb) (upd I0 41 (nI (wa + 1))) J0), _, _]) hP hD rfl
          obtain ⟨hP9, hD9⟩ := zu_sub (wc := [_, _]) hP hD [true, false, true] rfl rfl
          refine W.widen (k := dc cp wa - cp) (n := 8192 * (dc cp wa - cp)) (by omega) (by omega) ?_
          rw [hQ9]
          exact W.vret hx hb hr (fun t ht hW => ⟨⟨rfl, nb, (2 * cp), (upd f1 wa v), (by first | (rw [hdc, if_neg (by omega)]) | (rw [hdc])), (by exact up_at _ _ _), (by first | exact up_lo (fun j hj => hall j (by omega)) (Nat.le_refl _) | exact up_lo (fun j hj => rfl) (Nat.le_refl _)), (by first | exact up_ne (fun j hj => hall j (by omega)) | exact up_ne (fun j hj => rfl)), by rw [ht]; exact hP9, hD9⟩, hS.F ht⟩) hS.2.2 dX11_write_71
        · have c_5 : ((k : Nat) : Int) < ((wa : Nat) : Int) := zc_nle (nI_toInt b9_2) (nI_toInt b9_6) c_5
          refine lv_aload_n hx hb dX11_write_31 rfl (lv_at hl 1 rfl) ?_
          refine lv_iload_n hx hb dX11_write_32 rfl (lv_at hl 0 rfl) ?_
          refine lv_aload_n hx hb dX11_write_33 rfl (lv_at hl 2 rfl) ?_
          refine va_get (D := (dC, dI)) (ci := 9) (v := .ref (a 28)) (C := RX11) (T := TX11) (N := 55) hx hb hts inX11 hown hK hP 0 rfl rfl 28 (Nat.le_of_ble_eq_true rfl) (hts _ mw_1187) (fun _ h9 => h9) rfl dX11_write_34 ?_
          refine lv_iload_n hx hb dX11_write_37 rfl (lv_at hl 0 rfl) ?_
          have b9_9 : k < (4096 * cp) := by omega
          refine z_iald hx hb hK hP 1 0 rfl rfl (e := k) rfl b9_9 b9_3 dX11_write_38 ?_
          have b9_10 : k < (4096 * (2 * cp)) := by omega
          have b9_11 : zlt ((4096 * (2 * cp))) := show (4096 * (2 * cp)) < 2147483648 by omega
          refine z_iast hx hb hK hP hD hS 2 0 rfl rfl (e := k) (x := sh k) rfl b9_10 b9_11 dX11_write_39 (fun H locs hP hD hS => ?_)
          obtain ⟨hP, hD⟩ := zre (W2 := [_, _, (oa nb cI (4096 * (2 * cp)) (upd f1 k (sh k)))]) hP hD rfl
          refine lv_iinc (v := nI (k + 1)) (lv' := [(3, .int (nI (k + 1))), (2, .ref nb), (0, .ref k0), (1, .int v)]) hx hb dX11_write_40 hl (k := 0) rfl (nI_add k 1) (Nat.le_of_ble_eq_true rfl) rfl (fun ls hl => ?_)
          refine lv_goto (tgt := 23) hx hb dX11_write_43 rfl ?_
          exact ih_23 (k + 1) (upd f1 k (sh k)) H locs ls (by first | with_reducible assumption | omega) (by first | with_reducible assumption | omega) (up_sn hall rfl) hP hD hS (lv_sub hl [0, 1, 2, 3] rfl)
    exact hl_23 _ 0 (fun _ => 0) H [] ls (Nat.lt_succ_self _) (by first | with_reducible assumption | omega) (by intro j hj; omega) hP hD hS (lv_sub hl [0, 1, 2, 3] rfl)
set_option maxHeartbeats 4000000 in
set_option maxRecDepth 100000 in
theorem k_M_next (l : Launch) (dC : Nat → ClassId) (dI : Nat → Nat → Nat) (cI cZ cF : ClassId) (sz : Nat) (k0 : Nat) (a : Nat → Nat) (I0 : Nat → Int32) (J0 : Nat → Int64) (ra : Nat) (cp : Nat) (sh : Nat → Int32) (hra : I0 42 = nI ra) (hrc : ra < 4096 * cp) (hcm : cp ≤ 512) : zM l yX11_next cX11_next 1 (some .int) ({ frames := 0, cells := 0, slots := 0, locals := 0 } : Room) [.ref k0] (dC, dI) (zTy cI cZ cF) [(om k0 a I0 J0), (oa (a 28) cI (4096 * cp) sh)] sz (some (.int (sh ra))) (fun A t => zPD (dC, dI) classes A [(om k0 a (upd I0 42 (nI (ra + 1))) J0), (oa (a 28) cI (4096 * cp) sh)] t.heap) 0 0 := by
  refine zIn (own := "ScaleShopModel") (loc := [(0, .ref k0)]) rfl rfl rfl rfl (fun p e s m below meth c hx hb hr hts hown hlocks hml hnm9 A hA hS hP hD hK hXN Q9 hQ9 ls hl => ?_)
  refine lv_aload_n hx hb dX11_next_0 rfl (lv_at hl 0 rfl) ?_
  refine lv_dup hx hb dX11_next_1 rfl ?_
  refine va_get (D := (dC, dI)) (ci := 9) (v := .int (I0 42)) (C := RX11) (T := TX11) (N := 55) hx hb hts inX11 hown hK hP 0 rfl rfl 42 (Nat.le_of_ble_eq_true rfl) (hts _ mw_1201) (fun _ h9 => h9) rfl dX11_next_2 ?_
  refine zz_i (v := nI ra) (hra) ?_
  refine lv_iconst (v := 1) hx hb dX11_next_5 rfl ?_
  refine lv_iadd hx hb dX11_next_6 ?_
  refine zz_i (v := nI (ra + 1)) (nI_add ra 1) ?_
  refine va_put (D := (dC, dI)) (ci := 9) (v := .int (nI (ra + 1))) (ty := .int) (C := RX11) (T := TX11) (N := 55) hx hb hts inX11 tyX11 tyX11_ok nmX11 hown hK hP hD hS 0 rfl rfl 42 (by decide) (hts _ mw_1201) (fun _ h9 => h9) rfl (by decide +kernel) rfl rfl (Nat.le_of_ble_eq_true rfl) dX11_next_7 (fun H locs hP hD hS => ?_)
  obtain ⟨hP, hD⟩ := zre (W2 := [(om k0 a (upd I0 42 (nI (ra + 1))) J0), _]) hP hD rfl
  refine lv_aload_n hx hb dX11_next_10 rfl (lv_at hl 0 rfl) ?_
  refine va_get (D := (dC, dI)) (ci := 9) (v := .ref (a 28)) (C := RX11) (T := TX11) (N := 55) hx hb hts inX11 hown hK hP 0 rfl rfl 28 (Nat.le_of_ble_eq_true rfl) (hts _ mw_1187) (fun _ h9 => h9) rfl dX11_next_11 ?_
  refine lv_aload_n hx hb dX11_next_14 rfl (lv_at hl 0 rfl) ?_
  refine va_get (D := (dC, dI)) (ci := 9) (v := .int (nI (ra + 1))) (C := RX11) (T := TX11) (N := 55) hx hb hts inX11 hown hK hP 0 rfl rfl 42 (Nat.le_of_ble_eq_true rfl) (hts _ mw_1201) (fun _ h9 => h9) rfl dX11_next_15 ?_
  refine lv_iconst (v := 1) hx hb dX11_next_18 rfl ?_
  refine lv_isub hx hb dX11_next_19 ?_
  refine zz_i (v := nI ((ra + 1) - 1)) (pk_sub (a := ra + 1) (b := 1) (by omega)) ?_
  have b9_1 : zlt ((4096 * cp)) := show (4096 * cp) < 2147483648 by omega
  refine z_iald hx hb hK hP 1 0 rfl rfl (e := (ra + 1) - 1) rfl (by omega) b9_1 dX11_next_20 ?_
  refine zz_i (v := sh ra) (by first | rfl | (congr 1; omega)) ?_
  obtain ⟨hP9, hD9⟩ := zu_sub (wc := [_, _]) hP hD [true, true] rfl rfl
  rw [hQ9]
  exact W.iret (v := sh ra) hx hb hr (fun t ht hW => ⟨⟨rfl, by rw [ht]; exact hP9, hD9⟩, hS.F ht⟩) hS.2.2 dX11_next_21
end
