set_option maxHeartbeats 4000000 in
set_option maxRecDepth 100000 in
theorem k_M_write (l : Launch) (dC : Nat → ClassId) (dI : Nat → Nat → Nat) (cI cZ cF : ClassId) (sz : Nat) (k0 : Nat) (a : Nat → Nat) (I0 : Nat → Int32) (J0 : Nat → Int64) (wa : Nat) (cp : Nat) (v : Int32) (sh : Nat → Int32) (hwa : I0 41 = nI wa) (hwc : wa ≤ 4096 * cp) (hc1 : 1 ≤ cp) (hcm : cp ≤ 512) : Met l yX11_write (.code yX11_write cX11_write 4 none :: ws0) ({ frames := 0, cells := dc cp wa - cp, slots := 8192 * (dc cp wa - cp), locals := 0 } : Room) (va_Pc [.ref k0, .int v] (zPre (dC, dI) classes (zTy cI cZ cF) [(om k0 a I0 J0), (oa (a 28) cI (4096 * cp) sh)] sz zXN)) (zQ none (fun t => ∃ (b1 : Nat), ∃ (c1 : Nat), ∃ (sh1 : Nat → Int32), (c1 = dc cp wa) ∧ (sh1 wa = v) ∧ (∀ j, j < wa → sh1 j = sh j) ∧ (∀ j, j ≠ wa → j < 4096 * cp → sh1 j = sh j) ∧ va_P (dC, dI) classes [(om k0 (va_up a 28 b1) (upd I0 41 (nI (wa + 1))) J0), (oa b1 cI (4096 * c1) sh1)] t.heap ∧ va_D (va_A [(om k0 a I0 J0), (oa (a 28) cI (4096 * cp) sh)] sz) [(om k0 (va_up a 28 b1) (upd I0 41 (nI (wa + 1))) J0), (oa b1 cI (4096 * c1) sh1)]) (va_A [(om k0 a I0 J0), (oa (a 28) cI (4096 * cp) sh)] sz)) (dc cp wa - cp) (8192 * (dc cp wa - cp)) (va_A [(om k0 a I0 J0), (oa (a 28) cI (4096 * cp) sh)] sz) := by
  refine Met.ofW (cc := cX11_write) (maxL := 4) (ret := none) (by decide) rfl ?_
  intro p e s m args below meth c s₁ B hml hv
  obtain ⟨rfl, hsz, hP, hK, hD0, hXN⟩ := hv
  have hx := B.exec
  have hb := B.bytes
  have hr := B.returns
  have hts0 := atoms_spec (ws := .code yX11_write cX11_write 4 none :: ws0) B.pre
  have hts : ∀ w9 ∈ ws0, w9.before ([.ref k0, .int v] : List Value).toArray s = true := fun w9 h => hts0 w9 (List.mem_cons_of_mem _ h)
  have hown : s.vm.findClass "ScaleShopModel" = some m.cls := findClass_of_methodNamed B.named
  have hlocks := B.notSynchronized
  subst hsz
  have hD := hD0.self (sz := s.heap.size)
  clear hD0
  generalize hAe : va_A [(om k0 a I0 J0), (oa (a 28) cI (4096 * cp) sh)] s.heap.size = A at hD ⊢
  have hA : ∀ q : Nat, s.heap.size ≤ q → A q := fun q h => by rw [← hAe]; exact Or.inr h
  clear hAe
  have hS : va_S A s.heap s.heap [] := va_S.rf
  have hP : va_P (dC, dI) classes [(om k0 a I0 J0), (oa (a 28) cI (4096 * cp) sh)] s.heap := hP
  obtain ⟨Q9, hQ9⟩ : ∃ Q9 : State → Prop, Q9 = MQ below (zQ none (fun t => ∃ (b1 : Nat), ∃ (c1 : Nat), ∃ (sh1 : Nat → Int32), (c1 = dc cp wa) ∧ (sh1 wa = v) ∧ (∀ j, j < wa → sh1 j = sh j) ∧ (∀ j, j ≠ wa → j < 4096 * cp → sh1 j = sh j) ∧ va_P (dC, dI) classes [(om k0 (va_up a 28 b1) (upd I0 41 (nI (wa + 1))) J0), (oa b1 cI (4096 * c1) sh1)] t.heap ∧ va_D A [(om k0 (va_up a 28 b1) (upd I0 41 (nI (wa + 1))) J0), (oa b1 cI (4096 * c1) sh1)]) A) ([.ref k0, .int v] : List Value).toArray s (dc cp wa - cp) (8192 * (dc cp wa - cp)) A := ⟨_, rfl⟩
  rw [← hQ9]
  have hl := lv_entry ([.ref k0, .int v]) (n := 4) (Nat.le_of_ble_eq_true rfl)
  rw [lg_entry_eq]
  generalize (lg_sl ([.ref k0, .int v]) ++ List.replicate (4 - (lg_sl ([.ref k0, .int v])).length) Slot.unset).toArray = ls at hl ⊢
  have hl : lv_has ls 4 [(0, .ref k0), (1, .int v)] := hl
  have hdc : dc cp wa = if wa = 4096 * cp then 2 * cp else cp := rfl
  refine lv_aload_n hx hb dX11_write_0 rfl (lv_at hl 0 rfl) ?_
  refine va_get (D := (dC, dI)) (ci := 9) (v := .int (I0 41)) (C := RX11) (T := TX11) (N := 55) hx hb hts inX11 hown hK hP 0 rfl rfl 41 (by decide) (hts _ mw_1200) (fun _ h9 => h9) rfl dX11_write_1 ?_
  refine zz_i (v := nI wa) (hwa) ?_
  refine lv_aload_n hx hb dX11_write_4 rfl (lv_at hl 0 rfl) ?_
  refine va_get (D := (dC, dI)) (ci := 9) (v := .ref (a 28)) (C := RX11) (T := TX11) (N := 55) hx hb hts inX11 hown hK hP 0 rfl rfl 28 (by decide) (hts _ mw_1187) (fun _ h9 => h9) rfl dX11_write_5 ?_
  refine va_alen (v := nI (4096 * cp)) hx hb hK hP 1 0 rfl rfl rfl dX11_write_8 ?_
  refine lv_icmp_ne (tgt := 51) hx hb dX11_write_9 (by decide) (fun c_1 => ?_) (fun c_1 => ?_)
  · have c_1 : ¬ ((wa : Nat) : Int) = ((4096 * cp : Nat) : Int) := zc_ne (nI_toInt (by omega)) (nI_toInt (by omega)) c_1
    refine lv_aload_n hx hb dX11_write_51 rfl (lv_at hl 0 rfl) ?_
    refine va_get (D := (dC, dI)) (ci := 9) (v := .ref (a 28)) (C := RX11) (T := TX11) (N := 55) hx hb hts inX11 hown hK hP 0 rfl rfl 28 (by decide) (hts _ mw_1187) (fun _ h9 => h9) rfl dX11_write_52 ?_
    refine lv_aload_n hx hb dX11_write_55 rfl (lv_at hl 0 rfl) ?_
    refine va_get (D := (dC, dI)) (ci := 9) (v := .int (I0 41)) (C := RX11) (T := TX11) (N := 55) hx hb hts inX11 hown hK hP 0 rfl rfl 41 (by decide) (hts _ mw_1200) (fun _ h9 => h9) rfl dX11_write_56 ?_
    refine zz_i (v := nI wa) (hwa) ?_
    refine lv_iload_n hx hb dX11_write_59 rfl (lv_at hl 1 rfl) ?_
    refine z_iast hx hb hK hP hD hS 1 0 rfl rfl (e := wa) (x := v) rfl (by omega) (by omega) dX11_write_60 (fun H locs hP hD hS => ?_)
    have hP : va_P (dC, dI) classes [(om k0 a I0 J0), (oa (a 28) cI (4096 * cp) (upd sh wa v))] H := hP
    have hD : va_D A [(om k0 a I0 J0), (oa (a 28) cI (4096 * cp) (upd sh wa v))] := hD
    refine lv_aload_n hx hb dX11_write_61 rfl (lv_at hl 0 rfl) ?_
    refine lv_dup hx hb dX11_write_62 rfl ?_
    refine va_get (D := (dC, dI)) (ci := 9) (v := .int (I0 41)) (C := RX11) (T := TX11) (N := 55) hx hb hts inX11 hown hK hP 0 rfl rfl 41 (by decide) (hts _ mw_1200) (fun _ h9 => h9) rfl dX11_write_63 ?_
    refine zz_i (v := nI wa) (hwa) ?_
    refine lv_iconst (v := 1) hx hb dX11_write_66 (by decide) ?_
    refine lv_iadd hx hb dX11_write_67 ?_
    refine zz_i (v := nI (wa + 1)) (nI_add wa 1) ?_
    refine va_put (D := (dC, dI)) (ci := 9) (v := .int (nI (wa + 1))) (ty := .int) (C := RX11) (T := TX11) (N := 55) hx hb hts inX11 tyX11 tyX11_ok nmX11 hown hK hP hD hS 0 rfl rfl 41 (by decide) (hts _ mw_1200) (fun _ h9 => h9) rfl (by decide +kernel) rfl rfl (Nat.le_of_ble_eq_true rfl) dX11_write_68 (fun H locs hP hD hS => ?_)
    have hP : va_P (dC, dI) classes [(om k0 a (upd I0 41 (nI (wa + 1))) J0), (oa (a 28) cI (4096 * cp) (upd sh wa v))] H := hP
    have hD : va_D A [(om k0 a (upd I0 41 (nI (wa + 1))) J0), (oa (a 28) cI (4096 * cp) (upd sh wa v))] := hD
    have hP9 := hP.sub (ws' := [(om k0 a (upd I0 41 (nI (wa + 1))) J0), (oa (a 28) cI (4096 * cp) (upd sh wa v))]) [0, 1] rfl
    have hD9 := hD.sub (ws' := [(om k0 a (upd I0 41 (nI (wa + 1))) J0), (oa (a 28) cI (4096 * cp) (upd sh wa v))]) [0, 1] (by decide) rfl
    refine W.widen (k := dc cp wa - cp) (n := 8192 * (dc cp wa - cp)) (by omega) (by omega) ?_
    rw [hQ9]
    exact W.vret hx hb hr (fun t ht hW => ⟨⟨rfl, (a 28), cp, (upd sh wa v), (by first | (rw [hdc, if_neg (by omega)]) | (rw [hdc])), (by exact up_at _ _ _), (by first | exact up_lo (fun j hj => hall j (by omega)) (Nat.le_refl _) | exact up_lo (fun j hj => rfl) (Nat.le_refl _)), (by first | exact up_ne (fun j hj => hall j (by omega)) | exact up_ne (fun j hj => rfl)), by rw [ht]; exact hP9, hD9⟩, hS.F ht⟩) hS.2.2 dX11_write_71
  · have c_1 : ((wa : Nat) : Int) = ((4096 * cp : Nat) : Int) := zc_eq (nI_toInt (by omega)) (nI_toInt (by omega)) c_1
    have hwe : wa = 4096 * cp := (by omega)
    rw [if_pos hwe] at hdc
    refine lv_iconst (v := 2) hx hb dX11_write_12 (by decide) ?_
    refine lv_aload_n hx hb dX11_write_13 rfl (lv_at hl 0 rfl) ?_
    refine va_get (D := (dC, dI)) (ci := 9) (v := .int (I0 41)) (C := RX11) (T := TX11) (N := 55) hx hb hts inX11 hown hK hP 0 rfl rfl 41 (by decide) (hts _ mw_1200) (fun _ h9 => h9) rfl dX11_write_14 ?_
    refine zz_i (v := nI wa) (hwa) ?_
    refine lv_imul hx hb dX11_write_17 ?_
    refine zz_i (v := nI (2 * wa)) (pk_mul 2 wa) ?_
    refine zz_i (v := nI (4096 * (2 * cp))) (zn_eq (by omega)) ?_
    refine zz_newa (atype := .int) (a0 := (4096 * (2 * cp), .inl (fun _ => 0))) hx hb (hts _ mw_195) (ty := .int) rfl hK hP hD hS hA (n := nI (4096 * (2 * cp))) (N' := 4096 * (2 * cp)) (cA := cI) 0 rfl (fun _ => rfl) (nI_pos (by omega)) (nI_clamp (by omega)) (show (4096 * (2 * cp)) * 4 ≤ 536870912 by omega) (show 1 ≤ dc cp wa - cp by omega) (show (0 + (4096 * (2 * cp))) ≤ 8192 * (dc cp wa - cp) by omega) dX11_write_18 (fun nb H hP hD hS => ?_)
    have hP : va_P (dC, dI) classes [(om k0 a I0 J0), (oa (a 28) cI (4096 * cp) sh), (oa nb cI (4096 * (2 * cp)) (fun _ => 0))] H := hP
    have hD : va_D A [(om k0 a I0 J0), (oa (a 28) cI (4096 * cp) sh), (oa nb cI (4096 * (2 * cp)) (fun _ => 0))] := hD
    refine lv_astore_n (lv' := [(2, .ref nb), (0, .ref k0), (1, .int v)]) hx hb dX11_write_20 rfl hl (by decide) rfl (fun ls hl => ?_)
    refine lv_iconst (v := 0) hx hb dX11_write_21 (by decide) ?_
    refine lv_istore_n (lv' := [(3, .int 0), (2, .ref nb), (0, .ref k0), (1, .int v)]) hx hb dX11_write_22 rfl hl (by decide) rfl (fun ls hl => ?_)
    have hl_23 : ∀ (n9 : Nat) (k : Nat) (f1 : Nat → Int32) (H : Heap) (locs : List Loc) (ls : Array Slot), wa - k < n9 → (k ≤ wa) → (∀ j, j < k → f1 j = sh j) → va_P (dC, dI) classes [(om k0 a I0 J0), (oa (a 28) cI (4096 * cp) sh), (oa nb cI (4096 * (2 * cp)) f1)] H → va_D A [(om k0 a I0 J0), (oa (a 28) cI (4096 * cp) sh), (oa nb cI (4096 * (2 * cp)) f1)] → va_S A s.heap H locs → lv_has ls 4 [(3, .int (nI k)), (2, .ref nb), (0, .ref k0), (1, .int v)] → W p l e ((headSpec (.code yX11_write cX11_write 4 none :: ws0) ({ frames := 0, cells := dc cp wa - cp, slots := 8192 * (dc cp wa - cp), locals := 0 } : Room)).room) s m ([.ref k0, .int v] : List Value).toArray below meth c H locs 1 (0 + (4096 * (2 * cp))) Q9 (F0 m 23 ls []) := by
      intro n9
      induction n9 with
      | zero => intro k f1 H locs ls hm; exact absurd hm (Nat.not_lt_zero _)
      | succ n9 ih_23 =>
        intro k f1 H locs ls hm hk hall hP hD hS hl
        refine lv_iload_n hx hb dX11_write_23 rfl (lv_at hl 0 rfl) ?_
        refine lv_aload_n hx hb dX11_write_24 rfl (lv_at hl 2 rfl) ?_
        refine va_get (D := (dC, dI)) (ci := 9) (v := .int (I0 41)) (C := RX11) (T := TX11) (N := 55) hx hb hts inX11 hown hK hP 0 rfl rfl 41 (by decide) (hts _ mw_1200) (fun _ h9 => h9) rfl dX11_write_25 ?_
        refine zz_i (v := nI wa) (hwa) ?_
        refine lv_icmp_ge (tgt := 46) hx hb dX11_write_28 (by decide) (fun c_2 => ?_) (fun c_2 => ?_)
        · have c_2 : ((wa : Nat) : Int) ≤ ((k : Nat) : Int) := zc_le (nI_toInt (by omega)) (nI_toInt (by omega)) c_2
          refine lv_aload_n hx hb dX11_write_46 rfl (lv_at hl 2 rfl) ?_
          refine lv_aload_n hx hb dX11_write_47 rfl (lv_at hl 1 rfl) ?_
          refine va_put (D := (dC, dI)) (ci := 9) (v := .ref nb) (ty := .array .int) (C := RX11) (T := TX11) (N := 55) hx hb hts inX11 tyX11 tyX11_ok nmX11 hown hK hP hD hS 0 rfl rfl 28 (by decide) (hts _ mw_1187) (fun _ h9 => h9) rfl (by decide +kernel) rfl rfl (Nat.le_of_ble_eq_true rfl) dX11_write_48 (fun H locs hP hD hS => ?_)
          have hP : va_P (dC, dI) classes [(om k0 (va_up a 28 nb) I0 J0), (oa (a 28) cI (4096 * cp) sh), (oa nb cI (4096 * (2 * cp)) f1)] H := hP
          have hD : va_D A [(om k0 (va_up a 28 nb) I0 J0), (oa (a 28) cI (4096 * cp) sh), (oa nb cI (4096 * (2 * cp)) f1)] := hD
          refine lv_aload_n hx hb dX11_write_51 rfl (lv_at hl 2 rfl) ?_
          refine va_get (D := (dC, dI)) (ci := 9) (v := .ref nb) (C := RX11) (T := TX11) (N := 55) hx hb hts inX11 hown hK hP 0 rfl rfl 28 (by decide) (hts _ mw_1187) (fun _ h9 => h9) rfl dX11_write_52 ?_
          refine lv_aload_n hx hb dX11_write_55 rfl (lv_at hl 2 rfl) ?_
          refine va_get (D := (dC, dI)) (ci := 9) (v := .int (I0 41)) (C := RX11) (T := TX11) (N := 55) hx hb hts inX11 hown hK hP 0 rfl rfl 41 (by decide) (hts _ mw_1200) (fun _ h9 => h9) rfl dX11_write_56 ?_
          refine zz_i (v := nI wa) (hwa) ?_
          refine lv_iload_n hx hb dX11_write_59 rfl (lv_at hl 3 rfl) ?_
          refine z_iast hx hb hK hP hD hS 2 0 rfl rfl (e := wa) (x := v) rfl (by omega) (by omega) dX11_write_60 (fun H locs hP hD hS => ?_)
          have hP : va_P (dC, dI) classes [(om k0 (va_up a 28 nb) I0 J0), (oa (a 28) cI (4096 * cp) sh), (oa nb cI (4096 * (2 * cp)) (upd f1 wa v))] H := hP
          have hD : va_D A [(om k0 (va_up a 28 nb) I0 J0), (oa (a 28) cI (4096 * cp) sh), (oa nb cI (4096 * (2 * cp)) (upd f1 wa v))] := hD
          refine lv_aload_n hx hb dX11_write_61 rfl (lv_at hl 2 rfl) ?_
          refine lv_dup hx hb dX11_write_62 rfl ?_
          refine va_get (D := (dC, dI)) (ci := 9) (v := .int (I0 41)) (C := RX11) (T := TX11) (N := 55) hx hb hts inX11 hown hK hP 0 rfl rfl 41 (by decide) (hts _ mw_1200) (fun _ h9 => h9) rfl dX11_write_63 ?_
          refine zz_i (v := nI wa) (hwa) ?_
          refine lv_iconst (v := 1) hx hb dX11_write_66 (by decide) ?_
          refine lv_iadd hx hb dX11_write_67 ?_
          refine zz_i (v := nI (wa + 1)) (nI_add wa 1) ?_
          refine va_put (D := (dC, dI)) (ci := 9) (v := .int (nI (wa + 1))) (ty := .int) (C := RX11) (T := TX11) (N := 55) hx hb hts inX11 tyX11 tyX11_ok nmX11 hown hK hP hD hS 0 rfl rfl 41 (by decide) (hts _ mw_1200) (fun _ h9 => h9) rfl (by decide +kernel) rfl rfl (Nat.le_of_ble_eq_true rfl) dX11_write_68 (fun H locs hP hD hS => ?_)
          have hP : va_P (dC, dI) classes [(om k0 (va_up a 28 nb) (upd I0 41 (nI (wa + 1))) J0), (oa (a 28) cI (4096 * cp) sh), (oa nb cI (4096 * (2 * cp)) (upd f1 wa v))] H := hP
          have hD : va_D A [(om k0 (va_up a 28 nb) (upd I0 41 (nI (wa + 1))) J0), (oa (a 28) cI (4096 * cp) sh), (oa nb cI (4096 * (2 * cp)) (upd f1 wa v))] := hD
          have hP9 := hP.sub (ws' := [(om k0 (va_up a 28 nb) (upd I0 41 (nI (wa + 1))) J0), (oa nb cI (4096 * (2 * cp)) (upd f1 wa v))]) [0, 2] rfl
          have hD9 := hD.sub (ws' := [(om k0 (va_up a 28 nb) (upd I0 41 (nI (wa + 1))) J0), (oa nb cI (4096 * (2 * cp)) (upd f1 wa v))]) [0, 2] (by decide) rfl
          refine W.widen (k := dc cp wa - cp) (n := 8192 * (dc cp wa - cp)) (by omega) (by omega) ?_
          rw [hQ9]
          exact W.vret hx hb hr (fun t ht hW => ⟨⟨rfl, nb, (2 * cp), (upd f1 wa v), (by first | (rw [hdc, if_neg (by omega)]) | (rw [hdc])), (by exact up_at _ _ _), (by first | exact up_lo (fun j hj => hall j (by omega)) (Nat.le_refl _) | exact up_lo (fun j hj => rfl) (Nat.le_refl _)), (by first | exact up_ne (fun j hj => hall j (by omega)) | exact up_ne (fun j hj => rfl)), by rw [ht]; exact hP9, hD9⟩, hS.F ht⟩) hS.2.2 dX11_write_71
        · have c_2 : ((k : Nat) : Int) < ((wa : Nat) : Int) := zc_nle (nI_toInt (by omega)) (nI_toInt (by omega)) c_2
          refine lv_aload_n hx hb dX11_write_31 rfl (lv_at hl 1 rfl) ?_
          refine lv_iload_n hx hb dX11_write_32 rfl (lv_at hl 0 rfl) ?_
          refine lv_aload_n hx hb dX11_write_33 rfl (lv_at hl 2 rfl) ?_
          refine va_get (D := (dC, dI)) (ci := 9) (v := .ref (a 28)) (C := RX11) (T := TX11) (N := 55) hx hb hts inX11 hown hK hP 0 rfl rfl 28 (by decide) (hts _ mw_1187) (fun _ h9 => h9) rfl dX11_write_34 ?_
          refine lv_iload_n hx hb dX11_write_37 rfl (lv_at hl 0 rfl) ?_
          refine z_iald hx hb hK hP 1 0 rfl rfl (e := k) rfl (by omega) (by omega) dX11_write_38 ?_
          refine z_iast hx hb hK hP hD hS 2 0 rfl rfl (e := k) (x := sh k) rfl (by omega) (by omega) dX11_write_39 (fun H locs hP hD hS => ?_)
          have hP : va_P (dC, dI) classes [(om k0 a I0 J0), (oa (a 28) cI (4096 * cp) sh), (oa nb cI (4096 * (2 * cp)) (upd f1 k (sh k)))] H := hP
          have hD : va_D A [(om k0 a I0 J0), (oa (a 28) cI (4096 * cp) sh), (oa nb cI (4096 * (2 * cp)) (upd f1 k (sh k)))] := hD
          refine lv_iinc (v := nI (k + 1)) (lv' := [(3, .int (nI (k + 1))), (2, .ref nb), (0, .ref k0), (1, .int v)]) hx hb dX11_write_40 hl (k := 0) rfl (nI_add k 1) (by decide) rfl (fun ls hl => ?_)
          refine lv_goto (tgt := 23) hx hb dX11_write_43 (by decide) ?_
          exact ih_23 (k + 1) (upd f1 k (sh k)) H locs ls (by omega) (by omega) (up_sn hall rfl) hP hD hS (lv_sub hl [0, 1, 2, 3] rfl)
    exact hl_23 _ 0 (fun _ => 0) H [] ls (Nat.lt_succ_self _) (by omega) (by intro j hj; omega) hP hD hS (lv_sub hl [0, 1, 2, 3] rfl)
set_option maxHeartbeats 4000000 in
set_option maxRecDepth 100000 in
theorem k_M_next (l : Launch) (dC : Nat → ClassId) (dI : Nat → Nat → Nat) (cI cZ cF : ClassId) (sz : Nat) (k0 : Nat) (a : Nat → Nat) (I0 : Nat → Int32) (J0 : Nat → Int64) (ra : Nat) (cp : Nat) (sh : Nat → Int32) (hra : I0 42 = nI ra) (hrc : ra < 4096 * cp) (hcm : cp ≤ 512) : Met l yX11_next (.code yX11_next cX11_next 1 (some .int) :: ws0) ({ frames := 0, cells := 0, slots := 0, locals := 0 } : Room) (va_Pc [.ref k0] (zPre (dC, dI) classes (zTy cI cZ cF) [(om k0 a I0 J0), (oa (a 28) cI (4096 * cp) sh)] sz zXN)) (zQ (some (.int (sh ra))) (fun t => va_P (dC, dI) classes [(om k0 a (upd I0 42 (nI (ra + 1))) J0), (oa (a 28) cI (4096 * cp) sh)] t.heap ∧ va_D (va_A [(om k0 a I0 J0), (oa (a 28) cI (4096 * cp) sh)] sz) [(om k0 a (upd I0 42 (nI (ra + 1))) J0), (oa (a 28) cI (4096 * cp) sh)]) (va_A [(om k0 a I0 J0), (oa (a 28) cI (4096 * cp) sh)] sz)) 0 0 (va_A [(om k0 a I0 J0), (oa (a 28) cI (4096 * cp) sh)] sz) := by
  refine Met.ofW (cc := cX11_next) (maxL := 1) (ret := (some .int)) (by decide) rfl ?_
  intro p e s m args below meth c s₁ B hml hv
  obtain ⟨rfl, hsz, hP, hK, hD0, hXN⟩ := hv
  have hx := B.exec
  have hb := B.bytes
  have hr := B.returns
  have hts0 := atoms_spec (ws := .code yX11_next cX11_next 1 (some .int) :: ws0) B.pre
  have hts : ∀ w9 ∈ ws0, w9.before ([.ref k0] : List Value).toArray s = true := fun w9 h => hts0 w9 (List.mem_cons_of_mem _ h)
  have hown : s.vm.findClass "ScaleShopModel" = some m.cls := findClass_of_methodNamed B.named
  have hlocks := B.notSynchronized
  subst hsz
  have hD := hD0.self (sz := s.heap.size)
  clear hD0
  generalize hAe : va_A [(om k0 a I0 J0), (oa (a 28) cI (4096 * cp) sh)] s.heap.size = A at hD ⊢
  have hA : ∀ q : Nat, s.heap.size ≤ q → A q := fun q h => by rw [← hAe]; exact Or.inr h
  clear hAe
  have hS : va_S A s.heap s.heap [] := va_S.rf
  have hP : va_P (dC, dI) classes [(om k0 a I0 J0), (oa (a 28) cI (4096 * cp) sh)] s.heap := hP
  obtain ⟨Q9, hQ9⟩ : ∃ Q9 : State → Prop, Q9 = MQ below (zQ (some (.int (sh ra))) (fun t => va_P (dC, dI) classes [(om k0 a (upd I0 42 (nI (ra + 1))) J0), (oa (a 28) cI (4096 * cp) sh)] t.heap ∧ va_D A [(om k0 a (upd I0 42 (nI (ra + 1))) J0), (oa (a 28) cI (4096 * cp) sh)]) A) ([.ref k0] : List Value).toArray s 0 0 A := ⟨_, rfl⟩
  rw [← hQ9]
  have hl := lv_entry ([.ref k0]) (n := 1) (Nat.le_of_ble_eq_true rfl)
  rw [lg_entry_eq]
  generalize (lg_sl ([.ref k0]) ++ List.replicate (1 - (lg_sl ([.ref k0])).length) Slot.unset).toArray = ls at hl ⊢
  have hl : lv_has ls 1 [(0, .ref k0)] := hl
  refine lv_aload_n hx hb dX11_next_0 rfl (lv_at hl 0 rfl) ?_
  refine lv_dup hx hb dX11_next_1 rfl ?_
  refine va_get (D := (dC, dI)) (ci := 9) (v := .int (I0 42)) (C := RX11) (T := TX11) (N := 55) hx hb hts inX11 hown hK hP 0 rfl rfl 42 (by decide) (hts _ mw_1201) (fun _ h9 => h9) rfl dX11_next_2 ?_
  refine zz_i (v := nI ra) (hra) ?_
  refine lv_iconst (v := 1) hx hb dX11_next_5 (by decide) ?_
  refine lv_iadd hx hb dX11_next_6 ?_
  refine zz_i (v := nI (ra + 1)) (nI_add ra 1) ?_
  refine va_put (D := (dC, dI)) (ci := 9) (v := .int (nI (ra + 1))) (ty := .int) (C := RX11) (T := TX11) (N := 55) hx hb hts inX11 tyX11 tyX11_ok nmX11 hown hK hP hD hS 0 rfl rfl 42 (by decide) (hts _ mw_1201) (fun _ h9 => h9) rfl (by decide +kernel) rfl rfl (Nat.le_of_ble_eq_true rfl) dX11_next_7 (fun H locs hP hD hS => ?_)
  have hP : va_P (dC, dI) classes [(om k0 a (upd I0 42 (nI (ra + 1))) J0), (oa (a 28) cI (4096 * cp) sh)] H := hP
  have hD : va_D A [(om k0 a (upd I0 42 (nI (ra + 1))) J0), (oa (a 28) cI (4096 * cp) sh)] := hD
  refine lv_aload_n hx hb dX11_next_10 rfl (lv_at hl 0 rfl) ?_
  refine va_get (D := (dC, dI)) (ci := 9) (v := .ref (a 28)) (C := RX11) (T := TX11) (N := 55) hx hb hts inX11 hown hK hP 0 rfl rfl 28 (by decide) (hts _ mw_1187) (fun _ h9 => h9) rfl dX11_next_11 ?_
  refine lv_aload_n hx hb dX11_next_14 rfl (lv_at hl 0 rfl) ?_
  refine va_get (D := (dC, dI)) (ci := 9) (v := .int (nI (ra + 1))) (C := RX11) (T := TX11) (N := 55) hx hb hts inX11 hown hK hP 0 rfl rfl 42 (by decide) (hts _ mw_1201) (fun _ h9 => h9) rfl dX11_next_15 ?_
  refine lv_iconst (v := 1) hx hb dX11_next_18 (by decide) ?_
  refine lv_isub hx hb dX11_next_19 ?_
  refine zz_i (v := nI ((ra + 1) - 1)) (pk_sub (a := ra + 1) (b := 1) (by omega)) ?_
  refine z_iald hx hb hK hP 1 0 rfl rfl (e := (ra + 1) - 1) rfl (by omega) (by omega) dX11_next_20 ?_
  refine zz_i (v := sh ra) (by first | rfl | (congr 1; omega)) ?_
  have hP9 := hP.sub (ws' := [(om k0 a (upd I0 42 (nI (ra + 1))) J0), (oa (a 28) cI (4096 * cp) sh)]) [0, 1] rfl
  have hD9 := hD.sub (ws' := [(om k0 a (upd I0 42 (nI (ra + 1))) J0), (oa (a 28) cI (4096 * cp) sh)]) [0, 1] (by decide) rfl
  rw [hQ9]
  exact W.iret (v := sh ra) hx hb hr (fun t ht hW => ⟨⟨rfl, by rw [ht]; exact hP9, hD9⟩, hS.F ht⟩) hS.2.2 dX11_next_21
