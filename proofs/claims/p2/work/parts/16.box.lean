set_option maxHeartbeats 4000000 in
set_option maxRecDepth 100000 in
theorem k_Box_begin (l : Launch) (dC : Nat → ClassId) (dI : Nat → Nat → Nat) (cI cZ cF : ClassId) (sz : Nat) (b0 : Nat) (x0 : Int32) (y0 : Int32) (x1 : Int32) (y1 : Int32) (px : Int32) (py : Int32) : Met l yX0_begin (.code yX0_begin cX0_begin 3 none :: ws0) ({ frames := 0, cells := 0, slots := 0, locals := 0 } : Room) (va_Pc [.ref b0, .int px, .int py] (zPre (dC, dI) classes (zTy cI cZ cF) [(oc0 b0 x0 y0 x1 y1)] sz zXN)) (zQ none (fun t => va_P (dC, dI) classes [(oc0 b0 (iI px.toInt) (iI py.toInt) (iI px.toInt) (iI py.toInt))] t.heap ∧ va_D (va_A [(oc0 b0 x0 y0 x1 y1)] sz) [(oc0 b0 (iI px.toInt) (iI py.toInt) (iI px.toInt) (iI py.toInt))]) (va_A [(oc0 b0 x0 y0 x1 y1)] sz)) 0 0 (va_A [(oc0 b0 x0 y0 x1 y1)] sz) := by
  refine Met.ofW (cc := cX0_begin) (maxL := 3) (ret := none) (by decide) rfl ?_
  intro p e s m args below meth c s₁ B hml hv
  obtain ⟨rfl, hsz, hP, hK, hD0, hXN⟩ := hv
  have hx := B.exec
  have hb := B.bytes
  have hr := B.returns
  have hts0 := atoms_spec (ws := .code yX0_begin cX0_begin 3 none :: ws0) B.pre
  have hts : ∀ w9 ∈ ws0, w9.before ([.ref b0, .int px, .int py] : List Value).toArray s = true := fun w9 h => hts0 w9 (List.mem_cons_of_mem _ h)
  have hown : s.vm.findClass "ScaleShop$Box" = some m.cls := findClass_of_methodNamed B.named
  have hlocks := B.notSynchronized
  subst hsz
  have hD := hD0.self (sz := s.heap.size)
  clear hD0
  generalize hAe : va_A [(oc0 b0 x0 y0 x1 y1)] s.heap.size = A at hD ⊢
  have hA : ∀ q : Nat, s.heap.size ≤ q → A q := fun q h => by rw [← hAe]; exact Or.inr h
  clear hAe
  have hS : va_S A s.heap s.heap [] := va_S.rf
  have hP : va_P (dC, dI) classes [(oc0 b0 x0 y0 x1 y1)] s.heap := hP
  obtain ⟨Q9, hQ9⟩ : ∃ Q9 : State → Prop, Q9 = MQ below (zQ none (fun t => va_P (dC, dI) classes [(oc0 b0 (iI px.toInt) (iI py.toInt) (iI px.toInt) (iI py.toInt))] t.heap ∧ va_D A [(oc0 b0 (iI px.toInt) (iI py.toInt) (iI px.toInt) (iI py.toInt))]) A) ([.ref b0, .int px, .int py] : List Value).toArray s 0 0 A := ⟨_, rfl⟩
  rw [← hQ9]
  have hl := lv_entry ([.ref b0, .int px, .int py]) (n := 3) (Nat.le_of_ble_eq_true rfl)
  rw [lg_entry_eq]
  generalize (lg_sl ([.ref b0, .int px, .int py]) ++ List.replicate (3 - (lg_sl ([.ref b0, .int px, .int py])).length) Slot.unset).toArray = ls at hl ⊢
  have hl : lv_has ls 3 [(0, .ref b0), (1, .int px), (2, .int py)] := hl
  refine lv_aload_n hx hb dX0_begin_0 rfl (lv_at hl 0 rfl) ?_
  refine lv_iload_n hx hb dX0_begin_1 rfl (lv_at hl 1 rfl) ?_
  refine va_put (D := (dC, dI)) (ci := 0) (v := .int px) (ty := .int) (C := RX0) (T := TX0) (N := 4) hx hb hts inX0 tyX0 tyX0_ok nmX0 hown hK hP hD hS 0 rfl rfl 0 (by decide) (hts _ mw_202) (fun _ h9 => h9) rfl (by decide +kernel) rfl rfl (Nat.le_of_ble_eq_true rfl) dX0_begin_2 (fun H locs hP hD hS => ?_)
  have hP : va_P (dC, dI) classes [(oc0 b0 px y0 x1 y1)] H := hP
  have hD : va_D A [(oc0 b0 px y0 x1 y1)] := hD
  refine lv_aload_n hx hb dX0_begin_5 rfl (lv_at hl 0 rfl) ?_
  refine lv_iload_n hx hb dX0_begin_6 rfl (lv_at hl 1 rfl) ?_
  refine va_put (D := (dC, dI)) (ci := 0) (v := .int px) (ty := .int) (C := RX0) (T := TX0) (N := 4) hx hb hts inX0 tyX0 tyX0_ok nmX0 hown hK hP hD hS 0 rfl rfl 2 (by decide) (hts _ mw_206) (fun _ h9 => h9) rfl (by decide +kernel) rfl rfl (Nat.le_of_ble_eq_true rfl) dX0_begin_7 (fun H locs hP hD hS => ?_)
  have hP : va_P (dC, dI) classes [(oc0 b0 px y0 px y1)] H := hP
  have hD : va_D A [(oc0 b0 px y0 px y1)] := hD
  refine lv_aload_n hx hb dX0_begin_10 rfl (lv_at hl 0 rfl) ?_
  refine lv_iload_n hx hb dX0_begin_11 rfl (lv_at hl 2 rfl) ?_
  refine va_put (D := (dC, dI)) (ci := 0) (v := .int py) (ty := .int) (C := RX0) (T := TX0) (N := 4) hx hb hts inX0 tyX0 tyX0_ok nmX0 hown hK hP hD hS 0 rfl rfl 1 (by decide) (hts _ mw_204) (fun _ h9 => h9) rfl (by decide +kernel) rfl rfl (Nat.le_of_ble_eq_true rfl) dX0_begin_12 (fun H locs hP hD hS => ?_)
  have hP : va_P (dC, dI) classes [(oc0 b0 px py px y1)] H := hP
  have hD : va_D A [(oc0 b0 px py px y1)] := hD
  refine lv_aload_n hx hb dX0_begin_15 rfl (lv_at hl 0 rfl) ?_
  refine lv_iload_n hx hb dX0_begin_16 rfl (lv_at hl 2 rfl) ?_
  refine va_put (D := (dC, dI)) (ci := 0) (v := .int py) (ty := .int) (C := RX0) (T := TX0) (N := 4) hx hb hts inX0 tyX0 tyX0_ok nmX0 hown hK hP hD hS 0 rfl rfl 3 (by decide) (hts _ mw_208) (fun _ h9 => h9) rfl (by decide +kernel) rfl rfl (Nat.le_of_ble_eq_true rfl) dX0_begin_17 (fun H locs hP hD hS => ?_)
  have hP : va_P (dC, dI) classes [(oc0 b0 px py px py)] H := hP
  have hD : va_D A [(oc0 b0 px py px py)] := hD
  have hP9 := hP.sub (ws' := [(oc0 b0 px py px py)]) [0] rfl
  have hD9 := hD.sub (ws' := [(oc0 b0 px py px py)]) [0] (by decide) rfl
  have hE9 : ([(oc0 b0 px py px py)] : va_W) = [(oc0 b0 (iI px.toInt) (iI py.toInt) (iI px.toInt) (iI py.toInt))] := by rw [← iI_of (x := px) (z := px.toInt) rfl, ← iI_of (x := py) (z := py.toInt) rfl]
  rw [hE9] at hP9 hD9
  rw [hQ9]
  exact W.vret hx hb hr (fun t ht hW => ⟨⟨rfl, by rw [ht]; exact hP9, hD9⟩, hS.F ht⟩) hS.2.2 dX0_begin_20
set_option maxHeartbeats 4000000 in
set_option maxRecDepth 100000 in
theorem k_Box_take (l : Launch) (dC : Nat → ClassId) (dI : Nat → Nat → Nat) (cI cZ cF : ClassId) (sz : Nat) (b0 : Nat) (l0 : Int) (o0 : Int) (r0 : Int) (h0 : Int) (px : Int32) (py : Int32) (hnb : nr l0 ∧ nr o0 ∧ nr r0 ∧ nr h0) : Met l yX0_take (.code yX0_take cX0_take 3 none :: ws0) ({ frames := 0, cells := 0, slots := 0, locals := 0 } : Room) (va_Pc [.ref b0, .int px, .int py] (zPre (dC, dI) classes (zTy cI cZ cF) [(oc0 b0 (iI l0) (iI o0) (iI r0) (iI h0))] sz zXN)) (zQ none (fun t => va_P (dC, dI) classes [(oc0 b0 (iI (min l0 px.toInt)) (iI (min o0 py.toInt)) (iI (max r0 px.toInt)) (iI (max h0 py.toInt)))] t.heap ∧ va_D (va_A [(oc0 b0 (iI l0) (iI o0) (iI r0) (iI h0))] sz) [(oc0 b0 (iI (min l0 px.toInt)) (iI (min o0 py.toInt)) (iI (max r0 px.toInt)) (iI (max h0 py.toInt)))]) (va_A [(oc0 b0 (iI l0) (iI o0) (iI r0) (iI h0))] sz)) 0 0 (va_A [(oc0 b0 (iI l0) (iI o0) (iI r0) (iI h0))] sz) := by
  refine Met.ofW (cc := cX0_take) (maxL := 3) (ret := none) (by decide) rfl ?_
  intro p e s m args below meth c s₁ B hml hv
  obtain ⟨rfl, hsz, hP, hK, hD0, hXN⟩ := hv
  have hx := B.exec
  have hb := B.bytes
  have hr := B.returns
  have hts0 := atoms_spec (ws := .code yX0_take cX0_take 3 none :: ws0) B.pre
  have hts : ∀ w9 ∈ ws0, w9.before ([.ref b0, .int px, .int py] : List Value).toArray s = true := fun w9 h => hts0 w9 (List.mem_cons_of_mem _ h)
  have hown : s.vm.findClass "ScaleShop$Box" = some m.cls := findClass_of_methodNamed B.named
  have hlocks := B.notSynchronized
  subst hsz
  have hD := hD0.self (sz := s.heap.size)
  clear hD0
  generalize hAe : va_A [(oc0 b0 (iI l0) (iI o0) (iI r0) (iI h0))] s.heap.size = A at hD ⊢
  have hA : ∀ q : Nat, s.heap.size ≤ q → A q := fun q h => by rw [← hAe]; exact Or.inr h
  clear hAe
  have hS : va_S A s.heap s.heap [] := va_S.rf
  have hP : va_P (dC, dI) classes [(oc0 b0 (iI l0) (iI o0) (iI r0) (iI h0))] s.heap := hP
  obtain ⟨Q9, hQ9⟩ : ∃ Q9 : State → Prop, Q9 = MQ below (zQ none (fun t => va_P (dC, dI) classes [(oc0 b0 (iI (min l0 px.toInt)) (iI (min o0 py.toInt)) (iI (max r0 px.toInt)) (iI (max h0 py.toInt)))] t.heap ∧ va_D A [(oc0 b0 (iI (min l0 px.toInt)) (iI (min o0 py.toInt)) (iI (max r0 px.toInt)) (iI (max h0 py.toInt)))]) A) ([.ref b0, .int px, .int py] : List Value).toArray s 0 0 A := ⟨_, rfl⟩
  rw [← hQ9]
  have hl := lv_entry ([.ref b0, .int px, .int py]) (n := 3) (Nat.le_of_ble_eq_true rfl)
  rw [lg_entry_eq]
  generalize (lg_sl ([.ref b0, .int px, .int py]) ++ List.replicate (3 - (lg_sl ([.ref b0, .int px, .int py])).length) Slot.unset).toArray = ls at hl ⊢
  have hl : lv_has ls 3 [(0, .ref b0), (1, .int px), (2, .int py)] := hl
  have hnb9 := hnb
  unfold nr at hnb9
  refine lv_aload_n hx hb dX0_take_0 rfl (lv_at hl 0 rfl) ?_
  refine lv_iload_n hx hb dX0_take_1 rfl (lv_at hl 1 rfl) ?_
  refine lv_aload_n hx hb dX0_take_2 rfl (lv_at hl 0 rfl) ?_
  refine va_get (D := (dC, dI)) (ci := 0) (v := .int (iI l0)) (C := RX0) (T := TX0) (N := 4) hx hb hts inX0 hown hK hP 0 rfl rfl 0 (by decide) (hts _ mw_202) (fun _ h9 => h9) rfl dX0_take_3 ?_
  have hj_1 : W p l e ((headSpec (.code yX0_take cX0_take 3 none :: ws0) ({ frames := 0, cells := 0, slots := 0, locals := 0 } : Room)).room) s m ([.ref b0, .int px, .int py] : List Value).toArray below meth c s.heap [] 0 0 Q9 (F0 m 17 ls [.int (iI (min l0 px.toInt)), .ref b0]) := by
    refine va_put (D := (dC, dI)) (ci := 0) (v := .int (iI (min l0 px.toInt))) (ty := .int) (C := RX0) (T := TX0) (N := 4) hx hb hts inX0 tyX0 tyX0_ok nmX0 hown hK hP hD hS 0 rfl rfl 0 (by decide) (hts _ mw_202) (fun _ h9 => h9) rfl (by decide +kernel) rfl rfl (Nat.le_of_ble_eq_true rfl) dX0_take_17 (fun H locs hP hD hS => ?_)
    have hP : va_P (dC, dI) classes [(oc0 b0 (iI (min l0 px.toInt)) (iI o0) (iI r0) (iI h0))] H := hP
    have hD : va_D A [(oc0 b0 (iI (min l0 px.toInt)) (iI o0) (iI r0) (iI h0))] := hD
    refine lv_aload_n hx hb dX0_take_20 rfl (lv_at hl 0 rfl) ?_
    refine lv_iload_n hx hb dX0_take_21 rfl (lv_at hl 1 rfl) ?_
    refine lv_aload_n hx hb dX0_take_22 rfl (lv_at hl 0 rfl) ?_
    refine va_get (D := (dC, dI)) (ci := 0) (v := .int (iI r0)) (C := RX0) (T := TX0) (N := 4) hx hb hts inX0 hown hK hP 0 rfl rfl 2 (by decide) (hts _ mw_206) (fun _ h9 => h9) rfl dX0_take_23 ?_
    have hj_2 : W p l e ((headSpec (.code yX0_take cX0_take 3 none :: ws0) ({ frames := 0, cells := 0, slots := 0, locals := 0 } : Room)).room) s m ([.ref b0, .int px, .int py] : List Value).toArray below meth c H locs 0 0 Q9 (F0 m 37 ls [.int (iI (max r0 px.toInt)), .ref b0]) := by
      refine va_put (D := (dC, dI)) (ci := 0) (v := .int (iI (max r0 px.toInt))) (ty := .int) (C := RX0) (T := TX0) (N := 4) hx hb hts inX0 tyX0 tyX0_ok nmX0 hown hK hP hD hS 0 rfl rfl 2 (by decide) (hts _ mw_206) (fun _ h9 => h9) rfl (by decide +kernel) rfl rfl (Nat.le_of_ble_eq_true rfl) dX0_take_37 (fun H locs hP hD hS => ?_)
      have hP : va_P (dC, dI) classes [(oc0 b0 (iI (min l0 px.toInt)) (iI o0) (iI (max r0 px.toInt)) (iI h0))] H := hP
      have hD : va_D A [(oc0 b0 (iI (min l0 px.toInt)) (iI o0) (iI (max r0 px.toInt)) (iI h0))] := hD
      refine lv_aload_n hx hb dX0_take_40 rfl (lv_at hl 0 rfl) ?_
      refine lv_iload_n hx hb dX0_take_41 rfl (lv_at hl 2 rfl) ?_
      refine lv_aload_n hx hb dX0_take_42 rfl (lv_at hl 0 rfl) ?_
      refine va_get (D := (dC, dI)) (ci := 0) (v := .int (iI o0)) (C := RX0) (T := TX0) (N := 4) hx hb hts inX0 hown hK hP 0 rfl rfl 1 (by decide) (hts _ mw_204) (fun _ h9 => h9) rfl dX0_take_43 ?_
      have hj_3 : W p l e ((headSpec (.code yX0_take cX0_take 3 none :: ws0) ({ frames := 0, cells := 0, slots := 0, locals := 0 } : Room)).room) s m ([.ref b0, .int px, .int py] : List Value).toArray below meth c H locs 0 0 Q9 (F0 m 57 ls [.int (iI (min o0 py.toInt)), .ref b0]) := by
        refine va_put (D := (dC, dI)) (ci := 0) (v := .int (iI (min o0 py.toInt))) (ty := .int) (C := RX0) (T := TX0) (N := 4) hx hb hts inX0 tyX0 tyX0_ok nmX0 hown hK hP hD hS 0 rfl rfl 1 (by decide) (hts _ mw_204) (fun _ h9 => h9) rfl (by decide +kernel) rfl rfl (Nat.le_of_ble_eq_true rfl) dX0_take_57 (fun H locs hP hD hS => ?_)
        have hP : va_P (dC, dI) classes [(oc0 b0 (iI (min l0 px.toInt)) (iI (min o0 py.toInt)) (iI (max r0 px.toInt)) (iI h0))] H := hP
        have hD : va_D A [(oc0 b0 (iI (min l0 px.toInt)) (iI (min o0 py.toInt)) (iI (max r0 px.toInt)) (iI h0))] := hD
        refine lv_aload_n hx hb dX0_take_60 rfl (lv_at hl 0 rfl) ?_
        refine lv_iload_n hx hb dX0_take_61 rfl (lv_at hl 2 rfl) ?_
        refine lv_aload_n hx hb dX0_take_62 rfl (lv_at hl 0 rfl) ?_
        refine va_get (D := (dC, dI)) (ci := 0) (v := .int (iI h0)) (C := RX0) (T := TX0) (N := 4) hx hb hts inX0 hown hK hP 0 rfl rfl 3 (by decide) (hts _ mw_208) (fun _ h9 => h9) rfl dX0_take_63 ?_
        have hj_4 : W p l e ((headSpec (.code yX0_take cX0_take 3 none :: ws0) ({ frames := 0, cells := 0, slots := 0, locals := 0 } : Room)).room) s m ([.ref b0, .int px, .int py] : List Value).toArray below meth c H locs 0 0 Q9 (F0 m 77 ls [.int (iI (max h0 py.toInt)), .ref b0]) := by
          refine va_put (D := (dC, dI)) (ci := 0) (v := .int (iI (max h0 py.toInt))) (ty := .int) (C := RX0) (T := TX0) (N := 4) hx hb hts inX0 tyX0 tyX0_ok nmX0 hown hK hP hD hS 0 rfl rfl 3 (by decide) (hts _ mw_208) (fun _ h9 => h9) rfl (by decide +kernel) rfl rfl (Nat.le_of_ble_eq_true rfl) dX0_take_77 (fun H locs hP hD hS => ?_)
          have hP : va_P (dC, dI) classes [(oc0 b0 (iI (min l0 px.toInt)) (iI (min o0 py.toInt)) (iI (max r0 px.toInt)) (iI (max h0 py.toInt)))] H := hP
          have hD : va_D A [(oc0 b0 (iI (min l0 px.toInt)) (iI (min o0 py.toInt)) (iI (max r0 px.toInt)) (iI (max h0 py.toInt)))] := hD
          have hP9 := hP.sub (ws' := [(oc0 b0 (iI (min l0 px.toInt)) (iI (min o0 py.toInt)) (iI (max r0 px.toInt)) (iI (max h0 py.toInt)))]) [0] rfl
          have hD9 := hD.sub (ws' := [(oc0 b0 (iI (min l0 px.toInt)) (iI (min o0 py.toInt)) (iI (max r0 px.toInt)) (iI (max h0 py.toInt)))]) [0] (by decide) rfl
          rw [hQ9]
          exact W.vret hx hb hr (fun t ht hW => ⟨⟨rfl, by rw [ht]; exact hP9, hD9⟩, hS.F ht⟩) hS.2.2 dX0_take_80
        refine lv_icmp_le (tgt := 73) hx hb dX0_take_66 (by decide) (fun c_5 => ?_) (fun c_5 => ?_)
        · have c_5 : py.toInt ≤ h0 := zc_le rfl (iI_toInt (by omega)) c_5
          refine lv_aload_n hx hb dX0_take_73 rfl (lv_at hl 0 rfl) ?_
          refine va_get (D := (dC, dI)) (ci := 0) (v := .int (iI h0)) (C := RX0) (T := TX0) (N := 4) hx hb hts inX0 hown hK hP 0 rfl rfl 3 (by decide) (hts _ mw_208) (fun _ h9 => h9) rfl dX0_take_74 ?_
          refine zz_i (v := iI (max h0 py.toInt)) (by first | exact iI_of (by omega) | (congr 1; omega)) ?_
          exact hj_4 
        · have c_5 : h0 < py.toInt := zc_nle rfl (iI_toInt (by omega)) c_5
          refine lv_iload_n hx hb dX0_take_69 rfl (lv_at hl 2 rfl) ?_
          refine lv_goto (tgt := 77) hx hb dX0_take_70 (by decide) ?_
          refine zz_i (v := iI (max h0 py.toInt)) (by first | exact iI_of (by omega) | (congr 1; omega)) ?_
          exact hj_4 
      refine lv_icmp_ge (tgt := 53) hx hb dX0_take_46 (by decide) (fun c_6 => ?_) (fun c_6 => ?_)
      · have c_6 : o0 ≤ py.toInt := zc_le (iI_toInt (by omega)) rfl c_6
        refine lv_aload_n hx hb dX0_take_53 rfl (lv_at hl 0 rfl) ?_
        refine va_get (D := (dC, dI)) (ci := 0) (v := .int (iI o0)) (C := RX0) (T := TX0) (N := 4) hx hb hts inX0 hown hK hP 0 rfl rfl 1 (by decide) (hts _ mw_204) (fun _ h9 => h9) rfl dX0_take_54 ?_
        refine zz_i (v := iI (min o0 py.toInt)) (by first | exact iI_of (by omega) | (congr 1; omega)) ?_
        exact hj_3 
      · have c_6 : py.toInt < o0 := zc_nle (iI_toInt (by omega)) rfl c_6
        refine lv_iload_n hx hb dX0_take_49 rfl (lv_at hl 2 rfl) ?_
        refine lv_goto (tgt := 57) hx hb dX0_take_50 (by decide) ?_
        refine zz_i (v := iI (min o0 py.toInt)) (by first | exact iI_of (by omega) | (congr 1; omega)) ?_
        exact hj_3 
    refine lv_icmp_le (tgt := 33) hx hb dX0_take_26 (by decide) (fun c_7 => ?_) (fun c_7 => ?_)
    · have c_7 : px.toInt ≤ r0 := zc_le rfl (iI_toInt (by omega)) c_7
      refine lv_aload_n hx hb dX0_take_33 rfl (lv_at hl 0 rfl) ?_
      refine va_get (D := (dC, dI)) (ci := 0) (v := .int (iI r0)) (C := RX0) (T := TX0) (N := 4) hx hb hts inX0 hown hK hP 0 rfl rfl 2 (by decide) (hts _ mw_206) (fun _ h9 => h9) rfl dX0_take_34 ?_
      refine zz_i (v := iI (max r0 px.toInt)) (by first | exact iI_of (by omega) | (congr 1; omega)) ?_
      exact hj_2 
    · have c_7 : r0 < px.toInt := zc_nle rfl (iI_toInt (by omega)) c_7
      refine lv_iload_n hx hb dX0_take_29 rfl (lv_at hl 1 rfl) ?_
      refine lv_goto (tgt := 37) hx hb dX0_take_30 (by decide) ?_
      refine zz_i (v := iI (max r0 px.toInt)) (by first | exact iI_of (by omega) | (congr 1; omega)) ?_
      exact hj_2 
  refine lv_icmp_ge (tgt := 13) hx hb dX0_take_6 (by decide) (fun c_8 => ?_) (fun c_8 => ?_)
  · have c_8 : l0 ≤ px.toInt := zc_le (iI_toInt (by omega)) rfl c_8
    refine lv_aload_n hx hb dX0_take_13 rfl (lv_at hl 0 rfl) ?_
    refine va_get (D := (dC, dI)) (ci := 0) (v := .int (iI l0)) (C := RX0) (T := TX0) (N := 4) hx hb hts inX0 hown hK hP 0 rfl rfl 0 (by decide) (hts _ mw_202) (fun _ h9 => h9) rfl dX0_take_14 ?_
    refine zz_i (v := iI (min l0 px.toInt)) (by first | exact iI_of (by omega) | (congr 1; omega)) ?_
    exact hj_1 
  · have c_8 : px.toInt < l0 := zc_nle (iI_toInt (by omega)) rfl c_8
    refine lv_iload_n hx hb dX0_take_9 rfl (lv_at hl 1 rfl) ?_
    refine lv_goto (tgt := 17) hx hb dX0_take_10 (by decide) ?_
    refine zz_i (v := iI (min l0 px.toInt)) (by first | exact iI_of (by omega) | (congr 1; omega)) ?_
    exact hj_1 
set_option maxHeartbeats 4000000 in
set_option maxRecDepth 100000 in
theorem k_Box_stretch (l : Launch) (dC : Nat → ClassId) (dI : Nat → Nat → Nat) (cI cZ cF : ClassId) (sz : Nat) (b0 : Nat) (l0 : Int) (o0 : Int) (r0 : Int) (h0 : Int) (r : Nat) (rx : Nat) (ry : Nat) (n : Nat) (cap : Nat) (X : Nat → Int32) (Y : Nat → Int32) (rg : Int32) (hnb : nr l0 ∧ nr o0 ∧ nr r0 ∧ nr h0) (hn : n ≤ cap) (hcap : cap ≤ 1000) (hnx : ∀ k, k < n → nr (X k).toInt) (hny : ∀ k, k < n → nr (Y k).toInt) : Met l yX0_stretch (.code yX0_stretch cX0_stretch 3 none :: ws0) ({ frames := 1, cells := 0, slots := 0, locals := 22 } : Room) (va_Pc [.ref b0, .ref r] (zPre (dC, dI) classes (zTy cI cZ cF) [(oc0 b0 (iI l0) (iI o0) (iI r0) (iI h0)), (oc6 r (.ref rx) (.ref ry) (nI n) rg), (oa rx cI cap X), (oa ry cI cap Y)] sz zXN)) (zQ none (fun t => va_P (dC, dI) classes [(oc0 b0 (iI (mnI l0 X n)) (iI (mnI o0 Y n)) (iI (mxI r0 X n)) (iI (mxI h0 Y n))), (oc6 r (.ref rx) (.ref ry) (nI n) rg), (oa rx cI cap X), (oa ry cI cap Y)] t.heap ∧ va_D (va_A [(oc0 b0 (iI l0) (iI o0) (iI r0) (iI h0)), (oc6 r (.ref rx) (.ref ry) (nI n) rg), (oa rx cI cap X), (oa ry cI cap Y)] sz) [(oc0 b0 (iI (mnI l0 X n)) (iI (mnI o0 Y n)) (iI (mxI r0 X n)) (iI (mxI h0 Y n))), (oc6 r (.ref rx) (.ref ry) (nI n) rg), (oa rx cI cap X), (oa ry cI cap Y)]) (va_A [(oc0 b0 (iI l0) (iI o0) (iI r0) (iI h0)), (oc6 r (.ref rx) (.ref ry) (nI n) rg), (oa rx cI cap X), (oa ry cI cap Y)] sz)) 0 0 (va_A [(oc0 b0 (iI l0) (iI o0) (iI r0) (iI h0)), (oc6 r (.ref rx) (.ref ry) (nI n) rg), (oa rx cI cap X), (oa ry cI cap Y)] sz) := by
  refine Met.ofW (cc := cX0_stretch) (maxL := 3) (ret := none) (by decide) rfl ?_
  intro p e s m args below meth c s₁ B hml hv
  obtain ⟨rfl, hsz, hP, hK, hD0, hXN⟩ := hv
  have hx := B.exec
  have hb := B.bytes
  have hr := B.returns
  have hts0 := atoms_spec (ws := .code yX0_stretch cX0_stretch 3 none :: ws0) B.pre
  have hts : ∀ w9 ∈ ws0, w9.before ([.ref b0, .ref r] : List Value).toArray s = true := fun w9 h => hts0 w9 (List.mem_cons_of_mem _ h)
  have hown : s.vm.findClass "ScaleShop$Box" = some m.cls := findClass_of_methodNamed B.named
  have hlocks := B.notSynchronized
  subst hsz
  have hD := hD0.self (sz := s.heap.size)
  clear hD0
  generalize hAe : va_A [(oc0 b0 (iI l0) (iI o0) (iI r0) (iI h0)), (oc6 r (.ref rx) (.ref ry) (nI n) rg), (oa rx cI cap X), (oa ry cI cap Y)] s.heap.size = A at hD ⊢
  have hA : ∀ q : Nat, s.heap.size ≤ q → A q := fun q h => by rw [← hAe]; exact Or.inr h
  clear hAe
  have hS : va_S A s.heap s.heap [] := va_S.rf
  have hP : va_P (dC, dI) classes [(oc0 b0 (iI l0) (iI o0) (iI r0) (iI h0)), (oc6 r (.ref rx) (.ref ry) (nI n) rg), (oa rx cI cap X), (oa ry cI cap Y)] s.heap := hP
  obtain ⟨Q9, hQ9⟩ : ∃ Q9 : State → Prop, Q9 = MQ below (zQ none (fun t => va_P (dC, dI) classes [(oc0 b0 (iI (mnI l0 X n)) (iI (mnI o0 Y n)) (iI (mxI r0 X n)) (iI (mxI h0 Y n))), (oc6 r (.ref rx) (.ref ry) (nI n) rg), (oa rx cI cap X), (oa ry cI cap Y)] t.heap ∧ va_D A [(oc0 b0 (iI (mnI l0 X n)) (iI (mnI o0 Y n)) (iI (mxI r0 X n)) (iI (mxI h0 Y n))), (oc6 r (.ref rx) (.ref ry) (nI n) rg), (oa rx cI cap X), (oa ry cI cap Y)]) A) ([.ref b0, .ref r] : List Value).toArray s 0 0 A := ⟨_, rfl⟩
  rw [← hQ9]
  have hl := lv_entry ([.ref b0, .ref r]) (n := 3) (Nat.le_of_ble_eq_true rfl)
  rw [lg_entry_eq]
  generalize (lg_sl ([.ref b0, .ref r]) ++ List.replicate (3 - (lg_sl ([.ref b0, .ref r])).length) Slot.unset).toArray = ls at hl ⊢
  have hl : lv_has ls 3 [(0, .ref b0), (1, .ref r)] := hl
  refine lv_iconst (v := 0) hx hb dX0_stretch_0 (by decide) ?_
  refine lv_istore_n (lv' := [(2, .int 0), (0, .ref b0), (1, .ref r)]) hx hb dX0_stretch_1 rfl hl (by decide) rfl (fun ls hl => ?_)
  have hl_2 : ∀ (n9 : Nat) (i : Nat) (H : Heap) (locs : List Loc) (ls : Array Slot), n - i < n9 → (i ≤ n) → va_P (dC, dI) classes [(oc0 b0 (iI (mnI l0 X i)) (iI (mnI o0 Y i)) (iI (mxI r0 X i)) (iI (mxI h0 Y i))), (oc6 r (.ref rx) (.ref ry) (nI n) rg), (oa rx cI cap X), (oa ry cI cap Y)] H → va_D A [(oc0 b0 (iI (mnI l0 X i)) (iI (mnI o0 Y i)) (iI (mxI r0 X i)) (iI (mxI h0 Y i))), (oc6 r (.ref rx) (.ref ry) (nI n) rg), (oa rx cI cap X), (oa ry cI cap Y)] → va_S A s.heap H locs → lv_has ls 3 [(2, .int (nI i)), (0, .ref b0), (1, .ref r)] → W p l e ((headSpec (.code yX0_stretch cX0_stretch 3 none :: ws0) ({ frames := 1, cells := 0, slots := 0, locals := 22 } : Room)).room) s m ([.ref b0, .ref r] : List Value).toArray below meth c H locs 0 0 Q9 (F0 m 2 ls []) := by
    intro n9
    induction n9 with
    | zero => intro i H locs ls hm; exact absurd hm (Nat.not_lt_zero _)
    | succ n9 ih_2 =>
      intro i H locs ls hm hi hP hD hS hl
      refine lv_iload_n hx hb dX0_stretch_2 rfl (lv_at hl 0 rfl) ?_
      refine lv_aload_n hx hb dX0_stretch_3 rfl (lv_at hl 2 rfl) ?_
      refine va_get (D := (dC, dI)) (ci := 6) (v := .int (nI n)) (C := RX7) (T := TX7) (N := 4) hx hb hts inX7 hown hK hP 1 rfl rfl 2 (by decide) (hts _ mw_180) (fun _ h9 => h9) rfl dX0_stretch_4 ?_
      refine lv_icmp_ge (tgt := 32) hx hb dX0_stretch_7 (by decide) (fun c_1 => ?_) (fun c_1 => ?_)
      · have c_1 : ((n : Nat) : Int) ≤ ((i : Nat) : Int) := zc_le (nI_toInt (by omega)) (nI_toInt (by omega)) c_1
        have hP9 := hP.sub (ws' := [(oc0 b0 (iI (mnI l0 X i)) (iI (mnI o0 Y i)) (iI (mxI r0 X i)) (iI (mxI h0 Y i))), (oc6 r (.ref rx) (.ref ry) (nI n) rg), (oa rx cI cap X), (oa ry cI cap Y)]) [0, 1, 2, 3] rfl
        have hD9 := hD.sub (ws' := [(oc0 b0 (iI (mnI l0 X i)) (iI (mnI o0 Y i)) (iI (mxI r0 X i)) (iI (mxI h0 Y i))), (oc6 r (.ref rx) (.ref ry) (nI n) rg), (oa rx cI cap X), (oa ry cI cap Y)]) [0, 1, 2, 3] (by decide) rfl
        have hE9 : ([(oc0 b0 (iI (mnI l0 X i)) (iI (mnI o0 Y i)) (iI (mxI r0 X i)) (iI (mxI h0 Y i))), (oc6 r (.ref rx) (.ref ry) (nI n) rg), (oa rx cI cap X), (oa ry cI cap Y)] : va_W) = [(oc0 b0 (iI (mnI l0 X n)) (iI (mnI o0 Y n)) (iI (mxI r0 X n)) (iI (mxI h0 Y n))), (oc6 r (.ref rx) (.ref ry) (nI n) rg), (oa rx cI cap X), (oa ry cI cap Y)] := by rw [show i = n by omega]
        rw [hE9] at hP9 hD9
        rw [hQ9]
        exact W.vret hx hb hr (fun t ht hW => ⟨⟨rfl, by rw [ht]; exact hP9, hD9⟩, hS.F ht⟩) hS.2.2 dX0_stretch_32
      · have c_1 : ((i : Nat) : Int) < ((n : Nat) : Int) := zc_nle (nI_toInt (by omega)) (nI_toInt (by omega)) c_1
        refine lv_aload_n hx hb dX0_stretch_10 rfl (lv_at hl 1 rfl) ?_
        refine lv_aload_n hx hb dX0_stretch_11 rfl (lv_at hl 2 rfl) ?_
        refine va_get (D := (dC, dI)) (ci := 6) (v := .ref rx) (C := RX7) (T := TX7) (N := 4) hx hb hts inX7 hown hK hP 1 rfl rfl 0 (by decide) (hts _ mw_164) (fun _ h9 => h9) rfl dX0_stretch_12 ?_
        refine lv_iload_n hx hb dX0_stretch_15 rfl (lv_at hl 0 rfl) ?_
        refine z_iald hx hb hK hP 2 0 rfl rfl (e := i) rfl (by omega) (by omega) dX0_stretch_16 ?_
        refine lv_aload_n hx hb dX0_stretch_17 rfl (lv_at hl 2 rfl) ?_
        refine va_get (D := (dC, dI)) (ci := 6) (v := .ref ry) (C := RX7) (T := TX7) (N := 4) hx hb hts inX7 hown hK hP 1 rfl rfl 1 (by decide) (hts _ mw_171) (fun _ h9 => h9) rfl dX0_stretch_18 ?_
        refine lv_iload_n hx hb dX0_stretch_21 rfl (lv_at hl 0 rfl) ?_
        refine z_iald hx hb hK hP 3 0 rfl rfl (e := i) rfl (by omega) (by omega) dX0_stretch_22 ?_
        have hPc := hP.sub (ws' := [(oc0 b0 (iI (mnI l0 X i)) (iI (mnI o0 Y i)) (iI (mxI r0 X i)) (iI (mxI h0 Y i)))]) [0] rfl
        have hDc := hD.sub (ws' := [(oc0 b0 (iI (mnI l0 X i)) (iI (mnI o0 Y i)) (iI (mxI r0 X i)) (iI (mxI h0 Y i)))]) [0] (by decide) rfl
        have hFc := va_free (wc := [(oc0 b0 (iI (mnI l0 X i)) (iI (mnI o0 Y i)) (iI (mxI r0 X i)) (iI (mxI h0 Y i)))]) hD hS hA [0] rfl
        refine zcall (st1 := []) (va_runV (As := [.int (X i), .int (Y i)]) (rest := []) ⟨hx, hb, hml, hown, hts⟩ (k_Box_take l dC dI cI cZ cF H.size b0 (mnI l0 X i) (mnI o0 Y i) (mxI r0 X i) (mxI h0 Y i) (X i) (Y i) (⟨mnB hnb.1 hnx i hi, mnB hnb.2.1 hny i hi, mxB hnb.2.2.1 hnx i hi, mxB hnb.2.2.2 hny i hi⟩)) (cwV 2 hts (zz_gV mw_664 mw_651 mw_652 mw_104 mc_yX0_take) rfl rfl rfl (by decide +kernel) ⟨Nat.le_of_ble_eq_true rfl, Nat.le_of_ble_eq_true rfl⟩) (zPV2 (q0 := 0) (ci := 0) hPc hDc hK hXN rfl rfl) rfl rfl hl.1 rfl (lv_room (Nat.le_of_ble_eq_true rfl)) dX0_stretch_23 ⟨Nat.le_of_ble_eq_true rfl, Nat.le_of_ble_eq_true rfl⟩) hS hFc hFc rfl (fun t H1 locs ht hB hk1 hS => ?_)
        obtain ⟨hP1, hD1⟩ := hB
        rw [ht] at hP1
        obtain ⟨hP, hD⟩ := va_join (wr := [(oc6 r (.ref rx) (.ref ry) (nI n) rg), (oa rx cI cap X), (oa ry cI cap Y)]) (w1 := [(oc0 b0 (iI (min (mnI l0 X i) (X i).toInt)) (iI (min (mnI o0 Y i) (Y i).toInt)) (iI (max (mxI r0 X i) (X i).toInt)) (iI (max (mxI h0 Y i) (Y i).toInt)))]) hP hD [0] [1, 2, 3] rfl rfl (by decide) (by decide) hk1 hFc hP1 hD1
        clear hk1 hPc hDc hFc hP1 hD1 ht
        generalize H1 = H at hP hS ⊢
        have hP := hP.sub (ws' := [(oc0 b0 (iI (min (mnI l0 X i) (X i).toInt)) (iI (min (mnI o0 Y i) (Y i).toInt)) (iI (max (mxI r0 X i) (X i).toInt)) (iI (max (mxI h0 Y i) (Y i).toInt))), (oc6 r (.ref rx) (.ref ry) (nI n) rg), (oa rx cI cap X), (oa ry cI cap Y)]) [3, 0, 1, 2] rfl
        have hD := hD.sub (ws' := [(oc0 b0 (iI (min (mnI l0 X i) (X i).toInt)) (iI (min (mnI o0 Y i) (Y i).toInt)) (iI (max (mxI r0 X i) (X i).toInt)) (iI (max (mxI h0 Y i) (Y i).toInt))), (oc6 r (.ref rx) (.ref ry) (nI n) rg), (oa rx cI cap X), (oa ry cI cap Y)]) [3, 0, 1, 2] (by decide) rfl
        have hP : va_P (dC, dI) classes [(oc0 b0 (iI (min (mnI l0 X i) (X i).toInt)) (iI (min (mnI o0 Y i) (Y i).toInt)) (iI (max (mxI r0 X i) (X i).toInt)) (iI (max (mxI h0 Y i) (Y i).toInt))), (oc6 r (.ref rx) (.ref ry) (nI n) rg), (oa rx cI cap X), (oa ry cI cap Y)] H := hP
        have hD : va_D A [(oc0 b0 (iI (min (mnI l0 X i) (X i).toInt)) (iI (min (mnI o0 Y i) (Y i).toInt)) (iI (max (mxI r0 X i) (X i).toInt)) (iI (max (mxI h0 Y i) (Y i).toInt))), (oc6 r (.ref rx) (.ref ry) (nI n) rg), (oa rx cI cap X), (oa ry cI cap Y)] := hD
        refine lv_iinc (v := nI (i + 1)) (lv' := [(2, .int (nI (i + 1))), (0, .ref b0), (1, .ref r)]) hx hb dX0_stretch_26 hl (k := 0) rfl (nI_add i 1) (by decide) rfl (fun ls hl => ?_)
        refine lv_goto (tgt := 2) hx hb dX0_stretch_29 (by decide) ?_
        exact ih_2 (i + 1) H locs ls (by omega) (by omega) hP hD hS (lv_sub hl [0, 1, 2] rfl)
  exact hl_2 _ 0 s.heap [] ls (Nat.lt_succ_self _) (by omega) hP hD hS (lv_sub hl [0, 1, 2] rfl)
set_option maxHeartbeats 4000000 in
set_option maxRecDepth 100000 in
theorem k_Box_cover (l : Launch) (dC : Nat → ClassId) (dI : Nat → Nat → Nat) (cI cZ cF : ClassId) (sz : Nat) (b0 : Nat) (x0 : Int32) (y0 : Int32) (x1 : Int32) (y1 : Int32) (r : Nat) (rx : Nat) (ry : Nat) (n : Nat) (cap : Nat) (X : Nat → Int32) (Y : Nat → Int32) (rg : Int32) (hn : n ≤ cap) (hcap : cap ≤ 1000) (hnx : ∀ k, k < n → nr (X k).toInt) (hny : ∀ k, k < n → nr (Y k).toInt) (h1n : 1 ≤ n) : Met l yX0_cover (.code yX0_cover cX0_cover 2 none :: ws0) ({ frames := 2, cells := 0, slots := 0, locals := 44 } : Room) (va_Pc [.ref b0, .ref r] (zPre (dC, dI) classes (zTy cI cZ cF) [(oc0 b0 x0 y0 x1 y1), (oc6 r (.ref rx) (.ref ry) (nI n) rg), (oa rx cI cap X), (oa ry cI cap Y)] sz zXN)) (zQ none (fun t => va_P (dC, dI) classes [(oc0 b0 (iI (mnI (X 0).toInt X n)) (iI (mnI (Y 0).toInt Y n)) (iI (mxI (X 0).toInt X n)) (iI (mxI (Y 0).toInt Y n))), (oc6 r (.ref rx) (.ref ry) (nI n) rg), (oa rx cI cap X), (oa ry cI cap Y)] t.heap ∧ va_D (va_A [(oc0 b0 x0 y0 x1 y1), (oc6 r (.ref rx) (.ref ry) (nI n) rg), (oa rx cI cap X), (oa ry cI cap Y)] sz) [(oc0 b0 (iI (mnI (X 0).toInt X n)) (iI (mnI (Y 0).toInt Y n)) (iI (mxI (X 0).toInt X n)) (iI (mxI (Y 0).toInt Y n))), (oc6 r (.ref rx) (.ref ry) (nI n) rg), (oa rx cI cap X), (oa ry cI cap Y)]) (va_A [(oc0 b0 x0 y0 x1 y1), (oc6 r (.ref rx) (.ref ry) (nI n) rg), (oa rx cI cap X), (oa ry cI cap Y)] sz)) 0 0 (va_A [(oc0 b0 x0 y0 x1 y1), (oc6 r (.ref rx) (.ref ry) (nI n) rg), (oa rx cI cap X), (oa ry cI cap Y)] sz) := by
  refine Met.ofW (cc := cX0_cover) (maxL := 2) (ret := none) (by decide) rfl ?_
  intro p e s m args below meth c s₁ B hml hv
  obtain ⟨rfl, hsz, hP, hK, hD0, hXN⟩ := hv
  have hx := B.exec
  have hb := B.bytes
  have hr := B.returns
  have hts0 := atoms_spec (ws := .code yX0_cover cX0_cover 2 none :: ws0) B.pre
  have hts : ∀ w9 ∈ ws0, w9.before ([.ref b0, .ref r] : List Value).toArray s = true := fun w9 h => hts0 w9 (List.mem_cons_of_mem _ h)
  have hown : s.vm.findClass "ScaleShop$Box" = some m.cls := findClass_of_methodNamed B.named
  have hlocks := B.notSynchronized
  subst hsz
  have hD := hD0.self (sz := s.heap.size)
  clear hD0
  generalize hAe : va_A [(oc0 b0 x0 y0 x1 y1), (oc6 r (.ref rx) (.ref ry) (nI n) rg), (oa rx cI cap X), (oa ry cI cap Y)] s.heap.size = A at hD ⊢
  have hA : ∀ q : Nat, s.heap.size ≤ q → A q := fun q h => by rw [← hAe]; exact Or.inr h
  clear hAe
  have hS : va_S A s.heap s.heap [] := va_S.rf
  have hP : va_P (dC, dI) classes [(oc0 b0 x0 y0 x1 y1), (oc6 r (.ref rx) (.ref ry) (nI n) rg), (oa rx cI cap X), (oa ry cI cap Y)] s.heap := hP
  obtain ⟨Q9, hQ9⟩ : ∃ Q9 : State → Prop, Q9 = MQ below (zQ none (fun t => va_P (dC, dI) classes [(oc0 b0 (iI (mnI (X 0).toInt X n)) (iI (mnI (Y 0).toInt Y n)) (iI (mxI (X 0).toInt X n)) (iI (mxI (Y 0).toInt Y n))), (oc6 r (.ref rx) (.ref ry) (nI n) rg), (oa rx cI cap X), (oa ry cI cap Y)] t.heap ∧ va_D A [(oc0 b0 (iI (mnI (X 0).toInt X n)) (iI (mnI (Y 0).toInt Y n)) (iI (mxI (X 0).toInt X n)) (iI (mxI (Y 0).toInt Y n))), (oc6 r (.ref rx) (.ref ry) (nI n) rg), (oa rx cI cap X), (oa ry cI cap Y)]) A) ([.ref b0, .ref r] : List Value).toArray s 0 0 A := ⟨_, rfl⟩
  rw [← hQ9]
  have hl := lv_entry ([.ref b0, .ref r]) (n := 2) (Nat.le_of_ble_eq_true rfl)
  rw [lg_entry_eq]
  generalize (lg_sl ([.ref b0, .ref r]) ++ List.replicate (2 - (lg_sl ([.ref b0, .ref r])).length) Slot.unset).toArray = ls at hl ⊢
  have hl : lv_has ls 2 [(0, .ref b0), (1, .ref r)] := hl
  refine lv_aload_n hx hb dX0_cover_0 rfl (lv_at hl 0 rfl) ?_
  refine lv_aload_n hx hb dX0_cover_1 rfl (lv_at hl 1 rfl) ?_
  refine va_get (D := (dC, dI)) (ci := 6) (v := .ref rx) (C := RX7) (T := TX7) (N := 4) hx hb hts inX7 hown hK hP 1 rfl rfl 0 (by decide) (hts _ mw_164) (fun _ h9 => h9) rfl dX0_cover_2 ?_
  refine lv_iconst (v := 0) hx hb dX0_cover_5 (by decide) ?_
  refine z_iald hx hb hK hP 2 0 rfl rfl (e := 0) rfl (by omega) (by omega) dX0_cover_6 ?_
  refine lv_aload_n hx hb dX0_cover_7 rfl (lv_at hl 1 rfl) ?_
  refine va_get (D := (dC, dI)) (ci := 6) (v := .ref ry) (C := RX7) (T := TX7) (N := 4) hx hb hts inX7 hown hK hP 1 rfl rfl 1 (by decide) (hts _ mw_171) (fun _ h9 => h9) rfl dX0_cover_8 ?_
  refine lv_iconst (v := 0) hx hb dX0_cover_11 (by decide) ?_
  refine z_iald hx hb hK hP 3 0 rfl rfl (e := 0) rfl (by omega) (by omega) dX0_cover_12 ?_
  have hPc := hP.sub (ws' := [(oc0 b0 x0 y0 x1 y1)]) [0] rfl
  have hDc := hD.sub (ws' := [(oc0 b0 x0 y0 x1 y1)]) [0] (by decide) rfl
  have hFc := va_free (wc := [(oc0 b0 x0 y0 x1 y1)]) hD hS hA [0] rfl
  refine zcall (st1 := []) (va_runV (As := [.int (X 0), .int (Y 0)]) (rest := []) ⟨hx, hb, hml, hown, hts⟩ (k_Box_begin l dC dI cI cZ cF s.heap.size b0 x0 y0 x1 y1 (X 0) (Y 0) ) (cwV 2 hts (zz_gV mw_659 mw_647 mw_648 mw_104 mc_yX0_begin) rfl rfl rfl (by decide +kernel) ⟨Nat.le_of_ble_eq_true rfl, Nat.le_of_ble_eq_true rfl⟩) (zPV2 (q0 := 0) (ci := 0) hPc hDc hK hXN rfl rfl) rfl rfl hl.1 rfl (lv_room (Nat.le_of_ble_eq_true rfl)) dX0_cover_13 ⟨Nat.le_of_ble_eq_true rfl, Nat.le_of_ble_eq_true rfl⟩) hS hFc hFc rfl (fun t H1 locs ht hB hk1 hS => ?_)
  obtain ⟨hP1, hD1⟩ := hB
  rw [ht] at hP1
  obtain ⟨hP, hD⟩ := va_join (wr := [(oc6 r (.ref rx) (.ref ry) (nI n) rg), (oa rx cI cap X), (oa ry cI cap Y)]) (w1 := [(oc0 b0 (iI (X 0).toInt) (iI (Y 0).toInt) (iI (X 0).toInt) (iI (Y 0).toInt))]) hP hD [0] [1, 2, 3] rfl rfl (by decide) (by decide) hk1 hFc hP1 hD1
  clear hk1 hPc hDc hFc hP1 hD1 ht
  generalize H1 = H at hP hS ⊢
  have hP := hP.sub (ws' := [(oc0 b0 (iI (X 0).toInt) (iI (Y 0).toInt) (iI (X 0).toInt) (iI (Y 0).toInt)), (oc6 r (.ref rx) (.ref ry) (nI n) rg), (oa rx cI cap X), (oa ry cI cap Y)]) [3, 0, 1, 2] rfl
  have hD := hD.sub (ws' := [(oc0 b0 (iI (X 0).toInt) (iI (Y 0).toInt) (iI (X 0).toInt) (iI (Y 0).toInt)), (oc6 r (.ref rx) (.ref ry) (nI n) rg), (oa rx cI cap X), (oa ry cI cap Y)]) [3, 0, 1, 2] (by decide) rfl
  have hP : va_P (dC, dI) classes [(oc0 b0 (iI (X 0).toInt) (iI (Y 0).toInt) (iI (X 0).toInt) (iI (Y 0).toInt)), (oc6 r (.ref rx) (.ref ry) (nI n) rg), (oa rx cI cap X), (oa ry cI cap Y)] H := hP
  have hD : va_D A [(oc0 b0 (iI (X 0).toInt) (iI (Y 0).toInt) (iI (X 0).toInt) (iI (Y 0).toInt)), (oc6 r (.ref rx) (.ref ry) (nI n) rg), (oa rx cI cap X), (oa ry cI cap Y)] := hD
  refine lv_aload_n hx hb dX0_cover_16 rfl (lv_at hl 0 rfl) ?_
  refine lv_aload_n hx hb dX0_cover_17 rfl (lv_at hl 1 rfl) ?_
  have hPc := hP.sub (ws' := [(oc0 b0 (iI (X 0).toInt) (iI (Y 0).toInt) (iI (X 0).toInt) (iI (Y 0).toInt)), (oc6 r (.ref rx) (.ref ry) (nI n) rg), (oa rx cI cap X), (oa ry cI cap Y)]) [0, 1, 2, 3] rfl
  have hDc := hD.sub (ws' := [(oc0 b0 (iI (X 0).toInt) (iI (Y 0).toInt) (iI (X 0).toInt) (iI (Y 0).toInt)), (oc6 r (.ref rx) (.ref ry) (nI n) rg), (oa rx cI cap X), (oa ry cI cap Y)]) [0, 1, 2, 3] (by decide) rfl
  have hFc := va_free (wc := [(oc0 b0 (iI (X 0).toInt) (iI (Y 0).toInt) (iI (X 0).toInt) (iI (Y 0).toInt)), (oc6 r (.ref rx) (.ref ry) (nI n) rg), (oa rx cI cap X), (oa ry cI cap Y)]) hD hS hA [0, 1, 2, 3] rfl
  refine zcall (st1 := []) (va_runV (As := [.ref r]) (rest := []) ⟨hx, hb, hml, hown, hts⟩ (k_Box_stretch l dC dI cI cZ cF H.size b0 ((X 0).toInt) ((Y 0).toInt) ((X 0).toInt) ((Y 0).toInt) r rx ry n cap X Y rg (⟨hnx 0 (by omega), hny 0 (by omega), hnx 0 (by omega), hny 0 (by omega)⟩) (by omega) (by omega) (by assumption) (by assumption)) (cwV 1 hts (zz_gV mw_660 mw_661 mw_662 mw_104 mc_yX0_stretch) rfl rfl rfl (by decide +kernel) ⟨Nat.le_of_ble_eq_true rfl, Nat.le_of_ble_eq_true rfl⟩) (zPV2 (q0 := 0) (ci := 0) hPc hDc hK hXN rfl rfl) rfl rfl hl.1 rfl (lv_room (Nat.le_of_ble_eq_true rfl)) dX0_cover_18 ⟨Nat.le_of_ble_eq_true rfl, Nat.le_of_ble_eq_true rfl⟩) hS hFc hFc rfl (fun t H1 locs ht hB hk1 hS => ?_)
  obtain ⟨hP1, hD1⟩ := hB
  rw [ht] at hP1
  obtain ⟨hP, hD⟩ := va_join (wr := []) (w1 := [(oc0 b0 (iI (mnI ((X 0).toInt) X n)) (iI (mnI ((Y 0).toInt) Y n)) (iI (mxI ((X 0).toInt) X n)) (iI (mxI ((Y 0).toInt) Y n))), (oc6 r (.ref rx) (.ref ry) (nI n) rg), (oa rx cI cap X), (oa ry cI cap Y)]) hP hD [0, 1, 2, 3] [] rfl rfl (by decide) (by decide) hk1 hFc hP1 hD1
  clear hk1 hPc hDc hFc hP1 hD1 ht
  generalize H1 = H at hP hS ⊢
  have hP : va_P (dC, dI) classes [(oc0 b0 (iI (mnI ((X 0).toInt) X n)) (iI (mnI ((Y 0).toInt) Y n)) (iI (mxI ((X 0).toInt) X n)) (iI (mxI ((Y 0).toInt) Y n))), (oc6 r (.ref rx) (.ref ry) (nI n) rg), (oa rx cI cap X), (oa ry cI cap Y)] H := hP
  have hD : va_D A [(oc0 b0 (iI (mnI ((X 0).toInt) X n)) (iI (mnI ((Y 0).toInt) Y n)) (iI (mxI ((X 0).toInt) X n)) (iI (mxI ((Y 0).toInt) Y n))), (oc6 r (.ref rx) (.ref ry) (nI n) rg), (oa rx cI cap X), (oa ry cI cap Y)] := hD
  have hP9 := hP.sub (ws' := [(oc0 b0 (iI (mnI ((X 0).toInt) X n)) (iI (mnI ((Y 0).toInt) Y n)) (iI (mxI ((X 0).toInt) X n)) (iI (mxI ((Y 0).toInt) Y n))), (oc6 r (.ref rx) (.ref ry) (nI n) rg), (oa rx cI cap X), (oa ry cI cap Y)]) [0, 1, 2, 3] rfl
  have hD9 := hD.sub (ws' := [(oc0 b0 (iI (mnI ((X 0).toInt) X n)) (iI (mnI ((Y 0).toInt) Y n)) (iI (mxI ((X 0).toInt) X n)) (iI (mxI ((Y 0).toInt) Y n))), (oc6 r (.ref rx) (.ref ry) (nI n) rg), (oa rx cI cap X), (oa ry cI cap Y)]) [0, 1, 2, 3] (by decide) rfl
  rw [hQ9]
  exact W.vret hx hb hr (fun t ht hW => ⟨⟨rfl, by rw [ht]; exact hP9, hD9⟩, hS.F ht⟩) hS.2.2 dX0_cover_21
set_option maxHeartbeats 4000000 in
set_option maxRecDepth 100000 in
theorem k_Box_squareApart (l : Launch) (dC : Nat → ClassId) (dI : Nat → Nat → Nat) (cI cZ cF : ClassId) (sz : Nat) (b0 : Nat) (l0 : Int) (o0 : Int) (r0 : Int) (h0 : Int) (b1 : Nat) (l1 : Int) (o1 : Int) (r1 : Int) (h1 : Int) (hnb : nr l0 ∧ nr o0 ∧ nr r0 ∧ nr h0) (hnc : nr l1 ∧ nr o1 ∧ nr r1 ∧ nr h1) : Met l yX0_squareApart (.code yX0_squareApart cX0_squareApart 4 (some .int) :: ws0) ({ frames := 1, cells := 0, slots := 0, locals := 14 } : Room) (va_Pc [.ref b0, .ref b1] (zPre (dC, dI) classes (zTy cI cZ cF) [(oc0 b0 (iI l0) (iI o0) (iI r0) (iI h0)), (oc0 b1 (iI l1) (iI o1) (iI r1) (iI h1))] sz zXN)) (zQ (some (.int (iI ((gp l0 r0 l1 r1) * (gp l0 r0 l1 r1) + (gp o0 h0 o1 h1) * (gp o0 h0 o1 h1))))) (fun t => va_P (dC, dI) classes [(oc0 b0 (iI l0) (iI o0) (iI r0) (iI h0)), (oc0 b1 (iI l1) (iI o1) (iI r1) (iI h1))] t.heap ∧ va_D (va_A [(oc0 b0 (iI l0) (iI o0) (iI r0) (iI h0)), (oc0 b1 (iI l1) (iI o1) (iI r1) (iI h1))] sz) [(oc0 b0 (iI l0) (iI o0) (iI r0) (iI h0)), (oc0 b1 (iI l1) (iI o1) (iI r1) (iI h1))]) (va_A [(oc0 b0 (iI l0) (iI o0) (iI r0) (iI h0)), (oc0 b1 (iI l1) (iI o1) (iI r1) (iI h1))] sz)) 0 0 (va_A [(oc0 b0 (iI l0) (iI o0) (iI r0) (iI h0)), (oc0 b1 (iI l1) (iI o1) (iI r1) (iI h1))] sz) := by
  refine Met.ofW (cc := cX0_squareApart) (maxL := 4) (ret := (some .int)) (by decide) rfl ?_
  intro p e s m args below meth c s₁ B hml hv
  obtain ⟨rfl, hsz, hP, hK, hD0, hXN⟩ := hv
  have hx := B.exec
  have hb := B.bytes
  have hr := B.returns
  have hts0 := atoms_spec (ws := .code yX0_squareApart cX0_squareApart 4 (some .int) :: ws0) B.pre
  have hts : ∀ w9 ∈ ws0, w9.before ([.ref b0, .ref b1] : List Value).toArray s = true := fun w9 h => hts0 w9 (List.mem_cons_of_mem _ h)
  have hown : s.vm.findClass "ScaleShop$Box" = some m.cls := findClass_of_methodNamed B.named
  have hlocks := B.notSynchronized
  subst hsz
  have hD := hD0.self (sz := s.heap.size)
  clear hD0
  generalize hAe : va_A [(oc0 b0 (iI l0) (iI o0) (iI r0) (iI h0)), (oc0 b1 (iI l1) (iI o1) (iI r1) (iI h1))] s.heap.size = A at hD ⊢
  have hA : ∀ q : Nat, s.heap.size ≤ q → A q := fun q h => by rw [← hAe]; exact Or.inr h
  clear hAe
  have hS : va_S A s.heap s.heap [] := va_S.rf
  have hP : va_P (dC, dI) classes [(oc0 b0 (iI l0) (iI o0) (iI r0) (iI h0)), (oc0 b1 (iI l1) (iI o1) (iI r1) (iI h1))] s.heap := hP
  obtain ⟨Q9, hQ9⟩ : ∃ Q9 : State → Prop, Q9 = MQ below (zQ (some (.int (iI ((gp l0 r0 l1 r1) * (gp l0 r0 l1 r1) + (gp o0 h0 o1 h1) * (gp o0 h0 o1 h1))))) (fun t => va_P (dC, dI) classes [(oc0 b0 (iI l0) (iI o0) (iI r0) (iI h0)), (oc0 b1 (iI l1) (iI o1) (iI r1) (iI h1))] t.heap ∧ va_D A [(oc0 b0 (iI l0) (iI o0) (iI r0) (iI h0)), (oc0 b1 (iI l1) (iI o1) (iI r1) (iI h1))]) A) ([.ref b0, .ref b1] : List Value).toArray s 0 0 A := ⟨_, rfl⟩
  rw [← hQ9]
  have hl := lv_entry ([.ref b0, .ref b1]) (n := 4) (Nat.le_of_ble_eq_true rfl)
  rw [lg_entry_eq]
  generalize (lg_sl ([.ref b0, .ref b1]) ++ List.replicate (4 - (lg_sl ([.ref b0, .ref b1])).length) Slot.unset).toArray = ls at hl ⊢
  have hl : lv_has ls 4 [(0, .ref b0), (1, .ref b1)] := hl
  have g1 := gpB hnb.1 hnb.2.2.1 hnc.1 hnc.2.2.1
  have g2 := gpB hnb.2.1 hnb.2.2.2 hnc.2.1 hnc.2.2.2
  have q1 := sqB g1
  have q2 := sqB g2
  have hb9 := hnb
  have hc9 := hnc
  unfold nr at hb9 hc9
  refine lv_iconst (v := 0) hx hb dX0_squareApart_0 (by decide) ?_
  refine lv_aload_n hx hb dX0_squareApart_1 rfl (lv_at hl 1 rfl) ?_
  refine va_get (D := (dC, dI)) (ci := 0) (v := .int (iI l1)) (C := RX0) (T := TX0) (N := 4) hx hb hts inX0 hown hK hP 1 rfl rfl 0 (by decide) (hts _ mw_202) (fun _ h9 => h9) rfl dX0_squareApart_2 ?_
  refine lv_aload_n hx hb dX0_squareApart_5 rfl (lv_at hl 0 rfl) ?_
  refine va_get (D := (dC, dI)) (ci := 0) (v := .int (iI r0)) (C := RX0) (T := TX0) (N := 4) hx hb hts inX0 hown hK hP 0 rfl rfl 2 (by decide) (hts _ mw_206) (fun _ h9 => h9) rfl dX0_squareApart_6 ?_
  refine lv_isub hx hb dX0_squareApart_9 ?_
  refine zz_i (v := iI (l1 - r0)) (iI_sub (by omega) (by omega)) ?_
  refine lv_aload_n hx hb dX0_squareApart_10 rfl (lv_at hl 0 rfl) ?_
  refine va_get (D := (dC, dI)) (ci := 0) (v := .int (iI l0)) (C := RX0) (T := TX0) (N := 4) hx hb hts inX0 hown hK hP 0 rfl rfl 0 (by decide) (hts _ mw_202) (fun _ h9 => h9) rfl dX0_squareApart_11 ?_
  refine lv_aload_n hx hb dX0_squareApart_14 rfl (lv_at hl 1 rfl) ?_
  refine va_get (D := (dC, dI)) (ci := 0) (v := .int (iI r1)) (C := RX0) (T := TX0) (N := 4) hx hb hts inX0 hown hK hP 1 rfl rfl 2 (by decide) (hts _ mw_206) (fun _ h9 => h9) rfl dX0_squareApart_15 ?_
  refine lv_isub hx hb dX0_squareApart_18 ?_
  refine zz_i (v := iI (l0 - r1)) (iI_sub (by omega) (by omega)) ?_
  refine va_mmax hx hb (by rw [hml]; exact hl.1.symm) hown (hts _ mw_674) (hts _ mw_159) (hts _ mw_103) (hts _ mw_maxcode) (Nat.le_of_ble_eq_true rfl) (Nat.le_of_ble_eq_true rfl) (Nat.le_of_ble_eq_true rfl) (Nat.le_of_ble_eq_true rfl) dX0_squareApart_19 ?_
  refine lv_topi (fun v_1 ev_1 => ?_)
  have hv_1 : v_1.toInt = max (l1 - r0) (l0 - r1) := zmax (iI_toInt (by omega)) (iI_toInt (by omega)) ev_1
  refine va_mmax hx hb (by rw [hml]; exact hl.1.symm) hown (hts _ mw_674) (hts _ mw_159) (hts _ mw_103) (hts _ mw_maxcode) (Nat.le_of_ble_eq_true rfl) (Nat.le_of_ble_eq_true rfl) (Nat.le_of_ble_eq_true rfl) (Nat.le_of_ble_eq_true rfl) dX0_squareApart_22 ?_
  refine lv_topi (fun v_2 ev_2 => ?_)
  have hv_2 : v_2.toInt = max 0 v_1.toInt := zmax (by decide) rfl ev_2
  refine zz_i (v := iI (gp l0 r0 l1 r1)) (iI_of (by rw [hv_2]; unfold gp; omega)) ?_
  refine lv_istore_n (lv' := [(2, .int (iI (gp l0 r0 l1 r1))), (0, .ref b0), (1, .ref b1)]) hx hb dX0_squareApart_25 rfl hl (by decide) rfl (fun ls hl => ?_)
  refine lv_iconst (v := 0) hx hb dX0_squareApart_26 (by decide) ?_
  refine lv_aload_n hx hb dX0_squareApart_27 rfl (lv_at hl 2 rfl) ?_
  refine va_get (D := (dC, dI)) (ci := 0) (v := .int (iI o1)) (C := RX0) (T := TX0) (N := 4) hx hb hts inX0 hown hK hP 1 rfl rfl 1 (by decide) (hts _ mw_204) (fun _ h9 => h9) rfl dX0_squareApart_28 ?_
  refine lv_aload_n hx hb dX0_squareApart_31 rfl (lv_at hl 1 rfl) ?_
  refine va_get (D := (dC, dI)) (ci := 0) (v := .int (iI h0)) (C := RX0) (T := TX0) (N := 4) hx hb hts inX0 hown hK hP 0 rfl rfl 3 (by decide) (hts _ mw_208) (fun _ h9 => h9) rfl dX0_squareApart_32 ?_
  refine lv_isub hx hb dX0_squareApart_35 ?_
  refine zz_i (v := iI (o1 - h0)) (iI_sub (by omega) (by omega)) ?_
  refine lv_aload_n hx hb dX0_squareApart_36 rfl (lv_at hl 1 rfl) ?_
  refine va_get (D := (dC, dI)) (ci := 0) (v := .int (iI o0)) (C := RX0) (T := TX0) (N := 4) hx hb hts inX0 hown hK hP 0 rfl rfl 1 (by decide) (hts _ mw_204) (fun _ h9 => h9) rfl dX0_squareApart_37 ?_
  refine lv_aload_n hx hb dX0_squareApart_40 rfl (lv_at hl 2 rfl) ?_
  refine va_get (D := (dC, dI)) (ci := 0) (v := .int (iI h1)) (C := RX0) (T := TX0) (N := 4) hx hb hts inX0 hown hK hP 1 rfl rfl 3 (by decide) (hts _ mw_208) (fun _ h9 => h9) rfl dX0_squareApart_41 ?_
  refine lv_isub hx hb dX0_squareApart_44 ?_
  refine zz_i (v := iI (o0 - h1)) (iI_sub (by omega) (by omega)) ?_
  refine va_mmax hx hb (by rw [hml]; exact hl.1.symm) hown (hts _ mw_674) (hts _ mw_159) (hts _ mw_103) (hts _ mw_maxcode) (Nat.le_of_ble_eq_true rfl) (Nat.le_of_ble_eq_true rfl) (Nat.le_of_ble_eq_true rfl) (Nat.le_of_ble_eq_true rfl) dX0_squareApart_45 ?_
  refine lv_topi (fun v_3 ev_3 => ?_)
  have hv_3 : v_3.toInt = max (o1 - h0) (o0 - h1) := zmax (iI_toInt (by omega)) (iI_toInt (by omega)) ev_3
  refine va_mmax hx hb (by rw [hml]; exact hl.1.symm) hown (hts _ mw_674) (hts _ mw_159) (hts _ mw_103) (hts _ mw_maxcode) (Nat.le_of_ble_eq_true rfl) (Nat.le_of_ble_eq_true rfl) (Nat.le_of_ble_eq_true rfl) (Nat.le_of_ble_eq_true rfl) dX0_squareApart_48 ?_
  refine lv_topi (fun v_4 ev_4 => ?_)
  have hv_4 : v_4.toInt = max 0 v_3.toInt := zmax (by decide) rfl ev_4
  refine zz_i (v := iI (gp o0 h0 o1 h1)) (iI_of (by rw [hv_4]; unfold gp; omega)) ?_
  refine lv_istore_n (lv' := [(3, .int (iI (gp o0 h0 o1 h1))), (2, .int (iI (gp l0 r0 l1 r1))), (0, .ref b0), (1, .ref b1)]) hx hb dX0_squareApart_51 rfl hl (by decide) rfl (fun ls hl => ?_)
  refine lv_iload_n hx hb dX0_squareApart_52 rfl (lv_at hl 1 rfl) ?_
  refine lv_iload_n hx hb dX0_squareApart_53 rfl (lv_at hl 1 rfl) ?_
  refine lv_imul hx hb dX0_squareApart_54 ?_
  refine zz_i (v := iI ((gp l0 r0 l1 r1) * (gp l0 r0 l1 r1))) (iI_sq g1) ?_
  refine lv_iload_n hx hb dX0_squareApart_55 rfl (lv_at hl 0 rfl) ?_
  refine lv_iload_n hx hb dX0_squareApart_56 rfl (lv_at hl 0 rfl) ?_
  refine lv_imul hx hb dX0_squareApart_57 ?_
  refine zz_i (v := iI ((gp o0 h0 o1 h1) * (gp o0 h0 o1 h1))) (iI_sq g2) ?_
  refine lv_iadd hx hb dX0_squareApart_58 ?_
  refine zz_i (v := iI ((gp l0 r0 l1 r1) * (gp l0 r0 l1 r1) + (gp o0 h0 o1 h1) * (gp o0 h0 o1 h1))) (iI_add (by omega) (by omega)) ?_
  have hP9 := hP.sub (ws' := [(oc0 b0 (iI l0) (iI o0) (iI r0) (iI h0)), (oc0 b1 (iI l1) (iI o1) (iI r1) (iI h1))]) [0, 1] rfl
  have hD9 := hD.sub (ws' := [(oc0 b0 (iI l0) (iI o0) (iI r0) (iI h0)), (oc0 b1 (iI l1) (iI o1) (iI r1) (iI h1))]) [0, 1] (by decide) rfl
  rw [hQ9]
  exact W.iret (v := iI ((gp l0 r0 l1 r1) * (gp l0 r0 l1 r1) + (gp o0 h0 o1 h1) * (gp o0 h0 o1 h1))) hx hb hr (fun t ht hW => ⟨⟨rfl, by rw [ht]; exact hP9, hD9⟩, hS.F ht⟩) hS.2.2 dX0_squareApart_59
set_option maxHeartbeats 4000000 in
set_option maxRecDepth 100000 in
theorem k_Box_isApart (l : Launch) (dC : Nat → ClassId) (dI : Nat → Nat → Nat) (cI cZ cF : ClassId) (sz : Nat) (b0 : Nat) (l0 : Int) (o0 : Int) (r0 : Int) (h0 : Int) (b1 : Nat) (l1 : Int) (o1 : Int) (r1 : Int) (h1 : Int) (hnb : nr l0 ∧ nr o0 ∧ nr r0 ∧ nr h0) (hnc : nr l1 ∧ nr o1 ∧ nr r1 ∧ nr h1) : Met l yX0_isApart (.code yX0_isApart cX0_isApart 2 (some .boolean) :: ws0) ({ frames := 2, cells := 0, slots := 0, locals := 37 } : Room) (va_Pc [.ref b0, .ref b1] (zPre (dC, dI) classes (zTy cI cZ cF) [(oc0 b0 (iI l0) (iI o0) (iI r0) (iI h0)), (oc0 b1 (iI l1) (iI o1) (iI r1) (iI h1))] sz zXN)) (zQ (some (.int (pI (r0 < l1 ∨ r1 < l0 ∨ h0 < o1 ∨ h1 < o0)))) (fun t => va_P (dC, dI) classes [(oc0 b0 (iI l0) (iI o0) (iI r0) (iI h0)), (oc0 b1 (iI l1) (iI o1) (iI r1) (iI h1))] t.heap ∧ va_D (va_A [(oc0 b0 (iI l0) (iI o0) (iI r0) (iI h0)), (oc0 b1 (iI l1) (iI o1) (iI r1) (iI h1))] sz) [(oc0 b0 (iI l0) (iI o0) (iI r0) (iI h0)), (oc0 b1 (iI l1) (iI o1) (iI r1) (iI h1))]) (va_A [(oc0 b0 (iI l0) (iI o0) (iI r0) (iI h0)), (oc0 b1 (iI l1) (iI o1) (iI r1) (iI h1))] sz)) 0 0 (va_A [(oc0 b0 (iI l0) (iI o0) (iI r0) (iI h0)), (oc0 b1 (iI l1) (iI o1) (iI r1) (iI h1))] sz) := by
  refine Met.ofW (cc := cX0_isApart) (maxL := 2) (ret := (some .boolean)) (by decide) rfl ?_
  intro p e s m args below meth c s₁ B hml hv
  obtain ⟨rfl, hsz, hP, hK, hD0, hXN⟩ := hv
  have hx := B.exec
  have hb := B.bytes
  have hr := B.returns
  have hts0 := atoms_spec (ws := .code yX0_isApart cX0_isApart 2 (some .boolean) :: ws0) B.pre
  have hts : ∀ w9 ∈ ws0, w9.before ([.ref b0, .ref b1] : List Value).toArray s = true := fun w9 h => hts0 w9 (List.mem_cons_of_mem _ h)
  have hown : s.vm.findClass "ScaleShop$Box" = some m.cls := findClass_of_methodNamed B.named
  have hlocks := B.notSynchronized
  subst hsz
  have hD := hD0.self (sz := s.heap.size)
  clear hD0
  generalize hAe : va_A [(oc0 b0 (iI l0) (iI o0) (iI r0) (iI h0)), (oc0 b1 (iI l1) (iI o1) (iI r1) (iI h1))] s.heap.size = A at hD ⊢
  have hA : ∀ q : Nat, s.heap.size ≤ q → A q := fun q h => by rw [← hAe]; exact Or.inr h
  clear hAe
  have hS : va_S A s.heap s.heap [] := va_S.rf
  have hP : va_P (dC, dI) classes [(oc0 b0 (iI l0) (iI o0) (iI r0) (iI h0)), (oc0 b1 (iI l1) (iI o1) (iI r1) (iI h1))] s.heap := hP
  obtain ⟨Q9, hQ9⟩ : ∃ Q9 : State → Prop, Q9 = MQ below (zQ (some (.int (pI (r0 < l1 ∨ r1 < l0 ∨ h0 < o1 ∨ h1 < o0)))) (fun t => va_P (dC, dI) classes [(oc0 b0 (iI l0) (iI o0) (iI r0) (iI h0)), (oc0 b1 (iI l1) (iI o1) (iI r1) (iI h1))] t.heap ∧ va_D A [(oc0 b0 (iI l0) (iI o0) (iI r0) (iI h0)), (oc0 b1 (iI l1) (iI o1) (iI r1) (iI h1))]) A) ([.ref b0, .ref b1] : List Value).toArray s 0 0 A := ⟨_, rfl⟩
  rw [← hQ9]
  have hl := lv_entry ([.ref b0, .ref b1]) (n := 2) (Nat.le_of_ble_eq_true rfl)
  rw [lg_entry_eq]
  generalize (lg_sl ([.ref b0, .ref b1]) ++ List.replicate (2 - (lg_sl ([.ref b0, .ref b1])).length) Slot.unset).toArray = ls at hl ⊢
  have hl : lv_has ls 2 [(0, .ref b0), (1, .ref b1)] := hl
  have g1 := gpB hnb.1 hnb.2.2.1 hnc.1 hnc.2.2.1
  have g2 := gpB hnb.2.1 hnb.2.2.2 hnc.2.1 hnc.2.2.2
  have q1 := sqB g1
  have q2 := sqB g2
  have hsq := sq_pos g1 g2
  refine lv_aload_n hx hb dX0_isApart_0 rfl (lv_at hl 0 rfl) ?_
  refine lv_aload_n hx hb dX0_isApart_1 rfl (lv_at hl 1 rfl) ?_
  have hPc := hP.sub (ws' := [(oc0 b0 (iI l0) (iI o0) (iI r0) (iI h0)), (oc0 b1 (iI l1) (iI o1) (iI r1) (iI h1))]) [0, 1] rfl
  have hDc := hD.sub (ws' := [(oc0 b0 (iI l0) (iI o0) (iI r0) (iI h0)), (oc0 b1 (iI l1) (iI o1) (iI r1) (iI h1))]) [0, 1] (by decide) rfl
  have hFc := va_free (wc := [(oc0 b0 (iI l0) (iI o0) (iI r0) (iI h0)), (oc0 b1 (iI l1) (iI o1) (iI r1) (iI h1))]) hD hS hA [0, 1] rfl
  refine zcall (st1 := [.int (iI ((gp l0 r0 l1 r1) * (gp l0 r0 l1 r1) + (gp o0 h0 o1 h1) * (gp o0 h0 o1 h1)))]) (va_runV (As := [.ref b1]) (rest := []) ⟨hx, hb, hml, hown, hts⟩ (k_Box_squareApart l dC dI cI cZ cF s.heap.size b0 l0 o0 r0 h0 b1 l1 o1 r1 h1 (by assumption) (by assumption)) (cwV 1 hts (zz_gV mw_670 mw_671 mw_672 mw_104 mc_yX0_squareApart) rfl rfl rfl (by decide +kernel) ⟨Nat.le_of_ble_eq_true rfl, Nat.le_of_ble_eq_true rfl⟩) (zPV2 (q0 := 0) (ci := 0) hPc hDc hK hXN rfl rfl) rfl rfl hl.1 rfl (lv_room (Nat.le_of_ble_eq_true rfl)) dX0_isApart_2 ⟨Nat.le_of_ble_eq_true rfl, Nat.le_of_ble_eq_true rfl⟩) hS hFc hFc rfl (fun t H1 locs ht hB hk1 hS => ?_)
  obtain ⟨hP1, hD1⟩ := hB
  rw [ht] at hP1
  obtain ⟨hP, hD⟩ := va_join (wr := []) (w1 := [(oc0 b0 (iI l0) (iI o0) (iI r0) (iI h0)), (oc0 b1 (iI l1) (iI o1) (iI r1) (iI h1))]) hP hD [0, 1] [] rfl rfl (by decide) (by decide) hk1 hFc hP1 hD1
  clear hk1 hPc hDc hFc hP1 hD1 ht
  generalize H1 = H at hP hS ⊢
  have hP : va_P (dC, dI) classes [(oc0 b0 (iI l0) (iI o0) (iI r0) (iI h0)), (oc0 b1 (iI l1) (iI o1) (iI r1) (iI h1))] H := hP
  have hD : va_D A [(oc0 b0 (iI l0) (iI o0) (iI r0) (iI h0)), (oc0 b1 (iI l1) (iI o1) (iI r1) (iI h1))] := hD
  refine lv_if_le (tgt := 12) hx hb dX0_isApart_5 (by decide) (fun c_1 => ?_) (fun c_1 => ?_)
  · have c_1 : ((gp l0 r0 l1 r1) * (gp l0 r0 l1 r1) + (gp o0 h0 o1 h1) * (gp o0 h0 o1 h1)) ≤ 0 := zc_le (iI_toInt (by omega)) (by decide) c_1
    refine lv_iconst (v := 0) hx hb dX0_isApart_12 (by decide) ?_
    have hP9 := hP.sub (ws' := [(oc0 b0 (iI l0) (iI o0) (iI r0) (iI h0)), (oc0 b1 (iI l1) (iI o1) (iI r1) (iI h1))]) [0, 1] rfl
    have hD9 := hD.sub (ws' := [(oc0 b0 (iI l0) (iI o0) (iI r0) (iI h0)), (oc0 b1 (iI l1) (iI o1) (iI r1) (iI h1))]) [0, 1] (by decide) rfl
    rw [hQ9]
    exact W.zret (ty := .boolean) (v := 0) hx hb hr (rfl) (fun t ht hW => ⟨⟨congrArg (fun z => Outcome.returned (some (Value.int z))) (show (0 : Int32) = pI (r0 < l1 ∨ r1 < l0 ∨ h0 < o1 ∨ h1 < o0) from (zp_f (by unfold gp at *; omega)).symm), by rw [ht]; exact hP9, hD9⟩, hS.F ht⟩) hS.2.2 dX0_isApart_13
  · have c_1 : 0 < ((gp l0 r0 l1 r1) * (gp l0 r0 l1 r1) + (gp o0 h0 o1 h1) * (gp o0 h0 o1 h1)) := zc_nle (iI_toInt (by omega)) (by decide) c_1
    refine lv_iconst (v := 1) hx hb dX0_isApart_8 (by decide) ?_
    refine lv_goto (tgt := 13) hx hb dX0_isApart_9 (by decide) ?_
    have hP9 := hP.sub (ws' := [(oc0 b0 (iI l0) (iI o0) (iI r0) (iI h0)), (oc0 b1 (iI l1) (iI o1) (iI r1) (iI h1))]) [0, 1] rfl
    have hD9 := hD.sub (ws' := [(oc0 b0 (iI l0) (iI o0) (iI r0) (iI h0)), (oc0 b1 (iI l1) (iI o1) (iI r1) (iI h1))]) [0, 1] (by decide) rfl
    rw [hQ9]
    exact W.zret (ty := .boolean) (v := 1) hx hb hr (rfl) (fun t ht hW => ⟨⟨congrArg (fun z => Outcome.returned (some (Value.int z))) (show (1 : Int32) = pI (r0 < l1 ∨ r1 < l0 ∨ h0 < o1 ∨ h1 < o0) from (zp_t (by unfold gp at *; omega)).symm), by rw [ht]; exact hP9, hD9⟩, hS.F ht⟩) hS.2.2 dX0_isApart_13
