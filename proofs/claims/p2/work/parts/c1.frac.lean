set_option maxHeartbeats 4000000 in
set_option maxRecDepth 100000 in
theorem k_Fr_become (l : Launch) (dC : Nat → ClassId) (dI : Nat → Nat → Nat) (cI cZ cF : ClassId) (sz : Nat) (fr : Nat) (y1 : Int64) (y2 : Int64) (z1 : Int64) (z2 : Int64) : Met l yX3_become (.code yX3_become cX3_become 5 none :: ws0) ({ frames := 0, cells := 0, slots := 0, locals := 0 } : Room) (va_Pc [.ref fr, .long z1, .long z2] (zPre (dC, dI) classes (zTy cI cZ cF) [(oc2 fr y1 y2)] sz zXN)) (zQ none (fun t => va_P (dC, dI) classes [(oc2 fr z1 z2)] t.heap ∧ va_D (va_A [(oc2 fr y1 y2)] sz) [(oc2 fr z1 z2)]) (va_A [(oc2 fr y1 y2)] sz)) 0 0 (va_A [(oc2 fr y1 y2)] sz) := by
  refine Met.ofW (cc := cX3_become) (maxL := 5) (ret := none) (by decide) rfl ?_
  intro p e s m args below meth c s₁ B hml hv
  obtain ⟨rfl, hsz, hP, hK, hD0, hXN⟩ := hv
  have hx := B.exec
  have hb := B.bytes
  have hr := B.returns
  have hts0 := atoms_spec (ws := .code yX3_become cX3_become 5 none :: ws0) B.pre
  have hts : ∀ w9 ∈ ws0, w9.before ([.ref fr, .long z1, .long z2] : List Value).toArray s = true := fun w9 h => hts0 w9 (List.mem_cons_of_mem _ h)
  have hown : s.vm.findClass "ScaleShop$Fraction" = some m.cls := findClass_of_methodNamed B.named
  have hlocks := B.notSynchronized
  subst hsz
  have hD := hD0.self (sz := s.heap.size)
  clear hD0
  generalize hAe : va_A [(oc2 fr y1 y2)] s.heap.size = A at hD ⊢
  have hA : ∀ q : Nat, s.heap.size ≤ q → A q := fun q h => by rw [← hAe]; exact Or.inr h
  clear hAe
  have hS : va_S A s.heap s.heap [] := va_S.rf
  have hP : va_P (dC, dI) classes [(oc2 fr y1 y2)] s.heap := hP
  obtain ⟨Q9, hQ9⟩ : ∃ Q9 : State → Prop, Q9 = MQ below (zQ none (fun t => va_P (dC, dI) classes [(oc2 fr z1 z2)] t.heap ∧ va_D A [(oc2 fr z1 z2)]) A) ([.ref fr, .long z1, .long z2] : List Value).toArray s 0 0 A := ⟨_, rfl⟩
  rw [← hQ9]
  have hl := lv_entry ([.ref fr, .long z1, .long z2]) (n := 5) (Nat.le_of_ble_eq_true rfl)
  rw [lg_entry_eq]
  generalize (lg_sl ([.ref fr, .long z1, .long z2]) ++ List.replicate (5 - (lg_sl ([.ref fr, .long z1, .long z2])).length) Slot.unset).toArray = ls at hl ⊢
  have hl : lv_has ls 5 [(0, .ref fr), (1, .long z1), (3, .long z2)] := hl
  refine lv_aload_n hx hb dX3_become_0 rfl (lv_at hl 0 rfl) ?_
  refine lv_lload_n hx hb dX3_become_1 rfl (lv_at hl 1 rfl) ?_
  refine va_put (D := (dC, dI)) (ci := 2) (v := .long z1) (ty := .long) (C := RX3) (T := TX3) (N := 2) hx hb hts inX3 tyX3 tyX3_ok nmX3 hown hK hP hD hS 0 rfl rfl 0 (by decide) (hts _ mw_273) (fun _ h9 => h9) rfl (by decide +kernel) rfl rfl (Nat.le_of_ble_eq_true rfl) dX3_become_2 (fun H locs hP hD hS => ?_)
  have hP : va_P (dC, dI) classes [(oc2 fr z1 y2)] H := hP
  have hD : va_D A [(oc2 fr z1 y2)] := hD
  refine lv_aload_n hx hb dX3_become_5 rfl (lv_at hl 0 rfl) ?_
  refine lv_lload_n hx hb dX3_become_6 rfl (lv_at hl 2 rfl) ?_
  refine va_put (D := (dC, dI)) (ci := 2) (v := .long z2) (ty := .long) (C := RX3) (T := TX3) (N := 2) hx hb hts inX3 tyX3 tyX3_ok nmX3 hown hK hP hD hS 0 rfl rfl 1 (by decide) (hts _ mw_275) (fun _ h9 => h9) rfl (by decide +kernel) rfl rfl (Nat.le_of_ble_eq_true rfl) dX3_become_7 (fun H locs hP hD hS => ?_)
  have hP : va_P (dC, dI) classes [(oc2 fr z1 z2)] H := hP
  have hD : va_D A [(oc2 fr z1 z2)] := hD
  have hP9 := hP.sub (ws' := [(oc2 fr z1 z2)]) [0] rfl
  have hD9 := hD.sub (ws' := [(oc2 fr z1 z2)]) [0] (by decide) rfl
  rw [hQ9]
  exact W.vret hx hb hr (fun t ht hW => ⟨⟨rfl, by rw [ht]; exact hP9, hD9⟩, hS.F ht⟩) hS.2.2 dX3_become_10
set_option maxHeartbeats 4000000 in
set_option maxRecDepth 100000 in
theorem k_Fr_clear (l : Launch) (dC : Nat → ClassId) (dI : Nat → Nat → Nat) (cI cZ cF : ClassId) (sz : Nat) (fr : Nat) (y1 : Int64) (y2 : Int64) : Met l yX3_clear (.code yX3_clear cX3_clear 1 none :: ws0) ({ frames := 1, cells := 0, slots := 0, locals := 24 } : Room) (va_Pc [.ref fr] (zPre (dC, dI) classes (zTy cI cZ cF) [(oc2 fr y1 y2)] sz zXN)) (zQ none (fun t => va_P (dC, dI) classes [(oc2 fr 0 0)] t.heap ∧ va_D (va_A [(oc2 fr y1 y2)] sz) [(oc2 fr 0 0)]) (va_A [(oc2 fr y1 y2)] sz)) 0 0 (va_A [(oc2 fr y1 y2)] sz) := by
  refine Met.ofW (cc := cX3_clear) (maxL := 1) (ret := none) (by decide) rfl ?_
  intro p e s m args below meth c s₁ B hml hv
  obtain ⟨rfl, hsz, hP, hK, hD0, hXN⟩ := hv
  have hx := B.exec
  have hb := B.bytes
  have hr := B.returns
  have hts0 := atoms_spec (ws := .code yX3_clear cX3_clear 1 none :: ws0) B.pre
  have hts : ∀ w9 ∈ ws0, w9.before ([.ref fr] : List Value).toArray s = true := fun w9 h => hts0 w9 (List.mem_cons_of_mem _ h)
  have hown : s.vm.findClass "ScaleShop$Fraction" = some m.cls := findClass_of_methodNamed B.named
  have hlocks := B.notSynchronized
  subst hsz
  have hD := hD0.self (sz := s.heap.size)
  clear hD0
  generalize hAe : va_A [(oc2 fr y1 y2)] s.heap.size = A at hD ⊢
  have hA : ∀ q : Nat, s.heap.size ≤ q → A q := fun q h => by rw [← hAe]; exact Or.inr h
  clear hAe
  have hS : va_S A s.heap s.heap [] := va_S.rf
  have hP : va_P (dC, dI) classes [(oc2 fr y1 y2)] s.heap := hP
  obtain ⟨Q9, hQ9⟩ : ∃ Q9 : State → Prop, Q9 = MQ below (zQ none (fun t => va_P (dC, dI) classes [(oc2 fr 0 0)] t.heap ∧ va_D A [(oc2 fr 0 0)]) A) ([.ref fr] : List Value).toArray s 0 0 A := ⟨_, rfl⟩
  rw [← hQ9]
  have hl := lv_entry ([.ref fr]) (n := 1) (Nat.le_of_ble_eq_true rfl)
  rw [lg_entry_eq]
  generalize (lg_sl ([.ref fr]) ++ List.replicate (1 - (lg_sl ([.ref fr])).length) Slot.unset).toArray = ls at hl ⊢
  have hl : lv_has ls 1 [(0, .ref fr)] := hl
  refine lv_aload_n hx hb dX3_clear_0 rfl (lv_at hl 0 rfl) ?_
  refine lv_lconst (v := 0) hx hb dX3_clear_1 (by decide) ?_
  refine lv_lconst (v := 0) hx hb dX3_clear_2 (by decide) ?_
  have hPc := hP.sub (ws' := [(oc2 fr y1 y2)]) [0] rfl
  have hDc := hD.sub (ws' := [(oc2 fr y1 y2)]) [0] (by decide) rfl
  have hFc := va_free (wc := [(oc2 fr y1 y2)]) hD hS hA [0] rfl
  refine zcall (st1 := []) (va_runV (As := [.long 0, .long 0]) (rest := []) ⟨hx, hb, hml, hown, hts⟩ (k_Fr_become l dC dI cI cZ cF s.heap.size fr y1 y2 0 0 ) (cwV 2 hts (zz_gV mw_930 mw_931 mw_932 mw_106 mc_yX3_become) rfl rfl rfl (by decide +kernel) ⟨Nat.le_of_ble_eq_true rfl, Nat.le_of_ble_eq_true rfl⟩) (zPV2 (q0 := 0) (ci := 2) hPc hDc hK hXN rfl rfl) rfl rfl hl.1 rfl (lv_room (Nat.le_of_ble_eq_true rfl)) dX3_clear_3 ⟨Nat.le_of_ble_eq_true rfl, Nat.le_of_ble_eq_true rfl⟩) hS hFc hFc rfl (fun t H1 locs ht hB hk1 hS => ?_)
  obtain ⟨hP1, hD1⟩ := hB
  rw [ht] at hP1
  obtain ⟨hP, hD⟩ := va_join (wr := []) (w1 := [(oc2 fr 0 0)]) hP hD [0] [] rfl rfl (by decide) (by decide) hk1 hFc hP1 hD1
  clear hk1 hPc hDc hFc hP1 hD1 ht
  generalize H1 = H at hP hS ⊢
  have hP : va_P (dC, dI) classes [(oc2 fr 0 0)] H := hP
  have hD : va_D A [(oc2 fr 0 0)] := hD
  have hP9 := hP.sub (ws' := [(oc2 fr 0 0)]) [0] rfl
  have hD9 := hD.sub (ws' := [(oc2 fr 0 0)]) [0] (by decide) rfl
  rw [hQ9]
  exact W.vret hx hb hr (fun t ht hW => ⟨⟨rfl, by rw [ht]; exact hP9, hD9⟩, hS.F ht⟩) hS.2.2 dX3_clear_6
set_option maxHeartbeats 4000000 in
set_option maxRecDepth 100000 in
theorem k_Fr_offer (l : Launch) (dC : Nat → ClassId) (dI : Nat → Nat → Nat) (cI cZ cF : ClassId) (sz : Nat) (fr : Nat) (o9 : Int) (d9 : Int) (u9 : Int) (e9 : Int) (ho : 0 ≤ o9 ∧ o9 ≤ 4000000000000) (hd : 0 ≤ d9 ∧ d9 ≤ 2000000) (hu : 0 ≤ u9 ∧ u9 ≤ 4000000000000) (he : 1 ≤ e9 ∧ e9 ≤ 2000000) : Met l yX3_offer (.code yX3_offer cX3_offer 5 none :: ws0) ({ frames := 0, cells := 0, slots := 0, locals := 0 } : Room) (va_Pc [.ref fr, .long (jI u9), .long (jI e9)] (zPre (dC, dI) classes (zTy cI cZ cF) [(oc2 fr (jI o9) (jI d9))] sz zXN)) (zQ none (fun t => ∃ (zu : Int), ∃ (zd : Int), (ndP o9 d9 u9 e9 zu zd) ∧ va_P (dC, dI) classes [(oc2 fr (jI zu) (jI zd))] t.heap ∧ va_D (va_A [(oc2 fr (jI o9) (jI d9))] sz) [(oc2 fr (jI zu) (jI zd))]) (va_A [(oc2 fr (jI o9) (jI d9))] sz)) 0 0 (va_A [(oc2 fr (jI o9) (jI d9))] sz) := by
  refine Met.ofW (cc := cX3_offer) (maxL := 5) (ret := none) (by decide) rfl ?_
  intro p e s m args below meth c s₁ B hml hv
  obtain ⟨rfl, hsz, hP, hK, hD0, hXN⟩ := hv
  have hx := B.exec
  have hb := B.bytes
  have hr := B.returns
  have hts0 := atoms_spec (ws := .code yX3_offer cX3_offer 5 none :: ws0) B.pre
  have hts : ∀ w9 ∈ ws0, w9.before ([.ref fr, .long (jI u9), .long (jI e9)] : List Value).toArray s = true := fun w9 h => hts0 w9 (List.mem_cons_of_mem _ h)
  have hown : s.vm.findClass "ScaleShop$Fraction" = some m.cls := findClass_of_methodNamed B.named
  have hlocks := B.notSynchronized
  subst hsz
  have hD := hD0.self (sz := s.heap.size)
  clear hD0
  generalize hAe : va_A [(oc2 fr (jI o9) (jI d9))] s.heap.size = A at hD ⊢
  have hA : ∀ q : Nat, s.heap.size ≤ q → A q := fun q h => by rw [← hAe]; exact Or.inr h
  clear hAe
  have hS : va_S A s.heap s.heap [] := va_S.rf
  have hP : va_P (dC, dI) classes [(oc2 fr (jI o9) (jI d9))] s.heap := hP
  obtain ⟨Q9, hQ9⟩ : ∃ Q9 : State → Prop, Q9 = MQ below (zQ none (fun t => ∃ (zu : Int), ∃ (zd : Int), (ndP o9 d9 u9 e9 zu zd) ∧ va_P (dC, dI) classes [(oc2 fr (jI zu) (jI zd))] t.heap ∧ va_D A [(oc2 fr (jI zu) (jI zd))]) A) ([.ref fr, .long (jI u9), .long (jI e9)] : List Value).toArray s 0 0 A := ⟨_, rfl⟩
  rw [← hQ9]
  have hl := lv_entry ([.ref fr, .long (jI u9), .long (jI e9)]) (n := 5) (Nat.le_of_ble_eq_true rfl)
  rw [lg_entry_eq]
  generalize (lg_sl ([.ref fr, .long (jI u9), .long (jI e9)]) ++ List.replicate (5 - (lg_sl ([.ref fr, .long (jI u9), .long (jI e9)])).length) Slot.unset).toArray = ls at hl ⊢
  have hl : lv_has ls 5 [(0, .ref fr), (1, .long (jI u9)), (3, .long (jI e9))] := hl
  have hp1 := prN hu hd
  have hp2 := prN ho ⟨by omega, he.2⟩
  refine lv_aload_n hx hb dX3_offer_0 rfl (lv_at hl 0 rfl) ?_
  refine va_get (D := (dC, dI)) (ci := 2) (v := .long (jI d9)) (C := RX3) (T := TX3) (N := 2) hx hb hts inX3 hown hK hP 0 rfl rfl 1 (by decide) (hts _ mw_275) (fun _ h9 => h9) rfl dX3_offer_1 ?_
  refine lv_lconst (v := 0) hx hb dX3_offer_4 (by decide) ?_
  refine W.lcmp hx hb dX3_offer_5 ?_
  refine lv_if_eq (tgt := 25) hx hb dX3_offer_6 (by decide) (fun c_1 => ?_) (fun c_1 => ?_)
  · have c_1 : d9 = 0 := zl_eq (jI_toInt (by omega)) (by decide) c_1
    refine lv_aload_n hx hb dX3_offer_25 rfl (lv_at hl 0 rfl) ?_
    refine lv_lload_n hx hb dX3_offer_26 rfl (lv_at hl 1 rfl) ?_
    refine va_put (D := (dC, dI)) (ci := 2) (v := .long (jI u9)) (ty := .long) (C := RX3) (T := TX3) (N := 2) hx hb hts inX3 tyX3 tyX3_ok nmX3 hown hK hP hD hS 0 rfl rfl 0 (by decide) (hts _ mw_273) (fun _ h9 => h9) rfl (by decide +kernel) rfl rfl (Nat.le_of_ble_eq_true rfl) dX3_offer_27 (fun H locs hP hD hS => ?_)
    have hP : va_P (dC, dI) classes [(oc2 fr (jI u9) (jI d9))] H := hP
    have hD : va_D A [(oc2 fr (jI u9) (jI d9))] := hD
    refine lv_aload_n hx hb dX3_offer_30 rfl (lv_at hl 0 rfl) ?_
    refine lv_lload_n hx hb dX3_offer_31 rfl (lv_at hl 2 rfl) ?_
    refine va_put (D := (dC, dI)) (ci := 2) (v := .long (jI e9)) (ty := .long) (C := RX3) (T := TX3) (N := 2) hx hb hts inX3 tyX3 tyX3_ok nmX3 hown hK hP hD hS 0 rfl rfl 1 (by decide) (hts _ mw_275) (fun _ h9 => h9) rfl (by decide +kernel) rfl rfl (Nat.le_of_ble_eq_true rfl) dX3_offer_32 (fun H locs hP hD hS => ?_)
    have hP : va_P (dC, dI) classes [(oc2 fr (jI u9) (jI e9))] H := hP
    have hD : va_D A [(oc2 fr (jI u9) (jI e9))] := hD
    have hP9 := hP.sub (ws' := [(oc2 fr (jI u9) (jI e9))]) [0] rfl
    have hD9 := hD.sub (ws' := [(oc2 fr (jI u9) (jI e9))]) [0] (by decide) rfl
    rw [hQ9]
    exact W.vret hx hb hr (fun t ht hW => ⟨⟨rfl, u9, e9, (by unfold ndP; first | exact Or.inl ⟨Or.inl (by omega), rfl, rfl⟩ | exact Or.inl ⟨Or.inr (by omega), rfl, rfl⟩ | exact Or.inr ⟨fun h => by omega, rfl, rfl⟩), by rw [ht]; exact hP9, hD9⟩, hS.F ht⟩) hS.2.2 dX3_offer_35
  · have c_1 : ¬ d9 = 0 := zl_ne (jI_toInt (by omega)) (by decide) c_1
    refine lv_lload_n hx hb dX3_offer_9 rfl (lv_at hl 1 rfl) ?_
    refine lv_aload_n hx hb dX3_offer_10 rfl (lv_at hl 0 rfl) ?_
    refine va_get (D := (dC, dI)) (ci := 2) (v := .long (jI d9)) (C := RX3) (T := TX3) (N := 2) hx hb hts inX3 hown hK hP 0 rfl rfl 1 (by decide) (hts _ mw_275) (fun _ h9 => h9) rfl dX3_offer_11 ?_
    refine lv_lmul hx hb dX3_offer_14 ?_
    refine zz_l (v := jI (u9 * d9)) (jI_mul (by omega) (by omega) (by omega)) ?_
    refine lv_aload_n hx hb dX3_offer_15 rfl (lv_at hl 0 rfl) ?_
    refine va_get (D := (dC, dI)) (ci := 2) (v := .long (jI o9)) (C := RX3) (T := TX3) (N := 2) hx hb hts inX3 hown hK hP 0 rfl rfl 0 (by decide) (hts _ mw_273) (fun _ h9 => h9) rfl dX3_offer_16 ?_
    refine lv_lload_n hx hb dX3_offer_19 rfl (lv_at hl 2 rfl) ?_
    refine lv_lmul hx hb dX3_offer_20 ?_
    refine zz_l (v := jI (o9 * e9)) (jI_mul (by omega) (by omega) (by omega)) ?_
    refine W.lcmp hx hb dX3_offer_21 ?_
    refine lv_if_ge (tgt := 35) hx hb dX3_offer_22 (by decide) (fun c_2 => ?_) (fun c_2 => ?_)
    · have c_2 : (o9 * e9) ≤ (u9 * d9) := zl_ge (jI_toInt (by omega)) (jI_toInt (by omega)) c_2
      have hP9 := hP.sub (ws' := [(oc2 fr (jI o9) (jI d9))]) [0] rfl
      have hD9 := hD.sub (ws' := [(oc2 fr (jI o9) (jI d9))]) [0] (by decide) rfl
      rw [hQ9]
      exact W.vret hx hb hr (fun t ht hW => ⟨⟨rfl, o9, d9, (by unfold ndP; first | exact Or.inl ⟨Or.inl (by omega), rfl, rfl⟩ | exact Or.inl ⟨Or.inr (by omega), rfl, rfl⟩ | exact Or.inr ⟨fun h => by omega, rfl, rfl⟩), by rw [ht]; exact hP9, hD9⟩, hS.F ht⟩) hS.2.2 dX3_offer_35
    · have c_2 : (u9 * d9) < (o9 * e9) := zl_nge (jI_toInt (by omega)) (jI_toInt (by omega)) c_2
      refine lv_aload_n hx hb dX3_offer_25 rfl (lv_at hl 0 rfl) ?_
      refine lv_lload_n hx hb dX3_offer_26 rfl (lv_at hl 1 rfl) ?_
      refine va_put (D := (dC, dI)) (ci := 2) (v := .long (jI u9)) (ty := .long) (C := RX3) (T := TX3) (N := 2) hx hb hts inX3 tyX3 tyX3_ok nmX3 hown hK hP hD hS 0 rfl rfl 0 (by decide) (hts _ mw_273) (fun _ h9 => h9) rfl (by decide +kernel) rfl rfl (Nat.le_of_ble_eq_true rfl) dX3_offer_27 (fun H locs hP hD hS => ?_)
      have hP : va_P (dC, dI) classes [(oc2 fr (jI u9) (jI d9))] H := hP
      have hD : va_D A [(oc2 fr (jI u9) (jI d9))] := hD
      refine lv_aload_n hx hb dX3_offer_30 rfl (lv_at hl 0 rfl) ?_
      refine lv_lload_n hx hb dX3_offer_31 rfl (lv_at hl 2 rfl) ?_
      refine va_put (D := (dC, dI)) (ci := 2) (v := .long (jI e9)) (ty := .long) (C := RX3) (T := TX3) (N := 2) hx hb hts inX3 tyX3 tyX3_ok nmX3 hown hK hP hD hS 0 rfl rfl 1 (by decide) (hts _ mw_275) (fun _ h9 => h9) rfl (by decide +kernel) rfl rfl (Nat.le_of_ble_eq_true rfl) dX3_offer_32 (fun H locs hP hD hS => ?_)
      have hP : va_P (dC, dI) classes [(oc2 fr (jI u9) (jI e9))] H := hP
      have hD : va_D A [(oc2 fr (jI u9) (jI e9))] := hD
      have hP9 := hP.sub (ws' := [(oc2 fr (jI u9) (jI e9))]) [0] rfl
      have hD9 := hD.sub (ws' := [(oc2 fr (jI u9) (jI e9))]) [0] (by decide) rfl
      rw [hQ9]
      exact W.vret hx hb hr (fun t ht hW => ⟨⟨rfl, u9, e9, (by unfold ndP; first | exact Or.inl ⟨Or.inl (by omega), rfl, rfl⟩ | exact Or.inl ⟨Or.inr (by omega), rfl, rfl⟩ | exact Or.inr ⟨fun h => by omega, rfl, rfl⟩), by rw [ht]; exact hP9, hD9⟩, hS.F ht⟩) hS.2.2 dX3_offer_35
set_option maxHeartbeats 4000000 in
set_option maxRecDepth 100000 in
theorem k_Fr_isBelow (l : Launch) (dC : Nat → ClassId) (dI : Nat → Nat → Nat) (cI cZ cF : ClassId) (sz : Nat) (fr : Nat) (o9 : Int) (d9 : Int) (f2 : Nat) (p9 : Int) (q9 : Int) (ho : 0 ≤ o9 ∧ o9 ≤ 4000000000000) (hd : 0 ≤ d9 ∧ d9 ≤ 2000000) (hp : 0 ≤ p9 ∧ p9 ≤ 4000000000000) (hq : 0 ≤ q9 ∧ q9 ≤ 2000000) : Met l yX3_isBelow (.code yX3_isBelow cX3_isBelow 2 (some .boolean) :: ws0) ({ frames := 0, cells := 0, slots := 0, locals := 0 } : Room) (va_Pc [.ref fr, .ref f2] (zPre (dC, dI) classes (zTy cI cZ cF) [(oc2 fr (jI o9) (jI d9)), (oc2 f2 (jI p9) (jI q9))] sz zXN)) (zQ (some (.int (pI (o9 * q9 < p9 * d9)))) (fun t => va_P (dC, dI) classes [(oc2 fr (jI o9) (jI d9)), (oc2 f2 (jI p9) (jI q9))] t.heap ∧ va_D (va_A [(oc2 fr (jI o9) (jI d9)), (oc2 f2 (jI p9) (jI q9))] sz) [(oc2 fr (jI o9) (jI d9)), (oc2 f2 (jI p9) (jI q9))]) (va_A [(oc2 fr (jI o9) (jI d9)), (oc2 f2 (jI p9) (jI q9))] sz)) 0 0 (va_A [(oc2 fr (jI o9) (jI d9)), (oc2 f2 (jI p9) (jI q9))] sz) := by
  refine Met.ofW (cc := cX3_isBelow) (maxL := 2) (ret := (some .boolean)) (by decide) rfl ?_
  intro p e s m args below meth c s₁ B hml hv
  obtain ⟨rfl, hsz, hP, hK, hD0, hXN⟩ := hv
  have hx := B.exec
  have hb := B.bytes
  have hr := B.returns
  have hts0 := atoms_spec (ws := .code yX3_isBelow cX3_isBelow 2 (some .boolean) :: ws0) B.pre
  have hts : ∀ w9 ∈ ws0, w9.before ([.ref fr, .ref f2] : List Value).toArray s = true := fun w9 h => hts0 w9 (List.mem_cons_of_mem _ h)
  have hown : s.vm.findClass "ScaleShop$Fraction" = some m.cls := findClass_of_methodNamed B.named
  have hlocks := B.notSynchronized
  subst hsz
  have hD := hD0.self (sz := s.heap.size)
  clear hD0
  generalize hAe : va_A [(oc2 fr (jI o9) (jI d9)), (oc2 f2 (jI p9) (jI q9))] s.heap.size = A at hD ⊢
  have hA : ∀ q : Nat, s.heap.size ≤ q → A q := fun q h => by rw [← hAe]; exact Or.inr h
  clear hAe
  have hS : va_S A s.heap s.heap [] := va_S.rf
  have hP : va_P (dC, dI) classes [(oc2 fr (jI o9) (jI d9)), (oc2 f2 (jI p9) (jI q9))] s.heap := hP
  obtain ⟨Q9, hQ9⟩ : ∃ Q9 : State → Prop, Q9 = MQ below (zQ (some (.int (pI (o9 * q9 < p9 * d9)))) (fun t => va_P (dC, dI) classes [(oc2 fr (jI o9) (jI d9)), (oc2 f2 (jI p9) (jI q9))] t.heap ∧ va_D A [(oc2 fr (jI o9) (jI d9)), (oc2 f2 (jI p9) (jI q9))]) A) ([.ref fr, .ref f2] : List Value).toArray s 0 0 A := ⟨_, rfl⟩
  rw [← hQ9]
  have hl := lv_entry ([.ref fr, .ref f2]) (n := 2) (Nat.le_of_ble_eq_true rfl)
  rw [lg_entry_eq]
  generalize (lg_sl ([.ref fr, .ref f2]) ++ List.replicate (2 - (lg_sl ([.ref fr, .ref f2])).length) Slot.unset).toArray = ls at hl ⊢
  have hl : lv_has ls 2 [(0, .ref fr), (1, .ref f2)] := hl
  have hp1 := prN ho hq
  have hp2 := prN hp hd
  refine lv_aload_n hx hb dX3_isBelow_0 rfl (lv_at hl 0 rfl) ?_
  refine va_get (D := (dC, dI)) (ci := 2) (v := .long (jI o9)) (C := RX3) (T := TX3) (N := 2) hx hb hts inX3 hown hK hP 0 rfl rfl 0 (by decide) (hts _ mw_273) (fun _ h9 => h9) rfl dX3_isBelow_1 ?_
  refine lv_aload_n hx hb dX3_isBelow_4 rfl (lv_at hl 1 rfl) ?_
  refine va_get (D := (dC, dI)) (ci := 2) (v := .long (jI q9)) (C := RX3) (T := TX3) (N := 2) hx hb hts inX3 hown hK hP 1 rfl rfl 1 (by decide) (hts _ mw_275) (fun _ h9 => h9) rfl dX3_isBelow_5 ?_
  refine lv_lmul hx hb dX3_isBelow_8 ?_
  refine zz_l (v := jI (o9 * q9)) (jI_mul (by omega) (by omega) (by omega)) ?_
  refine lv_aload_n hx hb dX3_isBelow_9 rfl (lv_at hl 1 rfl) ?_
  refine va_get (D := (dC, dI)) (ci := 2) (v := .long (jI p9)) (C := RX3) (T := TX3) (N := 2) hx hb hts inX3 hown hK hP 1 rfl rfl 0 (by decide) (hts _ mw_273) (fun _ h9 => h9) rfl dX3_isBelow_10 ?_
  refine lv_aload_n hx hb dX3_isBelow_13 rfl (lv_at hl 0 rfl) ?_
  refine va_get (D := (dC, dI)) (ci := 2) (v := .long (jI d9)) (C := RX3) (T := TX3) (N := 2) hx hb hts inX3 hown hK hP 0 rfl rfl 1 (by decide) (hts _ mw_275) (fun _ h9 => h9) rfl dX3_isBelow_14 ?_
  refine lv_lmul hx hb dX3_isBelow_17 ?_
  refine zz_l (v := jI (p9 * d9)) (jI_mul (by omega) (by omega) (by omega)) ?_
  refine W.lcmp hx hb dX3_isBelow_18 ?_
  refine lv_if_ge (tgt := 26) hx hb dX3_isBelow_19 (by decide) (fun c_1 => ?_) (fun c_1 => ?_)
  · have c_1 : (p9 * d9) ≤ (o9 * q9) := zl_ge (jI_toInt (by omega)) (jI_toInt (by omega)) c_1
    refine lv_iconst (v := 0) hx hb dX3_isBelow_26 (by decide) ?_
    have hP9 := hP.sub (ws' := [(oc2 fr (jI o9) (jI d9)), (oc2 f2 (jI p9) (jI q9))]) [0, 1] rfl
    have hD9 := hD.sub (ws' := [(oc2 fr (jI o9) (jI d9)), (oc2 f2 (jI p9) (jI q9))]) [0, 1] (by decide) rfl
    rw [hQ9]
    exact W.zret (ty := .boolean) (v := 0) hx hb hr (rfl) (fun t ht hW => ⟨⟨congrArg (fun z => Outcome.returned (some (Value.int z))) (show (0 : Int32) = pI (o9 * q9 < p9 * d9) from (zp_f (by omega)).symm), by rw [ht]; exact hP9, hD9⟩, hS.F ht⟩) hS.2.2 dX3_isBelow_27
  · have c_1 : (o9 * q9) < (p9 * d9) := zl_nge (jI_toInt (by omega)) (jI_toInt (by omega)) c_1
    refine lv_iconst (v := 1) hx hb dX3_isBelow_22 (by decide) ?_
    refine lv_goto (tgt := 27) hx hb dX3_isBelow_23 (by decide) ?_
    have hP9 := hP.sub (ws' := [(oc2 fr (jI o9) (jI d9)), (oc2 f2 (jI p9) (jI q9))]) [0, 1] rfl
    have hD9 := hD.sub (ws' := [(oc2 fr (jI o9) (jI d9)), (oc2 f2 (jI p9) (jI q9))]) [0, 1] (by decide) rfl
    rw [hQ9]
    exact W.zret (ty := .boolean) (v := 1) hx hb hr (rfl) (fun t ht hW => ⟨⟨congrArg (fun z => Outcome.returned (some (Value.int z))) (show (1 : Int32) = pI (o9 * q9 < p9 * d9) from (zp_t (by omega)).symm), by rw [ht]; exact hP9, hD9⟩, hS.F ht⟩) hS.2.2 dX3_isBelow_27
