set_option maxHeartbeats 4000000 in
set_option maxRecDepth 100000 in
theorem k_run_4 (l : Launch) (dC : Nat → ClassId) (dI : Nat → Nat → Nat) (cI cZ cF : ClassId) (sz : Nat) (x : Nat) (sh : Nat) (lw : Nat) (ro : Nat) (bq : Nat) (bp : Nat) (dq : Nat) (dp : Nat) (lv : Nat) (sl : Nat) (sd : Int32) (ul : Int32) (su : Int32) (ds : Int32) (lim : Int32) (hbad : lim.toInt < 0) : Met l yX10_run (.code yX10_run cX10_run 7 (some .int) :: ws0) ({ frames := 1, cells := 0, slots := 0, locals := 21 } : Room) (va_Pc [.ref x, .int lim] (zPre (dC, dI) classes (zTy cI cZ cF) [(oc8 x (.ref sh) (.ref lw) (.ref ro) (.ref bq) (.ref bp) (.ref dq) (.ref dp) (.ref lv) (.ref sl) ds sd ul su)] sz zXN)) (zQ (some (.int (-1))) (fun t => va_P (dC, dI) classes [(oc8 x (.ref sh) (.ref lw) (.ref ro) (.ref bq) (.ref bp) (.ref dq) (.ref dp) (.ref lv) (.ref sl) ds sd ul 4)] t.heap ∧ va_D (va_A [(oc8 x (.ref sh) (.ref lw) (.ref ro) (.ref bq) (.ref bp) (.ref dq) (.ref dp) (.ref lv) (.ref sl) ds sd ul su)] sz) [(oc8 x (.ref sh) (.ref lw) (.ref ro) (.ref bq) (.ref bp) (.ref dq) (.ref dp) (.ref lv) (.ref sl) ds sd ul 4)]) (va_A [(oc8 x (.ref sh) (.ref lw) (.ref ro) (.ref bq) (.ref bp) (.ref dq) (.ref dp) (.ref lv) (.ref sl) ds sd ul su)] sz)) 0 0 (va_A [(oc8 x (.ref sh) (.ref lw) (.ref ro) (.ref bq) (.ref bp) (.ref dq) (.ref dp) (.ref lv) (.ref sl) ds sd ul su)] sz) := by
  refine Met.ofW (cc := cX10_run) (maxL := 7) (ret := (some .int)) (by decide) rfl ?_
  intro p e s m args below meth c s₁ B hml hv
  obtain ⟨rfl, hsz, hP, hK, hD0, hXN⟩ := hv
  have hx := B.exec
  have hb := B.bytes
  have hr := B.returns
  have hts0 := atoms_spec (ws := .code yX10_run cX10_run 7 (some .int) :: ws0) B.pre
  have hts : ∀ w9 ∈ ws0, w9.before ([.ref x, .int lim] : List Value).toArray s = true := fun w9 h => hts0 w9 (List.mem_cons_of_mem _ h)
  have hown : s.vm.findClass "ScaleShop" = some m.cls := findClass_of_methodNamed B.named
  have hlocks := B.notSynchronized
  subst hsz
  have hD := hD0.self (sz := s.heap.size)
  clear hD0
  generalize hAe : va_A [(oc8 x (.ref sh) (.ref lw) (.ref ro) (.ref bq) (.ref bp) (.ref dq) (.ref dp) (.ref lv) (.ref sl) ds sd ul su)] s.heap.size = A at hD ⊢
  have hA : ∀ q : Nat, s.heap.size ≤ q → A q := fun q h => by rw [← hAe]; exact Or.inr h
  clear hAe
  have hS : va_S A s.heap s.heap [] := va_S.rf
  have hP : va_P (dC, dI) classes [(oc8 x (.ref sh) (.ref lw) (.ref ro) (.ref bq) (.ref bp) (.ref dq) (.ref dp) (.ref lv) (.ref sl) ds sd ul su)] s.heap := hP
  obtain ⟨Q9, hQ9⟩ : ∃ Q9 : State → Prop, Q9 = MQ below (zQ (some (.int (-1))) (fun t => va_P (dC, dI) classes [(oc8 x (.ref sh) (.ref lw) (.ref ro) (.ref bq) (.ref bp) (.ref dq) (.ref dp) (.ref lv) (.ref sl) ds sd ul 4)] t.heap ∧ va_D A [(oc8 x (.ref sh) (.ref lw) (.ref ro) (.ref bq) (.ref bp) (.ref dq) (.ref dp) (.ref lv) (.ref sl) ds sd ul 4)]) A) ([.ref x, .int lim] : List Value).toArray s 0 0 A := ⟨_, rfl⟩
  rw [← hQ9]
  have hl := lv_entry ([.ref x, .int lim]) (n := 7) (Nat.le_of_ble_eq_true rfl)
  rw [lg_entry_eq]
  generalize (lg_sl ([.ref x, .int lim]) ++ List.replicate (7 - (lg_sl ([.ref x, .int lim])).length) Slot.unset).toArray = ls at hl ⊢
  have hl : lv_has ls 7 [(0, .ref x), (1, .int lim)] := hl
  have e_0 : (0 : Int32).toInt = 0 := (by decide)
  refine lv_iload_n hx hb dX10_run_0 rfl (lv_at hl 1 rfl) ?_
  refine lv_if_ge (tgt := 10) hx hb dX10_run_1 (by decide) (fun c_1 => ?_) (fun c_1 => ?_)
  · have c_1 : 0 ≤ lim.toInt := zc_le (by decide) rfl c_1
    exact absurd hbad (by omega)
  · have c_1 : lim.toInt < 0 := zc_nle (by decide) rfl c_1
    refine lv_aload_n hx hb dX10_run_4 rfl (lv_at hl 0 rfl) ?_
    refine lv_iconst (v := 4) hx hb dX10_run_5 (by decide) ?_
    have hPc := hP.sub (ws' := [(oc8 x (.ref sh) (.ref lw) (.ref ro) (.ref bq) (.ref bp) (.ref dq) (.ref dp) (.ref lv) (.ref sl) ds sd ul su)]) [0] rfl
    have hDc := hD.sub (ws' := [(oc8 x (.ref sh) (.ref lw) (.ref ro) (.ref bq) (.ref bp) (.ref dq) (.ref dp) (.ref lv) (.ref sl) ds sd ul su)]) [0] (by decide) rfl
    have hFc := va_free (wc := [(oc8 x (.ref sh) (.ref lw) (.ref ro) (.ref bq) (.ref bp) (.ref dq) (.ref dp) (.ref lv) (.ref sl) ds sd ul su)]) hD hS hA [0] rfl
    refine zcall (st1 := [.int (-1)]) (va_runV (As := [.int 4]) (rest := []) ⟨hx, hb, hml, hown, hts⟩ (k_refuse_4 l dC dI cI cZ cF s.heap.size x sh lw ro bq bp dq dp lv sl sd ul su ds ) (cwV 1 hts (zz_gV mw_356 mw_358 mw_0 mw_99 mc_yX10_refuse) rfl rfl rfl (by decide +kernel) ⟨Nat.le_of_ble_eq_true rfl, Nat.le_of_ble_eq_true rfl⟩) (zPV2 (q0 := 0) (ci := 8) hPc hDc hK hXN rfl rfl) rfl rfl hl.1 rfl (lv_room (Nat.le_of_ble_eq_true rfl)) dX10_run_6 ⟨Nat.le_of_ble_eq_true rfl, Nat.le_of_ble_eq_true rfl⟩) hS hFc hFc rfl (fun t H1 locs ht hB hk1 hS => ?_)
    obtain ⟨hP1, hD1⟩ := hB
    rw [ht] at hP1
    obtain ⟨hP, hD⟩ := va_join (wr := []) (w1 := [(oc8 x (.ref sh) (.ref lw) (.ref ro) (.ref bq) (.ref bp) (.ref dq) (.ref dp) (.ref lv) (.ref sl) ds sd ul 4)]) hP hD [0] [] rfl rfl (by decide) (by decide) hk1 hFc hP1 hD1
    clear hk1 hPc hDc hFc hP1 hD1 ht
    generalize H1 = H at hP hS ⊢
    have hP : va_P (dC, dI) classes [(oc8 x (.ref sh) (.ref lw) (.ref ro) (.ref bq) (.ref bp) (.ref dq) (.ref dp) (.ref lv) (.ref sl) ds sd ul 4)] H := hP
    have hD : va_D A [(oc8 x (.ref sh) (.ref lw) (.ref ro) (.ref bq) (.ref bp) (.ref dq) (.ref dp) (.ref lv) (.ref sl) ds sd ul 4)] := hD
    have hP9 := hP.sub (ws' := [(oc8 x (.ref sh) (.ref lw) (.ref ro) (.ref bq) (.ref bp) (.ref dq) (.ref dp) (.ref lv) (.ref sl) ds sd ul 4)]) [0] rfl
    have hD9 := hD.sub (ws' := [(oc8 x (.ref sh) (.ref lw) (.ref ro) (.ref bq) (.ref bp) (.ref dq) (.ref dp) (.ref lv) (.ref sl) ds sd ul 4)]) [0] (by decide) rfl
    rw [hQ9]
    exact W.iret (v := (-1)) hx hb hr (fun t ht hW => ⟨⟨rfl, by rw [ht]; exact hP9, hD9⟩, hS.F ht⟩) hS.2.2 dX10_run_9
set_option maxHeartbeats 4000000 in
set_option maxRecDepth 100000 in
theorem k_Box_init (l : Launch) (dC : Nat → ClassId) (dI : Nat → Nat → Nat) (cI cZ cF : ClassId) (sz : Nat) (bb : Nat) : Met l yX0_init (.code yX0_init cX0_init 1 none :: ws0) ({ frames := 1, cells := 0, slots := 0, locals := 12 } : Room) (va_Pc [.ref bb] (zPre (dC, dI) classes (zTy cI cZ cF) [(oc0 bb 0 0 0 0)] sz zXN)) (zQ none (fun t => va_P (dC, dI) classes [(oc0 bb 0 0 0 0)] t.heap ∧ va_D (va_A [(oc0 bb 0 0 0 0)] sz) [(oc0 bb 0 0 0 0)]) (va_A [(oc0 bb 0 0 0 0)] sz)) 0 0 (va_A [(oc0 bb 0 0 0 0)] sz) := by
  refine Met.ofW (cc := cX0_init) (maxL := 1) (ret := none) (by decide) rfl ?_
  intro p e s m args below meth c s₁ B hml hv
  obtain ⟨rfl, hsz, hP, hK, hD0, hXN⟩ := hv
  have hx := B.exec
  have hb := B.bytes
  have hr := B.returns
  have hts0 := atoms_spec (ws := .code yX0_init cX0_init 1 none :: ws0) B.pre
  have hts : ∀ w9 ∈ ws0, w9.before ([.ref bb] : List Value).toArray s = true := fun w9 h => hts0 w9 (List.mem_cons_of_mem _ h)
  have hown : s.vm.findClass "ScaleShop$Box" = some m.cls := findClass_of_methodNamed B.named
  have hlocks := B.notSynchronized
  have hin : meth.name = "<init>" := (name_of_methodNamed B.named B.method).1
  subst hsz
  have hD := hD0.self (sz := s.heap.size)
  clear hD0
  generalize hAe : va_A [(oc0 bb 0 0 0 0)] s.heap.size = A at hD ⊢
  have hA : ∀ q : Nat, s.heap.size ≤ q → A q := fun q h => by rw [← hAe]; exact Or.inr h
  clear hAe
  have hS : va_S A s.heap s.heap [] := va_S.rf
  have hP : va_P (dC, dI) classes [(oc0 bb 0 0 0 0)] s.heap := hP
  obtain ⟨Q9, hQ9⟩ : ∃ Q9 : State → Prop, Q9 = MQ below (zQ none (fun t => va_P (dC, dI) classes [(oc0 bb 0 0 0 0)] t.heap ∧ va_D A [(oc0 bb 0 0 0 0)]) A) ([.ref bb] : List Value).toArray s 0 0 A := ⟨_, rfl⟩
  rw [← hQ9]
  have hl := lv_entry ([.ref bb]) (n := 1) (Nat.le_of_ble_eq_true rfl)
  rw [lg_entry_eq]
  generalize (lg_sl ([.ref bb]) ++ List.replicate (1 - (lg_sl ([.ref bb])).length) Slot.unset).toArray = ls at hl ⊢
  have hl : lv_has ls 1 [(0, .ref bb)] := hl
  refine lv_aload_n hx hb dX0_init_0 rfl (lv_at hl 0 rfl) ?_
  refine W.objInit hx hb hown (hts _ mw_201) (hts _ mw_126) (hts _ mw_objcode) rfl (by rw [hml]; exact hl.1) rfl dX0_init_1 (Nat.le_of_ble_eq_true rfl) (Nat.le_of_ble_eq_true rfl) ?_
  refine W.eq (g2 := F0 m 4 ls []) rfl ?_
  refine lv_aload_n hx hb dX0_init_4 rfl (lv_at hl 0 rfl) ?_
  refine lv_iconst (v := 0) hx hb dX0_init_5 (by decide) ?_
  refine va_put (D := (dC, dI)) (ci := 0) (v := .int 0) (ty := .int) (C := RX0) (T := TX0) (N := 4) hx hb hts inX0 tyX0 tyX0_ok nmX0 hown hK hP hD hS 0 rfl rfl 0 (by decide) (hts _ mw_202) (fun _ h9 => h9) rfl (by decide +kernel) rfl rfl (Nat.le_of_ble_eq_true rfl) dX0_init_6 (fun H locs hP hD hS => ?_)
  have hP : va_P (dC, dI) classes [(oc0 bb 0 0 0 0)] H := hP
  have hD : va_D A [(oc0 bb 0 0 0 0)] := hD
  refine lv_aload_n hx hb dX0_init_9 rfl (lv_at hl 0 rfl) ?_
  refine lv_iconst (v := 0) hx hb dX0_init_10 (by decide) ?_
  refine va_put (D := (dC, dI)) (ci := 0) (v := .int 0) (ty := .int) (C := RX0) (T := TX0) (N := 4) hx hb hts inX0 tyX0 tyX0_ok nmX0 hown hK hP hD hS 0 rfl rfl 1 (by decide) (hts _ mw_204) (fun _ h9 => h9) rfl (by decide +kernel) rfl rfl (Nat.le_of_ble_eq_true rfl) dX0_init_11 (fun H locs hP hD hS => ?_)
  have hP : va_P (dC, dI) classes [(oc0 bb 0 0 0 0)] H := hP
  have hD : va_D A [(oc0 bb 0 0 0 0)] := hD
  refine lv_aload_n hx hb dX0_init_14 rfl (lv_at hl 0 rfl) ?_
  refine lv_iconst (v := 0) hx hb dX0_init_15 (by decide) ?_
  refine va_put (D := (dC, dI)) (ci := 0) (v := .int 0) (ty := .int) (C := RX0) (T := TX0) (N := 4) hx hb hts inX0 tyX0 tyX0_ok nmX0 hown hK hP hD hS 0 rfl rfl 2 (by decide) (hts _ mw_206) (fun _ h9 => h9) rfl (by decide +kernel) rfl rfl (Nat.le_of_ble_eq_true rfl) dX0_init_16 (fun H locs hP hD hS => ?_)
  have hP : va_P (dC, dI) classes [(oc0 bb 0 0 0 0)] H := hP
  have hD : va_D A [(oc0 bb 0 0 0 0)] := hD
  refine lv_aload_n hx hb dX0_init_19 rfl (lv_at hl 0 rfl) ?_
  refine lv_iconst (v := 0) hx hb dX0_init_20 (by decide) ?_
  refine va_put (D := (dC, dI)) (ci := 0) (v := .int 0) (ty := .int) (C := RX0) (T := TX0) (N := 4) hx hb hts inX0 tyX0 tyX0_ok nmX0 hown hK hP hD hS 0 rfl rfl 3 (by decide) (hts _ mw_208) (fun _ h9 => h9) rfl (by decide +kernel) rfl rfl (Nat.le_of_ble_eq_true rfl) dX0_init_21 (fun H locs hP hD hS => ?_)
  have hP : va_P (dC, dI) classes [(oc0 bb 0 0 0 0)] H := hP
  have hD : va_D A [(oc0 bb 0 0 0 0)] := hD
  have hP9 := hP.sub (ws' := [(oc0 bb 0 0 0 0)]) [0] rfl
  have hD9 := hD.sub (ws' := [(oc0 bb 0 0 0 0)]) [0] (by decide) rfl
  rw [hQ9]
  exact W.vret hx hb hr (fun t ht hW => ⟨⟨rfl, by rw [ht]; exact hP9, hD9⟩, hS.F ht⟩) hS.2.2 dX0_init_24
set_option maxHeartbeats 4000000 in
set_option maxRecDepth 100000 in
theorem k_Fraction_init (l : Launch) (dC : Nat → ClassId) (dI : Nat → Nat → Nat) (cI cZ cF : ClassId) (sz : Nat) (fr : Nat) : Met l yX3_init (.code yX3_init cX3_init 1 none :: ws0) ({ frames := 1, cells := 0, slots := 0, locals := 12 } : Room) (va_Pc [.ref fr] (zPre (dC, dI) classes (zTy cI cZ cF) [(oc2 fr 0 0)] sz zXN)) (zQ none (fun t => va_P (dC, dI) classes [(oc2 fr 0 0)] t.heap ∧ va_D (va_A [(oc2 fr 0 0)] sz) [(oc2 fr 0 0)]) (va_A [(oc2 fr 0 0)] sz)) 0 0 (va_A [(oc2 fr 0 0)] sz) := by
  refine Met.ofW (cc := cX3_init) (maxL := 1) (ret := none) (by decide) rfl ?_
  intro p e s m args below meth c s₁ B hml hv
  obtain ⟨rfl, hsz, hP, hK, hD0, hXN⟩ := hv
  have hx := B.exec
  have hb := B.bytes
  have hr := B.returns
  have hts0 := atoms_spec (ws := .code yX3_init cX3_init 1 none :: ws0) B.pre
  have hts : ∀ w9 ∈ ws0, w9.before ([.ref fr] : List Value).toArray s = true := fun w9 h => hts0 w9 (List.mem_cons_of_mem _ h)
  have hown : s.vm.findClass "ScaleShop$Fraction" = some m.cls := findClass_of_methodNamed B.named
  have hlocks := B.notSynchronized
  have hin : meth.name = "<init>" := (name_of_methodNamed B.named B.method).1
  subst hsz
  have hD := hD0.self (sz := s.heap.size)
  clear hD0
  generalize hAe : va_A [(oc2 fr 0 0)] s.heap.size = A at hD ⊢
  have hA : ∀ q : Nat, s.heap.size ≤ q → A q := fun q h => by rw [← hAe]; exact Or.inr h
  clear hAe
  have hS : va_S A s.heap s.heap [] := va_S.rf
  have hP : va_P (dC, dI) classes [(oc2 fr 0 0)] s.heap := hP
  obtain ⟨Q9, hQ9⟩ : ∃ Q9 : State → Prop, Q9 = MQ below (zQ none (fun t => va_P (dC, dI) classes [(oc2 fr 0 0)] t.heap ∧ va_D A [(oc2 fr 0 0)]) A) ([.ref fr] : List Value).toArray s 0 0 A := ⟨_, rfl⟩
  rw [← hQ9]
  have hl := lv_entry ([.ref fr]) (n := 1) (Nat.le_of_ble_eq_true rfl)
  rw [lg_entry_eq]
  generalize (lg_sl ([.ref fr]) ++ List.replicate (1 - (lg_sl ([.ref fr])).length) Slot.unset).toArray = ls at hl ⊢
  have hl : lv_has ls 1 [(0, .ref fr)] := hl
  refine lv_aload_n hx hb dX3_init_0 rfl (lv_at hl 0 rfl) ?_
  refine W.objInit hx hb hown (hts _ mw_272) (hts _ mw_126) (hts _ mw_objcode) rfl (by rw [hml]; exact hl.1) rfl dX3_init_1 (Nat.le_of_ble_eq_true rfl) (Nat.le_of_ble_eq_true rfl) ?_
  refine W.eq (g2 := F0 m 4 ls []) rfl ?_
  refine lv_aload_n hx hb dX3_init_4 rfl (lv_at hl 0 rfl) ?_
  refine lv_lconst (v := 0) hx hb dX3_init_5 (by decide) ?_
  refine va_put (D := (dC, dI)) (ci := 2) (v := .long 0) (ty := .long) (C := RX3) (T := TX3) (N := 2) hx hb hts inX3 tyX3 tyX3_ok nmX3 hown hK hP hD hS 0 rfl rfl 0 (by decide) (hts _ mw_273) (fun _ h9 => h9) rfl (by decide +kernel) rfl rfl (Nat.le_of_ble_eq_true rfl) dX3_init_6 (fun H locs hP hD hS => ?_)
  have hP : va_P (dC, dI) classes [(oc2 fr 0 0)] H := hP
  have hD : va_D A [(oc2 fr 0 0)] := hD
  refine lv_aload_n hx hb dX3_init_9 rfl (lv_at hl 0 rfl) ?_
  refine lv_lconst (v := 0) hx hb dX3_init_10 (by decide) ?_
  refine va_put (D := (dC, dI)) (ci := 2) (v := .long 0) (ty := .long) (C := RX3) (T := TX3) (N := 2) hx hb hts inX3 tyX3 tyX3_ok nmX3 hown hK hP hD hS 0 rfl rfl 1 (by decide) (hts _ mw_275) (fun _ h9 => h9) rfl (by decide +kernel) rfl rfl (Nat.le_of_ble_eq_true rfl) dX3_init_11 (fun H locs hP hD hS => ?_)
  have hP : va_P (dC, dI) classes [(oc2 fr 0 0)] H := hP
  have hD : va_D A [(oc2 fr 0 0)] := hD
  have hP9 := hP.sub (ws' := [(oc2 fr 0 0)]) [0] rfl
  have hD9 := hD.sub (ws' := [(oc2 fr 0 0)]) [0] (by decide) rfl
  rw [hQ9]
  exact W.vret hx hb hr (fun t ht hW => ⟨⟨rfl, by rw [ht]; exact hP9, hD9⟩, hS.F ht⟩) hS.2.2 dX3_init_14
set_option maxHeartbeats 4000000 in
set_option maxRecDepth 100000 in
theorem k_Law_init (l : Launch) (dC : Nat → ClassId) (dI : Nat → Nat → Nat) (cI cZ cF : ClassId) (sz : Nat) (lw : Nat) : Met l yX4_init (.code yX4_init cX4_init 1 none :: ws0) ({ frames := 2, cells := 12, slots := 150, locals := 36 } : Room) (va_Pc [.ref lw] (zPre (dC, dI) classes (zTy cI cZ cF) [(oc3 lw .null .null .null .null .null .null)] sz zXN)) (zQ none (fun t => ∃ (dr : Nat), ∃ (dx : Nat), ∃ (dy : Nat), ∃ (tg : Nat), ∃ (tx : Nat), ∃ (ty : Nat), ∃ (wy : Nat), ∃ (wx : Nat), ∃ (wz : Nat), ∃ (br : Nat), ∃ (bo : Nat), ∃ (aa : Nat), va_P (dC, dI) classes [(oc3 lw (.ref dr) (.ref tg) (.ref wy) (.ref br) (.ref bo) (.ref aa)), (oc6 dr (.ref dx) (.ref dy) (nI 0) 0), (oa dx cI 40 (fun _ => 0)), (oa dy cI 40 (fun _ => 0)), (oc6 tg (.ref tx) (.ref ty) (nI 0) 1), (oa tx cI 3 (fun _ => 0)), (oa ty cI 3 (fun _ => 0)), (oc6 wy (.ref wx) (.ref wz) (nI 0) 0), (oa wx cI 2 (fun _ => 0)), (oa wz cI 2 (fun _ => 0)), (oc0 br 0 0 0 0), (oc0 bo 0 0 0 0), (oa aa cI 40 (fun _ => 0))] t.heap ∧ va_D (va_A [(oc3 lw .null .null .null .null .null .null)] sz) [(oc3 lw (.ref dr) (.ref tg) (.ref wy) (.ref br) (.ref bo) (.ref aa)), (oc6 dr (.ref dx) (.ref dy) (nI 0) 0), (oa dx cI 40 (fun _ => 0)), (oa dy cI 40 (fun _ => 0)), (oc6 tg (.ref tx) (.ref ty) (nI 0) 1), (oa tx cI 3 (fun _ => 0)), (oa ty cI 3 (fun _ => 0)), (oc6 wy (.ref wx) (.ref wz) (nI 0) 0), (oa wx cI 2 (fun _ => 0)), (oa wz cI 2 (fun _ => 0)), (oc0 br 0 0 0 0), (oc0 bo 0 0 0 0), (oa aa cI 40 (fun _ => 0))]) (va_A [(oc3 lw .null .null .null .null .null .null)] sz)) 12 150 (va_A [(oc3 lw .null .null .null .null .null .null)] sz) := by
  refine Met.ofW (cc := cX4_init) (maxL := 1) (ret := none) (by decide) rfl ?_
  intro p e s m args below meth c s₁ B hml hv
  obtain ⟨rfl, hsz, hP, hK, hD0, hXN⟩ := hv
  have hx := B.exec
  have hb := B.bytes
  have hr := B.returns
  have hts0 := atoms_spec (ws := .code yX4_init cX4_init 1 none :: ws0) B.pre
  have hts : ∀ w9 ∈ ws0, w9.before ([.ref lw] : List Value).toArray s = true := fun w9 h => hts0 w9 (List.mem_cons_of_mem _ h)
  have hown : s.vm.findClass "ScaleShop$Law" = some m.cls := findClass_of_methodNamed B.named
  have hlocks := B.notSynchronized
  have hin : meth.name = "<init>" := (name_of_methodNamed B.named B.method).1
  subst hsz
  have hD := hD0.self (sz := s.heap.size)
  clear hD0
  generalize hAe : va_A [(oc3 lw .null .null .null .null .null .null)] s.heap.size = A at hD ⊢
  have hA : ∀ q : Nat, s.heap.size ≤ q → A q := fun q h => by rw [← hAe]; exact Or.inr h
  clear hAe
  have hS : va_S A s.heap s.heap [] := va_S.rf
  have hP : va_P (dC, dI) classes [(oc3 lw .null .null .null .null .null .null)] s.heap := hP
  obtain ⟨Q9, hQ9⟩ : ∃ Q9 : State → Prop, Q9 = MQ below (zQ none (fun t => ∃ (dr : Nat), ∃ (dx : Nat), ∃ (dy : Nat), ∃ (tg : Nat), ∃ (tx : Nat), ∃ (ty : Nat), ∃ (wy : Nat), ∃ (wx : Nat), ∃ (wz : Nat), ∃ (br : Nat), ∃ (bo : Nat), ∃ (aa : Nat), va_P (dC, dI) classes [(oc3 lw (.ref dr) (.ref tg) (.ref wy) (.ref br) (.ref bo) (.ref aa)), (oc6 dr (.ref dx) (.ref dy) (nI 0) 0), (oa dx cI 40 (fun _ => 0)), (oa dy cI 40 (fun _ => 0)), (oc6 tg (.ref tx) (.ref ty) (nI 0) 1), (oa tx cI 3 (fun _ => 0)), (oa ty cI 3 (fun _ => 0)), (oc6 wy (.ref wx) (.ref wz) (nI 0) 0), (oa wx cI 2 (fun _ => 0)), (oa wz cI 2 (fun _ => 0)), (oc0 br 0 0 0 0), (oc0 bo 0 0 0 0), (oa aa cI 40 (fun _ => 0))] t.heap ∧ va_D A [(oc3 lw (.ref dr) (.ref tg) (.ref wy) (.ref br) (.ref bo) (.ref aa)), (oc6 dr (.ref dx) (.ref dy) (nI 0) 0), (oa dx cI 40 (fun _ => 0)), (oa dy cI 40 (fun _ => 0)), (oc6 tg (.ref tx) (.ref ty) (nI 0) 1), (oa tx cI 3 (fun _ => 0)), (oa ty cI 3 (fun _ => 0)), (oc6 wy (.ref wx) (.ref wz) (nI 0) 0), (oa wx cI 2 (fun _ => 0)), (oa wz cI 2 (fun _ => 0)), (oc0 br 0 0 0 0), (oc0 bo 0 0 0 0), (oa aa cI 40 (fun _ => 0))]) A) ([.ref lw] : List Value).toArray s 12 150 A := ⟨_, rfl⟩
  rw [← hQ9]
  have hl := lv_entry ([.ref lw]) (n := 1) (Nat.le_of_ble_eq_true rfl)
  rw [lg_entry_eq]
  generalize (lg_sl ([.ref lw]) ++ List.replicate (1 - (lg_sl ([.ref lw])).length) Slot.unset).toArray = ls at hl ⊢
  have hl : lv_has ls 1 [(0, .ref lw)] := hl
  refine lv_aload_n hx hb dX4_init_0 rfl (lv_at hl 0 rfl) ?_
  refine W.objInit hx hb hown (hts _ mw_151) (hts _ mw_126) (hts _ mw_objcode) rfl (by rw [hml]; exact hl.1) rfl dX4_init_1 (Nat.le_of_ble_eq_true rfl) (Nat.le_of_ble_eq_true rfl) ?_
  refine W.eq (g2 := F0 m 4 ls []) rfl ?_
  refine lv_aload_n hx hb dX4_init_4 rfl (lv_at hl 0 rfl) ?_
  refine va_new (ci := 6) (fs := [.null, .null, .int 0, .int 0]) (C := RX7) (T := TX7) (N := 4) hx hb hts inX7 tyX7 tyX7_ok hown (hts _ mw_152) (hts _ mw_153) (hts _ mw_102) hK hP hD hS hA rfl dfX7 (show 1 ≤ 12 by omega) (show 4 ≤ 150 by omega) dX4_init_5 (fun dr H hP hD hS => ?_)
  have hP : va_P (dC, dI) classes [(oc3 lw .null .null .null .null .null .null), (oc6 dr .null .null 0 0)] H := hP
  have hD : va_D A [(oc3 lw .null .null .null .null .null .null), (oc6 dr .null .null 0 0)] := hD
  refine lv_dup hx hb dX4_init_8 rfl ?_
  refine lv_bipush (v := 40) hx hb dX4_init_9 (by decide) ?_
  refine lv_iconst (v := 0) hx hb dX4_init_11 (by decide) ?_
  have hPc := hP.sub (ws' := [(oc6 dr .null .null 0 0)]) [1] rfl
  have hDc := hD.sub (ws' := [(oc6 dr .null .null 0 0)]) [1] (by decide) rfl
  have hFc := va_free (wc := [(oc6 dr .null .null 0 0)]) hD hS hA [1] rfl
  refine zcall (st1 := [.ref dr, .ref lw]) (va_runI (As := [.int 40, .int 0]) (rest := [.ref dr, .ref lw]) ⟨hx, hb, hml, hown, hts⟩ (k_Row_init l dC dI cI cZ cF H.size dr 40 0 (by omega) (Or.inl rfl)) (cwI 2 hts (zz_gC mc_yX7_init) rfl rfl rfl (hts _ mw_102) (hts _ mw_154) (hts _ mw_155) rfl (by decide +kernel) ⟨Nat.le_of_ble_eq_true rfl, Nat.le_of_ble_eq_true rfl⟩) (zPS2 hPc hDc hK hXN) rfl rfl hl.1 rfl (lv_room (Nat.le_of_ble_eq_true rfl)) dX4_init_12 ⟨show (1 + 2) ≤ 12 by omega, show (4 + (2 * 40)) ≤ 150 by omega⟩) hS hFc hFc rfl (fun t H1 locs ht hB hk1 hS => ?_)
  obtain ⟨dx, dy, hP1, hD1⟩ := hB
  rw [ht] at hP1
  obtain ⟨hP, hD⟩ := va_join (wr := [(oc3 lw .null .null .null .null .null .null)]) (w1 := [(oc6 dr (.ref dx) (.ref dy) (nI 0) 0), (oa dx cI 40 (fun _ => 0)), (oa dy cI 40 (fun _ => 0))]) hP hD [1] [0] rfl rfl (by decide) (by decide) hk1 hFc hP1 hD1
  clear hk1 hPc hDc hFc hP1 hD1 ht
  generalize H1 = H at hP hS ⊢
  have hP : va_P (dC, dI) classes [(oc3 lw .null .null .null .null .null .null), (oc6 dr (.ref dx) (.ref dy) (nI 0) 0), (oa dx cI 40 (fun _ => 0)), (oa dy cI 40 (fun _ => 0))] H := hP
  have hD : va_D A [(oc3 lw .null .null .null .null .null .null), (oc6 dr (.ref dx) (.ref dy) (nI 0) 0), (oa dx cI 40 (fun _ => 0)), (oa dy cI 40 (fun _ => 0))] := hD
  refine va_putF (D := (dC, dI)) (ci := 3) (v := .ref dr) (ty := .object "ScaleShop$Row") (C := RX4) (T := TX4) (N := 6) hx hb hts inX4 tyX4 tyX4_ok nmX4 hown hK hP hD hS 0 rfl rfl 0 (by decide) (hts _ mw_219) (fun _ h9 => h9) rfl hin rfl (by decide +kernel) rfl rfl (Nat.le_of_ble_eq_true rfl) dX4_init_15 (fun H locs hP hD hS => ?_)
  have hP : va_P (dC, dI) classes [(oc3 lw (.ref dr) .null .null .null .null .null), (oc6 dr (.ref dx) (.ref dy) (nI 0) 0), (oa dx cI 40 (fun _ => 0)), (oa dy cI 40 (fun _ => 0))] H := hP
  have hD : va_D A [(oc3 lw (.ref dr) .null .null .null .null .null), (oc6 dr (.ref dx) (.ref dy) (nI 0) 0), (oa dx cI 40 (fun _ => 0)), (oa dy cI 40 (fun _ => 0))] := hD
  refine lv_aload_n hx hb dX4_init_18 rfl (lv_at hl 0 rfl) ?_
  refine va_new (ci := 6) (fs := [.null, .null, .int 0, .int 0]) (C := RX7) (T := TX7) (N := 4) hx hb hts inX7 tyX7 tyX7_ok hown (hts _ mw_152) (hts _ mw_153) (hts _ mw_102) hK hP hD hS hA rfl dfX7 (show ((1 + 2) + 1) ≤ 12 by omega) (show ((4 + (2 * 40)) + 4) ≤ 150 by omega) dX4_init_19 (fun tg H hP hD hS => ?_)
  have hP : va_P (dC, dI) classes [(oc3 lw (.ref dr) .null .null .null .null .null), (oc6 dr (.ref dx) (.ref dy) (nI 0) 0), (oa dx cI 40 (fun _ => 0)), (oa dy cI 40 (fun _ => 0)), (oc6 tg .null .null 0 0)] H := hP
  have hD : va_D A [(oc3 lw (.ref dr) .null .null .null .null .null), (oc6 dr (.ref dx) (.ref dy) (nI 0) 0), (oa dx cI 40 (fun _ => 0)), (oa dy cI 40 (fun _ => 0)), (oc6 tg .null .null 0 0)] := hD
  refine lv_dup hx hb dX4_init_22 rfl ?_
  refine lv_iconst (v := 3) hx hb dX4_init_23 (by decide) ?_
  refine lv_iconst (v := 1) hx hb dX4_init_24 (by decide) ?_
  have hPc := hP.sub (ws' := [(oc6 tg .null .null 0 0)]) [4] rfl
  have hDc := hD.sub (ws' := [(oc6 tg .null .null 0 0)]) [4] (by decide) rfl
  have hFc := va_free (wc := [(oc6 tg .null .null 0 0)]) hD hS hA [4] rfl
  refine zcall (st1 := [.ref tg, .ref lw]) (va_runI (As := [.int 3, .int 1]) (rest := [.ref tg, .ref lw]) ⟨hx, hb, hml, hown, hts⟩ (k_Row_init l dC dI cI cZ cF H.size tg 3 1 (by omega) (Or.inr rfl)) (cwI 2 hts (zz_gC mc_yX7_init) rfl rfl rfl (hts _ mw_102) (hts _ mw_154) (hts _ mw_155) rfl (by decide +kernel) ⟨Nat.le_of_ble_eq_true rfl, Nat.le_of_ble_eq_true rfl⟩) (zPS2 hPc hDc hK hXN) rfl rfl hl.1 rfl (lv_room (Nat.le_of_ble_eq_true rfl)) dX4_init_25 ⟨show (((1 + 2) + 1) + 2) ≤ 12 by omega, show (((4 + (2 * 40)) + 4) + (2 * 3)) ≤ 150 by omega⟩) hS hFc hFc rfl (fun t H1 locs ht hB hk1 hS => ?_)
  obtain ⟨tx, ty, hP1, hD1⟩ := hB
  rw [ht] at hP1
  obtain ⟨hP, hD⟩ := va_join (wr := [(oc3 lw (.ref dr) .null .null .null .null .null), (oc6 dr (.ref dx) (.ref dy) (nI 0) 0), (oa dx cI 40 (fun _ => 0)), (oa dy cI 40 (fun _ => 0))]) (w1 := [(oc6 tg (.ref tx) (.ref ty) (nI 0) 1), (oa tx cI 3 (fun _ => 0)), (oa ty cI 3 (fun _ => 0))]) hP hD [4] [0, 1, 2, 3] rfl rfl (by decide) (by decide) hk1 hFc hP1 hD1
  clear hk1 hPc hDc hFc hP1 hD1 ht
  generalize H1 = H at hP hS ⊢
  have hP : va_P (dC, dI) classes [(oc3 lw (.ref dr) .null .null .null .null .null), (oc6 dr (.ref dx) (.ref dy) (nI 0) 0), (oa dx cI 40 (fun _ => 0)), (oa dy cI 40 (fun _ => 0)), (oc6 tg (.ref tx) (.ref ty) (nI 0) 1), (oa tx cI 3 (fun _ => 0)), (oa ty cI 3 (fun _ => 0))] H := hP
  have hD : va_D A [(oc3 lw (.ref dr) .null .null .null .null .null), (oc6 dr (.ref dx) (.ref dy) (nI 0) 0), (oa dx cI 40 (fun _ => 0)), (oa dy cI 40 (fun _ => 0)), (oc6 tg (.ref tx) (.ref ty) (nI 0) 1), (oa tx cI 3 (fun _ => 0)), (oa ty cI 3 (fun _ => 0))] := hD
  refine va_putF (D := (dC, dI)) (ci := 3) (v := .ref tg) (ty := .object "ScaleShop$Row") (C := RX4) (T := TX4) (N := 6) hx hb hts inX4 tyX4 tyX4_ok nmX4 hown hK hP hD hS 0 rfl rfl 1 (by decide) (hts _ mw_221) (fun _ h9 => h9) rfl hin rfl (by decide +kernel) rfl rfl (Nat.le_of_ble_eq_true rfl) dX4_init_28 (fun H locs hP hD hS => ?_)
  have hP : va_P (dC, dI) classes [(oc3 lw (.ref dr) (.ref tg) .null .null .null .null), (oc6 dr (.ref dx) (.ref dy) (nI 0) 0), (oa dx cI 40 (fun _ => 0)), (oa dy cI 40 (fun _ => 0)), (oc6 tg (.ref tx) (.ref ty) (nI 0) 1), (oa tx cI 3 (fun _ => 0)), (oa ty cI 3 (fun _ => 0))] H := hP
  have hD : va_D A [(oc3 lw (.ref dr) (.ref tg) .null .null .null .null), (oc6 dr (.ref dx) (.ref dy) (nI 0) 0), (oa dx cI 40 (fun _ => 0)), (oa dy cI 40 (fun _ => 0)), (oc6 tg (.ref tx) (.ref ty) (nI 0) 1), (oa tx cI 3 (fun _ => 0)), (oa ty cI 3 (fun _ => 0))] := hD
  refine lv_aload_n hx hb dX4_init_31 rfl (lv_at hl 0 rfl) ?_
  refine va_new (ci := 6) (fs := [.null, .null, .int 0, .int 0]) (C := RX7) (T := TX7) (N := 4) hx hb hts inX7 tyX7 tyX7_ok hown (hts _ mw_152) (hts _ mw_153) (hts _ mw_102) hK hP hD hS hA rfl dfX7 (show ((((1 + 2) + 1) + 2) + 1) ≤ 12 by omega) (show ((((4 + (2 * 40)) + 4) + (2 * 3)) + 4) ≤ 150 by omega) dX4_init_32 (fun wy H hP hD hS => ?_)
  have hP : va_P (dC, dI) classes [(oc3 lw (.ref dr) (.ref tg) .null .null .null .null), (oc6 dr (.ref dx) (.ref dy) (nI 0) 0), (oa dx cI 40 (fun _ => 0)), (oa dy cI 40 (fun _ => 0)), (oc6 tg (.ref tx) (.ref ty) (nI 0) 1), (oa tx cI 3 (fun _ => 0)), (oa ty cI 3 (fun _ => 0)), (oc6 wy .null .null 0 0)] H := hP
  have hD : va_D A [(oc3 lw (.ref dr) (.ref tg) .null .null .null .null), (oc6 dr (.ref dx) (.ref dy) (nI 0) 0), (oa dx cI 40 (fun _ => 0)), (oa dy cI 40 (fun _ => 0)), (oc6 tg (.ref tx) (.ref ty) (nI 0) 1), (oa tx cI 3 (fun _ => 0)), (oa ty cI 3 (fun _ => 0)), (oc6 wy .null .null 0 0)] := hD
  refine lv_dup hx hb dX4_init_35 rfl ?_
  refine lv_iconst (v := 2) hx hb dX4_init_36 (by decide) ?_
  refine lv_iconst (v := 0) hx hb dX4_init_37 (by decide) ?_
  have hPc := hP.sub (ws' := [(oc6 wy .null .null 0 0)]) [7] rfl
  have hDc := hD.sub (ws' := [(oc6 wy .null .null 0 0)]) [7] (by decide) rfl
  have hFc := va_free (wc := [(oc6 wy .null .null 0 0)]) hD hS hA [7] rfl
  refine zcall (st1 := [.ref wy, .ref lw]) (va_runI (As := [.int 2, .int 0]) (rest := [.ref wy, .ref lw]) ⟨hx, hb, hml, hown, hts⟩ (k_Row_init l dC dI cI cZ cF H.size wy 2 0 (by omega) (Or.inl rfl)) (cwI 2 hts (zz_gC mc_yX7_init) rfl rfl rfl (hts _ mw_102) (hts _ mw_154) (hts _ mw_155) rfl (by decide +kernel) ⟨Nat.le_of_ble_eq_true rfl, Nat.le_of_ble_eq_true rfl⟩) (zPS2 hPc hDc hK hXN) rfl rfl hl.1 rfl (lv_room (Nat.le_of_ble_eq_true rfl)) dX4_init_38 ⟨show (((((1 + 2) + 1) + 2) + 1) + 2) ≤ 12 by omega, show (((((4 + (2 * 40)) + 4) + (2 * 3)) + 4) + (2 * 2)) ≤ 150 by omega⟩) hS hFc hFc rfl (fun t H1 locs ht hB hk1 hS => ?_)
  obtain ⟨wx, wz, hP1, hD1⟩ := hB
  rw [ht] at hP1
  obtain ⟨hP, hD⟩ := va_join (wr := [(oc3 lw (.ref dr) (.ref tg) .null .null .null .null), (oc6 dr (.ref dx) (.ref dy) (nI 0) 0), (oa dx cI 40 (fun _ => 0)), (oa dy cI 40 (fun _ => 0)), (oc6 tg (.ref tx) (.ref ty) (nI 0) 1), (oa tx cI 3 (fun _ => 0)), (oa ty cI 3 (fun _ => 0))]) (w1 := [(oc6 wy (.ref wx) (.ref wz) (nI 0) 0), (oa wx cI 2 (fun _ => 0)), (oa wz cI 2 (fun _ => 0))]) hP hD [7] [0, 1, 2, 3, 4, 5, 6] rfl rfl (by decide) (by decide) hk1 hFc hP1 hD1
  clear hk1 hPc hDc hFc hP1 hD1 ht
  generalize H1 = H at hP hS ⊢
  have hP : va_P (dC, dI) classes [(oc3 lw (.ref dr) (.ref tg) .null .null .null .null), (oc6 dr (.ref dx) (.ref dy) (nI 0) 0), (oa dx cI 40 (fun _ => 0)), (oa dy cI 40 (fun _ => 0)), (oc6 tg (.ref tx) (.ref ty) (nI 0) 1), (oa tx cI 3 (fun _ => 0)), (oa ty cI 3 (fun _ => 0)), (oc6 wy (.ref wx) (.ref wz) (nI 0) 0), (oa wx cI 2 (fun _ => 0)), (oa wz cI 2 (fun _ => 0))] H := hP
  have hD : va_D A [(oc3 lw (.ref dr) (.ref tg) .null .null .null .null), (oc6 dr (.ref dx) (.ref dy) (nI 0) 0), (oa dx cI 40 (fun _ => 0)), (oa dy cI 40 (fun _ => 0)), (oc6 tg (.ref tx) (.ref ty) (nI 0) 1), (oa tx cI 3 (fun _ => 0)), (oa ty cI 3 (fun _ => 0)), (oc6 wy (.ref wx) (.ref wz) (nI 0) 0), (oa wx cI 2 (fun _ => 0)), (oa wz cI 2 (fun _ => 0))] := hD
  refine va_putF (D := (dC, dI)) (ci := 3) (v := .ref wy) (ty := .object "ScaleShop$Row") (C := RX4) (T := TX4) (N := 6) hx hb hts inX4 tyX4 tyX4_ok nmX4 hown hK hP hD hS 0 rfl rfl 2 (by decide) (hts _ mw_222) (fun _ h9 => h9) rfl hin rfl (by decide +kernel) rfl rfl (Nat.le_of_ble_eq_true rfl) dX4_init_41 (fun H locs hP hD hS => ?_)
  have hP : va_P (dC, dI) classes [(oc3 lw (.ref dr) (.ref tg) (.ref wy) .null .null .null), (oc6 dr (.ref dx) (.ref dy) (nI 0) 0), (oa dx cI 40 (fun _ => 0)), (oa dy cI 40 (fun _ => 0)), (oc6 tg (.ref tx) (.ref ty) (nI 0) 1), (oa tx cI 3 (fun _ => 0)), (oa ty cI 3 (fun _ => 0)), (oc6 wy (.ref wx) (.ref wz) (nI 0) 0), (oa wx cI 2 (fun _ => 0)), (oa wz cI 2 (fun _ => 0))] H := hP
  have hD : va_D A [(oc3 lw (.ref dr) (.ref tg) (.ref wy) .null .null .null), (oc6 dr (.ref dx) (.ref dy) (nI 0) 0), (oa dx cI 40 (fun _ => 0)), (oa dy cI 40 (fun _ => 0)), (oc6 tg (.ref tx) (.ref ty) (nI 0) 1), (oa tx cI 3 (fun _ => 0)), (oa ty cI 3 (fun _ => 0)), (oc6 wy (.ref wx) (.ref wz) (nI 0) 0), (oa wx cI 2 (fun _ => 0)), (oa wz cI 2 (fun _ => 0))] := hD
  refine lv_aload_n hx hb dX4_init_44 rfl (lv_at hl 0 rfl) ?_
  refine va_new (ci := 0) (fs := [.int 0, .int 0, .int 0, .int 0]) (C := RX0) (T := TX0) (N := 4) hx hb hts inX0 tyX0 tyX0_ok hown (hts _ mw_196) (hts _ mw_197) (hts _ mw_104) hK hP hD hS hA rfl dfX0 (show ((((((1 + 2) + 1) + 2) + 1) + 2) + 1) ≤ 12 by omega) (show ((((((4 + (2 * 40)) + 4) + (2 * 3)) + 4) + (2 * 2)) + 4) ≤ 150 by omega) dX4_init_45 (fun br H hP hD hS => ?_)
  have hP : va_P (dC, dI) classes [(oc3 lw (.ref dr) (.ref tg) (.ref wy) .null .null .null), (oc6 dr (.ref dx) (.ref dy) (nI 0) 0), (oa dx cI 40 (fun _ => 0)), (oa dy cI 40 (fun _ => 0)), (oc6 tg (.ref tx) (.ref ty) (nI 0) 1), (oa tx cI 3 (fun _ => 0)), (oa ty cI 3 (fun _ => 0)), (oc6 wy (.ref wx) (.ref wz) (nI 0) 0), (oa wx cI 2 (fun _ => 0)), (oa wz cI 2 (fun _ => 0)), (oc0 br 0 0 0 0)] H := hP
  have hD : va_D A [(oc3 lw (.ref dr) (.ref tg) (.ref wy) .null .null .null), (oc6 dr (.ref dx) (.ref dy) (nI 0) 0), (oa dx cI 40 (fun _ => 0)), (oa dy cI 40 (fun _ => 0)), (oc6 tg (.ref tx) (.ref ty) (nI 0) 1), (oa tx cI 3 (fun _ => 0)), (oa ty cI 3 (fun _ => 0)), (oc6 wy (.ref wx) (.ref wz) (nI 0) 0), (oa wx cI 2 (fun _ => 0)), (oa wz cI 2 (fun _ => 0)), (oc0 br 0 0 0 0)] := hD
  refine lv_dup hx hb dX4_init_48 rfl ?_
  have hPc := hP.sub (ws' := [(oc0 br 0 0 0 0)]) [10] rfl
  have hDc := hD.sub (ws' := [(oc0 br 0 0 0 0)]) [10] (by decide) rfl
  have hFc := va_free (wc := [(oc0 br 0 0 0 0)]) hD hS hA [10] rfl
  refine zcall (st1 := [.ref br, .ref lw]) (va_runI (As := []) (rest := [.ref br, .ref lw]) ⟨hx, hb, hml, hown, hts⟩ (k_Box_init l dC dI cI cZ cF H.size br ) (cwI 0 hts (zz_gC mc_yX0_init) rfl rfl rfl (hts _ mw_104) (hts _ mw_198) (hts _ mw_199) rfl (by decide +kernel) ⟨Nat.le_of_ble_eq_true rfl, Nat.le_of_ble_eq_true rfl⟩) (zPS2 hPc hDc hK hXN) rfl rfl hl.1 rfl (lv_room (Nat.le_of_ble_eq_true rfl)) dX4_init_49 ⟨show ((((((1 + 2) + 1) + 2) + 1) + 2) + 1) ≤ 12 by omega, show ((((((4 + (2 * 40)) + 4) + (2 * 3)) + 4) + (2 * 2)) + 4) ≤ 150 by omega⟩) hS hFc hFc rfl (fun t H1 locs ht hB hk1 hS => ?_)
  obtain ⟨hP1, hD1⟩ := hB
  rw [ht] at hP1
  obtain ⟨hP, hD⟩ := va_join (wr := [(oc3 lw (.ref dr) (.ref tg) (.ref wy) .null .null .null), (oc6 dr (.ref dx) (.ref dy) (nI 0) 0), (oa dx cI 40 (fun _ => 0)), (oa dy cI 40 (fun _ => 0)), (oc6 tg (.ref tx) (.ref ty) (nI 0) 1), (oa tx cI 3 (fun _ => 0)), (oa ty cI 3 (fun _ => 0)), (oc6 wy (.ref wx) (.ref wz) (nI 0) 0), (oa wx cI 2 (fun _ => 0)), (oa wz cI 2 (fun _ => 0))]) (w1 := [(oc0 br 0 0 0 0)]) hP hD [10] [0, 1, 2, 3, 4, 5, 6, 7, 8, 9] rfl rfl (by decide) (by decide) hk1 hFc hP1 hD1
  clear hk1 hPc hDc hFc hP1 hD1 ht
  generalize H1 = H at hP hS ⊢
  have hP : va_P (dC, dI) classes [(oc3 lw (.ref dr) (.ref tg) (.ref wy) .null .null .null), (oc6 dr (.ref dx) (.ref dy) (nI 0) 0), (oa dx cI 40 (fun _ => 0)), (oa dy cI 40 (fun _ => 0)), (oc6 tg (.ref tx) (.ref ty) (nI 0) 1), (oa tx cI 3 (fun _ => 0)), (oa ty cI 3 (fun _ => 0)), (oc6 wy (.ref wx) (.ref wz) (nI 0) 0), (oa wx cI 2 (fun _ => 0)), (oa wz cI 2 (fun _ => 0)), (oc0 br 0 0 0 0)] H := hP
  have hD : va_D A [(oc3 lw (.ref dr) (.ref tg) (.ref wy) .null .null .null), (oc6 dr (.ref dx) (.ref dy) (nI 0) 0), (oa dx cI 40 (fun _ => 0)), (oa dy cI 40 (fun _ => 0)), (oc6 tg (.ref tx) (.ref ty) (nI 0) 1), (oa tx cI 3 (fun _ => 0)), (oa ty cI 3 (fun _ => 0)), (oc6 wy (.ref wx) (.ref wz) (nI 0) 0), (oa wx cI 2 (fun _ => 0)), (oa wz cI 2 (fun _ => 0)), (oc0 br 0 0 0 0)] := hD
  refine va_putF (D := (dC, dI)) (ci := 3) (v := .ref br) (ty := .object "ScaleShop$Box") (C := RX4) (T := TX4) (N := 6) hx hb hts inX4 tyX4 tyX4_ok nmX4 hown hK hP hD hS 0 rfl rfl 3 (by decide) (hts _ mw_223) (fun _ h9 => h9) rfl hin rfl (by decide +kernel) rfl rfl (Nat.le_of_ble_eq_true rfl) dX4_init_52 (fun H locs hP hD hS => ?_)
  have hP : va_P (dC, dI) classes [(oc3 lw (.ref dr) (.ref tg) (.ref wy) (.ref br) .null .null), (oc6 dr (.ref dx) (.ref dy) (nI 0) 0), (oa dx cI 40 (fun _ => 0)), (oa dy cI 40 (fun _ => 0)), (oc6 tg (.ref tx) (.ref ty) (nI 0) 1), (oa tx cI 3 (fun _ => 0)), (oa ty cI 3 (fun _ => 0)), (oc6 wy (.ref wx) (.ref wz) (nI 0) 0), (oa wx cI 2 (fun _ => 0)), (oa wz cI 2 (fun _ => 0)), (oc0 br 0 0 0 0)] H := hP
  have hD : va_D A [(oc3 lw (.ref dr) (.ref tg) (.ref wy) (.ref br) .null .null), (oc6 dr (.ref dx) (.ref dy) (nI 0) 0), (oa dx cI 40 (fun _ => 0)), (oa dy cI 40 (fun _ => 0)), (oc6 tg (.ref tx) (.ref ty) (nI 0) 1), (oa tx cI 3 (fun _ => 0)), (oa ty cI 3 (fun _ => 0)), (oc6 wy (.ref wx) (.ref wz) (nI 0) 0), (oa wx cI 2 (fun _ => 0)), (oa wz cI 2 (fun _ => 0)), (oc0 br 0 0 0 0)] := hD
  refine lv_aload_n hx hb dX4_init_55 rfl (lv_at hl 0 rfl) ?_
  refine va_new (ci := 0) (fs := [.int 0, .int 0, .int 0, .int 0]) (C := RX0) (T := TX0) (N := 4) hx hb hts inX0 tyX0 tyX0_ok hown (hts _ mw_196) (hts _ mw_197) (hts _ mw_104) hK hP hD hS hA rfl dfX0 (show (((((((1 + 2) + 1) + 2) + 1) + 2) + 1) + 1) ≤ 12 by omega) (show (((((((4 + (2 * 40)) + 4) + (2 * 3)) + 4) + (2 * 2)) + 4) + 4) ≤ 150 by omega) dX4_init_56 (fun bo H hP hD hS => ?_)
  have hP : va_P (dC, dI) classes [(oc3 lw (.ref dr) (.ref tg) (.ref wy) (.ref br) .null .null), (oc6 dr (.ref dx) (.ref dy) (nI 0) 0), (oa dx cI 40 (fun _ => 0)), (oa dy cI 40 (fun _ => 0)), (oc6 tg (.ref tx) (.ref ty) (nI 0) 1), (oa tx cI 3 (fun _ => 0)), (oa ty cI 3 (fun _ => 0)), (oc6 wy (.ref wx) (.ref wz) (nI 0) 0), (oa wx cI 2 (fun _ => 0)), (oa wz cI 2 (fun _ => 0)), (oc0 br 0 0 0 0), (oc0 bo 0 0 0 0)] H := hP
  have hD : va_D A [(oc3 lw (.ref dr) (.ref tg) (.ref wy) (.ref br) .null .null), (oc6 dr (.ref dx) (.ref dy) (nI 0) 0), (oa dx cI 40 (fun _ => 0)), (oa dy cI 40 (fun _ => 0)), (oc6 tg (.ref tx) (.ref ty) (nI 0) 1), (oa tx cI 3 (fun _ => 0)), (oa ty cI 3 (fun _ => 0)), (oc6 wy (.ref wx) (.ref wz) (nI 0) 0), (oa wx cI 2 (fun _ => 0)), (oa wz cI 2 (fun _ => 0)), (oc0 br 0 0 0 0), (oc0 bo 0 0 0 0)] := hD
  refine lv_dup hx hb dX4_init_59 rfl ?_
  have hPc := hP.sub (ws' := [(oc0 bo 0 0 0 0)]) [11] rfl
  have hDc := hD.sub (ws' := [(oc0 bo 0 0 0 0)]) [11] (by decide) rfl
  have hFc := va_free (wc := [(oc0 bo 0 0 0 0)]) hD hS hA [11] rfl
  refine zcall (st1 := [.ref bo, .ref lw]) (va_runI (As := []) (rest := [.ref bo, .ref lw]) ⟨hx, hb, hml, hown, hts⟩ (k_Box_init l dC dI cI cZ cF H.size bo ) (cwI 0 hts (zz_gC mc_yX0_init) rfl rfl rfl (hts _ mw_104) (hts _ mw_198) (hts _ mw_199) rfl (by decide +kernel) ⟨Nat.le_of_ble_eq_true rfl, Nat.le_of_ble_eq_true rfl⟩) (zPS2 hPc hDc hK hXN) rfl rfl hl.1 rfl (lv_room (Nat.le_of_ble_eq_true rfl)) dX4_init_60 ⟨show (((((((1 + 2) + 1) + 2) + 1) + 2) + 1) + 1) ≤ 12 by omega, show (((((((4 + (2 * 40)) + 4) + (2 * 3)) + 4) + (2 * 2)) + 4) + 4) ≤ 150 by omega⟩) hS hFc hFc rfl (fun t H1 locs ht hB hk1 hS => ?_)
  obtain ⟨hP1, hD1⟩ := hB
  rw [ht] at hP1
  obtain ⟨hP, hD⟩ := va_join (wr := [(oc3 lw (.ref dr) (.ref tg) (.ref wy) (.ref br) .null .null), (oc6 dr (.ref dx) (.ref dy) (nI 0) 0), (oa dx cI 40 (fun _ => 0)), (oa dy cI 40 (fun _ => 0)), (oc6 tg (.ref tx) (.ref ty) (nI 0) 1), (oa tx cI 3 (fun _ => 0)), (oa ty cI 3 (fun _ => 0)), (oc6 wy (.ref wx) (.ref wz) (nI 0) 0), (oa wx cI 2 (fun _ => 0)), (oa wz cI 2 (fun _ => 0)), (oc0 br 0 0 0 0)]) (w1 := [(oc0 bo 0 0 0 0)]) hP hD [11] [0, 1, 2, 3, 4, 5, 6, 7, 8, 9, 10] rfl rfl (by decide) (by decide) hk1 hFc hP1 hD1
  clear hk1 hPc hDc hFc hP1 hD1 ht
  generalize H1 = H at hP hS ⊢
  have hP : va_P (dC, dI) classes [(oc3 lw (.ref dr) (.ref tg) (.ref wy) (.ref br) .null .null), (oc6 dr (.ref dx) (.ref dy) (nI 0) 0), (oa dx cI 40 (fun _ => 0)), (oa dy cI 40 (fun _ => 0)), (oc6 tg (.ref tx) (.ref ty) (nI 0) 1), (oa tx cI 3 (fun _ => 0)), (oa ty cI 3 (fun _ => 0)), (oc6 wy (.ref wx) (.ref wz) (nI 0) 0), (oa wx cI 2 (fun _ => 0)), (oa wz cI 2 (fun _ => 0)), (oc0 br 0 0 0 0), (oc0 bo 0 0 0 0)] H := hP
  have hD : va_D A [(oc3 lw (.ref dr) (.ref tg) (.ref wy) (.ref br) .null .null), (oc6 dr (.ref dx) (.ref dy) (nI 0) 0), (oa dx cI 40 (fun _ => 0)), (oa dy cI 40 (fun _ => 0)), (oc6 tg (.ref tx) (.ref ty) (nI 0) 1), (oa tx cI 3 (fun _ => 0)), (oa ty cI 3 (fun _ => 0)), (oc6 wy (.ref wx) (.ref wz) (nI 0) 0), (oa wx cI 2 (fun _ => 0)), (oa wz cI 2 (fun _ => 0)), (oc0 br 0 0 0 0), (oc0 bo 0 0 0 0)] := hD
  refine va_putF (D := (dC, dI)) (ci := 3) (v := .ref bo) (ty := .object "ScaleShop$Box") (C := RX4) (T := TX4) (N := 6) hx hb hts inX4 tyX4 tyX4_ok nmX4 hown hK hP hD hS 0 rfl rfl 4 (by decide) (hts _ mw_224) (fun _ h9 => h9) rfl hin rfl (by decide +kernel) rfl rfl (Nat.le_of_ble_eq_true rfl) dX4_init_63 (fun H locs hP hD hS => ?_)
  have hP : va_P (dC, dI) classes [(oc3 lw (.ref dr) (.ref tg) (.ref wy) (.ref br) (.ref bo) .null), (oc6 dr (.ref dx) (.ref dy) (nI 0) 0), (oa dx cI 40 (fun _ => 0)), (oa dy cI 40 (fun _ => 0)), (oc6 tg (.ref tx) (.ref ty) (nI 0) 1), (oa tx cI 3 (fun _ => 0)), (oa ty cI 3 (fun _ => 0)), (oc6 wy (.ref wx) (.ref wz) (nI 0) 0), (oa wx cI 2 (fun _ => 0)), (oa wz cI 2 (fun _ => 0)), (oc0 br 0 0 0 0), (oc0 bo 0 0 0 0)] H := hP
  have hD : va_D A [(oc3 lw (.ref dr) (.ref tg) (.ref wy) (.ref br) (.ref bo) .null), (oc6 dr (.ref dx) (.ref dy) (nI 0) 0), (oa dx cI 40 (fun _ => 0)), (oa dy cI 40 (fun _ => 0)), (oc6 tg (.ref tx) (.ref ty) (nI 0) 1), (oa tx cI 3 (fun _ => 0)), (oa ty cI 3 (fun _ => 0)), (oc6 wy (.ref wx) (.ref wz) (nI 0) 0), (oa wx cI 2 (fun _ => 0)), (oa wz cI 2 (fun _ => 0)), (oc0 br 0 0 0 0), (oc0 bo 0 0 0 0)] := hD
  refine lv_aload_n hx hb dX4_init_66 rfl (lv_at hl 0 rfl) ?_
  refine lv_bipush (v := 40) hx hb dX4_init_67 (by decide) ?_
  refine zz_newa (atype := .int) (a0 := (40, .inl (fun _ => 0))) hx hb (hts _ mw_195) (ty := .int) rfl hK hP hD hS hA (n := nI 40) (N' := 40) (cA := cI) 0 rfl (fun _ => rfl) (nI_pos (by omega)) (nI_clamp (by omega)) (show 40 * 4 ≤ 536870912 by omega) (show ((((((((1 + 2) + 1) + 2) + 1) + 2) + 1) + 1) + 1) ≤ 12 by omega) (show ((((((((4 + (2 * 40)) + 4) + (2 * 3)) + 4) + (2 * 2)) + 4) + 4) + 40) ≤ 150 by omega) dX4_init_69 (fun aa H hP hD hS => ?_)
  have hP : va_P (dC, dI) classes [(oc3 lw (.ref dr) (.ref tg) (.ref wy) (.ref br) (.ref bo) .null), (oc6 dr (.ref dx) (.ref dy) (nI 0) 0), (oa dx cI 40 (fun _ => 0)), (oa dy cI 40 (fun _ => 0)), (oc6 tg (.ref tx) (.ref ty) (nI 0) 1), (oa tx cI 3 (fun _ => 0)), (oa ty cI 3 (fun _ => 0)), (oc6 wy (.ref wx) (.ref wz) (nI 0) 0), (oa wx cI 2 (fun _ => 0)), (oa wz cI 2 (fun _ => 0)), (oc0 br 0 0 0 0), (oc0 bo 0 0 0 0), (oa aa cI 40 (fun _ => 0))] H := hP
  have hD : va_D A [(oc3 lw (.ref dr) (.ref tg) (.ref wy) (.ref br) (.ref bo) .null), (oc6 dr (.ref dx) (.ref dy) (nI 0) 0), (oa dx cI 40 (fun _ => 0)), (oa dy cI 40 (fun _ => 0)), (oc6 tg (.ref tx) (.ref ty) (nI 0) 1), (oa tx cI 3 (fun _ => 0)), (oa ty cI 3 (fun _ => 0)), (oc6 wy (.ref wx) (.ref wz) (nI 0) 0), (oa wx cI 2 (fun _ => 0)), (oa wz cI 2 (fun _ => 0)), (oc0 br 0 0 0 0), (oc0 bo 0 0 0 0), (oa aa cI 40 (fun _ => 0))] := hD
  refine va_putF (D := (dC, dI)) (ci := 3) (v := .ref aa) (ty := .array .int) (C := RX4) (T := TX4) (N := 6) hx hb hts inX4 tyX4 tyX4_ok nmX4 hown hK hP hD hS 0 rfl rfl 5 (by decide) (hts _ mw_225) (fun _ h9 => h9) rfl hin rfl (by decide +kernel) rfl rfl (Nat.le_of_ble_eq_true rfl) dX4_init_71 (fun H locs hP hD hS => ?_)
  have hP : va_P (dC, dI) classes [(oc3 lw (.ref dr) (.ref tg) (.ref wy) (.ref br) (.ref bo) (.ref aa)), (oc6 dr (.ref dx) (.ref dy) (nI 0) 0), (oa dx cI 40 (fun _ => 0)), (oa dy cI 40 (fun _ => 0)), (oc6 tg (.ref tx) (.ref ty) (nI 0) 1), (oa tx cI 3 (fun _ => 0)), (oa ty cI 3 (fun _ => 0)), (oc6 wy (.ref wx) (.ref wz) (nI 0) 0), (oa wx cI 2 (fun _ => 0)), (oa wz cI 2 (fun _ => 0)), (oc0 br 0 0 0 0), (oc0 bo 0 0 0 0), (oa aa cI 40 (fun _ => 0))] H := hP
  have hD : va_D A [(oc3 lw (.ref dr) (.ref tg) (.ref wy) (.ref br) (.ref bo) (.ref aa)), (oc6 dr (.ref dx) (.ref dy) (nI 0) 0), (oa dx cI 40 (fun _ => 0)), (oa dy cI 40 (fun _ => 0)), (oc6 tg (.ref tx) (.ref ty) (nI 0) 1), (oa tx cI 3 (fun _ => 0)), (oa ty cI 3 (fun _ => 0)), (oc6 wy (.ref wx) (.ref wz) (nI 0) 0), (oa wx cI 2 (fun _ => 0)), (oa wz cI 2 (fun _ => 0)), (oc0 br 0 0 0 0), (oc0 bo 0 0 0 0), (oa aa cI 40 (fun _ => 0))] := hD
  have hP9 := hP.sub (ws' := [(oc3 lw (.ref dr) (.ref tg) (.ref wy) (.ref br) (.ref bo) (.ref aa)), (oc6 dr (.ref dx) (.ref dy) (nI 0) 0), (oa dx cI 40 (fun _ => 0)), (oa dy cI 40 (fun _ => 0)), (oc6 tg (.ref tx) (.ref ty) (nI 0) 1), (oa tx cI 3 (fun _ => 0)), (oa ty cI 3 (fun _ => 0)), (oc6 wy (.ref wx) (.ref wz) (nI 0) 0), (oa wx cI 2 (fun _ => 0)), (oa wz cI 2 (fun _ => 0)), (oc0 br 0 0 0 0), (oc0 bo 0 0 0 0), (oa aa cI 40 (fun _ => 0))]) [0, 1, 2, 3, 4, 5, 6, 7, 8, 9, 10, 11, 12] rfl
  have hD9 := hD.sub (ws' := [(oc3 lw (.ref dr) (.ref tg) (.ref wy) (.ref br) (.ref bo) (.ref aa)), (oc6 dr (.ref dx) (.ref dy) (nI 0) 0), (oa dx cI 40 (fun _ => 0)), (oa dy cI 40 (fun _ => 0)), (oc6 tg (.ref tx) (.ref ty) (nI 0) 1), (oa tx cI 3 (fun _ => 0)), (oa ty cI 3 (fun _ => 0)), (oc6 wy (.ref wx) (.ref wz) (nI 0) 0), (oa wx cI 2 (fun _ => 0)), (oa wz cI 2 (fun _ => 0)), (oc0 br 0 0 0 0), (oc0 bo 0 0 0 0), (oa aa cI 40 (fun _ => 0))]) [0, 1, 2, 3, 4, 5, 6, 7, 8, 9, 10, 11, 12] (by decide) rfl
  refine W.widen (k := 12) (n := 150) (by omega) (by omega) ?_
  rw [hQ9]
  exact W.vret hx hb hr (fun t ht hW => ⟨⟨rfl, dr, dx, dy, tg, tx, ty, wy, wx, wz, br, bo, aa, by rw [ht]; exact hP9, hD9⟩, hS.F ht⟩) hS.2.2 dX4_init_74
set_option maxHeartbeats 4000000 in
set_option maxRecDepth 100000 in
theorem k_Sheet_init (l : Launch) (dC : Nat → ClassId) (dI : Nat → Nat → Nat) (cI cZ cF : ClassId) (sz : Nat) (sh : Nat) : Met l yX8_init (.code yX8_init cX8_init 1 none :: ws0) ({ frames := 1, cells := 1, slots := 200, locals := 12 } : Room) (va_Pc [.ref sh] (zPre (dC, dI) classes (zTy cI cZ cF) [(oc7 sh .null 0)] sz zXN)) (zQ none (fun t => ∃ (fa : Nat), va_P (dC, dI) classes [(oc7 sh (.ref fa) (nI 0)), (oq fa cF 200 (fun _ => none))] t.heap ∧ va_D (va_A [(oc7 sh .null 0)] sz) [(oc7 sh (.ref fa) (nI 0)), (oq fa cF 200 (fun _ => none))]) (va_A [(oc7 sh .null 0)] sz)) 1 200 (va_A [(oc7 sh .null 0)] sz) := by
  refine Met.ofW (cc := cX8_init) (maxL := 1) (ret := none) (by decide) rfl ?_
  intro p e s m args below meth c s₁ B hml hv
  obtain ⟨rfl, hsz, hP, hK, hD0, hXN⟩ := hv
  have hx := B.exec
  have hb := B.bytes
  have hr := B.returns
  have hts0 := atoms_spec (ws := .code yX8_init cX8_init 1 none :: ws0) B.pre
  have hts : ∀ w9 ∈ ws0, w9.before ([.ref sh] : List Value).toArray s = true := fun w9 h => hts0 w9 (List.mem_cons_of_mem _ h)
  have hown : s.vm.findClass "ScaleShop$Sheet" = some m.cls := findClass_of_methodNamed B.named
  have hlocks := B.notSynchronized
  have hin : meth.name = "<init>" := (name_of_methodNamed B.named B.method).1
  subst hsz
  have hD := hD0.self (sz := s.heap.size)
  clear hD0
  generalize hAe : va_A [(oc7 sh .null 0)] s.heap.size = A at hD ⊢
  have hA : ∀ q : Nat, s.heap.size ≤ q → A q := fun q h => by rw [← hAe]; exact Or.inr h
  clear hAe
  have hS : va_S A s.heap s.heap [] := va_S.rf
  have hP : va_P (dC, dI) classes [(oc7 sh .null 0)] s.heap := hP
  obtain ⟨Q9, hQ9⟩ : ∃ Q9 : State → Prop, Q9 = MQ below (zQ none (fun t => ∃ (fa : Nat), va_P (dC, dI) classes [(oc7 sh (.ref fa) (nI 0)), (oq fa cF 200 (fun _ => none))] t.heap ∧ va_D A [(oc7 sh (.ref fa) (nI 0)), (oq fa cF 200 (fun _ => none))]) A) ([.ref sh] : List Value).toArray s 1 200 A := ⟨_, rfl⟩
  rw [← hQ9]
  have hl := lv_entry ([.ref sh]) (n := 1) (Nat.le_of_ble_eq_true rfl)
  rw [lg_entry_eq]
  generalize (lg_sl ([.ref sh]) ++ List.replicate (1 - (lg_sl ([.ref sh])).length) Slot.unset).toArray = ls at hl ⊢
  have hl : lv_has ls 1 [(0, .ref sh)] := hl
  refine lv_aload_n hx hb dX8_init_0 rfl (lv_at hl 0 rfl) ?_
  refine W.objInit hx hb hown (hts _ mw_133) (hts _ mw_126) (hts _ mw_objcode) rfl (by rw [hml]; exact hl.1) rfl dX8_init_1 (Nat.le_of_ble_eq_true rfl) (Nat.le_of_ble_eq_true rfl) ?_
  refine W.eq (g2 := F0 m 4 ls []) rfl ?_
  refine lv_aload_n hx hb dX8_init_4 rfl (lv_at hl 0 rfl) ?_
  refine lv_sipush (v := 200) hx hb dX8_init_5 (by decide) ?_
  refine z_newq (C := "ScaleShop$Feature") hx hb hown (hts _ mw_134) hXN.2.2.1 hK hP hD hS hA (n := nI 200) (N' := 200) (cA := cF) 2 rfl (nI_pos (by omega)) (nI_clamp (by omega)) (show 200 * 4 ≤ 536870912 by omega) (Nat.le_of_ble_eq_true rfl) (Nat.le_of_ble_eq_true rfl) dX8_init_8 (fun fa H hP hD hS => ?_)
  have hP : va_P (dC, dI) classes [(oc7 sh .null 0), (oq fa cF 200 (fun _ => none))] H := hP
  have hD : va_D A [(oc7 sh .null 0), (oq fa cF 200 (fun _ => none))] := hD
  refine va_putF (D := (dC, dI)) (ci := 7) (v := .ref fa) (ty := .array (.object "ScaleShop$Feature")) (C := RX8) (T := TX8) (N := 2) hx hb hts inX8 tyX8 tyX8_ok nmX8 hown hK hP hD hS 0 rfl rfl 0 (by decide) (hts _ mw_136) (fun _ h9 => h9) rfl hin rfl (by decide +kernel) rfl rfl (Nat.le_of_ble_eq_true rfl) dX8_init_11 (fun H locs hP hD hS => ?_)
  have hP : va_P (dC, dI) classes [(oc7 sh (.ref fa) 0), (oq fa cF 200 (fun _ => none))] H := hP
  have hD : va_D A [(oc7 sh (.ref fa) 0), (oq fa cF 200 (fun _ => none))] := hD
  refine lv_aload_n hx hb dX8_init_14 rfl (lv_at hl 0 rfl) ?_
  refine lv_iconst (v := 0) hx hb dX8_init_15 (by decide) ?_
  refine va_put (D := (dC, dI)) (ci := 7) (v := .int 0) (ty := .int) (C := RX8) (T := TX8) (N := 2) hx hb hts inX8 tyX8 tyX8_ok nmX8 hown hK hP hD hS 0 rfl rfl 1 (by decide) (hts _ mw_137) (fun _ h9 => h9) rfl (by decide +kernel) rfl rfl (Nat.le_of_ble_eq_true rfl) dX8_init_16 (fun H locs hP hD hS => ?_)
  have hP : va_P (dC, dI) classes [(oc7 sh (.ref fa) 0), (oq fa cF 200 (fun _ => none))] H := hP
  have hD : va_D A [(oc7 sh (.ref fa) 0), (oq fa cF 200 (fun _ => none))] := hD
  have hP9 := hP.sub (ws' := [(oc7 sh (.ref fa) 0), (oq fa cF 200 (fun _ => none))]) [0, 1] rfl
  have hD9 := hD.sub (ws' := [(oc7 sh (.ref fa) 0), (oq fa cF 200 (fun _ => none))]) [0, 1] (by decide) rfl
  have hE9 : ([(oc7 sh (.ref fa) 0), (oq fa cF 200 (fun _ => none))] : va_W) = [(oc7 sh (.ref fa) (nI 0)), (oq fa cF 200 (fun _ => none))] := by rfl
  rw [hE9] at hP9 hD9
  refine W.widen (k := 1) (n := 200) (by decide) (by decide) ?_
  rw [hQ9]
  exact W.vret hx hb hr (fun t ht hW => ⟨⟨rfl, fa, by rw [ht]; exact hP9, hD9⟩, hS.F ht⟩) hS.2.2 dX8_init_19
set_option maxHeartbeats 4000000 in
set_option maxRecDepth 100000 in
theorem k_Roads_init (l : Launch) (dC : Nat → ClassId) (dI : Nat → Nat → Nat) (cI cZ cF : ClassId) (sz : Nat) (ro : Nat) : Met l yX6_init (.code yX6_init cX6_init 1 none :: ws0) ({ frames := 1, cells := 5, slots := 1600, locals := 12 } : Room) (va_Pc [.ref ro] (zPre (dC, dI) classes (zTy cI cZ cF) [(oc5 ro .null .null .null .null .null 0)] sz zXN)) (zQ none (fun t => ∃ (za : Nat), ∃ (zw : Nat), ∃ (zx : Nat), ∃ (zy : Nat), ∃ (zg : Nat), va_P (dC, dI) classes [(oc5 ro (.ref za) (.ref zw) (.ref zx) (.ref zy) (.ref zg) 0), (oq za cF 200 (fun _ => none)), (oa zw cI 200 (fun _ => 0)), (oa zx cI 400 (fun _ => 0)), (oa zy cI 400 (fun _ => 0)), (oa zg cI 400 (fun _ => 0))] t.heap ∧ va_D (va_A [(oc5 ro .null .null .null .null .null 0)] sz) [(oc5 ro (.ref za) (.ref zw) (.ref zx) (.ref zy) (.ref zg) 0), (oq za cF 200 (fun _ => none)), (oa zw cI 200 (fun _ => 0)), (oa zx cI 400 (fun _ => 0)), (oa zy cI 400 (fun _ => 0)), (oa zg cI 400 (fun _ => 0))]) (va_A [(oc5 ro .null .null .null .null .null 0)] sz)) 5 1600 (va_A [(oc5 ro .null .null .null .null .null 0)] sz) := by
  refine Met.ofW (cc := cX6_init) (maxL := 1) (ret := none) (by decide) rfl ?_
  intro p e s m args below meth c s₁ B hml hv
  obtain ⟨rfl, hsz, hP, hK, hD0, hXN⟩ := hv
  have hx := B.exec
  have hb := B.bytes
  have hr := B.returns
  have hts0 := atoms_spec (ws := .code yX6_init cX6_init 1 none :: ws0) B.pre
  have hts : ∀ w9 ∈ ws0, w9.before ([.ref ro] : List Value).toArray s = true := fun w9 h => hts0 w9 (List.mem_cons_of_mem _ h)
  have hown : s.vm.findClass "ScaleShop$Roads" = some m.cls := findClass_of_methodNamed B.named
  have hlocks := B.notSynchronized
  have hin : meth.name = "<init>" := (name_of_methodNamed B.named B.method).1
  subst hsz
  have hD := hD0.self (sz := s.heap.size)
  clear hD0
  generalize hAe : va_A [(oc5 ro .null .null .null .null .null 0)] s.heap.size = A at hD ⊢
  have hA : ∀ q : Nat, s.heap.size ≤ q → A q := fun q h => by rw [← hAe]; exact Or.inr h
  clear hAe
  have hS : va_S A s.heap s.heap [] := va_S.rf
  have hP : va_P (dC, dI) classes [(oc5 ro .null .null .null .null .null 0)] s.heap := hP
  obtain ⟨Q9, hQ9⟩ : ∃ Q9 : State → Prop, Q9 = MQ below (zQ none (fun t => ∃ (za : Nat), ∃ (zw : Nat), ∃ (zx : Nat), ∃ (zy : Nat), ∃ (zg : Nat), va_P (dC, dI) classes [(oc5 ro (.ref za) (.ref zw) (.ref zx) (.ref zy) (.ref zg) 0), (oq za cF 200 (fun _ => none)), (oa zw cI 200 (fun _ => 0)), (oa zx cI 400 (fun _ => 0)), (oa zy cI 400 (fun _ => 0)), (oa zg cI 400 (fun _ => 0))] t.heap ∧ va_D A [(oc5 ro (.ref za) (.ref zw) (.ref zx) (.ref zy) (.ref zg) 0), (oq za cF 200 (fun _ => none)), (oa zw cI 200 (fun _ => 0)), (oa zx cI 400 (fun _ => 0)), (oa zy cI 400 (fun _ => 0)), (oa zg cI 400 (fun _ => 0))]) A) ([.ref ro] : List Value).toArray s 5 1600 A := ⟨_, rfl⟩
  rw [← hQ9]
  have hl := lv_entry ([.ref ro]) (n := 1) (Nat.le_of_ble_eq_true rfl)
  rw [lg_entry_eq]
  generalize (lg_sl ([.ref ro]) ++ List.replicate (1 - (lg_sl ([.ref ro])).length) Slot.unset).toArray = ls at hl ⊢
  have hl : lv_has ls 1 [(0, .ref ro)] := hl
  refine lv_aload_n hx hb dX6_init_0 rfl (lv_at hl 0 rfl) ?_
  refine W.objInit hx hb hown (hts _ mw_244) (hts _ mw_126) (hts _ mw_objcode) rfl (by rw [hml]; exact hl.1) rfl dX6_init_1 (Nat.le_of_ble_eq_true rfl) (Nat.le_of_ble_eq_true rfl) ?_
  refine W.eq (g2 := F0 m 4 ls []) rfl ?_
  refine lv_aload_n hx hb dX6_init_4 rfl (lv_at hl 0 rfl) ?_
  refine lv_sipush (v := 200) hx hb dX6_init_5 (by decide) ?_
  refine z_newq (C := "ScaleShop$Feature") hx hb hown (hts _ mw_245) hXN.2.2.1 hK hP hD hS hA (n := nI 200) (N' := 200) (cA := cF) 2 rfl (nI_pos (by omega)) (nI_clamp (by omega)) (show 200 * 4 ≤ 536870912 by omega) (Nat.le_of_ble_eq_true rfl) (Nat.le_of_ble_eq_true rfl) dX6_init_8 (fun za H hP hD hS => ?_)
  have hP : va_P (dC, dI) classes [(oc5 ro .null .null .null .null .null 0), (oq za cF 200 (fun _ => none))] H := hP
  have hD : va_D A [(oc5 ro .null .null .null .null .null 0), (oq za cF 200 (fun _ => none))] := hD
  refine va_putF (D := (dC, dI)) (ci := 5) (v := .ref za) (ty := .array (.object "ScaleShop$Feature")) (C := RX6) (T := TX6) (N := 6) hx hb hts inX6 tyX6 tyX6_ok nmX6 hown hK hP hD hS 0 rfl rfl 0 (by decide) (hts _ mw_246) (fun _ h9 => h9) rfl hin rfl (by decide +kernel) rfl rfl (Nat.le_of_ble_eq_true rfl) dX6_init_11 (fun H locs hP hD hS => ?_)
  have hP : va_P (dC, dI) classes [(oc5 ro (.ref za) .null .null .null .null 0), (oq za cF 200 (fun _ => none))] H := hP
  have hD : va_D A [(oc5 ro (.ref za) .null .null .null .null 0), (oq za cF 200 (fun _ => none))] := hD
  refine lv_aload_n hx hb dX6_init_14 rfl (lv_at hl 0 rfl) ?_
  refine lv_sipush (v := 200) hx hb dX6_init_15 (by decide) ?_
  refine zz_newa (atype := .int) (a0 := (200, .inl (fun _ => 0))) hx hb (hts _ mw_195) (ty := .int) rfl hK hP hD hS hA (n := nI 200) (N' := 200) (cA := cI) 0 rfl (fun _ => rfl) (nI_pos (by omega)) (nI_clamp (by omega)) (show 200 * 4 ≤ 536870912 by omega) (Nat.le_of_ble_eq_true rfl) (Nat.le_of_ble_eq_true rfl) dX6_init_18 (fun zw H hP hD hS => ?_)
  have hP : va_P (dC, dI) classes [(oc5 ro (.ref za) .null .null .null .null 0), (oq za cF 200 (fun _ => none)), (oa zw cI 200 (fun _ => 0))] H := hP
  have hD : va_D A [(oc5 ro (.ref za) .null .null .null .null 0), (oq za cF 200 (fun _ => none)), (oa zw cI 200 (fun _ => 0))] := hD
  refine va_putF (D := (dC, dI)) (ci := 5) (v := .ref zw) (ty := .array .int) (C := RX6) (T := TX6) (N := 6) hx hb hts inX6 tyX6 tyX6_ok nmX6 hown hK hP hD hS 0 rfl rfl 1 (by decide) (hts _ mw_247) (fun _ h9 => h9) rfl hin rfl (by decide +kernel) rfl rfl (Nat.le_of_ble_eq_true rfl) dX6_init_20 (fun H locs hP hD hS => ?_)
  have hP : va_P (dC, dI) classes [(oc5 ro (.ref za) (.ref zw) .null .null .null 0), (oq za cF 200 (fun _ => none)), (oa zw cI 200 (fun _ => 0))] H := hP
  have hD : va_D A [(oc5 ro (.ref za) (.ref zw) .null .null .null 0), (oq za cF 200 (fun _ => none)), (oa zw cI 200 (fun _ => 0))] := hD
  refine lv_aload_n hx hb dX6_init_23 rfl (lv_at hl 0 rfl) ?_
  refine lv_sipush (v := 400) hx hb dX6_init_24 (by decide) ?_
  refine zz_newa (atype := .int) (a0 := (400, .inl (fun _ => 0))) hx hb (hts _ mw_195) (ty := .int) rfl hK hP hD hS hA (n := nI 400) (N' := 400) (cA := cI) 0 rfl (fun _ => rfl) (nI_pos (by omega)) (nI_clamp (by omega)) (show 400 * 4 ≤ 536870912 by omega) (Nat.le_of_ble_eq_true rfl) (Nat.le_of_ble_eq_true rfl) dX6_init_27 (fun zx H hP hD hS => ?_)
  have hP : va_P (dC, dI) classes [(oc5 ro (.ref za) (.ref zw) .null .null .null 0), (oq za cF 200 (fun _ => none)), (oa zw cI 200 (fun _ => 0)), (oa zx cI 400 (fun _ => 0))] H := hP
  have hD : va_D A [(oc5 ro (.ref za) (.ref zw) .null .null .null 0), (oq za cF 200 (fun _ => none)), (oa zw cI 200 (fun _ => 0)), (oa zx cI 400 (fun _ => 0))] := hD
  refine va_putF (D := (dC, dI)) (ci := 5) (v := .ref zx) (ty := .array .int) (C := RX6) (T := TX6) (N := 6) hx hb hts inX6 tyX6 tyX6_ok nmX6 hown hK hP hD hS 0 rfl rfl 2 (by decide) (hts _ mw_248) (fun _ h9 => h9) rfl hin rfl (by decide +kernel) rfl rfl (Nat.le_of_ble_eq_true rfl) dX6_init_29 (fun H locs hP hD hS => ?_)
  have hP : va_P (dC, dI) classes [(oc5 ro (.ref za) (.ref zw) (.ref zx) .null .null 0), (oq za cF 200 (fun _ => none)), (oa zw cI 200 (fun _ => 0)), (oa zx cI 400 (fun _ => 0))] H := hP
  have hD : va_D A [(oc5 ro (.ref za) (.ref zw) (.ref zx) .null .null 0), (oq za cF 200 (fun _ => none)), (oa zw cI 200 (fun _ => 0)), (oa zx cI 400 (fun _ => 0))] := hD
  refine lv_aload_n hx hb dX6_init_32 rfl (lv_at hl 0 rfl) ?_
  refine lv_sipush (v := 400) hx hb dX6_init_33 (by decide) ?_
  refine zz_newa (atype := .int) (a0 := (400, .inl (fun _ => 0))) hx hb (hts _ mw_195) (ty := .int) rfl hK hP hD hS hA (n := nI 400) (N' := 400) (cA := cI) 0 rfl (fun _ => rfl) (nI_pos (by omega)) (nI_clamp (by omega)) (show 400 * 4 ≤ 536870912 by omega) (Nat.le_of_ble_eq_true rfl) (Nat.le_of_ble_eq_true rfl) dX6_init_36 (fun zy H hP hD hS => ?_)
  have hP : va_P (dC, dI) classes [(oc5 ro (.ref za) (.ref zw) (.ref zx) .null .null 0), (oq za cF 200 (fun _ => none)), (oa zw cI 200 (fun _ => 0)), (oa zx cI 400 (fun _ => 0)), (oa zy cI 400 (fun _ => 0))] H := hP
  have hD : va_D A [(oc5 ro (.ref za) (.ref zw) (.ref zx) .null .null 0), (oq za cF 200 (fun _ => none)), (oa zw cI 200 (fun _ => 0)), (oa zx cI 400 (fun _ => 0)), (oa zy cI 400 (fun _ => 0))] := hD
  refine va_putF (D := (dC, dI)) (ci := 5) (v := .ref zy) (ty := .array .int) (C := RX6) (T := TX6) (N := 6) hx hb hts inX6 tyX6 tyX6_ok nmX6 hown hK hP hD hS 0 rfl rfl 3 (by decide) (hts _ mw_249) (fun _ h9 => h9) rfl hin rfl (by decide +kernel) rfl rfl (Nat.le_of_ble_eq_true rfl) dX6_init_38 (fun H locs hP hD hS => ?_)
  have hP : va_P (dC, dI) classes [(oc5 ro (.ref za) (.ref zw) (.ref zx) (.ref zy) .null 0), (oq za cF 200 (fun _ => none)), (oa zw cI 200 (fun _ => 0)), (oa zx cI 400 (fun _ => 0)), (oa zy cI 400 (fun _ => 0))] H := hP
  have hD : va_D A [(oc5 ro (.ref za) (.ref zw) (.ref zx) (.ref zy) .null 0), (oq za cF 200 (fun _ => none)), (oa zw cI 200 (fun _ => 0)), (oa zx cI 400 (fun _ => 0)), (oa zy cI 400 (fun _ => 0))] := hD
  refine lv_aload_n hx hb dX6_init_41 rfl (lv_at hl 0 rfl) ?_
  refine lv_sipush (v := 400) hx hb dX6_init_42 (by decide) ?_
  refine zz_newa (atype := .int) (a0 := (400, .inl (fun _ => 0))) hx hb (hts _ mw_195) (ty := .int) rfl hK hP hD hS hA (n := nI 400) (N' := 400) (cA := cI) 0 rfl (fun _ => rfl) (nI_pos (by omega)) (nI_clamp (by omega)) (show 400 * 4 ≤ 536870912 by omega) (Nat.le_of_ble_eq_true rfl) (Nat.le_of_ble_eq_true rfl) dX6_init_45 (fun zg H hP hD hS => ?_)
  have hP : va_P (dC, dI) classes [(oc5 ro (.ref za) (.ref zw) (.ref zx) (.ref zy) .null 0), (oq za cF 200 (fun _ => none)), (oa zw cI 200 (fun _ => 0)), (oa zx cI 400 (fun _ => 0)), (oa zy cI 400 (fun _ => 0)), (oa zg cI 400 (fun _ => 0))] H := hP
  have hD : va_D A [(oc5 ro (.ref za) (.ref zw) (.ref zx) (.ref zy) .null 0), (oq za cF 200 (fun _ => none)), (oa zw cI 200 (fun _ => 0)), (oa zx cI 400 (fun _ => 0)), (oa zy cI 400 (fun _ => 0)), (oa zg cI 400 (fun _ => 0))] := hD
  refine va_putF (D := (dC, dI)) (ci := 5) (v := .ref zg) (ty := .array .int) (C := RX6) (T := TX6) (N := 6) hx hb hts inX6 tyX6 tyX6_ok nmX6 hown hK hP hD hS 0 rfl rfl 4 (by decide) (hts _ mw_250) (fun _ h9 => h9) rfl hin rfl (by decide +kernel) rfl rfl (Nat.le_of_ble_eq_true rfl) dX6_init_47 (fun H locs hP hD hS => ?_)
  have hP : va_P (dC, dI) classes [(oc5 ro (.ref za) (.ref zw) (.ref zx) (.ref zy) (.ref zg) 0), (oq za cF 200 (fun _ => none)), (oa zw cI 200 (fun _ => 0)), (oa zx cI 400 (fun _ => 0)), (oa zy cI 400 (fun _ => 0)), (oa zg cI 400 (fun _ => 0))] H := hP
  have hD : va_D A [(oc5 ro (.ref za) (.ref zw) (.ref zx) (.ref zy) (.ref zg) 0), (oq za cF 200 (fun _ => none)), (oa zw cI 200 (fun _ => 0)), (oa zx cI 400 (fun _ => 0)), (oa zy cI 400 (fun _ => 0)), (oa zg cI 400 (fun _ => 0))] := hD
  refine lv_aload_n hx hb dX6_init_50 rfl (lv_at hl 0 rfl) ?_
  refine lv_iconst (v := 0) hx hb dX6_init_51 (by decide) ?_
  refine va_put (D := (dC, dI)) (ci := 5) (v := .int 0) (ty := .int) (C := RX6) (T := TX6) (N := 6) hx hb hts inX6 tyX6 tyX6_ok nmX6 hown hK hP hD hS 0 rfl rfl 5 (by decide) (hts _ mw_251) (fun _ h9 => h9) rfl (by decide +kernel) rfl rfl (Nat.le_of_ble_eq_true rfl) dX6_init_52 (fun H locs hP hD hS => ?_)
  have hP : va_P (dC, dI) classes [(oc5 ro (.ref za) (.ref zw) (.ref zx) (.ref zy) (.ref zg) 0), (oq za cF 200 (fun _ => none)), (oa zw cI 200 (fun _ => 0)), (oa zx cI 400 (fun _ => 0)), (oa zy cI 400 (fun _ => 0)), (oa zg cI 400 (fun _ => 0))] H := hP
  have hD : va_D A [(oc5 ro (.ref za) (.ref zw) (.ref zx) (.ref zy) (.ref zg) 0), (oq za cF 200 (fun _ => none)), (oa zw cI 200 (fun _ => 0)), (oa zx cI 400 (fun _ => 0)), (oa zy cI 400 (fun _ => 0)), (oa zg cI 400 (fun _ => 0))] := hD
  have hP9 := hP.sub (ws' := [(oc5 ro (.ref za) (.ref zw) (.ref zx) (.ref zy) (.ref zg) 0), (oq za cF 200 (fun _ => none)), (oa zw cI 200 (fun _ => 0)), (oa zx cI 400 (fun _ => 0)), (oa zy cI 400 (fun _ => 0)), (oa zg cI 400 (fun _ => 0))]) [0, 1, 2, 3, 4, 5] rfl
  have hD9 := hD.sub (ws' := [(oc5 ro (.ref za) (.ref zw) (.ref zx) (.ref zy) (.ref zg) 0), (oq za cF 200 (fun _ => none)), (oa zw cI 200 (fun _ => 0)), (oa zx cI 400 (fun _ => 0)), (oa zy cI 400 (fun _ => 0)), (oa zg cI 400 (fun _ => 0))]) [0, 1, 2, 3, 4, 5] (by decide) rfl
  refine W.widen (k := 5) (n := 1600) (by decide) (by decide) ?_
  rw [hQ9]
  exact W.vret hx hb hr (fun t ht hW => ⟨⟨rfl, za, zw, zx, zy, zg, by rw [ht]; exact hP9, hD9⟩, hS.F ht⟩) hS.2.2 dX6_init_55
set_option maxHeartbeats 4000000 in
set_option maxRecDepth 100000 in
theorem k_AC_init (l : Launch) (dC : Nat → ClassId) (dI : Nat → Nat → Nat) (cI cZ cF : ClassId) (sz : Nat) (sl : Nat) : Met l yJxa1e45_init_da8c8 (.code yJxa1e45_init_da8c8 cJxa1e45_init_da8c8 1 none :: ws0) ({ frames := 1, cells := 0, slots := 0, locals := 12 } : Room) (va_Pc [.ref sl] (zPre (dC, dI) classes (zTy cI cZ cF) [] sz zXN)) (zQ none (fun t => va_P (dC, dI) classes [] t.heap ∧ va_D (va_A [] sz) []) (va_A [] sz)) 0 0 (va_A [] sz) := by
  refine Met.ofW (cc := cJxa1e45_init_da8c8) (maxL := 1) (ret := none) (by decide) rfl ?_
  intro p e s m args below meth c s₁ B hml hv
  obtain ⟨rfl, hsz, hP, hK, hD0, hXN⟩ := hv
  have hx := B.exec
  have hb := B.bytes
  have hr := B.returns
  have hts0 := atoms_spec (ws := .code yJxa1e45_init_da8c8 cJxa1e45_init_da8c8 1 none :: ws0) B.pre
  have hts : ∀ w9 ∈ ws0, w9.before ([.ref sl] : List Value).toArray s = true := fun w9 h => hts0 w9 (List.mem_cons_of_mem _ h)
  have hown : s.vm.findClass "java/util/AbstractCollection" = some m.cls := findClass_of_methodNamed B.named
  have hlocks := B.notSynchronized
  have hin : meth.name = "<init>" := (name_of_methodNamed B.named B.method).1
  subst hsz
  have hD := hD0.self (sz := s.heap.size)
  clear hD0
  generalize hAe : va_A [] s.heap.size = A at hD ⊢
  have hA : ∀ q : Nat, s.heap.size ≤ q → A q := fun q h => by rw [← hAe]; exact Or.inr h
  clear hAe
  have hS : va_S A s.heap s.heap [] := va_S.rf
  have hP : va_P (dC, dI) classes [] s.heap := hP
  obtain ⟨Q9, hQ9⟩ : ∃ Q9 : State → Prop, Q9 = MQ below (zQ none (fun t => va_P (dC, dI) classes [] t.heap ∧ va_D A []) A) ([.ref sl] : List Value).toArray s 0 0 A := ⟨_, rfl⟩
  rw [← hQ9]
  have hl := lv_entry ([.ref sl]) (n := 1) (Nat.le_of_ble_eq_true rfl)
  rw [lg_entry_eq]
  generalize (lg_sl ([.ref sl]) ++ List.replicate (1 - (lg_sl ([.ref sl])).length) Slot.unset).toArray = ls at hl ⊢
  have hl : lv_has ls 1 [(0, .ref sl)] := hl
  refine lv_aload_n hx hb dJxa1e45_init_da8c8_0 rfl (lv_at hl 0 rfl) ?_
  refine W.objInit hx hb hown (hts _ mw_293) (hts _ mw_126) (hts _ mw_objcode) rfl (by rw [hml]; exact hl.1) rfl dJxa1e45_init_da8c8_1 (Nat.le_of_ble_eq_true rfl) (Nat.le_of_ble_eq_true rfl) ?_
  refine W.eq (g2 := F0 m 4 ls []) rfl ?_
  have hP9 := hP.sub (ws' := []) [] rfl
  have hD9 := hD.sub (ws' := []) [] (by decide) rfl
  rw [hQ9]
  exact W.vret hx hb hr (fun t ht hW => ⟨⟨rfl, by rw [ht]; exact hP9, hD9⟩, hS.F ht⟩) hS.2.2 dJxa1e45_init_da8c8_4
set_option maxHeartbeats 4000000 in
set_option maxRecDepth 100000 in
theorem k_ABL_init (l : Launch) (dC : Nat → ClassId) (dI : Nat → Nat → Nat) (cI cZ cF : ClassId) (sz : Nat) (sl : Nat) : Met l yJxc12de_init_da8c8 (.code yJxc12de_init_da8c8 cJxc12de_init_da8c8 1 none :: ws0) ({ frames := 2, cells := 0, slots := 0, locals := 32 } : Room) (va_Pc [.ref sl] (zPre (dC, dI) classes (zTy cI cZ cF) [(oc10 sl 0 .null 0)] sz zXN)) (zQ none (fun t => va_P (dC, dI) classes [(oc10 sl 0 .null 0)] t.heap ∧ va_D (va_A [(oc10 sl 0 .null 0)] sz) [(oc10 sl 0 .null 0)]) (va_A [(oc10 sl 0 .null 0)] sz)) 0 0 (va_A [(oc10 sl 0 .null 0)] sz) := by
  refine Met.ofW (cc := cJxc12de_init_da8c8) (maxL := 1) (ret := none) (by decide) rfl ?_
  intro p e s m args below meth c s₁ B hml hv
  obtain ⟨rfl, hsz, hP, hK, hD0, hXN⟩ := hv
  have hx := B.exec
  have hb := B.bytes
  have hr := B.returns
  have hts0 := atoms_spec (ws := .code yJxc12de_init_da8c8 cJxc12de_init_da8c8 1 none :: ws0) B.pre
  have hts : ∀ w9 ∈ ws0, w9.before ([.ref sl] : List Value).toArray s = true := fun w9 h => hts0 w9 (List.mem_cons_of_mem _ h)
  have hown : s.vm.findClass "java/util/AbstractList" = some m.cls := findClass_of_methodNamed B.named
  have hlocks := B.notSynchronized
  have hin : meth.name = "<init>" := (name_of_methodNamed B.named B.method).1
  subst hsz
  have hD := hD0.self (sz := s.heap.size)
  clear hD0
  generalize hAe : va_A [(oc10 sl 0 .null 0)] s.heap.size = A at hD ⊢
  have hA : ∀ q : Nat, s.heap.size ≤ q → A q := fun q h => by rw [← hAe]; exact Or.inr h
  clear hAe
  have hS : va_S A s.heap s.heap [] := va_S.rf
  have hP : va_P (dC, dI) classes [(oc10 sl 0 .null 0)] s.heap := hP
  obtain ⟨Q9, hQ9⟩ : ∃ Q9 : State → Prop, Q9 = MQ below (zQ none (fun t => va_P (dC, dI) classes [(oc10 sl 0 .null 0)] t.heap ∧ va_D A [(oc10 sl 0 .null 0)]) A) ([.ref sl] : List Value).toArray s 0 0 A := ⟨_, rfl⟩
  rw [← hQ9]
  have hl := lv_entry ([.ref sl]) (n := 1) (Nat.le_of_ble_eq_true rfl)
  rw [lg_entry_eq]
  generalize (lg_sl ([.ref sl]) ++ List.replicate (1 - (lg_sl ([.ref sl])).length) Slot.unset).toArray = ls at hl ⊢
  have hl : lv_has ls 1 [(0, .ref sl)] := hl
  refine lv_aload_n hx hb dJxc12de_init_da8c8_0 rfl (lv_at hl 0 rfl) ?_
  have hPc := hP.sub (ws' := []) [] rfl
  have hDc := hD.sub (ws' := []) [] (by decide) rfl
  have hFc := va_free (wc := []) hD hS hA [] rfl
  refine zcall (st1 := []) (va_runI (As := []) (rest := []) ⟨hx, hb, hml, hown, hts⟩ (k_AC_init l dC dI cI cZ cF s.heap.size sl ) (cwI 0 hts (zz_gC mc_yJxa1e45_init_da8c8) rfl rfl rfl (hts _ mw_107) (hts _ mw_290) (hts _ mw_291) rfl (by decide +kernel) ⟨Nat.le_of_ble_eq_true rfl, Nat.le_of_ble_eq_true rfl⟩) (zPS2 hPc hDc hK hXN) rfl rfl hl.1 rfl (lv_room (Nat.le_of_ble_eq_true rfl)) dJxc12de_init_da8c8_1 ⟨Nat.le_of_ble_eq_true rfl, Nat.le_of_ble_eq_true rfl⟩) hS hFc hFc rfl (fun t H1 locs ht hB hk1 hS => ?_)
  obtain ⟨hP1, hD1⟩ := hB
  rw [ht] at hP1
  obtain ⟨hP, hD⟩ := va_join (wr := [(oc10 sl 0 .null 0)]) (w1 := []) hP hD [] [0] rfl rfl (by decide) (by decide) hk1 hFc hP1 hD1
  clear hk1 hPc hDc hFc hP1 hD1 ht
  generalize H1 = H at hP hS ⊢
  have hP : va_P (dC, dI) classes [(oc10 sl 0 .null 0)] H := hP
  have hD : va_D A [(oc10 sl 0 .null 0)] := hD
  refine lv_aload_n hx hb dJxc12de_init_da8c8_4 rfl (lv_at hl 0 rfl) ?_
  refine lv_iconst (v := 0) hx hb dJxc12de_init_da8c8_5 (by decide) ?_
  refine va_put (D := (dC, dI)) (ci := 10) (v := .int 0) (ty := .int) (C := RJx4a65c) (T := TJx4a65c) (N := 3) hx hb hts inJx4a65c tyJx4a65c tyJx4a65c_ok nmJx4a65c hown hK hP hD hS 0 rfl rfl 0 (by decide) (hts _ mw_298) (fun _ h9 => h9) rfl (by decide +kernel) rfl rfl (Nat.le_of_ble_eq_true rfl) dJxc12de_init_da8c8_6 (fun H locs hP hD hS => ?_)
  have hP : va_P (dC, dI) classes [(oc10 sl 0 .null 0)] H := hP
  have hD : va_D A [(oc10 sl 0 .null 0)] := hD
  have hP9 := hP.sub (ws' := [(oc10 sl 0 .null 0)]) [0] rfl
  have hD9 := hD.sub (ws' := [(oc10 sl 0 .null 0)]) [0] (by decide) rfl
  rw [hQ9]
  exact W.vret hx hb hr (fun t ht hW => ⟨⟨rfl, by rw [ht]; exact hP9, hD9⟩, hS.F ht⟩) hS.2.2 dJxc12de_init_da8c8_9
set_option maxHeartbeats 4000000 in
set_option maxRecDepth 100000 in
theorem k_AL_init (l : Launch) (dC : Nat → ClassId) (dI : Nat → Nat → Nat) (cI cZ cF : ClassId) (sz : Nat) (cO : ClassId) (e0 : Nat) (mi : Nat) (sl : Nat) : Met l yJx4a65c_init_da8c8 (.code yJx4a65c_init_da8c8 cJx4a65c_init_da8c8 1 none :: ws0) ({ frames := 3, cells := 0, slots := 0, locals := 52 } : Room) (va_Pc [.ref sl] (zPre (dC, dI) classes (zTyO cI cZ cF cO) [(oc10 sl 0 .null 0)] sz (zXL e0 mi (va_A [(oc10 sl 0 .null 0)] sz)))) (zQ none (fun t => va_P (dC, dI) classes [(oc10 sl 0 (.ref e0) (nI 0))] t.heap ∧ va_D (va_A [(oc10 sl 0 .null 0)] sz) [(oc10 sl 0 (.ref e0) (nI 0))]) (va_A [(oc10 sl 0 .null 0)] sz)) 0 0 (va_A [(oc10 sl 0 .null 0)] sz) := by
  refine Met.ofW (cc := cJx4a65c_init_da8c8) (maxL := 1) (ret := none) (by decide) rfl ?_
  intro p e s m args below meth c s₁ B hml hv
  obtain ⟨rfl, hsz, hP, hK, hD0, hXL⟩ := hv
  have hx := B.exec
  have hb := B.bytes
  have hr := B.returns
  have hts0 := atoms_spec (ws := .code yJx4a65c_init_da8c8 cJx4a65c_init_da8c8 1 none :: ws0) B.pre
  have hts : ∀ w9 ∈ ws0, w9.before ([.ref sl] : List Value).toArray s = true := fun w9 h => hts0 w9 (List.mem_cons_of_mem _ h)
  have hown : s.vm.findClass "java/util/ArrayList" = some m.cls := findClass_of_methodNamed B.named
  have hlocks := B.notSynchronized
  have hin : meth.name = "<init>" := (name_of_methodNamed B.named B.method).1
  subst hsz
  have hD := hD0.self (sz := s.heap.size)
  clear hD0
  generalize hAe : va_A [(oc10 sl 0 .null 0)] s.heap.size = A at hD hXL ⊢
  have hA : ∀ q : Nat, s.heap.size ≤ q → A q := fun q h => by rw [← hAe]; exact Or.inr h
  clear hAe
  have hS : va_S A s.heap s.heap [] := va_S.rf
  have hXN := hXL.1
  have hK3 := hK.sub [0, 1, 2] rfl
  have hP : va_P (dC, dI) classes [(oc10 sl 0 .null 0)] s.heap := hP
  obtain ⟨Q9, hQ9⟩ : ∃ Q9 : State → Prop, Q9 = MQ below (zQ none (fun t => va_P (dC, dI) classes [(oc10 sl 0 (.ref e0) (nI 0))] t.heap ∧ va_D A [(oc10 sl 0 (.ref e0) (nI 0))]) A) ([.ref sl] : List Value).toArray s 0 0 A := ⟨_, rfl⟩
  rw [← hQ9]
  have hl := lv_entry ([.ref sl]) (n := 1) (Nat.le_of_ble_eq_true rfl)
  rw [lg_entry_eq]
  generalize (lg_sl ([.ref sl]) ++ List.replicate (1 - (lg_sl ([.ref sl])).length) Slot.unset).toArray = ls at hl ⊢
  have hl : lv_has ls 1 [(0, .ref sl)] := hl
  refine lv_aload_n hx hb dJx4a65c_init_da8c8_0 rfl (lv_at hl 0 rfl) ?_
  have hPc := hP.sub (ws' := [(oc10 sl 0 .null 0)]) [0] rfl
  have hDc := hD.sub (ws' := [(oc10 sl 0 .null 0)]) [0] (by decide) rfl
  have hFc := va_free (wc := [(oc10 sl 0 .null 0)]) hD hS hA [0] rfl
  refine zcall (st1 := []) (va_runI (As := []) (rest := []) ⟨hx, hb, hml, hown, hts⟩ (k_ABL_init l dC dI cI cZ cF s.heap.size sl ) (cwI 0 hts (zz_gC mc_yJxc12de_init_da8c8) rfl rfl rfl (hts _ mw_108) (hts _ mw_287) (hts _ mw_288) rfl (by decide +kernel) ⟨Nat.le_of_ble_eq_true rfl, Nat.le_of_ble_eq_true rfl⟩) (zPS2 hPc hDc hK3 hXN) rfl rfl hl.1 rfl (lv_room (Nat.le_of_ble_eq_true rfl)) dJx4a65c_init_da8c8_1 ⟨Nat.le_of_ble_eq_true rfl, Nat.le_of_ble_eq_true rfl⟩) hS hFc hFc rfl (fun t H1 locs ht hB hk1 hS => ?_)
  obtain ⟨hP1, hD1⟩ := hB
  rw [ht] at hP1
  obtain ⟨hP, hD⟩ := va_join (wr := []) (w1 := [(oc10 sl 0 .null 0)]) hP hD [0] [] rfl rfl (by decide) (by decide) hk1 hFc hP1 hD1
  clear hk1 hPc hDc hFc hP1 hD1 ht
  generalize H1 = H at hP hS ⊢
  have hP : va_P (dC, dI) classes [(oc10 sl 0 .null 0)] H := hP
  have hD : va_D A [(oc10 sl 0 .null 0)] := hD
  refine lv_aload_n hx hb dJx4a65c_init_da8c8_4 rfl (lv_at hl 0 rfl) ?_
  refine va_gets hx hb hXL.2.1 hS hown (hts _ mw_294) (fun _ h9 => h9) dJx4a65c_init_da8c8_5 ?_
  refine va_put (D := (dC, dI)) (ci := 10) (v := .ref e0) (ty := .array (.object "java/lang/Object")) (C := RJx4a65c) (T := TJx4a65c) (N := 3) hx hb hts inJx4a65c tyJx4a65c tyJx4a65c_ok nmJx4a65c hown hK hP hD hS 0 rfl rfl 1 (by decide) (hts _ mw_296) (fun _ h9 => h9) rfl (by decide +kernel) rfl rfl (Nat.le_of_ble_eq_true rfl) dJx4a65c_init_da8c8_8 (fun H locs hP hD hS => ?_)
  have hP : va_P (dC, dI) classes [(oc10 sl 0 (.ref e0) 0)] H := hP
  have hD : va_D A [(oc10 sl 0 (.ref e0) 0)] := hD
  have hP9 := hP.sub (ws' := [(oc10 sl 0 (.ref e0) 0)]) [0] rfl
  have hD9 := hD.sub (ws' := [(oc10 sl 0 (.ref e0) 0)]) [0] (by decide) rfl
  have hE9 : ([(oc10 sl 0 (.ref e0) 0)] : va_W) = [(oc10 sl 0 (.ref e0) (nI 0))] := by rfl
  rw [hE9] at hP9 hD9
  rw [hQ9]
  exact W.vret hx hb hr (fun t ht hW => ⟨⟨rfl, by rw [ht]; exact hP9, hD9⟩, hS.F ht⟩) hS.2.2 dJx4a65c_init_da8c8_11
set_option maxHeartbeats 4000000 in
set_option maxRecDepth 100000 in
theorem k_Shop_init (l : Launch) (dC : Nat → ClassId) (dI : Nat → Nat → Nat) (cI cZ cF : ClassId) (sz : Nat) (cO : ClassId) (e0 : Nat) (mi : Nat) (x : Nat) : Met l yX10_init (.code yX10_init cX10_init 1 none :: ws0) ({ frames := 4, cells := 30, slots := 2300, locals := 72 } : Room) (va_Pc [.ref x] (zPre (dC, dI) classes (zTyO cI cZ cF cO) [(oc8 x .null .null .null .null .null .null .null .null .null 0 0 0 0)] sz (zXL e0 mi (va_A [(oc8 x .null .null .null .null .null .null .null .null .null 0 0 0 0)] sz)))) (zQ none (fun t => ∃ (sl : Nat), ∃ (sh : Nat), ∃ (fa : Nat), ∃ (lw : Nat), ∃ (dr : Nat), ∃ (dx : Nat), ∃ (dy : Nat), ∃ (tg : Nat), ∃ (tx : Nat), ∃ (ty : Nat), ∃ (wy : Nat), ∃ (wx : Nat), ∃ (wz : Nat), ∃ (br : Nat), ∃ (bo : Nat), ∃ (aa : Nat), ∃ (ro : Nat), ∃ (za : Nat), ∃ (zw : Nat), ∃ (zx : Nat), ∃ (zy : Nat), ∃ (zg : Nat), ∃ (bq : Nat), ∃ (bp : Nat), ∃ (dq : Nat), ∃ (dp : Nat), ∃ (lv : Nat), va_P (dC, dI) classes [(oc8 x (.ref sh) (.ref lw) (.ref ro) (.ref bq) (.ref bp) (.ref dq) (.ref dp) (.ref lv) (.ref sl) (nI 0) (nI 0) 0 0), (oc10 sl 0 (.ref e0) (nI 0)), (oc7 sh (.ref fa) (nI 0)), (oq fa cF 200 (fun _ => none)), (oc3 lw (.ref dr) (.ref tg) (.ref wy) (.ref br) (.ref bo) (.ref aa)), (oc6 dr (.ref dx) (.ref dy) (nI 0) 0), (oa dx cI 40 (fun _ => 0)), (oa dy cI 40 (fun _ => 0)), (oc6 tg (.ref tx) (.ref ty) (nI 0) 1), (oa tx cI 3 (fun _ => 0)), (oa ty cI 3 (fun _ => 0)), (oc6 wy (.ref wx) (.ref wz) (nI 0) 0), (oa wx cI 2 (fun _ => 0)), (oa wz cI 2 (fun _ => 0)), (oc0 br 0 0 0 0), (oc0 bo 0 0 0 0), (oa aa cI 40 (fun _ => 0)), (oc5 ro (.ref za) (.ref zw) (.ref zx) (.ref zy) (.ref zg) 0), (oq za cF 200 (fun _ => none)), (oa zw cI 200 (fun _ => 0)), (oa zx cI 400 (fun _ => 0)), (oa zy cI 400 (fun _ => 0)), (oa zg cI 400 (fun _ => 0)), (oc0 bq 0 0 0 0), (oc0 bp 0 0 0 0), (oc2 dq 0 0), (oc2 dp 0 0), (oa lv cZ 200 (fun _ => 0))] t.heap ∧ va_D (va_A [(oc8 x .null .null .null .null .null .null .null .null .null 0 0 0 0)] sz) [(oc8 x (.ref sh) (.ref lw) (.ref ro) (.ref bq) (.ref bp) (.ref dq) (.ref dp) (.ref lv) (.ref sl) (nI 0) (nI 0) 0 0), (oc10 sl 0 (.ref e0) (nI 0)), (oc7 sh (.ref fa) (nI 0)), (oq fa cF 200 (fun _ => none)), (oc3 lw (.ref dr) (.ref tg) (.ref wy) (.ref br) (.ref bo) (.ref aa)), (oc6 dr (.ref dx) (.ref dy) (nI 0) 0), (oa dx cI 40 (fun _ => 0)), (oa dy cI 40 (fun _ => 0)), (oc6 tg (.ref tx) (.ref ty) (nI 0) 1), (oa tx cI 3 (fun _ => 0)), (oa ty cI 3 (fun _ => 0)), (oc6 wy (.ref wx) (.ref wz) (nI 0) 0), (oa wx cI 2 (fun _ => 0)), (oa wz cI 2 (fun _ => 0)), (oc0 br 0 0 0 0), (oc0 bo 0 0 0 0), (oa aa cI 40 (fun _ => 0)), (oc5 ro (.ref za) (.ref zw) (.ref zx) (.ref zy) (.ref zg) 0), (oq za cF 200 (fun _ => none)), (oa zw cI 200 (fun _ => 0)), (oa zx cI 400 (fun _ => 0)), (oa zy cI 400 (fun _ => 0)), (oa zg cI 400 (fun _ => 0)), (oc0 bq 0 0 0 0), (oc0 bp 0 0 0 0), (oc2 dq 0 0), (oc2 dp 0 0), (oa lv cZ 200 (fun _ => 0))]) (va_A [(oc8 x .null .null .null .null .null .null .null .null .null 0 0 0 0)] sz)) 30 2300 (va_A [(oc8 x .null .null .null .null .null .null .null .null .null 0 0 0 0)] sz) := by
  refine Met.ofW (cc := cX10_init) (maxL := 1) (ret := none) (by decide) rfl ?_
  intro p e s m args below meth c s₁ B hml hv
  obtain ⟨rfl, hsz, hP, hK, hD0, hXL⟩ := hv
  have hx := B.exec
  have hb := B.bytes
  have hr := B.returns
  have hts0 := atoms_spec (ws := .code yX10_init cX10_init 1 none :: ws0) B.pre
  have hts : ∀ w9 ∈ ws0, w9.before ([.ref x] : List Value).toArray s = true := fun w9 h => hts0 w9 (List.mem_cons_of_mem _ h)
  have hown : s.vm.findClass "ScaleShop" = some m.cls := findClass_of_methodNamed B.named
  have hlocks := B.notSynchronized
  have hin : meth.name = "<init>" := (name_of_methodNamed B.named B.method).1
  subst hsz
  have hD := hD0.self (sz := s.heap.size)
  clear hD0
  generalize hAe : va_A [(oc8 x .null .null .null .null .null .null .null .null .null 0 0 0 0)] s.heap.size = A at hD hXL ⊢
  have hA : ∀ q : Nat, s.heap.size ≤ q → A q := fun q h => by rw [← hAe]; exact Or.inr h
  clear hAe
  have hS : va_S A s.heap s.heap [] := va_S.rf
  have hXN := hXL.1
  have hK3 := hK.sub [0, 1, 2] rfl
  have hP : va_P (dC, dI) classes [(oc8 x .null .null .null .null .null .null .null .null .null 0 0 0 0)] s.heap := hP
  obtain ⟨Q9, hQ9⟩ : ∃ Q9 : State → Prop, Q9 = MQ below (zQ none (fun t => ∃ (sl : Nat), ∃ (sh : Nat), ∃ (fa : Nat), ∃ (lw : Nat), ∃ (dr : Nat), ∃ (dx : Nat), ∃ (dy : Nat), ∃ (tg : Nat), ∃ (tx : Nat), ∃ (ty : Nat), ∃ (wy : Nat), ∃ (wx : Nat), ∃ (wz : Nat), ∃ (br : Nat), ∃ (bo : Nat), ∃ (aa : Nat), ∃ (ro : Nat), ∃ (za : Nat), ∃ (zw : Nat), ∃ (zx : Nat), ∃ (zy : Nat), ∃ (zg : Nat), ∃ (bq : Nat), ∃ (bp : Nat), ∃ (dq : Nat), ∃ (dp : Nat), ∃ (lv : Nat), va_P (dC, dI) classes [(oc8 x (.ref sh) (.ref lw) (.ref ro) (.ref bq) (.ref bp) (.ref dq) (.ref dp) (.ref lv) (.ref sl) (nI 0) (nI 0) 0 0), (oc10 sl 0 (.ref e0) (nI 0)), (oc7 sh (.ref fa) (nI 0)), (oq fa cF 200 (fun _ => none)), (oc3 lw (.ref dr) (.ref tg) (.ref wy) (.ref br) (.ref bo) (.ref aa)), (oc6 dr (.ref dx) (.ref dy) (nI 0) 0), (oa dx cI 40 (fun _ => 0)), (oa dy cI 40 (fun _ => 0)), (oc6 tg (.ref tx) (.ref ty) (nI 0) 1), (oa tx cI 3 (fun _ => 0)), (oa ty cI 3 (fun _ => 0)), (oc6 wy (.ref wx) (.ref wz) (nI 0) 0), (oa wx cI 2 (fun _ => 0)), (oa wz cI 2 (fun _ => 0)), (oc0 br 0 0 0 0), (oc0 bo 0 0 0 0), (oa aa cI 40 (fun _ => 0)), (oc5 ro (.ref za) (.ref zw) (.ref zx) (.ref zy) (.ref zg) 0), (oq za cF 200 (fun _ => none)), (oa zw cI 200 (fun _ => 0)), (oa zx cI 400 (fun _ => 0)), (oa zy cI 400 (fun _ => 0)), (oa zg cI 400 (fun _ => 0)), (oc0 bq 0 0 0 0), (oc0 bp 0 0 0 0), (oc2 dq 0 0), (oc2 dp 0 0), (oa lv cZ 200 (fun _ => 0))] t.heap ∧ va_D A [(oc8 x (.ref sh) (.ref lw) (.ref ro) (.ref bq) (.ref bp) (.ref dq) (.ref dp) (.ref lv) (.ref sl) (nI 0) (nI 0) 0 0), (oc10 sl 0 (.ref e0) (nI 0)), (oc7 sh (.ref fa) (nI 0)), (oq fa cF 200 (fun _ => none)), (oc3 lw (.ref dr) (.ref tg) (.ref wy) (.ref br) (.ref bo) (.ref aa)), (oc6 dr (.ref dx) (.ref dy) (nI 0) 0), (oa dx cI 40 (fun _ => 0)), (oa dy cI 40 (fun _ => 0)), (oc6 tg (.ref tx) (.ref ty) (nI 0) 1), (oa tx cI 3 (fun _ => 0)), (oa ty cI 3 (fun _ => 0)), (oc6 wy (.ref wx) (.ref wz) (nI 0) 0), (oa wx cI 2 (fun _ => 0)), (oa wz cI 2 (fun _ => 0)), (oc0 br 0 0 0 0), (oc0 bo 0 0 0 0), (oa aa cI 40 (fun _ => 0)), (oc5 ro (.ref za) (.ref zw) (.ref zx) (.ref zy) (.ref zg) 0), (oq za cF 200 (fun _ => none)), (oa zw cI 200 (fun _ => 0)), (oa zx cI 400 (fun _ => 0)), (oa zy cI 400 (fun _ => 0)), (oa zg cI 400 (fun _ => 0)), (oc0 bq 0 0 0 0), (oc0 bp 0 0 0 0), (oc2 dq 0 0), (oc2 dp 0 0), (oa lv cZ 200 (fun _ => 0))]) A) ([.ref x] : List Value).toArray s 30 2300 A := ⟨_, rfl⟩
  rw [← hQ9]
  have hl := lv_entry ([.ref x]) (n := 1) (Nat.le_of_ble_eq_true rfl)
  rw [lg_entry_eq]
  generalize (lg_sl ([.ref x]) ++ List.replicate (1 - (lg_sl ([.ref x])).length) Slot.unset).toArray = ls at hl ⊢
  have hl : lv_has ls 1 [(0, .ref x)] := hl
  refine lv_aload_n hx hb dX10_init_0 rfl (lv_at hl 0 rfl) ?_
  refine W.objInit hx hb hown (hts _ mw_125) (hts _ mw_126) (hts _ mw_objcode) rfl (by rw [hml]; exact hl.1) rfl dX10_init_1 (Nat.le_of_ble_eq_true rfl) (Nat.le_of_ble_eq_true rfl) ?_
  refine W.eq (g2 := F0 m 4 ls []) rfl ?_
  refine lv_aload_n hx hb dX10_init_4 rfl (lv_at hl 0 rfl) ?_
  refine va_new (ci := 7) (fs := [.null, .int 0]) (C := RX8) (T := TX8) (N := 2) hx hb hts inX8 tyX8 tyX8_ok hown (hts _ mw_128) (hts _ mw_129) (hts _ mw_100) hK hP hD hS hA rfl dfX8 (show 1 ≤ 30 by omega) (show 2 ≤ 2300 by omega) dX10_init_5 (fun sh H hP hD hS => ?_)
  have hP : va_P (dC, dI) classes [(oc8 x .null .null .null .null .null .null .null .null .null 0 0 0 0), (oc7 sh .null 0)] H := hP
  have hD : va_D A [(oc8 x .null .null .null .null .null .null .null .null .null 0 0 0 0), (oc7 sh .null 0)] := hD
  refine lv_dup hx hb dX10_init_8 rfl ?_
  have hPc := hP.sub (ws' := [(oc7 sh .null 0)]) [1] rfl
  have hDc := hD.sub (ws' := [(oc7 sh .null 0)]) [1] (by decide) rfl
  have hFc := va_free (wc := [(oc7 sh .null 0)]) hD hS hA [1] rfl
  refine zcall (st1 := [.ref sh, .ref x]) (va_runI (As := []) (rest := [.ref sh, .ref x]) ⟨hx, hb, hml, hown, hts⟩ (k_Sheet_init l dC dI cI cZ cF H.size sh ) (cwI 0 hts (zz_gC mc_yX8_init) rfl rfl rfl (hts _ mw_100) (hts _ mw_130) (hts _ mw_131) rfl (by decide +kernel) ⟨Nat.le_of_ble_eq_true rfl, Nat.le_of_ble_eq_true rfl⟩) (zPS2 hPc hDc hK3 hXN) rfl rfl hl.1 rfl (lv_room (Nat.le_of_ble_eq_true rfl)) dX10_init_9 ⟨show 2 ≤ 30 by omega, show 202 ≤ 2300 by omega⟩) hS hFc hFc rfl (fun t H1 locs ht hB hk1 hS => ?_)
  obtain ⟨fa, hP1, hD1⟩ := hB
  rw [ht] at hP1
  obtain ⟨hP, hD⟩ := va_join (wr := [(oc8 x .null .null .null .null .null .null .null .null .null 0 0 0 0)]) (w1 := [(oc7 sh (.ref fa) (nI 0)), (oq fa cF 200 (fun _ => none))]) hP hD [1] [0] rfl rfl (by decide) (by decide) hk1 hFc hP1 hD1
  clear hk1 hPc hDc hFc hP1 hD1 ht
  generalize H1 = H at hP hS ⊢
  have hP : va_P (dC, dI) classes [(oc8 x .null .null .null .null .null .null .null .null .null 0 0 0 0), (oc7 sh (.ref fa) (nI 0)), (oq fa cF 200 (fun _ => none))] H := hP
  have hD : va_D A [(oc8 x .null .null .null .null .null .null .null .null .null 0 0 0 0), (oc7 sh (.ref fa) (nI 0)), (oq fa cF 200 (fun _ => none))] := hD
  refine va_putF (D := (dC, dI)) (ci := 8) (v := .ref sh) (ty := .object "ScaleShop$Sheet") (C := RX10) (T := TX10) (N := 13) hx hb hts inX10 tyX10 tyX10_ok nmX10 hown hK hP hD hS 0 rfl rfl 0 (by decide) (hts _ mw_309) (fun _ h9 => h9) rfl hin rfl (by decide +kernel) rfl rfl (Nat.le_of_ble_eq_true rfl) dX10_init_12 (fun H locs hP hD hS => ?_)
  have hP : va_P (dC, dI) classes [(oc8 x (.ref sh) .null .null .null .null .null .null .null .null 0 0 0 0), (oc7 sh (.ref fa) (nI 0)), (oq fa cF 200 (fun _ => none))] H := hP
  have hD : va_D A [(oc8 x (.ref sh) .null .null .null .null .null .null .null .null 0 0 0 0), (oc7 sh (.ref fa) (nI 0)), (oq fa cF 200 (fun _ => none))] := hD
  refine lv_aload_n hx hb dX10_init_15 rfl (lv_at hl 0 rfl) ?_
  refine va_new (ci := 3) (fs := [.null, .null, .null, .null, .null, .null]) (C := RX4) (T := TX4) (N := 6) hx hb hts inX4 tyX4 tyX4_ok hown (hts _ mw_146) (hts _ mw_147) (hts _ mw_101) hK hP hD hS hA rfl dfX4 (show 3 ≤ 30 by omega) (show 208 ≤ 2300 by omega) dX10_init_16 (fun lw H hP hD hS => ?_)
  have hP : va_P (dC, dI) classes [(oc8 x (.ref sh) .null .null .null .null .null .null .null .null 0 0 0 0), (oc7 sh (.ref fa) (nI 0)), (oq fa cF 200 (fun _ => none)), (oc3 lw .null .null .null .null .null .null)] H := hP
  have hD : va_D A [(oc8 x (.ref sh) .null .null .null .null .null .null .null .null 0 0 0 0), (oc7 sh (.ref fa) (nI 0)), (oq fa cF 200 (fun _ => none)), (oc3 lw .null .null .null .null .null .null)] := hD
  refine lv_dup hx hb dX10_init_19 rfl ?_
  have hPc := hP.sub (ws' := [(oc3 lw .null .null .null .null .null .null)]) [3] rfl
  have hDc := hD.sub (ws' := [(oc3 lw .null .null .null .null .null .null)]) [3] (by decide) rfl
  have hFc := va_free (wc := [(oc3 lw .null .null .null .null .null .null)]) hD hS hA [3] rfl
  refine zcall (st1 := [.ref lw, .ref x]) (va_runI (As := []) (rest := [.ref lw, .ref x]) ⟨hx, hb, hml, hown, hts⟩ (k_Law_init l dC dI cI cZ cF H.size lw ) (cwI 0 hts (zz_gC mc_yX4_init) rfl rfl rfl (hts _ mw_101) (hts _ mw_148) (hts _ mw_149) rfl (by decide +kernel) ⟨Nat.le_of_ble_eq_true rfl, Nat.le_of_ble_eq_true rfl⟩) (zPS2 hPc hDc hK3 hXN) rfl rfl hl.1 rfl (lv_room (Nat.le_of_ble_eq_true rfl)) dX10_init_20 ⟨show (3 + 12) ≤ 30 by omega, show (208 + 150) ≤ 2300 by omega⟩) hS hFc hFc rfl (fun t H1 locs ht hB hk1 hS => ?_)
  obtain ⟨dr, dx, dy, tg, tx, ty, wy, wx, wz, br, bo, aa, hP1, hD1⟩ := hB
  rw [ht] at hP1
  obtain ⟨hP, hD⟩ := va_join (wr := [(oc8 x (.ref sh) .null .null .null .null .null .null .null .null 0 0 0 0), (oc7 sh (.ref fa) (nI 0)), (oq fa cF 200 (fun _ => none))]) (w1 := [(oc3 lw (.ref dr) (.ref tg) (.ref wy) (.ref br) (.ref bo) (.ref aa)), (oc6 dr (.ref dx) (.ref dy) (nI 0) 0), (oa dx cI 40 (fun _ => 0)), (oa dy cI 40 (fun _ => 0)), (oc6 tg (.ref tx) (.ref ty) (nI 0) 1), (oa tx cI 3 (fun _ => 0)), (oa ty cI 3 (fun _ => 0)), (oc6 wy (.ref wx) (.ref wz) (nI 0) 0), (oa wx cI 2 (fun _ => 0)), (oa wz cI 2 (fun _ => 0)), (oc0 br 0 0 0 0), (oc0 bo 0 0 0 0), (oa aa cI 40 (fun _ => 0))]) hP hD [3] [0, 1, 2] rfl rfl (by decide) (by decide) hk1 hFc hP1 hD1
  clear hk1 hPc hDc hFc hP1 hD1 ht
  generalize H1 = H at hP hS ⊢
  have hP : va_P (dC, dI) classes [(oc8 x (.ref sh) .null .null .null .null .null .null .null .null 0 0 0 0), (oc7 sh (.ref fa) (nI 0)), (oq fa cF 200 (fun _ => none)), (oc3 lw (.ref dr) (.ref tg) (.ref wy) (.ref br) (.ref bo) (.ref aa)), (oc6 dr (.ref dx) (.ref dy) (nI 0) 0), (oa dx cI 40 (fun _ => 0)), (oa dy cI 40 (fun _ => 0)), (oc6 tg (.ref tx) (.ref ty) (nI 0) 1), (oa tx cI 3 (fun _ => 0)), (oa ty cI 3 (fun _ => 0)), (oc6 wy (.ref wx) (.ref wz) (nI 0) 0), (oa wx cI 2 (fun _ => 0)), (oa wz cI 2 (fun _ => 0)), (oc0 br 0 0 0 0), (oc0 bo 0 0 0 0), (oa aa cI 40 (fun _ => 0))] H := hP
  have hD : va_D A [(oc8 x (.ref sh) .null .null .null .null .null .null .null .null 0 0 0 0), (oc7 sh (.ref fa) (nI 0)), (oq fa cF 200 (fun _ => none)), (oc3 lw (.ref dr) (.ref tg) (.ref wy) (.ref br) (.ref bo) (.ref aa)), (oc6 dr (.ref dx) (.ref dy) (nI 0) 0), (oa dx cI 40 (fun _ => 0)), (oa dy cI 40 (fun _ => 0)), (oc6 tg (.ref tx) (.ref ty) (nI 0) 1), (oa tx cI 3 (fun _ => 0)), (oa ty cI 3 (fun _ => 0)), (oc6 wy (.ref wx) (.ref wz) (nI 0) 0), (oa wx cI 2 (fun _ => 0)), (oa wz cI 2 (fun _ => 0)), (oc0 br 0 0 0 0), (oc0 bo 0 0 0 0), (oa aa cI 40 (fun _ => 0))] := hD
  refine va_putF (D := (dC, dI)) (ci := 8) (v := .ref lw) (ty := .object "ScaleShop$Law") (C := RX10) (T := TX10) (N := 13) hx hb hts inX10 tyX10 tyX10_ok nmX10 hown hK hP hD hS 0 rfl rfl 1 (by decide) (hts _ mw_310) (fun _ h9 => h9) rfl hin rfl (by decide +kernel) rfl rfl (Nat.le_of_ble_eq_true rfl) dX10_init_23 (fun H locs hP hD hS => ?_)
  have hP : va_P (dC, dI) classes [(oc8 x (.ref sh) (.ref lw) .null .null .null .null .null .null .null 0 0 0 0), (oc7 sh (.ref fa) (nI 0)), (oq fa cF 200 (fun _ => none)), (oc3 lw (.ref dr) (.ref tg) (.ref wy) (.ref br) (.ref bo) (.ref aa)), (oc6 dr (.ref dx) (.ref dy) (nI 0) 0), (oa dx cI 40 (fun _ => 0)), (oa dy cI 40 (fun _ => 0)), (oc6 tg (.ref tx) (.ref ty) (nI 0) 1), (oa tx cI 3 (fun _ => 0)), (oa ty cI 3 (fun _ => 0)), (oc6 wy (.ref wx) (.ref wz) (nI 0) 0), (oa wx cI 2 (fun _ => 0)), (oa wz cI 2 (fun _ => 0)), (oc0 br 0 0 0 0), (oc0 bo 0 0 0 0), (oa aa cI 40 (fun _ => 0))] H := hP
  have hD : va_D A [(oc8 x (.ref sh) (.ref lw) .null .null .null .null .null .null .null 0 0 0 0), (oc7 sh (.ref fa) (nI 0)), (oq fa cF 200 (fun _ => none)), (oc3 lw (.ref dr) (.ref tg) (.ref wy) (.ref br) (.ref bo) (.ref aa)), (oc6 dr (.ref dx) (.ref dy) (nI 0) 0), (oa dx cI 40 (fun _ => 0)), (oa dy cI 40 (fun _ => 0)), (oc6 tg (.ref tx) (.ref ty) (nI 0) 1), (oa tx cI 3 (fun _ => 0)), (oa ty cI 3 (fun _ => 0)), (oc6 wy (.ref wx) (.ref wz) (nI 0) 0), (oa wx cI 2 (fun _ => 0)), (oa wz cI 2 (fun _ => 0)), (oc0 br 0 0 0 0), (oc0 bo 0 0 0 0), (oa aa cI 40 (fun _ => 0))] := hD
  refine lv_aload_n hx hb dX10_init_26 rfl (lv_at hl 0 rfl) ?_
  refine va_new (ci := 5) (fs := [.null, .null, .null, .null, .null, .int 0]) (C := RX6) (T := TX6) (N := 6) hx hb hts inX6 tyX6 tyX6_ok hown (hts _ mw_239) (hts _ mw_240) (hts _ mw_105) hK hP hD hS hA rfl dfX6 (show ((3 + 12) + 1) ≤ 30 by omega) (show ((208 + 150) + 6) ≤ 2300 by omega) dX10_init_27 (fun ro H hP hD hS => ?_)
  have hP : va_P (dC, dI) classes [(oc8 x (.ref sh) (.ref lw) .null .null .null .null .null .null .null 0 0 0 0), (oc7 sh (.ref fa) (nI 0)), (oq fa cF 200 (fun _ => none)), (oc3 lw (.ref dr) (.ref tg) (.ref wy) (.ref br) (.ref bo) (.ref aa)), (oc6 dr (.ref dx) (.ref dy) (nI 0) 0), (oa dx cI 40 (fun _ => 0)), (oa dy cI 40 (fun _ => 0)), (oc6 tg (.ref tx) (.ref ty) (nI 0) 1), (oa tx cI 3 (fun _ => 0)), (oa ty cI 3 (fun _ => 0)), (oc6 wy (.ref wx) (.ref wz) (nI 0) 0), (oa wx cI 2 (fun _ => 0)), (oa wz cI 2 (fun _ => 0)), (oc0 br 0 0 0 0), (oc0 bo 0 0 0 0), (oa aa cI 40 (fun _ => 0)), (oc5 ro .null .null .null .null .null 0)] H := hP
  have hD : va_D A [(oc8 x (.ref sh) (.ref lw) .null .null .null .null .null .null .null 0 0 0 0), (oc7 sh (.ref fa) (nI 0)), (oq fa cF 200 (fun _ => none)), (oc3 lw (.ref dr) (.ref tg) (.ref wy) (.ref br) (.ref bo) (.ref aa)), (oc6 dr (.ref dx) (.ref dy) (nI 0) 0), (oa dx cI 40 (fun _ => 0)), (oa dy cI 40 (fun _ => 0)), (oc6 tg (.ref tx) (.ref ty) (nI 0) 1), (oa tx cI 3 (fun _ => 0)), (oa ty cI 3 (fun _ => 0)), (oc6 wy (.ref wx) (.ref wz) (nI 0) 0), (oa wx cI 2 (fun _ => 0)), (oa wz cI 2 (fun _ => 0)), (oc0 br 0 0 0 0), (oc0 bo 0 0 0 0), (oa aa cI 40 (fun _ => 0)), (oc5 ro .null .null .null .null .null 0)] := hD
  refine lv_dup hx hb dX10_init_30 rfl ?_
  have hPc := hP.sub (ws' := [(oc5 ro .null .null .null .null .null 0)]) [16] rfl
  have hDc := hD.sub (ws' := [(oc5 ro .null .null .null .null .null 0)]) [16] (by decide) rfl
  have hFc := va_free (wc := [(oc5 ro .null .null .null .null .null 0)]) hD hS hA [16] rfl
  refine zcall (st1 := [.ref ro, .ref x]) (va_runI (As := []) (rest := [.ref ro, .ref x]) ⟨hx, hb, hml, hown, hts⟩ (k_Roads_init l dC dI cI cZ cF H.size ro ) (cwI 0 hts (zz_gC mc_yX6_init) rfl rfl rfl (hts _ mw_105) (hts _ mw_241) (hts _ mw_242) rfl (by decide +kernel) ⟨Nat.le_of_ble_eq_true rfl, Nat.le_of_ble_eq_true rfl⟩) (zPS2 hPc hDc hK3 hXN) rfl rfl hl.1 rfl (lv_room (Nat.le_of_ble_eq_true rfl)) dX10_init_31 ⟨show (((3 + 12) + 1) + 5) ≤ 30 by omega, show (((208 + 150) + 6) + 1600) ≤ 2300 by omega⟩) hS hFc hFc rfl (fun t H1 locs ht hB hk1 hS => ?_)
  obtain ⟨za, zw, zx, zy, zg, hP1, hD1⟩ := hB
  rw [ht] at hP1
  obtain ⟨hP, hD⟩ := va_join (wr := [(oc8 x (.ref sh) (.ref lw) .null .null .null .null .null .null .null 0 0 0 0), (oc7 sh (.ref fa) (nI 0)), (oq fa cF 200 (fun _ => none)), (oc3 lw (.ref dr) (.ref tg) (.ref wy) (.ref br) (.ref bo) (.ref aa)), (oc6 dr (.ref dx) (.ref dy) (nI 0) 0), (oa dx cI 40 (fun _ => 0)), (oa dy cI 40 (fun _ => 0)), (oc6 tg (.ref tx) (.ref ty) (nI 0) 1), (oa tx cI 3 (fun _ => 0)), (oa ty cI 3 (fun _ => 0)), (oc6 wy (.ref wx) (.ref wz) (nI 0) 0), (oa wx cI 2 (fun _ => 0)), (oa wz cI 2 (fun _ => 0)), (oc0 br 0 0 0 0), (oc0 bo 0 0 0 0), (oa aa cI 40 (fun _ => 0))]) (w1 := [(oc5 ro (.ref za) (.ref zw) (.ref zx) (.ref zy) (.ref zg) 0), (oq za cF 200 (fun _ => none)), (oa zw cI 200 (fun _ => 0)), (oa zx cI 400 (fun _ => 0)), (oa zy cI 400 (fun _ => 0)), (oa zg cI 400 (fun _ => 0))]) hP hD [16] [0, 1, 2, 3, 4, 5, 6, 7, 8, 9, 10, 11, 12, 13, 14, 15] rfl rfl (by decide) (by decide) hk1 hFc hP1 hD1
  clear hk1 hPc hDc hFc hP1 hD1 ht
  generalize H1 = H at hP hS ⊢
  have hP : va_P (dC, dI) classes [(oc8 x (.ref sh) (.ref lw) .null .null .null .null .null .null .null 0 0 0 0), (oc7 sh (.ref fa) (nI 0)), (oq fa cF 200 (fun _ => none)), (oc3 lw (.ref dr) (.ref tg) (.ref wy) (.ref br) (.ref bo) (.ref aa)), (oc6 dr (.ref dx) (.ref dy) (nI 0) 0), (oa dx cI 40 (fun _ => 0)), (oa dy cI 40 (fun _ => 0)), (oc6 tg (.ref tx) (.ref ty) (nI 0) 1), (oa tx cI 3 (fun _ => 0)), (oa ty cI 3 (fun _ => 0)), (oc6 wy (.ref wx) (.ref wz) (nI 0) 0), (oa wx cI 2 (fun _ => 0)), (oa wz cI 2 (fun _ => 0)), (oc0 br 0 0 0 0), (oc0 bo 0 0 0 0), (oa aa cI 40 (fun _ => 0)), (oc5 ro (.ref za) (.ref zw) (.ref zx) (.ref zy) (.ref zg) 0), (oq za cF 200 (fun _ => none)), (oa zw cI 200 (fun _ => 0)), (oa zx cI 400 (fun _ => 0)), (oa zy cI 400 (fun _ => 0)), (oa zg cI 400 (fun _ => 0))] H := hP
  have hD : va_D A [(oc8 x (.ref sh) (.ref lw) .null .null .null .null .null .null .null 0 0 0 0), (oc7 sh (.ref fa) (nI 0)), (oq fa cF 200 (fun _ => none)), (oc3 lw (.ref dr) (.ref tg) (.ref wy) (.ref br) (.ref bo) (.ref aa)), (oc6 dr (.ref dx) (.ref dy) (nI 0) 0), (oa dx cI 40 (fun _ => 0)), (oa dy cI 40 (fun _ => 0)), (oc6 tg (.ref tx) (.ref ty) (nI 0) 1), (oa tx cI 3 (fun _ => 0)), (oa ty cI 3 (fun _ => 0)), (oc6 wy (.ref wx) (.ref wz) (nI 0) 0), (oa wx cI 2 (fun _ => 0)), (oa wz cI 2 (fun _ => 0)), (oc0 br 0 0 0 0), (oc0 bo 0 0 0 0), (oa aa cI 40 (fun _ => 0)), (oc5 ro (.ref za) (.ref zw) (.ref zx) (.ref zy) (.ref zg) 0), (oq za cF 200 (fun _ => none)), (oa zw cI 200 (fun _ => 0)), (oa zx cI 400 (fun _ => 0)), (oa zy cI 400 (fun _ => 0)), (oa zg cI 400 (fun _ => 0))] := hD
  refine va_putF (D := (dC, dI)) (ci := 8) (v := .ref ro) (ty := .object "ScaleShop$Roads") (C := RX10) (T := TX10) (N := 13) hx hb hts inX10 tyX10 tyX10_ok nmX10 hown hK hP hD hS 0 rfl rfl 2 (by decide) (hts _ mw_311) (fun _ h9 => h9) rfl hin rfl (by decide +kernel) rfl rfl (Nat.le_of_ble_eq_true rfl) dX10_init_34 (fun H locs hP hD hS => ?_)
  have hP : va_P (dC, dI) classes [(oc8 x (.ref sh) (.ref lw) (.ref ro) .null .null .null .null .null .null 0 0 0 0), (oc7 sh (.ref fa) (nI 0)), (oq fa cF 200 (fun _ => none)), (oc3 lw (.ref dr) (.ref tg) (.ref wy) (.ref br) (.ref bo) (.ref aa)), (oc6 dr (.ref dx) (.ref dy) (nI 0) 0), (oa dx cI 40 (fun _ => 0)), (oa dy cI 40 (fun _ => 0)), (oc6 tg (.ref tx) (.ref ty) (nI 0) 1), (oa tx cI 3 (fun _ => 0)), (oa ty cI 3 (fun _ => 0)), (oc6 wy (.ref wx) (.ref wz) (nI 0) 0), (oa wx cI 2 (fun _ => 0)), (oa wz cI 2 (fun _ => 0)), (oc0 br 0 0 0 0), (oc0 bo 0 0 0 0), (oa aa cI 40 (fun _ => 0)), (oc5 ro (.ref za) (.ref zw) (.ref zx) (.ref zy) (.ref zg) 0), (oq za cF 200 (fun _ => none)), (oa zw cI 200 (fun _ => 0)), (oa zx cI 400 (fun _ => 0)), (oa zy cI 400 (fun _ => 0)), (oa zg cI 400 (fun _ => 0))] H := hP
  have hD : va_D A [(oc8 x (.ref sh) (.ref lw) (.ref ro) .null .null .null .null .null .null 0 0 0 0), (oc7 sh (.ref fa) (nI 0)), (oq fa cF 200 (fun _ => none)), (oc3 lw (.ref dr) (.ref tg) (.ref wy) (.ref br) (.ref bo) (.ref aa)), (oc6 dr (.ref dx) (.ref dy) (nI 0) 0), (oa dx cI 40 (fun _ => 0)), (oa dy cI 40 (fun _ => 0)), (oc6 tg (.ref tx) (.ref ty) (nI 0) 1), (oa tx cI 3 (fun _ => 0)), (oa ty cI 3 (fun _ => 0)), (oc6 wy (.ref wx) (.ref wz) (nI 0) 0), (oa wx cI 2 (fun _ => 0)), (oa wz cI 2 (fun _ => 0)), (oc0 br 0 0 0 0), (oc0 bo 0 0 0 0), (oa aa cI 40 (fun _ => 0)), (oc5 ro (.ref za) (.ref zw) (.ref zx) (.ref zy) (.ref zg) 0), (oq za cF 200 (fun _ => none)), (oa zw cI 200 (fun _ => 0)), (oa zx cI 400 (fun _ => 0)), (oa zy cI 400 (fun _ => 0)), (oa zg cI 400 (fun _ => 0))] := hD
  refine lv_aload_n hx hb dX10_init_37 rfl (lv_at hl 0 rfl) ?_
  refine va_new (ci := 0) (fs := [.int 0, .int 0, .int 0, .int 0]) (C := RX0) (T := TX0) (N := 4) hx hb hts inX0 tyX0 tyX0_ok hown (hts _ mw_265) (hts _ mw_197) (hts _ mw_104) hK hP hD hS hA rfl dfX0 (show ((((3 + 12) + 1) + 5) + 1) ≤ 30 by omega) (show ((((208 + 150) + 6) + 1600) + 4) ≤ 2300 by omega) dX10_init_38 (fun bq H hP hD hS => ?_)
  have hP : va_P (dC, dI) classes [(oc8 x (.ref sh) (.ref lw) (.ref ro) .null .null .null .null .null .null 0 0 0 0), (oc7 sh (.ref fa) (nI 0)), (oq fa cF 200 (fun _ => none)), (oc3 lw (.ref dr) (.ref tg) (.ref wy) (.ref br) (.ref bo) (.ref aa)), (oc6 dr (.ref dx) (.ref dy) (nI 0) 0), (oa dx cI 40 (fun _ => 0)), (oa dy cI 40 (fun _ => 0)), (oc6 tg (.ref tx) (.ref ty) (nI 0) 1), (oa tx cI 3 (fun _ => 0)), (oa ty cI 3 (fun _ => 0)), (oc6 wy (.ref wx) (.ref wz) (nI 0) 0), (oa wx cI 2 (fun _ => 0)), (oa wz cI 2 (fun _ => 0)), (oc0 br 0 0 0 0), (oc0 bo 0 0 0 0), (oa aa cI 40 (fun _ => 0)), (oc5 ro (.ref za) (.ref zw) (.ref zx) (.ref zy) (.ref zg) 0), (oq za cF 200 (fun _ => none)), (oa zw cI 200 (fun _ => 0)), (oa zx cI 400 (fun _ => 0)), (oa zy cI 400 (fun _ => 0)), (oa zg cI 400 (fun _ => 0)), (oc0 bq 0 0 0 0)] H := hP
  have hD : va_D A [(oc8 x (.ref sh) (.ref lw) (.ref ro) .null .null .null .null .null .null 0 0 0 0), (oc7 sh (.ref fa) (nI 0)), (oq fa cF 200 (fun _ => none)), (oc3 lw (.ref dr) (.ref tg) (.ref wy) (.ref br) (.ref bo) (.ref aa)), (oc6 dr (.ref dx) (.ref dy) (nI 0) 0), (oa dx cI 40 (fun _ => 0)), (oa dy cI 40 (fun _ => 0)), (oc6 tg (.ref tx) (.ref ty) (nI 0) 1), (oa tx cI 3 (fun _ => 0)), (oa ty cI 3 (fun _ => 0)), (oc6 wy (.ref wx) (.ref wz) (nI 0) 0), (oa wx cI 2 (fun _ => 0)), (oa wz cI 2 (fun _ => 0)), (oc0 br 0 0 0 0), (oc0 bo 0 0 0 0), (oa aa cI 40 (fun _ => 0)), (oc5 ro (.ref za) (.ref zw) (.ref zx) (.ref zy) (.ref zg) 0), (oq za cF 200 (fun _ => none)), (oa zw cI 200 (fun _ => 0)), (oa zx cI 400 (fun _ => 0)), (oa zy cI 400 (fun _ => 0)), (oa zg cI 400 (fun _ => 0)), (oc0 bq 0 0 0 0)] := hD
  refine lv_dup hx hb dX10_init_41 rfl ?_
  have hPc := hP.sub (ws' := [(oc0 bq 0 0 0 0)]) [22] rfl
  have hDc := hD.sub (ws' := [(oc0 bq 0 0 0 0)]) [22] (by decide) rfl
  have hFc := va_free (wc := [(oc0 bq 0 0 0 0)]) hD hS hA [22] rfl
  refine zcall (st1 := [.ref bq, .ref x]) (va_runI (As := []) (rest := [.ref bq, .ref x]) ⟨hx, hb, hml, hown, hts⟩ (k_Box_init l dC dI cI cZ cF H.size bq ) (cwI 0 hts (zz_gC mc_yX0_init) rfl rfl rfl (hts _ mw_104) (hts _ mw_266) (hts _ mw_199) rfl (by decide +kernel) ⟨Nat.le_of_ble_eq_true rfl, Nat.le_of_ble_eq_true rfl⟩) (zPS2 hPc hDc hK3 hXN) rfl rfl hl.1 rfl (lv_room (Nat.le_of_ble_eq_true rfl)) dX10_init_42 ⟨show ((((3 + 12) + 1) + 5) + 1) ≤ 30 by omega, show ((((208 + 150) + 6) + 1600) + 4) ≤ 2300 by omega⟩) hS hFc hFc rfl (fun t H1 locs ht hB hk1 hS => ?_)
  obtain ⟨hP1, hD1⟩ := hB
  rw [ht] at hP1
  obtain ⟨hP, hD⟩ := va_join (wr := [(oc8 x (.ref sh) (.ref lw) (.ref ro) .null .null .null .null .null .null 0 0 0 0), (oc7 sh (.ref fa) (nI 0)), (oq fa cF 200 (fun _ => none)), (oc3 lw (.ref dr) (.ref tg) (.ref wy) (.ref br) (.ref bo) (.ref aa)), (oc6 dr (.ref dx) (.ref dy) (nI 0) 0), (oa dx cI 40 (fun _ => 0)), (oa dy cI 40 (fun _ => 0)), (oc6 tg (.ref tx) (.ref ty) (nI 0) 1), (oa tx cI 3 (fun _ => 0)), (oa ty cI 3 (fun _ => 0)), (oc6 wy (.ref wx) (.ref wz) (nI 0) 0), (oa wx cI 2 (fun _ => 0)), (oa wz cI 2 (fun _ => 0)), (oc0 br 0 0 0 0), (oc0 bo 0 0 0 0), (oa aa cI 40 (fun _ => 0)), (oc5 ro (.ref za) (.ref zw) (.ref zx) (.ref zy) (.ref zg) 0), (oq za cF 200 (fun _ => none)), (oa zw cI 200 (fun _ => 0)), (oa zx cI 400 (fun _ => 0)), (oa zy cI 400 (fun _ => 0)), (oa zg cI 400 (fun _ => 0))]) (w1 := [(oc0 bq 0 0 0 0)]) hP hD [22] [0, 1, 2, 3, 4, 5, 6, 7, 8, 9, 10, 11, 12, 13, 14, 15, 16, 17, 18, 19, 20, 21] rfl rfl (by decide) (by decide) hk1 hFc hP1 hD1
  clear hk1 hPc hDc hFc hP1 hD1 ht
  generalize H1 = H at hP hS ⊢
  have hP : va_P (dC, dI) classes [(oc8 x (.ref sh) (.ref lw) (.ref ro) .null .null .null .null .null .null 0 0 0 0), (oc7 sh (.ref fa) (nI 0)), (oq fa cF 200 (fun _ => none)), (oc3 lw (.ref dr) (.ref tg) (.ref wy) (.ref br) (.ref bo) (.ref aa)), (oc6 dr (.ref dx) (.ref dy) (nI 0) 0), (oa dx cI 40 (fun _ => 0)), (oa dy cI 40 (fun _ => 0)), (oc6 tg (.ref tx) (.ref ty) (nI 0) 1), (oa tx cI 3 (fun _ => 0)), (oa ty cI 3 (fun _ => 0)), (oc6 wy (.ref wx) (.ref wz) (nI 0) 0), (oa wx cI 2 (fun _ => 0)), (oa wz cI 2 (fun _ => 0)), (oc0 br 0 0 0 0), (oc0 bo 0 0 0 0), (oa aa cI 40 (fun _ => 0)), (oc5 ro (.ref za) (.ref zw) (.ref zx) (.ref zy) (.ref zg) 0), (oq za cF 200 (fun _ => none)), (oa zw cI 200 (fun _ => 0)), (oa zx cI 400 (fun _ => 0)), (oa zy cI 400 (fun _ => 0)), (oa zg cI 400 (fun _ => 0)), (oc0 bq 0 0 0 0)] H := hP
  have hD : va_D A [(oc8 x (.ref sh) (.ref lw) (.ref ro) .null .null .null .null .null .null 0 0 0 0), (oc7 sh (.ref fa) (nI 0)), (oq fa cF 200 (fun _ => none)), (oc3 lw (.ref dr) (.ref tg) (.ref wy) (.ref br) (.ref bo) (.ref aa)), (oc6 dr (.ref dx) (.ref dy) (nI 0) 0), (oa dx cI 40 (fun _ => 0)), (oa dy cI 40 (fun _ => 0)), (oc6 tg (.ref tx) (.ref ty) (nI 0) 1), (oa tx cI 3 (fun _ => 0)), (oa ty cI 3 (fun _ => 0)), (oc6 wy (.ref wx) (.ref wz) (nI 0) 0), (oa wx cI 2 (fun _ => 0)), (oa wz cI 2 (fun _ => 0)), (oc0 br 0 0 0 0), (oc0 bo 0 0 0 0), (oa aa cI 40 (fun _ => 0)), (oc5 ro (.ref za) (.ref zw) (.ref zx) (.ref zy) (.ref zg) 0), (oq za cF 200 (fun _ => none)), (oa zw cI 200 (fun _ => 0)), (oa zx cI 400 (fun _ => 0)), (oa zy cI 400 (fun _ => 0)), (oa zg cI 400 (fun _ => 0)), (oc0 bq 0 0 0 0)] := hD
  refine va_putF (D := (dC, dI)) (ci := 8) (v := .ref bq) (ty := .object "ScaleShop$Box") (C := RX10) (T := TX10) (N := 13) hx hb hts inX10 tyX10 tyX10_ok nmX10 hown hK hP hD hS 0 rfl rfl 3 (by decide) (hts _ mw_312) (fun _ h9 => h9) rfl hin rfl (by decide +kernel) rfl rfl (Nat.le_of_ble_eq_true rfl) dX10_init_45 (fun H locs hP hD hS => ?_)
  have hP : va_P (dC, dI) classes [(oc8 x (.ref sh) (.ref lw) (.ref ro) (.ref bq) .null .null .null .null .null 0 0 0 0), (oc7 sh (.ref fa) (nI 0)), (oq fa cF 200 (fun _ => none)), (oc3 lw (.ref dr) (.ref tg) (.ref wy) (.ref br) (.ref bo) (.ref aa)), (oc6 dr (.ref dx) (.ref dy) (nI 0) 0), (oa dx cI 40 (fun _ => 0)), (oa dy cI 40 (fun _ => 0)), (oc6 tg (.ref tx) (.ref ty) (nI 0) 1), (oa tx cI 3 (fun _ => 0)), (oa ty cI 3 (fun _ => 0)), (oc6 wy (.ref wx) (.ref wz) (nI 0) 0), (oa wx cI 2 (fun _ => 0)), (oa wz cI 2 (fun _ => 0)), (oc0 br 0 0 0 0), (oc0 bo 0 0 0 0), (oa aa cI 40 (fun _ => 0)), (oc5 ro (.ref za) (.ref zw) (.ref zx) (.ref zy) (.ref zg) 0), (oq za cF 200 (fun _ => none)), (oa zw cI 200 (fun _ => 0)), (oa zx cI 400 (fun _ => 0)), (oa zy cI 400 (fun _ => 0)), (oa zg cI 400 (fun _ => 0)), (oc0 bq 0 0 0 0)] H := hP
  have hD : va_D A [(oc8 x (.ref sh) (.ref lw) (.ref ro) (.ref bq) .null .null .null .null .null 0 0 0 0), (oc7 sh (.ref fa) (nI 0)), (oq fa cF 200 (fun _ => none)), (oc3 lw (.ref dr) (.ref tg) (.ref wy) (.ref br) (.ref bo) (.ref aa)), (oc6 dr (.ref dx) (.ref dy) (nI 0) 0), (oa dx cI 40 (fun _ => 0)), (oa dy cI 40 (fun _ => 0)), (oc6 tg (.ref tx) (.ref ty) (nI 0) 1), (oa tx cI 3 (fun _ => 0)), (oa ty cI 3 (fun _ => 0)), (oc6 wy (.ref wx) (.ref wz) (nI 0) 0), (oa wx cI 2 (fun _ => 0)), (oa wz cI 2 (fun _ => 0)), (oc0 br 0 0 0 0), (oc0 bo 0 0 0 0), (oa aa cI 40 (fun _ => 0)), (oc5 ro (.ref za) (.ref zw) (.ref zx) (.ref zy) (.ref zg) 0), (oq za cF 200 (fun _ => none)), (oa zw cI 200 (fun _ => 0)), (oa zx cI 400 (fun _ => 0)), (oa zy cI 400 (fun _ => 0)), (oa zg cI 400 (fun _ => 0)), (oc0 bq 0 0 0 0)] := hD
  refine lv_aload_n hx hb dX10_init_48 rfl (lv_at hl 0 rfl) ?_
  refine va_new (ci := 0) (fs := [.int 0, .int 0, .int 0, .int 0]) (C := RX0) (T := TX0) (N := 4) hx hb hts inX0 tyX0 tyX0_ok hown (hts _ mw_265) (hts _ mw_197) (hts _ mw_104) hK hP hD hS hA rfl dfX0 (show (((((3 + 12) + 1) + 5) + 1) + 1) ≤ 30 by omega) (show (((((208 + 150) + 6) + 1600) + 4) + 4) ≤ 2300 by omega) dX10_init_49 (fun bp H hP hD hS => ?_)
  have hP : va_P (dC, dI) classes [(oc8 x (.ref sh) (.ref lw) (.ref ro) (.ref bq) .null .null .null .null .null 0 0 0 0), (oc7 sh (.ref fa) (nI 0)), (oq fa cF 200 (fun _ => none)), (oc3 lw (.ref dr) (.ref tg) (.ref wy) (.ref br) (.ref bo) (.ref aa)), (oc6 dr (.ref dx) (.ref dy) (nI 0) 0), (oa dx cI 40 (fun _ => 0)), (oa dy cI 40 (fun _ => 0)), (oc6 tg (.ref tx) (.ref ty) (nI 0) 1), (oa tx cI 3 (fun _ => 0)), (oa ty cI 3 (fun _ => 0)), (oc6 wy (.ref wx) (.ref wz) (nI 0) 0), (oa wx cI 2 (fun _ => 0)), (oa wz cI 2 (fun _ => 0)), (oc0 br 0 0 0 0), (oc0 bo 0 0 0 0), (oa aa cI 40 (fun _ => 0)), (oc5 ro (.ref za) (.ref zw) (.ref zx) (.ref zy) (.ref zg) 0), (oq za cF 200 (fun _ => none)), (oa zw cI 200 (fun _ => 0)), (oa zx cI 400 (fun _ => 0)), (oa zy cI 400 (fun _ => 0)), (oa zg cI 400 (fun _ => 0)), (oc0 bq 0 0 0 0), (oc0 bp 0 0 0 0)] H := hP
  have hD : va_D A [(oc8 x (.ref sh) (.ref lw) (.ref ro) (.ref bq) .null .null .null .null .null 0 0 0 0), (oc7 sh (.ref fa) (nI 0)), (oq fa cF 200 (fun _ => none)), (oc3 lw (.ref dr) (.ref tg) (.ref wy) (.ref br) (.ref bo) (.ref aa)), (oc6 dr (.ref dx) (.ref dy) (nI 0) 0), (oa dx cI 40 (fun _ => 0)), (oa dy cI 40 (fun _ => 0)), (oc6 tg (.ref tx) (.ref ty) (nI 0) 1), (oa tx cI 3 (fun _ => 0)), (oa ty cI 3 (fun _ => 0)), (oc6 wy (.ref wx) (.ref wz) (nI 0) 0), (oa wx cI 2 (fun _ => 0)), (oa wz cI 2 (fun _ => 0)), (oc0 br 0 0 0 0), (oc0 bo 0 0 0 0), (oa aa cI 40 (fun _ => 0)), (oc5 ro (.ref za) (.ref zw) (.ref zx) (.ref zy) (.ref zg) 0), (oq za cF 200 (fun _ => none)), (oa zw cI 200 (fun _ => 0)), (oa zx cI 400 (fun _ => 0)), (oa zy cI 400 (fun _ => 0)), (oa zg cI 400 (fun _ => 0)), (oc0 bq 0 0 0 0), (oc0 bp 0 0 0 0)] := hD
  refine lv_dup hx hb dX10_init_52 rfl ?_
  have hPc := hP.sub (ws' := [(oc0 bp 0 0 0 0)]) [23] rfl
  have hDc := hD.sub (ws' := [(oc0 bp 0 0 0 0)]) [23] (by decide) rfl
  have hFc := va_free (wc := [(oc0 bp 0 0 0 0)]) hD hS hA [23] rfl
  refine zcall (st1 := [.ref bp, .ref x]) (va_runI (As := []) (rest := [.ref bp, .ref x]) ⟨hx, hb, hml, hown, hts⟩ (k_Box_init l dC dI cI cZ cF H.size bp ) (cwI 0 hts (zz_gC mc_yX0_init) rfl rfl rfl (hts _ mw_104) (hts _ mw_266) (hts _ mw_199) rfl (by decide +kernel) ⟨Nat.le_of_ble_eq_true rfl, Nat.le_of_ble_eq_true rfl⟩) (zPS2 hPc hDc hK3 hXN) rfl rfl hl.1 rfl (lv_room (Nat.le_of_ble_eq_true rfl)) dX10_init_53 ⟨show (((((3 + 12) + 1) + 5) + 1) + 1) ≤ 30 by omega, show (((((208 + 150) + 6) + 1600) + 4) + 4) ≤ 2300 by omega⟩) hS hFc hFc rfl (fun t H1 locs ht hB hk1 hS => ?_)
  obtain ⟨hP1, hD1⟩ := hB
  rw [ht] at hP1
  obtain ⟨hP, hD⟩ := va_join (wr := [(oc8 x (.ref sh) (.ref lw) (.ref ro) (.ref bq) .null .null .null .null .null 0 0 0 0), (oc7 sh (.ref fa) (nI 0)), (oq fa cF 200 (fun _ => none)), (oc3 lw (.ref dr) (.ref tg) (.ref wy) (.ref br) (.ref bo) (.ref aa)), (oc6 dr (.ref dx) (.ref dy) (nI 0) 0), (oa dx cI 40 (fun _ => 0)), (oa dy cI 40 (fun _ => 0)), (oc6 tg (.ref tx) (.ref ty) (nI 0) 1), (oa tx cI 3 (fun _ => 0)), (oa ty cI 3 (fun _ => 0)), (oc6 wy (.ref wx) (.ref wz) (nI 0) 0), (oa wx cI 2 (fun _ => 0)), (oa wz cI 2 (fun _ => 0)), (oc0 br 0 0 0 0), (oc0 bo 0 0 0 0), (oa aa cI 40 (fun _ => 0)), (oc5 ro (.ref za) (.ref zw) (.ref zx) (.ref zy) (.ref zg) 0), (oq za cF 200 (fun _ => none)), (oa zw cI 200 (fun _ => 0)), (oa zx cI 400 (fun _ => 0)), (oa zy cI 400 (fun _ => 0)), (oa zg cI 400 (fun _ => 0)), (oc0 bq 0 0 0 0)]) (w1 := [(oc0 bp 0 0 0 0)]) hP hD [23] [0, 1, 2, 3, 4, 5, 6, 7, 8, 9, 10, 11, 12, 13, 14, 15, 16, 17, 18, 19, 20, 21, 22] rfl rfl (by decide) (by decide) hk1 hFc hP1 hD1
  clear hk1 hPc hDc hFc hP1 hD1 ht
  generalize H1 = H at hP hS ⊢
  have hP : va_P (dC, dI) classes [(oc8 x (.ref sh) (.ref lw) (.ref ro) (.ref bq) .null .null .null .null .null 0 0 0 0), (oc7 sh (.ref fa) (nI 0)), (oq fa cF 200 (fun _ => none)), (oc3 lw (.ref dr) (.ref tg) (.ref wy) (.ref br) (.ref bo) (.ref aa)), (oc6 dr (.ref dx) (.ref dy) (nI 0) 0), (oa dx cI 40 (fun _ => 0)), (oa dy cI 40 (fun _ => 0)), (oc6 tg (.ref tx) (.ref ty) (nI 0) 1), (oa tx cI 3 (fun _ => 0)), (oa ty cI 3 (fun _ => 0)), (oc6 wy (.ref wx) (.ref wz) (nI 0) 0), (oa wx cI 2 (fun _ => 0)), (oa wz cI 2 (fun _ => 0)), (oc0 br 0 0 0 0), (oc0 bo 0 0 0 0), (oa aa cI 40 (fun _ => 0)), (oc5 ro (.ref za) (.ref zw) (.ref zx) (.ref zy) (.ref zg) 0), (oq za cF 200 (fun _ => none)), (oa zw cI 200 (fun _ => 0)), (oa zx cI 400 (fun _ => 0)), (oa zy cI 400 (fun _ => 0)), (oa zg cI 400 (fun _ => 0)), (oc0 bq 0 0 0 0), (oc0 bp 0 0 0 0)] H := hP
  have hD : va_D A [(oc8 x (.ref sh) (.ref lw) (.ref ro) (.ref bq) .null .null .null .null .null 0 0 0 0), (oc7 sh (.ref fa) (nI 0)), (oq fa cF 200 (fun _ => none)), (oc3 lw (.ref dr) (.ref tg) (.ref wy) (.ref br) (.ref bo) (.ref aa)), (oc6 dr (.ref dx) (.ref dy) (nI 0) 0), (oa dx cI 40 (fun _ => 0)), (oa dy cI 40 (fun _ => 0)), (oc6 tg (.ref tx) (.ref ty) (nI 0) 1), (oa tx cI 3 (fun _ => 0)), (oa ty cI 3 (fun _ => 0)), (oc6 wy (.ref wx) (.ref wz) (nI 0) 0), (oa wx cI 2 (fun _ => 0)), (oa wz cI 2 (fun _ => 0)), (oc0 br 0 0 0 0), (oc0 bo 0 0 0 0), (oa aa cI 40 (fun _ => 0)), (oc5 ro (.ref za) (.ref zw) (.ref zx) (.ref zy) (.ref zg) 0), (oq za cF 200 (fun _ => none)), (oa zw cI 200 (fun _ => 0)), (oa zx cI 400 (fun _ => 0)), (oa zy cI 400 (fun _ => 0)), (oa zg cI 400 (fun _ => 0)), (oc0 bq 0 0 0 0), (oc0 bp 0 0 0 0)] := hD
  refine va_putF (D := (dC, dI)) (ci := 8) (v := .ref bp) (ty := .object "ScaleShop$Box") (C := RX10) (T := TX10) (N := 13) hx hb hts inX10 tyX10 tyX10_ok nmX10 hown hK hP hD hS 0 rfl rfl 4 (by decide) (hts _ mw_313) (fun _ h9 => h9) rfl hin rfl (by decide +kernel) rfl rfl (Nat.le_of_ble_eq_true rfl) dX10_init_56 (fun H locs hP hD hS => ?_)
  have hP : va_P (dC, dI) classes [(oc8 x (.ref sh) (.ref lw) (.ref ro) (.ref bq) (.ref bp) .null .null .null .null 0 0 0 0), (oc7 sh (.ref fa) (nI 0)), (oq fa cF 200 (fun _ => none)), (oc3 lw (.ref dr) (.ref tg) (.ref wy) (.ref br) (.ref bo) (.ref aa)), (oc6 dr (.ref dx) (.ref dy) (nI 0) 0), (oa dx cI 40 (fun _ => 0)), (oa dy cI 40 (fun _ => 0)), (oc6 tg (.ref tx) (.ref ty) (nI 0) 1), (oa tx cI 3 (fun _ => 0)), (oa ty cI 3 (fun _ => 0)), (oc6 wy (.ref wx) (.ref wz) (nI 0) 0), (oa wx cI 2 (fun _ => 0)), (oa wz cI 2 (fun _ => 0)), (oc0 br 0 0 0 0), (oc0 bo 0 0 0 0), (oa aa cI 40 (fun _ => 0)), (oc5 ro (.ref za) (.ref zw) (.ref zx) (.ref zy) (.ref zg) 0), (oq za cF 200 (fun _ => none)), (oa zw cI 200 (fun _ => 0)), (oa zx cI 400 (fun _ => 0)), (oa zy cI 400 (fun _ => 0)), (oa zg cI 400 (fun _ => 0)), (oc0 bq 0 0 0 0), (oc0 bp 0 0 0 0)] H := hP
  have hD : va_D A [(oc8 x (.ref sh) (.ref lw) (.ref ro) (.ref bq) (.ref bp) .null .null .null .null 0 0 0 0), (oc7 sh (.ref fa) (nI 0)), (oq fa cF 200 (fun _ => none)), (oc3 lw (.ref dr) (.ref tg) (.ref wy) (.ref br) (.ref bo) (.ref aa)), (oc6 dr (.ref dx) (.ref dy) (nI 0) 0), (oa dx cI 40 (fun _ => 0)), (oa dy cI 40 (fun _ => 0)), (oc6 tg (.ref tx) (.ref ty) (nI 0) 1), (oa tx cI 3 (fun _ => 0)), (oa ty cI 3 (fun _ => 0)), (oc6 wy (.ref wx) (.ref wz) (nI 0) 0), (oa wx cI 2 (fun _ => 0)), (oa wz cI 2 (fun _ => 0)), (oc0 br 0 0 0 0), (oc0 bo 0 0 0 0), (oa aa cI 40 (fun _ => 0)), (oc5 ro (.ref za) (.ref zw) (.ref zx) (.ref zy) (.ref zg) 0), (oq za cF 200 (fun _ => none)), (oa zw cI 200 (fun _ => 0)), (oa zx cI 400 (fun _ => 0)), (oa zy cI 400 (fun _ => 0)), (oa zg cI 400 (fun _ => 0)), (oc0 bq 0 0 0 0), (oc0 bp 0 0 0 0)] := hD
  refine lv_aload_n hx hb dX10_init_59 rfl (lv_at hl 0 rfl) ?_
  refine va_new (ci := 2) (fs := [.long 0, .long 0]) (C := RX3) (T := TX3) (N := 2) hx hb hts inX3 tyX3 tyX3_ok hown (hts _ mw_267) (hts _ mw_268) (hts _ mw_106) hK hP hD hS hA rfl dfX3 (show ((((((3 + 12) + 1) + 5) + 1) + 1) + 1) ≤ 30 by omega) (show ((((((208 + 150) + 6) + 1600) + 4) + 4) + 2) ≤ 2300 by omega) dX10_init_60 (fun dq H hP hD hS => ?_)
  have hP : va_P (dC, dI) classes [(oc8 x (.ref sh) (.ref lw) (.ref ro) (.ref bq) (.ref bp) .null .null .null .null 0 0 0 0), (oc7 sh (.ref fa) (nI 0)), (oq fa cF 200 (fun _ => none)), (oc3 lw (.ref dr) (.ref tg) (.ref wy) (.ref br) (.ref bo) (.ref aa)), (oc6 dr (.ref dx) (.ref dy) (nI 0) 0), (oa dx cI 40 (fun _ => 0)), (oa dy cI 40 (fun _ => 0)), (oc6 tg (.ref tx) (.ref ty) (nI 0) 1), (oa tx cI 3 (fun _ => 0)), (oa ty cI 3 (fun _ => 0)), (oc6 wy (.ref wx) (.ref wz) (nI 0) 0), (oa wx cI 2 (fun _ => 0)), (oa wz cI 2 (fun _ => 0)), (oc0 br 0 0 0 0), (oc0 bo 0 0 0 0), (oa aa cI 40 (fun _ => 0)), (oc5 ro (.ref za) (.ref zw) (.ref zx) (.ref zy) (.ref zg) 0), (oq za cF 200 (fun _ => none)), (oa zw cI 200 (fun _ => 0)), (oa zx cI 400 (fun _ => 0)), (oa zy cI 400 (fun _ => 0)), (oa zg cI 400 (fun _ => 0)), (oc0 bq 0 0 0 0), (oc0 bp 0 0 0 0), (oc2 dq 0 0)] H := hP
  have hD : va_D A [(oc8 x (.ref sh) (.ref lw) (.ref ro) (.ref bq) (.ref bp) .null .null .null .null 0 0 0 0), (oc7 sh (.ref fa) (nI 0)), (oq fa cF 200 (fun _ => none)), (oc3 lw (.ref dr) (.ref tg) (.ref wy) (.ref br) (.ref bo) (.ref aa)), (oc6 dr (.ref dx) (.ref dy) (nI 0) 0), (oa dx cI 40 (fun _ => 0)), (oa dy cI 40 (fun _ => 0)), (oc6 tg (.ref tx) (.ref ty) (nI 0) 1), (oa tx cI 3 (fun _ => 0)), (oa ty cI 3 (fun _ => 0)), (oc6 wy (.ref wx) (.ref wz) (nI 0) 0), (oa wx cI 2 (fun _ => 0)), (oa wz cI 2 (fun _ => 0)), (oc0 br 0 0 0 0), (oc0 bo 0 0 0 0), (oa aa cI 40 (fun _ => 0)), (oc5 ro (.ref za) (.ref zw) (.ref zx) (.ref zy) (.ref zg) 0), (oq za cF 200 (fun _ => none)), (oa zw cI 200 (fun _ => 0)), (oa zx cI 400 (fun _ => 0)), (oa zy cI 400 (fun _ => 0)), (oa zg cI 400 (fun _ => 0)), (oc0 bq 0 0 0 0), (oc0 bp 0 0 0 0), (oc2 dq 0 0)] := hD
  refine lv_dup hx hb dX10_init_63 rfl ?_
  have hPc := hP.sub (ws' := [(oc2 dq 0 0)]) [24] rfl
  have hDc := hD.sub (ws' := [(oc2 dq 0 0)]) [24] (by decide) rfl
  have hFc := va_free (wc := [(oc2 dq 0 0)]) hD hS hA [24] rfl
  refine zcall (st1 := [.ref dq, .ref x]) (va_runI (As := []) (rest := [.ref dq, .ref x]) ⟨hx, hb, hml, hown, hts⟩ (k_Fraction_init l dC dI cI cZ cF H.size dq ) (cwI 0 hts (zz_gC mc_yX3_init) rfl rfl rfl (hts _ mw_106) (hts _ mw_269) (hts _ mw_270) rfl (by decide +kernel) ⟨Nat.le_of_ble_eq_true rfl, Nat.le_of_ble_eq_true rfl⟩) (zPS2 hPc hDc hK3 hXN) rfl rfl hl.1 rfl (lv_room (Nat.le_of_ble_eq_true rfl)) dX10_init_64 ⟨show ((((((3 + 12) + 1) + 5) + 1) + 1) + 1) ≤ 30 by omega, show ((((((208 + 150) + 6) + 1600) + 4) + 4) + 2) ≤ 2300 by omega⟩) hS hFc hFc rfl (fun t H1 locs ht hB hk1 hS => ?_)
  obtain ⟨hP1, hD1⟩ := hB
  rw [ht] at hP1
  obtain ⟨hP, hD⟩ := va_join (wr := [(oc8 x (.ref sh) (.ref lw) (.ref ro) (.ref bq) (.ref bp) .null .null .null .null 0 0 0 0), (oc7 sh (.ref fa) (nI 0)), (oq fa cF 200 (fun _ => none)), (oc3 lw (.ref dr) (.ref tg) (.ref wy) (.ref br) (.ref bo) (.ref aa)), (oc6 dr (.ref dx) (.ref dy) (nI 0) 0), (oa dx cI 40 (fun _ => 0)), (oa dy cI 40 (fun _ => 0)), (oc6 tg (.ref tx) (.ref ty) (nI 0) 1), (oa tx cI 3 (fun _ => 0)), (oa ty cI 3 (fun _ => 0)), (oc6 wy (.ref wx) (.ref wz) (nI 0) 0), (oa wx cI 2 (fun _ => 0)), (oa wz cI 2 (fun _ => 0)), (oc0 br 0 0 0 0), (oc0 bo 0 0 0 0), (oa aa cI 40 (fun _ => 0)), (oc5 ro (.ref za) (.ref zw) (.ref zx) (.ref zy) (.ref zg) 0), (oq za cF 200 (fun _ => none)), (oa zw cI 200 (fun _ => 0)), (oa zx cI 400 (fun _ => 0)), (oa zy cI 400 (fun _ => 0)), (oa zg cI 400 (fun _ => 0)), (oc0 bq 0 0 0 0), (oc0 bp 0 0 0 0)]) (w1 := [(oc2 dq 0 0)]) hP hD [24] [0, 1, 2, 3, 4, 5, 6, 7, 8, 9, 10, 11, 12, 13, 14, 15, 16, 17, 18, 19, 20, 21, 22, 23] rfl rfl (by decide) (by decide) hk1 hFc hP1 hD1
  clear hk1 hPc hDc hFc hP1 hD1 ht
  generalize H1 = H at hP hS ⊢
  have hP : va_P (dC, dI) classes [(oc8 x (.ref sh) (.ref lw) (.ref ro) (.ref bq) (.ref bp) .null .null .null .null 0 0 0 0), (oc7 sh (.ref fa) (nI 0)), (oq fa cF 200 (fun _ => none)), (oc3 lw (.ref dr) (.ref tg) (.ref wy) (.ref br) (.ref bo) (.ref aa)), (oc6 dr (.ref dx) (.ref dy) (nI 0) 0), (oa dx cI 40 (fun _ => 0)), (oa dy cI 40 (fun _ => 0)), (oc6 tg (.ref tx) (.ref ty) (nI 0) 1), (oa tx cI 3 (fun _ => 0)), (oa ty cI 3 (fun _ => 0)), (oc6 wy (.ref wx) (.ref wz) (nI 0) 0), (oa wx cI 2 (fun _ => 0)), (oa wz cI 2 (fun _ => 0)), (oc0 br 0 0 0 0), (oc0 bo 0 0 0 0), (oa aa cI 40 (fun _ => 0)), (oc5 ro (.ref za) (.ref zw) (.ref zx) (.ref zy) (.ref zg) 0), (oq za cF 200 (fun _ => none)), (oa zw cI 200 (fun _ => 0)), (oa zx cI 400 (fun _ => 0)), (oa zy cI 400 (fun _ => 0)), (oa zg cI 400 (fun _ => 0)), (oc0 bq 0 0 0 0), (oc0 bp 0 0 0 0), (oc2 dq 0 0)] H := hP
  have hD : va_D A [(oc8 x (.ref sh) (.ref lw) (.ref ro) (.ref bq) (.ref bp) .null .null .null .null 0 0 0 0), (oc7 sh (.ref fa) (nI 0)), (oq fa cF 200 (fun _ => none)), (oc3 lw (.ref dr) (.ref tg) (.ref wy) (.ref br) (.ref bo) (.ref aa)), (oc6 dr (.ref dx) (.ref dy) (nI 0) 0), (oa dx cI 40 (fun _ => 0)), (oa dy cI 40 (fun _ => 0)), (oc6 tg (.ref tx) (.ref ty) (nI 0) 1), (oa tx cI 3 (fun _ => 0)), (oa ty cI 3 (fun _ => 0)), (oc6 wy (.ref wx) (.ref wz) (nI 0) 0), (oa wx cI 2 (fun _ => 0)), (oa wz cI 2 (fun _ => 0)), (oc0 br 0 0 0 0), (oc0 bo 0 0 0 0), (oa aa cI 40 (fun _ => 0)), (oc5 ro (.ref za) (.ref zw) (.ref zx) (.ref zy) (.ref zg) 0), (oq za cF 200 (fun _ => none)), (oa zw cI 200 (fun _ => 0)), (oa zx cI 400 (fun _ => 0)), (oa zy cI 400 (fun _ => 0)), (oa zg cI 400 (fun _ => 0)), (oc0 bq 0 0 0 0), (oc0 bp 0 0 0 0), (oc2 dq 0 0)] := hD
  refine va_putF (D := (dC, dI)) (ci := 8) (v := .ref dq) (ty := .object "ScaleShop$Fraction") (C := RX10) (T := TX10) (N := 13) hx hb hts inX10 tyX10 tyX10_ok nmX10 hown hK hP hD hS 0 rfl rfl 5 (by decide) (hts _ mw_314) (fun _ h9 => h9) rfl hin rfl (by decide +kernel) rfl rfl (Nat.le_of_ble_eq_true rfl) dX10_init_67 (fun H locs hP hD hS => ?_)
  have hP : va_P (dC, dI) classes [(oc8 x (.ref sh) (.ref lw) (.ref ro) (.ref bq) (.ref bp) (.ref dq) .null .null .null 0 0 0 0), (oc7 sh (.ref fa) (nI 0)), (oq fa cF 200 (fun _ => none)), (oc3 lw (.ref dr) (.ref tg) (.ref wy) (.ref br) (.ref bo) (.ref aa)), (oc6 dr (.ref dx) (.ref dy) (nI 0) 0), (oa dx cI 40 (fun _ => 0)), (oa dy cI 40 (fun _ => 0)), (oc6 tg (.ref tx) (.ref ty) (nI 0) 1), (oa tx cI 3 (fun _ => 0)), (oa ty cI 3 (fun _ => 0)), (oc6 wy (.ref wx) (.ref wz) (nI 0) 0), (oa wx cI 2 (fun _ => 0)), (oa wz cI 2 (fun _ => 0)), (oc0 br 0 0 0 0), (oc0 bo 0 0 0 0), (oa aa cI 40 (fun _ => 0)), (oc5 ro (.ref za) (.ref zw) (.ref zx) (.ref zy) (.ref zg) 0), (oq za cF 200 (fun _ => none)), (oa zw cI 200 (fun _ => 0)), (oa zx cI 400 (fun _ => 0)), (oa zy cI 400 (fun _ => 0)), (oa zg cI 400 (fun _ => 0)), (oc0 bq 0 0 0 0), (oc0 bp 0 0 0 0), (oc2 dq 0 0)] H := hP
  have hD : va_D A [(oc8 x (.ref sh) (.ref lw) (.ref ro) (.ref bq) (.ref bp) (.ref dq) .null .null .null 0 0 0 0), (oc7 sh (.ref fa) (nI 0)), (oq fa cF 200 (fun _ => none)), (oc3 lw (.ref dr) (.ref tg) (.ref wy) (.ref br) (.ref bo) (.ref aa)), (oc6 dr (.ref dx) (.ref dy) (nI 0) 0), (oa dx cI 40 (fun _ => 0)), (oa dy cI 40 (fun _ => 0)), (oc6 tg (.ref tx) (.ref ty) (nI 0) 1), (oa tx cI 3 (fun _ => 0)), (oa ty cI 3 (fun _ => 0)), (oc6 wy (.ref wx) (.ref wz) (nI 0) 0), (oa wx cI 2 (fun _ => 0)), (oa wz cI 2 (fun _ => 0)), (oc0 br 0 0 0 0), (oc0 bo 0 0 0 0), (oa aa cI 40 (fun _ => 0)), (oc5 ro (.ref za) (.ref zw) (.ref zx) (.ref zy) (.ref zg) 0), (oq za cF 200 (fun _ => none)), (oa zw cI 200 (fun _ => 0)), (oa zx cI 400 (fun _ => 0)), (oa zy cI 400 (fun _ => 0)), (oa zg cI 400 (fun _ => 0)), (oc0 bq 0 0 0 0), (oc0 bp 0 0 0 0), (oc2 dq 0 0)] := hD
  refine lv_aload_n hx hb dX10_init_70 rfl (lv_at hl 0 rfl) ?_
  refine va_new (ci := 2) (fs := [.long 0, .long 0]) (C := RX3) (T := TX3) (N := 2) hx hb hts inX3 tyX3 tyX3_ok hown (hts _ mw_267) (hts _ mw_268) (hts _ mw_106) hK hP hD hS hA rfl dfX3 (show (((((((3 + 12) + 1) + 5) + 1) + 1) + 1) + 1) ≤ 30 by omega) (show (((((((208 + 150) + 6) + 1600) + 4) + 4) + 2) + 2) ≤ 2300 by omega) dX10_init_71 (fun dp H hP hD hS => ?_)
  have hP : va_P (dC, dI) classes [(oc8 x (.ref sh) (.ref lw) (.ref ro) (.ref bq) (.ref bp) (.ref dq) .null .null .null 0 0 0 0), (oc7 sh (.ref fa) (nI 0)), (oq fa cF 200 (fun _ => none)), (oc3 lw (.ref dr) (.ref tg) (.ref wy) (.ref br) (.ref bo) (.ref aa)), (oc6 dr (.ref dx) (.ref dy) (nI 0) 0), (oa dx cI 40 (fun _ => 0)), (oa dy cI 40 (fun _ => 0)), (oc6 tg (.ref tx) (.ref ty) (nI 0) 1), (oa tx cI 3 (fun _ => 0)), (oa ty cI 3 (fun _ => 0)), (oc6 wy (.ref wx) (.ref wz) (nI 0) 0), (oa wx cI 2 (fun _ => 0)), (oa wz cI 2 (fun _ => 0)), (oc0 br 0 0 0 0), (oc0 bo 0 0 0 0), (oa aa cI 40 (fun _ => 0)), (oc5 ro (.ref za) (.ref zw) (.ref zx) (.ref zy) (.ref zg) 0), (oq za cF 200 (fun _ => none)), (oa zw cI 200 (fun _ => 0)), (oa zx cI 400 (fun _ => 0)), (oa zy cI 400 (fun _ => 0)), (oa zg cI 400 (fun _ => 0)), (oc0 bq 0 0 0 0), (oc0 bp 0 0 0 0), (oc2 dq 0 0), (oc2 dp 0 0)] H := hP
  have hD : va_D A [(oc8 x (.ref sh) (.ref lw) (.ref ro) (.ref bq) (.ref bp) (.ref dq) .null .null .null 0 0 0 0), (oc7 sh (.ref fa) (nI 0)), (oq fa cF 200 (fun _ => none)), (oc3 lw (.ref dr) (.ref tg) (.ref wy) (.ref br) (.ref bo) (.ref aa)), (oc6 dr (.ref dx) (.ref dy) (nI 0) 0), (oa dx cI 40 (fun _ => 0)), (oa dy cI 40 (fun _ => 0)), (oc6 tg (.ref tx) (.ref ty) (nI 0) 1), (oa tx cI 3 (fun _ => 0)), (oa ty cI 3 (fun _ => 0)), (oc6 wy (.ref wx) (.ref wz) (nI 0) 0), (oa wx cI 2 (fun _ => 0)), (oa wz cI 2 (fun _ => 0)), (oc0 br 0 0 0 0), (oc0 bo 0 0 0 0), (oa aa cI 40 (fun _ => 0)), (oc5 ro (.ref za) (.ref zw) (.ref zx) (.ref zy) (.ref zg) 0), (oq za cF 200 (fun _ => none)), (oa zw cI 200 (fun _ => 0)), (oa zx cI 400 (fun _ => 0)), (oa zy cI 400 (fun _ => 0)), (oa zg cI 400 (fun _ => 0)), (oc0 bq 0 0 0 0), (oc0 bp 0 0 0 0), (oc2 dq 0 0), (oc2 dp 0 0)] := hD
  refine lv_dup hx hb dX10_init_74 rfl ?_
  have hPc := hP.sub (ws' := [(oc2 dp 0 0)]) [25] rfl
  have hDc := hD.sub (ws' := [(oc2 dp 0 0)]) [25] (by decide) rfl
  have hFc := va_free (wc := [(oc2 dp 0 0)]) hD hS hA [25] rfl
  refine zcall (st1 := [.ref dp, .ref x]) (va_runI (As := []) (rest := [.ref dp, .ref x]) ⟨hx, hb, hml, hown, hts⟩ (k_Fraction_init l dC dI cI cZ cF H.size dp ) (cwI 0 hts (zz_gC mc_yX3_init) rfl rfl rfl (hts _ mw_106) (hts _ mw_269) (hts _ mw_270) rfl (by decide +kernel) ⟨Nat.le_of_ble_eq_true rfl, Nat.le_of_ble_eq_true rfl⟩) (zPS2 hPc hDc hK3 hXN) rfl rfl hl.1 rfl (lv_room (Nat.le_of_ble_eq_true rfl)) dX10_init_75 ⟨show (((((((3 + 12) + 1) + 5) + 1) + 1) + 1) + 1) ≤ 30 by omega, show (((((((208 + 150) + 6) + 1600) + 4) + 4) + 2) + 2) ≤ 2300 by omega⟩) hS hFc hFc rfl (fun t H1 locs ht hB hk1 hS => ?_)
  obtain ⟨hP1, hD1⟩ := hB
  rw [ht] at hP1
  obtain ⟨hP, hD⟩ := va_join (wr := [(oc8 x (.ref sh) (.ref lw) (.ref ro) (.ref bq) (.ref bp) (.ref dq) .null .null .null 0 0 0 0), (oc7 sh (.ref fa) (nI 0)), (oq fa cF 200 (fun _ => none)), (oc3 lw (.ref dr) (.ref tg) (.ref wy) (.ref br) (.ref bo) (.ref aa)), (oc6 dr (.ref dx) (.ref dy) (nI 0) 0), (oa dx cI 40 (fun _ => 0)), (oa dy cI 40 (fun _ => 0)), (oc6 tg (.ref tx) (.ref ty) (nI 0) 1), (oa tx cI 3 (fun _ => 0)), (oa ty cI 3 (fun _ => 0)), (oc6 wy (.ref wx) (.ref wz) (nI 0) 0), (oa wx cI 2 (fun _ => 0)), (oa wz cI 2 (fun _ => 0)), (oc0 br 0 0 0 0), (oc0 bo 0 0 0 0), (oa aa cI 40 (fun _ => 0)), (oc5 ro (.ref za) (.ref zw) (.ref zx) (.ref zy) (.ref zg) 0), (oq za cF 200 (fun _ => none)), (oa zw cI 200 (fun _ => 0)), (oa zx cI 400 (fun _ => 0)), (oa zy cI 400 (fun _ => 0)), (oa zg cI 400 (fun _ => 0)), (oc0 bq 0 0 0 0), (oc0 bp 0 0 0 0), (oc2 dq 0 0)]) (w1 := [(oc2 dp 0 0)]) hP hD [25] [0, 1, 2, 3, 4, 5, 6, 7, 8, 9, 10, 11, 12, 13, 14, 15, 16, 17, 18, 19, 20, 21, 22, 23, 24] rfl rfl (by decide) (by decide) hk1 hFc hP1 hD1
  clear hk1 hPc hDc hFc hP1 hD1 ht
  generalize H1 = H at hP hS ⊢
  have hP : va_P (dC, dI) classes [(oc8 x (.ref sh) (.ref lw) (.ref ro) (.ref bq) (.ref bp) (.ref dq) .null .null .null 0 0 0 0), (oc7 sh (.ref fa) (nI 0)), (oq fa cF 200 (fun _ => none)), (oc3 lw (.ref dr) (.ref tg) (.ref wy) (.ref br) (.ref bo) (.ref aa)), (oc6 dr (.ref dx) (.ref dy) (nI 0) 0), (oa dx cI 40 (fun _ => 0)), (oa dy cI 40 (fun _ => 0)), (oc6 tg (.ref tx) (.ref ty) (nI 0) 1), (oa tx cI 3 (fun _ => 0)), (oa ty cI 3 (fun _ => 0)), (oc6 wy (.ref wx) (.ref wz) (nI 0) 0), (oa wx cI 2 (fun _ => 0)), (oa wz cI 2 (fun _ => 0)), (oc0 br 0 0 0 0), (oc0 bo 0 0 0 0), (oa aa cI 40 (fun _ => 0)), (oc5 ro (.ref za) (.ref zw) (.ref zx) (.ref zy) (.ref zg) 0), (oq za cF 200 (fun _ => none)), (oa zw cI 200 (fun _ => 0)), (oa zx cI 400 (fun _ => 0)), (oa zy cI 400 (fun _ => 0)), (oa zg cI 400 (fun _ => 0)), (oc0 bq 0 0 0 0), (oc0 bp 0 0 0 0), (oc2 dq 0 0), (oc2 dp 0 0)] H := hP
  have hD : va_D A [(oc8 x (.ref sh) (.ref lw) (.ref ro) (.ref bq) (.ref bp) (.ref dq) .null .null .null 0 0 0 0), (oc7 sh (.ref fa) (nI 0)), (oq fa cF 200 (fun _ => none)), (oc3 lw (.ref dr) (.ref tg) (.ref wy) (.ref br) (.ref bo) (.ref aa)), (oc6 dr (.ref dx) (.ref dy) (nI 0) 0), (oa dx cI 40 (fun _ => 0)), (oa dy cI 40 (fun _ => 0)), (oc6 tg (.ref tx) (.ref ty) (nI 0) 1), (oa tx cI 3 (fun _ => 0)), (oa ty cI 3 (fun _ => 0)), (oc6 wy (.ref wx) (.ref wz) (nI 0) 0), (oa wx cI 2 (fun _ => 0)), (oa wz cI 2 (fun _ => 0)), (oc0 br 0 0 0 0), (oc0 bo 0 0 0 0), (oa aa cI 40 (fun _ => 0)), (oc5 ro (.ref za) (.ref zw) (.ref zx) (.ref zy) (.ref zg) 0), (oq za cF 200 (fun _ => none)), (oa zw cI 200 (fun _ => 0)), (oa zx cI 400 (fun _ => 0)), (oa zy cI 400 (fun _ => 0)), (oa zg cI 400 (fun _ => 0)), (oc0 bq 0 0 0 0), (oc0 bp 0 0 0 0), (oc2 dq 0 0), (oc2 dp 0 0)] := hD
  refine va_putF (D := (dC, dI)) (ci := 8) (v := .ref dp) (ty := .object "ScaleShop$Fraction") (C := RX10) (T := TX10) (N := 13) hx hb hts inX10 tyX10 tyX10_ok nmX10 hown hK hP hD hS 0 rfl rfl 6 (by decide) (hts _ mw_315) (fun _ h9 => h9) rfl hin rfl (by decide +kernel) rfl rfl (Nat.le_of_ble_eq_true rfl) dX10_init_78 (fun H locs hP hD hS => ?_)
  have hP : va_P (dC, dI) classes [(oc8 x (.ref sh) (.ref lw) (.ref ro) (.ref bq) (.ref bp) (.ref dq) (.ref dp) .null .null 0 0 0 0), (oc7 sh (.ref fa) (nI 0)), (oq fa cF 200 (fun _ => none)), (oc3 lw (.ref dr) (.ref tg) (.ref wy) (.ref br) (.ref bo) (.ref aa)), (oc6 dr (.ref dx) (.ref dy) (nI 0) 0), (oa dx cI 40 (fun _ => 0)), (oa dy cI 40 (fun _ => 0)), (oc6 tg (.ref tx) (.ref ty) (nI 0) 1), (oa tx cI 3 (fun _ => 0)), (oa ty cI 3 (fun _ => 0)), (oc6 wy (.ref wx) (.ref wz) (nI 0) 0), (oa wx cI 2 (fun _ => 0)), (oa wz cI 2 (fun _ => 0)), (oc0 br 0 0 0 0), (oc0 bo 0 0 0 0), (oa aa cI 40 (fun _ => 0)), (oc5 ro (.ref za) (.ref zw) (.ref zx) (.ref zy) (.ref zg) 0), (oq za cF 200 (fun _ => none)), (oa zw cI 200 (fun _ => 0)), (oa zx cI 400 (fun _ => 0)), (oa zy cI 400 (fun _ => 0)), (oa zg cI 400 (fun _ => 0)), (oc0 bq 0 0 0 0), (oc0 bp 0 0 0 0), (oc2 dq 0 0), (oc2 dp 0 0)] H := hP
  have hD : va_D A [(oc8 x (.ref sh) (.ref lw) (.ref ro) (.ref bq) (.ref bp) (.ref dq) (.ref dp) .null .null 0 0 0 0), (oc7 sh (.ref fa) (nI 0)), (oq fa cF 200 (fun _ => none)), (oc3 lw (.ref dr) (.ref tg) (.ref wy) (.ref br) (.ref bo) (.ref aa)), (oc6 dr (.ref dx) (.ref dy) (nI 0) 0), (oa dx cI 40 (fun _ => 0)), (oa dy cI 40 (fun _ => 0)), (oc6 tg (.ref tx) (.ref ty) (nI 0) 1), (oa tx cI 3 (fun _ => 0)), (oa ty cI 3 (fun _ => 0)), (oc6 wy (.ref wx) (.ref wz) (nI 0) 0), (oa wx cI 2 (fun _ => 0)), (oa wz cI 2 (fun _ => 0)), (oc0 br 0 0 0 0), (oc0 bo 0 0 0 0), (oa aa cI 40 (fun _ => 0)), (oc5 ro (.ref za) (.ref zw) (.ref zx) (.ref zy) (.ref zg) 0), (oq za cF 200 (fun _ => none)), (oa zw cI 200 (fun _ => 0)), (oa zx cI 400 (fun _ => 0)), (oa zy cI 400 (fun _ => 0)), (oa zg cI 400 (fun _ => 0)), (oc0 bq 0 0 0 0), (oc0 bp 0 0 0 0), (oc2 dq 0 0), (oc2 dp 0 0)] := hD
  refine lv_aload_n hx hb dX10_init_81 rfl (lv_at hl 0 rfl) ?_
  refine lv_sipush (v := 200) hx hb dX10_init_82 (by decide) ?_
  refine zz_newa (atype := .boolean) (a0 := (200, .inl (fun _ => 0))) hx hb (hts _ mw_308) (ty := .boolean) rfl hK hP hD hS hA (n := nI 200) (N' := 200) (cA := cZ) 1 rfl (fun _ => rfl) (nI_pos (by omega)) (nI_clamp (by omega)) (show 200 * 1 ≤ 536870912 by omega) (show ((((((((3 + 12) + 1) + 5) + 1) + 1) + 1) + 1) + 1) ≤ 30 by omega) (show ((((((((208 + 150) + 6) + 1600) + 4) + 4) + 2) + 2) + 200) ≤ 2300 by omega) dX10_init_85 (fun lv H hP hD hS => ?_)
  have hP : va_P (dC, dI) classes [(oc8 x (.ref sh) (.ref lw) (.ref ro) (.ref bq) (.ref bp) (.ref dq) (.ref dp) .null .null 0 0 0 0), (oc7 sh (.ref fa) (nI 0)), (oq fa cF 200 (fun _ => none)), (oc3 lw (.ref dr) (.ref tg) (.ref wy) (.ref br) (.ref bo) (.ref aa)), (oc6 dr (.ref dx) (.ref dy) (nI 0) 0), (oa dx cI 40 (fun _ => 0)), (oa dy cI 40 (fun _ => 0)), (oc6 tg (.ref tx) (.ref ty) (nI 0) 1), (oa tx cI 3 (fun _ => 0)), (oa ty cI 3 (fun _ => 0)), (oc6 wy (.ref wx) (.ref wz) (nI 0) 0), (oa wx cI 2 (fun _ => 0)), (oa wz cI 2 (fun _ => 0)), (oc0 br 0 0 0 0), (oc0 bo 0 0 0 0), (oa aa cI 40 (fun _ => 0)), (oc5 ro (.ref za) (.ref zw) (.ref zx) (.ref zy) (.ref zg) 0), (oq za cF 200 (fun _ => none)), (oa zw cI 200 (fun _ => 0)), (oa zx cI 400 (fun _ => 0)), (oa zy cI 400 (fun _ => 0)), (oa zg cI 400 (fun _ => 0)), (oc0 bq 0 0 0 0), (oc0 bp 0 0 0 0), (oc2 dq 0 0), (oc2 dp 0 0), (oa lv cZ 200 (fun _ => 0))] H := hP
  have hD : va_D A [(oc8 x (.ref sh) (.ref lw) (.ref ro) (.ref bq) (.ref bp) (.ref dq) (.ref dp) .null .null 0 0 0 0), (oc7 sh (.ref fa) (nI 0)), (oq fa cF 200 (fun _ => none)), (oc3 lw (.ref dr) (.ref tg) (.ref wy) (.ref br) (.ref bo) (.ref aa)), (oc6 dr (.ref dx) (.ref dy) (nI 0) 0), (oa dx cI 40 (fun _ => 0)), (oa dy cI 40 (fun _ => 0)), (oc6 tg (.ref tx) (.ref ty) (nI 0) 1), (oa tx cI 3 (fun _ => 0)), (oa ty cI 3 (fun _ => 0)), (oc6 wy (.ref wx) (.ref wz) (nI 0) 0), (oa wx cI 2 (fun _ => 0)), (oa wz cI 2 (fun _ => 0)), (oc0 br 0 0 0 0), (oc0 bo 0 0 0 0), (oa aa cI 40 (fun _ => 0)), (oc5 ro (.ref za) (.ref zw) (.ref zx) (.ref zy) (.ref zg) 0), (oq za cF 200 (fun _ => none)), (oa zw cI 200 (fun _ => 0)), (oa zx cI 400 (fun _ => 0)), (oa zy cI 400 (fun _ => 0)), (oa zg cI 400 (fun _ => 0)), (oc0 bq 0 0 0 0), (oc0 bp 0 0 0 0), (oc2 dq 0 0), (oc2 dp 0 0), (oa lv cZ 200 (fun _ => 0))] := hD
  refine va_putF (D := (dC, dI)) (ci := 8) (v := .ref lv) (ty := .array .boolean) (C := RX10) (T := TX10) (N := 13) hx hb hts inX10 tyX10 tyX10_ok nmX10 hown hK hP hD hS 0 rfl rfl 7 (by decide) (hts _ mw_316) (fun _ h9 => h9) rfl hin rfl (by decide +kernel) rfl rfl (Nat.le_of_ble_eq_true rfl) dX10_init_87 (fun H locs hP hD hS => ?_)
  have hP : va_P (dC, dI) classes [(oc8 x (.ref sh) (.ref lw) (.ref ro) (.ref bq) (.ref bp) (.ref dq) (.ref dp) (.ref lv) .null 0 0 0 0), (oc7 sh (.ref fa) (nI 0)), (oq fa cF 200 (fun _ => none)), (oc3 lw (.ref dr) (.ref tg) (.ref wy) (.ref br) (.ref bo) (.ref aa)), (oc6 dr (.ref dx) (.ref dy) (nI 0) 0), (oa dx cI 40 (fun _ => 0)), (oa dy cI 40 (fun _ => 0)), (oc6 tg (.ref tx) (.ref ty) (nI 0) 1), (oa tx cI 3 (fun _ => 0)), (oa ty cI 3 (fun _ => 0)), (oc6 wy (.ref wx) (.ref wz) (nI 0) 0), (oa wx cI 2 (fun _ => 0)), (oa wz cI 2 (fun _ => 0)), (oc0 br 0 0 0 0), (oc0 bo 0 0 0 0), (oa aa cI 40 (fun _ => 0)), (oc5 ro (.ref za) (.ref zw) (.ref zx) (.ref zy) (.ref zg) 0), (oq za cF 200 (fun _ => none)), (oa zw cI 200 (fun _ => 0)), (oa zx cI 400 (fun _ => 0)), (oa zy cI 400 (fun _ => 0)), (oa zg cI 400 (fun _ => 0)), (oc0 bq 0 0 0 0), (oc0 bp 0 0 0 0), (oc2 dq 0 0), (oc2 dp 0 0), (oa lv cZ 200 (fun _ => 0))] H := hP
  have hD : va_D A [(oc8 x (.ref sh) (.ref lw) (.ref ro) (.ref bq) (.ref bp) (.ref dq) (.ref dp) (.ref lv) .null 0 0 0 0), (oc7 sh (.ref fa) (nI 0)), (oq fa cF 200 (fun _ => none)), (oc3 lw (.ref dr) (.ref tg) (.ref wy) (.ref br) (.ref bo) (.ref aa)), (oc6 dr (.ref dx) (.ref dy) (nI 0) 0), (oa dx cI 40 (fun _ => 0)), (oa dy cI 40 (fun _ => 0)), (oc6 tg (.ref tx) (.ref ty) (nI 0) 1), (oa tx cI 3 (fun _ => 0)), (oa ty cI 3 (fun _ => 0)), (oc6 wy (.ref wx) (.ref wz) (nI 0) 0), (oa wx cI 2 (fun _ => 0)), (oa wz cI 2 (fun _ => 0)), (oc0 br 0 0 0 0), (oc0 bo 0 0 0 0), (oa aa cI 40 (fun _ => 0)), (oc5 ro (.ref za) (.ref zw) (.ref zx) (.ref zy) (.ref zg) 0), (oq za cF 200 (fun _ => none)), (oa zw cI 200 (fun _ => 0)), (oa zx cI 400 (fun _ => 0)), (oa zy cI 400 (fun _ => 0)), (oa zg cI 400 (fun _ => 0)), (oc0 bq 0 0 0 0), (oc0 bp 0 0 0 0), (oc2 dq 0 0), (oc2 dp 0 0), (oa lv cZ 200 (fun _ => 0))] := hD
  refine lv_aload_n hx hb dX10_init_90 rfl (lv_at hl 0 rfl) ?_
  refine va_new (ci := 10) (fs := [.int 0, .null, .int 0]) (C := RJx4a65c) (T := TJx4a65c) (N := 3) hx hb hts inJx4a65c tyJx4a65c tyJx4a65c_ok hown (hts _ mw_282) (hts _ mw_283) (hts _ mw_109) hK hP hD hS hA rfl dfJx4a65c (show (((((((((3 + 12) + 1) + 5) + 1) + 1) + 1) + 1) + 1) + 1) ≤ 30 by omega) (show (((((((((208 + 150) + 6) + 1600) + 4) + 4) + 2) + 2) + 200) + 3) ≤ 2300 by omega) dX10_init_91 (fun sl H hP hD hS => ?_)
  have hP : va_P (dC, dI) classes [(oc8 x (.ref sh) (.ref lw) (.ref ro) (.ref bq) (.ref bp) (.ref dq) (.ref dp) (.ref lv) .null 0 0 0 0), (oc7 sh (.ref fa) (nI 0)), (oq fa cF 200 (fun _ => none)), (oc3 lw (.ref dr) (.ref tg) (.ref wy) (.ref br) (.ref bo) (.ref aa)), (oc6 dr (.ref dx) (.ref dy) (nI 0) 0), (oa dx cI 40 (fun _ => 0)), (oa dy cI 40 (fun _ => 0)), (oc6 tg (.ref tx) (.ref ty) (nI 0) 1), (oa tx cI 3 (fun _ => 0)), (oa ty cI 3 (fun _ => 0)), (oc6 wy (.ref wx) (.ref wz) (nI 0) 0), (oa wx cI 2 (fun _ => 0)), (oa wz cI 2 (fun _ => 0)), (oc0 br 0 0 0 0), (oc0 bo 0 0 0 0), (oa aa cI 40 (fun _ => 0)), (oc5 ro (.ref za) (.ref zw) (.ref zx) (.ref zy) (.ref zg) 0), (oq za cF 200 (fun _ => none)), (oa zw cI 200 (fun _ => 0)), (oa zx cI 400 (fun _ => 0)), (oa zy cI 400 (fun _ => 0)), (oa zg cI 400 (fun _ => 0)), (oc0 bq 0 0 0 0), (oc0 bp 0 0 0 0), (oc2 dq 0 0), (oc2 dp 0 0), (oa lv cZ 200 (fun _ => 0)), (oc10 sl 0 .null 0)] H := hP
  have hD : va_D A [(oc8 x (.ref sh) (.ref lw) (.ref ro) (.ref bq) (.ref bp) (.ref dq) (.ref dp) (.ref lv) .null 0 0 0 0), (oc7 sh (.ref fa) (nI 0)), (oq fa cF 200 (fun _ => none)), (oc3 lw (.ref dr) (.ref tg) (.ref wy) (.ref br) (.ref bo) (.ref aa)), (oc6 dr (.ref dx) (.ref dy) (nI 0) 0), (oa dx cI 40 (fun _ => 0)), (oa dy cI 40 (fun _ => 0)), (oc6 tg (.ref tx) (.ref ty) (nI 0) 1), (oa tx cI 3 (fun _ => 0)), (oa ty cI 3 (fun _ => 0)), (oc6 wy (.ref wx) (.ref wz) (nI 0) 0), (oa wx cI 2 (fun _ => 0)), (oa wz cI 2 (fun _ => 0)), (oc0 br 0 0 0 0), (oc0 bo 0 0 0 0), (oa aa cI 40 (fun _ => 0)), (oc5 ro (.ref za) (.ref zw) (.ref zx) (.ref zy) (.ref zg) 0), (oq za cF 200 (fun _ => none)), (oa zw cI 200 (fun _ => 0)), (oa zx cI 400 (fun _ => 0)), (oa zy cI 400 (fun _ => 0)), (oa zg cI 400 (fun _ => 0)), (oc0 bq 0 0 0 0), (oc0 bp 0 0 0 0), (oc2 dq 0 0), (oc2 dp 0 0), (oa lv cZ 200 (fun _ => 0)), (oc10 sl 0 .null 0)] := hD
  refine lv_dup hx hb dX10_init_94 rfl ?_
  have hPc := hP.sub (ws' := [(oc10 sl 0 .null 0)]) [27] rfl
  have hDc := hD.sub (ws' := [(oc10 sl 0 .null 0)]) [27] (by decide) rfl
  have hFc := va_free (wc := [(oc10 sl 0 .null 0)]) hD hS hA [27] rfl
  refine zcall (st1 := [.ref sl, .ref x]) (va_runI (As := []) (rest := [.ref sl, .ref x]) ⟨hx, hb, hml, hown, hts⟩ (k_AL_init l dC dI cI cZ cF H.size cO e0 mi sl ) (cwI 0 hts (zz_gC mc_yJx4a65c_init_da8c8) rfl rfl rfl (hts _ mw_109) (hts _ mw_284) (hts _ mw_285) rfl (by decide +kernel) ⟨Nat.le_of_ble_eq_true rfl, Nat.le_of_ble_eq_true rfl⟩) (zPSL hPc hDc hK hXL hS hFc) rfl rfl hl.1 rfl (lv_room (Nat.le_of_ble_eq_true rfl)) dX10_init_95 ⟨show (((((((((3 + 12) + 1) + 5) + 1) + 1) + 1) + 1) + 1) + 1) ≤ 30 by omega, show (((((((((208 + 150) + 6) + 1600) + 4) + 4) + 2) + 2) + 200) + 3) ≤ 2300 by omega⟩) hS hFc hFc rfl (fun t H1 locs ht hB hk1 hS => ?_)
  obtain ⟨hP1, hD1⟩ := hB
  rw [ht] at hP1
  obtain ⟨hP, hD⟩ := va_join (wr := [(oc8 x (.ref sh) (.ref lw) (.ref ro) (.ref bq) (.ref bp) (.ref dq) (.ref dp) (.ref lv) .null 0 0 0 0), (oc7 sh (.ref fa) (nI 0)), (oq fa cF 200 (fun _ => none)), (oc3 lw (.ref dr) (.ref tg) (.ref wy) (.ref br) (.ref bo) (.ref aa)), (oc6 dr (.ref dx) (.ref dy) (nI 0) 0), (oa dx cI 40 (fun _ => 0)), (oa dy cI 40 (fun _ => 0)), (oc6 tg (.ref tx) (.ref ty) (nI 0) 1), (oa tx cI 3 (fun _ => 0)), (oa ty cI 3 (fun _ => 0)), (oc6 wy (.ref wx) (.ref wz) (nI 0) 0), (oa wx cI 2 (fun _ => 0)), (oa wz cI 2 (fun _ => 0)), (oc0 br 0 0 0 0), (oc0 bo 0 0 0 0), (oa aa cI 40 (fun _ => 0)), (oc5 ro (.ref za) (.ref zw) (.ref zx) (.ref zy) (.ref zg) 0), (oq za cF 200 (fun _ => none)), (oa zw cI 200 (fun _ => 0)), (oa zx cI 400 (fun _ => 0)), (oa zy cI 400 (fun _ => 0)), (oa zg cI 400 (fun _ => 0)), (oc0 bq 0 0 0 0), (oc0 bp 0 0 0 0), (oc2 dq 0 0), (oc2 dp 0 0), (oa lv cZ 200 (fun _ => 0))]) (w1 := [(oc10 sl 0 (.ref e0) (nI 0))]) hP hD [27] [0, 1, 2, 3, 4, 5, 6, 7, 8, 9, 10, 11, 12, 13, 14, 15, 16, 17, 18, 19, 20, 21, 22, 23, 24, 25, 26] rfl rfl (by decide) (by decide) hk1 hFc hP1 hD1
  clear hk1 hPc hDc hFc hP1 hD1 ht
  generalize H1 = H at hP hS ⊢
  have hP : va_P (dC, dI) classes [(oc8 x (.ref sh) (.ref lw) (.ref ro) (.ref bq) (.ref bp) (.ref dq) (.ref dp) (.ref lv) .null 0 0 0 0), (oc7 sh (.ref fa) (nI 0)), (oq fa cF 200 (fun _ => none)), (oc3 lw (.ref dr) (.ref tg) (.ref wy) (.ref br) (.ref bo) (.ref aa)), (oc6 dr (.ref dx) (.ref dy) (nI 0) 0), (oa dx cI 40 (fun _ => 0)), (oa dy cI 40 (fun _ => 0)), (oc6 tg (.ref tx) (.ref ty) (nI 0) 1), (oa tx cI 3 (fun _ => 0)), (oa ty cI 3 (fun _ => 0)), (oc6 wy (.ref wx) (.ref wz) (nI 0) 0), (oa wx cI 2 (fun _ => 0)), (oa wz cI 2 (fun _ => 0)), (oc0 br 0 0 0 0), (oc0 bo 0 0 0 0), (oa aa cI 40 (fun _ => 0)), (oc5 ro (.ref za) (.ref zw) (.ref zx) (.ref zy) (.ref zg) 0), (oq za cF 200 (fun _ => none)), (oa zw cI 200 (fun _ => 0)), (oa zx cI 400 (fun _ => 0)), (oa zy cI 400 (fun _ => 0)), (oa zg cI 400 (fun _ => 0)), (oc0 bq 0 0 0 0), (oc0 bp 0 0 0 0), (oc2 dq 0 0), (oc2 dp 0 0), (oa lv cZ 200 (fun _ => 0)), (oc10 sl 0 (.ref e0) (nI 0))] H := hP
  have hD : va_D A [(oc8 x (.ref sh) (.ref lw) (.ref ro) (.ref bq) (.ref bp) (.ref dq) (.ref dp) (.ref lv) .null 0 0 0 0), (oc7 sh (.ref fa) (nI 0)), (oq fa cF 200 (fun _ => none)), (oc3 lw (.ref dr) (.ref tg) (.ref wy) (.ref br) (.ref bo) (.ref aa)), (oc6 dr (.ref dx) (.ref dy) (nI 0) 0), (oa dx cI 40 (fun _ => 0)), (oa dy cI 40 (fun _ => 0)), (oc6 tg (.ref tx) (.ref ty) (nI 0) 1), (oa tx cI 3 (fun _ => 0)), (oa ty cI 3 (fun _ => 0)), (oc6 wy (.ref wx) (.ref wz) (nI 0) 0), (oa wx cI 2 (fun _ => 0)), (oa wz cI 2 (fun _ => 0)), (oc0 br 0 0 0 0), (oc0 bo 0 0 0 0), (oa aa cI 40 (fun _ => 0)), (oc5 ro (.ref za) (.ref zw) (.ref zx) (.ref zy) (.ref zg) 0), (oq za cF 200 (fun _ => none)), (oa zw cI 200 (fun _ => 0)), (oa zx cI 400 (fun _ => 0)), (oa zy cI 400 (fun _ => 0)), (oa zg cI 400 (fun _ => 0)), (oc0 bq 0 0 0 0), (oc0 bp 0 0 0 0), (oc2 dq 0 0), (oc2 dp 0 0), (oa lv cZ 200 (fun _ => 0)), (oc10 sl 0 (.ref e0) (nI 0))] := hD
  refine va_putF (D := (dC, dI)) (ci := 8) (v := .ref sl) (ty := .object "java/util/ArrayList") (C := RX10) (T := TX10) (N := 13) hx hb hts inX10 tyX10 tyX10_ok nmX10 hown hK hP hD hS 0 rfl rfl 8 (by decide) (hts _ mw_317) (fun _ h9 => h9) rfl hin rfl (by decide +kernel) rfl rfl (Nat.le_of_ble_eq_true rfl) dX10_init_98 (fun H locs hP hD hS => ?_)
  have hP : va_P (dC, dI) classes [(oc8 x (.ref sh) (.ref lw) (.ref ro) (.ref bq) (.ref bp) (.ref dq) (.ref dp) (.ref lv) (.ref sl) 0 0 0 0), (oc7 sh (.ref fa) (nI 0)), (oq fa cF 200 (fun _ => none)), (oc3 lw (.ref dr) (.ref tg) (.ref wy) (.ref br) (.ref bo) (.ref aa)), (oc6 dr (.ref dx) (.ref dy) (nI 0) 0), (oa dx cI 40 (fun _ => 0)), (oa dy cI 40 (fun _ => 0)), (oc6 tg (.ref tx) (.ref ty) (nI 0) 1), (oa tx cI 3 (fun _ => 0)), (oa ty cI 3 (fun _ => 0)), (oc6 wy (.ref wx) (.ref wz) (nI 0) 0), (oa wx cI 2 (fun _ => 0)), (oa wz cI 2 (fun _ => 0)), (oc0 br 0 0 0 0), (oc0 bo 0 0 0 0), (oa aa cI 40 (fun _ => 0)), (oc5 ro (.ref za) (.ref zw) (.ref zx) (.ref zy) (.ref zg) 0), (oq za cF 200 (fun _ => none)), (oa zw cI 200 (fun _ => 0)), (oa zx cI 400 (fun _ => 0)), (oa zy cI 400 (fun _ => 0)), (oa zg cI 400 (fun _ => 0)), (oc0 bq 0 0 0 0), (oc0 bp 0 0 0 0), (oc2 dq 0 0), (oc2 dp 0 0), (oa lv cZ 200 (fun _ => 0)), (oc10 sl 0 (.ref e0) (nI 0))] H := hP
  have hD : va_D A [(oc8 x (.ref sh) (.ref lw) (.ref ro) (.ref bq) (.ref bp) (.ref dq) (.ref dp) (.ref lv) (.ref sl) 0 0 0 0), (oc7 sh (.ref fa) (nI 0)), (oq fa cF 200 (fun _ => none)), (oc3 lw (.ref dr) (.ref tg) (.ref wy) (.ref br) (.ref bo) (.ref aa)), (oc6 dr (.ref dx) (.ref dy) (nI 0) 0), (oa dx cI 40 (fun _ => 0)), (oa dy cI 40 (fun _ => 0)), (oc6 tg (.ref tx) (.ref ty) (nI 0) 1), (oa tx cI 3 (fun _ => 0)), (oa ty cI 3 (fun _ => 0)), (oc6 wy (.ref wx) (.ref wz) (nI 0) 0), (oa wx cI 2 (fun _ => 0)), (oa wz cI 2 (fun _ => 0)), (oc0 br 0 0 0 0), (oc0 bo 0 0 0 0), (oa aa cI 40 (fun _ => 0)), (oc5 ro (.ref za) (.ref zw) (.ref zx) (.ref zy) (.ref zg) 0), (oq za cF 200 (fun _ => none)), (oa zw cI 200 (fun _ => 0)), (oa zx cI 400 (fun _ => 0)), (oa zy cI 400 (fun _ => 0)), (oa zg cI 400 (fun _ => 0)), (oc0 bq 0 0 0 0), (oc0 bp 0 0 0 0), (oc2 dq 0 0), (oc2 dp 0 0), (oa lv cZ 200 (fun _ => 0)), (oc10 sl 0 (.ref e0) (nI 0))] := hD
  refine lv_aload_n hx hb dX10_init_101 rfl (lv_at hl 0 rfl) ?_
  refine lv_iconst (v := 0) hx hb dX10_init_102 (by decide) ?_
  refine va_put (D := (dC, dI)) (ci := 8) (v := .int 0) (ty := .int) (C := RX10) (T := TX10) (N := 13) hx hb hts inX10 tyX10 tyX10_ok nmX10 hown hK hP hD hS 0 rfl rfl 9 (by decide) (hts _ mw_318) (fun _ h9 => h9) rfl (by decide +kernel) rfl rfl (Nat.le_of_ble_eq_true rfl) dX10_init_103 (fun H locs hP hD hS => ?_)
  have hP : va_P (dC, dI) classes [(oc8 x (.ref sh) (.ref lw) (.ref ro) (.ref bq) (.ref bp) (.ref dq) (.ref dp) (.ref lv) (.ref sl) 0 0 0 0), (oc7 sh (.ref fa) (nI 0)), (oq fa cF 200 (fun _ => none)), (oc3 lw (.ref dr) (.ref tg) (.ref wy) (.ref br) (.ref bo) (.ref aa)), (oc6 dr (.ref dx) (.ref dy) (nI 0) 0), (oa dx cI 40 (fun _ => 0)), (oa dy cI 40 (fun _ => 0)), (oc6 tg (.ref tx) (.ref ty) (nI 0) 1), (oa tx cI 3 (fun _ => 0)), (oa ty cI 3 (fun _ => 0)), (oc6 wy (.ref wx) (.ref wz) (nI 0) 0), (oa wx cI 2 (fun _ => 0)), (oa wz cI 2 (fun _ => 0)), (oc0 br 0 0 0 0), (oc0 bo 0 0 0 0), (oa aa cI 40 (fun _ => 0)), (oc5 ro (.ref za) (.ref zw) (.ref zx) (.ref zy) (.ref zg) 0), (oq za cF 200 (fun _ => none)), (oa zw cI 200 (fun _ => 0)), (oa zx cI 400 (fun _ => 0)), (oa zy cI 400 (fun _ => 0)), (oa zg cI 400 (fun _ => 0)), (oc0 bq 0 0 0 0), (oc0 bp 0 0 0 0), (oc2 dq 0 0), (oc2 dp 0 0), (oa lv cZ 200 (fun _ => 0)), (oc10 sl 0 (.ref e0) (nI 0))] H := hP
  have hD : va_D A [(oc8 x (.ref sh) (.ref lw) (.ref ro) (.ref bq) (.ref bp) (.ref dq) (.ref dp) (.ref lv) (.ref sl) 0 0 0 0), (oc7 sh (.ref fa) (nI 0)), (oq fa cF 200 (fun _ => none)), (oc3 lw (.ref dr) (.ref tg) (.ref wy) (.ref br) (.ref bo) (.ref aa)), (oc6 dr (.ref dx) (.ref dy) (nI 0) 0), (oa dx cI 40 (fun _ => 0)), (oa dy cI 40 (fun _ => 0)), (oc6 tg (.ref tx) (.ref ty) (nI 0) 1), (oa tx cI 3 (fun _ => 0)), (oa ty cI 3 (fun _ => 0)), (oc6 wy (.ref wx) (.ref wz) (nI 0) 0), (oa wx cI 2 (fun _ => 0)), (oa wz cI 2 (fun _ => 0)), (oc0 br 0 0 0 0), (oc0 bo 0 0 0 0), (oa aa cI 40 (fun _ => 0)), (oc5 ro (.ref za) (.ref zw) (.ref zx) (.ref zy) (.ref zg) 0), (oq za cF 200 (fun _ => none)), (oa zw cI 200 (fun _ => 0)), (oa zx cI 400 (fun _ => 0)), (oa zy cI 400 (fun _ => 0)), (oa zg cI 400 (fun _ => 0)), (oc0 bq 0 0 0 0), (oc0 bp 0 0 0 0), (oc2 dq 0 0), (oc2 dp 0 0), (oa lv cZ 200 (fun _ => 0)), (oc10 sl 0 (.ref e0) (nI 0))] := hD
  refine lv_aload_n hx hb dX10_init_106 rfl (lv_at hl 0 rfl) ?_
  refine lv_iconst (v := 0) hx hb dX10_init_107 (by decide) ?_
  refine va_put (D := (dC, dI)) (ci := 8) (v := .int 0) (ty := .int) (C := RX10) (T := TX10) (N := 13) hx hb hts inX10 tyX10 tyX10_ok nmX10 hown hK hP hD hS 0 rfl rfl 10 (by decide) (hts _ mw_319) (fun _ h9 => h9) rfl (by decide +kernel) rfl rfl (Nat.le_of_ble_eq_true rfl) dX10_init_108 (fun H locs hP hD hS => ?_)
  have hP : va_P (dC, dI) classes [(oc8 x (.ref sh) (.ref lw) (.ref ro) (.ref bq) (.ref bp) (.ref dq) (.ref dp) (.ref lv) (.ref sl) 0 0 0 0), (oc7 sh (.ref fa) (nI 0)), (oq fa cF 200 (fun _ => none)), (oc3 lw (.ref dr) (.ref tg) (.ref wy) (.ref br) (.ref bo) (.ref aa)), (oc6 dr (.ref dx) (.ref dy) (nI 0) 0), (oa dx cI 40 (fun _ => 0)), (oa dy cI 40 (fun _ => 0)), (oc6 tg (.ref tx) (.ref ty) (nI 0) 1), (oa tx cI 3 (fun _ => 0)), (oa ty cI 3 (fun _ => 0)), (oc6 wy (.ref wx) (.ref wz) (nI 0) 0), (oa wx cI 2 (fun _ => 0)), (oa wz cI 2 (fun _ => 0)), (oc0 br 0 0 0 0), (oc0 bo 0 0 0 0), (oa aa cI 40 (fun _ => 0)), (oc5 ro (.ref za) (.ref zw) (.ref zx) (.ref zy) (.ref zg) 0), (oq za cF 200 (fun _ => none)), (oa zw cI 200 (fun _ => 0)), (oa zx cI 400 (fun _ => 0)), (oa zy cI 400 (fun _ => 0)), (oa zg cI 400 (fun _ => 0)), (oc0 bq 0 0 0 0), (oc0 bp 0 0 0 0), (oc2 dq 0 0), (oc2 dp 0 0), (oa lv cZ 200 (fun _ => 0)), (oc10 sl 0 (.ref e0) (nI 0))] H := hP
  have hD : va_D A [(oc8 x (.ref sh) (.ref lw) (.ref ro) (.ref bq) (.ref bp) (.ref dq) (.ref dp) (.ref lv) (.ref sl) 0 0 0 0), (oc7 sh (.ref fa) (nI 0)), (oq fa cF 200 (fun _ => none)), (oc3 lw (.ref dr) (.ref tg) (.ref wy) (.ref br) (.ref bo) (.ref aa)), (oc6 dr (.ref dx) (.ref dy) (nI 0) 0), (oa dx cI 40 (fun _ => 0)), (oa dy cI 40 (fun _ => 0)), (oc6 tg (.ref tx) (.ref ty) (nI 0) 1), (oa tx cI 3 (fun _ => 0)), (oa ty cI 3 (fun _ => 0)), (oc6 wy (.ref wx) (.ref wz) (nI 0) 0), (oa wx cI 2 (fun _ => 0)), (oa wz cI 2 (fun _ => 0)), (oc0 br 0 0 0 0), (oc0 bo 0 0 0 0), (oa aa cI 40 (fun _ => 0)), (oc5 ro (.ref za) (.ref zw) (.ref zx) (.ref zy) (.ref zg) 0), (oq za cF 200 (fun _ => none)), (oa zw cI 200 (fun _ => 0)), (oa zx cI 400 (fun _ => 0)), (oa zy cI 400 (fun _ => 0)), (oa zg cI 400 (fun _ => 0)), (oc0 bq 0 0 0 0), (oc0 bp 0 0 0 0), (oc2 dq 0 0), (oc2 dp 0 0), (oa lv cZ 200 (fun _ => 0)), (oc10 sl 0 (.ref e0) (nI 0))] := hD
  refine lv_aload_n hx hb dX10_init_111 rfl (lv_at hl 0 rfl) ?_
  refine lv_iconst (v := 0) hx hb dX10_init_112 (by decide) ?_
  refine va_put (D := (dC, dI)) (ci := 8) (v := .int 0) (ty := .int) (C := RX10) (T := TX10) (N := 13) hx hb hts inX10 tyX10 tyX10_ok nmX10 hown hK hP hD hS 0 rfl rfl 11 (by decide) (hts _ mw_320) (fun _ h9 => h9) rfl (by decide +kernel) rfl rfl (Nat.le_of_ble_eq_true rfl) dX10_init_113 (fun H locs hP hD hS => ?_)
  have hP : va_P (dC, dI) classes [(oc8 x (.ref sh) (.ref lw) (.ref ro) (.ref bq) (.ref bp) (.ref dq) (.ref dp) (.ref lv) (.ref sl) 0 0 0 0), (oc7 sh (.ref fa) (nI 0)), (oq fa cF 200 (fun _ => none)), (oc3 lw (.ref dr) (.ref tg) (.ref wy) (.ref br) (.ref bo) (.ref aa)), (oc6 dr (.ref dx) (.ref dy) (nI 0) 0), (oa dx cI 40 (fun _ => 0)), (oa dy cI 40 (fun _ => 0)), (oc6 tg (.ref tx) (.ref ty) (nI 0) 1), (oa tx cI 3 (fun _ => 0)), (oa ty cI 3 (fun _ => 0)), (oc6 wy (.ref wx) (.ref wz) (nI 0) 0), (oa wx cI 2 (fun _ => 0)), (oa wz cI 2 (fun _ => 0)), (oc0 br 0 0 0 0), (oc0 bo 0 0 0 0), (oa aa cI 40 (fun _ => 0)), (oc5 ro (.ref za) (.ref zw) (.ref zx) (.ref zy) (.ref zg) 0), (oq za cF 200 (fun _ => none)), (oa zw cI 200 (fun _ => 0)), (oa zx cI 400 (fun _ => 0)), (oa zy cI 400 (fun _ => 0)), (oa zg cI 400 (fun _ => 0)), (oc0 bq 0 0 0 0), (oc0 bp 0 0 0 0), (oc2 dq 0 0), (oc2 dp 0 0), (oa lv cZ 200 (fun _ => 0)), (oc10 sl 0 (.ref e0) (nI 0))] H := hP
  have hD : va_D A [(oc8 x (.ref sh) (.ref lw) (.ref ro) (.ref bq) (.ref bp) (.ref dq) (.ref dp) (.ref lv) (.ref sl) 0 0 0 0), (oc7 sh (.ref fa) (nI 0)), (oq fa cF 200 (fun _ => none)), (oc3 lw (.ref dr) (.ref tg) (.ref wy) (.ref br) (.ref bo) (.ref aa)), (oc6 dr (.ref dx) (.ref dy) (nI 0) 0), (oa dx cI 40 (fun _ => 0)), (oa dy cI 40 (fun _ => 0)), (oc6 tg (.ref tx) (.ref ty) (nI 0) 1), (oa tx cI 3 (fun _ => 0)), (oa ty cI 3 (fun _ => 0)), (oc6 wy (.ref wx) (.ref wz) (nI 0) 0), (oa wx cI 2 (fun _ => 0)), (oa wz cI 2 (fun _ => 0)), (oc0 br 0 0 0 0), (oc0 bo 0 0 0 0), (oa aa cI 40 (fun _ => 0)), (oc5 ro (.ref za) (.ref zw) (.ref zx) (.ref zy) (.ref zg) 0), (oq za cF 200 (fun _ => none)), (oa zw cI 200 (fun _ => 0)), (oa zx cI 400 (fun _ => 0)), (oa zy cI 400 (fun _ => 0)), (oa zg cI 400 (fun _ => 0)), (oc0 bq 0 0 0 0), (oc0 bp 0 0 0 0), (oc2 dq 0 0), (oc2 dp 0 0), (oa lv cZ 200 (fun _ => 0)), (oc10 sl 0 (.ref e0) (nI 0))] := hD
  refine lv_aload_n hx hb dX10_init_116 rfl (lv_at hl 0 rfl) ?_
  refine lv_iconst (v := 0) hx hb dX10_init_117 (by decide) ?_
  refine va_put (D := (dC, dI)) (ci := 8) (v := .int 0) (ty := .int) (C := RX10) (T := TX10) (N := 13) hx hb hts inX10 tyX10 tyX10_ok nmX10 hown hK hP hD hS 0 rfl rfl 12 (by decide) (hts _ mw_321) (fun _ h9 => h9) rfl (by decide +kernel) rfl rfl (Nat.le_of_ble_eq_true rfl) dX10_init_118 (fun H locs hP hD hS => ?_)
  have hP : va_P (dC, dI) classes [(oc8 x (.ref sh) (.ref lw) (.ref ro) (.ref bq) (.ref bp) (.ref dq) (.ref dp) (.ref lv) (.ref sl) 0 0 0 0), (oc7 sh (.ref fa) (nI 0)), (oq fa cF 200 (fun _ => none)), (oc3 lw (.ref dr) (.ref tg) (.ref wy) (.ref br) (.ref bo) (.ref aa)), (oc6 dr (.ref dx) (.ref dy) (nI 0) 0), (oa dx cI 40 (fun _ => 0)), (oa dy cI 40 (fun _ => 0)), (oc6 tg (.ref tx) (.ref ty) (nI 0) 1), (oa tx cI 3 (fun _ => 0)), (oa ty cI 3 (fun _ => 0)), (oc6 wy (.ref wx) (.ref wz) (nI 0) 0), (oa wx cI 2 (fun _ => 0)), (oa wz cI 2 (fun _ => 0)), (oc0 br 0 0 0 0), (oc0 bo 0 0 0 0), (oa aa cI 40 (fun _ => 0)), (oc5 ro (.ref za) (.ref zw) (.ref zx) (.ref zy) (.ref zg) 0), (oq za cF 200 (fun _ => none)), (oa zw cI 200 (fun _ => 0)), (oa zx cI 400 (fun _ => 0)), (oa zy cI 400 (fun _ => 0)), (oa zg cI 400 (fun _ => 0)), (oc0 bq 0 0 0 0), (oc0 bp 0 0 0 0), (oc2 dq 0 0), (oc2 dp 0 0), (oa lv cZ 200 (fun _ => 0)), (oc10 sl 0 (.ref e0) (nI 0))] H := hP
  have hD : va_D A [(oc8 x (.ref sh) (.ref lw) (.ref ro) (.ref bq) (.ref bp) (.ref dq) (.ref dp) (.ref lv) (.ref sl) 0 0 0 0), (oc7 sh (.ref fa) (nI 0)), (oq fa cF 200 (fun _ => none)), (oc3 lw (.ref dr) (.ref tg) (.ref wy) (.ref br) (.ref bo) (.ref aa)), (oc6 dr (.ref dx) (.ref dy) (nI 0) 0), (oa dx cI 40 (fun _ => 0)), (oa dy cI 40 (fun _ => 0)), (oc6 tg (.ref tx) (.ref ty) (nI 0) 1), (oa tx cI 3 (fun _ => 0)), (oa ty cI 3 (fun _ => 0)), (oc6 wy (.ref wx) (.ref wz) (nI 0) 0), (oa wx cI 2 (fun _ => 0)), (oa wz cI 2 (fun _ => 0)), (oc0 br 0 0 0 0), (oc0 bo 0 0 0 0), (oa aa cI 40 (fun _ => 0)), (oc5 ro (.ref za) (.ref zw) (.ref zx) (.ref zy) (.ref zg) 0), (oq za cF 200 (fun _ => none)), (oa zw cI 200 (fun _ => 0)), (oa zx cI 400 (fun _ => 0)), (oa zy cI 400 (fun _ => 0)), (oa zg cI 400 (fun _ => 0)), (oc0 bq 0 0 0 0), (oc0 bp 0 0 0 0), (oc2 dq 0 0), (oc2 dp 0 0), (oa lv cZ 200 (fun _ => 0)), (oc10 sl 0 (.ref e0) (nI 0))] := hD
  have hP9 := hP.sub (ws' := [(oc8 x (.ref sh) (.ref lw) (.ref ro) (.ref bq) (.ref bp) (.ref dq) (.ref dp) (.ref lv) (.ref sl) 0 0 0 0), (oc10 sl 0 (.ref e0) (nI 0)), (oc7 sh (.ref fa) (nI 0)), (oq fa cF 200 (fun _ => none)), (oc3 lw (.ref dr) (.ref tg) (.ref wy) (.ref br) (.ref bo) (.ref aa)), (oc6 dr (.ref dx) (.ref dy) (nI 0) 0), (oa dx cI 40 (fun _ => 0)), (oa dy cI 40 (fun _ => 0)), (oc6 tg (.ref tx) (.ref ty) (nI 0) 1), (oa tx cI 3 (fun _ => 0)), (oa ty cI 3 (fun _ => 0)), (oc6 wy (.ref wx) (.ref wz) (nI 0) 0), (oa wx cI 2 (fun _ => 0)), (oa wz cI 2 (fun _ => 0)), (oc0 br 0 0 0 0), (oc0 bo 0 0 0 0), (oa aa cI 40 (fun _ => 0)), (oc5 ro (.ref za) (.ref zw) (.ref zx) (.ref zy) (.ref zg) 0), (oq za cF 200 (fun _ => none)), (oa zw cI 200 (fun _ => 0)), (oa zx cI 400 (fun _ => 0)), (oa zy cI 400 (fun _ => 0)), (oa zg cI 400 (fun _ => 0)), (oc0 bq 0 0 0 0), (oc0 bp 0 0 0 0), (oc2 dq 0 0), (oc2 dp 0 0), (oa lv cZ 200 (fun _ => 0))]) [0, 27, 1, 2, 3, 4, 5, 6, 7, 8, 9, 10, 11, 12, 13, 14, 15, 16, 17, 18, 19, 20, 21, 22, 23, 24, 25, 26] rfl
  have hD9 := hD.sub (ws' := [(oc8 x (.ref sh) (.ref lw) (.ref ro) (.ref bq) (.ref bp) (.ref dq) (.ref dp) (.ref lv) (.ref sl) 0 0 0 0), (oc10 sl 0 (.ref e0) (nI 0)), (oc7 sh (.ref fa) (nI 0)), (oq fa cF 200 (fun _ => none)), (oc3 lw (.ref dr) (.ref tg) (.ref wy) (.ref br) (.ref bo) (.ref aa)), (oc6 dr (.ref dx) (.ref dy) (nI 0) 0), (oa dx cI 40 (fun _ => 0)), (oa dy cI 40 (fun _ => 0)), (oc6 tg (.ref tx) (.ref ty) (nI 0) 1), (oa tx cI 3 (fun _ => 0)), (oa ty cI 3 (fun _ => 0)), (oc6 wy (.ref wx) (.ref wz) (nI 0) 0), (oa wx cI 2 (fun _ => 0)), (oa wz cI 2 (fun _ => 0)), (oc0 br 0 0 0 0), (oc0 bo 0 0 0 0), (oa aa cI 40 (fun _ => 0)), (oc5 ro (.ref za) (.ref zw) (.ref zx) (.ref zy) (.ref zg) 0), (oq za cF 200 (fun _ => none)), (oa zw cI 200 (fun _ => 0)), (oa zx cI 400 (fun _ => 0)), (oa zy cI 400 (fun _ => 0)), (oa zg cI 400 (fun _ => 0)), (oc0 bq 0 0 0 0), (oc0 bp 0 0 0 0), (oc2 dq 0 0), (oc2 dp 0 0), (oa lv cZ 200 (fun _ => 0))]) [0, 27, 1, 2, 3, 4, 5, 6, 7, 8, 9, 10, 11, 12, 13, 14, 15, 16, 17, 18, 19, 20, 21, 22, 23, 24, 25, 26] (by decide) rfl
  have hE9 : ([(oc8 x (.ref sh) (.ref lw) (.ref ro) (.ref bq) (.ref bp) (.ref dq) (.ref dp) (.ref lv) (.ref sl) 0 0 0 0), (oc10 sl 0 (.ref e0) (nI 0)), (oc7 sh (.ref fa) (nI 0)), (oq fa cF 200 (fun _ => none)), (oc3 lw (.ref dr) (.ref tg) (.ref wy) (.ref br) (.ref bo) (.ref aa)), (oc6 dr (.ref dx) (.ref dy) (nI 0) 0), (oa dx cI 40 (fun _ => 0)), (oa dy cI 40 (fun _ => 0)), (oc6 tg (.ref tx) (.ref ty) (nI 0) 1), (oa tx cI 3 (fun _ => 0)), (oa ty cI 3 (fun _ => 0)), (oc6 wy (.ref wx) (.ref wz) (nI 0) 0), (oa wx cI 2 (fun _ => 0)), (oa wz cI 2 (fun _ => 0)), (oc0 br 0 0 0 0), (oc0 bo 0 0 0 0), (oa aa cI 40 (fun _ => 0)), (oc5 ro (.ref za) (.ref zw) (.ref zx) (.ref zy) (.ref zg) 0), (oq za cF 200 (fun _ => none)), (oa zw cI 200 (fun _ => 0)), (oa zx cI 400 (fun _ => 0)), (oa zy cI 400 (fun _ => 0)), (oa zg cI 400 (fun _ => 0)), (oc0 bq 0 0 0 0), (oc0 bp 0 0 0 0), (oc2 dq 0 0), (oc2 dp 0 0), (oa lv cZ 200 (fun _ => 0))] : va_W) = [(oc8 x (.ref sh) (.ref lw) (.ref ro) (.ref bq) (.ref bp) (.ref dq) (.ref dp) (.ref lv) (.ref sl) (nI 0) (nI 0) 0 0), (oc10 sl 0 (.ref e0) (nI 0)), (oc7 sh (.ref fa) (nI 0)), (oq fa cF 200 (fun _ => none)), (oc3 lw (.ref dr) (.ref tg) (.ref wy) (.ref br) (.ref bo) (.ref aa)), (oc6 dr (.ref dx) (.ref dy) (nI 0) 0), (oa dx cI 40 (fun _ => 0)), (oa dy cI 40 (fun _ => 0)), (oc6 tg (.ref tx) (.ref ty) (nI 0) 1), (oa tx cI 3 (fun _ => 0)), (oa ty cI 3 (fun _ => 0)), (oc6 wy (.ref wx) (.ref wz) (nI 0) 0), (oa wx cI 2 (fun _ => 0)), (oa wz cI 2 (fun _ => 0)), (oc0 br 0 0 0 0), (oc0 bo 0 0 0 0), (oa aa cI 40 (fun _ => 0)), (oc5 ro (.ref za) (.ref zw) (.ref zx) (.ref zy) (.ref zg) 0), (oq za cF 200 (fun _ => none)), (oa zw cI 200 (fun _ => 0)), (oa zx cI 400 (fun _ => 0)), (oa zy cI 400 (fun _ => 0)), (oa zg cI 400 (fun _ => 0)), (oc0 bq 0 0 0 0), (oc0 bp 0 0 0 0), (oc2 dq 0 0), (oc2 dp 0 0), (oa lv cZ 200 (fun _ => 0))] := by rfl
  rw [hE9] at hP9 hD9
  refine W.widen (k := 30) (n := 2300) (by omega) (by omega) ?_
  rw [hQ9]
  exact W.vret hx hb hr (fun t ht hW => ⟨⟨rfl, sl, sh, fa, lw, dr, dx, dy, tg, tx, ty, wy, wx, wz, br, bo, aa, ro, za, zw, zx, zy, zg, bq, bp, dq, dp, lv, by rw [ht]; exact hP9, hD9⟩, hS.F ht⟩) hS.2.2 dX10_init_121
