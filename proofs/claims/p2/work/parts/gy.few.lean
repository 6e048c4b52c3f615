set_option maxHeartbeats 4000000 in
set_option maxRecDepth 100000 in
theorem k_few_4 (l : Launch) (dC : Nat → ClassId) (dI : Nat → Nat → Nat) (cI cZ cF : ClassId) (sz : Nat) (x : Nat) (sh : Nat) (lw : Nat) (ro : Nat) (bq : Nat) (bp : Nat) (dq : Nat) (dp : Nat) (lv : Nat) (sl : Nat) (sd : Int32) (ul : Int32) (su : Int32) (ds : Int32) (le9 : Int32) (mv9 : Int32) (hbad : ¬ (0 ≤ le9.toInt ∧ (0 ≤ mv9.toInt ∧ mv9.toInt ≤ 200))) : Met l yX10_few (.code yX10_few cX10_few 6 (some .int) :: ws0) ({ frames := 1, cells := 0, slots := 0, locals := 22 } : Room) (va_Pc [.ref x, .int le9, .int mv9] (zPre (dC, dI) classes (zTy cI cZ cF) [(oc8 x (.ref sh) (.ref lw) (.ref ro) (.ref bq) (.ref bp) (.ref dq) (.ref dp) (.ref lv) (.ref sl) ds sd ul su)] sz zXN)) (zQ (some (.int (-1))) (fun t => va_P (dC, dI) classes [(oc8 x (.ref sh) (.ref lw) (.ref ro) (.ref bq) (.ref bp) (.ref dq) (.ref dp) (.ref lv) (.ref sl) ds sd ul 4)] t.heap ∧ va_D (va_A [(oc8 x (.ref sh) (.ref lw) (.ref ro) (.ref bq) (.ref bp) (.ref dq) (.ref dp) (.ref lv) (.ref sl) ds sd ul su)] sz) [(oc8 x (.ref sh) (.ref lw) (.ref ro) (.ref bq) (.ref bp) (.ref dq) (.ref dp) (.ref lv) (.ref sl) ds sd ul 4)]) (va_A [(oc8 x (.ref sh) (.ref lw) (.ref ro) (.ref bq) (.ref bp) (.ref dq) (.ref dp) (.ref lv) (.ref sl) ds sd ul su)] sz)) 0 0 (va_A [(oc8 x (.ref sh) (.ref lw) (.ref ro) (.ref bq) (.ref bp) (.ref dq) (.ref dp) (.ref lv) (.ref sl) ds sd ul su)] sz) := by
  refine Met.ofW (cc := cX10_few) (maxL := 6) (ret := (some .int)) (by decide) rfl ?_
  intro p e s m args below meth c s₁ B hml hv
  obtain ⟨rfl, hsz, hP, hK, hD0, hXN⟩ := hv
  have hx := B.exec
  have hb := B.bytes
  have hr := B.returns
  have hts0 := atoms_spec (ws := .code yX10_few cX10_few 6 (some .int) :: ws0) B.pre
  have hts : ∀ w9 ∈ ws0, w9.before ([.ref x, .int le9, .int mv9] : List Value).toArray s = true := fun w9 h => hts0 w9 (List.mem_cons_of_mem _ h)
  have hown : s.vm.findClass "ScaleShop" = some m.cls := findClass_of_methodNamed B.named
  have hlocks := B.notSynchronized
  subst hsz
  have hD := hD0.self (sz := s.heap.size)
  clear hD0
  generalize hAe : va_A [(oc8 x (.ref sh) (.ref lw) (.ref ro) (.ref bq) (.ref bp) (.ref dq) (.ref dp) (.ref lv) (.ref sl) ds sd ul su)] s.heap.size = A at hD ⊢
  have hA : ∀ q : Nat, s.heap.size ≤ q → A q := fun q h => by rw [← hAe]; exact Or.inr h
  clear hAe
  have hS : va_S A s.heap s.heap [] := va_S.rf
  have hP : va_P (dC, dI) classes [(oc8 x (.ref sh) (.ref lw) (.ref ro) (.ref bq) (.ref bp) (.ref dq) (.ref dp) (.ref lv) (.ref sl) ds sd ul su)] s.heap := hP
  obtain ⟨Q9, hQ9⟩ : ∃ Q9 : State → Prop, Q9 = MQ below (zQ (some (.int (-1))) (fun t => va_P (dC, dI) classes [(oc8 x (.ref sh) (.ref lw) (.ref ro) (.ref bq) (.ref bp) (.ref dq) (.ref dp) (.ref lv) (.ref sl) ds sd ul 4)] t.heap ∧ va_D A [(oc8 x (.ref sh) (.ref lw) (.ref ro) (.ref bq) (.ref bp) (.ref dq) (.ref dp) (.ref lv) (.ref sl) ds sd ul 4)]) A) ([.ref x, .int le9, .int mv9] : List Value).toArray s 0 0 A := ⟨_, rfl⟩
  rw [← hQ9]
  have hl := lv_entry ([.ref x, .int le9, .int mv9]) (n := 6) (Nat.le_of_ble_eq_true rfl)
  rw [lg_entry_eq]
  generalize (lg_sl ([.ref x, .int le9, .int mv9]) ++ List.replicate (6 - (lg_sl ([.ref x, .int le9, .int mv9])).length) Slot.unset).toArray = ls at hl ⊢
  have hl : lv_has ls 6 [(0, .ref x), (1, .int le9), (2, .int mv9)] := hl
  have e_0 : (0 : Int32).toInt = 0 := (by decide)
  have e_200 : (200 : Int32).toInt = 200 := (by decide)
  refine lv_iload_n hx hb dX10_few_0 rfl (lv_at hl 1 rfl) ?_
  refine lv_if_lt (tgt := 15) hx hb dX10_few_1 (by decide) (fun c_1 => ?_) (fun c_1 => ?_)
  · have c_1 : le9.toInt < 0 := zc_lt rfl (by decide) c_1
    refine lv_aload_n hx hb dX10_few_15 rfl (lv_at hl 0 rfl) ?_
    refine lv_iconst (v := 4) hx hb dX10_few_16 (by decide) ?_
    have hPc := hP.sub (ws' := [(oc8 x (.ref sh) (.ref lw) (.ref ro) (.ref bq) (.ref bp) (.ref dq) (.ref dp) (.ref lv) (.ref sl) ds sd ul su)]) [0] rfl
    have hDc := hD.sub (ws' := [(oc8 x (.ref sh) (.ref lw) (.ref ro) (.ref bq) (.ref bp) (.ref dq) (.ref dp) (.ref lv) (.ref sl) ds sd ul su)]) [0] (by decide) rfl
    have hFc := va_free (wc := [(oc8 x (.ref sh) (.ref lw) (.ref ro) (.ref bq) (.ref bp) (.ref dq) (.ref dp) (.ref lv) (.ref sl) ds sd ul su)]) hD hS hA [0] rfl
    refine zcall (st1 := [.int (-1)]) (va_runV (As := [.int 4]) (rest := []) ⟨hx, hb, hml, hown, hts⟩ (k_refuse_4 l dC dI cI cZ cF s.heap.size x sh lw ro bq bp dq dp lv sl sd ul su ds ) (cwV 1 hts (zz_gV mw_356 mw_358 mw_0 mw_99 mc_yX10_refuse) rfl rfl rfl (by decide +kernel) ⟨Nat.le_of_ble_eq_true rfl, Nat.le_of_ble_eq_true rfl⟩) (zPV2 (q0 := 0) (ci := 8) hPc hDc hK hXN rfl rfl) rfl rfl hl.1 rfl (lv_room (Nat.le_of_ble_eq_true rfl)) dX10_few_17 ⟨Nat.le_of_ble_eq_true rfl, Nat.le_of_ble_eq_true rfl⟩) hS hFc hFc rfl (fun t H1 locs ht hB hk1 hS => ?_)
    obtain ⟨hP1, hD1⟩ := hB
    rw [ht] at hP1
    obtain ⟨hP, hD⟩ := va_join (wr := []) (w1 := [(oc8 x (.ref sh) (.ref lw) (.ref ro) (.ref bq) (.ref bp) (.ref dq) (.ref dp) (.ref lv) (.ref sl) ds sd ul 4)]) hP hD [0] [] rfl rfl (by decide) (by decide) hk1 hFc hP1 hD1
    clear hk1 hPc hDc hFc hP1 hD1 ht
    generalize H1 = H at hP hS ⊢
    have hP : va_P (dC, dI) classes [(oc8 x (.ref sh) (.ref lw) (.ref ro) (.ref bq) (.ref bp) (.ref dq) (.ref dp) (.ref lv) (.ref sl) ds sd ul 4)] H := hP
    have hD : va_D A [(oc8 x (.ref sh) (.ref lw) (.ref ro) (.ref bq) (.ref bp) (.ref dq) (.ref dp) (.ref lv) (.ref sl) ds sd ul 4)] := hD
    have hP9 := hP.sub (ws' := [(oc8 x (.ref sh) (.ref lw) (.ref ro) (.ref bq) (.ref bp) (.ref dq) (.ref dp) (.ref lv) (.ref sl) ds sd ul 4)]) [0] rfl
    have hD9 := hD.sub (ws' := [(oc8 x (.ref sh) (.ref lw) (.ref ro) (.ref bq) (.ref bp) (.ref dq) (.ref dp) (.ref lv) (.ref sl) ds sd ul 4)]) [0] (by decide) rfl
    rw [hQ9]
    exact W.iret (v := (-1)) hx hb hr (fun t ht hW => ⟨⟨rfl, by rw [ht]; exact hP9, hD9⟩, hS.F ht⟩) hS.2.2 dX10_few_20
  · have c_1 : 0 ≤ le9.toInt := zc_nlt rfl (by decide) c_1
    refine lv_iload_n hx hb dX10_few_4 rfl (lv_at hl 2 rfl) ?_
    refine lv_iconst (v := 0) hx hb dX10_few_5 (by decide) ?_
    refine lv_sipush (v := 200) hx hb dX10_few_6 (by decide) ?_
    have hPc := hP.sub (ws' := []) [] rfl
    have hDc := hD.sub (ws' := []) [] (by decide) rfl
    have hFc := va_free (wc := []) hD hS hA [] rfl
    refine zcall (st1 := [.int (pI ((0 : Int32).toInt ≤ mv9.toInt ∧ mv9.toInt ≤ (200 : Int32).toInt))]) (va_runS (As := [.int mv9, .int 0, .int 200]) (rest := []) ⟨hx, hb, hml, hown, hts⟩ (k_isWithin l dC dI cI cZ cF s.heap.size mv9 0 200 ) (va_cwS 3 hts (zz_gS mw_353 mw_354 mw_99 mc_yX10_isWithin) rfl rfl rfl (by decide +kernel) ⟨Nat.le_of_ble_eq_true rfl, Nat.le_of_ble_eq_true rfl⟩) (zPS2 hPc hDc hK hXN) rfl rfl hl.1 rfl (lv_room (Nat.le_of_ble_eq_true rfl)) dX10_few_9 ⟨Nat.le_of_ble_eq_true rfl, Nat.le_of_ble_eq_true rfl⟩) hS hFc hFc rfl (fun t H1 locs ht hB hk1 hS => ?_)
    obtain ⟨hP1, hD1⟩ := hB
    rw [ht] at hP1
    obtain ⟨hP, hD⟩ := va_join (wr := [(oc8 x (.ref sh) (.ref lw) (.ref ro) (.ref bq) (.ref bp) (.ref dq) (.ref dp) (.ref lv) (.ref sl) ds sd ul su)]) (w1 := []) hP hD [] [0] rfl rfl (by decide) (by decide) hk1 hFc hP1 hD1
    clear hk1 hPc hDc hFc hP1 hD1 ht
    generalize H1 = H at hP hS ⊢
    have hP : va_P (dC, dI) classes [(oc8 x (.ref sh) (.ref lw) (.ref ro) (.ref bq) (.ref bp) (.ref dq) (.ref dp) (.ref lv) (.ref sl) ds sd ul su)] H := hP
    have hD : va_D A [(oc8 x (.ref sh) (.ref lw) (.ref ro) (.ref bq) (.ref bp) (.ref dq) (.ref dp) (.ref lv) (.ref sl) ds sd ul su)] := hD
    refine lv_if_ne (tgt := 21) hx hb dX10_few_12 (by decide) (fun c_2 => ?_) (fun c_2 => ?_)
    · have c_2 : (0 : Int32).toInt ≤ mv9.toInt ∧ mv9.toInt ≤ (200 : Int32).toInt := zp_1 c_2
      exfalso; omega
    · have c_2 : ¬ ((0 : Int32).toInt ≤ mv9.toInt ∧ mv9.toInt ≤ (200 : Int32).toInt) := zp_0 c_2
      refine lv_aload_n hx hb dX10_few_15 rfl (lv_at hl 0 rfl) ?_
      refine lv_iconst (v := 4) hx hb dX10_few_16 (by decide) ?_
      have hPc := hP.sub (ws' := [(oc8 x (.ref sh) (.ref lw) (.ref ro) (.ref bq) (.ref bp) (.ref dq) (.ref dp) (.ref lv) (.ref sl) ds sd ul su)]) [0] rfl
      have hDc := hD.sub (ws' := [(oc8 x (.ref sh) (.ref lw) (.ref ro) (.ref bq) (.ref bp) (.ref dq) (.ref dp) (.ref lv) (.ref sl) ds sd ul su)]) [0] (by decide) rfl
      have hFc := va_free (wc := [(oc8 x (.ref sh) (.ref lw) (.ref ro) (.ref bq) (.ref bp) (.ref dq) (.ref dp) (.ref lv) (.ref sl) ds sd ul su)]) hD hS hA [0] rfl
      refine zcall (st1 := [.int (-1)]) (va_runV (As := [.int 4]) (rest := []) ⟨hx, hb, hml, hown, hts⟩ (k_refuse_4 l dC dI cI cZ cF H.size x sh lw ro bq bp dq dp lv sl sd ul su ds ) (cwV 1 hts (zz_gV mw_356 mw_358 mw_0 mw_99 mc_yX10_refuse) rfl rfl rfl (by decide +kernel) ⟨Nat.le_of_ble_eq_true rfl, Nat.le_of_ble_eq_true rfl⟩) (zPV2 (q0 := 0) (ci := 8) hPc hDc hK hXN rfl rfl) rfl rfl hl.1 rfl (lv_room (Nat.le_of_ble_eq_true rfl)) dX10_few_17 ⟨Nat.le_of_ble_eq_true rfl, Nat.le_of_ble_eq_true rfl⟩) hS hFc hFc rfl (fun t H1 locs ht hB hk1 hS => ?_)
      obtain ⟨hP1, hD1⟩ := hB
      rw [ht] at hP1
      obtain ⟨hP, hD⟩ := va_join (wr := []) (w1 := [(oc8 x (.ref sh) (.ref lw) (.ref ro) (.ref bq) (.ref bp) (.ref dq) (.ref dp) (.ref lv) (.ref sl) ds sd ul 4)]) hP hD [0] [] rfl rfl (by decide) (by decide) hk1 hFc hP1 hD1
      clear hk1 hPc hDc hFc hP1 hD1 ht
      generalize H1 = H at hP hS ⊢
      have hP : va_P (dC, dI) classes [(oc8 x (.ref sh) (.ref lw) (.ref ro) (.ref bq) (.ref bp) (.ref dq) (.ref dp) (.ref lv) (.ref sl) ds sd ul 4)] H := hP
      have hD : va_D A [(oc8 x (.ref sh) (.ref lw) (.ref ro) (.ref bq) (.ref bp) (.ref dq) (.ref dp) (.ref lv) (.ref sl) ds sd ul 4)] := hD
      have hP9 := hP.sub (ws' := [(oc8 x (.ref sh) (.ref lw) (.ref ro) (.ref bq) (.ref bp) (.ref dq) (.ref dp) (.ref lv) (.ref sl) ds sd ul 4)]) [0] rfl
      have hD9 := hD.sub (ws' := [(oc8 x (.ref sh) (.ref lw) (.ref ro) (.ref bq) (.ref bp) (.ref dq) (.ref dp) (.ref lv) (.ref sl) ds sd ul 4)]) [0] (by decide) rfl
      rw [hQ9]
      exact W.iret (v := (-1)) hx hb hr (fun t ht hW => ⟨⟨rfl, by rw [ht]; exact hP9, hD9⟩, hS.F ht⟩) hS.2.2 dX10_few_20
set_option maxHeartbeats 4000000 in
set_option maxRecDepth 100000 in
theorem k_few_0 (l : Launch) (dC : Nat → ClassId) (dI : Nat → Nat → Nat) (cI cZ cF : ClassId) (sz : Nat) (cO : ClassId) (e0 : Nat) (mi : Nat) (x : Nat) (sh : Nat) (lw : Nat) (ro : Nat) (bq : Nat) (bp : Nat) (dq : Nat) (dp : Nat) (lv : Nat) (sl : Nat) (sd : Int32) (ul : Int32) (su : Int32) (ea : Nat) (mc9 : Int32) (fa : Nat) (FA : Nat → Option Nat) (bs : Nat) (dn : Nat) (T : Nat) (ft : Nat) (FT : Nat → Nat) (V : Nat → Nat → Nat → Int32) (VX : Nat → Nat → Int32) (VY : Nat → Nat → Int32) (tn : Nat → Int32) (rk : Nat → Int32) (wd : Nat → Int32) (tw : Nat → Int32) (pa : Nat → Int32) (pb : Nat → Int32) (wh : Nat → Int32) (of9 : Nat → Int32) (we : Nat → Int32) (kd : Nat → Int32) (st : Nat → Int32) (gb : Nat → Int32) (it : Nat → Int32) (mn : Nat → Int32) (cx : Nat → Int32) (cy : Nat → Int32) (L : List Nat) (f : Nat → va_E) (le9 : Int32) (mv9 : Int32) (LV : Nat → Int32) (hB : shB cI cO L f e0 FA ea bs dn T ft FT V VX VY tn rk wd tw pa pb wh of9 we kd st gb it mn cx cy) (hok : okA ft st tn kd mn cx cy) (hgd : 0 ≤ le9.toInt ∧ (0 ≤ mv9.toInt ∧ mv9.toInt ≤ 200)) (hno : ∀ q, q < ft → ¬ fwM ft st tn kd mn tw cx cy le9.toInt mv9.toInt q) : Met l yX10_few (.code yX10_few cX10_few 6 (some .int) :: ws0) ({ frames := 4, cells := 0, slots := 0, locals := 93 } : Room) (va_Pc [.ref x, .int le9, .int mv9] (zPre (dC, dI) classes (zTyO cI cZ cF cO) ([(oc8 x (.ref sh) (.ref lw) (.ref ro) (.ref bq) (.ref bp) (.ref dq) (.ref dp) (.ref lv) (.ref sl) (nI dn) sd ul su), (oc10 sl mc9 (.ref ea) (nI T)), (oa lv cZ 200 LV), (oc7 sh (.ref fa) (nI ft)), (oq fa cF 200 FA)] ++ va_pl L f) sz (zXL e0 mi (va_A ([(oc8 x (.ref sh) (.ref lw) (.ref ro) (.ref bq) (.ref bp) (.ref dq) (.ref dp) (.ref lv) (.ref sl) (nI dn) sd ul su), (oc10 sl mc9 (.ref ea) (nI T)), (oa lv cZ 200 LV), (oc7 sh (.ref fa) (nI ft)), (oq fa cF 200 FA)] ++ va_pl L f) sz)))) (zQ (some (.int (-1))) (fun t => ∃ (LV1 : Nat → Int32), va_P (dC, dI) classes ([(oc8 x (.ref sh) (.ref lw) (.ref ro) (.ref bq) (.ref bp) (.ref dq) (.ref dp) (.ref lv) (.ref sl) (nI dn) sd ul 8), (oc10 sl mc9 (.ref ea) (nI T)), (oa lv cZ 200 LV1), (oc7 sh (.ref fa) (nI ft)), (oq fa cF 200 FA)] ++ va_pl L f) t.heap ∧ va_D (va_A ([(oc8 x (.ref sh) (.ref lw) (.ref ro) (.ref bq) (.ref bp) (.ref dq) (.ref dp) (.ref lv) (.ref sl) (nI dn) sd ul su), (oc10 sl mc9 (.ref ea) (nI T)), (oa lv cZ 200 LV), (oc7 sh (.ref fa) (nI ft)), (oq fa cF 200 FA)] ++ va_pl L f) sz) ([(oc8 x (.ref sh) (.ref lw) (.ref ro) (.ref bq) (.ref bp) (.ref dq) (.ref dp) (.ref lv) (.ref sl) (nI dn) sd ul 8), (oc10 sl mc9 (.ref ea) (nI T)), (oa lv cZ 200 LV1), (oc7 sh (.ref fa) (nI ft)), (oq fa cF 200 FA)] ++ va_pl L f)) (va_A ([(oc8 x (.ref sh) (.ref lw) (.ref ro) (.ref bq) (.ref bp) (.ref dq) (.ref dp) (.ref lv) (.ref sl) (nI dn) sd ul su), (oc10 sl mc9 (.ref ea) (nI T)), (oa lv cZ 200 LV), (oc7 sh (.ref fa) (nI ft)), (oq fa cF 200 FA)] ++ va_pl L f) sz)) 0 0 (va_A ([(oc8 x (.ref sh) (.ref lw) (.ref ro) (.ref bq) (.ref bp) (.ref dq) (.ref dp) (.ref lv) (.ref sl) (nI dn) sd ul su), (oc10 sl mc9 (.ref ea) (nI T)), (oa lv cZ 200 LV), (oc7 sh (.ref fa) (nI ft)), (oq fa cF 200 FA)] ++ va_pl L f) sz) := by
  refine Met.ofW (cc := cX10_few) (maxL := 6) (ret := (some .int)) (by decide) rfl ?_
  intro p e s m args below meth c s₁ B hml hv
  obtain ⟨rfl, hsz, hP, hK, hD0, hXL⟩ := hv
  have hx := B.exec
  have hb := B.bytes
  have hr := B.returns
  have hts0 := atoms_spec (ws := .code yX10_few cX10_few 6 (some .int) :: ws0) B.pre
  have hts : ∀ w9 ∈ ws0, w9.before ([.ref x, .int le9, .int mv9] : List Value).toArray s = true := fun w9 h => hts0 w9 (List.mem_cons_of_mem _ h)
  have hown : s.vm.findClass "ScaleShop" = some m.cls := findClass_of_methodNamed B.named
  have hlocks := B.notSynchronized
  subst hsz
  have hD := hD0.self (sz := s.heap.size)
  clear hD0
  generalize hAe : va_A ([(oc8 x (.ref sh) (.ref lw) (.ref ro) (.ref bq) (.ref bp) (.ref dq) (.ref dp) (.ref lv) (.ref sl) (nI dn) sd ul su), (oc10 sl mc9 (.ref ea) (nI T)), (oa lv cZ 200 LV), (oc7 sh (.ref fa) (nI ft)), (oq fa cF 200 FA)] ++ va_pl L f) s.heap.size = A at hD hXL ⊢
  have hA : ∀ q : Nat, s.heap.size ≤ q → A q := fun q h => by rw [← hAe]; exact Or.inr h
  clear hAe
  have hS : va_S A s.heap s.heap [] := va_S.rf
  have hXN := hXL.1
  have hK3 := hK.sub [0, 1, 2] rfl
  have hP : va_P (dC, dI) classes ([(oc8 x (.ref sh) (.ref lw) (.ref ro) (.ref bq) (.ref bp) (.ref dq) (.ref dp) (.ref lv) (.ref sl) (nI dn) sd ul su), (oc10 sl mc9 (.ref ea) (nI T)), (oa lv cZ 200 LV), (oc7 sh (.ref fa) (nI ft)), (oq fa cF 200 FA)] ++ va_pl L f) s.heap := hP
  obtain ⟨Q9, hQ9⟩ : ∃ Q9 : State → Prop, Q9 = MQ below (zQ (some (.int (-1))) (fun t => ∃ (LV1 : Nat → Int32), va_P (dC, dI) classes ([(oc8 x (.ref sh) (.ref lw) (.ref ro) (.ref bq) (.ref bp) (.ref dq) (.ref dp) (.ref lv) (.ref sl) (nI dn) sd ul 8), (oc10 sl mc9 (.ref ea) (nI T)), (oa lv cZ 200 LV1), (oc7 sh (.ref fa) (nI ft)), (oq fa cF 200 FA)] ++ va_pl L f) t.heap ∧ va_D A ([(oc8 x (.ref sh) (.ref lw) (.ref ro) (.ref bq) (.ref bp) (.ref dq) (.ref dp) (.ref lv) (.ref sl) (nI dn) sd ul 8), (oc10 sl mc9 (.ref ea) (nI T)), (oa lv cZ 200 LV1), (oc7 sh (.ref fa) (nI ft)), (oq fa cF 200 FA)] ++ va_pl L f)) A) ([.ref x, .int le9, .int mv9] : List Value).toArray s 0 0 A := ⟨_, rfl⟩
  rw [← hQ9]
  have hl := lv_entry ([.ref x, .int le9, .int mv9]) (n := 6) (Nat.le_of_ble_eq_true rfl)
  rw [lg_entry_eq]
  generalize (lg_sl ([.ref x, .int le9, .int mv9]) ++ List.replicate (6 - (lg_sl ([.ref x, .int le9, .int mv9])).length) Slot.unset).toArray = ls at hl ⊢
  have hl : lv_has ls 6 [(0, .ref x), (1, .int le9), (2, .int mv9)] := hl
  have hva9 := shB_va hB
  obtain ⟨own, fe, cl, la, sp, SA, hG9, hH9, hft9⟩ := hB
  obtain ⟨hG, hM, hdT, hT5⟩ := M_0 hG9 hH9 hft9
  have h200 : ft ≤ 200 := hG.2.2.2.2.2.1.2.2.2.2.2
  have hFA9 := hG.2.2.2.2.2.2
  have e_0 : (0 : Int32).toInt = 0 := (by decide)
  have e_200 : (200 : Int32).toInt = 200 := (by decide)
  refine lv_iload_n hx hb dX10_few_0 rfl (lv_at hl 1 rfl) ?_
  refine lv_if_lt (tgt := 15) hx hb dX10_few_1 (by decide) (fun c_1 => ?_) (fun c_1 => ?_)
  · have c_1 : le9.toInt < 0 := zc_lt rfl (by decide) c_1
    exfalso; omega
  · have c_1 : 0 ≤ le9.toInt := zc_nlt rfl (by decide) c_1
    refine lv_iload_n hx hb dX10_few_4 rfl (lv_at hl 2 rfl) ?_
    refine lv_iconst (v := 0) hx hb dX10_few_5 (by decide) ?_
    refine lv_sipush (v := 200) hx hb dX10_few_6 (by decide) ?_
    have hPc := hP.sub (ws' := []) [] rfl
    have hDc := hD.sub (ws' := []) [] (by decide) rfl
    have hFc := va_free (wc := []) hD hS hA [] rfl
    refine zcall (st1 := [.int (pI ((0 : Int32).toInt ≤ mv9.toInt ∧ mv9.toInt ≤ (200 : Int32).toInt))]) (va_runS (As := [.int mv9, .int 0, .int 200]) (rest := []) ⟨hx, hb, hml, hown, hts⟩ (k_isWithin l dC dI cI cZ cF s.heap.size mv9 0 200 ) (va_cwS 3 hts (zz_gS mw_353 mw_354 mw_99 mc_yX10_isWithin) rfl rfl rfl (by decide +kernel) ⟨Nat.le_of_ble_eq_true rfl, Nat.le_of_ble_eq_true rfl⟩) (zPS2 hPc hDc hK3 hXN) rfl rfl hl.1 rfl (lv_room (Nat.le_of_ble_eq_true rfl)) dX10_few_9 ⟨Nat.le_of_ble_eq_true rfl, Nat.le_of_ble_eq_true rfl⟩) hS hFc hFc rfl (fun t H1 locs ht hB hk1 hS => ?_)
    obtain ⟨hP1, hD1⟩ := hB
    rw [ht] at hP1
    obtain ⟨hP, hD⟩ := va_joinQ (wr := [(oc8 x (.ref sh) (.ref lw) (.ref ro) (.ref bq) (.ref bp) (.ref dq) (.ref dp) (.ref lv) (.ref sl) (nI dn) sd ul su), (oc10 sl mc9 (.ref ea) (nI T)), (oa lv cZ 200 LV), (oc7 sh (.ref fa) (nI ft)), (oq fa cF 200 FA)]) (w1 := []) hP hD [] [0, 1, 2, 3, 4] rfl rfl (by decide) (by decide) hk1 hFc hP1 hD1
    clear hk1 hPc hDc hFc hP1 hD1 ht
    generalize H1 = H at hP hS ⊢
    have hP : va_P (dC, dI) classes ([(oc8 x (.ref sh) (.ref lw) (.ref ro) (.ref bq) (.ref bp) (.ref dq) (.ref dp) (.ref lv) (.ref sl) (nI dn) sd ul su), (oc10 sl mc9 (.ref ea) (nI T)), (oa lv cZ 200 LV), (oc7 sh (.ref fa) (nI ft)), (oq fa cF 200 FA)] ++ va_pl L f) H := hP
    have hD : va_D A ([(oc8 x (.ref sh) (.ref lw) (.ref ro) (.ref bq) (.ref bp) (.ref dq) (.ref dp) (.ref lv) (.ref sl) (nI dn) sd ul su), (oc10 sl mc9 (.ref ea) (nI T)), (oa lv cZ 200 LV), (oc7 sh (.ref fa) (nI ft)), (oq fa cF 200 FA)] ++ va_pl L f) := hD
    refine lv_if_ne (tgt := 21) hx hb dX10_few_12 (by decide) (fun c_2 => ?_) (fun c_2 => ?_)
    · have c_2 : (0 : Int32).toInt ≤ mv9.toInt ∧ mv9.toInt ≤ (200 : Int32).toInt := zp_1 c_2
      refine lv_iconst (v := 0) hx hb dX10_few_21 (by decide) ?_
      refine lv_istore_n (lv' := [(3, .int 0), (0, .ref x), (1, .int le9), (2, .int mv9)]) hx hb dX10_few_22 rfl hl (by decide) rfl (fun ls hl => ?_)
      have hl_23 : ∀ (n9 : Nat) (g5 : Nat) (LVk : Nat → Int32) (H : Heap) (locs : List Loc) (ls : Array Slot), ft - g5 < n9 → (g5 ≤ ft) → (∀ j, j < g5 → LVk j = pI (fwM ft st tn kd mn tw cx cy le9.toInt mv9.toInt j)) → va_P (dC, dI) classes ([(oc8 x (.ref sh) (.ref lw) (.ref ro) (.ref bq) (.ref bp) (.ref dq) (.ref dp) (.ref lv) (.ref sl) (nI dn) sd ul su), (oc10 sl mc9 (.ref ea) (nI T)), (oa lv cZ 200 LVk), (oc7 sh (.ref fa) (nI ft)), (oq fa cF 200 FA)] ++ va_pl L f) H → va_D A ([(oc8 x (.ref sh) (.ref lw) (.ref ro) (.ref bq) (.ref bp) (.ref dq) (.ref dp) (.ref lv) (.ref sl) (nI dn) sd ul su), (oc10 sl mc9 (.ref ea) (nI T)), (oa lv cZ 200 LVk), (oc7 sh (.ref fa) (nI ft)), (oq fa cF 200 FA)] ++ va_pl L f) → va_S A s.heap H locs → lv_has ls 6 [(3, .int (nI g5)), (0, .ref x), (1, .int le9), (2, .int mv9)] → W p l e ((headSpec (.code yX10_few cX10_few 6 (some .int) :: ws0) ({ frames := 4, cells := 0, slots := 0, locals := 93 } : Room)).room) s m ([.ref x, .int le9, .int mv9] : List Value).toArray below meth c H locs 0 0 Q9 (F0 m 23 ls []) := by
        intro n9
        induction n9 with
        | zero => intro g5 LVk H locs ls hm; exact absurd hm (Nat.not_lt_zero _)
        | succ n9 ih_23 =>
          intro g5 LVk H locs ls hm hg5 hlk hP hD hS hl
          have hgb9 := cntP_b (gtF ft st tn kd mn tw cx cy g5) ft
          refine lv_iload_n hx hb dX10_few_23 rfl (lv_at hl 0 rfl) ?_
          refine lv_aload_n hx hb dX10_few_24 rfl (lv_at hl 1 rfl) ?_
          refine va_get (D := (dC, dI)) (ci := 8) (v := .ref sh) (C := RX10) (T := TX10) (N := 13) hx hb hts inX10 hown hK hP 0 rfl rfl 0 (by decide) (hts _ mw_309) (fun _ h9 => h9) rfl dX10_few_25 ?_
          refine va_get (D := (dC, dI)) (ci := 7) (v := .int (nI ft)) (C := RX8) (T := TX8) (N := 2) hx hb hts inX8 hown hK hP 3 rfl rfl 1 (by decide) (hts _ mw_140) (fun _ h9 => h9) rfl dX10_few_28 ?_
          refine lv_icmp_ge (tgt := 69) hx hb dX10_few_31 (by decide) (fun c_3 => ?_) (fun c_3 => ?_)
          · have c_3 : ((ft : Nat) : Int) ≤ ((g5 : Nat) : Int) := zc_le (nI_toInt (by omega)) (nI_toInt (by omega)) c_3
            have hgf : g5 = ft := (by omega)
            rw [hgf] at hlk
            refine lv_iconst (v := 0) hx hb dX10_few_69 (by decide) ?_
            refine lv_istore_n (lv' := [(3, .int 0), (0, .ref x), (1, .int le9), (2, .int mv9)]) hx hb dX10_few_70 rfl hl (by decide) rfl (fun ls hl => ?_)
            refine lv_iconst (v := 0) hx hb dX10_few_71 (by decide) ?_
            refine lv_istore (lv' := [(4, .int 0), (3, .int 0), (0, .ref x), (1, .int le9), (2, .int mv9)]) hx hb dX10_few_72 hl (by decide) rfl (fun ls hl => ?_)
            have hl_74 : ∀ (n9 : Nat) (g5 : Nat) (H : Heap) (locs : List Loc) (ls : Array Slot), ft - g5 < n9 → (g5 ≤ ft) → va_P (dC, dI) classes ([(oc8 x (.ref sh) (.ref lw) (.ref ro) (.ref bq) (.ref bp) (.ref dq) (.ref dp) (.ref lv) (.ref sl) (nI dn) sd ul su), (oc10 sl mc9 (.ref ea) (nI T)), (oa lv cZ 200 LVk), (oc7 sh (.ref fa) (nI ft)), (oq fa cF 200 FA)] ++ va_pl L f) H → va_D A ([(oc8 x (.ref sh) (.ref lw) (.ref ro) (.ref bq) (.ref bp) (.ref dq) (.ref dp) (.ref lv) (.ref sl) (nI dn) sd ul su), (oc10 sl mc9 (.ref ea) (nI T)), (oa lv cZ 200 LVk), (oc7 sh (.ref fa) (nI ft)), (oq fa cF 200 FA)] ++ va_pl L f) → va_S A s.heap H locs → lv_has ls 6 [(4, .int (nI g5)), (3, .int 0), (0, .ref x), (1, .int le9), (2, .int mv9)] → W p l e ((headSpec (.code yX10_few cX10_few 6 (some .int) :: ws0) ({ frames := 4, cells := 0, slots := 0, locals := 93 } : Room)).room) s m ([.ref x, .int le9, .int mv9] : List Value).toArray below meth c H locs 0 0 Q9 (F0 m 74 ls []) := by
              intro n9
              induction n9 with
              | zero => intro g5 H locs ls hm; exact absurd hm (Nat.not_lt_zero _)
              | succ n9 ih_74 =>
                intro g5 H locs ls hm hh5 hP hD hS hl
                refine lv_iload hx hb dX10_few_74 (lv_at hl 0 rfl) ?_
                refine lv_aload_n hx hb dX10_few_76 rfl (lv_at hl 2 rfl) ?_
                refine va_get (D := (dC, dI)) (ci := 8) (v := .ref sh) (C := RX10) (T := TX10) (N := 13) hx hb hts inX10 hown hK hP 0 rfl rfl 0 (by decide) (hts _ mw_309) (fun _ h9 => h9) rfl dX10_few_77 ?_
                refine va_get (D := (dC, dI)) (ci := 7) (v := .int (nI ft)) (C := RX8) (T := TX8) (N := 2) hx hb hts inX8 hown hK hP 3 rfl rfl 1 (by decide) (hts _ mw_140) (fun _ h9 => h9) rfl dX10_few_80 ?_
                refine lv_icmp_ge (tgt := 132) hx hb dX10_few_83 (by decide) (fun c_4 => ?_) (fun c_4 => ?_)
                · have c_4 : ((ft : Nat) : Int) ≤ ((g5 : Nat) : Int) := zc_le (nI_toInt (by omega)) (nI_toInt (by omega)) c_4
                  refine lv_iload_n hx hb dX10_few_132 rfl (lv_at hl 1 rfl) ?_
                  refine lv_if_ne (tgt := 143) hx hb dX10_few_133 (by decide) (fun c_5 => ?_) (fun c_5 => ?_)
                  · exact absurd (by decide) c_5
                  · refine lv_aload_n hx hb dX10_few_136 rfl (lv_at hl 2 rfl) ?_
                    refine lv_bipush (v := 8) hx hb dX10_few_137 (by decide) ?_
                    have hPc := hP.sub (ws' := [(oc8 x (.ref sh) (.ref lw) (.ref ro) (.ref bq) (.ref bp) (.ref dq) (.ref dp) (.ref lv) (.ref sl) (nI dn) sd ul su)]) [0] rfl
                    have hDc := hD.sub (ws' := [(oc8 x (.ref sh) (.ref lw) (.ref ro) (.ref bq) (.ref bp) (.ref dq) (.ref dp) (.ref lv) (.ref sl) (nI dn) sd ul su)]) [0] (by decide) rfl
                    have hFc := va_free (wc := [(oc8 x (.ref sh) (.ref lw) (.ref ro) (.ref bq) (.ref bp) (.ref dq) (.ref dp) (.ref lv) (.ref sl) (nI dn) sd ul su)]) hD hS hA [0] rfl
                    refine zcall (st1 := [.int (-1)]) (va_runV (As := [.int 8]) (rest := []) ⟨hx, hb, hml, hown, hts⟩ (k_refuse_8 l dC dI cI cZ cF H.size x sh lw ro bq bp dq dp lv sl sd ul su (nI dn) ) (cwV 1 hts (zz_gV mw_356 mw_358 mw_0 mw_99 mc_yX10_refuse) rfl rfl rfl (by decide +kernel) ⟨Nat.le_of_ble_eq_true rfl, Nat.le_of_ble_eq_true rfl⟩) (zPV2 (q0 := 0) (ci := 8) hPc hDc hK3 hXN rfl rfl) rfl rfl hl.1 rfl (lv_room (Nat.le_of_ble_eq_true rfl)) dX10_few_139 ⟨Nat.le_of_ble_eq_true rfl, Nat.le_of_ble_eq_true rfl⟩) hS hFc hFc rfl (fun t H1 locs ht hB hk1 hS => ?_)
                    obtain ⟨hP1, hD1⟩ := hB
                    rw [ht] at hP1
                    obtain ⟨hP, hD⟩ := va_joinQ (wr := [(oc10 sl mc9 (.ref ea) (nI T)), (oa lv cZ 200 LVk), (oc7 sh (.ref fa) (nI ft)), (oq fa cF 200 FA)]) (w1 := [(oc8 x (.ref sh) (.ref lw) (.ref ro) (.ref bq) (.ref bp) (.ref dq) (.ref dp) (.ref lv) (.ref sl) (nI dn) sd ul 8)]) hP hD [0] [1, 2, 3, 4] rfl rfl (by decide) (by decide) hk1 hFc hP1 hD1
                    clear hk1 hPc hDc hFc hP1 hD1 ht
                    generalize H1 = H at hP hS ⊢
                    have hP := hP.part (cx := [(oc8 x (.ref sh) (.ref lw) (.ref ro) (.ref bq) (.ref bp) (.ref dq) (.ref dp) (.ref lv) (.ref sl) (nI dn) sd ul 8), (oc10 sl mc9 (.ref ea) (nI T)), (oa lv cZ 200 LVk), (oc7 sh (.ref fa) (nI ft)), (oq fa cF 200 FA)]) [4, 0, 1, 2, 3] rfl
                    have hD := hD.part (cx := [(oc8 x (.ref sh) (.ref lw) (.ref ro) (.ref bq) (.ref bp) (.ref dq) (.ref dp) (.ref lv) (.ref sl) (nI dn) sd ul 8), (oc10 sl mc9 (.ref ea) (nI T)), (oa lv cZ 200 LVk), (oc7 sh (.ref fa) (nI ft)), (oq fa cF 200 FA)]) [4, 0, 1, 2, 3] (by decide) rfl
                    have hP : va_P (dC, dI) classes ([(oc8 x (.ref sh) (.ref lw) (.ref ro) (.ref bq) (.ref bp) (.ref dq) (.ref dp) (.ref lv) (.ref sl) (nI dn) sd ul 8), (oc10 sl mc9 (.ref ea) (nI T)), (oa lv cZ 200 LVk), (oc7 sh (.ref fa) (nI ft)), (oq fa cF 200 FA)] ++ va_pl L f) H := hP
                    have hD : va_D A ([(oc8 x (.ref sh) (.ref lw) (.ref ro) (.ref bq) (.ref bp) (.ref dq) (.ref dp) (.ref lv) (.ref sl) (nI dn) sd ul 8), (oc10 sl mc9 (.ref ea) (nI T)), (oa lv cZ 200 LVk), (oc7 sh (.ref fa) (nI ft)), (oq fa cF 200 FA)] ++ va_pl L f) := hD
                    have hP9 := hP.part (cx := [(oc8 x (.ref sh) (.ref lw) (.ref ro) (.ref bq) (.ref bp) (.ref dq) (.ref dp) (.ref lv) (.ref sl) (nI dn) sd ul 8), (oc10 sl mc9 (.ref ea) (nI T)), (oa lv cZ 200 LVk), (oc7 sh (.ref fa) (nI ft)), (oq fa cF 200 FA)]) [0, 1, 2, 3, 4] rfl
                    have hD9 := hD.part (cx := [(oc8 x (.ref sh) (.ref lw) (.ref ro) (.ref bq) (.ref bp) (.ref dq) (.ref dp) (.ref lv) (.ref sl) (nI dn) sd ul 8), (oc10 sl mc9 (.ref ea) (nI T)), (oa lv cZ 200 LVk), (oc7 sh (.ref fa) (nI ft)), (oq fa cF 200 FA)]) [0, 1, 2, 3, 4] (by decide) rfl
                    rw [hQ9]
                    exact W.iret (v := (-1)) hx hb hr (fun t ht hW => ⟨⟨rfl, LVk, by rw [ht]; exact hP9, hD9⟩, hS.F ht⟩) hS.2.2 dX10_few_142
                · have c_4 : ((g5 : Nat) : Int) < ((ft : Nat) : Int) := zc_nle (nI_toInt (by omega)) (nI_toInt (by omega)) c_4
                  refine lv_aload_n hx hb dX10_few_86 rfl (lv_at hl 2 rfl) ?_
                  refine va_get (D := (dC, dI)) (ci := 8) (v := .ref sh) (C := RX10) (T := TX10) (N := 13) hx hb hts inX10 hown hK hP 0 rfl rfl 0 (by decide) (hts _ mw_309) (fun _ h9 => h9) rfl dX10_few_87 ?_
                  refine lv_iload hx hb dX10_few_90 (lv_at hl 0 rfl) ?_
                  have hPc := hP.sub (ws' := [(oc7 sh (.ref fa) (nI ft)), (oq fa cF 200 FA)]) [3, 4] rfl
                  have hDc := hD.sub (ws' := [(oc7 sh (.ref fa) (nI ft)), (oq fa cF 200 FA)]) [3, 4] (by decide) rfl
                  have hFc := va_free (wc := [(oc7 sh (.ref fa) (nI ft)), (oq fa cF 200 FA)]) hD hS hA [3, 4] rfl
                  refine zcall (st1 := [.ref (fe g5)]) (va_runV (As := [.int (nI g5)]) (rest := []) ⟨hx, hb, hml, hown, hts⟩ (k_Sheet_find l dC dI cI cZ cF H.size sh fa ft FA g5 (fe g5) (by omega) (by omega) (hFA9 g5 (by omega))) (cwV 1 hts (zz_gV mw_498 mw_499 mw_500 mw_100 mc_yX8_find) rfl rfl rfl (by decide +kernel) ⟨Nat.le_of_ble_eq_true rfl, Nat.le_of_ble_eq_true rfl⟩) (zPV2 (q0 := 0) (ci := 7) hPc hDc hK3 hXN rfl rfl) rfl rfl hl.1 rfl (lv_room (Nat.le_of_ble_eq_true rfl)) dX10_few_92 ⟨Nat.le_of_ble_eq_true rfl, Nat.le_of_ble_eq_true rfl⟩) hS hFc hFc rfl (fun t H1 locs ht hB hk1 hS => ?_)
                  obtain ⟨hP1, hD1⟩ := hB
                  rw [ht] at hP1
                  obtain ⟨hP, hD⟩ := va_joinQ (wr := [(oc8 x (.ref sh) (.ref lw) (.ref ro) (.ref bq) (.ref bp) (.ref dq) (.ref dp) (.ref lv) (.ref sl) (nI dn) sd ul su), (oc10 sl mc9 (.ref ea) (nI T)), (oa lv cZ 200 LVk)]) (w1 := [(oc7 sh (.ref fa) (nI ft)), (oq fa cF 200 FA)]) hP hD [3, 4] [0, 1, 2] rfl rfl (by decide) (by decide) hk1 hFc hP1 hD1
                  clear hk1 hPc hDc hFc hP1 hD1 ht
                  generalize H1 = H at hP hS ⊢
                  have hP : va_P (dC, dI) classes ([(oc8 x (.ref sh) (.ref lw) (.ref ro) (.ref bq) (.ref bp) (.ref dq) (.ref dp) (.ref lv) (.ref sl) (nI dn) sd ul su), (oc10 sl mc9 (.ref ea) (nI T)), (oa lv cZ 200 LVk), (oc7 sh (.ref fa) (nI ft)), (oq fa cF 200 FA)] ++ va_pl L f) H := hP
                  have hD : va_D A ([(oc8 x (.ref sh) (.ref lw) (.ref ro) (.ref bq) (.ref bp) (.ref dq) (.ref dp) (.ref lv) (.ref sl) (nI dn) sd ul su), (oc10 sl mc9 (.ref ea) (nI T)), (oa lv cZ 200 LVk), (oc7 sh (.ref fa) (nI ft)), (oq fa cF 200 FA)] ++ va_pl L f) := hD
                  refine lv_astore (lv' := [(5, .ref (fe g5)), (4, .int (nI g5)), (3, .int 0), (0, .ref x), (1, .int le9), (2, .int mv9)]) hx hb dX10_few_95 hl (by decide) rfl (fun ls hl => ?_)
                  refine lv_aload hx hb dX10_few_97 (lv_at hl 0 rfl) ?_
                  refine lv_ifnull hx hb dX10_few_99 ?_
                  refine lv_aload_n hx hb dX10_few_102 rfl (lv_at hl 3 rfl) ?_
                  refine va_get (D := (dC, dI)) (ci := 8) (v := .ref lv) (C := RX10) (T := TX10) (N := 13) hx hb hts inX10 hown hK hP 0 rfl rfl 7 (by decide) (hts _ mw_316) (fun _ h9 => h9) rfl dX10_few_103 ?_
                  refine lv_iload hx hb dX10_few_106 (lv_at hl 1 rfl) ?_
                  refine z_zald hx hb hK hP 2 1 rfl rfl (e := g5) rfl (by omega) (by omega) dX10_few_108 ?_
                  refine zz_i (v := pI (fwM ft st tn kd mn tw cx cy le9.toInt mv9.toInt g5)) (hlk g5 (by omega)) ?_
                  refine lv_if_eq (tgt := 126) hx hb dX10_few_109 (by decide) (fun c_6 => ?_) (fun c_6 => ?_)
                  · have c_6 : ¬ (fwM ft st tn kd mn tw cx cy le9.toInt mv9.toInt g5) := zp_0 c_6
                    refine lv_iinc (v := nI (g5 + 1)) (lv' := [(4, .int (nI (g5 + 1))), (5, .ref (fe g5)), (3, .int 0), (0, .ref x), (1, .int le9), (2, .int mv9)]) hx hb dX10_few_126 hl (k := 1) rfl (nI_add g5 1) (by decide) rfl (fun ls hl => ?_)
                    refine lv_goto (tgt := 74) hx hb dX10_few_129 (by decide) ?_
                    exact ih_74 (g5 + 1) H locs ls (by omega) (by omega) hP hD hS (lv_sub hl [0, 2, 3, 4, 5] rfl)
                  · have c_6 : fwM ft st tn kd mn tw cx cy le9.toInt mv9.toInt g5 := zp_1 c_6
                    exfalso; exact absurd (by assumption) (hno g5 (by omega))
            exact hl_74 _ 0 H locs ls (Nat.lt_succ_self _) (by omega) hP hD hS (lv_sub hl [0, 1, 2, 3, 4] rfl)
          · have c_3 : ((g5 : Nat) : Int) < ((ft : Nat) : Int) := zc_nle (nI_toInt (by omega)) (nI_toInt (by omega)) c_3
            refine lv_aload_n hx hb dX10_few_34 rfl (lv_at hl 1 rfl) ?_
            refine va_get (D := (dC, dI)) (ci := 8) (v := .ref lv) (C := RX10) (T := TX10) (N := 13) hx hb hts inX10 hown hK hP 0 rfl rfl 7 (by decide) (hts _ mw_316) (fun _ h9 => h9) rfl dX10_few_35 ?_
            refine lv_iload_n hx hb dX10_few_38 rfl (lv_at hl 0 rfl) ?_
            refine lv_aload_n hx hb dX10_few_39 rfl (lv_at hl 1 rfl) ?_
            refine lv_iload_n hx hb dX10_few_40 rfl (lv_at hl 0 rfl) ?_
            refine lv_iload_n hx hb dX10_few_41 rfl (lv_at hl 2 rfl) ?_
            have hPc := hP.part (cx := [(oc8 x (.ref sh) (.ref lw) (.ref ro) (.ref bq) (.ref bp) (.ref dq) (.ref dp) (.ref lv) (.ref sl) (nI dn) sd ul su), (oc7 sh (.ref fa) (nI ft)), (oq fa cF 200 FA)]) [0, 3, 4] rfl
            have hDc := hD.part (cx := [(oc8 x (.ref sh) (.ref lw) (.ref ro) (.ref bq) (.ref bp) (.ref dq) (.ref dp) (.ref lv) (.ref sl) (nI dn) sd ul su), (oc7 sh (.ref fa) (nI ft)), (oq fa cF 200 FA)]) [0, 3, 4] (by decide) rfl
            have hFc := va_freeP (cx := [(oc8 x (.ref sh) (.ref lw) (.ref ro) (.ref bq) (.ref bp) (.ref dq) (.ref dp) (.ref lv) (.ref sl) (nI dn) sd ul su), (oc7 sh (.ref fa) (nI ft)), (oq fa cF 200 FA)]) hD hS hA [0, 3, 4] rfl
            refine zcall (st1 := [.int (pI (smF ft st tn kd mn cx cy le9.toInt g5)), .int (nI g5), .ref lv]) (va_runV (As := [.int (nI g5), .int le9]) (rest := [.int (nI g5), .ref lv]) ⟨hx, hb, hml, hown, hts⟩ (k_isSmallHouse l dC dI cI cZ cF H.size x sh lw ro bq bp dq dp lv sl sd ul su (nI dn) fa ft FA g5 le9 L f kd st tn mn cx cy rk wd tw pa pb gb it (by omega) (by omega) (hva9) (hok)) (cwV 2 hts (zz_gV mw_979 mw_981 mw_27 mw_99 mc_yX10_isSmallHouse) rfl rfl rfl (by decide +kernel) ⟨Nat.le_of_ble_eq_true rfl, Nat.le_of_ble_eq_true rfl⟩) (zPV2 (q0 := 0) (ci := 8) hPc hDc hK3 hXN rfl rfl) rfl rfl hl.1 rfl (lv_room (Nat.le_of_ble_eq_true rfl)) dX10_few_42 ⟨Nat.le_of_ble_eq_true rfl, Nat.le_of_ble_eq_true rfl⟩) hS hFc hFc rfl (fun t H1 locs ht hB hk1 hS => ?_)
            obtain ⟨hP1, hD1⟩ := hB
            rw [ht] at hP1
            obtain ⟨hP, hD⟩ := va_joinP (wr := [(oc10 sl mc9 (.ref ea) (nI T)), (oa lv cZ 200 LVk)]) (rx := [(oc8 x (.ref sh) (.ref lw) (.ref ro) (.ref bq) (.ref bp) (.ref dq) (.ref dp) (.ref lv) (.ref sl) (nI dn) sd ul su), (oc7 sh (.ref fa) (nI ft)), (oq fa cF 200 FA)]) hP hD [0, 3, 4] [1, 2] rfl rfl (by decide) (by decide) hk1 hFc hP1 hD1
            clear hk1 hPc hDc hFc hP1 hD1 ht
            generalize H1 = H at hP hS ⊢
            have hP := hP.part (cx := [(oc8 x (.ref sh) (.ref lw) (.ref ro) (.ref bq) (.ref bp) (.ref dq) (.ref dp) (.ref lv) (.ref sl) (nI dn) sd ul su), (oc10 sl mc9 (.ref ea) (nI T)), (oa lv cZ 200 LVk), (oc7 sh (.ref fa) (nI ft)), (oq fa cF 200 FA)]) [2, 0, 1, 3, 4] rfl
            have hD := hD.part (cx := [(oc8 x (.ref sh) (.ref lw) (.ref ro) (.ref bq) (.ref bp) (.ref dq) (.ref dp) (.ref lv) (.ref sl) (nI dn) sd ul su), (oc10 sl mc9 (.ref ea) (nI T)), (oa lv cZ 200 LVk), (oc7 sh (.ref fa) (nI ft)), (oq fa cF 200 FA)]) [2, 0, 1, 3, 4] (by decide) rfl
            have hP : va_P (dC, dI) classes ([(oc8 x (.ref sh) (.ref lw) (.ref ro) (.ref bq) (.ref bp) (.ref dq) (.ref dp) (.ref lv) (.ref sl) (nI dn) sd ul su), (oc10 sl mc9 (.ref ea) (nI T)), (oa lv cZ 200 LVk), (oc7 sh (.ref fa) (nI ft)), (oq fa cF 200 FA)] ++ va_pl L f) H := hP
            have hD : va_D A ([(oc8 x (.ref sh) (.ref lw) (.ref ro) (.ref bq) (.ref bp) (.ref dq) (.ref dp) (.ref lv) (.ref sl) (nI dn) sd ul su), (oc10 sl mc9 (.ref ea) (nI T)), (oa lv cZ 200 LVk), (oc7 sh (.ref fa) (nI ft)), (oq fa cF 200 FA)] ++ va_pl L f) := hD
            refine lv_if_eq (tgt := 61) hx hb dX10_few_45 (by decide) (fun c_7 => ?_) (fun c_7 => ?_)
            · have c_7 : ¬ (smF ft st tn kd mn cx cy le9.toInt g5) := zp_0 c_7
              refine lv_iconst (v := 0) hx hb dX10_few_61 (by decide) ?_
              refine z_zast hx hb hK hP hD hS 2 1 rfl rfl (e := g5) (x := 0) rfl (by omega) (by omega) (by decide) dX10_few_62 (fun H locs hP hD hS => ?_)
              have hP : va_P (dC, dI) classes ([(oc8 x (.ref sh) (.ref lw) (.ref ro) (.ref bq) (.ref bp) (.ref dq) (.ref dp) (.ref lv) (.ref sl) (nI dn) sd ul su), (oc10 sl mc9 (.ref ea) (nI T)), (oa lv cZ 200 (upd LVk g5 0)), (oc7 sh (.ref fa) (nI ft)), (oq fa cF 200 FA)] ++ va_pl L f) H := hP
              have hD : va_D A ([(oc8 x (.ref sh) (.ref lw) (.ref ro) (.ref bq) (.ref bp) (.ref dq) (.ref dp) (.ref lv) (.ref sl) (nI dn) sd ul su), (oc10 sl mc9 (.ref ea) (nI T)), (oa lv cZ 200 (upd LVk g5 0)), (oc7 sh (.ref fa) (nI ft)), (oq fa cF 200 FA)] ++ va_pl L f) := hD
              refine lv_iinc (v := nI (g5 + 1)) (lv' := [(3, .int (nI (g5 + 1))), (0, .ref x), (1, .int le9), (2, .int mv9)]) hx hb dX10_few_63 hl (k := 0) rfl (nI_add g5 1) (by decide) rfl (fun ls hl => ?_)
              refine lv_goto (tgt := 23) hx hb dX10_few_66 (by decide) ?_
              exact ih_23 (g5 + 1) (upd LVk g5 0) H locs ls (by omega) (by omega) (by intro j hj; unfold upd; by_cases e : j = g5; (rw [if_pos e, e]; first | exact (zp_t ⟨by assumption, by omega⟩).symm | exact (zp_f (fun q => by have h9 := q.2; omega)).symm | exact (zp_f (fun q => absurd q.1 (by assumption))).symm); (rw [if_neg e]; exact hlk j (by omega))) hP hD hS (lv_sub hl [0, 1, 2, 3] rfl)
            · have c_7 : smF ft st tn kd mn cx cy le9.toInt g5 := zp_1 c_7
              refine lv_aload_n hx hb dX10_few_48 rfl (lv_at hl 1 rfl) ?_
              refine lv_iload_n hx hb dX10_few_49 rfl (lv_at hl 0 rfl) ?_
              have hPc := hP.part (cx := [(oc8 x (.ref sh) (.ref lw) (.ref ro) (.ref bq) (.ref bp) (.ref dq) (.ref dp) (.ref lv) (.ref sl) (nI dn) sd ul su), (oc7 sh (.ref fa) (nI ft)), (oq fa cF 200 FA)]) [0, 3, 4] rfl
              have hDc := hD.part (cx := [(oc8 x (.ref sh) (.ref lw) (.ref ro) (.ref bq) (.ref bp) (.ref dq) (.ref dp) (.ref lv) (.ref sl) (nI dn) sd ul su), (oc7 sh (.ref fa) (nI ft)), (oq fa cF 200 FA)]) [0, 3, 4] (by decide) rfl
              have hFc := va_freeP (cx := [(oc8 x (.ref sh) (.ref lw) (.ref ro) (.ref bq) (.ref bp) (.ref dq) (.ref dp) (.ref lv) (.ref sl) (nI dn) sd ul su), (oc7 sh (.ref fa) (nI ft)), (oq fa cF 200 FA)]) hD hS hA [0, 3, 4] rfl
              refine zcall (st1 := [.int (nI (cntP (gtF ft st tn kd mn tw cx cy g5) ft)), .int (nI g5), .ref lv]) (va_runV (As := [.int (nI g5)]) (rest := [.int (nI g5), .ref lv]) ⟨hx, hb, hml, hown, hts⟩ (k_rankInTown l dC dI cI cZ cF H.size x sh lw ro bq bp dq dp lv sl sd ul su (nI dn) fa ft FA g5 L f kd st tn mn cx cy rk wd tw pa pb gb it own fe cl (la dn) (fun _ => 0) (fun _ => Value.null) (by omega) (by omega) (hG.1) (hG.2.1) (hFA9) (hok) ((by assumption : smF ft st tn kd mn cx cy le9.toInt g5).1.2.1) ((by assumption : smF ft st tn kd mn cx cy le9.toInt g5).1.2.2) ((by assumption : smF ft st tn kd mn cx cy le9.toInt g5).2.1)) (cwV 1 hts (zz_gV mw_988 mw_990 mw_28 mw_99 mc_yX10_rankInTown) rfl rfl rfl (by decide +kernel) ⟨Nat.le_of_ble_eq_true rfl, Nat.le_of_ble_eq_true rfl⟩) (zPV2 (q0 := 0) (ci := 8) hPc hDc hK3 hXN rfl rfl) rfl rfl hl.1 rfl (lv_room (Nat.le_of_ble_eq_true rfl)) dX10_few_50 ⟨Nat.le_of_ble_eq_true rfl, Nat.le_of_ble_eq_true rfl⟩) hS hFc hFc rfl (fun t H1 locs ht hB hk1 hS => ?_)
              obtain ⟨hP1, hD1⟩ := hB
              rw [ht] at hP1
              obtain ⟨hP, hD⟩ := va_joinP (wr := [(oc10 sl mc9 (.ref ea) (nI T)), (oa lv cZ 200 LVk)]) (rx := [(oc8 x (.ref sh) (.ref lw) (.ref ro) (.ref bq) (.ref bp) (.ref dq) (.ref dp) (.ref lv) (.ref sl) (nI dn) sd ul su), (oc7 sh (.ref fa) (nI ft)), (oq fa cF 200 FA)]) hP hD [0, 3, 4] [1, 2] rfl rfl (by decide) (by decide) hk1 hFc hP1 hD1
              clear hk1 hPc hDc hFc hP1 hD1 ht
              generalize H1 = H at hP hS ⊢
              have hP := hP.part (cx := [(oc8 x (.ref sh) (.ref lw) (.ref ro) (.ref bq) (.ref bp) (.ref dq) (.ref dp) (.ref lv) (.ref sl) (nI dn) sd ul su), (oc10 sl mc9 (.ref ea) (nI T)), (oa lv cZ 200 LVk), (oc7 sh (.ref fa) (nI ft)), (oq fa cF 200 FA)]) [2, 0, 1, 3, 4] rfl
              have hD := hD.part (cx := [(oc8 x (.ref sh) (.ref lw) (.ref ro) (.ref bq) (.ref bp) (.ref dq) (.ref dp) (.ref lv) (.ref sl) (nI dn) sd ul su), (oc10 sl mc9 (.ref ea) (nI T)), (oa lv cZ 200 LVk), (oc7 sh (.ref fa) (nI ft)), (oq fa cF 200 FA)]) [2, 0, 1, 3, 4] (by decide) rfl
              have hP : va_P (dC, dI) classes ([(oc8 x (.ref sh) (.ref lw) (.ref ro) (.ref bq) (.ref bp) (.ref dq) (.ref dp) (.ref lv) (.ref sl) (nI dn) sd ul su), (oc10 sl mc9 (.ref ea) (nI T)), (oa lv cZ 200 LVk), (oc7 sh (.ref fa) (nI ft)), (oq fa cF 200 FA)] ++ va_pl L f) H := hP
              have hD : va_D A ([(oc8 x (.ref sh) (.ref lw) (.ref ro) (.ref bq) (.ref bp) (.ref dq) (.ref dp) (.ref lv) (.ref sl) (nI dn) sd ul su), (oc10 sl mc9 (.ref ea) (nI T)), (oa lv cZ 200 LVk), (oc7 sh (.ref fa) (nI ft)), (oq fa cF 200 FA)] ++ va_pl L f) := hD
              refine lv_iload_n hx hb dX10_few_53 rfl (lv_at hl 3 rfl) ?_
              refine lv_icmp_lt (tgt := 61) hx hb dX10_few_54 (by decide) (fun c_8 => ?_) (fun c_8 => ?_)
              · have c_8 : ((cntP (gtF ft st tn kd mn tw cx cy g5) ft : Nat) : Int) < mv9.toInt := zc_lt (nI_toInt (by omega)) rfl c_8
                refine lv_iconst (v := 0) hx hb dX10_few_61 (by decide) ?_
                refine z_zast hx hb hK hP hD hS 2 1 rfl rfl (e := g5) (x := 0) rfl (by omega) (by omega) (by decide) dX10_few_62 (fun H locs hP hD hS => ?_)
                have hP : va_P (dC, dI) classes ([(oc8 x (.ref sh) (.ref lw) (.ref ro) (.ref bq) (.ref bp) (.ref dq) (.ref dp) (.ref lv) (.ref sl) (nI dn) sd ul su), (oc10 sl mc9 (.ref ea) (nI T)), (oa lv cZ 200 (upd LVk g5 0)), (oc7 sh (.ref fa) (nI ft)), (oq fa cF 200 FA)] ++ va_pl L f) H := hP
                have hD : va_D A ([(oc8 x (.ref sh) (.ref lw) (.ref ro) (.ref bq) (.ref bp) (.ref dq) (.ref dp) (.ref lv) (.ref sl) (nI dn) sd ul su), (oc10 sl mc9 (.ref ea) (nI T)), (oa lv cZ 200 (upd LVk g5 0)), (oc7 sh (.ref fa) (nI ft)), (oq fa cF 200 FA)] ++ va_pl L f) := hD
                refine lv_iinc (v := nI (g5 + 1)) (lv' := [(3, .int (nI (g5 + 1))), (0, .ref x), (1, .int le9), (2, .int mv9)]) hx hb dX10_few_63 hl (k := 0) rfl (nI_add g5 1) (by decide) rfl (fun ls hl => ?_)
                refine lv_goto (tgt := 23) hx hb dX10_few_66 (by decide) ?_
                exact ih_23 (g5 + 1) (upd LVk g5 0) H locs ls (by omega) (by omega) (by intro j hj; unfold upd; by_cases e : j = g5; (rw [if_pos e, e]; first | exact (zp_t ⟨by assumption, by omega⟩).symm | exact (zp_f (fun q => by have h9 := q.2; omega)).symm | exact (zp_f (fun q => absurd q.1 (by assumption))).symm); (rw [if_neg e]; exact hlk j (by omega))) hP hD hS (lv_sub hl [0, 1, 2, 3] rfl)
              · have c_8 : mv9.toInt ≤ ((cntP (gtF ft st tn kd mn tw cx cy g5) ft : Nat) : Int) := zc_nlt (nI_toInt (by omega)) rfl c_8
                refine lv_iconst (v := 1) hx hb dX10_few_57 (by decide) ?_
                refine lv_goto (tgt := 62) hx hb dX10_few_58 (by decide) ?_
                refine z_zast hx hb hK hP hD hS 2 1 rfl rfl (e := g5) (x := 1) rfl (by omega) (by omega) (by decide) dX10_few_62 (fun H locs hP hD hS => ?_)
                have hP : va_P (dC, dI) classes ([(oc8 x (.ref sh) (.ref lw) (.ref ro) (.ref bq) (.ref bp) (.ref dq) (.ref dp) (.ref lv) (.ref sl) (nI dn) sd ul su), (oc10 sl mc9 (.ref ea) (nI T)), (oa lv cZ 200 (upd LVk g5 1)), (oc7 sh (.ref fa) (nI ft)), (oq fa cF 200 FA)] ++ va_pl L f) H := hP
                have hD : va_D A ([(oc8 x (.ref sh) (.ref lw) (.ref ro) (.ref bq) (.ref bp) (.ref dq) (.ref dp) (.ref lv) (.ref sl) (nI dn) sd ul su), (oc10 sl mc9 (.ref ea) (nI T)), (oa lv cZ 200 (upd LVk g5 1)), (oc7 sh (.ref fa) (nI ft)), (oq fa cF 200 FA)] ++ va_pl L f) := hD
                refine lv_iinc (v := nI (g5 + 1)) (lv' := [(3, .int (nI (g5 + 1))), (0, .ref x), (1, .int le9), (2, .int mv9)]) hx hb dX10_few_63 hl (k := 0) rfl (nI_add g5 1) (by decide) rfl (fun ls hl => ?_)
                refine lv_goto (tgt := 23) hx hb dX10_few_66 (by decide) ?_
                exact ih_23 (g5 + 1) (upd LVk g5 1) H locs ls (by omega) (by omega) (by intro j hj; unfold upd; by_cases e : j = g5; (rw [if_pos e, e]; first | exact (zp_t ⟨by assumption, by omega⟩).symm | exact (zp_f (fun q => by have h9 := q.2; omega)).symm | exact (zp_f (fun q => absurd q.1 (by assumption))).symm); (rw [if_neg e]; exact hlk j (by omega))) hP hD hS (lv_sub hl [0, 1, 2, 3] rfl)
      exact hl_23 _ 0 LV H locs ls (Nat.lt_succ_self _) (by omega) (by intro j hj; omega) hP hD hS (lv_sub hl [0, 1, 2, 3] rfl)
    · have c_2 : ¬ ((0 : Int32).toInt ≤ mv9.toInt ∧ mv9.toInt ≤ (200 : Int32).toInt) := zp_0 c_2
      exfalso; omega
set_option maxHeartbeats 4000000 in
set_option maxRecDepth 100000 in
theorem k_few_y (l : Launch) (dC : Nat → ClassId) (dI : Nat → Nat → Nat) (cI cZ cF : ClassId) (sz : Nat) (cO : ClassId) (e0 : Nat) (mi : Nat) (x : Nat) (sh : Nat) (lw : Nat) (ro : Nat) (bq : Nat) (bp : Nat) (dq : Nat) (dp : Nat) (lv : Nat) (sl : Nat) (sd : Int32) (ul : Int32) (su : Int32) (ea : Nat) (mc9 : Int32) (fa : Nat) (FA : Nat → Option Nat) (bs : Nat) (dn : Nat) (T : Nat) (ft : Nat) (FT : Nat → Nat) (V : Nat → Nat → Nat → Int32) (VX : Nat → Nat → Int32) (VY : Nat → Nat → Int32) (tn : Nat → Int32) (rk : Nat → Int32) (wd : Nat → Int32) (tw : Nat → Int32) (pa : Nat → Int32) (pb : Nat → Int32) (wh : Nat → Int32) (of9 : Nat → Int32) (we : Nat → Int32) (kd : Nat → Int32) (st : Nat → Int32) (gb : Nat → Int32) (it : Nat → Int32) (mn : Nat → Int32) (cx : Nat → Int32) (cy : Nat → Int32) (L : List Nat) (f : Nat → va_E) (le9 : Int32) (mv9 : Int32) (LV : Nat → Int32) (hB : shB cI cO L f e0 FA ea bs dn T ft FT V VX VY tn rk wd tw pa pb wh of9 we kd st gb it mn cx cy) (hd5 : dn + 1 ≤ 512) (hok : okA ft st tn kd mn cx cy) (hgd : 0 ≤ le9.toInt ∧ (0 ≤ mv9.toInt ∧ mv9.toInt ≤ 200)) (hyes : 1 ≤ cntP (fwM ft st tn kd mn tw cx cy le9.toInt mv9.toInt) ft) (hit : ∀ q, q < ft → (st q).toInt = 1 → it q = -1) : Met l yX10_few (.code yX10_few cX10_few 6 (some .int) :: ws0) ({ frames := 8, cells := 2 * ft + 2, slots := 10 * ft + 805, locals := 182 } : Room) (va_Pc [.ref x, .int le9, .int mv9] (zPre (dC, dI) classes (zTyO cI cZ cF cO) ([(oc8 x (.ref sh) (.ref lw) (.ref ro) (.ref bq) (.ref bp) (.ref dq) (.ref dp) (.ref lv) (.ref sl) (nI dn) sd ul su), (oc10 sl mc9 (.ref ea) (nI T)), (oa lv cZ 200 LV), (oc7 sh (.ref fa) (nI ft)), (oq fa cF 200 FA)] ++ va_pl L f) sz (zXL e0 mi (va_A ([(oc8 x (.ref sh) (.ref lw) (.ref ro) (.ref bq) (.ref bp) (.ref dq) (.ref dp) (.ref lv) (.ref sl) (nI dn) sd ul su), (oc10 sl mc9 (.ref ea) (nI T)), (oa lv cZ 200 LV), (oc7 sh (.ref fa) (nI ft)), (oq fa cF 200 FA)] ++ va_pl L f) sz)))) (zQ (some (.int (nI (cntP (fwM ft st tn kd mn tw cx cy le9.toInt mv9.toInt) ft)))) (fun t => ∃ (mc1 : Int32), ∃ (L1 : List Nat), ∃ (f1 : Nat → va_E), ∃ (ea1 : Nat), ∃ (LV1 : Nat → Int32), (shB cI cO L1 f1 e0 FA ea1 bs (dn + 1) (dn + 1) ft (upN FT (dn + 1) ft) (upN V (dn + 1) (vC kd (gnA (fwM ft st tn kd mn tw cx cy le9.toInt mv9.toInt) ft 2 st) (gnA (fwM ft st tn kd mn tw cx cy le9.toInt mv9.toInt) ft (nI (dn + 1)) gb) (gnA (fwM ft st tn kd mn tw cx cy le9.toInt mv9.toInt) ft (-1 : Int32) it) mn)) (upN VX (dn + 1) cx) (upN VY (dn + 1) cy) tn rk wd tw pa pb (upd wh (dn + 1) (8 : Int32)) (upd of9 (dn + 1) (-1 : Int32)) (upd we (dn + 1) (nI (cntP (fwM ft st tn kd mn tw cx cy le9.toInt mv9.toInt) ft))) kd (gnA (fwM ft st tn kd mn tw cx cy le9.toInt mv9.toInt) ft 2 st) (gnA (fwM ft st tn kd mn tw cx cy le9.toInt mv9.toInt) ft (nI (dn + 1)) gb) (gnA (fwM ft st tn kd mn tw cx cy le9.toInt mv9.toInt) ft (-1 : Int32) it) mn cx cy) ∧ va_P (dC, dI) classes ([(oc8 x (.ref sh) (.ref lw) (.ref ro) (.ref bq) (.ref bp) (.ref dq) (.ref dp) (.ref lv) (.ref sl) (nI (dn + 1)) sd ul 0), (oc10 sl mc1 (.ref ea1) (nI (dn + 1))), (oa lv cZ 200 LV1), (oc7 sh (.ref fa) (nI ft)), (oq fa cF 200 FA)] ++ va_pl L1 f1) t.heap ∧ va_D (va_A ([(oc8 x (.ref sh) (.ref lw) (.ref ro) (.ref bq) (.ref bp) (.ref dq) (.ref dp) (.ref lv) (.ref sl) (nI dn) sd ul su), (oc10 sl mc9 (.ref ea) (nI T)), (oa lv cZ 200 LV), (oc7 sh (.ref fa) (nI ft)), (oq fa cF 200 FA)] ++ va_pl L f) sz) ([(oc8 x (.ref sh) (.ref lw) (.ref ro) (.ref bq) (.ref bp) (.ref dq) (.ref dp) (.ref lv) (.ref sl) (nI (dn + 1)) sd ul 0), (oc10 sl mc1 (.ref ea1) (nI (dn + 1))), (oa lv cZ 200 LV1), (oc7 sh (.ref fa) (nI ft)), (oq fa cF 200 FA)] ++ va_pl L1 f1)) (va_A ([(oc8 x (.ref sh) (.ref lw) (.ref ro) (.ref bq) (.ref bp) (.ref dq) (.ref dp) (.ref lv) (.ref sl) (nI dn) sd ul su), (oc10 sl mc9 (.ref ea) (nI T)), (oa lv cZ 200 LV), (oc7 sh (.ref fa) (nI ft)), (oq fa cF 200 FA)] ++ va_pl L f) sz)) (2 * ft + 2) (10 * ft + 805) (va_A ([(oc8 x (.ref sh) (.ref lw) (.ref ro) (.ref bq) (.ref bp) (.ref dq) (.ref dp) (.ref lv) (.ref sl) (nI dn) sd ul su), (oc10 sl mc9 (.ref ea) (nI T)), (oa lv cZ 200 LV), (oc7 sh (.ref fa) (nI ft)), (oq fa cF 200 FA)] ++ va_pl L f) sz) := by
  refine Met.ofW (cc := cX10_few) (maxL := 6) (ret := (some .int)) (by decide) rfl ?_
  intro p e s m args below meth c s₁ B hml hv
  obtain ⟨rfl, hsz, hP, hK, hD0, hXL⟩ := hv
  have hx := B.exec
  have hb := B.bytes
  have hr := B.returns
  have hts0 := atoms_spec (ws := .code yX10_few cX10_few 6 (some .int) :: ws0) B.pre
  have hts : ∀ w9 ∈ ws0, w9.before ([.ref x, .int le9, .int mv9] : List Value).toArray s = true := fun w9 h => hts0 w9 (List.mem_cons_of_mem _ h)
  have hown : s.vm.findClass "ScaleShop" = some m.cls := findClass_of_methodNamed B.named
  have hlocks := B.notSynchronized
  subst hsz
  have hD := hD0.self (sz := s.heap.size)
  clear hD0
  generalize hAe : va_A ([(oc8 x (.ref sh) (.ref lw) (.ref ro) (.ref bq) (.ref bp) (.ref dq) (.ref dp) (.ref lv) (.ref sl) (nI dn) sd ul su), (oc10 sl mc9 (.ref ea) (nI T)), (oa lv cZ 200 LV), (oc7 sh (.ref fa) (nI ft)), (oq fa cF 200 FA)] ++ va_pl L f) s.heap.size = A at hD hXL ⊢
  have hA : ∀ q : Nat, s.heap.size ≤ q → A q := fun q h => by rw [← hAe]; exact Or.inr h
  clear hAe
  have hS : va_S A s.heap s.heap [] := va_S.rf
  have hXN := hXL.1
  have hK3 := hK.sub [0, 1, 2] rfl
  have hP : va_P (dC, dI) classes ([(oc8 x (.ref sh) (.ref lw) (.ref ro) (.ref bq) (.ref bp) (.ref dq) (.ref dp) (.ref lv) (.ref sl) (nI dn) sd ul su), (oc10 sl mc9 (.ref ea) (nI T)), (oa lv cZ 200 LV), (oc7 sh (.ref fa) (nI ft)), (oq fa cF 200 FA)] ++ va_pl L f) s.heap := hP
  obtain ⟨Q9, hQ9⟩ : ∃ Q9 : State → Prop, Q9 = MQ below (zQ (some (.int (nI (cntP (fwM ft st tn kd mn tw cx cy le9.toInt mv9.toInt) ft)))) (fun t => ∃ (mc1 : Int32), ∃ (L1 : List Nat), ∃ (f1 : Nat → va_E), ∃ (ea1 : Nat), ∃ (LV1 : Nat → Int32), (shB cI cO L1 f1 e0 FA ea1 bs (dn + 1) (dn + 1) ft (upN FT (dn + 1) ft) (upN V (dn + 1) (vC kd (gnA (fwM ft st tn kd mn tw cx cy le9.toInt mv9.toInt) ft 2 st) (gnA (fwM ft st tn kd mn tw cx cy le9.toInt mv9.toInt) ft (nI (dn + 1)) gb) (gnA (fwM ft st tn kd mn tw cx cy le9.toInt mv9.toInt) ft (-1 : Int32) it) mn)) (upN VX (dn + 1) cx) (upN VY (dn + 1) cy) tn rk wd tw pa pb (upd wh (dn + 1) (8 : Int32)) (upd of9 (dn + 1) (-1 : Int32)) (upd we (dn + 1) (nI (cntP (fwM ft st tn kd mn tw cx cy le9.toInt mv9.toInt) ft))) kd (gnA (fwM ft st tn kd mn tw cx cy le9.toInt mv9.toInt) ft 2 st) (gnA (fwM ft st tn kd mn tw cx cy le9.toInt mv9.toInt) ft (nI (dn + 1)) gb) (gnA (fwM ft st tn kd mn tw cx cy le9.toInt mv9.toInt) ft (-1 : Int32) it) mn cx cy) ∧ va_P (dC, dI) classes ([(oc8 x (.ref sh) (.ref lw) (.ref ro) (.ref bq) (.ref bp) (.ref dq) (.ref dp) (.ref lv) (.ref sl) (nI (dn + 1)) sd ul 0), (oc10 sl mc1 (.ref ea1) (nI (dn + 1))), (oa lv cZ 200 LV1), (oc7 sh (.ref fa) (nI ft)), (oq fa cF 200 FA)] ++ va_pl L1 f1) t.heap ∧ va_D A ([(oc8 x (.ref sh) (.ref lw) (.ref ro) (.ref bq) (.ref bp) (.ref dq) (.ref dp) (.ref lv) (.ref sl) (nI (dn + 1)) sd ul 0), (oc10 sl mc1 (.ref ea1) (nI (dn + 1))), (oa lv cZ 200 LV1), (oc7 sh (.ref fa) (nI ft)), (oq fa cF 200 FA)] ++ va_pl L1 f1)) A) ([.ref x, .int le9, .int mv9] : List Value).toArray s (2 * ft + 2) (10 * ft + 805) A := ⟨_, rfl⟩
  rw [← hQ9]
  have hl := lv_entry ([.ref x, .int le9, .int mv9]) (n := 6) (Nat.le_of_ble_eq_true rfl)
  rw [lg_entry_eq]
  generalize (lg_sl ([.ref x, .int le9, .int mv9]) ++ List.replicate (6 - (lg_sl ([.ref x, .int le9, .int mv9])).length) Slot.unset).toArray = ls at hl ⊢
  have hl : lv_has ls 6 [(0, .ref x), (1, .int le9), (2, .int mv9)] := hl
  have hva9 := shB_va hB
  obtain ⟨own, fe, cl, la, sp, SA, hG9, hH9, hft9⟩ := hB
  obtain ⟨hG, hM, hdT, hT5⟩ := M_0 hG9 hH9 hft9
  have h200 : ft ≤ 200 := hG.2.2.2.2.2.1.2.2.2.2.2
  have hFA9 := hG.2.2.2.2.2.2
  have e_0 : (0 : Int32).toInt = 0 := (by decide)
  have e_200 : (200 : Int32).toInt = 200 := (by decide)
  refine lv_iload_n hx hb dX10_few_0 rfl (lv_at hl 1 rfl) ?_
  refine lv_if_lt (tgt := 15) hx hb dX10_few_1 (by decide) (fun c_1 => ?_) (fun c_1 => ?_)
  · have c_1 : le9.toInt < 0 := zc_lt rfl (by decide) c_1
    exfalso; omega
  · have c_1 : 0 ≤ le9.toInt := zc_nlt rfl (by decide) c_1
    refine lv_iload_n hx hb dX10_few_4 rfl (lv_at hl 2 rfl) ?_
    refine lv_iconst (v := 0) hx hb dX10_few_5 (by decide) ?_
    refine lv_sipush (v := 200) hx hb dX10_few_6 (by decide) ?_
    have hPc := hP.sub (ws' := []) [] rfl
    have hDc := hD.sub (ws' := []) [] (by decide) rfl
    have hFc := va_free (wc := []) hD hS hA [] rfl
    refine zcall (st1 := [.int (pI ((0 : Int32).toInt ≤ mv9.toInt ∧ mv9.toInt ≤ (200 : Int32).toInt))]) (va_runS (As := [.int mv9, .int 0, .int 200]) (rest := []) ⟨hx, hb, hml, hown, hts⟩ (k_isWithin l dC dI cI cZ cF s.heap.size mv9 0 200 ) (va_cwS 3 hts (zz_gS mw_353 mw_354 mw_99 mc_yX10_isWithin) rfl rfl rfl (by decide +kernel) ⟨Nat.le_of_ble_eq_true rfl, Nat.le_of_ble_eq_true rfl⟩) (zPS2 hPc hDc hK3 hXN) rfl rfl hl.1 rfl (lv_room (Nat.le_of_ble_eq_true rfl)) dX10_few_9 ⟨show 0 ≤ 2 * ft + 2 by omega, show 0 ≤ 10 * ft + 805 by omega⟩) hS hFc hFc rfl (fun t H1 locs ht hB hk1 hS => ?_)
    obtain ⟨hP1, hD1⟩ := hB
    rw [ht] at hP1
    obtain ⟨hP, hD⟩ := va_joinQ (wr := [(oc8 x (.ref sh) (.ref lw) (.ref ro) (.ref bq) (.ref bp) (.ref dq) (.ref dp) (.ref lv) (.ref sl) (nI dn) sd ul su), (oc10 sl mc9 (.ref ea) (nI T)), (oa lv cZ 200 LV), (oc7 sh (.ref fa) (nI ft)), (oq fa cF 200 FA)]) (w1 := []) hP hD [] [0, 1, 2, 3, 4] rfl rfl (by decide) (by decide) hk1 hFc hP1 hD1
    clear hk1 hPc hDc hFc hP1 hD1 ht
    generalize H1 = H at hP hS ⊢
    have hP : va_P (dC, dI) classes ([(oc8 x (.ref sh) (.ref lw) (.ref ro) (.ref bq) (.ref bp) (.ref dq) (.ref dp) (.ref lv) (.ref sl) (nI dn) sd ul su), (oc10 sl mc9 (.ref ea) (nI T)), (oa lv cZ 200 LV), (oc7 sh (.ref fa) (nI ft)), (oq fa cF 200 FA)] ++ va_pl L f) H := hP
    have hD : va_D A ([(oc8 x (.ref sh) (.ref lw) (.ref ro) (.ref bq) (.ref bp) (.ref dq) (.ref dp) (.ref lv) (.ref sl) (nI dn) sd ul su), (oc10 sl mc9 (.ref ea) (nI T)), (oa lv cZ 200 LV), (oc7 sh (.ref fa) (nI ft)), (oq fa cF 200 FA)] ++ va_pl L f) := hD
    refine lv_if_ne (tgt := 21) hx hb dX10_few_12 (by decide) (fun c_2 => ?_) (fun c_2 => ?_)
    · have c_2 : (0 : Int32).toInt ≤ mv9.toInt ∧ mv9.toInt ≤ (200 : Int32).toInt := zp_1 c_2
      refine lv_iconst (v := 0) hx hb dX10_few_21 (by decide) ?_
      refine lv_istore_n (lv' := [(3, .int 0), (0, .ref x), (1, .int le9), (2, .int mv9)]) hx hb dX10_few_22 rfl hl (by decide) rfl (fun ls hl => ?_)
      have hl_23 : ∀ (n9 : Nat) (g5 : Nat) (LVk : Nat → Int32) (H : Heap) (locs : List Loc) (ls : Array Slot), ft - g5 < n9 → (g5 ≤ ft) → (∀ j, j < g5 → LVk j = pI (fwM ft st tn kd mn tw cx cy le9.toInt mv9.toInt j)) → va_P (dC, dI) classes ([(oc8 x (.ref sh) (.ref lw) (.ref ro) (.ref bq) (.ref bp) (.ref dq) (.ref dp) (.ref lv) (.ref sl) (nI dn) sd ul su), (oc10 sl mc9 (.ref ea) (nI T)), (oa lv cZ 200 LVk), (oc7 sh (.ref fa) (nI ft)), (oq fa cF 200 FA)] ++ va_pl L f) H → va_D A ([(oc8 x (.ref sh) (.ref lw) (.ref ro) (.ref bq) (.ref bp) (.ref dq) (.ref dp) (.ref lv) (.ref sl) (nI dn) sd ul su), (oc10 sl mc9 (.ref ea) (nI T)), (oa lv cZ 200 LVk), (oc7 sh (.ref fa) (nI ft)), (oq fa cF 200 FA)] ++ va_pl L f) → va_S A s.heap H locs → lv_has ls 6 [(3, .int (nI g5)), (0, .ref x), (1, .int le9), (2, .int mv9)] → W p l e ((headSpec (.code yX10_few cX10_few 6 (some .int) :: ws0) ({ frames := 8, cells := 2 * ft + 2, slots := 10 * ft + 805, locals := 182 } : Room)).room) s m ([.ref x, .int le9, .int mv9] : List Value).toArray below meth c H locs 0 0 Q9 (F0 m 23 ls []) := by
        intro n9
        induction n9 with
        | zero => intro g5 LVk H locs ls hm; exact absurd hm (Nat.not_lt_zero _)
        | succ n9 ih_23 =>
          intro g5 LVk H locs ls hm hg5 hlk hP hD hS hl
          have hgb9 := cntP_b (gtF ft st tn kd mn tw cx cy g5) ft
          refine lv_iload_n hx hb dX10_few_23 rfl (lv_at hl 0 rfl) ?_
          refine lv_aload_n hx hb dX10_few_24 rfl (lv_at hl 1 rfl) ?_
          refine va_get (D := (dC, dI)) (ci := 8) (v := .ref sh) (C := RX10) (T := TX10) (N := 13) hx hb hts inX10 hown hK hP 0 rfl rfl 0 (by decide) (hts _ mw_309) (fun _ h9 => h9) rfl dX10_few_25 ?_
          refine va_get (D := (dC, dI)) (ci := 7) (v := .int (nI ft)) (C := RX8) (T := TX8) (N := 2) hx hb hts inX8 hown hK hP 3 rfl rfl 1 (by decide) (hts _ mw_140) (fun _ h9 => h9) rfl dX10_few_28 ?_
          refine lv_icmp_ge (tgt := 69) hx hb dX10_few_31 (by decide) (fun c_3 => ?_) (fun c_3 => ?_)
          · have c_3 : ((ft : Nat) : Int) ≤ ((g5 : Nat) : Int) := zc_le (nI_toInt (by omega)) (nI_toInt (by omega)) c_3
            have hgf : g5 = ft := (by omega)
            rw [hgf] at hlk
            refine lv_iconst (v := 0) hx hb dX10_few_69 (by decide) ?_
            refine lv_istore_n (lv' := [(3, .int 0), (0, .ref x), (1, .int le9), (2, .int mv9)]) hx hb dX10_few_70 rfl hl (by decide) rfl (fun ls hl => ?_)
            refine lv_iconst (v := 0) hx hb dX10_few_71 (by decide) ?_
            refine lv_istore (lv' := [(4, .int 0), (3, .int 0), (0, .ref x), (1, .int le9), (2, .int mv9)]) hx hb dX10_few_72 hl (by decide) rfl (fun ls hl => ?_)
            have hl_74 : ∀ (n9 : Nat) (g5 : Nat) (L6 : List Nat) (f6 : Nat → va_E) (own6 : Nat → Nat) (nw6 : Nat → Nat) (md6 : Nat → Nat) (fm6 : Nat → Value) (H : Heap) (locs : List Loc) (ls : Array Slot), ft - g5 < n9 → (g5 ≤ ft) → ((shG cI cO L6 f6 e0 FA ea T own6 fe cl la nw6 md6 sp fm6 SA bs dn dn ft ft FT V VX VY tn rk wd tw pa pb wh of9 we kd (gnA (fwM ft st tn kd mn tw cx cy le9.toInt mv9.toInt) g5 2 st) (gnA (fwM ft st tn kd mn tw cx cy le9.toInt mv9.toInt) g5 (nI (dn + 1)) gb) (gnA (fwM ft st tn kd mn tw cx cy le9.toInt mv9.toInt) g5 (-1 : Int32) it) mn cx cy) ∧ (mdA dn ft FT la nw6 md6 fm6 V kd (gnA (fwM ft st tn kd mn tw cx cy le9.toInt mv9.toInt) g5 2 st) (gnA (fwM ft st tn kd mn tw cx cy le9.toInt mv9.toInt) g5 (nI (dn + 1)) gb) (gnA (fwM ft st tn kd mn tw cx cy le9.toInt mv9.toInt) g5 (-1 : Int32) it)) ∧ (∀ q, g5 ≤ q → md6 q = 0)) → va_P (dC, dI) classes ([(oc8 x (.ref sh) (.ref lw) (.ref ro) (.ref bq) (.ref bp) (.ref dq) (.ref dp) (.ref lv) (.ref sl) (nI dn) sd ul su), (oc10 sl mc9 (.ref ea) (nI T)), (oa lv cZ 200 LVk), (oc7 sh (.ref fa) (nI ft)), (oq fa cF 200 FA)] ++ va_pl L6 f6) H → va_D A ([(oc8 x (.ref sh) (.ref lw) (.ref ro) (.ref bq) (.ref bp) (.ref dq) (.ref dp) (.ref lv) (.ref sl) (nI dn) sd ul su), (oc10 sl mc9 (.ref ea) (nI T)), (oa lv cZ 200 LVk), (oc7 sh (.ref fa) (nI ft)), (oq fa cF 200 FA)] ++ va_pl L6 f6) → va_S A s.heap H locs → lv_has ls 6 [(4, .int (nI g5)), (3, .int (nI (cntP (fwM ft st tn kd mn tw cx cy le9.toInt mv9.toInt) g5))), (0, .ref x), (1, .int le9), (2, .int mv9)] → W p l e ((headSpec (.code yX10_few cX10_few 6 (some .int) :: ws0) ({ frames := 8, cells := 2 * ft + 2, slots := 10 * ft + 805, locals := 182 } : Room)).room) s m ([.ref x, .int le9, .int mv9] : List Value).toArray below meth c H locs g5 (6 * g5) Q9 (F0 m 74 ls []) := by
              intro n9
              induction n9 with
              | zero => intro g5 L6 f6 own6 nw6 md6 fm6 H locs ls hm; exact absurd hm (Nat.not_lt_zero _)
              | succ n9 ih_74 =>
                intro g5 L6 f6 own6 nw6 md6 fm6 H locs ls hm hh5 hJ6 hP hD hS hl
                have hcb := cntP_b (fwM ft st tn kd mn tw cx cy le9.toInt mv9.toInt) g5
                refine lv_iload hx hb dX10_few_74 (lv_at hl 0 rfl) ?_
                refine lv_aload_n hx hb dX10_few_76 rfl (lv_at hl 2 rfl) ?_
                refine va_get (D := (dC, dI)) (ci := 8) (v := .ref sh) (C := RX10) (T := TX10) (N := 13) hx hb hts inX10 hown hK hP 0 rfl rfl 0 (by decide) (hts _ mw_309) (fun _ h9 => h9) rfl dX10_few_77 ?_
                refine va_get (D := (dC, dI)) (ci := 7) (v := .int (nI ft)) (C := RX8) (T := TX8) (N := 2) hx hb hts inX8 hown hK hP 3 rfl rfl 1 (by decide) (hts _ mw_140) (fun _ h9 => h9) rfl dX10_few_80 ?_
                refine lv_icmp_ge (tgt := 132) hx hb dX10_few_83 (by decide) (fun c_4 => ?_) (fun c_4 => ?_)
                · have c_4 : ((ft : Nat) : Int) ≤ ((g5 : Nat) : Int) := zc_le (nI_toInt (by omega)) (nI_toInt (by omega)) c_4
                  have hgf6 : g5 = ft := (by omega)
                  rw [hgf6] at hJ6
                  obtain ⟨hG1, hM1, hmd1⟩ := hJ6
                  refine lv_iload_n hx hb dX10_few_132 rfl (lv_at hl 1 rfl) ?_
                  refine lv_if_ne (tgt := 143) hx hb dX10_few_133 (by decide) (fun c_5 => ?_) (fun c_5 => ?_)
                  · have c_5 : ¬ ((cntP (fwM ft st tn kd mn tw cx cy le9.toInt mv9.toInt) g5 : Nat) : Int) = 0 := zc_ne (nI_toInt (by omega)) (by decide) c_5
                    refine lv_aload_n hx hb dX10_few_143 rfl (lv_at hl 2 rfl) ?_
                    refine lv_bipush (v := 8) hx hb dX10_few_144 (by decide) ?_
                    refine lv_iconst (v := (-1)) hx hb dX10_few_146 (by decide) ?_
                    refine lv_iload_n hx hb dX10_few_147 rfl (lv_at hl 1 rfl) ?_
                    refine zz_i (v := nI (cntP (fwM ft st tn kd mn tw cx cy le9.toInt mv9.toInt) ft)) (by rw [hgf6]) ?_
                    refine lv_null hx hb dX10_few_148 ?_
                    have hPc := hP.part (cx := [(oc8 x (.ref sh) (.ref lw) (.ref ro) (.ref bq) (.ref bp) (.ref dq) (.ref dp) (.ref lv) (.ref sl) (nI dn) sd ul su), (oc10 sl mc9 (.ref ea) (nI T)), (oc7 sh (.ref fa) (nI ft)), (oq fa cF 200 FA)]) [0, 1, 3, 4] rfl
                    have hDc := hD.part (cx := [(oc8 x (.ref sh) (.ref lw) (.ref ro) (.ref bq) (.ref bp) (.ref dq) (.ref dp) (.ref lv) (.ref sl) (nI dn) sd ul su), (oc10 sl mc9 (.ref ea) (nI T)), (oc7 sh (.ref fa) (nI ft)), (oq fa cF 200 FA)]) [0, 1, 3, 4] (by decide) rfl
                    have hFc := va_freeP (cx := [(oc8 x (.ref sh) (.ref lw) (.ref ro) (.ref bq) (.ref bp) (.ref dq) (.ref dp) (.ref lv) (.ref sl) (nI dn) sd ul su), (oc10 sl mc9 (.ref ea) (nI T)), (oc7 sh (.ref fa) (nI ft)), (oq fa cF 200 FA)]) hD hS hA [0, 1, 3, 4] rfl
                    refine zcall (st1 := [.int 1]) (va_runV (As := [.int 8, .int (-1), .int (nI (cntP (fwM ft st tn kd mn tw cx cy le9.toInt mv9.toInt) ft)), .null]) (rest := []) ⟨hx, hb, hml, hown, hts⟩ (k_book_n l dC dI cI cZ cF H.size cO e0 mi x sh lw ro bq bp dq dp lv sl sd ul su sl ea T mc9 fa FA own6 fe cl la nw6 md6 sp fm6 SA bs dn ft FT V VX VY tn rk wd tw pa pb wh of9 we kd (gnA (fwM ft st tn kd mn tw cx cy le9.toInt mv9.toInt) ft 2 st) (gnA (fwM ft st tn kd mn tw cx cy le9.toInt mv9.toInt) ft (nI (dn + 1)) gb) (gnA (fwM ft st tn kd mn tw cx cy le9.toInt mv9.toInt) ft (-1 : Int32) it) mn cx cy 8 (-1) (nI (cntP (fwM ft st tn kd mn tw cx cy le9.toInt mv9.toInt) ft)) L6 f6 (hG1) (hM1) (hdT) (hT5) (by omega) (fun q h1 h2 => by omega) (hft9)) (cwV 4 hts (zz_gV mw_753 mw_755 mw_20 mw_99 mc_yX10_book) rfl rfl rfl (by decide +kernel) ⟨Nat.le_of_ble_eq_true rfl, Nat.le_of_ble_eq_true rfl⟩) (zPVL (q0 := 0) (ci := 8) hPc hDc hK hXL hS hFc rfl rfl) rfl rfl hl.1 rfl (lv_room (Nat.le_of_ble_eq_true rfl)) dX10_few_149 ⟨show (g5 + (ft + 2)) ≤ 2 * ft + 2 by omega, show (6 * g5 + (4 * ft + 805)) ≤ 10 * ft + 805 by omega⟩) hS hFc hFc rfl (fun t H1 locs ht hB hk1 hS => ?_)
                    obtain ⟨mc6, L8, f8, ea6, hB6, hP1, hD1⟩ := hB
                    rw [ht] at hP1
                    obtain ⟨hP, hD⟩ := va_joinP (wr := [(oa lv cZ 200 LVk)]) (rx := [(oc8 x (.ref sh) (.ref lw) (.ref ro) (.ref bq) (.ref bp) (.ref dq) (.ref dp) (.ref lv) (.ref sl) (nI (dn + 1)) sd ul 0), (oc10 sl mc6 (.ref ea6) (nI (dn + 1))), (oc7 sh (.ref fa) (nI ft)), (oq fa cF 200 FA)]) hP hD [0, 1, 3, 4] [2] rfl rfl (by decide) (by decide) hk1 hFc hP1 hD1
                    clear hk1 hPc hDc hFc hP1 hD1 ht
                    generalize H1 = H at hP hS ⊢
                    have hP := hP.part (cx := [(oc8 x (.ref sh) (.ref lw) (.ref ro) (.ref bq) (.ref bp) (.ref dq) (.ref dp) (.ref lv) (.ref sl) (nI (dn + 1)) sd ul 0), (oc10 sl mc6 (.ref ea6) (nI (dn + 1))), (oa lv cZ 200 LVk), (oc7 sh (.ref fa) (nI ft)), (oq fa cF 200 FA)]) [1, 2, 0, 3, 4] rfl
                    have hD := hD.part (cx := [(oc8 x (.ref sh) (.ref lw) (.ref ro) (.ref bq) (.ref bp) (.ref dq) (.ref dp) (.ref lv) (.ref sl) (nI (dn + 1)) sd ul 0), (oc10 sl mc6 (.ref ea6) (nI (dn + 1))), (oa lv cZ 200 LVk), (oc7 sh (.ref fa) (nI ft)), (oq fa cF 200 FA)]) [1, 2, 0, 3, 4] (by decide) rfl
                    have hP : va_P (dC, dI) classes ([(oc8 x (.ref sh) (.ref lw) (.ref ro) (.ref bq) (.ref bp) (.ref dq) (.ref dp) (.ref lv) (.ref sl) (nI (dn + 1)) sd ul 0), (oc10 sl mc6 (.ref ea6) (nI (dn + 1))), (oa lv cZ 200 LVk), (oc7 sh (.ref fa) (nI ft)), (oq fa cF 200 FA)] ++ va_pl L8 f8) H := hP
                    have hD : va_D A ([(oc8 x (.ref sh) (.ref lw) (.ref ro) (.ref bq) (.ref bp) (.ref dq) (.ref dp) (.ref lv) (.ref sl) (nI (dn + 1)) sd ul 0), (oc10 sl mc6 (.ref ea6) (nI (dn + 1))), (oa lv cZ 200 LVk), (oc7 sh (.ref fa) (nI ft)), (oq fa cF 200 FA)] ++ va_pl L8 f8) := hD
                    refine lv_pop hx hb dX10_few_152 rfl ?_
                    refine lv_iload_n hx hb dX10_few_153 rfl (lv_at hl 1 rfl) ?_
                    have hP9 := hP.part (cx := [(oc8 x (.ref sh) (.ref lw) (.ref ro) (.ref bq) (.ref bp) (.ref dq) (.ref dp) (.ref lv) (.ref sl) (nI (dn + 1)) sd ul 0), (oc10 sl mc6 (.ref ea6) (nI (dn + 1))), (oa lv cZ 200 LVk), (oc7 sh (.ref fa) (nI ft)), (oq fa cF 200 FA)]) [0, 1, 2, 3, 4] rfl
                    have hD9 := hD.part (cx := [(oc8 x (.ref sh) (.ref lw) (.ref ro) (.ref bq) (.ref bp) (.ref dq) (.ref dp) (.ref lv) (.ref sl) (nI (dn + 1)) sd ul 0), (oc10 sl mc6 (.ref ea6) (nI (dn + 1))), (oa lv cZ 200 LVk), (oc7 sh (.ref fa) (nI ft)), (oq fa cF 200 FA)]) [0, 1, 2, 3, 4] (by decide) rfl
                    refine W.widen (k := 2 * ft + 2) (n := 10 * ft + 805) (by omega) (by omega) ?_
                    rw [hQ9]
                    exact W.iret (v := nI (cntP (fwM ft st tn kd mn tw cx cy le9.toInt mv9.toInt) g5)) hx hb hr (fun t ht hW => ⟨⟨congrArg (fun z => Outcome.returned (some (Value.int z))) (show (nI (cntP (fwM ft st tn kd mn tw cx cy le9.toInt mv9.toInt) g5) : Int32) = nI (cntP (fwM ft st tn kd mn tw cx cy le9.toInt mv9.toInt) ft) from by rw [hgf6]), mc6, L8, f8, ea6, LVk, (hB6), by rw [ht]; exact hP9, hD9⟩, hS.F ht⟩) hS.2.2 dX10_few_154
                  · have c_5 : ((cntP (fwM ft st tn kd mn tw cx cy le9.toInt mv9.toInt) g5 : Nat) : Int) = 0 := zc_eq (nI_toInt (by omega)) (by decide) c_5
                    exfalso; have e9 : cntP (fwM ft st tn kd mn tw cx cy le9.toInt mv9.toInt) g5 = cntP (fwM ft st tn kd mn tw cx cy le9.toInt mv9.toInt) ft := (by rw [hgf6]); omega
                · have c_4 : ((g5 : Nat) : Int) < ((ft : Nat) : Int) := zc_nle (nI_toInt (by omega)) (nI_toInt (by omega)) c_4
                  refine lv_aload_n hx hb dX10_few_86 rfl (lv_at hl 2 rfl) ?_
                  refine va_get (D := (dC, dI)) (ci := 8) (v := .ref sh) (C := RX10) (T := TX10) (N := 13) hx hb hts inX10 hown hK hP 0 rfl rfl 0 (by decide) (hts _ mw_309) (fun _ h9 => h9) rfl dX10_few_87 ?_
                  refine lv_iload hx hb dX10_few_90 (lv_at hl 0 rfl) ?_
                  have hPc := hP.sub (ws' := [(oc7 sh (.ref fa) (nI ft)), (oq fa cF 200 FA)]) [3, 4] rfl
                  have hDc := hD.sub (ws' := [(oc7 sh (.ref fa) (nI ft)), (oq fa cF 200 FA)]) [3, 4] (by decide) rfl
                  have hFc := va_free (wc := [(oc7 sh (.ref fa) (nI ft)), (oq fa cF 200 FA)]) hD hS hA [3, 4] rfl
                  refine zcall (st1 := [.ref (fe g5)]) (va_runV (As := [.int (nI g5)]) (rest := []) ⟨hx, hb, hml, hown, hts⟩ (k_Sheet_find l dC dI cI cZ cF H.size sh fa ft FA g5 (fe g5) (by omega) (by omega) (hFA9 g5 (by omega))) (cwV 1 hts (zz_gV mw_498 mw_499 mw_500 mw_100 mc_yX8_find) rfl rfl rfl (by decide +kernel) ⟨Nat.le_of_ble_eq_true rfl, Nat.le_of_ble_eq_true rfl⟩) (zPV2 (q0 := 0) (ci := 7) hPc hDc hK3 hXN rfl rfl) rfl rfl hl.1 rfl (lv_room (Nat.le_of_ble_eq_true rfl)) dX10_few_92 ⟨show g5 ≤ 2 * ft + 2 by omega, show 6 * g5 ≤ 10 * ft + 805 by omega⟩) hS hFc hFc rfl (fun t H1 locs ht hB hk1 hS => ?_)
                  obtain ⟨hP1, hD1⟩ := hB
                  rw [ht] at hP1
                  obtain ⟨hP, hD⟩ := va_joinQ (wr := [(oc8 x (.ref sh) (.ref lw) (.ref ro) (.ref bq) (.ref bp) (.ref dq) (.ref dp) (.ref lv) (.ref sl) (nI dn) sd ul su), (oc10 sl mc9 (.ref ea) (nI T)), (oa lv cZ 200 LVk)]) (w1 := [(oc7 sh (.ref fa) (nI ft)), (oq fa cF 200 FA)]) hP hD [3, 4] [0, 1, 2] rfl rfl (by decide) (by decide) hk1 hFc hP1 hD1
                  clear hk1 hPc hDc hFc hP1 hD1 ht
                  generalize H1 = H at hP hS ⊢
                  have hP : va_P (dC, dI) classes ([(oc8 x (.ref sh) (.ref lw) (.ref ro) (.ref bq) (.ref bp) (.ref dq) (.ref dp) (.ref lv) (.ref sl) (nI dn) sd ul su), (oc10 sl mc9 (.ref ea) (nI T)), (oa lv cZ 200 LVk), (oc7 sh (.ref fa) (nI ft)), (oq fa cF 200 FA)] ++ va_pl L6 f6) H := hP
                  have hD : va_D A ([(oc8 x (.ref sh) (.ref lw) (.ref ro) (.ref bq) (.ref bp) (.ref dq) (.ref dp) (.ref lv) (.ref sl) (nI dn) sd ul su), (oc10 sl mc9 (.ref ea) (nI T)), (oa lv cZ 200 LVk), (oc7 sh (.ref fa) (nI ft)), (oq fa cF 200 FA)] ++ va_pl L6 f6) := hD
                  refine lv_astore (lv' := [(5, .ref (fe g5)), (4, .int (nI g5)), (3, .int (nI (cntP (fwM ft st tn kd mn tw cx cy le9.toInt mv9.toInt) g5))), (0, .ref x), (1, .int le9), (2, .int mv9)]) hx hb dX10_few_95 hl (by decide) rfl (fun ls hl => ?_)
                  refine lv_aload hx hb dX10_few_97 (lv_at hl 0 rfl) ?_
                  refine lv_ifnull hx hb dX10_few_99 ?_
                  refine lv_aload_n hx hb dX10_few_102 rfl (lv_at hl 3 rfl) ?_
                  refine va_get (D := (dC, dI)) (ci := 8) (v := .ref lv) (C := RX10) (T := TX10) (N := 13) hx hb hts inX10 hown hK hP 0 rfl rfl 7 (by decide) (hts _ mw_316) (fun _ h9 => h9) rfl dX10_few_103 ?_
                  refine lv_iload hx hb dX10_few_106 (lv_at hl 1 rfl) ?_
                  refine z_zald hx hb hK hP 2 1 rfl rfl (e := g5) rfl (by omega) (by omega) dX10_few_108 ?_
                  refine zz_i (v := pI (fwM ft st tn kd mn tw cx cy le9.toInt mv9.toInt g5)) (hlk g5 (by omega)) ?_
                  refine lv_if_eq (tgt := 126) hx hb dX10_few_109 (by decide) (fun c_6 => ?_) (fun c_6 => ?_)
                  · have c_6 : ¬ (fwM ft st tn kd mn tw cx cy le9.toInt mv9.toInt g5) := zp_0 c_6
                    have hMn : ¬ fwM ft st tn kd mn tw cx cy le9.toInt mv9.toInt g5 := (by assumption)
                    have hJ7 : (shG cI cO L6 f6 e0 FA ea T own6 fe cl la nw6 md6 sp fm6 SA bs dn dn ft ft FT V VX VY tn rk wd tw pa pb wh of9 we kd (gnA (fwM ft st tn kd mn tw cx cy le9.toInt mv9.toInt) (g5 + 1) 2 st) (gnA (fwM ft st tn kd mn tw cx cy le9.toInt mv9.toInt) (g5 + 1) (nI (dn + 1)) gb) (gnA (fwM ft st tn kd mn tw cx cy le9.toInt mv9.toInt) (g5 + 1) (-1 : Int32) it) mn cx cy) ∧ (mdA dn ft FT la nw6 md6 fm6 V kd (gnA (fwM ft st tn kd mn tw cx cy le9.toInt mv9.toInt) (g5 + 1) 2 st) (gnA (fwM ft st tn kd mn tw cx cy le9.toInt mv9.toInt) (g5 + 1) (nI (dn + 1)) gb) (gnA (fwM ft st tn kd mn tw cx cy le9.toInt mv9.toInt) (g5 + 1) (-1 : Int32) it)) ∧ (∀ q, (g5 + 1) ≤ q → md6 q = 0) := (by obtain ⟨a1, a2, a3⟩ := hJ6; rw [gnA_n (k := st) rfl hMn, gnA_n (k := gb) rfl hMn, gnA_n (k := it) rfl hMn] at a1 a2; exact ⟨a1, a2, fun q hq => a3 q (by omega)⟩)
                    refine lv_iinc (v := nI (g5 + 1)) (lv' := [(4, .int (nI (g5 + 1))), (5, .ref (fe g5)), (3, .int (nI (cntP (fwM ft st tn kd mn tw cx cy le9.toInt mv9.toInt) g5))), (0, .ref x), (1, .int le9), (2, .int mv9)]) hx hb dX10_few_126 hl (k := 1) rfl (nI_add g5 1) (by decide) rfl (fun ls hl => ?_)
                    refine lv_goto (tgt := 74) hx hb dX10_few_129 (by decide) ?_
                    have hl9 := lv_sub hl [0, 2, 3, 4, 5] rfl
                    have e9_3 : nI (cntP (fwM ft st tn kd mn tw cx cy le9.toInt mv9.toInt) (g5 + 1)) = (nI (cntP (fwM ft st tn kd mn tw cx cy le9.toInt mv9.toInt) g5) : Int32) := by first | (rw [cntP_y hMk]; done) | (rw [cntP_n hMn]; first | done | rfl) | rfl
                    have hl9 : lv_has ls 6 [(4, .int (nI (g5 + 1))), (3, .int (nI (cntP (fwM ft st tn kd mn tw cx cy le9.toInt mv9.toInt) (g5 + 1)))), (0, .ref x), (1, .int le9), (2, .int mv9)] := by rw [e9_3]; exact hl9
                    refine W.widen (k := (g5 + 1)) (n := 6 * (g5 + 1)) (by omega) (by omega) ?_
                    exact ih_74 (g5 + 1) L6 f6 own6 nw6 md6 fm6 H locs ls (by omega) (by omega) (hJ7) hP hD hS hl9
                  · have c_6 : fwM ft st tn kd mn tw cx cy le9.toInt mv9.toInt g5 := zp_1 c_6
                    have hMk : fwM ft st tn kd mn tw cx cy le9.toInt mv9.toInt g5 := (by assumption)
                    obtain ⟨hG6, hM6, hmd6⟩ := hJ6
                    have hlv := hMk.1.1
                    have hm6 := hmd6 g5 (Nat.le_refl _)
                    have es6 : gnA (fwM ft st tn kd mn tw cx cy le9.toInt mv9.toInt) g5 2 st g5 = st g5 := gnA_o (Nat.le_refl _)
                    have eg6 : gnA (fwM ft st tn kd mn tw cx cy le9.toInt mv9.toInt) g5 (nI (dn + 1)) gb g5 = gb g5 := gnA_o (Nat.le_refl _)
                    have ei6 : gnA (fwM ft st tn kd mn tw cx cy le9.toInt mv9.toInt) g5 (-1 : Int32) it g5 = it g5 := gnA_o (Nat.le_refl _)
                    obtain ⟨lo5, lx5, ly5, ln5, LX5, LY5, we5, r5, rx5, ry5, cap5, X5, Y5, hc5⟩ := sh_fc hG6.1 hG6.2.1 (Nat.le_refl _) (show g5 < ft by omega) hlv.2.2
                    rw [((hM6 g5 (by omega)).1 hm6).1, hm6] at hc5
                    have hc5 := fc_0 hc5
                    have hb5 := hc5.2.2.1
                    have hc9_1 : inPl L6 f6 [(oc1 (fe g5) (rk g5) (wd g5) (tw g5) (pa g5) (pb g5) (.ref lo5) (.ref (nw6 g5)) .null), (oc4 (nw6 g5) (kd g5) (gnA (fwM ft st tn kd mn tw cx cy le9.toInt mv9.toInt) g5 2 st g5) (.ref r5) (gnA (fwM ft st tn kd mn tw cx cy le9.toInt mv9.toInt) g5 (nI (dn + 1)) gb g5) (gnA (fwM ft st tn kd mn tw cx cy le9.toInt mv9.toInt) g5 (-1 : Int32) it g5) (nI we5)), (oc6 r5 (.ref rx5) (.ref ry5) (nI (nN (mn g5))) (rgK (kd g5).toInt)), (oa rx5 cI cap5 X5), (oa ry5 cI cap5 Y5), (oc6 lo5 (.ref lx5) (.ref ly5) (nI ln5) 0), (oa lx5 cI (cl g5) LX5), (oa ly5 cI (cl g5) LY5)] := ⟨ce_pl hc5.1.1, ce_pl hc5.1.2.1, ce_pl hc5.1.2.2.1.1, ce_pl hc5.1.2.2.1.2.1, ce_pl hc5.1.2.2.1.2.2.1, ce_pl hc5.1.2.2.2.1, ce_pl hc5.1.2.2.2.2.1, ce_pl hc5.1.2.2.2.2.2.1, trivial⟩
                    have hD0_1 := hD
                    obtain ⟨hP, hD⟩ := pl_out hP hD [(oc1 (fe g5) (rk g5) (wd g5) (tw g5) (pa g5) (pb g5) (.ref lo5) (.ref (nw6 g5)) .null), (oc4 (nw6 g5) (kd g5) (gnA (fwM ft st tn kd mn tw cx cy le9.toInt mv9.toInt) g5 2 st g5) (.ref r5) (gnA (fwM ft st tn kd mn tw cx cy le9.toInt mv9.toInt) g5 (nI (dn + 1)) gb g5) (gnA (fwM ft st tn kd mn tw cx cy le9.toInt mv9.toInt) g5 (-1 : Int32) it g5) (nI we5)), (oc6 r5 (.ref rx5) (.ref ry5) (nI (nN (mn g5))) (rgK (kd g5).toInt)), (oa rx5 cI cap5 X5), (oa ry5 cI cap5 Y5), (oc6 lo5 (.ref lx5) (.ref ly5) (nI ln5) 0), (oa lx5 cI (cl g5) LX5), (oa ly5 cI (cl g5) LY5)] hc9_1 (pw8 hc5 (by omega))
                    generalize hT_1 : outPl L6 [(oc1 (fe g5) (rk g5) (wd g5) (tw g5) (pa g5) (pb g5) (.ref lo5) (.ref (nw6 g5)) .null), (oc4 (nw6 g5) (kd g5) (gnA (fwM ft st tn kd mn tw cx cy le9.toInt mv9.toInt) g5 2 st g5) (.ref r5) (gnA (fwM ft st tn kd mn tw cx cy le9.toInt mv9.toInt) g5 (nI (dn + 1)) gb g5) (gnA (fwM ft st tn kd mn tw cx cy le9.toInt mv9.toInt) g5 (-1 : Int32) it g5) (nI we5)), (oc6 r5 (.ref rx5) (.ref ry5) (nI (nN (mn g5))) (rgK (kd g5).toInt)), (oa rx5 cI cap5 X5), (oa ry5 cI cap5 Y5), (oc6 lo5 (.ref lx5) (.ref ly5) (nI ln5) 0), (oa lx5 cI (cl g5) LX5), (oa ly5 cI (cl g5) LY5)] = T_1 at hP hD
                    have hP : va_P (dC, dI) classes ([(oc8 x (.ref sh) (.ref lw) (.ref ro) (.ref bq) (.ref bp) (.ref dq) (.ref dp) (.ref lv) (.ref sl) (nI dn) sd ul su), (oc10 sl mc9 (.ref ea) (nI T)), (oa lv cZ 200 LVk), (oc7 sh (.ref fa) (nI ft)), (oq fa cF 200 FA), (oc1 (fe g5) (rk g5) (wd g5) (tw g5) (pa g5) (pb g5) (.ref lo5) (.ref (nw6 g5)) .null), (oc4 (nw6 g5) (kd g5) (gnA (fwM ft st tn kd mn tw cx cy le9.toInt mv9.toInt) g5 2 st g5) (.ref r5) (gnA (fwM ft st tn kd mn tw cx cy le9.toInt mv9.toInt) g5 (nI (dn + 1)) gb g5) (gnA (fwM ft st tn kd mn tw cx cy le9.toInt mv9.toInt) g5 (-1 : Int32) it g5) (nI we5)), (oc6 r5 (.ref rx5) (.ref ry5) (nI (nN (mn g5))) (rgK (kd g5).toInt)), (oa rx5 cI cap5 X5), (oa ry5 cI cap5 Y5), (oc6 lo5 (.ref lx5) (.ref ly5) (nI ln5) 0), (oa lx5 cI (cl g5) LX5), (oa ly5 cI (cl g5) LY5)] ++ va_pl T_1 f6) H := hP
                    have hD : va_D A ([(oc8 x (.ref sh) (.ref lw) (.ref ro) (.ref bq) (.ref bp) (.ref dq) (.ref dp) (.ref lv) (.ref sl) (nI dn) sd ul su), (oc10 sl mc9 (.ref ea) (nI T)), (oa lv cZ 200 LVk), (oc7 sh (.ref fa) (nI ft)), (oq fa cF 200 FA), (oc1 (fe g5) (rk g5) (wd g5) (tw g5) (pa g5) (pb g5) (.ref lo5) (.ref (nw6 g5)) .null), (oc4 (nw6 g5) (kd g5) (gnA (fwM ft st tn kd mn tw cx cy le9.toInt mv9.toInt) g5 2 st g5) (.ref r5) (gnA (fwM ft st tn kd mn tw cx cy le9.toInt mv9.toInt) g5 (nI (dn + 1)) gb g5) (gnA (fwM ft st tn kd mn tw cx cy le9.toInt mv9.toInt) g5 (-1 : Int32) it g5) (nI we5)), (oc6 r5 (.ref rx5) (.ref ry5) (nI (nN (mn g5))) (rgK (kd g5).toInt)), (oa rx5 cI cap5 X5), (oa ry5 cI cap5 Y5), (oc6 lo5 (.ref lx5) (.ref ly5) (nI ln5) 0), (oa lx5 cI (cl g5) LX5), (oa ly5 cI (cl g5) LY5)] ++ va_pl T_1 f6) := hD
                    refine lv_aload hx hb dX10_few_112 (lv_at hl 0 rfl) ?_
                    refine lv_aload_n hx hb dX10_few_114 rfl (lv_at hl 3 rfl) ?_
                    refine va_get (D := (dC, dI)) (ci := 8) (v := .int (nI dn)) (C := RX10) (T := TX10) (N := 13) hx hb hts inX10 hown hK hP 0 rfl rfl 9 (by decide) (hts _ mw_318) (fun _ h9 => h9) rfl dX10_few_115 ?_
                    refine lv_iconst (v := 1) hx hb dX10_few_118 (by decide) ?_
                    refine lv_iadd hx hb dX10_few_119 ?_
                    refine zz_i (v := nI (dn + 1)) (nI_add dn 1) ?_
                    have hPc := hP.sub (ws' := [(oc1 (fe g5) (rk g5) (wd g5) (tw g5) (pa g5) (pb g5) (.ref lo5) (.ref (nw6 g5)) .null), (oc4 (nw6 g5) (kd g5) (gnA (fwM ft st tn kd mn tw cx cy le9.toInt mv9.toInt) g5 2 st g5) (.ref r5) (gnA (fwM ft st tn kd mn tw cx cy le9.toInt mv9.toInt) g5 (nI (dn + 1)) gb g5) (gnA (fwM ft st tn kd mn tw cx cy le9.toInt mv9.toInt) g5 (-1 : Int32) it g5) (nI we5))]) [5, 6] rfl
                    have hDc := hD.sub (ws' := [(oc1 (fe g5) (rk g5) (wd g5) (tw g5) (pa g5) (pb g5) (.ref lo5) (.ref (nw6 g5)) .null), (oc4 (nw6 g5) (kd g5) (gnA (fwM ft st tn kd mn tw cx cy le9.toInt mv9.toInt) g5 2 st g5) (.ref r5) (gnA (fwM ft st tn kd mn tw cx cy le9.toInt mv9.toInt) g5 (nI (dn + 1)) gb g5) (gnA (fwM ft st tn kd mn tw cx cy le9.toInt mv9.toInt) g5 (-1 : Int32) it g5) (nI we5))]) [5, 6] (by decide) rfl
                    have hFc := va_free (wc := [(oc1 (fe g5) (rk g5) (wd g5) (tw g5) (pa g5) (pb g5) (.ref lo5) (.ref (nw6 g5)) .null), (oc4 (nw6 g5) (kd g5) (gnA (fwM ft st tn kd mn tw cx cy le9.toInt mv9.toInt) g5 2 st g5) (.ref r5) (gnA (fwM ft st tn kd mn tw cx cy le9.toInt mv9.toInt) g5 (nI (dn + 1)) gb g5) (gnA (fwM ft st tn kd mn tw cx cy le9.toInt mv9.toInt) g5 (-1 : Int32) it g5) (nI we5))]) hD hS hA [5, 6] rfl
                    refine zcall (st1 := []) (va_runV (As := [.int (nI (dn + 1))]) (rest := []) ⟨hx, hb, hml, hown, hts⟩ (k_Feature_leave_r l dC dI cI cZ cF H.size (fe g5) lo5 (rk g5) (wd g5) (tw g5) (pa g5) (pb g5) (nw6 g5) (kd g5) (gnA (fwM ft st tn kd mn tw cx cy le9.toInt mv9.toInt) g5 2 st g5) (gnA (fwM ft st tn kd mn tw cx cy le9.toInt mv9.toInt) g5 (nI (dn + 1)) gb g5) (gnA (fwM ft st tn kd mn tw cx cy le9.toInt mv9.toInt) g5 (-1 : Int32) it g5) (nI we5) r5 (nI (dn + 1)) ) (cwV 1 hts (zz_gV mw_967 mw_968 mw_969 mw_111 mc_yX2_leave) rfl rfl rfl (by decide +kernel) ⟨Nat.le_of_ble_eq_true rfl, Nat.le_of_ble_eq_true rfl⟩) (zPV2 (q0 := 0) (ci := 1) hPc hDc hK3 hXN rfl rfl) rfl rfl hl.1 rfl (lv_room (Nat.le_of_ble_eq_true rfl)) dX10_few_120 ⟨show (g5 + 1) ≤ 2 * ft + 2 by omega, show (6 * g5 + 6) ≤ 10 * ft + 805 by omega⟩) hS hFc hFc rfl (fun t H1 locs ht hB hk1 hS => ?_)
                    obtain ⟨q7, hP1, hD1⟩ := hB
                    rw [ht] at hP1
                    obtain ⟨hP, hD⟩ := va_joinQ (wr := [(oc8 x (.ref sh) (.ref lw) (.ref ro) (.ref bq) (.ref bp) (.ref dq) (.ref dp) (.ref lv) (.ref sl) (nI dn) sd ul su), (oc10 sl mc9 (.ref ea) (nI T)), (oa lv cZ 200 LVk), (oc7 sh (.ref fa) (nI ft)), (oq fa cF 200 FA), (oc6 r5 (.ref rx5) (.ref ry5) (nI (nN (mn g5))) (rgK (kd g5).toInt)), (oa rx5 cI cap5 X5), (oa ry5 cI cap5 Y5), (oc6 lo5 (.ref lx5) (.ref ly5) (nI ln5) 0), (oa lx5 cI (cl g5) LX5), (oa ly5 cI (cl g5) LY5)]) (w1 := [(oc1 (fe g5) (rk g5) (wd g5) (tw g5) (pa g5) (pb g5) (.ref lo5) (.ref q7) (.ref (nw6 g5))), (oc4 (nw6 g5) (kd g5) (gnA (fwM ft st tn kd mn tw cx cy le9.toInt mv9.toInt) g5 2 st g5) (.ref r5) (gnA (fwM ft st tn kd mn tw cx cy le9.toInt mv9.toInt) g5 (nI (dn + 1)) gb g5) (gnA (fwM ft st tn kd mn tw cx cy le9.toInt mv9.toInt) g5 (-1 : Int32) it g5) (nI we5)), (oc4 q7 (kd g5) 2 (.ref r5) (nI (dn + 1)) (gnA (fwM ft st tn kd mn tw cx cy le9.toInt mv9.toInt) g5 (-1 : Int32) it g5) (nI we5))]) hP hD [5, 6] [0, 1, 2, 3, 4, 7, 8, 9, 10, 11, 12] rfl rfl (by decide) (by decide) hk1 hFc hP1 hD1
                    clear hk1 hPc hDc hFc hP1 hD1 ht
                    generalize H1 = H at hP hS ⊢
                    have hP : va_P (dC, dI) classes ([(oc8 x (.ref sh) (.ref lw) (.ref ro) (.ref bq) (.ref bp) (.ref dq) (.ref dp) (.ref lv) (.ref sl) (nI dn) sd ul su), (oc10 sl mc9 (.ref ea) (nI T)), (oa lv cZ 200 LVk), (oc7 sh (.ref fa) (nI ft)), (oq fa cF 200 FA), (oc6 r5 (.ref rx5) (.ref ry5) (nI (nN (mn g5))) (rgK (kd g5).toInt)), (oa rx5 cI cap5 X5), (oa ry5 cI cap5 Y5), (oc6 lo5 (.ref lx5) (.ref ly5) (nI ln5) 0), (oa lx5 cI (cl g5) LX5), (oa ly5 cI (cl g5) LY5), (oc1 (fe g5) (rk g5) (wd g5) (tw g5) (pa g5) (pb g5) (.ref lo5) (.ref q7) (.ref (nw6 g5))), (oc4 (nw6 g5) (kd g5) (gnA (fwM ft st tn kd mn tw cx cy le9.toInt mv9.toInt) g5 2 st g5) (.ref r5) (gnA (fwM ft st tn kd mn tw cx cy le9.toInt mv9.toInt) g5 (nI (dn + 1)) gb g5) (gnA (fwM ft st tn kd mn tw cx cy le9.toInt mv9.toInt) g5 (-1 : Int32) it g5) (nI we5)), (oc4 q7 (kd g5) 2 (.ref r5) (nI (dn + 1)) (gnA (fwM ft st tn kd mn tw cx cy le9.toInt mv9.toInt) g5 (-1 : Int32) it g5) (nI we5))] ++ va_pl T_1 f6) H := hP
                    have hD : va_D A ([(oc8 x (.ref sh) (.ref lw) (.ref ro) (.ref bq) (.ref bp) (.ref dq) (.ref dp) (.ref lv) (.ref sl) (nI dn) sd ul su), (oc10 sl mc9 (.ref ea) (nI T)), (oa lv cZ 200 LVk), (oc7 sh (.ref fa) (nI ft)), (oq fa cF 200 FA), (oc6 r5 (.ref rx5) (.ref ry5) (nI (nN (mn g5))) (rgK (kd g5).toInt)), (oa rx5 cI cap5 X5), (oa ry5 cI cap5 Y5), (oc6 lo5 (.ref lx5) (.ref ly5) (nI ln5) 0), (oa lx5 cI (cl g5) LX5), (oa ly5 cI (cl g5) LY5), (oc1 (fe g5) (rk g5) (wd g5) (tw g5) (pa g5) (pb g5) (.ref lo5) (.ref q7) (.ref (nw6 g5))), (oc4 (nw6 g5) (kd g5) (gnA (fwM ft st tn kd mn tw cx cy le9.toInt mv9.toInt) g5 2 st g5) (.ref r5) (gnA (fwM ft st tn kd mn tw cx cy le9.toInt mv9.toInt) g5 (nI (dn + 1)) gb g5) (gnA (fwM ft st tn kd mn tw cx cy le9.toInt mv9.toInt) g5 (-1 : Int32) it g5) (nI we5)), (oc4 q7 (kd g5) 2 (.ref r5) (nI (dn + 1)) (gnA (fwM ft st tn kd mn tw cx cy le9.toInt mv9.toInt) g5 (-1 : Int32) it g5) (nI we5))] ++ va_pl T_1 f6) := hD
                    have hP := hP.part (cx := [(oc8 x (.ref sh) (.ref lw) (.ref ro) (.ref bq) (.ref bp) (.ref dq) (.ref dp) (.ref lv) (.ref sl) (nI dn) sd ul su), (oc10 sl mc9 (.ref ea) (nI T)), (oa lv cZ 200 LVk), (oc7 sh (.ref fa) (nI ft)), (oq fa cF 200 FA), (oc1 (fe g5) (rk g5) (wd g5) (tw g5) (pa g5) (pb g5) (.ref lo5) (.ref q7) (.ref (nw6 g5))), (oc4 (nw6 g5) (kd g5) (gnA (fwM ft st tn kd mn tw cx cy le9.toInt mv9.toInt) g5 2 st g5) (.ref r5) (gnA (fwM ft st tn kd mn tw cx cy le9.toInt mv9.toInt) g5 (nI (dn + 1)) gb g5) (gnA (fwM ft st tn kd mn tw cx cy le9.toInt mv9.toInt) g5 (-1 : Int32) it g5) (nI we5)), (oc6 r5 (.ref rx5) (.ref ry5) (nI (nN (mn g5))) (rgK (kd g5).toInt)), (oa rx5 cI cap5 X5), (oa ry5 cI cap5 Y5), (oc6 lo5 (.ref lx5) (.ref ly5) (nI ln5) 0), (oa lx5 cI (cl g5) LX5), (oa ly5 cI (cl g5) LY5), (oc4 q7 (kd g5) 2 (.ref r5) (nI (dn + 1)) (gnA (fwM ft st tn kd mn tw cx cy le9.toInt mv9.toInt) g5 (-1 : Int32) it g5) (nI we5))]) [0, 1, 2, 3, 4, 11, 12, 5, 6, 7, 8, 9, 10, 13] rfl
                    have hD := hD.part (cx := [(oc8 x (.ref sh) (.ref lw) (.ref ro) (.ref bq) (.ref bp) (.ref dq) (.ref dp) (.ref lv) (.ref sl) (nI dn) sd ul su), (oc10 sl mc9 (.ref ea) (nI T)), (oa lv cZ 200 LVk), (oc7 sh (.ref fa) (nI ft)), (oq fa cF 200 FA), (oc1 (fe g5) (rk g5) (wd g5) (tw g5) (pa g5) (pb g5) (.ref lo5) (.ref q7) (.ref (nw6 g5))), (oc4 (nw6 g5) (kd g5) (gnA (fwM ft st tn kd mn tw cx cy le9.toInt mv9.toInt) g5 2 st g5) (.ref r5) (gnA (fwM ft st tn kd mn tw cx cy le9.toInt mv9.toInt) g5 (nI (dn + 1)) gb g5) (gnA (fwM ft st tn kd mn tw cx cy le9.toInt mv9.toInt) g5 (-1 : Int32) it g5) (nI we5)), (oc6 r5 (.ref rx5) (.ref ry5) (nI (nN (mn g5))) (rgK (kd g5).toInt)), (oa rx5 cI cap5 X5), (oa ry5 cI cap5 Y5), (oc6 lo5 (.ref lx5) (.ref ly5) (nI ln5) 0), (oa lx5 cI (cl g5) LX5), (oa ly5 cI (cl g5) LY5), (oc4 q7 (kd g5) 2 (.ref r5) (nI (dn + 1)) (gnA (fwM ft st tn kd mn tw cx cy le9.toInt mv9.toInt) g5 (-1 : Int32) it g5) (nI we5))]) [0, 1, 2, 3, 4, 11, 12, 5, 6, 7, 8, 9, 10, 13] (by decide) rfl
                    have hP : va_P (dC, dI) classes (([(oc8 x (.ref sh) (.ref lw) (.ref ro) (.ref bq) (.ref bp) (.ref dq) (.ref dp) (.ref lv) (.ref sl) (nI dn) sd ul su), (oc10 sl mc9 (.ref ea) (nI T)), (oa lv cZ 200 LVk), (oc7 sh (.ref fa) (nI ft)), (oq fa cF 200 FA)] ++ [(oc1 (fe g5) (rk g5) (wd g5) (tw g5) (pa g5) (pb g5) (.ref lo5) (.ref q7) (.ref (nw6 g5))), (oc4 (nw6 g5) (kd g5) (gnA (fwM ft st tn kd mn tw cx cy le9.toInt mv9.toInt) g5 2 st g5) (.ref r5) (gnA (fwM ft st tn kd mn tw cx cy le9.toInt mv9.toInt) g5 (nI (dn + 1)) gb g5) (gnA (fwM ft st tn kd mn tw cx cy le9.toInt mv9.toInt) g5 (-1 : Int32) it g5) (nI we5)), (oc6 r5 (.ref rx5) (.ref ry5) (nI (nN (mn g5))) (rgK (kd g5).toInt)), (oa rx5 cI cap5 X5), (oa ry5 cI cap5 Y5), (oc6 lo5 (.ref lx5) (.ref ly5) (nI ln5) 0), (oa lx5 cI (cl g5) LX5), (oa ly5 cI (cl g5) LY5), (oc4 q7 (kd g5) 2 (.ref r5) (nI (dn + 1)) (gnA (fwM ft st tn kd mn tw cx cy le9.toInt mv9.toInt) g5 (-1 : Int32) it g5) (nI we5))]) ++ va_pl T_1 f6) H := hP
                    have hD : va_D A (([(oc8 x (.ref sh) (.ref lw) (.ref ro) (.ref bq) (.ref bp) (.ref dq) (.ref dp) (.ref lv) (.ref sl) (nI dn) sd ul su), (oc10 sl mc9 (.ref ea) (nI T)), (oa lv cZ 200 LVk), (oc7 sh (.ref fa) (nI ft)), (oq fa cF 200 FA)] ++ [(oc1 (fe g5) (rk g5) (wd g5) (tw g5) (pa g5) (pb g5) (.ref lo5) (.ref q7) (.ref (nw6 g5))), (oc4 (nw6 g5) (kd g5) (gnA (fwM ft st tn kd mn tw cx cy le9.toInt mv9.toInt) g5 2 st g5) (.ref r5) (gnA (fwM ft st tn kd mn tw cx cy le9.toInt mv9.toInt) g5 (nI (dn + 1)) gb g5) (gnA (fwM ft st tn kd mn tw cx cy le9.toInt mv9.toInt) g5 (-1 : Int32) it g5) (nI we5)), (oc6 r5 (.ref rx5) (.ref ry5) (nI (nN (mn g5))) (rgK (kd g5).toInt)), (oa rx5 cI cap5 X5), (oa ry5 cI cap5 Y5), (oc6 lo5 (.ref lx5) (.ref ly5) (nI ln5) 0), (oa lx5 cI (cl g5) LX5), (oa ly5 cI (cl g5) LY5), (oc4 q7 (kd g5) 2 (.ref r5) (nI (dn + 1)) (gnA (fwM ft st tn kd mn tw cx cy le9.toInt mv9.toInt) g5 (-1 : Int32) it g5) (nI we5))]) ++ va_pl T_1 f6) := hD
                    obtain ⟨Lp1, fp1, hP, hD, hpin_1⟩ := pl_pin (cs := [(oc1 (fe g5) (rk g5) (wd g5) (tw g5) (pa g5) (pb g5) (.ref lo5) (.ref (nw6 g5)) .null), (oc4 (nw6 g5) (kd g5) (gnA (fwM ft st tn kd mn tw cx cy le9.toInt mv9.toInt) g5 2 st g5) (.ref r5) (gnA (fwM ft st tn kd mn tw cx cy le9.toInt mv9.toInt) g5 (nI (dn + 1)) gb g5) (gnA (fwM ft st tn kd mn tw cx cy le9.toInt mv9.toInt) g5 (-1 : Int32) it g5) (nI we5)), (oc6 r5 (.ref rx5) (.ref ry5) (nI (nN (mn g5))) (rgK (kd g5).toInt)), (oa rx5 cI cap5 X5), (oa ry5 cI cap5 Y5), (oc6 lo5 (.ref lx5) (.ref ly5) (nI ln5) 0), (oa lx5 cI (cl g5) LX5), (oa ly5 cI (cl g5) LY5)]) (old := [(oc1 (fe g5) (rk g5) (wd g5) (tw g5) (pa g5) (pb g5) (.ref lo5) (.ref q7) (.ref (nw6 g5))), (oc4 (nw6 g5) (kd g5) (gnA (fwM ft st tn kd mn tw cx cy le9.toInt mv9.toInt) g5 2 st g5) (.ref r5) (gnA (fwM ft st tn kd mn tw cx cy le9.toInt mv9.toInt) g5 (nI (dn + 1)) gb g5) (gnA (fwM ft st tn kd mn tw cx cy le9.toInt mv9.toInt) g5 (-1 : Int32) it g5) (nI we5)), (oc6 r5 (.ref rx5) (.ref ry5) (nI (nN (mn g5))) (rgK (kd g5).toInt)), (oa rx5 cI cap5 X5), (oa ry5 cI cap5 Y5), (oc6 lo5 (.ref lx5) (.ref ly5) (nI ln5) 0), (oa lx5 cI (cl g5) LX5), (oa ly5 cI (cl g5) LY5)]) (new := [(oc4 q7 (kd g5) 2 (.ref r5) (nI (dn + 1)) (gnA (fwM ft st tn kd mn tw cx cy le9.toInt mv9.toInt) g5 (-1 : Int32) it g5) (nI we5))]) (cs1 := [(oc1 (fe g5) (rk g5) (wd g5) (tw g5) (pa g5) (pb g5) (.ref lo5) (.ref q7) (.ref (nw6 g5))), (oc4 (nw6 g5) (kd g5) (gnA (fwM ft st tn kd mn tw cx cy le9.toInt mv9.toInt) g5 2 st g5) (.ref r5) (gnA (fwM ft st tn kd mn tw cx cy le9.toInt mv9.toInt) g5 (nI (dn + 1)) gb g5) (gnA (fwM ft st tn kd mn tw cx cy le9.toInt mv9.toInt) g5 (-1 : Int32) it g5) (nI we5)), (oc6 r5 (.ref rx5) (.ref ry5) (nI (nN (mn g5))) (rgK (kd g5).toInt)), (oa rx5 cI cap5 X5), (oa ry5 cI cap5 Y5), (oc6 lo5 (.ref lx5) (.ref ly5) (nI ln5) 0), (oa lx5 cI (cl g5) LX5), (oa ly5 cI (cl g5) LY5), (oc4 q7 (kd g5) 2 (.ref r5) (nI (dn + 1)) (gnA (fwM ft st tn kd mn tw cx cy le9.toInt mv9.toInt) g5 (-1 : Int32) it g5) (nI we5))]) (X := [(oc8 x (.ref sh) (.ref lw) (.ref ro) (.ref bq) (.ref bp) (.ref dq) (.ref dp) (.ref lv) (.ref sl) (nI dn) sd ul su), (oc10 sl mc9 (.ref ea) (nI T)), (oa lv cZ 200 LVk), (oc7 sh (.ref fa) (nI ft)), (oq fa cF 200 FA)]) (L := L6) (f := f6) rfl rfl (by rw [hT_1]; exact hP) (by rw [hT_1]; exact hD)
                    obtain ⟨hfr_1, hkp_1, hce_1, hsx_1, hpw_1⟩ := id hpin_1
                    obtain ⟨own7, nw7, md7, fm7, hG7, hM7, hmd7⟩ := M_leave (m := 0) (kd1 := kd) (st1 := upd (gnA (fwM ft st tn kd mn tw cx cy le9.toInt mv9.toInt) g5 2 st) g5 2) (gb1 := upd (gnA (fwM ft st tn kd mn tw cx cy le9.toInt mv9.toInt) g5 (nI (dn + 1)) gb) g5 (nI (dn + 1))) (it1 := upd (gnA (fwM ft st tn kd mn tw cx cy le9.toInt mv9.toInt) g5 (-1 : Int32) it) g5 (-1 : Int32)) hG6 hM6 hm6 (by omega) (by rw [← hft9]; omega) (by rw [es6]; have := hlv.2.1; omega) (by rw [up_at]; decide) hlv.2.2 hc5 ⟨rfl, rfl, rfl, rfl⟩ hpin_1 (fun p hp => ⟨rfl, if_neg hp, if_neg hp, if_neg hp, rfl, fun k _ => ⟨rfl, rfl⟩⟩) rfl (up_at _ _ _) (up_at _ _ _) ((up_at _ _ _).trans (by rw [ei6]; exact (hit g5 (by omega) hlv.2.1).symm)) rfl (fun g => g)
                    rw [gnA_y rfl hMk, gnA_y rfl hMk, gnA_y rfl hMk] at hG7 hM7
                    have hJ7 : (shG cI cO Lp1 fp1 e0 FA ea T own7 fe cl la nw7 md7 sp fm7 SA bs dn dn ft ft FT V VX VY tn rk wd tw pa pb wh of9 we kd (gnA (fwM ft st tn kd mn tw cx cy le9.toInt mv9.toInt) (g5 + 1) 2 st) (gnA (fwM ft st tn kd mn tw cx cy le9.toInt mv9.toInt) (g5 + 1) (nI (dn + 1)) gb) (gnA (fwM ft st tn kd mn tw cx cy le9.toInt mv9.toInt) (g5 + 1) (-1 : Int32) it) mn cx cy) ∧ (mdA dn ft FT la nw7 md7 fm7 V kd (gnA (fwM ft st tn kd mn tw cx cy le9.toInt mv9.toInt) (g5 + 1) 2 st) (gnA (fwM ft st tn kd mn tw cx cy le9.toInt mv9.toInt) (g5 + 1) (nI (dn + 1)) gb) (gnA (fwM ft st tn kd mn tw cx cy le9.toInt mv9.toInt) (g5 + 1) (-1 : Int32) it)) ∧ (∀ q, (g5 + 1) ≤ q → md7 q = 0) := ⟨hG7, hM7, fun q hq => by rw [hmd7, upN_o (by omega)]; exact hmd6 q (by omega)⟩
                    refine lv_iinc (v := nI ((cntP (fwM ft st tn kd mn tw cx cy le9.toInt mv9.toInt) g5) + 1)) (lv' := [(3, .int (nI ((cntP (fwM ft st tn kd mn tw cx cy le9.toInt mv9.toInt) g5) + 1))), (5, .ref (fe g5)), (4, .int (nI g5)), (0, .ref x), (1, .int le9), (2, .int mv9)]) hx hb dX10_few_123 hl (k := 2) rfl (nI_add (cntP (fwM ft st tn kd mn tw cx cy le9.toInt mv9.toInt) g5) 1) (by decide) rfl (fun ls hl => ?_)
                    refine lv_iinc (v := nI (g5 + 1)) (lv' := [(4, .int (nI (g5 + 1))), (3, .int (nI ((cntP (fwM ft st tn kd mn tw cx cy le9.toInt mv9.toInt) g5) + 1))), (5, .ref (fe g5)), (0, .ref x), (1, .int le9), (2, .int mv9)]) hx hb dX10_few_126 hl (k := 2) rfl (nI_add g5 1) (by decide) rfl (fun ls hl => ?_)
                    refine lv_goto (tgt := 74) hx hb dX10_few_129 (by decide) ?_
                    have hl9 := lv_sub hl [0, 1, 3, 4, 5] rfl
                    have e9_3 : nI (cntP (fwM ft st tn kd mn tw cx cy le9.toInt mv9.toInt) (g5 + 1)) = (nI ((cntP (fwM ft st tn kd mn tw cx cy le9.toInt mv9.toInt) g5) + 1) : Int32) := by first | (rw [cntP_y hMk]; done) | (rw [cntP_n hMn]; first | done | rfl) | rfl
                    have hl9 : lv_has ls 6 [(4, .int (nI (g5 + 1))), (3, .int (nI (cntP (fwM ft st tn kd mn tw cx cy le9.toInt mv9.toInt) (g5 + 1)))), (0, .ref x), (1, .int le9), (2, .int mv9)] := by rw [e9_3]; exact hl9
                    refine W.widen (k := (g5 + 1)) (n := 6 * (g5 + 1)) (by omega) (by omega) ?_
                    exact ih_74 (g5 + 1) Lp1 fp1 own7 nw7 md7 fm7 H locs ls (by omega) (by omega) (hJ7) hP hD hS hl9
            have e9_3 : nI (cntP (fwM ft st tn kd mn tw cx cy le9.toInt mv9.toInt) 0) = (0 : Int32) := by rfl
            have hl9 : lv_has ls 6 [(4, .int (nI 0)), (3, .int (nI (cntP (fwM ft st tn kd mn tw cx cy le9.toInt mv9.toInt) 0))), (0, .ref x), (1, .int le9), (2, .int mv9)] := by rw [e9_3]; exact lv_sub hl [0, 1, 2, 3, 4] rfl
            refine W.widen (k := 0) (n := 6 * 0) (by omega) (by omega) ?_
            exact hl_74 _ 0 L f own (la dn) (fun _ => 0) (fun _ => Value.null) H locs ls (Nat.lt_succ_self _) (by omega) (⟨by rw [← gnA_0, ← gnA_0, ← gnA_0]; exact hG, by rw [← gnA_0, ← gnA_0, ← gnA_0]; exact hM, fun _ _ => rfl⟩) hP hD hS hl9
          · have c_3 : ((g5 : Nat) : Int) < ((ft : Nat) : Int) := zc_nle (nI_toInt (by omega)) (nI_toInt (by omega)) c_3
            refine lv_aload_n hx hb dX10_few_34 rfl (lv_at hl 1 rfl) ?_
            refine va_get (D := (dC, dI)) (ci := 8) (v := .ref lv) (C := RX10) (T := TX10) (N := 13) hx hb hts inX10 hown hK hP 0 rfl rfl 7 (by decide) (hts _ mw_316) (fun _ h9 => h9) rfl dX10_few_35 ?_
            refine lv_iload_n hx hb dX10_few_38 rfl (lv_at hl 0 rfl) ?_
            refine lv_aload_n hx hb dX10_few_39 rfl (lv_at hl 1 rfl) ?_
            refine lv_iload_n hx hb dX10_few_40 rfl (lv_at hl 0 rfl) ?_
            refine lv_iload_n hx hb dX10_few_41 rfl (lv_at hl 2 rfl) ?_
            have hPc := hP.part (cx := [(oc8 x (.ref sh) (.ref lw) (.ref ro) (.ref bq) (.ref bp) (.ref dq) (.ref dp) (.ref lv) (.ref sl) (nI dn) sd ul su), (oc7 sh (.ref fa) (nI ft)), (oq fa cF 200 FA)]) [0, 3, 4] rfl
            have hDc := hD.part (cx := [(oc8 x (.ref sh) (.ref lw) (.ref ro) (.ref bq) (.ref bp) (.ref dq) (.ref dp) (.ref lv) (.ref sl) (nI dn) sd ul su), (oc7 sh (.ref fa) (nI ft)), (oq fa cF 200 FA)]) [0, 3, 4] (by decide) rfl
            have hFc := va_freeP (cx := [(oc8 x (.ref sh) (.ref lw) (.ref ro) (.ref bq) (.ref bp) (.ref dq) (.ref dp) (.ref lv) (.ref sl) (nI dn) sd ul su), (oc7 sh (.ref fa) (nI ft)), (oq fa cF 200 FA)]) hD hS hA [0, 3, 4] rfl
            refine zcall (st1 := [.int (pI (smF ft st tn kd mn cx cy le9.toInt g5)), .int (nI g5), .ref lv]) (va_runV (As := [.int (nI g5), .int le9]) (rest := [.int (nI g5), .ref lv]) ⟨hx, hb, hml, hown, hts⟩ (k_isSmallHouse l dC dI cI cZ cF H.size x sh lw ro bq bp dq dp lv sl sd ul su (nI dn) fa ft FA g5 le9 L f kd st tn mn cx cy rk wd tw pa pb gb it (by omega) (by omega) (hva9) (hok)) (cwV 2 hts (zz_gV mw_979 mw_981 mw_27 mw_99 mc_yX10_isSmallHouse) rfl rfl rfl (by decide +kernel) ⟨Nat.le_of_ble_eq_true rfl, Nat.le_of_ble_eq_true rfl⟩) (zPV2 (q0 := 0) (ci := 8) hPc hDc hK3 hXN rfl rfl) rfl rfl hl.1 rfl (lv_room (Nat.le_of_ble_eq_true rfl)) dX10_few_42 ⟨show 0 ≤ 2 * ft + 2 by omega, show 0 ≤ 10 * ft + 805 by omega⟩) hS hFc hFc rfl (fun t H1 locs ht hB hk1 hS => ?_)
            obtain ⟨hP1, hD1⟩ := hB
            rw [ht] at hP1
            obtain ⟨hP, hD⟩ := va_joinP (wr := [(oc10 sl mc9 (.ref ea) (nI T)), (oa lv cZ 200 LVk)]) (rx := [(oc8 x (.ref sh) (.ref lw) (.ref ro) (.ref bq) (.ref bp) (.ref dq) (.ref dp) (.ref lv) (.ref sl) (nI dn) sd ul su), (oc7 sh (.ref fa) (nI ft)), (oq fa cF 200 FA)]) hP hD [0, 3, 4] [1, 2] rfl rfl (by decide) (by decide) hk1 hFc hP1 hD1
            clear hk1 hPc hDc hFc hP1 hD1 ht
            generalize H1 = H at hP hS ⊢
            have hP := hP.part (cx := [(oc8 x (.ref sh) (.ref lw) (.ref ro) (.ref bq) (.ref bp) (.ref dq) (.ref dp) (.ref lv) (.ref sl) (nI dn) sd ul su), (oc10 sl mc9 (.ref ea) (nI T)), (oa lv cZ 200 LVk), (oc7 sh (.ref fa) (nI ft)), (oq fa cF 200 FA)]) [2, 0, 1, 3, 4] rfl
            have hD := hD.part (cx := [(oc8 x (.ref sh) (.ref lw) (.ref ro) (.ref bq) (.ref bp) (.ref dq) (.ref dp) (.ref lv) (.ref sl) (nI dn) sd ul su), (oc10 sl mc9 (.ref ea) (nI T)), (oa lv cZ 200 LVk), (oc7 sh (.ref fa) (nI ft)), (oq fa cF 200 FA)]) [2, 0, 1, 3, 4] (by decide) rfl
            have hP : va_P (dC, dI) classes ([(oc8 x (.ref sh) (.ref lw) (.ref ro) (.ref bq) (.ref bp) (.ref dq) (.ref dp) (.ref lv) (.ref sl) (nI dn) sd ul su), (oc10 sl mc9 (.ref ea) (nI T)), (oa lv cZ 200 LVk), (oc7 sh (.ref fa) (nI ft)), (oq fa cF 200 FA)] ++ va_pl L f) H := hP
            have hD : va_D A ([(oc8 x (.ref sh) (.ref lw) (.ref ro) (.ref bq) (.ref bp) (.ref dq) (.ref dp) (.ref lv) (.ref sl) (nI dn) sd ul su), (oc10 sl mc9 (.ref ea) (nI T)), (oa lv cZ 200 LVk), (oc7 sh (.ref fa) (nI ft)), (oq fa cF 200 FA)] ++ va_pl L f) := hD
            refine lv_if_eq (tgt := 61) hx hb dX10_few_45 (by decide) (fun c_7 => ?_) (fun c_7 => ?_)
            · have c_7 : ¬ (smF ft st tn kd mn cx cy le9.toInt g5) := zp_0 c_7
              refine lv_iconst (v := 0) hx hb dX10_few_61 (by decide) ?_
              refine z_zast hx hb hK hP hD hS 2 1 rfl rfl (e := g5) (x := 0) rfl (by omega) (by omega) (by decide) dX10_few_62 (fun H locs hP hD hS => ?_)
              have hP : va_P (dC, dI) classes ([(oc8 x (.ref sh) (.ref lw) (.ref ro) (.ref bq) (.ref bp) (.ref dq) (.ref dp) (.ref lv) (.ref sl) (nI dn) sd ul su), (oc10 sl mc9 (.ref ea) (nI T)), (oa lv cZ 200 (upd LVk g5 0)), (oc7 sh (.ref fa) (nI ft)), (oq fa cF 200 FA)] ++ va_pl L f) H := hP
              have hD : va_D A ([(oc8 x (.ref sh) (.ref lw) (.ref ro) (.ref bq) (.ref bp) (.ref dq) (.ref dp) (.ref lv) (.ref sl) (nI dn) sd ul su), (oc10 sl mc9 (.ref ea) (nI T)), (oa lv cZ 200 (upd LVk g5 0)), (oc7 sh (.ref fa) (nI ft)), (oq fa cF 200 FA)] ++ va_pl L f) := hD
              refine lv_iinc (v := nI (g5 + 1)) (lv' := [(3, .int (nI (g5 + 1))), (0, .ref x), (1, .int le9), (2, .int mv9)]) hx hb dX10_few_63 hl (k := 0) rfl (nI_add g5 1) (by decide) rfl (fun ls hl => ?_)
              refine lv_goto (tgt := 23) hx hb dX10_few_66 (by decide) ?_
              exact ih_23 (g5 + 1) (upd LVk g5 0) H locs ls (by omega) (by omega) (by intro j hj; unfold upd; by_cases e : j = g5; (rw [if_pos e, e]; first | exact (zp_t ⟨by assumption, by omega⟩).symm | exact (zp_f (fun q => by have h9 := q.2; omega)).symm | exact (zp_f (fun q => absurd q.1 (by assumption))).symm); (rw [if_neg e]; exact hlk j (by omega))) hP hD hS (lv_sub hl [0, 1, 2, 3] rfl)
            · have c_7 : smF ft st tn kd mn cx cy le9.toInt g5 := zp_1 c_7
              refine lv_aload_n hx hb dX10_few_48 rfl (lv_at hl 1 rfl) ?_
              refine lv_iload_n hx hb dX10_few_49 rfl (lv_at hl 0 rfl) ?_
              have hPc := hP.part (cx := [(oc8 x (.ref sh) (.ref lw) (.ref ro) (.ref bq) (.ref bp) (.ref dq) (.ref dp) (.ref lv) (.ref sl) (nI dn) sd ul su), (oc7 sh (.ref fa) (nI ft)), (oq fa cF 200 FA)]) [0, 3, 4] rfl
              have hDc := hD.part (cx := [(oc8 x (.ref sh) (.ref lw) (.ref ro) (.ref bq) (.ref bp) (.ref dq) (.ref dp) (.ref lv) (.ref sl) (nI dn) sd ul su), (oc7 sh (.ref fa) (nI ft)), (oq fa cF 200 FA)]) [0, 3, 4] (by decide) rfl
              have hFc := va_freeP (cx := [(oc8 x (.ref sh) (.ref lw) (.ref ro) (.ref bq) (.ref bp) (.ref dq) (.ref dp) (.ref lv) (.ref sl) (nI dn) sd ul su), (oc7 sh (.ref fa) (nI ft)), (oq fa cF 200 FA)]) hD hS hA [0, 3, 4] rfl
              refine zcall (st1 := [.int (nI (cntP (gtF ft st tn kd mn tw cx cy g5) ft)), .int (nI g5), .ref lv]) (va_runV (As := [.int (nI g5)]) (rest := [.int (nI g5), .ref lv]) ⟨hx, hb, hml, hown, hts⟩ (k_rankInTown l dC dI cI cZ cF H.size x sh lw ro bq bp dq dp lv sl sd ul su (nI dn) fa ft FA g5 L f kd st tn mn cx cy rk wd tw pa pb gb it own fe cl (la dn) (fun _ => 0) (fun _ => Value.null) (by omega) (by omega) (hG.1) (hG.2.1) (hFA9) (hok) ((by assumption : smF ft st tn kd mn cx cy le9.toInt g5).1.2.1) ((by assumption : smF ft st tn kd mn cx cy le9.toInt g5).1.2.2) ((by assumption : smF ft st tn kd mn cx cy le9.toInt g5).2.1)) (cwV 1 hts (zz_gV mw_988 mw_990 mw_28 mw_99 mc_yX10_rankInTown) rfl rfl rfl (by decide +kernel) ⟨Nat.le_of_ble_eq_true rfl, Nat.le_of_ble_eq_true rfl⟩) (zPV2 (q0 := 0) (ci := 8) hPc hDc hK3 hXN rfl rfl) rfl rfl hl.1 rfl (lv_room (Nat.le_of_ble_eq_true rfl)) dX10_few_50 ⟨show 0 ≤ 2 * ft + 2 by omega, show 0 ≤ 10 * ft + 805 by omega⟩) hS hFc hFc rfl (fun t H1 locs ht hB hk1 hS => ?_)
              obtain ⟨hP1, hD1⟩ := hB
              rw [ht] at hP1
              obtain ⟨hP, hD⟩ := va_joinP (wr := [(oc10 sl mc9 (.ref ea) (nI T)), (oa lv cZ 200 LVk)]) (rx := [(oc8 x (.ref sh) (.ref lw) (.ref ro) (.ref bq) (.ref bp) (.ref dq) (.ref dp) (.ref lv) (.ref sl) (nI dn) sd ul su), (oc7 sh (.ref fa) (nI ft)), (oq fa cF 200 FA)]) hP hD [0, 3, 4] [1, 2] rfl rfl (by decide) (by decide) hk1 hFc hP1 hD1
              clear hk1 hPc hDc hFc hP1 hD1 ht
              generalize H1 = H at hP hS ⊢
              have hP := hP.part (cx := [(oc8 x (.ref sh) (.ref lw) (.ref ro) (.ref bq) (.ref bp) (.ref dq) (.ref dp) (.ref lv) (.ref sl) (nI dn) sd ul su), (oc10 sl mc9 (.ref ea) (nI T)), (oa lv cZ 200 LVk), (oc7 sh (.ref fa) (nI ft)), (oq fa cF 200 FA)]) [2, 0, 1, 3, 4] rfl
              have hD := hD.part (cx := [(oc8 x (.ref sh) (.ref lw) (.ref ro) (.ref bq) (.ref bp) (.ref dq) (.ref dp) (.ref lv) (.ref sl) (nI dn) sd ul su), (oc10 sl mc9 (.ref ea) (nI T)), (oa lv cZ 200 LVk), (oc7 sh (.ref fa) (nI ft)), (oq fa cF 200 FA)]) [2, 0, 1, 3, 4] (by decide) rfl
              have hP : va_P (dC, dI) classes ([(oc8 x (.ref sh) (.ref lw) (.ref ro) (.ref bq) (.ref bp) (.ref dq) (.ref dp) (.ref lv) (.ref sl) (nI dn) sd ul su), (oc10 sl mc9 (.ref ea) (nI T)), (oa lv cZ 200 LVk), (oc7 sh (.ref fa) (nI ft)), (oq fa cF 200 FA)] ++ va_pl L f) H := hP
              have hD : va_D A ([(oc8 x (.ref sh) (.ref lw) (.ref ro) (.ref bq) (.ref bp) (.ref dq) (.ref dp) (.ref lv) (.ref sl) (nI dn) sd ul su), (oc10 sl mc9 (.ref ea) (nI T)), (oa lv cZ 200 LVk), (oc7 sh (.ref fa) (nI ft)), (oq fa cF 200 FA)] ++ va_pl L f) := hD
              refine lv_iload_n hx hb dX10_few_53 rfl (lv_at hl 3 rfl) ?_
              refine lv_icmp_lt (tgt := 61) hx hb dX10_few_54 (by decide) (fun c_8 => ?_) (fun c_8 => ?_)
              · have c_8 : ((cntP (gtF ft st tn kd mn tw cx cy g5) ft : Nat) : Int) < mv9.toInt := zc_lt (nI_toInt (by omega)) rfl c_8
                refine lv_iconst (v := 0) hx hb dX10_few_61 (by decide) ?_
                refine z_zast hx hb hK hP hD hS 2 1 rfl rfl (e := g5) (x := 0) rfl (by omega) (by omega) (by decide) dX10_few_62 (fun H locs hP hD hS => ?_)
                have hP : va_P (dC, dI) classes ([(oc8 x (.ref sh) (.ref lw) (.ref ro) (.ref bq) (.ref bp) (.ref dq) (.ref dp) (.ref lv) (.ref sl) (nI dn) sd ul su), (oc10 sl mc9 (.ref ea) (nI T)), (oa lv cZ 200 (upd LVk g5 0)), (oc7 sh (.ref fa) (nI ft)), (oq fa cF 200 FA)] ++ va_pl L f) H := hP
                have hD : va_D A ([(oc8 x (.ref sh) (.ref lw) (.ref ro) (.ref bq) (.ref bp) (.ref dq) (.ref dp) (.ref lv) (.ref sl) (nI dn) sd ul su), (oc10 sl mc9 (.ref ea) (nI T)), (oa lv cZ 200 (upd LVk g5 0)), (oc7 sh (.ref fa) (nI ft)), (oq fa cF 200 FA)] ++ va_pl L f) := hD
                refine lv_iinc (v := nI (g5 + 1)) (lv' := [(3, .int (nI (g5 + 1))), (0, .ref x), (1, .int le9), (2, .int mv9)]) hx hb dX10_few_63 hl (k := 0) rfl (nI_add g5 1) (by decide) rfl (fun ls hl => ?_)
                refine lv_goto (tgt := 23) hx hb dX10_few_66 (by decide) ?_
                exact ih_23 (g5 + 1) (upd LVk g5 0) H locs ls (by omega) (by omega) (by intro j hj; unfold upd; by_cases e : j = g5; (rw [if_pos e, e]; first | exact (zp_t ⟨by assumption, by omega⟩).symm | exact (zp_f (fun q => by have h9 := q.2; omega)).symm | exact (zp_f (fun q => absurd q.1 (by assumption))).symm); (rw [if_neg e]; exact hlk j (by omega))) hP hD hS (lv_sub hl [0, 1, 2, 3] rfl)
              · have c_8 : mv9.toInt ≤ ((cntP (gtF ft st tn kd mn tw cx cy g5) ft : Nat) : Int) := zc_nlt (nI_toInt (by omega)) rfl c_8
                refine lv_iconst (v := 1) hx hb dX10_few_57 (by decide) ?_
                refine lv_goto (tgt := 62) hx hb dX10_few_58 (by decide) ?_
                refine z_zast hx hb hK hP hD hS 2 1 rfl rfl (e := g5) (x := 1) rfl (by omega) (by omega) (by decide) dX10_few_62 (fun H locs hP hD hS => ?_)
                have hP : va_P (dC, dI) classes ([(oc8 x (.ref sh) (.ref lw) (.ref ro) (.ref bq) (.ref bp) (.ref dq) (.ref dp) (.ref lv) (.ref sl) (nI dn) sd ul su), (oc10 sl mc9 (.ref ea) (nI T)), (oa lv cZ 200 (upd LVk g5 1)), (oc7 sh (.ref fa) (nI ft)), (oq fa cF 200 FA)] ++ va_pl L f) H := hP
                have hD : va_D A ([(oc8 x (.ref sh) (.ref lw) (.ref ro) (.ref bq) (.ref bp) (.ref dq) (.ref dp) (.ref lv) (.ref sl) (nI dn) sd ul su), (oc10 sl mc9 (.ref ea) (nI T)), (oa lv cZ 200 (upd LVk g5 1)), (oc7 sh (.ref fa) (nI ft)), (oq fa cF 200 FA)] ++ va_pl L f) := hD
                refine lv_iinc (v := nI (g5 + 1)) (lv' := [(3, .int (nI (g5 + 1))), (0, .ref x), (1, .int le9), (2, .int mv9)]) hx hb dX10_few_63 hl (k := 0) rfl (nI_add g5 1) (by decide) rfl (fun ls hl => ?_)
                refine lv_goto (tgt := 23) hx hb dX10_few_66 (by decide) ?_
                exact ih_23 (g5 + 1) (upd LVk g5 1) H locs ls (by omega) (by omega) (by intro j hj; unfold upd; by_cases e : j = g5; (rw [if_pos e, e]; first | exact (zp_t ⟨by assumption, by omega⟩).symm | exact (zp_f (fun q => by have h9 := q.2; omega)).symm | exact (zp_f (fun q => absurd q.1 (by assumption))).symm); (rw [if_neg e]; exact hlk j (by omega))) hP hD hS (lv_sub hl [0, 1, 2, 3] rfl)
      exact hl_23 _ 0 LV H locs ls (Nat.lt_succ_self _) (by omega) (by intro j hj; omega) hP hD hS (lv_sub hl [0, 1, 2, 3] rfl)
    · have c_2 : ¬ ((0 : Int32).toInt ≤ mv9.toInt ∧ mv9.toInt ≤ (200 : Int32).toInt) := zp_0 c_2
      exfalso; omega
