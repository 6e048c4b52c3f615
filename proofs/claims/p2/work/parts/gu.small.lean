set_option maxHeartbeats 4000000 in
set_option maxRecDepth 100000 in
theorem k_Sheet_houseThere_yv (l : Launch) (dC : Nat → ClassId) (dI : Nat → Nat → Nat) (cI cZ cF : ClassId) (sz : Nat) (sh : Nat) (fa : Nat) (ft : Nat) (FA : Nat → Option Nat) (i : Nat) (fe : Nat) (lo : Nat) (rk9 : Int32) (wd9 : Int32) (tw9 : Int32) (pa9 : Int32) (pb9 : Int32) (lk : Nat) (kd9 : Int32) (st9 : Int32) (gb9 : Int32) (jt9 : Int32) (we9 : Int32) (r : Nat) (fm9 : Value) (h200 : ft ≤ 200) (hi : i < ft) (hFA : FA i = some fe) (hs1 : st9.toInt = 1) (hkd : kd9.toInt = 6) : Met l yX8_houseThere (.code yX8_houseThere cX8_houseThere 3 (some (.object "ScaleShop$Row")) :: ws0) ({ frames := 2, cells := 0, slots := 0, locals := 43 } : Room) (va_Pc [.ref sh, .int (nI i)] (zPre (dC, dI) classes (zTy cI cZ cF) [(oc7 sh (.ref fa) (nI ft)), (oq fa cF 200 FA), (oc1 fe rk9 wd9 tw9 pa9 pb9 (.ref lo) (.ref lk) fm9), (oc4 lk kd9 st9 (.ref r) gb9 jt9 we9)] sz zXN)) (zQ (some (.ref r)) (fun t => va_P (dC, dI) classes [(oc7 sh (.ref fa) (nI ft)), (oq fa cF 200 FA), (oc1 fe rk9 wd9 tw9 pa9 pb9 (.ref lo) (.ref lk) fm9), (oc4 lk kd9 st9 (.ref r) gb9 jt9 we9)] t.heap ∧ va_D (va_A [(oc7 sh (.ref fa) (nI ft)), (oq fa cF 200 FA), (oc1 fe rk9 wd9 tw9 pa9 pb9 (.ref lo) (.ref lk) fm9), (oc4 lk kd9 st9 (.ref r) gb9 jt9 we9)] sz) [(oc7 sh (.ref fa) (nI ft)), (oq fa cF 200 FA), (oc1 fe rk9 wd9 tw9 pa9 pb9 (.ref lo) (.ref lk) fm9), (oc4 lk kd9 st9 (.ref r) gb9 jt9 we9)]) (va_A [(oc7 sh (.ref fa) (nI ft)), (oq fa cF 200 FA), (oc1 fe rk9 wd9 tw9 pa9 pb9 (.ref lo) (.ref lk) fm9), (oc4 lk kd9 st9 (.ref r) gb9 jt9 we9)] sz)) 0 0 (va_A [(oc7 sh (.ref fa) (nI ft)), (oq fa cF 200 FA), (oc1 fe rk9 wd9 tw9 pa9 pb9 (.ref lo) (.ref lk) fm9), (oc4 lk kd9 st9 (.ref r) gb9 jt9 we9)] sz) := by
  refine Met.ofW (cc := cX8_houseThere) (maxL := 3) (ret := (some (.object "ScaleShop$Row"))) (by decide) rfl ?_
  intro p e s m args below meth c s₁ B hml hv
  obtain ⟨rfl, hsz, hP, hK, hD0, hXN⟩ := hv
  have hx := B.exec
  have hb := B.bytes
  have hr := B.returns
  have hts0 := atoms_spec (ws := .code yX8_houseThere cX8_houseThere 3 (some (.object "ScaleShop$Row")) :: ws0) B.pre
  have hts : ∀ w9 ∈ ws0, w9.before ([.ref sh, .int (nI i)] : List Value).toArray s = true := fun w9 h => hts0 w9 (List.mem_cons_of_mem _ h)
  have hown : s.vm.findClass "ScaleShop$Sheet" = some m.cls := findClass_of_methodNamed B.named
  have hlocks := B.notSynchronized
  subst hsz
  have hD := hD0.self (sz := s.heap.size)
  clear hD0
  generalize hAe : va_A [(oc7 sh (.ref fa) (nI ft)), (oq fa cF 200 FA), (oc1 fe rk9 wd9 tw9 pa9 pb9 (.ref lo) (.ref lk) fm9), (oc4 lk kd9 st9 (.ref r) gb9 jt9 we9)] s.heap.size = A at hD ⊢
  have hA : ∀ q : Nat, s.heap.size ≤ q → A q := fun q h => by rw [← hAe]; exact Or.inr h
  clear hAe
  have hS : va_S A s.heap s.heap [] := va_S.rf
  have hP : va_P (dC, dI) classes [(oc7 sh (.ref fa) (nI ft)), (oq fa cF 200 FA), (oc1 fe rk9 wd9 tw9 pa9 pb9 (.ref lo) (.ref lk) fm9), (oc4 lk kd9 st9 (.ref r) gb9 jt9 we9)] s.heap := hP
  obtain ⟨Q9, hQ9⟩ : ∃ Q9 : State → Prop, Q9 = MQ below (zQ (some (.ref r)) (fun t => va_P (dC, dI) classes [(oc7 sh (.ref fa) (nI ft)), (oq fa cF 200 FA), (oc1 fe rk9 wd9 tw9 pa9 pb9 (.ref lo) (.ref lk) fm9), (oc4 lk kd9 st9 (.ref r) gb9 jt9 we9)] t.heap ∧ va_D A [(oc7 sh (.ref fa) (nI ft)), (oq fa cF 200 FA), (oc1 fe rk9 wd9 tw9 pa9 pb9 (.ref lo) (.ref lk) fm9), (oc4 lk kd9 st9 (.ref r) gb9 jt9 we9)]) A) ([.ref sh, .int (nI i)] : List Value).toArray s 0 0 A := ⟨_, rfl⟩
  rw [← hQ9]
  have hl := lv_entry ([.ref sh, .int (nI i)]) (n := 3) (Nat.le_of_ble_eq_true rfl)
  rw [lg_entry_eq]
  generalize (lg_sl ([.ref sh, .int (nI i)]) ++ List.replicate (3 - (lg_sl ([.ref sh, .int (nI i)])).length) Slot.unset).toArray = ls at hl ⊢
  have hl : lv_has ls 3 [(0, .ref sh), (1, .int (nI i))] := hl
  refine lv_aload_n hx hb dX8_houseThere_0 rfl (lv_at hl 0 rfl) ?_
  refine lv_iload_n hx hb dX8_houseThere_1 rfl (lv_at hl 1 rfl) ?_
  have hPc := hP.sub (ws' := [(oc7 sh (.ref fa) (nI ft)), (oq fa cF 200 FA)]) [0, 1] rfl
  have hDc := hD.sub (ws' := [(oc7 sh (.ref fa) (nI ft)), (oq fa cF 200 FA)]) [0, 1] (by decide) rfl
  have hFc := va_free (wc := [(oc7 sh (.ref fa) (nI ft)), (oq fa cF 200 FA)]) hD hS hA [0, 1] rfl
  refine zcall (st1 := [.ref fe]) (va_runV (As := [.int (nI i)]) (rest := []) ⟨hx, hb, hml, hown, hts⟩ (k_Sheet_find l dC dI cI cZ cF s.heap.size sh fa ft FA i fe (by omega) (by omega) (hFA)) (cwV 1 hts (zz_gV mw_616 mw_499 mw_500 mw_100 mc_yX8_find) rfl rfl rfl (by decide +kernel) ⟨Nat.le_of_ble_eq_true rfl, Nat.le_of_ble_eq_true rfl⟩) (zPV2 (q0 := 0) (ci := 7) hPc hDc hK hXN rfl rfl) rfl rfl hl.1 rfl (lv_room (Nat.le_of_ble_eq_true rfl)) dX8_houseThere_2 ⟨Nat.le_of_ble_eq_true rfl, Nat.le_of_ble_eq_true rfl⟩) hS hFc hFc rfl (fun t H1 locs ht hB hk1 hS => ?_)
  obtain ⟨hP1, hD1⟩ := hB
  rw [ht] at hP1
  obtain ⟨hP, hD⟩ := va_join (wr := [(oc1 fe rk9 wd9 tw9 pa9 pb9 (.ref lo) (.ref lk) fm9), (oc4 lk kd9 st9 (.ref r) gb9 jt9 we9)]) (w1 := [(oc7 sh (.ref fa) (nI ft)), (oq fa cF 200 FA)]) hP hD [0, 1] [2, 3] rfl rfl (by decide) (by decide) hk1 hFc hP1 hD1
  clear hk1 hPc hDc hFc hP1 hD1 ht
  generalize H1 = H at hP hS ⊢
  have hP := hP.sub (ws' := [(oc7 sh (.ref fa) (nI ft)), (oq fa cF 200 FA), (oc1 fe rk9 wd9 tw9 pa9 pb9 (.ref lo) (.ref lk) fm9), (oc4 lk kd9 st9 (.ref r) gb9 jt9 we9)]) [2, 3, 0, 1] rfl
  have hD := hD.sub (ws' := [(oc7 sh (.ref fa) (nI ft)), (oq fa cF 200 FA), (oc1 fe rk9 wd9 tw9 pa9 pb9 (.ref lo) (.ref lk) fm9), (oc4 lk kd9 st9 (.ref r) gb9 jt9 we9)]) [2, 3, 0, 1] (by decide) rfl
  have hP : va_P (dC, dI) classes [(oc7 sh (.ref fa) (nI ft)), (oq fa cF 200 FA), (oc1 fe rk9 wd9 tw9 pa9 pb9 (.ref lo) (.ref lk) fm9), (oc4 lk kd9 st9 (.ref r) gb9 jt9 we9)] H := hP
  have hD : va_D A [(oc7 sh (.ref fa) (nI ft)), (oq fa cF 200 FA), (oc1 fe rk9 wd9 tw9 pa9 pb9 (.ref lo) (.ref lk) fm9), (oc4 lk kd9 st9 (.ref r) gb9 jt9 we9)] := hD
  refine lv_astore_n (lv' := [(2, .ref fe), (0, .ref sh), (1, .int (nI i))]) hx hb dX8_houseThere_5 rfl hl (by decide) rfl (fun ls hl => ?_)
  refine lv_aload_n hx hb dX8_houseThere_6 rfl (lv_at hl 0 rfl) ?_
  refine lv_ifnull hx hb dX8_houseThere_7 ?_
  refine lv_aload_n hx hb dX8_houseThere_10 rfl (lv_at hl 0 rfl) ?_
  refine va_get (D := (dC, dI)) (ci := 1) (v := .ref lk) (C := RX2) (T := TX2) (N := 8) hx hb hts inX2 hown hK hP 2 rfl rfl 6 (by decide) (hts _ mw_434) (fun _ h9 => h9) rfl dX8_houseThere_11 ?_
  refine va_get (D := (dC, dI)) (ci := 4) (v := .int kd9) (C := RX5) (T := TX5) (N := 6) hx hb hts inX5 hown hK hP 3 rfl rfl 0 (by decide) (hts _ mw_383) (fun _ h9 => h9) rfl dX8_houseThere_14 ?_
  refine lv_bipush (v := 6) hx hb dX8_houseThere_17 (by decide) ?_
  refine lv_icmp_ne (tgt := 30) hx hb dX8_houseThere_19 (by decide) (fun c_1 => ?_) (fun c_1 => ?_)
  · have c_1 : ¬ kd9.toInt = 6 := zc_ne rfl (by decide) c_1
    exfalso; omega
  · have c_1 : kd9.toInt = 6 := zc_eq rfl (by decide) c_1
    refine lv_aload_n hx hb dX8_houseThere_22 rfl (lv_at hl 1 rfl) ?_
    refine lv_iload_n hx hb dX8_houseThere_23 rfl (lv_at hl 2 rfl) ?_
    have hPc := hP.sub (ws' := [(oc7 sh (.ref fa) (nI ft)), (oq fa cF 200 FA), (oc1 fe rk9 wd9 tw9 pa9 pb9 (.ref lo) (.ref lk) fm9), (oc4 lk kd9 st9 (.ref r) gb9 jt9 we9)]) [0, 1, 2, 3] rfl
    have hDc := hD.sub (ws' := [(oc7 sh (.ref fa) (nI ft)), (oq fa cF 200 FA), (oc1 fe rk9 wd9 tw9 pa9 pb9 (.ref lo) (.ref lk) fm9), (oc4 lk kd9 st9 (.ref r) gb9 jt9 we9)]) [0, 1, 2, 3] (by decide) rfl
    have hFc := va_free (wc := [(oc7 sh (.ref fa) (nI ft)), (oq fa cF 200 FA), (oc1 fe rk9 wd9 tw9 pa9 pb9 (.ref lo) (.ref lk) fm9), (oc4 lk kd9 st9 (.ref r) gb9 jt9 we9)]) hD hS hA [0, 1, 2, 3] rfl
    refine zcall (st1 := [.ref r]) (va_runV (As := [.int (nI i)]) (rest := []) ⟨hx, hb, hml, hown, hts⟩ (k_Sheet_rowThere_yv l dC dI cI cZ cF H.size sh fa ft FA i fe lo rk9 wd9 tw9 pa9 pb9 lk kd9 st9 gb9 jt9 we9 r fm9 (by omega) (by omega) (hFA) (by omega)) (cwV 1 hts (zz_gV mw_987 mw_613 mw_614 mw_100 mc_yX8_rowThere) rfl rfl rfl (by decide +kernel) ⟨Nat.le_of_ble_eq_true rfl, Nat.le_of_ble_eq_true rfl⟩) (zPV2 (q0 := 0) (ci := 7) hPc hDc hK hXN rfl rfl) rfl rfl hl.1 rfl (lv_room (Nat.le_of_ble_eq_true rfl)) dX8_houseThere_24 ⟨Nat.le_of_ble_eq_true rfl, Nat.le_of_ble_eq_true rfl⟩) hS hFc hFc rfl (fun t H1 locs ht hB hk1 hS => ?_)
    obtain ⟨hP1, hD1⟩ := hB
    rw [ht] at hP1
    obtain ⟨hP, hD⟩ := va_join (wr := []) (w1 := [(oc7 sh (.ref fa) (nI ft)), (oq fa cF 200 FA), (oc1 fe rk9 wd9 tw9 pa9 pb9 (.ref lo) (.ref lk) fm9), (oc4 lk kd9 st9 (.ref r) gb9 jt9 we9)]) hP hD [0, 1, 2, 3] [] rfl rfl (by decide) (by decide) hk1 hFc hP1 hD1
    clear hk1 hPc hDc hFc hP1 hD1 ht
    generalize H1 = H at hP hS ⊢
    have hP : va_P (dC, dI) classes [(oc7 sh (.ref fa) (nI ft)), (oq fa cF 200 FA), (oc1 fe rk9 wd9 tw9 pa9 pb9 (.ref lo) (.ref lk) fm9), (oc4 lk kd9 st9 (.ref r) gb9 jt9 we9)] H := hP
    have hD : va_D A [(oc7 sh (.ref fa) (nI ft)), (oq fa cF 200 FA), (oc1 fe rk9 wd9 tw9 pa9 pb9 (.ref lo) (.ref lk) fm9), (oc4 lk kd9 st9 (.ref r) gb9 jt9 we9)] := hD
    refine lv_goto (tgt := 31) hx hb dX8_houseThere_27 (by decide) ?_
    have hP9 := hP.sub (ws' := [(oc7 sh (.ref fa) (nI ft)), (oq fa cF 200 FA), (oc1 fe rk9 wd9 tw9 pa9 pb9 (.ref lo) (.ref lk) fm9), (oc4 lk kd9 st9 (.ref r) gb9 jt9 we9)]) [0, 1, 2, 3] rfl
    have hD9 := hD.sub (ws' := [(oc7 sh (.ref fa) (nI ft)), (oq fa cF 200 FA), (oc1 fe rk9 wd9 tw9 pa9 pb9 (.ref lo) (.ref lk) fm9), (oc4 lk kd9 st9 (.ref r) gb9 jt9 we9)]) [0, 1, 2, 3] (by decide) rfl
    rw [hQ9]
    exact W.aret hx hb hr (Or.inl ⟨_, rfl⟩) (Or.inr ⟨_, rfl⟩) (fun t ht hW => ⟨⟨rfl, by rw [ht]; exact hP9, hD9⟩, hS.F ht⟩) hS.2.2 dX8_houseThere_31
set_option maxHeartbeats 4000000 in
set_option maxRecDepth 100000 in
theorem k_Sheet_houseThere_sv (l : Launch) (dC : Nat → ClassId) (dI : Nat → Nat → Nat) (cI cZ cF : ClassId) (sz : Nat) (sh : Nat) (fa : Nat) (ft : Nat) (FA : Nat → Option Nat) (i : Nat) (fe : Nat) (lo : Nat) (rk9 : Int32) (wd9 : Int32) (tw9 : Int32) (pa9 : Int32) (pb9 : Int32) (lk : Nat) (kd9 : Int32) (st9 : Int32) (gb9 : Int32) (jt9 : Int32) (we9 : Int32) (fm9 : Value) (rw9 : Value) (h200 : ft ≤ 200) (hi : i < ft) (hFA : FA i = some fe) (hs1 : ¬ (st9.toInt = 1 ∧ kd9.toInt = 6)) : Met l yX8_houseThere (.code yX8_houseThere cX8_houseThere 3 (some (.object "ScaleShop$Row")) :: ws0) ({ frames := 2, cells := 0, slots := 0, locals := 43 } : Room) (va_Pc [.ref sh, .int (nI i)] (zPre (dC, dI) classes (zTy cI cZ cF) [(oc7 sh (.ref fa) (nI ft)), (oq fa cF 200 FA), (oc1 fe rk9 wd9 tw9 pa9 pb9 (.ref lo) (.ref lk) fm9), (oc4 lk kd9 st9 rw9 gb9 jt9 we9)] sz zXN)) (zQ (some (.null)) (fun t => va_P (dC, dI) classes [(oc7 sh (.ref fa) (nI ft)), (oq fa cF 200 FA), (oc1 fe rk9 wd9 tw9 pa9 pb9 (.ref lo) (.ref lk) fm9), (oc4 lk kd9 st9 rw9 gb9 jt9 we9)] t.heap ∧ va_D (va_A [(oc7 sh (.ref fa) (nI ft)), (oq fa cF 200 FA), (oc1 fe rk9 wd9 tw9 pa9 pb9 (.ref lo) (.ref lk) fm9), (oc4 lk kd9 st9 rw9 gb9 jt9 we9)] sz) [(oc7 sh (.ref fa) (nI ft)), (oq fa cF 200 FA), (oc1 fe rk9 wd9 tw9 pa9 pb9 (.ref lo) (.ref lk) fm9), (oc4 lk kd9 st9 rw9 gb9 jt9 we9)]) (va_A [(oc7 sh (.ref fa) (nI ft)), (oq fa cF 200 FA), (oc1 fe rk9 wd9 tw9 pa9 pb9 (.ref lo) (.ref lk) fm9), (oc4 lk kd9 st9 rw9 gb9 jt9 we9)] sz)) 0 0 (va_A [(oc7 sh (.ref fa) (nI ft)), (oq fa cF 200 FA), (oc1 fe rk9 wd9 tw9 pa9 pb9 (.ref lo) (.ref lk) fm9), (oc4 lk kd9 st9 rw9 gb9 jt9 we9)] sz) := by
  refine Met.ofW (cc := cX8_houseThere) (maxL := 3) (ret := (some (.object "ScaleShop$Row"))) (by decide) rfl ?_
  intro p e s m args below meth c s₁ B hml hv
  obtain ⟨rfl, hsz, hP, hK, hD0, hXN⟩ := hv
  have hx := B.exec
  have hb := B.bytes
  have hr := B.returns
  have hts0 := atoms_spec (ws := .code yX8_houseThere cX8_houseThere 3 (some (.object "ScaleShop$Row")) :: ws0) B.pre
  have hts : ∀ w9 ∈ ws0, w9.before ([.ref sh, .int (nI i)] : List Value).toArray s = true := fun w9 h => hts0 w9 (List.mem_cons_of_mem _ h)
  have hown : s.vm.findClass "ScaleShop$Sheet" = some m.cls := findClass_of_methodNamed B.named
  have hlocks := B.notSynchronized
  subst hsz
  have hD := hD0.self (sz := s.heap.size)
  clear hD0
  generalize hAe : va_A [(oc7 sh (.ref fa) (nI ft)), (oq fa cF 200 FA), (oc1 fe rk9 wd9 tw9 pa9 pb9 (.ref lo) (.ref lk) fm9), (oc4 lk kd9 st9 rw9 gb9 jt9 we9)] s.heap.size = A at hD ⊢
  have hA : ∀ q : Nat, s.heap.size ≤ q → A q := fun q h => by rw [← hAe]; exact Or.inr h
  clear hAe
  have hS : va_S A s.heap s.heap [] := va_S.rf
  have hP : va_P (dC, dI) classes [(oc7 sh (.ref fa) (nI ft)), (oq fa cF 200 FA), (oc1 fe rk9 wd9 tw9 pa9 pb9 (.ref lo) (.ref lk) fm9), (oc4 lk kd9 st9 rw9 gb9 jt9 we9)] s.heap := hP
  obtain ⟨Q9, hQ9⟩ : ∃ Q9 : State → Prop, Q9 = MQ below (zQ (some (.null)) (fun t => va_P (dC, dI) classes [(oc7 sh (.ref fa) (nI ft)), (oq fa cF 200 FA), (oc1 fe rk9 wd9 tw9 pa9 pb9 (.ref lo) (.ref lk) fm9), (oc4 lk kd9 st9 rw9 gb9 jt9 we9)] t.heap ∧ va_D A [(oc7 sh (.ref fa) (nI ft)), (oq fa cF 200 FA), (oc1 fe rk9 wd9 tw9 pa9 pb9 (.ref lo) (.ref lk) fm9), (oc4 lk kd9 st9 rw9 gb9 jt9 we9)]) A) ([.ref sh, .int (nI i)] : List Value).toArray s 0 0 A := ⟨_, rfl⟩
  rw [← hQ9]
  have hl := lv_entry ([.ref sh, .int (nI i)]) (n := 3) (Nat.le_of_ble_eq_true rfl)
  rw [lg_entry_eq]
  generalize (lg_sl ([.ref sh, .int (nI i)]) ++ List.replicate (3 - (lg_sl ([.ref sh, .int (nI i)])).length) Slot.unset).toArray = ls at hl ⊢
  have hl : lv_has ls 3 [(0, .ref sh), (1, .int (nI i))] := hl
  refine lv_aload_n hx hb dX8_houseThere_0 rfl (lv_at hl 0 rfl) ?_
  refine lv_iload_n hx hb dX8_houseThere_1 rfl (lv_at hl 1 rfl) ?_
  have hPc := hP.sub (ws' := [(oc7 sh (.ref fa) (nI ft)), (oq fa cF 200 FA)]) [0, 1] rfl
  have hDc := hD.sub (ws' := [(oc7 sh (.ref fa) (nI ft)), (oq fa cF 200 FA)]) [0, 1] (by decide) rfl
  have hFc := va_free (wc := [(oc7 sh (.ref fa) (nI ft)), (oq fa cF 200 FA)]) hD hS hA [0, 1] rfl
  refine zcall (st1 := [.ref fe]) (va_runV (As := [.int (nI i)]) (rest := []) ⟨hx, hb, hml, hown, hts⟩ (k_Sheet_find l dC dI cI cZ cF s.heap.size sh fa ft FA i fe (by omega) (by omega) (hFA)) (cwV 1 hts (zz_gV mw_616 mw_499 mw_500 mw_100 mc_yX8_find) rfl rfl rfl (by decide +kernel) ⟨Nat.le_of_ble_eq_true rfl, Nat.le_of_ble_eq_true rfl⟩) (zPV2 (q0 := 0) (ci := 7) hPc hDc hK hXN rfl rfl) rfl rfl hl.1 rfl (lv_room (Nat.le_of_ble_eq_true rfl)) dX8_houseThere_2 ⟨Nat.le_of_ble_eq_true rfl, Nat.le_of_ble_eq_true rfl⟩) hS hFc hFc rfl (fun t H1 locs ht hB hk1 hS => ?_)
  obtain ⟨hP1, hD1⟩ := hB
  rw [ht] at hP1
  obtain ⟨hP, hD⟩ := va_join (wr := [(oc1 fe rk9 wd9 tw9 pa9 pb9 (.ref lo) (.ref lk) fm9), (oc4 lk kd9 st9 rw9 gb9 jt9 we9)]) (w1 := [(oc7 sh (.ref fa) (nI ft)), (oq fa cF 200 FA)]) hP hD [0, 1] [2, 3] rfl rfl (by decide) (by decide) hk1 hFc hP1 hD1
  clear hk1 hPc hDc hFc hP1 hD1 ht
  generalize H1 = H at hP hS ⊢
  have hP := hP.sub (ws' := [(oc7 sh (.ref fa) (nI ft)), (oq fa cF 200 FA), (oc1 fe rk9 wd9 tw9 pa9 pb9 (.ref lo) (.ref lk) fm9), (oc4 lk kd9 st9 rw9 gb9 jt9 we9)]) [2, 3, 0, 1] rfl
  have hD := hD.sub (ws' := [(oc7 sh (.ref fa) (nI ft)), (oq fa cF 200 FA), (oc1 fe rk9 wd9 tw9 pa9 pb9 (.ref lo) (.ref lk) fm9), (oc4 lk kd9 st9 rw9 gb9 jt9 we9)]) [2, 3, 0, 1] (by decide) rfl
  have hP : va_P (dC, dI) classes [(oc7 sh (.ref fa) (nI ft)), (oq fa cF 200 FA), (oc1 fe rk9 wd9 tw9 pa9 pb9 (.ref lo) (.ref lk) fm9), (oc4 lk kd9 st9 rw9 gb9 jt9 we9)] H := hP
  have hD : va_D A [(oc7 sh (.ref fa) (nI ft)), (oq fa cF 200 FA), (oc1 fe rk9 wd9 tw9 pa9 pb9 (.ref lo) (.ref lk) fm9), (oc4 lk kd9 st9 rw9 gb9 jt9 we9)] := hD
  refine lv_astore_n (lv' := [(2, .ref fe), (0, .ref sh), (1, .int (nI i))]) hx hb dX8_houseThere_5 rfl hl (by decide) rfl (fun ls hl => ?_)
  refine lv_aload_n hx hb dX8_houseThere_6 rfl (lv_at hl 0 rfl) ?_
  refine lv_ifnull hx hb dX8_houseThere_7 ?_
  refine lv_aload_n hx hb dX8_houseThere_10 rfl (lv_at hl 0 rfl) ?_
  refine va_get (D := (dC, dI)) (ci := 1) (v := .ref lk) (C := RX2) (T := TX2) (N := 8) hx hb hts inX2 hown hK hP 2 rfl rfl 6 (by decide) (hts _ mw_434) (fun _ h9 => h9) rfl dX8_houseThere_11 ?_
  refine va_get (D := (dC, dI)) (ci := 4) (v := .int kd9) (C := RX5) (T := TX5) (N := 6) hx hb hts inX5 hown hK hP 3 rfl rfl 0 (by decide) (hts _ mw_383) (fun _ h9 => h9) rfl dX8_houseThere_14 ?_
  refine lv_bipush (v := 6) hx hb dX8_houseThere_17 (by decide) ?_
  refine lv_icmp_ne (tgt := 30) hx hb dX8_houseThere_19 (by decide) (fun c_1 => ?_) (fun c_1 => ?_)
  · have c_1 : ¬ kd9.toInt = 6 := zc_ne rfl (by decide) c_1
    refine lv_null hx hb dX8_houseThere_30 ?_
    have hP9 := hP.sub (ws' := [(oc7 sh (.ref fa) (nI ft)), (oq fa cF 200 FA), (oc1 fe rk9 wd9 tw9 pa9 pb9 (.ref lo) (.ref lk) fm9), (oc4 lk kd9 st9 rw9 gb9 jt9 we9)]) [0, 1, 2, 3] rfl
    have hD9 := hD.sub (ws' := [(oc7 sh (.ref fa) (nI ft)), (oq fa cF 200 FA), (oc1 fe rk9 wd9 tw9 pa9 pb9 (.ref lo) (.ref lk) fm9), (oc4 lk kd9 st9 rw9 gb9 jt9 we9)]) [0, 1, 2, 3] (by decide) rfl
    rw [hQ9]
    exact W.aret hx hb hr (Or.inl ⟨_, rfl⟩) (Or.inl rfl) (fun t ht hW => ⟨⟨rfl, by rw [ht]; exact hP9, hD9⟩, hS.F ht⟩) hS.2.2 dX8_houseThere_31
  · have c_1 : kd9.toInt = 6 := zc_eq rfl (by decide) c_1
    refine lv_aload_n hx hb dX8_houseThere_22 rfl (lv_at hl 1 rfl) ?_
    refine lv_iload_n hx hb dX8_houseThere_23 rfl (lv_at hl 2 rfl) ?_
    have hPc := hP.sub (ws' := [(oc7 sh (.ref fa) (nI ft)), (oq fa cF 200 FA), (oc1 fe rk9 wd9 tw9 pa9 pb9 (.ref lo) (.ref lk) fm9), (oc4 lk kd9 st9 rw9 gb9 jt9 we9)]) [0, 1, 2, 3] rfl
    have hDc := hD.sub (ws' := [(oc7 sh (.ref fa) (nI ft)), (oq fa cF 200 FA), (oc1 fe rk9 wd9 tw9 pa9 pb9 (.ref lo) (.ref lk) fm9), (oc4 lk kd9 st9 rw9 gb9 jt9 we9)]) [0, 1, 2, 3] (by decide) rfl
    have hFc := va_free (wc := [(oc7 sh (.ref fa) (nI ft)), (oq fa cF 200 FA), (oc1 fe rk9 wd9 tw9 pa9 pb9 (.ref lo) (.ref lk) fm9), (oc4 lk kd9 st9 rw9 gb9 jt9 we9)]) hD hS hA [0, 1, 2, 3] rfl
    refine zcall (st1 := [.null]) (va_runV (As := [.int (nI i)]) (rest := []) ⟨hx, hb, hml, hown, hts⟩ (k_Sheet_rowThere_sv l dC dI cI cZ cF H.size sh fa ft FA i fe lo rk9 wd9 tw9 pa9 pb9 lk kd9 st9 gb9 jt9 we9 fm9 rw9 (by omega) (by omega) (hFA) (by omega)) (cwV 1 hts (zz_gV mw_987 mw_613 mw_614 mw_100 mc_yX8_rowThere) rfl rfl rfl (by decide +kernel) ⟨Nat.le_of_ble_eq_true rfl, Nat.le_of_ble_eq_true rfl⟩) (zPV2 (q0 := 0) (ci := 7) hPc hDc hK hXN rfl rfl) rfl rfl hl.1 rfl (lv_room (Nat.le_of_ble_eq_true rfl)) dX8_houseThere_24 ⟨Nat.le_of_ble_eq_true rfl, Nat.le_of_ble_eq_true rfl⟩) hS hFc hFc rfl (fun t H1 locs ht hB hk1 hS => ?_)
    obtain ⟨hP1, hD1⟩ := hB
    rw [ht] at hP1
    obtain ⟨hP, hD⟩ := va_join (wr := []) (w1 := [(oc7 sh (.ref fa) (nI ft)), (oq fa cF 200 FA), (oc1 fe rk9 wd9 tw9 pa9 pb9 (.ref lo) (.ref lk) fm9), (oc4 lk kd9 st9 rw9 gb9 jt9 we9)]) hP hD [0, 1, 2, 3] [] rfl rfl (by decide) (by decide) hk1 hFc hP1 hD1
    clear hk1 hPc hDc hFc hP1 hD1 ht
    generalize H1 = H at hP hS ⊢
    have hP : va_P (dC, dI) classes [(oc7 sh (.ref fa) (nI ft)), (oq fa cF 200 FA), (oc1 fe rk9 wd9 tw9 pa9 pb9 (.ref lo) (.ref lk) fm9), (oc4 lk kd9 st9 rw9 gb9 jt9 we9)] H := hP
    have hD : va_D A [(oc7 sh (.ref fa) (nI ft)), (oq fa cF 200 FA), (oc1 fe rk9 wd9 tw9 pa9 pb9 (.ref lo) (.ref lk) fm9), (oc4 lk kd9 st9 rw9 gb9 jt9 we9)] := hD
    refine lv_goto (tgt := 31) hx hb dX8_houseThere_27 (by decide) ?_
    have hP9 := hP.sub (ws' := [(oc7 sh (.ref fa) (nI ft)), (oq fa cF 200 FA), (oc1 fe rk9 wd9 tw9 pa9 pb9 (.ref lo) (.ref lk) fm9), (oc4 lk kd9 st9 rw9 gb9 jt9 we9)]) [0, 1, 2, 3] rfl
    have hD9 := hD.sub (ws' := [(oc7 sh (.ref fa) (nI ft)), (oq fa cF 200 FA), (oc1 fe rk9 wd9 tw9 pa9 pb9 (.ref lo) (.ref lk) fm9), (oc4 lk kd9 st9 rw9 gb9 jt9 we9)]) [0, 1, 2, 3] (by decide) rfl
    rw [hQ9]
    exact W.aret hx hb hr (Or.inl ⟨_, rfl⟩) (Or.inl rfl) (fun t ht hW => ⟨⟨rfl, by rw [ht]; exact hP9, hD9⟩, hS.F ht⟩) hS.2.2 dX8_houseThere_31
set_option maxHeartbeats 4000000 in
set_option maxRecDepth 100000 in
theorem k_Sheet_houseThere_tv (l : Launch) (dC : Nat → ClassId) (dI : Nat → Nat → Nat) (cI cZ cF : ClassId) (sz : Nat) (sh : Nat) (fa : Nat) (ft : Nat) (FA : Nat → Option Nat) (i : Nat) (fe : Nat) (lo : Nat) (rk9 : Int32) (wd9 : Int32) (tw9 : Int32) (pa9 : Int32) (pb9 : Int32) (lk : Nat) (kd9 : Int32) (st9 : Int32) (gb9 : Int32) (jt9 : Int32) (we9 : Int32) (fm9 : Value) (h200 : ft ≤ 200) (hi : i < ft) (hFA : FA i = some fe) : Met l yX8_houseThere (.code yX8_houseThere cX8_houseThere 3 (some (.object "ScaleShop$Row")) :: ws0) ({ frames := 2, cells := 0, slots := 0, locals := 43 } : Room) (va_Pc [.ref sh, .int (nI i)] (zPre (dC, dI) classes (zTy cI cZ cF) [(oc7 sh (.ref fa) (nI ft)), (oq fa cF 200 FA), (oc1 fe rk9 wd9 tw9 pa9 pb9 (.ref lo) (.ref lk) fm9), (oc4 lk kd9 st9 .null gb9 jt9 we9)] sz zXN)) (zQ (some (.null)) (fun t => va_P (dC, dI) classes [(oc7 sh (.ref fa) (nI ft)), (oq fa cF 200 FA), (oc1 fe rk9 wd9 tw9 pa9 pb9 (.ref lo) (.ref lk) fm9), (oc4 lk kd9 st9 .null gb9 jt9 we9)] t.heap ∧ va_D (va_A [(oc7 sh (.ref fa) (nI ft)), (oq fa cF 200 FA), (oc1 fe rk9 wd9 tw9 pa9 pb9 (.ref lo) (.ref lk) fm9), (oc4 lk kd9 st9 .null gb9 jt9 we9)] sz) [(oc7 sh (.ref fa) (nI ft)), (oq fa cF 200 FA), (oc1 fe rk9 wd9 tw9 pa9 pb9 (.ref lo) (.ref lk) fm9), (oc4 lk kd9 st9 .null gb9 jt9 we9)]) (va_A [(oc7 sh (.ref fa) (nI ft)), (oq fa cF 200 FA), (oc1 fe rk9 wd9 tw9 pa9 pb9 (.ref lo) (.ref lk) fm9), (oc4 lk kd9 st9 .null gb9 jt9 we9)] sz)) 0 0 (va_A [(oc7 sh (.ref fa) (nI ft)), (oq fa cF 200 FA), (oc1 fe rk9 wd9 tw9 pa9 pb9 (.ref lo) (.ref lk) fm9), (oc4 lk kd9 st9 .null gb9 jt9 we9)] sz) := by
  refine Met.ofW (cc := cX8_houseThere) (maxL := 3) (ret := (some (.object "ScaleShop$Row"))) (by decide) rfl ?_
  intro p e s m args below meth c s₁ B hml hv
  obtain ⟨rfl, hsz, hP, hK, hD0, hXN⟩ := hv
  have hx := B.exec
  have hb := B.bytes
  have hr := B.returns
  have hts0 := atoms_spec (ws := .code yX8_houseThere cX8_houseThere 3 (some (.object "ScaleShop$Row")) :: ws0) B.pre
  have hts : ∀ w9 ∈ ws0, w9.before ([.ref sh, .int (nI i)] : List Value).toArray s = true := fun w9 h => hts0 w9 (List.mem_cons_of_mem _ h)
  have hown : s.vm.findClass "ScaleShop$Sheet" = some m.cls := findClass_of_methodNamed B.named
  have hlocks := B.notSynchronized
  subst hsz
  have hD := hD0.self (sz := s.heap.size)
  clear hD0
  generalize hAe : va_A [(oc7 sh (.ref fa) (nI ft)), (oq fa cF 200 FA), (oc1 fe rk9 wd9 tw9 pa9 pb9 (.ref lo) (.ref lk) fm9), (oc4 lk kd9 st9 .null gb9 jt9 we9)] s.heap.size = A at hD ⊢
  have hA : ∀ q : Nat, s.heap.size ≤ q → A q := fun q h => by rw [← hAe]; exact Or.inr h
  clear hAe
  have hS : va_S A s.heap s.heap [] := va_S.rf
  have hP : va_P (dC, dI) classes [(oc7 sh (.ref fa) (nI ft)), (oq fa cF 200 FA), (oc1 fe rk9 wd9 tw9 pa9 pb9 (.ref lo) (.ref lk) fm9), (oc4 lk kd9 st9 .null gb9 jt9 we9)] s.heap := hP
  obtain ⟨Q9, hQ9⟩ : ∃ Q9 : State → Prop, Q9 = MQ below (zQ (some (.null)) (fun t => va_P (dC, dI) classes [(oc7 sh (.ref fa) (nI ft)), (oq fa cF 200 FA), (oc1 fe rk9 wd9 tw9 pa9 pb9 (.ref lo) (.ref lk) fm9), (oc4 lk kd9 st9 .null gb9 jt9 we9)] t.heap ∧ va_D A [(oc7 sh (.ref fa) (nI ft)), (oq fa cF 200 FA), (oc1 fe rk9 wd9 tw9 pa9 pb9 (.ref lo) (.ref lk) fm9), (oc4 lk kd9 st9 .null gb9 jt9 we9)]) A) ([.ref sh, .int (nI i)] : List Value).toArray s 0 0 A := ⟨_, rfl⟩
  rw [← hQ9]
  have hl := lv_entry ([.ref sh, .int (nI i)]) (n := 3) (Nat.le_of_ble_eq_true rfl)
  rw [lg_entry_eq]
  generalize (lg_sl ([.ref sh, .int (nI i)]) ++ List.replicate (3 - (lg_sl ([.ref sh, .int (nI i)])).length) Slot.unset).toArray = ls at hl ⊢
  have hl : lv_has ls 3 [(0, .ref sh), (1, .int (nI i))] := hl
  refine lv_aload_n hx hb dX8_houseThere_0 rfl (lv_at hl 0 rfl) ?_
  refine lv_iload_n hx hb dX8_houseThere_1 rfl (lv_at hl 1 rfl) ?_
  have hPc := hP.sub (ws' := [(oc7 sh (.ref fa) (nI ft)), (oq fa cF 200 FA)]) [0, 1] rfl
  have hDc := hD.sub (ws' := [(oc7 sh (.ref fa) (nI ft)), (oq fa cF 200 FA)]) [0, 1] (by decide) rfl
  have hFc := va_free (wc := [(oc7 sh (.ref fa) (nI ft)), (oq fa cF 200 FA)]) hD hS hA [0, 1] rfl
  refine zcall (st1 := [.ref fe]) (va_runV (As := [.int (nI i)]) (rest := []) ⟨hx, hb, hml, hown, hts⟩ (k_Sheet_find l dC dI cI cZ cF s.heap.size sh fa ft FA i fe (by omega) (by omega) (hFA)) (cwV 1 hts (zz_gV mw_616 mw_499 mw_500 mw_100 mc_yX8_find) rfl rfl rfl (by decide +kernel) ⟨Nat.le_of_ble_eq_true rfl, Nat.le_of_ble_eq_true rfl⟩) (zPV2 (q0 := 0) (ci := 7) hPc hDc hK hXN rfl rfl) rfl rfl hl.1 rfl (lv_room (Nat.le_of_ble_eq_true rfl)) dX8_houseThere_2 ⟨Nat.le_of_ble_eq_true rfl, Nat.le_of_ble_eq_true rfl⟩) hS hFc hFc rfl (fun t H1 locs ht hB hk1 hS => ?_)
  obtain ⟨hP1, hD1⟩ := hB
  rw [ht] at hP1
  obtain ⟨hP, hD⟩ := va_join (wr := [(oc1 fe rk9 wd9 tw9 pa9 pb9 (.ref lo) (.ref lk) fm9), (oc4 lk kd9 st9 .null gb9 jt9 we9)]) (w1 := [(oc7 sh (.ref fa) (nI ft)), (oq fa cF 200 FA)]) hP hD [0, 1] [2, 3] rfl rfl (by decide) (by decide) hk1 hFc hP1 hD1
  clear hk1 hPc hDc hFc hP1 hD1 ht
  generalize H1 = H at hP hS ⊢
  have hP := hP.sub (ws' := [(oc7 sh (.ref fa) (nI ft)), (oq fa cF 200 FA), (oc1 fe rk9 wd9 tw9 pa9 pb9 (.ref lo) (.ref lk) fm9), (oc4 lk kd9 st9 .null gb9 jt9 we9)]) [2, 3, 0, 1] rfl
  have hD := hD.sub (ws' := [(oc7 sh (.ref fa) (nI ft)), (oq fa cF 200 FA), (oc1 fe rk9 wd9 tw9 pa9 pb9 (.ref lo) (.ref lk) fm9), (oc4 lk kd9 st9 .null gb9 jt9 we9)]) [2, 3, 0, 1] (by decide) rfl
  have hP : va_P (dC, dI) classes [(oc7 sh (.ref fa) (nI ft)), (oq fa cF 200 FA), (oc1 fe rk9 wd9 tw9 pa9 pb9 (.ref lo) (.ref lk) fm9), (oc4 lk kd9 st9 .null gb9 jt9 we9)] H := hP
  have hD : va_D A [(oc7 sh (.ref fa) (nI ft)), (oq fa cF 200 FA), (oc1 fe rk9 wd9 tw9 pa9 pb9 (.ref lo) (.ref lk) fm9), (oc4 lk kd9 st9 .null gb9 jt9 we9)] := hD
  refine lv_astore_n (lv' := [(2, .ref fe), (0, .ref sh), (1, .int (nI i))]) hx hb dX8_houseThere_5 rfl hl (by decide) rfl (fun ls hl => ?_)
  refine lv_aload_n hx hb dX8_houseThere_6 rfl (lv_at hl 0 rfl) ?_
  refine lv_ifnull hx hb dX8_houseThere_7 ?_
  refine lv_aload_n hx hb dX8_houseThere_10 rfl (lv_at hl 0 rfl) ?_
  refine va_get (D := (dC, dI)) (ci := 1) (v := .ref lk) (C := RX2) (T := TX2) (N := 8) hx hb hts inX2 hown hK hP 2 rfl rfl 6 (by decide) (hts _ mw_434) (fun _ h9 => h9) rfl dX8_houseThere_11 ?_
  refine va_get (D := (dC, dI)) (ci := 4) (v := .int kd9) (C := RX5) (T := TX5) (N := 6) hx hb hts inX5 hown hK hP 3 rfl rfl 0 (by decide) (hts _ mw_383) (fun _ h9 => h9) rfl dX8_houseThere_14 ?_
  refine lv_bipush (v := 6) hx hb dX8_houseThere_17 (by decide) ?_
  refine lv_icmp_ne (tgt := 30) hx hb dX8_houseThere_19 (by decide) (fun c_1 => ?_) (fun c_1 => ?_)
  · have c_1 : ¬ kd9.toInt = 6 := zc_ne rfl (by decide) c_1
    refine lv_null hx hb dX8_houseThere_30 ?_
    have hP9 := hP.sub (ws' := [(oc7 sh (.ref fa) (nI ft)), (oq fa cF 200 FA), (oc1 fe rk9 wd9 tw9 pa9 pb9 (.ref lo) (.ref lk) fm9), (oc4 lk kd9 st9 .null gb9 jt9 we9)]) [0, 1, 2, 3] rfl
    have hD9 := hD.sub (ws' := [(oc7 sh (.ref fa) (nI ft)), (oq fa cF 200 FA), (oc1 fe rk9 wd9 tw9 pa9 pb9 (.ref lo) (.ref lk) fm9), (oc4 lk kd9 st9 .null gb9 jt9 we9)]) [0, 1, 2, 3] (by decide) rfl
    rw [hQ9]
    exact W.aret hx hb hr (Or.inl ⟨_, rfl⟩) (Or.inl rfl) (fun t ht hW => ⟨⟨rfl, by rw [ht]; exact hP9, hD9⟩, hS.F ht⟩) hS.2.2 dX8_houseThere_31
  · have c_1 : kd9.toInt = 6 := zc_eq rfl (by decide) c_1
    refine lv_aload_n hx hb dX8_houseThere_22 rfl (lv_at hl 1 rfl) ?_
    refine lv_iload_n hx hb dX8_houseThere_23 rfl (lv_at hl 2 rfl) ?_
    have hPc := hP.sub (ws' := [(oc7 sh (.ref fa) (nI ft)), (oq fa cF 200 FA), (oc1 fe rk9 wd9 tw9 pa9 pb9 (.ref lo) (.ref lk) fm9), (oc4 lk kd9 st9 .null gb9 jt9 we9)]) [0, 1, 2, 3] rfl
    have hDc := hD.sub (ws' := [(oc7 sh (.ref fa) (nI ft)), (oq fa cF 200 FA), (oc1 fe rk9 wd9 tw9 pa9 pb9 (.ref lo) (.ref lk) fm9), (oc4 lk kd9 st9 .null gb9 jt9 we9)]) [0, 1, 2, 3] (by decide) rfl
    have hFc := va_free (wc := [(oc7 sh (.ref fa) (nI ft)), (oq fa cF 200 FA), (oc1 fe rk9 wd9 tw9 pa9 pb9 (.ref lo) (.ref lk) fm9), (oc4 lk kd9 st9 .null gb9 jt9 we9)]) hD hS hA [0, 1, 2, 3] rfl
    refine zcall (st1 := [.null]) (va_runV (As := [.int (nI i)]) (rest := []) ⟨hx, hb, hml, hown, hts⟩ (k_Sheet_rowThere_tv l dC dI cI cZ cF H.size sh fa ft FA i fe lo rk9 wd9 tw9 pa9 pb9 lk kd9 st9 gb9 jt9 we9 fm9 (by omega) (by omega) (hFA)) (cwV 1 hts (zz_gV mw_987 mw_613 mw_614 mw_100 mc_yX8_rowThere) rfl rfl rfl (by decide +kernel) ⟨Nat.le_of_ble_eq_true rfl, Nat.le_of_ble_eq_true rfl⟩) (zPV2 (q0 := 0) (ci := 7) hPc hDc hK hXN rfl rfl) rfl rfl hl.1 rfl (lv_room (Nat.le_of_ble_eq_true rfl)) dX8_houseThere_24 ⟨Nat.le_of_ble_eq_true rfl, Nat.le_of_ble_eq_true rfl⟩) hS hFc hFc rfl (fun t H1 locs ht hB hk1 hS => ?_)
    obtain ⟨hP1, hD1⟩ := hB
    rw [ht] at hP1
    obtain ⟨hP, hD⟩ := va_join (wr := []) (w1 := [(oc7 sh (.ref fa) (nI ft)), (oq fa cF 200 FA), (oc1 fe rk9 wd9 tw9 pa9 pb9 (.ref lo) (.ref lk) fm9), (oc4 lk kd9 st9 .null gb9 jt9 we9)]) hP hD [0, 1, 2, 3] [] rfl rfl (by decide) (by decide) hk1 hFc hP1 hD1
    clear hk1 hPc hDc hFc hP1 hD1 ht
    generalize H1 = H at hP hS ⊢
    have hP : va_P (dC, dI) classes [(oc7 sh (.ref fa) (nI ft)), (oq fa cF 200 FA), (oc1 fe rk9 wd9 tw9 pa9 pb9 (.ref lo) (.ref lk) fm9), (oc4 lk kd9 st9 .null gb9 jt9 we9)] H := hP
    have hD : va_D A [(oc7 sh (.ref fa) (nI ft)), (oq fa cF 200 FA), (oc1 fe rk9 wd9 tw9 pa9 pb9 (.ref lo) (.ref lk) fm9), (oc4 lk kd9 st9 .null gb9 jt9 we9)] := hD
    refine lv_goto (tgt := 31) hx hb dX8_houseThere_27 (by decide) ?_
    have hP9 := hP.sub (ws' := [(oc7 sh (.ref fa) (nI ft)), (oq fa cF 200 FA), (oc1 fe rk9 wd9 tw9 pa9 pb9 (.ref lo) (.ref lk) fm9), (oc4 lk kd9 st9 .null gb9 jt9 we9)]) [0, 1, 2, 3] rfl
    have hD9 := hD.sub (ws' := [(oc7 sh (.ref fa) (nI ft)), (oq fa cF 200 FA), (oc1 fe rk9 wd9 tw9 pa9 pb9 (.ref lo) (.ref lk) fm9), (oc4 lk kd9 st9 .null gb9 jt9 we9)]) [0, 1, 2, 3] (by decide) rfl
    rw [hQ9]
    exact W.aret hx hb hr (Or.inl ⟨_, rfl⟩) (Or.inl rfl) (fun t ht hW => ⟨⟨rfl, by rw [ht]; exact hP9, hD9⟩, hS.F ht⟩) hS.2.2 dX8_houseThere_31
set_option maxHeartbeats 4000000 in
set_option maxRecDepth 100000 in
theorem k_isSmallHouse (l : Launch) (dC : Nat → ClassId) (dI : Nat → Nat → Nat) (cI cZ cF : ClassId) (sz : Nat) (x : Nat) (sh : Nat) (lw : Nat) (ro : Nat) (bq : Nat) (bp : Nat) (dq : Nat) (dp : Nat) (lv : Nat) (sl : Nat) (sd : Int32) (ul : Int32) (su : Int32) (ds : Int32) (fa : Nat) (ft : Nat) (FA : Nat → Option Nat) (i9 : Nat) (le9 : Int32) (L : List Nat) (f : Nat → va_E) (kd : Nat → Int32) (st : Nat → Int32) (tn : Nat → Int32) (mn : Nat → Int32) (cx : Nat → Int32) (cy : Nat → Int32) (rk : Nat → Int32) (wd : Nat → Int32) (tw : Nat → Int32) (pa : Nat → Int32) (pb : Nat → Int32) (gb : Nat → Int32) (it : Nat → Int32) (h200 : ft ≤ 200) (hi9 : i9 < ft) (hva : ∀ q, q < ft → vwA cI L f FA rk wd tw pa pb kd st gb it tn mn cx cy q) (hok : okA ft st tn kd mn cx cy) : Met l yX10_isSmallHouse (.code yX10_isSmallHouse cX10_isSmallHouse 4 (some .boolean) :: ws0) ({ frames := 3, cells := 0, slots := 0, locals := 65 } : Room) (va_Pc [.ref x, .int (nI i9), .int le9] (zPre (dC, dI) classes (zTy cI cZ cF) ([(oc8 x (.ref sh) (.ref lw) (.ref ro) (.ref bq) (.ref bp) (.ref dq) (.ref dp) (.ref lv) (.ref sl) ds sd ul su), (oc7 sh (.ref fa) (nI ft)), (oq fa cF 200 FA)] ++ va_pl L f) sz zXN)) (zQ (some (.int (pI (smF ft st tn kd mn cx cy le9.toInt i9)))) (fun t => va_P (dC, dI) classes ([(oc8 x (.ref sh) (.ref lw) (.ref ro) (.ref bq) (.ref bp) (.ref dq) (.ref dp) (.ref lv) (.ref sl) ds sd ul su), (oc7 sh (.ref fa) (nI ft)), (oq fa cF 200 FA)] ++ va_pl L f) t.heap ∧ va_D (va_A ([(oc8 x (.ref sh) (.ref lw) (.ref ro) (.ref bq) (.ref bp) (.ref dq) (.ref dp) (.ref lv) (.ref sl) ds sd ul su), (oc7 sh (.ref fa) (nI ft)), (oq fa cF 200 FA)] ++ va_pl L f) sz) ([(oc8 x (.ref sh) (.ref lw) (.ref ro) (.ref bq) (.ref bp) (.ref dq) (.ref dp) (.ref lv) (.ref sl) ds sd ul su), (oc7 sh (.ref fa) (nI ft)), (oq fa cF 200 FA)] ++ va_pl L f)) (va_A ([(oc8 x (.ref sh) (.ref lw) (.ref ro) (.ref bq) (.ref bp) (.ref dq) (.ref dp) (.ref lv) (.ref sl) ds sd ul su), (oc7 sh (.ref fa) (nI ft)), (oq fa cF 200 FA)] ++ va_pl L f) sz)) 0 0 (va_A ([(oc8 x (.ref sh) (.ref lw) (.ref ro) (.ref bq) (.ref bp) (.ref dq) (.ref dp) (.ref lv) (.ref sl) ds sd ul su), (oc7 sh (.ref fa) (nI ft)), (oq fa cF 200 FA)] ++ va_pl L f) sz) := by
  refine Met.ofW (cc := cX10_isSmallHouse) (maxL := 4) (ret := (some .boolean)) (by decide) rfl ?_
  intro p e s m args below meth c s₁ B hml hv
  obtain ⟨rfl, hsz, hP, hK, hD0, hXN⟩ := hv
  have hx := B.exec
  have hb := B.bytes
  have hr := B.returns
  have hts0 := atoms_spec (ws := .code yX10_isSmallHouse cX10_isSmallHouse 4 (some .boolean) :: ws0) B.pre
  have hts : ∀ w9 ∈ ws0, w9.before ([.ref x, .int (nI i9), .int le9] : List Value).toArray s = true := fun w9 h => hts0 w9 (List.mem_cons_of_mem _ h)
  have hown : s.vm.findClass "ScaleShop" = some m.cls := findClass_of_methodNamed B.named
  have hlocks := B.notSynchronized
  subst hsz
  have hD := hD0.self (sz := s.heap.size)
  clear hD0
  generalize hAe : va_A ([(oc8 x (.ref sh) (.ref lw) (.ref ro) (.ref bq) (.ref bp) (.ref dq) (.ref dp) (.ref lv) (.ref sl) ds sd ul su), (oc7 sh (.ref fa) (nI ft)), (oq fa cF 200 FA)] ++ va_pl L f) s.heap.size = A at hD ⊢
  have hA : ∀ q : Nat, s.heap.size ≤ q → A q := fun q h => by rw [← hAe]; exact Or.inr h
  clear hAe
  have hS : va_S A s.heap s.heap [] := va_S.rf
  have hP : va_P (dC, dI) classes ([(oc8 x (.ref sh) (.ref lw) (.ref ro) (.ref bq) (.ref bp) (.ref dq) (.ref dp) (.ref lv) (.ref sl) ds sd ul su), (oc7 sh (.ref fa) (nI ft)), (oq fa cF 200 FA)] ++ va_pl L f) s.heap := hP
  obtain ⟨Q9, hQ9⟩ : ∃ Q9 : State → Prop, Q9 = MQ below (zQ (some (.int (pI (smF ft st tn kd mn cx cy le9.toInt i9)))) (fun t => va_P (dC, dI) classes ([(oc8 x (.ref sh) (.ref lw) (.ref ro) (.ref bq) (.ref bp) (.ref dq) (.ref dp) (.ref lv) (.ref sl) ds sd ul su), (oc7 sh (.ref fa) (nI ft)), (oq fa cF 200 FA)] ++ va_pl L f) t.heap ∧ va_D A ([(oc8 x (.ref sh) (.ref lw) (.ref ro) (.ref bq) (.ref bp) (.ref dq) (.ref dp) (.ref lv) (.ref sl) ds sd ul su), (oc7 sh (.ref fa) (nI ft)), (oq fa cF 200 FA)] ++ va_pl L f)) A) ([.ref x, .int (nI i9), .int le9] : List Value).toArray s 0 0 A := ⟨_, rfl⟩
  rw [← hQ9]
  have hl := lv_entry ([.ref x, .int (nI i9), .int le9]) (n := 4) (Nat.le_of_ble_eq_true rfl)
  rw [lg_entry_eq]
  generalize (lg_sl ([.ref x, .int (nI i9), .int le9]) ++ List.replicate (4 - (lg_sl ([.ref x, .int (nI i9), .int le9])).length) Slot.unset).toArray = ls at hl ⊢
  have hl : lv_has ls 4 [(0, .ref x), (1, .int (nI i9)), (2, .int le9)] := hl
  rcases vwA_3 (P9 := ((st i9).toInt = 1 ∧ (kd i9).toInt = 6)) (hva i9 (by omega)) with ⟨ht2, fe2, lk2, lo2, we2, fm2, hFA2, hfe2, hlk2⟩ | ⟨ht2, hA2, fe2, lk2, lo2, we2, fm2, r2, rx2, ry2, cap2, U2, V2, rg2, hFA2, hfe2, hlk2, ⟨hr2, hrx2, hry2, hne2⟩, hrr2⟩ | ⟨ht2, hA2, fe2, lk2, lo2, we2, fm2, r2, rx2, ry2, cap2, U2, V2, rg2, hFA2, hfe2, hlk2, ⟨hr2, hrx2, hry2, hne2⟩, hrr2⟩
  · skip
    have hc9_1 : inPl L f [(oc1 fe2 (rk i9) (wd i9) (tw i9) (pa i9) (pb i9) (.ref lo2) (.ref lk2) fm2), (oc4 lk2 (kd i9) (st i9) .null (gb i9) (it i9) we2)] := ⟨hfe2, hlk2, trivial⟩
    have hD0_1 := hD
    obtain ⟨hP, hD⟩ := pl_out hP hD [(oc1 fe2 (rk i9) (wd i9) (tw i9) (pa i9) (pb i9) (.ref lo2) (.ref lk2) fm2), (oc4 lk2 (kd i9) (st i9) .null (gb i9) (it i9) we2)] hc9_1 (pwF hfe2.2 hlk2.2)
    generalize hT_1 : outPl L [(oc1 fe2 (rk i9) (wd i9) (tw i9) (pa i9) (pb i9) (.ref lo2) (.ref lk2) fm2), (oc4 lk2 (kd i9) (st i9) .null (gb i9) (it i9) we2)] = T_1 at hP hD
    have hP : va_P (dC, dI) classes ([(oc8 x (.ref sh) (.ref lw) (.ref ro) (.ref bq) (.ref bp) (.ref dq) (.ref dp) (.ref lv) (.ref sl) ds sd ul su), (oc7 sh (.ref fa) (nI ft)), (oq fa cF 200 FA), (oc1 fe2 (rk i9) (wd i9) (tw i9) (pa i9) (pb i9) (.ref lo2) (.ref lk2) fm2), (oc4 lk2 (kd i9) (st i9) .null (gb i9) (it i9) we2)] ++ va_pl T_1 f) s.heap := hP
    have hD : va_D A ([(oc8 x (.ref sh) (.ref lw) (.ref ro) (.ref bq) (.ref bp) (.ref dq) (.ref dp) (.ref lv) (.ref sl) ds sd ul su), (oc7 sh (.ref fa) (nI ft)), (oq fa cF 200 FA), (oc1 fe2 (rk i9) (wd i9) (tw i9) (pa i9) (pb i9) (.ref lo2) (.ref lk2) fm2), (oc4 lk2 (kd i9) (st i9) .null (gb i9) (it i9) we2)] ++ va_pl T_1 f) := hD
    refine lv_aload_n hx hb dX10_isSmallHouse_0 rfl (lv_at hl 0 rfl) ?_
    refine va_get (D := (dC, dI)) (ci := 8) (v := .ref sh) (C := RX10) (T := TX10) (N := 13) hx hb hts inX10 hown hK hP 0 rfl rfl 0 (by decide) (hts _ mw_309) (fun _ h9 => h9) rfl dX10_isSmallHouse_1 ?_
    refine lv_iload_n hx hb dX10_isSmallHouse_4 rfl (lv_at hl 1 rfl) ?_
    have hPc := hP.sub (ws' := [(oc7 sh (.ref fa) (nI ft)), (oq fa cF 200 FA), (oc1 fe2 (rk i9) (wd i9) (tw i9) (pa i9) (pb i9) (.ref lo2) (.ref lk2) fm2), (oc4 lk2 (kd i9) (st i9) .null (gb i9) (it i9) we2)]) [1, 2, 3, 4] rfl
    have hDc := hD.sub (ws' := [(oc7 sh (.ref fa) (nI ft)), (oq fa cF 200 FA), (oc1 fe2 (rk i9) (wd i9) (tw i9) (pa i9) (pb i9) (.ref lo2) (.ref lk2) fm2), (oc4 lk2 (kd i9) (st i9) .null (gb i9) (it i9) we2)]) [1, 2, 3, 4] (by decide) rfl
    have hFc := va_free (wc := [(oc7 sh (.ref fa) (nI ft)), (oq fa cF 200 FA), (oc1 fe2 (rk i9) (wd i9) (tw i9) (pa i9) (pb i9) (.ref lo2) (.ref lk2) fm2), (oc4 lk2 (kd i9) (st i9) .null (gb i9) (it i9) we2)]) hD hS hA [1, 2, 3, 4] rfl
    refine zcall (st1 := [.null]) (va_runV (As := [.int (nI i9)]) (rest := []) ⟨hx, hb, hml, hown, hts⟩ (k_Sheet_houseThere_tv l dC dI cI cZ cF s.heap.size sh fa ft FA i9 fe2 lo2 (rk i9) (wd i9) (tw i9) (pa i9) (pb i9) lk2 (kd i9) (st i9) (gb i9) (it i9) we2 fm2 (by omega) (by omega) (hFA2)) (cwV 1 hts (zz_gV mw_983 mw_984 mw_985 mw_100 mc_yX8_houseThere) rfl rfl rfl (by decide +kernel) ⟨Nat.le_of_ble_eq_true rfl, Nat.le_of_ble_eq_true rfl⟩) (zPV2 (q0 := 0) (ci := 7) hPc hDc hK hXN rfl rfl) rfl rfl hl.1 rfl (lv_room (Nat.le_of_ble_eq_true rfl)) dX10_isSmallHouse_5 ⟨Nat.le_of_ble_eq_true rfl, Nat.le_of_ble_eq_true rfl⟩) hS hFc hFc rfl (fun t H1 locs ht hB hk1 hS => ?_)
    obtain ⟨hP1, hD1⟩ := hB
    rw [ht] at hP1
    obtain ⟨hP, hD⟩ := va_joinQ (wr := [(oc8 x (.ref sh) (.ref lw) (.ref ro) (.ref bq) (.ref bp) (.ref dq) (.ref dp) (.ref lv) (.ref sl) ds sd ul su)]) (w1 := [(oc7 sh (.ref fa) (nI ft)), (oq fa cF 200 FA), (oc1 fe2 (rk i9) (wd i9) (tw i9) (pa i9) (pb i9) (.ref lo2) (.ref lk2) fm2), (oc4 lk2 (kd i9) (st i9) .null (gb i9) (it i9) we2)]) hP hD [1, 2, 3, 4] [0] rfl rfl (by decide) (by decide) hk1 hFc hP1 hD1
    clear hk1 hPc hDc hFc hP1 hD1 ht
    generalize H1 = H at hP hS ⊢
    have hP : va_P (dC, dI) classes ([(oc8 x (.ref sh) (.ref lw) (.ref ro) (.ref bq) (.ref bp) (.ref dq) (.ref dp) (.ref lv) (.ref sl) ds sd ul su), (oc7 sh (.ref fa) (nI ft)), (oq fa cF 200 FA), (oc1 fe2 (rk i9) (wd i9) (tw i9) (pa i9) (pb i9) (.ref lo2) (.ref lk2) fm2), (oc4 lk2 (kd i9) (st i9) .null (gb i9) (it i9) we2)] ++ va_pl T_1 f) H := hP
    have hD : va_D A ([(oc8 x (.ref sh) (.ref lw) (.ref ro) (.ref bq) (.ref bp) (.ref dq) (.ref dp) (.ref lv) (.ref sl) ds sd ul su), (oc7 sh (.ref fa) (nI ft)), (oq fa cF 200 FA), (oc1 fe2 (rk i9) (wd i9) (tw i9) (pa i9) (pb i9) (.ref lo2) (.ref lk2) fm2), (oc4 lk2 (kd i9) (st i9) .null (gb i9) (it i9) we2)] ++ va_pl T_1 f) := hD
    refine lv_astore_nN (lv' := [(3, .null), (0, .ref x), (1, .int (nI i9)), (2, .int le9)]) hx hb dX10_isSmallHouse_8 rfl hl (by decide) rfl (fun ls hl => ?_)
    refine lv_aload_nN hx hb dX10_isSmallHouse_9 rfl (lv_at hl 0 rfl) ?_
    refine lv_ifnullN (tgt := 25) hx hb dX10_isSmallHouse_10 (by decide) ?_
    refine lv_iconst (v := 0) hx hb dX10_isSmallHouse_25 (by decide) ?_
    have hP := pl_back (cs := [(oc1 fe2 (rk i9) (wd i9) (tw i9) (pa i9) (pb i9) (.ref lo2) (.ref lk2) fm2), (oc4 lk2 (kd i9) (st i9) .null (gb i9) (it i9) we2)]) (L := L) (f := f) (X := [(oc8 x (.ref sh) (.ref lw) (.ref ro) (.ref bq) (.ref bp) (.ref dq) (.ref dp) (.ref lv) (.ref sl) ds sd ul su), (oc7 sh (.ref fa) (nI ft)), (oq fa cF 200 FA)]) (by rw [hT_1]; exact (show va_P (dC, dI) classes (([(oc8 x (.ref sh) (.ref lw) (.ref ro) (.ref bq) (.ref bp) (.ref dq) (.ref dp) (.ref lv) (.ref sl) ds sd ul su), (oc7 sh (.ref fa) (nI ft)), (oq fa cF 200 FA)] ++ [(oc1 fe2 (rk i9) (wd i9) (tw i9) (pa i9) (pb i9) (.ref lo2) (.ref lk2) fm2), (oc4 lk2 (kd i9) (st i9) .null (gb i9) (it i9) we2)]) ++ va_pl T_1 f) H from hP)) hc9_1
    have hD : va_D A ([(oc8 x (.ref sh) (.ref lw) (.ref ro) (.ref bq) (.ref bp) (.ref dq) (.ref dp) (.ref lv) (.ref sl) ds sd ul su), (oc7 sh (.ref fa) (nI ft)), (oq fa cF 200 FA)] ++ va_pl L f) := vaD_ae hD0_1 rfl
    have hP9 := hP.part (cx := [(oc8 x (.ref sh) (.ref lw) (.ref ro) (.ref bq) (.ref bp) (.ref dq) (.ref dp) (.ref lv) (.ref sl) ds sd ul su), (oc7 sh (.ref fa) (nI ft)), (oq fa cF 200 FA)]) [0, 1, 2] rfl
    have hD9 := hD.part (cx := [(oc8 x (.ref sh) (.ref lw) (.ref ro) (.ref bq) (.ref bp) (.ref dq) (.ref dp) (.ref lv) (.ref sl) ds sd ul su), (oc7 sh (.ref fa) (nI ft)), (oq fa cF 200 FA)]) [0, 1, 2] (by decide) rfl
    rw [hQ9]
    exact W.zret (ty := .boolean) (v := 0) hx hb hr (rfl) (fun t ht hW => ⟨⟨congrArg (fun z => Outcome.returned (some (Value.int z))) (show (0 : Int32) = pI (smF ft st tn kd mn cx cy le9.toInt i9) from (zp_f (by first | exact ⟨hlv2, hA2.2, by have e9 := ar2_cg hrr2.2.2.2.2 _ (Nat.le_refl _); unfold arF; rw [← e9]; omega⟩ | exact fun h => by first | exact absurd h.1.2.2 ht2 | exact absurd ⟨h.1.2.1, h.2.1⟩ hA2 | (have e9 := ar2_cg hrr2.2.2.2.2 _ (Nat.le_refl _); have h9 := h.2.2; unfold arF at h9; rw [← e9] at h9; omega))).symm), by rw [ht]; exact hP9, hD9⟩, hS.F ht⟩) hS.2.2 dX10_isSmallHouse_26
  · skip
    have hcap2 := hrr2.1
    have hcap3 := hrr2.2.1
    have hlv2 : lvF ft st tn i9 := ⟨by omega, hA2.1, ht2⟩
    have hw2 := (hok i9 hlv2).1
    have hq2 := rw_pls hrr2 hw2
    have hn2 := hw2.2.1
    have hab2 := ar2B hq2 _ (Nat.le_refl _)
    have hc9_1 : inPl L f [(oc1 fe2 (rk i9) (wd i9) (tw i9) (pa i9) (pb i9) (.ref lo2) (.ref lk2) fm2), (oc4 lk2 (kd i9) (st i9) (.ref r2) (gb i9) (it i9) we2), (oc6 r2 (.ref rx2) (.ref ry2) (nI (nN (mn i9))) rg2), (oa rx2 cI cap2 U2), (oa ry2 cI cap2 V2)] := ⟨hfe2, hlk2, hr2, hrx2, hry2, trivial⟩
    have hD0_1 := hD
    obtain ⟨hP, hD⟩ := pl_out hP hD [(oc1 fe2 (rk i9) (wd i9) (tw i9) (pa i9) (pb i9) (.ref lo2) (.ref lk2) fm2), (oc4 lk2 (kd i9) (st i9) (.ref r2) (gb i9) (it i9) we2), (oc6 r2 (.ref rx2) (.ref ry2) (nI (nN (mn i9))) rg2), (oa rx2 cI cap2 U2), (oa ry2 cI cap2 V2)] hc9_1 (pwR hfe2.2 hlk2.2 hr2.2 hrx2.2 hry2.2 hne2)
    generalize hT_1 : outPl L [(oc1 fe2 (rk i9) (wd i9) (tw i9) (pa i9) (pb i9) (.ref lo2) (.ref lk2) fm2), (oc4 lk2 (kd i9) (st i9) (.ref r2) (gb i9) (it i9) we2), (oc6 r2 (.ref rx2) (.ref ry2) (nI (nN (mn i9))) rg2), (oa rx2 cI cap2 U2), (oa ry2 cI cap2 V2)] = T_1 at hP hD
    have hP : va_P (dC, dI) classes ([(oc8 x (.ref sh) (.ref lw) (.ref ro) (.ref bq) (.ref bp) (.ref dq) (.ref dp) (.ref lv) (.ref sl) ds sd ul su), (oc7 sh (.ref fa) (nI ft)), (oq fa cF 200 FA), (oc1 fe2 (rk i9) (wd i9) (tw i9) (pa i9) (pb i9) (.ref lo2) (.ref lk2) fm2), (oc4 lk2 (kd i9) (st i9) (.ref r2) (gb i9) (it i9) we2), (oc6 r2 (.ref rx2) (.ref ry2) (nI (nN (mn i9))) rg2), (oa rx2 cI cap2 U2), (oa ry2 cI cap2 V2)] ++ va_pl T_1 f) s.heap := hP
    have hD : va_D A ([(oc8 x (.ref sh) (.ref lw) (.ref ro) (.ref bq) (.ref bp) (.ref dq) (.ref dp) (.ref lv) (.ref sl) ds sd ul su), (oc7 sh (.ref fa) (nI ft)), (oq fa cF 200 FA), (oc1 fe2 (rk i9) (wd i9) (tw i9) (pa i9) (pb i9) (.ref lo2) (.ref lk2) fm2), (oc4 lk2 (kd i9) (st i9) (.ref r2) (gb i9) (it i9) we2), (oc6 r2 (.ref rx2) (.ref ry2) (nI (nN (mn i9))) rg2), (oa rx2 cI cap2 U2), (oa ry2 cI cap2 V2)] ++ va_pl T_1 f) := hD
    refine lv_aload_n hx hb dX10_isSmallHouse_0 rfl (lv_at hl 0 rfl) ?_
    refine va_get (D := (dC, dI)) (ci := 8) (v := .ref sh) (C := RX10) (T := TX10) (N := 13) hx hb hts inX10 hown hK hP 0 rfl rfl 0 (by decide) (hts _ mw_309) (fun _ h9 => h9) rfl dX10_isSmallHouse_1 ?_
    refine lv_iload_n hx hb dX10_isSmallHouse_4 rfl (lv_at hl 1 rfl) ?_
    have hPc := hP.sub (ws' := [(oc7 sh (.ref fa) (nI ft)), (oq fa cF 200 FA), (oc1 fe2 (rk i9) (wd i9) (tw i9) (pa i9) (pb i9) (.ref lo2) (.ref lk2) fm2), (oc4 lk2 (kd i9) (st i9) (.ref r2) (gb i9) (it i9) we2)]) [1, 2, 3, 4] rfl
    have hDc := hD.sub (ws' := [(oc7 sh (.ref fa) (nI ft)), (oq fa cF 200 FA), (oc1 fe2 (rk i9) (wd i9) (tw i9) (pa i9) (pb i9) (.ref lo2) (.ref lk2) fm2), (oc4 lk2 (kd i9) (st i9) (.ref r2) (gb i9) (it i9) we2)]) [1, 2, 3, 4] (by decide) rfl
    have hFc := va_free (wc := [(oc7 sh (.ref fa) (nI ft)), (oq fa cF 200 FA), (oc1 fe2 (rk i9) (wd i9) (tw i9) (pa i9) (pb i9) (.ref lo2) (.ref lk2) fm2), (oc4 lk2 (kd i9) (st i9) (.ref r2) (gb i9) (it i9) we2)]) hD hS hA [1, 2, 3, 4] rfl
    refine zcall (st1 := [.ref r2]) (va_runV (As := [.int (nI i9)]) (rest := []) ⟨hx, hb, hml, hown, hts⟩ (k_Sheet_houseThere_yv l dC dI cI cZ cF s.heap.size sh fa ft FA i9 fe2 lo2 (rk i9) (wd i9) (tw i9) (pa i9) (pb i9) lk2 (kd i9) (st i9) (gb i9) (it i9) we2 r2 fm2 (by omega) (by omega) (hFA2) (by first | exact hA2.1 | exact hA2) (hA2.2)) (cwV 1 hts (zz_gV mw_983 mw_984 mw_985 mw_100 mc_yX8_houseThere) rfl rfl rfl (by decide +kernel) ⟨Nat.le_of_ble_eq_true rfl, Nat.le_of_ble_eq_true rfl⟩) (zPV2 (q0 := 0) (ci := 7) hPc hDc hK hXN rfl rfl) rfl rfl hl.1 rfl (lv_room (Nat.le_of_ble_eq_true rfl)) dX10_isSmallHouse_5 ⟨Nat.le_of_ble_eq_true rfl, Nat.le_of_ble_eq_true rfl⟩) hS hFc hFc rfl (fun t H1 locs ht hB hk1 hS => ?_)
    obtain ⟨hP1, hD1⟩ := hB
    rw [ht] at hP1
    obtain ⟨hP, hD⟩ := va_joinQ (wr := [(oc8 x (.ref sh) (.ref lw) (.ref ro) (.ref bq) (.ref bp) (.ref dq) (.ref dp) (.ref lv) (.ref sl) ds sd ul su), (oc6 r2 (.ref rx2) (.ref ry2) (nI (nN (mn i9))) rg2), (oa rx2 cI cap2 U2), (oa ry2 cI cap2 V2)]) (w1 := [(oc7 sh (.ref fa) (nI ft)), (oq fa cF 200 FA), (oc1 fe2 (rk i9) (wd i9) (tw i9) (pa i9) (pb i9) (.ref lo2) (.ref lk2) fm2), (oc4 lk2 (kd i9) (st i9) (.ref r2) (gb i9) (it i9) we2)]) hP hD [1, 2, 3, 4] [0, 5, 6, 7] rfl rfl (by decide) (by decide) hk1 hFc hP1 hD1
    clear hk1 hPc hDc hFc hP1 hD1 ht
    generalize H1 = H at hP hS ⊢
    have hP := hP.part (cx := [(oc8 x (.ref sh) (.ref lw) (.ref ro) (.ref bq) (.ref bp) (.ref dq) (.ref dp) (.ref lv) (.ref sl) ds sd ul su), (oc7 sh (.ref fa) (nI ft)), (oq fa cF 200 FA), (oc1 fe2 (rk i9) (wd i9) (tw i9) (pa i9) (pb i9) (.ref lo2) (.ref lk2) fm2), (oc4 lk2 (kd i9) (st i9) (.ref r2) (gb i9) (it i9) we2), (oc6 r2 (.ref rx2) (.ref ry2) (nI (nN (mn i9))) rg2), (oa rx2 cI cap2 U2), (oa ry2 cI cap2 V2)]) [0, 4, 5, 6, 7, 1, 2, 3] rfl
    have hD := hD.part (cx := [(oc8 x (.ref sh) (.ref lw) (.ref ro) (.ref bq) (.ref bp) (.ref dq) (.ref dp) (.ref lv) (.ref sl) ds sd ul su), (oc7 sh (.ref fa) (nI ft)), (oq fa cF 200 FA), (oc1 fe2 (rk i9) (wd i9) (tw i9) (pa i9) (pb i9) (.ref lo2) (.ref lk2) fm2), (oc4 lk2 (kd i9) (st i9) (.ref r2) (gb i9) (it i9) we2), (oc6 r2 (.ref rx2) (.ref ry2) (nI (nN (mn i9))) rg2), (oa rx2 cI cap2 U2), (oa ry2 cI cap2 V2)]) [0, 4, 5, 6, 7, 1, 2, 3] (by decide) rfl
    have hP : va_P (dC, dI) classes ([(oc8 x (.ref sh) (.ref lw) (.ref ro) (.ref bq) (.ref bp) (.ref dq) (.ref dp) (.ref lv) (.ref sl) ds sd ul su), (oc7 sh (.ref fa) (nI ft)), (oq fa cF 200 FA), (oc1 fe2 (rk i9) (wd i9) (tw i9) (pa i9) (pb i9) (.ref lo2) (.ref lk2) fm2), (oc4 lk2 (kd i9) (st i9) (.ref r2) (gb i9) (it i9) we2), (oc6 r2 (.ref rx2) (.ref ry2) (nI (nN (mn i9))) rg2), (oa rx2 cI cap2 U2), (oa ry2 cI cap2 V2)] ++ va_pl T_1 f) H := hP
    have hD : va_D A ([(oc8 x (.ref sh) (.ref lw) (.ref ro) (.ref bq) (.ref bp) (.ref dq) (.ref dp) (.ref lv) (.ref sl) ds sd ul su), (oc7 sh (.ref fa) (nI ft)), (oq fa cF 200 FA), (oc1 fe2 (rk i9) (wd i9) (tw i9) (pa i9) (pb i9) (.ref lo2) (.ref lk2) fm2), (oc4 lk2 (kd i9) (st i9) (.ref r2) (gb i9) (it i9) we2), (oc6 r2 (.ref rx2) (.ref ry2) (nI (nN (mn i9))) rg2), (oa rx2 cI cap2 U2), (oa ry2 cI cap2 V2)] ++ va_pl T_1 f) := hD
    refine lv_astore_n (lv' := [(3, .ref r2), (0, .ref x), (1, .int (nI i9)), (2, .int le9)]) hx hb dX10_isSmallHouse_8 rfl hl (by decide) rfl (fun ls hl => ?_)
    refine lv_aload_n hx hb dX10_isSmallHouse_9 rfl (lv_at hl 0 rfl) ?_
    refine lv_ifnull hx hb dX10_isSmallHouse_10 ?_
    refine lv_aload_n hx hb dX10_isSmallHouse_13 rfl (lv_at hl 0 rfl) ?_
    have hPc := hP.sub (ws' := [(oc6 r2 (.ref rx2) (.ref ry2) (nI (nN (mn i9))) rg2), (oa rx2 cI cap2 U2), (oa ry2 cI cap2 V2)]) [5, 6, 7] rfl
    have hDc := hD.sub (ws' := [(oc6 r2 (.ref rx2) (.ref ry2) (nI (nN (mn i9))) rg2), (oa rx2 cI cap2 U2), (oa ry2 cI cap2 V2)]) [5, 6, 7] (by decide) rfl
    have hFc := va_free (wc := [(oc6 r2 (.ref rx2) (.ref ry2) (nI (nN (mn i9))) rg2), (oa rx2 cI cap2 U2), (oa ry2 cI cap2 V2)]) hD hS hA [5, 6, 7] rfl
    refine zcall (st1 := [.int (nI (Int.natAbs (ar2 (nN (mn i9)) U2 V2 (nN (mn i9)))))]) (va_runV (As := []) (rest := []) ⟨hx, hb, hml, hown, hts⟩ (k_Row_doubleArea l dC dI cI cZ cF H.size r2 rx2 ry2 (nN (mn i9)) cap2 U2 V2 rg2 (by omega) (by omega) (hq2)) (cwV 0 hts (zz_gV mw_917 mw_918 mw_919 mw_102 mc_yX7_doubleArea) rfl rfl rfl (by decide +kernel) ⟨Nat.le_of_ble_eq_true rfl, Nat.le_of_ble_eq_true rfl⟩) (zPV2 (q0 := 0) (ci := 6) hPc hDc hK hXN rfl rfl) rfl rfl hl.1 rfl (lv_room (Nat.le_of_ble_eq_true rfl)) dX10_isSmallHouse_14 ⟨Nat.le_of_ble_eq_true rfl, Nat.le_of_ble_eq_true rfl⟩) hS hFc hFc rfl (fun t H1 locs ht hB hk1 hS => ?_)
    obtain ⟨hP1, hD1⟩ := hB
    rw [ht] at hP1
    obtain ⟨hP, hD⟩ := va_joinQ (wr := [(oc8 x (.ref sh) (.ref lw) (.ref ro) (.ref bq) (.ref bp) (.ref dq) (.ref dp) (.ref lv) (.ref sl) ds sd ul su), (oc7 sh (.ref fa) (nI ft)), (oq fa cF 200 FA), (oc1 fe2 (rk i9) (wd i9) (tw i9) (pa i9) (pb i9) (.ref lo2) (.ref lk2) fm2), (oc4 lk2 (kd i9) (st i9) (.ref r2) (gb i9) (it i9) we2)]) (w1 := [(oc6 r2 (.ref rx2) (.ref ry2) (nI (nN (mn i9))) rg2), (oa rx2 cI cap2 U2), (oa ry2 cI cap2 V2)]) hP hD [5, 6, 7] [0, 1, 2, 3, 4] rfl rfl (by decide) (by decide) hk1 hFc hP1 hD1
    clear hk1 hPc hDc hFc hP1 hD1 ht
    generalize H1 = H at hP hS ⊢
    have hP : va_P (dC, dI) classes ([(oc8 x (.ref sh) (.ref lw) (.ref ro) (.ref bq) (.ref bp) (.ref dq) (.ref dp) (.ref lv) (.ref sl) ds sd ul su), (oc7 sh (.ref fa) (nI ft)), (oq fa cF 200 FA), (oc1 fe2 (rk i9) (wd i9) (tw i9) (pa i9) (pb i9) (.ref lo2) (.ref lk2) fm2), (oc4 lk2 (kd i9) (st i9) (.ref r2) (gb i9) (it i9) we2), (oc6 r2 (.ref rx2) (.ref ry2) (nI (nN (mn i9))) rg2), (oa rx2 cI cap2 U2), (oa ry2 cI cap2 V2)] ++ va_pl T_1 f) H := hP
    have hD : va_D A ([(oc8 x (.ref sh) (.ref lw) (.ref ro) (.ref bq) (.ref bp) (.ref dq) (.ref dp) (.ref lv) (.ref sl) ds sd ul su), (oc7 sh (.ref fa) (nI ft)), (oq fa cF 200 FA), (oc1 fe2 (rk i9) (wd i9) (tw i9) (pa i9) (pb i9) (.ref lo2) (.ref lk2) fm2), (oc4 lk2 (kd i9) (st i9) (.ref r2) (gb i9) (it i9) we2), (oc6 r2 (.ref rx2) (.ref ry2) (nI (nN (mn i9))) rg2), (oa rx2 cI cap2 U2), (oa ry2 cI cap2 V2)] ++ va_pl T_1 f) := hD
    refine lv_iload_n hx hb dX10_isSmallHouse_17 rfl (lv_at hl 3 rfl) ?_
    refine lv_icmp_ge (tgt := 25) hx hb dX10_isSmallHouse_18 (by decide) (fun c_1 => ?_) (fun c_1 => ?_)
    · have c_1 : le9.toInt ≤ ((Int.natAbs (ar2 (nN (mn i9)) U2 V2 (nN (mn i9))) : Nat) : Int) := zc_le rfl (nI_toInt (by omega)) c_1
      refine lv_iconst (v := 0) hx hb dX10_isSmallHouse_25 (by decide) ?_
      have hP := pl_back (cs := [(oc1 fe2 (rk i9) (wd i9) (tw i9) (pa i9) (pb i9) (.ref lo2) (.ref lk2) fm2), (oc4 lk2 (kd i9) (st i9) (.ref r2) (gb i9) (it i9) we2), (oc6 r2 (.ref rx2) (.ref ry2) (nI (nN (mn i9))) rg2), (oa rx2 cI cap2 U2), (oa ry2 cI cap2 V2)]) (L := L) (f := f) (X := [(oc8 x (.ref sh) (.ref lw) (.ref ro) (.ref bq) (.ref bp) (.ref dq) (.ref dp) (.ref lv) (.ref sl) ds sd ul su), (oc7 sh (.ref fa) (nI ft)), (oq fa cF 200 FA)]) (by rw [hT_1]; exact (show va_P (dC, dI) classes (([(oc8 x (.ref sh) (.ref lw) (.ref ro) (.ref bq) (.ref bp) (.ref dq) (.ref dp) (.ref lv) (.ref sl) ds sd ul su), (oc7 sh (.ref fa) (nI ft)), (oq fa cF 200 FA)] ++ [(oc1 fe2 (rk i9) (wd i9) (tw i9) (pa i9) (pb i9) (.ref lo2) (.ref lk2) fm2), (oc4 lk2 (kd i9) (st i9) (.ref r2) (gb i9) (it i9) we2), (oc6 r2 (.ref rx2) (.ref ry2) (nI (nN (mn i9))) rg2), (oa rx2 cI cap2 U2), (oa ry2 cI cap2 V2)]) ++ va_pl T_1 f) H from hP)) hc9_1
      have hD : va_D A ([(oc8 x (.ref sh) (.ref lw) (.ref ro) (.ref bq) (.ref bp) (.ref dq) (.ref dp) (.ref lv) (.ref sl) ds sd ul su), (oc7 sh (.ref fa) (nI ft)), (oq fa cF 200 FA)] ++ va_pl L f) := vaD_ae hD0_1 rfl
      have hP9 := hP.part (cx := [(oc8 x (.ref sh) (.ref lw) (.ref ro) (.ref bq) (.ref bp) (.ref dq) (.ref dp) (.ref lv) (.ref sl) ds sd ul su), (oc7 sh (.ref fa) (nI ft)), (oq fa cF 200 FA)]) [0, 1, 2] rfl
      have hD9 := hD.part (cx := [(oc8 x (.ref sh) (.ref lw) (.ref ro) (.ref bq) (.ref bp) (.ref dq) (.ref dp) (.ref lv) (.ref sl) ds sd ul su), (oc7 sh (.ref fa) (nI ft)), (oq fa cF 200 FA)]) [0, 1, 2] (by decide) rfl
      rw [hQ9]
      exact W.zret (ty := .boolean) (v := 0) hx hb hr (rfl) (fun t ht hW => ⟨⟨congrArg (fun z => Outcome.returned (some (Value.int z))) (show (0 : Int32) = pI (smF ft st tn kd mn cx cy le9.toInt i9) from (zp_f (by first | exact ⟨hlv2, hA2.2, by have e9 := ar2_cg hrr2.2.2.2.2 _ (Nat.le_refl _); unfold arF; rw [← e9]; omega⟩ | exact fun h => by first | exact absurd h.1.2.2 ht2 | exact absurd ⟨h.1.2.1, h.2.1⟩ hA2 | (have e9 := ar2_cg hrr2.2.2.2.2 _ (Nat.le_refl _); have h9 := h.2.2; unfold arF at h9; rw [← e9] at h9; omega))).symm), by rw [ht]; exact hP9, hD9⟩, hS.F ht⟩) hS.2.2 dX10_isSmallHouse_26
    · have c_1 : ((Int.natAbs (ar2 (nN (mn i9)) U2 V2 (nN (mn i9))) : Nat) : Int) < le9.toInt := zc_nle rfl (nI_toInt (by omega)) c_1
      refine lv_iconst (v := 1) hx hb dX10_isSmallHouse_21 (by decide) ?_
      refine lv_goto (tgt := 26) hx hb dX10_isSmallHouse_22 (by decide) ?_
      have hP := pl_back (cs := [(oc1 fe2 (rk i9) (wd i9) (tw i9) (pa i9) (pb i9) (.ref lo2) (.ref lk2) fm2), (oc4 lk2 (kd i9) (st i9) (.ref r2) (gb i9) (it i9) we2), (oc6 r2 (.ref rx2) (.ref ry2) (nI (nN (mn i9))) rg2), (oa rx2 cI cap2 U2), (oa ry2 cI cap2 V2)]) (L := L) (f := f) (X := [(oc8 x (.ref sh) (.ref lw) (.ref ro) (.ref bq) (.ref bp) (.ref dq) (.ref dp) (.ref lv) (.ref sl) ds sd ul su), (oc7 sh (.ref fa) (nI ft)), (oq fa cF 200 FA)]) (by rw [hT_1]; exact (show va_P (dC, dI) classes (([(oc8 x (.ref sh) (.ref lw) (.ref ro) (.ref bq) (.ref bp) (.ref dq) (.ref dp) (.ref lv) (.ref sl) ds sd ul su), (oc7 sh (.ref fa) (nI ft)), (oq fa cF 200 FA)] ++ [(oc1 fe2 (rk i9) (wd i9) (tw i9) (pa i9) (pb i9) (.ref lo2) (.ref lk2) fm2), (oc4 lk2 (kd i9) (st i9) (.ref r2) (gb i9) (it i9) we2), (oc6 r2 (.ref rx2) (.ref ry2) (nI (nN (mn i9))) rg2), (oa rx2 cI cap2 U2), (oa ry2 cI cap2 V2)]) ++ va_pl T_1 f) H from hP)) hc9_1
      have hD : va_D A ([(oc8 x (.ref sh) (.ref lw) (.ref ro) (.ref bq) (.ref bp) (.ref dq) (.ref dp) (.ref lv) (.ref sl) ds sd ul su), (oc7 sh (.ref fa) (nI ft)), (oq fa cF 200 FA)] ++ va_pl L f) := vaD_ae hD0_1 rfl
      have hP9 := hP.part (cx := [(oc8 x (.ref sh) (.ref lw) (.ref ro) (.ref bq) (.ref bp) (.ref dq) (.ref dp) (.ref lv) (.ref sl) ds sd ul su), (oc7 sh (.ref fa) (nI ft)), (oq fa cF 200 FA)]) [0, 1, 2] rfl
      have hD9 := hD.part (cx := [(oc8 x (.ref sh) (.ref lw) (.ref ro) (.ref bq) (.ref bp) (.ref dq) (.ref dp) (.ref lv) (.ref sl) ds sd ul su), (oc7 sh (.ref fa) (nI ft)), (oq fa cF 200 FA)]) [0, 1, 2] (by decide) rfl
      rw [hQ9]
      exact W.zret (ty := .boolean) (v := 1) hx hb hr (rfl) (fun t ht hW => ⟨⟨congrArg (fun z => Outcome.returned (some (Value.int z))) (show (1 : Int32) = pI (smF ft st tn kd mn cx cy le9.toInt i9) from (zp_t (by first | exact ⟨hlv2, hA2.2, by have e9 := ar2_cg hrr2.2.2.2.2 _ (Nat.le_refl _); unfold arF; rw [← e9]; omega⟩ | exact fun h => by first | exact absurd h.1.2.2 ht2 | exact absurd ⟨h.1.2.1, h.2.1⟩ hA2 | (have e9 := ar2_cg hrr2.2.2.2.2 _ (Nat.le_refl _); have h9 := h.2.2; unfold arF at h9; rw [← e9] at h9; omega))).symm), by rw [ht]; exact hP9, hD9⟩, hS.F ht⟩) hS.2.2 dX10_isSmallHouse_26
  · skip
    have hcap2 := hrr2.1
    have hcap3 := hrr2.2.1
    have hc9_1 : inPl L f [(oc1 fe2 (rk i9) (wd i9) (tw i9) (pa i9) (pb i9) (.ref lo2) (.ref lk2) fm2), (oc4 lk2 (kd i9) (st i9) (.ref r2) (gb i9) (it i9) we2), (oc6 r2 (.ref rx2) (.ref ry2) (nI (nN (mn i9))) rg2), (oa rx2 cI cap2 U2), (oa ry2 cI cap2 V2)] := ⟨hfe2, hlk2, hr2, hrx2, hry2, trivial⟩
    have hD0_1 := hD
    obtain ⟨hP, hD⟩ := pl_out hP hD [(oc1 fe2 (rk i9) (wd i9) (tw i9) (pa i9) (pb i9) (.ref lo2) (.ref lk2) fm2), (oc4 lk2 (kd i9) (st i9) (.ref r2) (gb i9) (it i9) we2), (oc6 r2 (.ref rx2) (.ref ry2) (nI (nN (mn i9))) rg2), (oa rx2 cI cap2 U2), (oa ry2 cI cap2 V2)] hc9_1 (pwR hfe2.2 hlk2.2 hr2.2 hrx2.2 hry2.2 hne2)
    generalize hT_1 : outPl L [(oc1 fe2 (rk i9) (wd i9) (tw i9) (pa i9) (pb i9) (.ref lo2) (.ref lk2) fm2), (oc4 lk2 (kd i9) (st i9) (.ref r2) (gb i9) (it i9) we2), (oc6 r2 (.ref rx2) (.ref ry2) (nI (nN (mn i9))) rg2), (oa rx2 cI cap2 U2), (oa ry2 cI cap2 V2)] = T_1 at hP hD
    have hP : va_P (dC, dI) classes ([(oc8 x (.ref sh) (.ref lw) (.ref ro) (.ref bq) (.ref bp) (.ref dq) (.ref dp) (.ref lv) (.ref sl) ds sd ul su), (oc7 sh (.ref fa) (nI ft)), (oq fa cF 200 FA), (oc1 fe2 (rk i9) (wd i9) (tw i9) (pa i9) (pb i9) (.ref lo2) (.ref lk2) fm2), (oc4 lk2 (kd i9) (st i9) (.ref r2) (gb i9) (it i9) we2), (oc6 r2 (.ref rx2) (.ref ry2) (nI (nN (mn i9))) rg2), (oa rx2 cI cap2 U2), (oa ry2 cI cap2 V2)] ++ va_pl T_1 f) s.heap := hP
    have hD : va_D A ([(oc8 x (.ref sh) (.ref lw) (.ref ro) (.ref bq) (.ref bp) (.ref dq) (.ref dp) (.ref lv) (.ref sl) ds sd ul su), (oc7 sh (.ref fa) (nI ft)), (oq fa cF 200 FA), (oc1 fe2 (rk i9) (wd i9) (tw i9) (pa i9) (pb i9) (.ref lo2) (.ref lk2) fm2), (oc4 lk2 (kd i9) (st i9) (.ref r2) (gb i9) (it i9) we2), (oc6 r2 (.ref rx2) (.ref ry2) (nI (nN (mn i9))) rg2), (oa rx2 cI cap2 U2), (oa ry2 cI cap2 V2)] ++ va_pl T_1 f) := hD
    refine lv_aload_n hx hb dX10_isSmallHouse_0 rfl (lv_at hl 0 rfl) ?_
    refine va_get (D := (dC, dI)) (ci := 8) (v := .ref sh) (C := RX10) (T := TX10) (N := 13) hx hb hts inX10 hown hK hP 0 rfl rfl 0 (by decide) (hts _ mw_309) (fun _ h9 => h9) rfl dX10_isSmallHouse_1 ?_
    refine lv_iload_n hx hb dX10_isSmallHouse_4 rfl (lv_at hl 1 rfl) ?_
    have hPc := hP.sub (ws' := [(oc7 sh (.ref fa) (nI ft)), (oq fa cF 200 FA), (oc1 fe2 (rk i9) (wd i9) (tw i9) (pa i9) (pb i9) (.ref lo2) (.ref lk2) fm2), (oc4 lk2 (kd i9) (st i9) (.ref r2) (gb i9) (it i9) we2)]) [1, 2, 3, 4] rfl
    have hDc := hD.sub (ws' := [(oc7 sh (.ref fa) (nI ft)), (oq fa cF 200 FA), (oc1 fe2 (rk i9) (wd i9) (tw i9) (pa i9) (pb i9) (.ref lo2) (.ref lk2) fm2), (oc4 lk2 (kd i9) (st i9) (.ref r2) (gb i9) (it i9) we2)]) [1, 2, 3, 4] (by decide) rfl
    have hFc := va_free (wc := [(oc7 sh (.ref fa) (nI ft)), (oq fa cF 200 FA), (oc1 fe2 (rk i9) (wd i9) (tw i9) (pa i9) (pb i9) (.ref lo2) (.ref lk2) fm2), (oc4 lk2 (kd i9) (st i9) (.ref r2) (gb i9) (it i9) we2)]) hD hS hA [1, 2, 3, 4] rfl
    refine zcall (st1 := [.null]) (va_runV (As := [.int (nI i9)]) (rest := []) ⟨hx, hb, hml, hown, hts⟩ (k_Sheet_houseThere_sv l dC dI cI cZ cF s.heap.size sh fa ft FA i9 fe2 lo2 (rk i9) (wd i9) (tw i9) (pa i9) (pb i9) lk2 (kd i9) (st i9) (gb i9) (it i9) we2 fm2 (.ref r2) (by omega) (by omega) (hFA2) (by first | exact hA2.1 | exact hA2)) (cwV 1 hts (zz_gV mw_983 mw_984 mw_985 mw_100 mc_yX8_houseThere) rfl rfl rfl (by decide +kernel) ⟨Nat.le_of_ble_eq_true rfl, Nat.le_of_ble_eq_true rfl⟩) (zPV2 (q0 := 0) (ci := 7) hPc hDc hK hXN rfl rfl) rfl rfl hl.1 rfl (lv_room (Nat.le_of_ble_eq_true rfl)) dX10_isSmallHouse_5 ⟨Nat.le_of_ble_eq_true rfl, Nat.le_of_ble_eq_true rfl⟩) hS hFc hFc rfl (fun t H1 locs ht hB hk1 hS => ?_)
    obtain ⟨hP1, hD1⟩ := hB
    rw [ht] at hP1
    obtain ⟨hP, hD⟩ := va_joinQ (wr := [(oc8 x (.ref sh) (.ref lw) (.ref ro) (.ref bq) (.ref bp) (.ref dq) (.ref dp) (.ref lv) (.ref sl) ds sd ul su), (oc6 r2 (.ref rx2) (.ref ry2) (nI (nN (mn i9))) rg2), (oa rx2 cI cap2 U2), (oa ry2 cI cap2 V2)]) (w1 := [(oc7 sh (.ref fa) (nI ft)), (oq fa cF 200 FA), (oc1 fe2 (rk i9) (wd i9) (tw i9) (pa i9) (pb i9) (.ref lo2) (.ref lk2) fm2), (oc4 lk2 (kd i9) (st i9) (.ref r2) (gb i9) (it i9) we2)]) hP hD [1, 2, 3, 4] [0, 5, 6, 7] rfl rfl (by decide) (by decide) hk1 hFc hP1 hD1
    clear hk1 hPc hDc hFc hP1 hD1 ht
    generalize H1 = H at hP hS ⊢
    have hP := hP.part (cx := [(oc8 x (.ref sh) (.ref lw) (.ref ro) (.ref bq) (.ref bp) (.ref dq) (.ref dp) (.ref lv) (.ref sl) ds sd ul su), (oc7 sh (.ref fa) (nI ft)), (oq fa cF 200 FA), (oc1 fe2 (rk i9) (wd i9) (tw i9) (pa i9) (pb i9) (.ref lo2) (.ref lk2) fm2), (oc4 lk2 (kd i9) (st i9) (.ref r2) (gb i9) (it i9) we2), (oc6 r2 (.ref rx2) (.ref ry2) (nI (nN (mn i9))) rg2), (oa rx2 cI cap2 U2), (oa ry2 cI cap2 V2)]) [0, 4, 5, 6, 7, 1, 2, 3] rfl
    have hD := hD.part (cx := [(oc8 x (.ref sh) (.ref lw) (.ref ro) (.ref bq) (.ref bp) (.ref dq) (.ref dp) (.ref lv) (.ref sl) ds sd ul su), (oc7 sh (.ref fa) (nI ft)), (oq fa cF 200 FA), (oc1 fe2 (rk i9) (wd i9) (tw i9) (pa i9) (pb i9) (.ref lo2) (.ref lk2) fm2), (oc4 lk2 (kd i9) (st i9) (.ref r2) (gb i9) (it i9) we2), (oc6 r2 (.ref rx2) (.ref ry2) (nI (nN (mn i9))) rg2), (oa rx2 cI cap2 U2), (oa ry2 cI cap2 V2)]) [0, 4, 5, 6, 7, 1, 2, 3] (by decide) rfl
    have hP : va_P (dC, dI) classes ([(oc8 x (.ref sh) (.ref lw) (.ref ro) (.ref bq) (.ref bp) (.ref dq) (.ref dp) (.ref lv) (.ref sl) ds sd ul su), (oc7 sh (.ref fa) (nI ft)), (oq fa cF 200 FA), (oc1 fe2 (rk i9) (wd i9) (tw i9) (pa i9) (pb i9) (.ref lo2) (.ref lk2) fm2), (oc4 lk2 (kd i9) (st i9) (.ref r2) (gb i9) (it i9) we2), (oc6 r2 (.ref rx2) (.ref ry2) (nI (nN (mn i9))) rg2), (oa rx2 cI cap2 U2), (oa ry2 cI cap2 V2)] ++ va_pl T_1 f) H := hP
    have hD : va_D A ([(oc8 x (.ref sh) (.ref lw) (.ref ro) (.ref bq) (.ref bp) (.ref dq) (.ref dp) (.ref lv) (.ref sl) ds sd ul su), (oc7 sh (.ref fa) (nI ft)), (oq fa cF 200 FA), (oc1 fe2 (rk i9) (wd i9) (tw i9) (pa i9) (pb i9) (.ref lo2) (.ref lk2) fm2), (oc4 lk2 (kd i9) (st i9) (.ref r2) (gb i9) (it i9) we2), (oc6 r2 (.ref rx2) (.ref ry2) (nI (nN (mn i9))) rg2), (oa rx2 cI cap2 U2), (oa ry2 cI cap2 V2)] ++ va_pl T_1 f) := hD
    refine lv_astore_nN (lv' := [(3, .null), (0, .ref x), (1, .int (nI i9)), (2, .int le9)]) hx hb dX10_isSmallHouse_8 rfl hl (by decide) rfl (fun ls hl => ?_)
    refine lv_aload_nN hx hb dX10_isSmallHouse_9 rfl (lv_at hl 0 rfl) ?_
    refine lv_ifnullN (tgt := 25) hx hb dX10_isSmallHouse_10 (by decide) ?_
    refine lv_iconst (v := 0) hx hb dX10_isSmallHouse_25 (by decide) ?_
    have hP := pl_back (cs := [(oc1 fe2 (rk i9) (wd i9) (tw i9) (pa i9) (pb i9) (.ref lo2) (.ref lk2) fm2), (oc4 lk2 (kd i9) (st i9) (.ref r2) (gb i9) (it i9) we2), (oc6 r2 (.ref rx2) (.ref ry2) (nI (nN (mn i9))) rg2), (oa rx2 cI cap2 U2), (oa ry2 cI cap2 V2)]) (L := L) (f := f) (X := [(oc8 x (.ref sh) (.ref lw) (.ref ro) (.ref bq) (.ref bp) (.ref dq) (.ref dp) (.ref lv) (.ref sl) ds sd ul su), (oc7 sh (.ref fa) (nI ft)), (oq fa cF 200 FA)]) (by rw [hT_1]; exact (show va_P (dC, dI) classes (([(oc8 x (.ref sh) (.ref lw) (.ref ro) (.ref bq) (.ref bp) (.ref dq) (.ref dp) (.ref lv) (.ref sl) ds sd ul su), (oc7 sh (.ref fa) (nI ft)), (oq fa cF 200 FA)] ++ [(oc1 fe2 (rk i9) (wd i9) (tw i9) (pa i9) (pb i9) (.ref lo2) (.ref lk2) fm2), (oc4 lk2 (kd i9) (st i9) (.ref r2) (gb i9) (it i9) we2), (oc6 r2 (.ref rx2) (.ref ry2) (nI (nN (mn i9))) rg2), (oa rx2 cI cap2 U2), (oa ry2 cI cap2 V2)]) ++ va_pl T_1 f) H from hP)) hc9_1
    have hD : va_D A ([(oc8 x (.ref sh) (.ref lw) (.ref ro) (.ref bq) (.ref bp) (.ref dq) (.ref dp) (.ref lv) (.ref sl) ds sd ul su), (oc7 sh (.ref fa) (nI ft)), (oq fa cF 200 FA)] ++ va_pl L f) := vaD_ae hD0_1 rfl
    have hP9 := hP.part (cx := [(oc8 x (.ref sh) (.ref lw) (.ref ro) (.ref bq) (.ref bp) (.ref dq) (.ref dp) (.ref lv) (.ref sl) ds sd ul su), (oc7 sh (.ref fa) (nI ft)), (oq fa cF 200 FA)]) [0, 1, 2] rfl
    have hD9 := hD.part (cx := [(oc8 x (.ref sh) (.ref lw) (.ref ro) (.ref bq) (.ref bp) (.ref dq) (.ref dp) (.ref lv) (.ref sl) ds sd ul su), (oc7 sh (.ref fa) (nI ft)), (oq fa cF 200 FA)]) [0, 1, 2] (by decide) rfl
    rw [hQ9]
    exact W.zret (ty := .boolean) (v := 0) hx hb hr (rfl) (fun t ht hW => ⟨⟨congrArg (fun z => Outcome.returned (some (Value.int z))) (show (0 : Int32) = pI (smF ft st tn kd mn cx cy le9.toInt i9) from (zp_f (by first | exact ⟨hlv2, hA2.2, by have e9 := ar2_cg hrr2.2.2.2.2 _ (Nat.le_refl _); unfold arF; rw [← e9]; omega⟩ | exact fun h => by first | exact absurd h.1.2.2 ht2 | exact absurd ⟨h.1.2.1, h.2.1⟩ hA2 | (have e9 := ar2_cg hrr2.2.2.2.2 _ (Nat.le_refl _); have h9 := h.2.2; unfold arF at h9; rw [← e9] at h9; omega))).symm), by rw [ht]; exact hP9, hD9⟩, hS.F ht⟩) hS.2.2 dX10_isSmallHouse_26
