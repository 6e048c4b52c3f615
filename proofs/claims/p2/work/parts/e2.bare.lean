set_option maxHeartbeats 4000000 in
set_option maxRecDepth 100000 in
theorem k_Sheet_rowThere_yv (l : Launch) (dC : Nat → ClassId) (dI : Nat → Nat → Nat) (cI cZ cF : ClassId) (sz : Nat) (sh : Nat) (fa : Nat) (ft : Nat) (FA : Nat → Option Nat) (i : Nat) (fe : Nat) (lo : Nat) (rk9 : Int32) (wd9 : Int32) (tw9 : Int32) (pa9 : Int32) (pb9 : Int32) (lk : Nat) (kd9 : Int32) (st9 : Int32) (gb9 : Int32) (jt9 : Int32) (we9 : Int32) (r : Nat) (fm9 : Value) (h200 : ft ≤ 200) (hi : i < ft) (hFA : FA i = some fe) (hs1 : st9.toInt = 1) : Met l yX8_rowThere (.code yX8_rowThere cX8_rowThere 3 (some (.object "ScaleShop$Row")) :: ws0) ({ frames := 1, cells := 0, slots := 0, locals := 21 } : Room) (va_Pc [.ref sh, .int (nI i)] (zPre (dC, dI) classes (zTy cI cZ cF) [(oc7 sh (.ref fa) (nI ft)), (oq fa cF 200 FA), (oc1 fe rk9 wd9 tw9 pa9 pb9 (.ref lo) (.ref lk) fm9), (oc4 lk kd9 st9 (.ref r) gb9 jt9 we9)] sz zXN)) (zQ (some (.ref r)) (fun t => va_P (dC, dI) classes [(oc7 sh (.ref fa) (nI ft)), (oq fa cF 200 FA), (oc1 fe rk9 wd9 tw9 pa9 pb9 (.ref lo) (.ref lk) fm9), (oc4 lk kd9 st9 (.ref r) gb9 jt9 we9)] t.heap ∧ va_D (va_A [(oc7 sh (.ref fa) (nI ft)), (oq fa cF 200 FA), (oc1 fe rk9 wd9 tw9 pa9 pb9 (.ref lo) (.ref lk) fm9), (oc4 lk kd9 st9 (.ref r) gb9 jt9 we9)] sz) [(oc7 sh (.ref fa) (nI ft)), (oq fa cF 200 FA), (oc1 fe rk9 wd9 tw9 pa9 pb9 (.ref lo) (.ref lk) fm9), (oc4 lk kd9 st9 (.ref r) gb9 jt9 we9)]) (va_A [(oc7 sh (.ref fa) (nI ft)), (oq fa cF 200 FA), (oc1 fe rk9 wd9 tw9 pa9 pb9 (.ref lo) (.ref lk) fm9), (oc4 lk kd9 st9 (.ref r) gb9 jt9 we9)] sz)) 0 0 (va_A [(oc7 sh (.ref fa) (nI ft)), (oq fa cF 200 FA), (oc1 fe rk9 wd9 tw9 pa9 pb9 (.ref lo) (.ref lk) fm9), (oc4 lk kd9 st9 (.ref r) gb9 jt9 we9)] sz) := by
  refine Met.ofW (cc := cX8_rowThere) (maxL := 3) (ret := (some (.object "ScaleShop$Row"))) (by decide) rfl ?_
  intro p e s m args below meth c s₁ B hml hv
  obtain ⟨rfl, hsz, hP, hK, hD0, hXN⟩ := hv
  have hx := B.exec
  have hb := B.bytes
  have hr := B.returns
  have hts0 := atoms_spec (ws := .code yX8_rowThere cX8_rowThere 3 (some (.object "ScaleShop$Row")) :: ws0) B.pre
  have hts : ∀ w9 ∈ ws0, w9.before ([.ref sh, .int (nI i)] : List Value).toArray s = true := fun w9 h => hts0 w9 (List.mem_cons_of_mem _ h)
  have hown : s.vm.findClass "ScaleShop$Sheet" = some m.cls := findClass_of_methodNamed B.named
  have hlocks := B.notSynchronized
  subst hsz
  have hD := hD0.self (sz := s.heap.size)
  clear hD0
  generalize hAe : va_A [(oc7 sh (.ref fa) (nI ft)), (oq fa cF 200 FA), (oc1 fe rk9 wd9 tw9 pa9 pb9 (.ref lo) (.ref lk) fm9), (oc4 lk kd9 st9 (.ref r) gb9 jt9 we9)] s.heap.size = A at hD ⊢
  have hA : ∀ q : Nat, s.heap.size ≤ q → A q := fun q h => by rw [← hAe]; exact Or.inr h
  clear hAe
  have hS : va_S A s.heap s.heap [] := va_S.rf
  have hP : va_P (dC, dI) classes [(oc7 sh (.ref fa) (nI ft)), (oq fa cF 200 FA), (oc1 fe rk9 wd9 tw9 pa9 pb9 (.ref lo) (.ref lk) fm9), (oc4 lk kd9 st9 (.ref r) gb9 jt9 we9)] s.heap := hP
  obtain ⟨Q9, hQ9⟩ : ∃ Q9 : State → Prop, Q9 = MQ below (zQ (some (.ref r)) (fun t => va_P (dC, dI) classes [(oc7 sh (.ref fa) (nI ft)), (oq fa cF 200 FA), (oc1 fe rk9 wd9 tw9 pa9 pb9 (.ref lo) (.ref lk) fm9), (oc4 lk kd9 st9 (.ref r) gb9 jt9 we9)] t.heap ∧ va_D A [(oc7 sh (.ref fa) (nI ft)), (oq fa cF 200 FA), (oc1 fe rk9 wd9 tw9 pa9 pb9 (.ref lo) (.ref lk) fm9), (oc4 lk kd9 st9 (.ref r) gb9 jt9 we9)]) A) ([.ref sh, .int (nI i)] : List Value).toArray s 0 0 A := ⟨_, rfl⟩
  rw [← hQ9]
  have hl := lv_entry ([.ref sh, .int (nI i)]) (n := 3) (Nat.le_of_ble_eq_true rfl)
  rw [lg_entry_eq]
  generalize (lg_sl ([.ref sh, .int (nI i)]) ++ List.replicate (3 - (lg_sl ([.ref sh, .int (nI i)])).length) Slot.unset).toArray = ls at hl ⊢
  have hl : lv_has ls 3 [(0, .ref sh), (1, .int (nI i))] := hl
  refine lv_aload_n hx hb dX8_rowThere_0 rfl (lv_at hl 0 rfl) ?_
  refine lv_iload_n hx hb dX8_rowThere_1 rfl (lv_at hl 1 rfl) ?_
  have hPc := hP.sub (ws' := [(oc7 sh (.ref fa) (nI ft)), (oq fa cF 200 FA)]) [0, 1] rfl
  have hDc := hD.sub (ws' := [(oc7 sh (.ref fa) (nI ft)), (oq fa cF 200 FA)]) [0, 1] (by decide) rfl
  have hFc := va_free (wc := [(oc7 sh (.ref fa) (nI ft)), (oq fa cF 200 FA)]) hD hS hA [0, 1] rfl
  refine zcall (st1 := [.ref fe]) (va_runV (As := [.int (nI i)]) (rest := []) ⟨hx, hb, hml, hown, hts⟩ (k_Sheet_find l dC dI cI cZ cF s.heap.size sh fa ft FA i fe (by omega) (by omega) (hFA)) (cwV 1 hts (zz_gV mw_616 mw_499 mw_500 mw_100 mc_yX8_find) rfl rfl rfl (by decide +kernel) ⟨Nat.le_of_ble_eq_true rfl, Nat.le_of_ble_eq_true rfl⟩) (zPV2 (q0 := 0) (ci := 7) hPc hDc hK hXN rfl rfl) rfl rfl hl.1 rfl (lv_room (Nat.le_of_ble_eq_true rfl)) dX8_rowThere_2 ⟨Nat.le_of_ble_eq_true rfl, Nat.le_of_ble_eq_true rfl⟩) hS hFc hFc rfl (fun t H1 locs ht hB hk1 hS => ?_)
  obtain ⟨hP1, hD1⟩ := hB
  rw [ht] at hP1
  obtain ⟨hP, hD⟩ := va_join (wr := [(oc1 fe rk9 wd9 tw9 pa9 pb9 (.ref lo) (.ref lk) fm9), (oc4 lk kd9 st9 (.ref r) gb9 jt9 we9)]) (w1 := [(oc7 sh (.ref fa) (nI ft)), (oq fa cF 200 FA)]) hP hD [0, 1] [2, 3] rfl rfl (by decide) (by decide) hk1 hFc hP1 hD1
  clear hk1 hPc hDc hFc hP1 hD1 ht
  generalize H1 = H at hP hS ⊢
  have hP := hP.sub (ws' := [(oc7 sh (.ref fa) (nI ft)), (oq fa cF 200 FA), (oc1 fe rk9 wd9 tw9 pa9 pb9 (.ref lo) (.ref lk) fm9), (oc4 lk kd9 st9 (.ref r) gb9 jt9 we9)]) [2, 3, 0, 1] rfl
  have hD := hD.sub (ws' := [(oc7 sh (.ref fa) (nI ft)), (oq fa cF 200 FA), (oc1 fe rk9 wd9 tw9 pa9 pb9 (.ref lo) (.ref lk) fm9), (oc4 lk kd9 st9 (.ref r) gb9 jt9 we9)]) [2, 3, 0, 1] (by decide) rfl
  have hP : va_P (dC, dI) classes [(oc7 sh (.ref fa) (nI ft)), (oq fa cF 200 FA), (oc1 fe rk9 wd9 tw9 pa9 pb9 (.ref lo) (.ref lk) fm9), (oc4 lk kd9 st9 (.ref r) gb9 jt9 we9)] H := hP
  have hD : va_D A [(oc7 sh (.ref fa) (nI ft)), (oq fa cF 200 FA), (oc1 fe rk9 wd9 tw9 pa9 pb9 (.ref lo) (.ref lk) fm9), (oc4 lk kd9 st9 (.ref r) gb9 jt9 we9)] := hD
  refine lv_astore_n (lv' := [(2, .ref fe), (0, .ref sh), (1, .int (nI i))]) hx hb dX8_rowThere_5 rfl hl (by decide) rfl (fun ls hl => ?_)
  refine lv_aload_n hx hb dX8_rowThere_6 rfl (lv_at hl 0 rfl) ?_
  refine lv_ifnull hx hb dX8_rowThere_7 ?_
  refine lv_aload_n hx hb dX8_rowThere_10 rfl (lv_at hl 0 rfl) ?_
  refine va_get (D := (dC, dI)) (ci := 1) (v := .ref lk) (C := RX2) (T := TX2) (N := 8) hx hb hts inX2 hown hK hP 2 rfl rfl 6 (by decide) (hts _ mw_434) (fun _ h9 => h9) rfl dX8_rowThere_11 ?_
  refine va_get (D := (dC, dI)) (ci := 4) (v := .int st9) (C := RX5) (T := TX5) (N := 6) hx hb hts inX5 hown hK hP 3 rfl rfl 1 (by decide) (hts _ mw_387) (fun _ h9 => h9) rfl dX8_rowThere_14 ?_
  refine lv_iconst (v := 1) hx hb dX8_rowThere_17 (by decide) ?_
  refine lv_icmp_ne (tgt := 31) hx hb dX8_rowThere_18 (by decide) (fun c_1 => ?_) (fun c_1 => ?_)
  · have c_1 : ¬ st9.toInt = 1 := zc_ne rfl (by decide) c_1
    exfalso; omega
  · have c_1 : st9.toInt = 1 := zc_eq rfl (by decide) c_1
    refine lv_aload_n hx hb dX8_rowThere_21 rfl (lv_at hl 0 rfl) ?_
    refine va_get (D := (dC, dI)) (ci := 1) (v := .ref lk) (C := RX2) (T := TX2) (N := 8) hx hb hts inX2 hown hK hP 2 rfl rfl 6 (by decide) (hts _ mw_434) (fun _ h9 => h9) rfl dX8_rowThere_22 ?_
    refine va_get (D := (dC, dI)) (ci := 4) (v := .ref r) (C := RX5) (T := TX5) (N := 6) hx hb hts inX5 hown hK hP 3 rfl rfl 2 (by decide) (hts _ mw_393) (fun _ h9 => h9) rfl dX8_rowThere_25 ?_
    refine lv_goto (tgt := 32) hx hb dX8_rowThere_28 (by decide) ?_
    have hP9 := hP.sub (ws' := [(oc7 sh (.ref fa) (nI ft)), (oq fa cF 200 FA), (oc1 fe rk9 wd9 tw9 pa9 pb9 (.ref lo) (.ref lk) fm9), (oc4 lk kd9 st9 (.ref r) gb9 jt9 we9)]) [0, 1, 2, 3] rfl
    have hD9 := hD.sub (ws' := [(oc7 sh (.ref fa) (nI ft)), (oq fa cF 200 FA), (oc1 fe rk9 wd9 tw9 pa9 pb9 (.ref lo) (.ref lk) fm9), (oc4 lk kd9 st9 (.ref r) gb9 jt9 we9)]) [0, 1, 2, 3] (by decide) rfl
    rw [hQ9]
    exact W.aret hx hb hr (Or.inl ⟨_, rfl⟩) (Or.inr ⟨_, rfl⟩) (fun t ht hW => ⟨⟨rfl, by rw [ht]; exact hP9, hD9⟩, hS.F ht⟩) hS.2.2 dX8_rowThere_32
set_option maxHeartbeats 4000000 in
set_option maxRecDepth 100000 in
theorem k_Sheet_rowThere_sv (l : Launch) (dC : Nat → ClassId) (dI : Nat → Nat → Nat) (cI cZ cF : ClassId) (sz : Nat) (sh : Nat) (fa : Nat) (ft : Nat) (FA : Nat → Option Nat) (i : Nat) (fe : Nat) (lo : Nat) (rk9 : Int32) (wd9 : Int32) (tw9 : Int32) (pa9 : Int32) (pb9 : Int32) (lk : Nat) (kd9 : Int32) (st9 : Int32) (gb9 : Int32) (jt9 : Int32) (we9 : Int32) (fm9 : Value) (rw9 : Value) (h200 : ft ≤ 200) (hi : i < ft) (hFA : FA i = some fe) (hs1 : ¬ st9.toInt = 1) : Met l yX8_rowThere (.code yX8_rowThere cX8_rowThere 3 (some (.object "ScaleShop$Row")) :: ws0) ({ frames := 1, cells := 0, slots := 0, locals := 21 } : Room) (va_Pc [.ref sh, .int (nI i)] (zPre (dC, dI) classes (zTy cI cZ cF) [(oc7 sh (.ref fa) (nI ft)), (oq fa cF 200 FA), (oc1 fe rk9 wd9 tw9 pa9 pb9 (.ref lo) (.ref lk) fm9), (oc4 lk kd9 st9 rw9 gb9 jt9 we9)] sz zXN)) (zQ (some (.null)) (fun t => va_P (dC, dI) classes [(oc7 sh (.ref fa) (nI ft)), (oq fa cF 200 FA), (oc1 fe rk9 wd9 tw9 pa9 pb9 (.ref lo) (.ref lk) fm9), (oc4 lk kd9 st9 rw9 gb9 jt9 we9)] t.heap ∧ va_D (va_A [(oc7 sh (.ref fa) (nI ft)), (oq fa cF 200 FA), (oc1 fe rk9 wd9 tw9 pa9 pb9 (.ref lo) (.ref lk) fm9), (oc4 lk kd9 st9 rw9 gb9 jt9 we9)] sz) [(oc7 sh (.ref fa) (nI ft)), (oq fa cF 200 FA), (oc1 fe rk9 wd9 tw9 pa9 pb9 (.ref lo) (.ref lk) fm9), (oc4 lk kd9 st9 rw9 gb9 jt9 we9)]) (va_A [(oc7 sh (.ref fa) (nI ft)), (oq fa cF 200 FA), (oc1 fe rk9 wd9 tw9 pa9 pb9 (.ref lo) (.ref lk) fm9), (oc4 lk kd9 st9 rw9 gb9 jt9 we9)] sz)) 0 0 (va_A [(oc7 sh (.ref fa) (nI ft)), (oq fa cF 200 FA), (oc1 fe rk9 wd9 tw9 pa9 pb9 (.ref lo) (.ref lk) fm9), (oc4 lk kd9 st9 rw9 gb9 jt9 we9)] sz) := by
  refine Met.ofW (cc := cX8_rowThere) (maxL := 3) (ret := (some (.object "ScaleShop$Row"))) (by decide) rfl ?_
  intro p e s m args below meth c s₁ B hml hv
  obtain ⟨rfl, hsz, hP, hK, hD0, hXN⟩ := hv
  have hx := B.exec
  have hb := B.bytes
  have hr := B.returns
  have hts0 := atoms_spec (ws := .code yX8_rowThere cX8_rowThere 3 (some (.object "ScaleShop$Row")) :: ws0) B.pre
  have hts : ∀ w9 ∈ ws0, w9.before ([.ref sh, .int (nI i)] : List Value).toArray s = true := fun w9 h => hts0 w9 (List.mem_cons_of_mem _ h)
  have hown : s.vm.findClass "ScaleShop$Sheet" = some m.cls := findClass_of_methodNamed B.named
  have hlocks := B.notSynchronized
  subst hsz
  have hD := hD0.self (sz := s.heap.size)
  clear hD0
  generalize hAe : va_A [(oc7 sh (.ref fa) (nI ft)), (oq fa cF 200 FA), (oc1 fe rk9 wd9 tw9 pa9 pb9 (.ref lo) (.ref lk) fm9), (oc4 lk kd9 st9 rw9 gb9 jt9 we9)] s.heap.size = A at hD ⊢
  have hA : ∀ q : Nat, s.heap.size ≤ q → A q := fun q h => by rw [← hAe]; exact Or.inr h
  clear hAe
  have hS : va_S A s.heap s.heap [] := va_S.rf
  have hP : va_P (dC, dI) classes [(oc7 sh (.ref fa) (nI ft)), (oq fa cF 200 FA), (oc1 fe rk9 wd9 tw9 pa9 pb9 (.ref lo) (.ref lk) fm9), (oc4 lk kd9 st9 rw9 gb9 jt9 we9)] s.heap := hP
  obtain ⟨Q9, hQ9⟩ : ∃ Q9 : State → Prop, Q9 = MQ below (zQ (some (.null)) (fun t => va_P (dC, dI) classes [(oc7 sh (.ref fa) (nI ft)), (oq fa cF 200 FA), (oc1 fe rk9 wd9 tw9 pa9 pb9 (.ref lo) (.ref lk) fm9), (oc4 lk kd9 st9 rw9 gb9 jt9 we9)] t.heap ∧ va_D A [(oc7 sh (.ref fa) (nI ft)), (oq fa cF 200 FA), (oc1 fe rk9 wd9 tw9 pa9 pb9 (.ref lo) (.ref lk) fm9), (oc4 lk kd9 st9 rw9 gb9 jt9 we9)]) A) ([.ref sh, .int (nI i)] : List Value).toArray s 0 0 A := ⟨_, rfl⟩
  rw [← hQ9]
  have hl := lv_entry ([.ref sh, .int (nI i)]) (n := 3) (Nat.le_of_ble_eq_true rfl)
  rw [lg_entry_eq]
  generalize (lg_sl ([.ref sh, .int (nI i)]) ++ List.replicate (3 - (lg_sl ([.ref sh, .int (nI i)])).length) Slot.unset).toArray = ls at hl ⊢
  have hl : lv_has ls 3 [(0, .ref sh), (1, .int (nI i))] := hl
  refine lv_aload_n hx hb dX8_rowThere_0 rfl (lv_at hl 0 rfl) ?_
  refine lv_iload_n hx hb dX8_rowThere_1 rfl (lv_at hl 1 rfl) ?_
  have hPc := hP.sub (ws' := [(oc7 sh (.ref fa) (nI ft)), (oq fa cF 200 FA)]) [0, 1] rfl
  have hDc := hD.sub (ws' := [(oc7 sh (.ref fa) (nI ft)), (oq fa cF 200 FA)]) [0, 1] (by decide) rfl
  have hFc := va_free (wc := [(oc7 sh (.ref fa) (nI ft)), (oq fa cF 200 FA)]) hD hS hA [0, 1] rfl
  refine zcall (st1 := [.ref fe]) (va_runV (As := [.int (nI i)]) (rest := []) ⟨hx, hb, hml, hown, hts⟩ (k_Sheet_find l dC dI cI cZ cF s.heap.size sh fa ft FA i fe (by omega) (by omega) (hFA)) (cwV 1 hts (zz_gV mw_616 mw_499 mw_500 mw_100 mc_yX8_find) rfl rfl rfl (by decide +kernel) ⟨Nat.le_of_ble_eq_true rfl, Nat.le_of_ble_eq_true rfl⟩) (zPV2 (q0 := 0) (ci := 7) hPc hDc hK hXN rfl rfl) rfl rfl hl.1 rfl (lv_room (Nat.le_of_ble_eq_true rfl)) dX8_rowThere_2 ⟨Nat.le_of_ble_eq_true rfl, Nat.le_of_ble_eq_true rfl⟩) hS hFc hFc rfl (fun t H1 locs ht hB hk1 hS => ?_)
  obtain ⟨hP1, hD1⟩ := hB
  rw [ht] at hP1
  obtain ⟨hP, hD⟩ := va_join (wr := [(oc1 fe rk9 wd9 tw9 pa9 pb9 (.ref lo) (.ref lk) fm9), (oc4 lk kd9 st9 rw9 gb9 jt9 we9)]) (w1 := [(oc7 sh (.ref fa) (nI ft)), (oq fa cF 200 FA)]) hP hD [0, 1] [2, 3] rfl rfl (by decide) (by decide) hk1 hFc hP1 hD1
  clear hk1 hPc hDc hFc hP1 hD1 ht
  generalize H1 = H at hP hS ⊢
  have hP := hP.sub (ws' := [(oc7 sh (.ref fa) (nI ft)), (oq fa cF 200 FA), (oc1 fe rk9 wd9 tw9 pa9 pb9 (.ref lo) (.ref lk) fm9), (oc4 lk kd9 st9 rw9 gb9 jt9 we9)]) [2, 3, 0, 1] rfl
  have hD := hD.sub (ws' := [(oc7 sh (.ref fa) (nI ft)), (oq fa cF 200 FA), (oc1 fe rk9 wd9 tw9 pa9 pb9 (.ref lo) (.ref lk) fm9), (oc4 lk kd9 st9 rw9 gb9 jt9 we9)]) [2, 3, 0, 1] (by decide) rfl
  have hP : va_P (dC, dI) classes [(oc7 sh (.ref fa) (nI ft)), (oq fa cF 200 FA), (oc1 fe rk9 wd9 tw9 pa9 pb9 (.ref lo) (.ref lk) fm9), (oc4 lk kd9 st9 rw9 gb9 jt9 we9)] H := hP
  have hD : va_D A [(oc7 sh (.ref fa) (nI ft)), (oq fa cF 200 FA), (oc1 fe rk9 wd9 tw9 pa9 pb9 (.ref lo) (.ref lk) fm9), (oc4 lk kd9 st9 rw9 gb9 jt9 we9)] := hD
  refine lv_astore_n (lv' := [(2, .ref fe), (0, .ref sh), (1, .int (nI i))]) hx hb dX8_rowThere_5 rfl hl (by decide) rfl (fun ls hl => ?_)
  refine lv_aload_n hx hb dX8_rowThere_6 rfl (lv_at hl 0 rfl) ?_
  refine lv_ifnull hx hb dX8_rowThere_7 ?_
  refine lv_aload_n hx hb dX8_rowThere_10 rfl (lv_at hl 0 rfl) ?_
  refine va_get (D := (dC, dI)) (ci := 1) (v := .ref lk) (C := RX2) (T := TX2) (N := 8) hx hb hts inX2 hown hK hP 2 rfl rfl 6 (by decide) (hts _ mw_434) (fun _ h9 => h9) rfl dX8_rowThere_11 ?_
  refine va_get (D := (dC, dI)) (ci := 4) (v := .int st9) (C := RX5) (T := TX5) (N := 6) hx hb hts inX5 hown hK hP 3 rfl rfl 1 (by decide) (hts _ mw_387) (fun _ h9 => h9) rfl dX8_rowThere_14 ?_
  refine lv_iconst (v := 1) hx hb dX8_rowThere_17 (by decide) ?_
  refine lv_icmp_ne (tgt := 31) hx hb dX8_rowThere_18 (by decide) (fun c_1 => ?_) (fun c_1 => ?_)
  · have c_1 : ¬ st9.toInt = 1 := zc_ne rfl (by decide) c_1
    refine lv_null hx hb dX8_rowThere_31 ?_
    have hP9 := hP.sub (ws' := [(oc7 sh (.ref fa) (nI ft)), (oq fa cF 200 FA), (oc1 fe rk9 wd9 tw9 pa9 pb9 (.ref lo) (.ref lk) fm9), (oc4 lk kd9 st9 rw9 gb9 jt9 we9)]) [0, 1, 2, 3] rfl
    have hD9 := hD.sub (ws' := [(oc7 sh (.ref fa) (nI ft)), (oq fa cF 200 FA), (oc1 fe rk9 wd9 tw9 pa9 pb9 (.ref lo) (.ref lk) fm9), (oc4 lk kd9 st9 rw9 gb9 jt9 we9)]) [0, 1, 2, 3] (by decide) rfl
    rw [hQ9]
    exact W.aret hx hb hr (Or.inl ⟨_, rfl⟩) (Or.inl rfl) (fun t ht hW => ⟨⟨rfl, by rw [ht]; exact hP9, hD9⟩, hS.F ht⟩) hS.2.2 dX8_rowThere_32
  · have c_1 : st9.toInt = 1 := zc_eq rfl (by decide) c_1
    exfalso; omega
set_option maxHeartbeats 4000000 in
set_option maxRecDepth 100000 in
theorem k_Sheet_rowThere_tv (l : Launch) (dC : Nat → ClassId) (dI : Nat → Nat → Nat) (cI cZ cF : ClassId) (sz : Nat) (sh : Nat) (fa : Nat) (ft : Nat) (FA : Nat → Option Nat) (i : Nat) (fe : Nat) (lo : Nat) (rk9 : Int32) (wd9 : Int32) (tw9 : Int32) (pa9 : Int32) (pb9 : Int32) (lk : Nat) (kd9 : Int32) (st9 : Int32) (gb9 : Int32) (jt9 : Int32) (we9 : Int32) (fm9 : Value) (h200 : ft ≤ 200) (hi : i < ft) (hFA : FA i = some fe) : Met l yX8_rowThere (.code yX8_rowThere cX8_rowThere 3 (some (.object "ScaleShop$Row")) :: ws0) ({ frames := 1, cells := 0, slots := 0, locals := 21 } : Room) (va_Pc [.ref sh, .int (nI i)] (zPre (dC, dI) classes (zTy cI cZ cF) [(oc7 sh (.ref fa) (nI ft)), (oq fa cF 200 FA), (oc1 fe rk9 wd9 tw9 pa9 pb9 (.ref lo) (.ref lk) fm9), (oc4 lk kd9 st9 .null gb9 jt9 we9)] sz zXN)) (zQ (some (.null)) (fun t => va_P (dC, dI) classes [(oc7 sh (.ref fa) (nI ft)), (oq fa cF 200 FA), (oc1 fe rk9 wd9 tw9 pa9 pb9 (.ref lo) (.ref lk) fm9), (oc4 lk kd9 st9 .null gb9 jt9 we9)] t.heap ∧ va_D (va_A [(oc7 sh (.ref fa) (nI ft)), (oq fa cF 200 FA), (oc1 fe rk9 wd9 tw9 pa9 pb9 (.ref lo) (.ref lk) fm9), (oc4 lk kd9 st9 .null gb9 jt9 we9)] sz) [(oc7 sh (.ref fa) (nI ft)), (oq fa cF 200 FA), (oc1 fe rk9 wd9 tw9 pa9 pb9 (.ref lo) (.ref lk) fm9), (oc4 lk kd9 st9 .null gb9 jt9 we9)]) (va_A [(oc7 sh (.ref fa) (nI ft)), (oq fa cF 200 FA), (oc1 fe rk9 wd9 tw9 pa9 pb9 (.ref lo) (.ref lk) fm9), (oc4 lk kd9 st9 .null gb9 jt9 we9)] sz)) 0 0 (va_A [(oc7 sh (.ref fa) (nI ft)), (oq fa cF 200 FA), (oc1 fe rk9 wd9 tw9 pa9 pb9 (.ref lo) (.ref lk) fm9), (oc4 lk kd9 st9 .null gb9 jt9 we9)] sz) := by
  refine Met.ofW (cc := cX8_rowThere) (maxL := 3) (ret := (some (.object "ScaleShop$Row"))) (by decide) rfl ?_
  intro p e s m args below meth c s₁ B hml hv
  obtain ⟨rfl, hsz, hP, hK, hD0, hXN⟩ := hv
  have hx := B.exec
  have hb := B.bytes
  have hr := B.returns
  have hts0 := atoms_spec (ws := .code yX8_rowThere cX8_rowThere 3 (some (.object "ScaleShop$Row")) :: ws0) B.pre
  have hts : ∀ w9 ∈ ws0, w9.before ([.ref sh, .int (nI i)] : List Value).toArray s = true := fun w9 h => hts0 w9 (List.mem_cons_of_mem _ h)
  have hown : s.vm.findClass "ScaleShop$Sheet" = some m.cls := findClass_of_methodNamed B.named
  have hlocks := B.notSynchronized
  subst hsz
  have hD := hD0.self (sz := s.heap.size)
  clear hD0
  generalize hAe : va_A [(oc7 sh (.ref fa) (nI ft)), (oq fa cF 200 FA), (oc1 fe rk9 wd9 tw9 pa9 pb9 (.ref lo) (.ref lk) fm9), (oc4 lk kd9 st9 .null gb9 jt9 we9)] s.heap.size = A at hD ⊢
  have hA : ∀ q : Nat, s.heap.size ≤ q → A q := fun q h => by rw [← hAe]; exact Or.inr h
  clear hAe
  have hS : va_S A s.heap s.heap [] := va_S.rf
  have hP : va_P (dC, dI) classes [(oc7 sh (.ref fa) (nI ft)), (oq fa cF 200 FA), (oc1 fe rk9 wd9 tw9 pa9 pb9 (.ref lo) (.ref lk) fm9), (oc4 lk kd9 st9 .null gb9 jt9 we9)] s.heap := hP
  obtain ⟨Q9, hQ9⟩ : ∃ Q9 : State → Prop, Q9 = MQ below (zQ (some (.null)) (fun t => va_P (dC, dI) classes [(oc7 sh (.ref fa) (nI ft)), (oq fa cF 200 FA), (oc1 fe rk9 wd9 tw9 pa9 pb9 (.ref lo) (.ref lk) fm9), (oc4 lk kd9 st9 .null gb9 jt9 we9)] t.heap ∧ va_D A [(oc7 sh (.ref fa) (nI ft)), (oq fa cF 200 FA), (oc1 fe rk9 wd9 tw9 pa9 pb9 (.ref lo) (.ref lk) fm9), (oc4 lk kd9 st9 .null gb9 jt9 we9)]) A) ([.ref sh, .int (nI i)] : List Value).toArray s 0 0 A := ⟨_, rfl⟩
  rw [← hQ9]
  have hl := lv_entry ([.ref sh, .int (nI i)]) (n := 3) (Nat.le_of_ble_eq_true rfl)
  rw [lg_entry_eq]
  generalize (lg_sl ([.ref sh, .int (nI i)]) ++ List.replicate (3 - (lg_sl ([.ref sh, .int (nI i)])).length) Slot.unset).toArray = ls at hl ⊢
  have hl : lv_has ls 3 [(0, .ref sh), (1, .int (nI i))] := hl
  refine lv_aload_n hx hb dX8_rowThere_0 rfl (lv_at hl 0 rfl) ?_
  refine lv_iload_n hx hb dX8_rowThere_1 rfl (lv_at hl 1 rfl) ?_
  have hPc := hP.sub (ws' := [(oc7 sh (.ref fa) (nI ft)), (oq fa cF 200 FA)]) [0, 1] rfl
  have hDc := hD.sub (ws' := [(oc7 sh (.ref fa) (nI ft)), (oq fa cF 200 FA)]) [0, 1] (by decide) rfl
  have hFc := va_free (wc := [(oc7 sh (.ref fa) (nI ft)), (oq fa cF 200 FA)]) hD hS hA [0, 1] rfl
  refine zcall (st1 := [.ref fe]) (va_runV (As := [.int (nI i)]) (rest := []) ⟨hx, hb, hml, hown, hts⟩ (k_Sheet_find l dC dI cI cZ cF s.heap.size sh fa ft FA i fe (by omega) (by omega) (hFA)) (cwV 1 hts (zz_gV mw_616 mw_499 mw_500 mw_100 mc_yX8_find) rfl rfl rfl (by decide +kernel) ⟨Nat.le_of_ble_eq_true rfl, Nat.le_of_ble_eq_true rfl⟩) (zPV2 (q0 := 0) (ci := 7) hPc hDc hK hXN rfl rfl) rfl rfl hl.1 rfl (lv_room (Nat.le_of_ble_eq_true rfl)) dX8_rowThere_2 ⟨Nat.le_of_ble_eq_true rfl, Nat.le_of_ble_eq_true rfl⟩) hS hFc hFc rfl (fun t H1 locs ht hB hk1 hS => ?_)
  obtain ⟨hP1, hD1⟩ := hB
  rw [ht] at hP1
  obtain ⟨hP, hD⟩ := va_join (wr := [(oc1 fe rk9 wd9 tw9 pa9 pb9 (.ref lo) (.ref lk) fm9), (oc4 lk kd9 st9 .null gb9 jt9 we9)]) (w1 := [(oc7 sh (.ref fa) (nI ft)), (oq fa cF 200 FA)]) hP hD [0, 1] [2, 3] rfl rfl (by decide) (by decide) hk1 hFc hP1 hD1
  clear hk1 hPc hDc hFc hP1 hD1 ht
  generalize H1 = H at hP hS ⊢
  have hP := hP.sub (ws' := [(oc7 sh (.ref fa) (nI ft)), (oq fa cF 200 FA), (oc1 fe rk9 wd9 tw9 pa9 pb9 (.ref lo) (.ref lk) fm9), (oc4 lk kd9 st9 .null gb9 jt9 we9)]) [2, 3, 0, 1] rfl
  have hD := hD.sub (ws' := [(oc7 sh (.ref fa) (nI ft)), (oq fa cF 200 FA), (oc1 fe rk9 wd9 tw9 pa9 pb9 (.ref lo) (.ref lk) fm9), (oc4 lk kd9 st9 .null gb9 jt9 we9)]) [2, 3, 0, 1] (by decide) rfl
  have hP : va_P (dC, dI) classes [(oc7 sh (.ref fa) (nI ft)), (oq fa cF 200 FA), (oc1 fe rk9 wd9 tw9 pa9 pb9 (.ref lo) (.ref lk) fm9), (oc4 lk kd9 st9 .null gb9 jt9 we9)] H := hP
  have hD : va_D A [(oc7 sh (.ref fa) (nI ft)), (oq fa cF 200 FA), (oc1 fe rk9 wd9 tw9 pa9 pb9 (.ref lo) (.ref lk) fm9), (oc4 lk kd9 st9 .null gb9 jt9 we9)] := hD
  refine lv_astore_n (lv' := [(2, .ref fe), (0, .ref sh), (1, .int (nI i))]) hx hb dX8_rowThere_5 rfl hl (by decide) rfl (fun ls hl => ?_)
  refine lv_aload_n hx hb dX8_rowThere_6 rfl (lv_at hl 0 rfl) ?_
  refine lv_ifnull hx hb dX8_rowThere_7 ?_
  refine lv_aload_n hx hb dX8_rowThere_10 rfl (lv_at hl 0 rfl) ?_
  refine va_get (D := (dC, dI)) (ci := 1) (v := .ref lk) (C := RX2) (T := TX2) (N := 8) hx hb hts inX2 hown hK hP 2 rfl rfl 6 (by decide) (hts _ mw_434) (fun _ h9 => h9) rfl dX8_rowThere_11 ?_
  refine va_get (D := (dC, dI)) (ci := 4) (v := .int st9) (C := RX5) (T := TX5) (N := 6) hx hb hts inX5 hown hK hP 3 rfl rfl 1 (by decide) (hts _ mw_387) (fun _ h9 => h9) rfl dX8_rowThere_14 ?_
  refine lv_iconst (v := 1) hx hb dX8_rowThere_17 (by decide) ?_
  refine lv_icmp_ne (tgt := 31) hx hb dX8_rowThere_18 (by decide) (fun c_1 => ?_) (fun c_1 => ?_)
  · have c_1 : ¬ st9.toInt = 1 := zc_ne rfl (by decide) c_1
    refine lv_null hx hb dX8_rowThere_31 ?_
    have hP9 := hP.sub (ws' := [(oc7 sh (.ref fa) (nI ft)), (oq fa cF 200 FA), (oc1 fe rk9 wd9 tw9 pa9 pb9 (.ref lo) (.ref lk) fm9), (oc4 lk kd9 st9 .null gb9 jt9 we9)]) [0, 1, 2, 3] rfl
    have hD9 := hD.sub (ws' := [(oc7 sh (.ref fa) (nI ft)), (oq fa cF 200 FA), (oc1 fe rk9 wd9 tw9 pa9 pb9 (.ref lo) (.ref lk) fm9), (oc4 lk kd9 st9 .null gb9 jt9 we9)]) [0, 1, 2, 3] (by decide) rfl
    rw [hQ9]
    exact W.aret hx hb hr (Or.inl ⟨_, rfl⟩) (Or.inl rfl) (fun t ht hW => ⟨⟨rfl, by rw [ht]; exact hP9, hD9⟩, hS.F ht⟩) hS.2.2 dX8_rowThere_32
  · have c_1 : st9.toInt = 1 := zc_eq rfl (by decide) c_1
    refine lv_aload_n hx hb dX8_rowThere_21 rfl (lv_at hl 0 rfl) ?_
    refine va_get (D := (dC, dI)) (ci := 1) (v := .ref lk) (C := RX2) (T := TX2) (N := 8) hx hb hts inX2 hown hK hP 2 rfl rfl 6 (by decide) (hts _ mw_434) (fun _ h9 => h9) rfl dX8_rowThere_22 ?_
    refine va_get (D := (dC, dI)) (ci := 4) (v := .null) (C := RX5) (T := TX5) (N := 6) hx hb hts inX5 hown hK hP 3 rfl rfl 2 (by decide) (hts _ mw_393) (fun _ h9 => h9) rfl dX8_rowThere_25 ?_
    refine lv_goto (tgt := 32) hx hb dX8_rowThere_28 (by decide) ?_
    have hP9 := hP.sub (ws' := [(oc7 sh (.ref fa) (nI ft)), (oq fa cF 200 FA), (oc1 fe rk9 wd9 tw9 pa9 pb9 (.ref lo) (.ref lk) fm9), (oc4 lk kd9 st9 .null gb9 jt9 we9)]) [0, 1, 2, 3] rfl
    have hD9 := hD.sub (ws' := [(oc7 sh (.ref fa) (nI ft)), (oq fa cF 200 FA), (oc1 fe rk9 wd9 tw9 pa9 pb9 (.ref lo) (.ref lk) fm9), (oc4 lk kd9 st9 .null gb9 jt9 we9)]) [0, 1, 2, 3] (by decide) rfl
    rw [hQ9]
    exact W.aret hx hb hr (Or.inl ⟨_, rfl⟩) (Or.inl rfl) (fun t ht hW => ⟨⟨rfl, by rw [ht]; exact hP9, hD9⟩, hS.F ht⟩) hS.2.2 dX8_rowThere_32
set_option maxHeartbeats 4000000 in
set_option maxRecDepth 100000 in
theorem k_Law_isBare (l : Launch) (dC : Nat → ClassId) (dI : Nat → Nat → Nat) (cI cZ cF : ClassId) (sz : Nat) (lw : Nat) (dr : Nat) (tg : Nat) (wy : Nat) (br : Nat) (bo : Nat) (aa : Nat) (sh : Nat) (fa : Nat) (ft : Nat) (FA : Nat → Option Nat) (fe : Nat) (lo : Nat) (rk9 : Int32) (wd9 : Int32) (tw9 : Int32) (pa9 : Int32) (pb9 : Int32) (lk : Nat) (kd9 : Int32) (st9 : Int32) (gb9 : Int32) (jt9 : Int32) (we9 : Int32) (r : Nat) (f0 : Nat) (fm9 : Value) (L : List Nat) (f : Nat → va_E) (kd : Nat → Int32) (st : Nat → Int32) (tn : Nat → Int32) (mn : Nat → Int32) (cx : Nat → Int32) (cy : Nat → Int32) (px : Int32) (py : Int32) (h200 : ft ≤ 200) (hf0 : f0 < ft) (hFA : FA f0 = some fe) (hs1 : st9.toInt = 1) (hvw : ∀ q, q < ft → q ≠ f0 → vwO cI L f FA kd st tn mn cx cy q) (hwf : ∀ q, lvF ft st tn q → wfM mn cx cy q) (hkn : okN ft st tn kd mn) (hpx : pl px) (hpy : pl py) : Met l yX4_isBare (.code yX4_isBare cX4_isBare 7 (some .boolean) :: ws0) ({ frames := 3, cells := 0, slots := 0, locals := 71 } : Room) (va_Pc [.ref lw, .ref sh, .ref fe, .int px, .int py] (zPre (dC, dI) classes (zTy cI cZ cF) ([(oc3 lw (.ref dr) (.ref tg) (.ref wy) (.ref br) (.ref bo) (.ref aa)), (oc7 sh (.ref fa) (nI ft)), (oq fa cF 200 FA), (oc1 fe rk9 wd9 tw9 pa9 pb9 (.ref lo) (.ref lk) fm9), (oc4 lk kd9 st9 (.ref r) gb9 jt9 we9)] ++ va_pl L f) sz zXN)) (zQ (some (.int (pI (∀ q, q < ft → (q ≠ f0 → lvF ft st tn q → ¬ onF kd mn cx cy q px.toInt py.toInt))))) (fun t => va_P (dC, dI) classes ([(oc3 lw (.ref dr) (.ref tg) (.ref wy) (.ref br) (.ref bo) (.ref aa)), (oc7 sh (.ref fa) (nI ft)), (oq fa cF 200 FA), (oc1 fe rk9 wd9 tw9 pa9 pb9 (.ref lo) (.ref lk) fm9), (oc4 lk kd9 st9 (.ref r) gb9 jt9 we9)] ++ va_pl L f) t.heap ∧ va_D (va_A ([(oc3 lw (.ref dr) (.ref tg) (.ref wy) (.ref br) (.ref bo) (.ref aa)), (oc7 sh (.ref fa) (nI ft)), (oq fa cF 200 FA), (oc1 fe rk9 wd9 tw9 pa9 pb9 (.ref lo) (.ref lk) fm9), (oc4 lk kd9 st9 (.ref r) gb9 jt9 we9)] ++ va_pl L f) sz) ([(oc3 lw (.ref dr) (.ref tg) (.ref wy) (.ref br) (.ref bo) (.ref aa)), (oc7 sh (.ref fa) (nI ft)), (oq fa cF 200 FA), (oc1 fe rk9 wd9 tw9 pa9 pb9 (.ref lo) (.ref lk) fm9), (oc4 lk kd9 st9 (.ref r) gb9 jt9 we9)] ++ va_pl L f)) (va_A ([(oc3 lw (.ref dr) (.ref tg) (.ref wy) (.ref br) (.ref bo) (.ref aa)), (oc7 sh (.ref fa) (nI ft)), (oq fa cF 200 FA), (oc1 fe rk9 wd9 tw9 pa9 pb9 (.ref lo) (.ref lk) fm9), (oc4 lk kd9 st9 (.ref r) gb9 jt9 we9)] ++ va_pl L f) sz)) 0 0 (va_A ([(oc3 lw (.ref dr) (.ref tg) (.ref wy) (.ref br) (.ref bo) (.ref aa)), (oc7 sh (.ref fa) (nI ft)), (oq fa cF 200 FA), (oc1 fe rk9 wd9 tw9 pa9 pb9 (.ref lo) (.ref lk) fm9), (oc4 lk kd9 st9 (.ref r) gb9 jt9 we9)] ++ va_pl L f) sz) := by
  refine Met.ofW (cc := cX4_isBare) (maxL := 7) (ret := (some .boolean)) (by decide) rfl ?_
  intro p e s m args below meth c s₁ B hml hv
  obtain ⟨rfl, hsz, hP, hK, hD0, hXN⟩ := hv
  have hx := B.exec
  have hb := B.bytes
  have hr := B.returns
  have hts0 := atoms_spec (ws := .code yX4_isBare cX4_isBare 7 (some .boolean) :: ws0) B.pre
  have hts : ∀ w9 ∈ ws0, w9.before ([.ref lw, .ref sh, .ref fe, .int px, .int py] : List Value).toArray s = true := fun w9 h => hts0 w9 (List.mem_cons_of_mem _ h)
  have hown : s.vm.findClass "ScaleShop$Law" = some m.cls := findClass_of_methodNamed B.named
  have hlocks := B.notSynchronized
  subst hsz
  have hD := hD0.self (sz := s.heap.size)
  clear hD0
  generalize hAe : va_A ([(oc3 lw (.ref dr) (.ref tg) (.ref wy) (.ref br) (.ref bo) (.ref aa)), (oc7 sh (.ref fa) (nI ft)), (oq fa cF 200 FA), (oc1 fe rk9 wd9 tw9 pa9 pb9 (.ref lo) (.ref lk) fm9), (oc4 lk kd9 st9 (.ref r) gb9 jt9 we9)] ++ va_pl L f) s.heap.size = A at hD ⊢
  have hA : ∀ q : Nat, s.heap.size ≤ q → A q := fun q h => by rw [← hAe]; exact Or.inr h
  clear hAe
  have hS : va_S A s.heap s.heap [] := va_S.rf
  have hP : va_P (dC, dI) classes ([(oc3 lw (.ref dr) (.ref tg) (.ref wy) (.ref br) (.ref bo) (.ref aa)), (oc7 sh (.ref fa) (nI ft)), (oq fa cF 200 FA), (oc1 fe rk9 wd9 tw9 pa9 pb9 (.ref lo) (.ref lk) fm9), (oc4 lk kd9 st9 (.ref r) gb9 jt9 we9)] ++ va_pl L f) s.heap := hP
  obtain ⟨Q9, hQ9⟩ : ∃ Q9 : State → Prop, Q9 = MQ below (zQ (some (.int (pI (∀ q, q < ft → (q ≠ f0 → lvF ft st tn q → ¬ onF kd mn cx cy q px.toInt py.toInt))))) (fun t => va_P (dC, dI) classes ([(oc3 lw (.ref dr) (.ref tg) (.ref wy) (.ref br) (.ref bo) (.ref aa)), (oc7 sh (.ref fa) (nI ft)), (oq fa cF 200 FA), (oc1 fe rk9 wd9 tw9 pa9 pb9 (.ref lo) (.ref lk) fm9), (oc4 lk kd9 st9 (.ref r) gb9 jt9 we9)] ++ va_pl L f) t.heap ∧ va_D A ([(oc3 lw (.ref dr) (.ref tg) (.ref wy) (.ref br) (.ref bo) (.ref aa)), (oc7 sh (.ref fa) (nI ft)), (oq fa cF 200 FA), (oc1 fe rk9 wd9 tw9 pa9 pb9 (.ref lo) (.ref lk) fm9), (oc4 lk kd9 st9 (.ref r) gb9 jt9 we9)] ++ va_pl L f)) A) ([.ref lw, .ref sh, .ref fe, .int px, .int py] : List Value).toArray s 0 0 A := ⟨_, rfl⟩
  rw [← hQ9]
  have hl := lv_entry ([.ref lw, .ref sh, .ref fe, .int px, .int py]) (n := 7) (Nat.le_of_ble_eq_true rfl)
  rw [lg_entry_eq]
  generalize (lg_sl ([.ref lw, .ref sh, .ref fe, .int px, .int py]) ++ List.replicate (7 - (lg_sl ([.ref lw, .ref sh, .ref fe, .int px, .int py])).length) Slot.unset).toArray = ls at hl ⊢
  have hl : lv_has ls 7 [(0, .ref lw), (1, .ref sh), (2, .ref fe), (3, .int px), (4, .int py)] := hl
  refine lv_iconst (v := 0) hx hb dX4_isBare_0 (by decide) ?_
  refine lv_istore (lv' := [(5, .int 0), (0, .ref lw), (1, .ref sh), (2, .ref fe), (3, .int px), (4, .int py)]) hx hb dX4_isBare_1 hl (by decide) rfl (fun ls hl => ?_)
  have hl_3 : ∀ (n9 : Nat) (g5 : Nat) (H : Heap) (locs : List Loc) (ls : Array Slot), ft - g5 < n9 → (g5 ≤ ft) → (∀ q, q < g5 → (q ≠ f0 → lvF ft st tn q → ¬ onF kd mn cx cy q px.toInt py.toInt)) → va_P (dC, dI) classes ([(oc3 lw (.ref dr) (.ref tg) (.ref wy) (.ref br) (.ref bo) (.ref aa)), (oc7 sh (.ref fa) (nI ft)), (oq fa cF 200 FA), (oc1 fe rk9 wd9 tw9 pa9 pb9 (.ref lo) (.ref lk) fm9), (oc4 lk kd9 st9 (.ref r) gb9 jt9 we9)] ++ va_pl L f) H → va_D A ([(oc3 lw (.ref dr) (.ref tg) (.ref wy) (.ref br) (.ref bo) (.ref aa)), (oc7 sh (.ref fa) (nI ft)), (oq fa cF 200 FA), (oc1 fe rk9 wd9 tw9 pa9 pb9 (.ref lo) (.ref lk) fm9), (oc4 lk kd9 st9 (.ref r) gb9 jt9 we9)] ++ va_pl L f) → va_S A s.heap H locs → lv_has ls 7 [(5, .int (nI g5)), (0, .ref lw), (1, .ref sh), (2, .ref fe), (3, .int px), (4, .int py)] → W p l e ((headSpec (.code yX4_isBare cX4_isBare 7 (some .boolean) :: ws0) ({ frames := 3, cells := 0, slots := 0, locals := 71 } : Room)).room) s m ([.ref lw, .ref sh, .ref fe, .int px, .int py] : List Value).toArray below meth c H locs 0 0 Q9 (F0 m 3 ls []) := by
    intro n9
    induction n9 with
    | zero => intro g5 H locs ls hm; exact absurd hm (Nat.not_lt_zero _)
    | succ n9 ih_3 =>
      intro g5 H locs ls hm hi hall hP hD hS hl
      refine lv_iload hx hb dX4_isBare_3 (lv_at hl 0 rfl) ?_
      refine lv_aload_n hx hb dX4_isBare_5 rfl (lv_at hl 2 rfl) ?_
      refine va_get (D := (dC, dI)) (ci := 7) (v := .int (nI ft)) (C := RX8) (T := TX8) (N := 2) hx hb hts inX8 hown hK hP 1 rfl rfl 1 (by decide) (hts _ mw_139) (fun _ h9 => h9) rfl dX4_isBare_6 ?_
      refine lv_icmp_ge (tgt := 54) hx hb dX4_isBare_9 (by decide) (fun c_1 => ?_) (fun c_1 => ?_)
      · have c_1 : ((ft : Nat) : Int) ≤ ((g5 : Nat) : Int) := zc_le (nI_toInt (by omega)) (nI_toInt (by omega)) c_1
        refine lv_iconst (v := 1) hx hb dX4_isBare_54 (by decide) ?_
        have hP9 := hP.part (cx := [(oc3 lw (.ref dr) (.ref tg) (.ref wy) (.ref br) (.ref bo) (.ref aa)), (oc7 sh (.ref fa) (nI ft)), (oq fa cF 200 FA), (oc1 fe rk9 wd9 tw9 pa9 pb9 (.ref lo) (.ref lk) fm9), (oc4 lk kd9 st9 (.ref r) gb9 jt9 we9)]) [0, 1, 2, 3, 4] rfl
        have hD9 := hD.part (cx := [(oc3 lw (.ref dr) (.ref tg) (.ref wy) (.ref br) (.ref bo) (.ref aa)), (oc7 sh (.ref fa) (nI ft)), (oq fa cF 200 FA), (oc1 fe rk9 wd9 tw9 pa9 pb9 (.ref lo) (.ref lk) fm9), (oc4 lk kd9 st9 (.ref r) gb9 jt9 we9)]) [0, 1, 2, 3, 4] (by decide) rfl
        rw [hQ9]
        exact W.zret (ty := .boolean) (v := 1) hx hb hr (rfl) (fun t ht hW => ⟨⟨congrArg (fun z => Outcome.returned (some (Value.int z))) (show (1 : Int32) = pI (∀ q, q < ft → (q ≠ f0 → lvF ft st tn q → ¬ onF kd mn cx cy q px.toInt py.toInt)) from (zp_t (fun q hq => hall q (by omega))).symm), by rw [ht]; exact hP9, hD9⟩, hS.F ht⟩) hS.2.2 dX4_isBare_55
      · have c_1 : ((g5 : Nat) : Int) < ((ft : Nat) : Int) := zc_nle (nI_toInt (by omega)) (nI_toInt (by omega)) c_1
        rcases vw4 (hvw g5) (show g5 < ft by omega) with hif | ⟨hif, hs2, fe2, lk2, lo2, rk2, wd2, tw2, pa2, pb2, gb2, jt2, we2, fm2, rw2, hFA2, hfe2, hlk2⟩ | ⟨hif, ht2, fe2, lk2, lo2, rk2, wd2, tw2, pa2, pb2, gb2, jt2, we2, fm2, hFA2, hfe2, hlk2⟩ | ⟨hif, hlv2, fe2, lk2, lo2, rk2, wd2, tw2, pa2, pb2, gb2, jt2, we2, fm2, r2, rx2, ry2, cap2, U2, V2, rg2, hFA2, hfe2, hlk2, ⟨hr2, hrx2, hry2, hne2⟩, hrr2⟩
        · skip
          have hFi : FA g5 = some fe := (by rw [hif]; exact hFA)
          refine lv_aload_n hx hb dX4_isBare_12 rfl (lv_at hl 2 rfl) ?_
          refine lv_iload hx hb dX4_isBare_13 (lv_at hl 0 rfl) ?_
          have hPc := hP.sub (ws' := [(oc7 sh (.ref fa) (nI ft)), (oq fa cF 200 FA), (oc1 fe rk9 wd9 tw9 pa9 pb9 (.ref lo) (.ref lk) fm9), (oc4 lk kd9 st9 (.ref r) gb9 jt9 we9)]) [1, 2, 3, 4] rfl
          have hDc := hD.sub (ws' := [(oc7 sh (.ref fa) (nI ft)), (oq fa cF 200 FA), (oc1 fe rk9 wd9 tw9 pa9 pb9 (.ref lo) (.ref lk) fm9), (oc4 lk kd9 st9 (.ref r) gb9 jt9 we9)]) [1, 2, 3, 4] (by decide) rfl
          have hFc := va_free (wc := [(oc7 sh (.ref fa) (nI ft)), (oq fa cF 200 FA), (oc1 fe rk9 wd9 tw9 pa9 pb9 (.ref lo) (.ref lk) fm9), (oc4 lk kd9 st9 (.ref r) gb9 jt9 we9)]) hD hS hA [1, 2, 3, 4] rfl
          refine zcall (st1 := [.ref r]) (va_runV (As := [.int (nI g5)]) (rest := []) ⟨hx, hb, hml, hown, hts⟩ (k_Sheet_rowThere_yv l dC dI cI cZ cF H.size sh fa ft FA g5 fe lo rk9 wd9 tw9 pa9 pb9 lk kd9 st9 gb9 jt9 we9 r fm9 (by omega) (by omega) (by first | exact hFi | exact hFA2) (by first | exact hs1 | exact hs2 | exact hlv2.2.1)) (cwV 1 hts (zz_gV mw_612 mw_613 mw_614 mw_100 mc_yX8_rowThere) rfl rfl rfl (by decide +kernel) ⟨Nat.le_of_ble_eq_true rfl, Nat.le_of_ble_eq_true rfl⟩) (zPV2 (q0 := 0) (ci := 7) hPc hDc hK hXN rfl rfl) rfl rfl hl.1 rfl (lv_room (Nat.le_of_ble_eq_true rfl)) dX4_isBare_15 ⟨Nat.le_of_ble_eq_true rfl, Nat.le_of_ble_eq_true rfl⟩) hS hFc hFc rfl (fun t H1 locs ht hB hk1 hS => ?_)
          obtain ⟨hP1, hD1⟩ := hB
          rw [ht] at hP1
          obtain ⟨hP, hD⟩ := va_joinQ (wr := [(oc3 lw (.ref dr) (.ref tg) (.ref wy) (.ref br) (.ref bo) (.ref aa))]) (w1 := [(oc7 sh (.ref fa) (nI ft)), (oq fa cF 200 FA), (oc1 fe rk9 wd9 tw9 pa9 pb9 (.ref lo) (.ref lk) fm9), (oc4 lk kd9 st9 (.ref r) gb9 jt9 we9)]) hP hD [1, 2, 3, 4] [0] rfl rfl (by decide) (by decide) hk1 hFc hP1 hD1
          clear hk1 hPc hDc hFc hP1 hD1 ht
          generalize H1 = H at hP hS ⊢
          have hP : va_P (dC, dI) classes ([(oc3 lw (.ref dr) (.ref tg) (.ref wy) (.ref br) (.ref bo) (.ref aa)), (oc7 sh (.ref fa) (nI ft)), (oq fa cF 200 FA), (oc1 fe rk9 wd9 tw9 pa9 pb9 (.ref lo) (.ref lk) fm9), (oc4 lk kd9 st9 (.ref r) gb9 jt9 we9)] ++ va_pl L f) H := hP
          have hD : va_D A ([(oc3 lw (.ref dr) (.ref tg) (.ref wy) (.ref br) (.ref bo) (.ref aa)), (oc7 sh (.ref fa) (nI ft)), (oq fa cF 200 FA), (oc1 fe rk9 wd9 tw9 pa9 pb9 (.ref lo) (.ref lk) fm9), (oc4 lk kd9 st9 (.ref r) gb9 jt9 we9)] ++ va_pl L f) := hD
          refine lv_astore (lv' := [(6, .ref r), (5, .int (nI g5)), (0, .ref lw), (1, .ref sh), (2, .ref fe), (3, .int px), (4, .int py)]) hx hb dX4_isBare_18 hl (by decide) rfl (fun ls hl => ?_)
          refine lv_aload hx hb dX4_isBare_20 (lv_at hl 0 rfl) ?_
          refine lv_ifnull hx hb dX4_isBare_22 ?_
          refine lv_aload_n hx hb dX4_isBare_25 rfl (lv_at hl 3 rfl) ?_
          refine lv_iload hx hb dX4_isBare_26 (lv_at hl 1 rfl) ?_
          have hPc := hP.sub (ws' := [(oc7 sh (.ref fa) (nI ft)), (oq fa cF 200 FA)]) [1, 2] rfl
          have hDc := hD.sub (ws' := [(oc7 sh (.ref fa) (nI ft)), (oq fa cF 200 FA)]) [1, 2] (by decide) rfl
          have hFc := va_free (wc := [(oc7 sh (.ref fa) (nI ft)), (oq fa cF 200 FA)]) hD hS hA [1, 2] rfl
          refine zcall (st1 := [.ref fe]) (va_runV (As := [.int (nI g5)]) (rest := []) ⟨hx, hb, hml, hown, hts⟩ (k_Sheet_find l dC dI cI cZ cF H.size sh fa ft FA g5 fe (by omega) (by omega) (by first | exact hFi | exact hFA2)) (cwV 1 hts (zz_gV mw_617 mw_499 mw_500 mw_100 mc_yX8_find) rfl rfl rfl (by decide +kernel) ⟨Nat.le_of_ble_eq_true rfl, Nat.le_of_ble_eq_true rfl⟩) (zPV2 (q0 := 0) (ci := 7) hPc hDc hK hXN rfl rfl) rfl rfl hl.1 rfl (lv_room (Nat.le_of_ble_eq_true rfl)) dX4_isBare_28 ⟨Nat.le_of_ble_eq_true rfl, Nat.le_of_ble_eq_true rfl⟩) hS hFc hFc rfl (fun t H1 locs ht hB hk1 hS => ?_)
          obtain ⟨hP1, hD1⟩ := hB
          rw [ht] at hP1
          obtain ⟨hP, hD⟩ := va_joinQ (wr := [(oc3 lw (.ref dr) (.ref tg) (.ref wy) (.ref br) (.ref bo) (.ref aa)), (oc1 fe rk9 wd9 tw9 pa9 pb9 (.ref lo) (.ref lk) fm9), (oc4 lk kd9 st9 (.ref r) gb9 jt9 we9)]) (w1 := [(oc7 sh (.ref fa) (nI ft)), (oq fa cF 200 FA)]) hP hD [1, 2] [0, 3, 4] rfl rfl (by decide) (by decide) hk1 hFc hP1 hD1
          clear hk1 hPc hDc hFc hP1 hD1 ht
          generalize H1 = H at hP hS ⊢
          have hP := hP.part (cx := [(oc3 lw (.ref dr) (.ref tg) (.ref wy) (.ref br) (.ref bo) (.ref aa)), (oc7 sh (.ref fa) (nI ft)), (oq fa cF 200 FA), (oc1 fe rk9 wd9 tw9 pa9 pb9 (.ref lo) (.ref lk) fm9), (oc4 lk kd9 st9 (.ref r) gb9 jt9 we9)]) [0, 3, 4, 1, 2] rfl
          have hD := hD.part (cx := [(oc3 lw (.ref dr) (.ref tg) (.ref wy) (.ref br) (.ref bo) (.ref aa)), (oc7 sh (.ref fa) (nI ft)), (oq fa cF 200 FA), (oc1 fe rk9 wd9 tw9 pa9 pb9 (.ref lo) (.ref lk) fm9), (oc4 lk kd9 st9 (.ref r) gb9 jt9 we9)]) [0, 3, 4, 1, 2] (by decide) rfl
          have hP : va_P (dC, dI) classes ([(oc3 lw (.ref dr) (.ref tg) (.ref wy) (.ref br) (.ref bo) (.ref aa)), (oc7 sh (.ref fa) (nI ft)), (oq fa cF 200 FA), (oc1 fe rk9 wd9 tw9 pa9 pb9 (.ref lo) (.ref lk) fm9), (oc4 lk kd9 st9 (.ref r) gb9 jt9 we9)] ++ va_pl L f) H := hP
          have hD : va_D A ([(oc3 lw (.ref dr) (.ref tg) (.ref wy) (.ref br) (.ref bo) (.ref aa)), (oc7 sh (.ref fa) (nI ft)), (oq fa cF 200 FA), (oc1 fe rk9 wd9 tw9 pa9 pb9 (.ref lo) (.ref lk) fm9), (oc4 lk kd9 st9 (.ref r) gb9 jt9 we9)] ++ va_pl L f) := hD
          refine lv_aload_n hx hb dX4_isBare_31 rfl (lv_at hl 4 rfl) ?_
          refine z_acmpeq (rx := fe) (ry := fe) (tgt := 48) hx hb dX4_isBare_32 (by decide) (fun c_2 => ?_) (fun c_2 => ?_)
          · have c_2 : fe = fe := c_2
            refine lv_iinc (v := nI (g5 + 1)) (lv' := [(5, .int (nI (g5 + 1))), (6, .ref r), (0, .ref lw), (1, .ref sh), (2, .ref fe), (3, .int px), (4, .int py)]) hx hb dX4_isBare_48 hl (k := 1) rfl (nI_add g5 1) (by decide) rfl (fun ls hl => ?_)
            refine lv_goto (tgt := 3) hx hb dX4_isBare_51 (by decide) ?_
            exact ih_3 (g5 + 1) H locs ls (by omega) (by omega) (by intro q hq; rcases Nat.lt_or_ge q g5 with h | h; exact hall q h; rw [show q = g5 by omega]; intro h1 h2; first | exact absurd hif h1 | exact absurd h2.2.1 hs2 | exact absurd h2.2.2 ht2 | assumption) hP hD hS (lv_sub hl [0, 2, 3, 4, 5, 6] rfl)
          · have c_2 : ¬ fe = fe := c_2
            exact absurd rfl c_2
        · skip
          have hc9_1 : inPl L f [(oc1 fe2 rk2 wd2 tw2 pa2 pb2 (.ref lo2) (.ref lk2) fm2), (oc4 lk2 (kd g5) (st g5) rw2 gb2 jt2 we2)] := ⟨hfe2, hlk2, trivial⟩
          have hD0_1 := hD
          obtain ⟨hP, hD⟩ := pl_out hP hD [(oc1 fe2 rk2 wd2 tw2 pa2 pb2 (.ref lo2) (.ref lk2) fm2), (oc4 lk2 (kd g5) (st g5) rw2 gb2 jt2 we2)] hc9_1 (pwF hfe2.2 hlk2.2)
          generalize hT_1 : outPl L [(oc1 fe2 rk2 wd2 tw2 pa2 pb2 (.ref lo2) (.ref lk2) fm2), (oc4 lk2 (kd g5) (st g5) rw2 gb2 jt2 we2)] = T_1 at hP hD
          have hP : va_P (dC, dI) classes ([(oc3 lw (.ref dr) (.ref tg) (.ref wy) (.ref br) (.ref bo) (.ref aa)), (oc7 sh (.ref fa) (nI ft)), (oq fa cF 200 FA), (oc1 fe rk9 wd9 tw9 pa9 pb9 (.ref lo) (.ref lk) fm9), (oc4 lk kd9 st9 (.ref r) gb9 jt9 we9), (oc1 fe2 rk2 wd2 tw2 pa2 pb2 (.ref lo2) (.ref lk2) fm2), (oc4 lk2 (kd g5) (st g5) rw2 gb2 jt2 we2)] ++ va_pl T_1 f) H := hP
          have hD : va_D A ([(oc3 lw (.ref dr) (.ref tg) (.ref wy) (.ref br) (.ref bo) (.ref aa)), (oc7 sh (.ref fa) (nI ft)), (oq fa cF 200 FA), (oc1 fe rk9 wd9 tw9 pa9 pb9 (.ref lo) (.ref lk) fm9), (oc4 lk kd9 st9 (.ref r) gb9 jt9 we9), (oc1 fe2 rk2 wd2 tw2 pa2 pb2 (.ref lo2) (.ref lk2) fm2), (oc4 lk2 (kd g5) (st g5) rw2 gb2 jt2 we2)] ++ va_pl T_1 f) := hD
          refine lv_aload_n hx hb dX4_isBare_12 rfl (lv_at hl 2 rfl) ?_
          refine lv_iload hx hb dX4_isBare_13 (lv_at hl 0 rfl) ?_
          have hPc := hP.sub (ws' := [(oc7 sh (.ref fa) (nI ft)), (oq fa cF 200 FA), (oc1 fe2 rk2 wd2 tw2 pa2 pb2 (.ref lo2) (.ref lk2) fm2), (oc4 lk2 (kd g5) (st g5) rw2 gb2 jt2 we2)]) [1, 2, 5, 6] rfl
          have hDc := hD.sub (ws' := [(oc7 sh (.ref fa) (nI ft)), (oq fa cF 200 FA), (oc1 fe2 rk2 wd2 tw2 pa2 pb2 (.ref lo2) (.ref lk2) fm2), (oc4 lk2 (kd g5) (st g5) rw2 gb2 jt2 we2)]) [1, 2, 5, 6] (by decide) rfl
          have hFc := va_free (wc := [(oc7 sh (.ref fa) (nI ft)), (oq fa cF 200 FA), (oc1 fe2 rk2 wd2 tw2 pa2 pb2 (.ref lo2) (.ref lk2) fm2), (oc4 lk2 (kd g5) (st g5) rw2 gb2 jt2 we2)]) hD hS hA [1, 2, 5, 6] rfl
          refine zcall (st1 := [.null]) (va_runV (As := [.int (nI g5)]) (rest := []) ⟨hx, hb, hml, hown, hts⟩ (k_Sheet_rowThere_sv l dC dI cI cZ cF H.size sh fa ft FA g5 fe2 lo2 rk2 wd2 tw2 pa2 pb2 lk2 (kd g5) (st g5) gb2 jt2 we2 fm2 rw2 (by omega) (by omega) (by first | exact hFi | exact hFA2) (by first | exact hs1 | exact hs2 | exact hlv2.2.1)) (cwV 1 hts (zz_gV mw_612 mw_613 mw_614 mw_100 mc_yX8_rowThere) rfl rfl rfl (by decide +kernel) ⟨Nat.le_of_ble_eq_true rfl, Nat.le_of_ble_eq_true rfl⟩) (zPV2 (q0 := 0) (ci := 7) hPc hDc hK hXN rfl rfl) rfl rfl hl.1 rfl (lv_room (Nat.le_of_ble_eq_true rfl)) dX4_isBare_15 ⟨Nat.le_of_ble_eq_true rfl, Nat.le_of_ble_eq_true rfl⟩) hS hFc hFc rfl (fun t H1 locs ht hB hk1 hS => ?_)
          obtain ⟨hP1, hD1⟩ := hB
          rw [ht] at hP1
          obtain ⟨hP, hD⟩ := va_joinQ (wr := [(oc3 lw (.ref dr) (.ref tg) (.ref wy) (.ref br) (.ref bo) (.ref aa)), (oc1 fe rk9 wd9 tw9 pa9 pb9 (.ref lo) (.ref lk) fm9), (oc4 lk kd9 st9 (.ref r) gb9 jt9 we9)]) (w1 := [(oc7 sh (.ref fa) (nI ft)), (oq fa cF 200 FA), (oc1 fe2 rk2 wd2 tw2 pa2 pb2 (.ref lo2) (.ref lk2) fm2), (oc4 lk2 (kd g5) (st g5) rw2 gb2 jt2 we2)]) hP hD [1, 2, 5, 6] [0, 3, 4] rfl rfl (by decide) (by decide) hk1 hFc hP1 hD1
          clear hk1 hPc hDc hFc hP1 hD1 ht
          generalize H1 = H at hP hS ⊢
          have hP := hP.part (cx := [(oc3 lw (.ref dr) (.ref tg) (.ref wy) (.ref br) (.ref bo) (.ref aa)), (oc7 sh (.ref fa) (nI ft)), (oq fa cF 200 FA), (oc1 fe rk9 wd9 tw9 pa9 pb9 (.ref lo) (.ref lk) fm9), (oc4 lk kd9 st9 (.ref r) gb9 jt9 we9), (oc1 fe2 rk2 wd2 tw2 pa2 pb2 (.ref lo2) (.ref lk2) fm2), (oc4 lk2 (kd g5) (st g5) rw2 gb2 jt2 we2)]) [0, 3, 4, 1, 2, 5, 6] rfl
          have hD := hD.part (cx := [(oc3 lw (.ref dr) (.ref tg) (.ref wy) (.ref br) (.ref bo) (.ref aa)), (oc7 sh (.ref fa) (nI ft)), (oq fa cF 200 FA), (oc1 fe rk9 wd9 tw9 pa9 pb9 (.ref lo) (.ref lk) fm9), (oc4 lk kd9 st9 (.ref r) gb9 jt9 we9), (oc1 fe2 rk2 wd2 tw2 pa2 pb2 (.ref lo2) (.ref lk2) fm2), (oc4 lk2 (kd g5) (st g5) rw2 gb2 jt2 we2)]) [0, 3, 4, 1, 2, 5, 6] (by decide) rfl
          have hP : va_P (dC, dI) classes ([(oc3 lw (.ref dr) (.ref tg) (.ref wy) (.ref br) (.ref bo) (.ref aa)), (oc7 sh (.ref fa) (nI ft)), (oq fa cF 200 FA), (oc1 fe rk9 wd9 tw9 pa9 pb9 (.ref lo) (.ref lk) fm9), (oc4 lk kd9 st9 (.ref r) gb9 jt9 we9), (oc1 fe2 rk2 wd2 tw2 pa2 pb2 (.ref lo2) (.ref lk2) fm2), (oc4 lk2 (kd g5) (st g5) rw2 gb2 jt2 we2)] ++ va_pl T_1 f) H := hP
          have hD : va_D A ([(oc3 lw (.ref dr) (.ref tg) (.ref wy) (.ref br) (.ref bo) (.ref aa)), (oc7 sh (.ref fa) (nI ft)), (oq fa cF 200 FA), (oc1 fe rk9 wd9 tw9 pa9 pb9 (.ref lo) (.ref lk) fm9), (oc4 lk kd9 st9 (.ref r) gb9 jt9 we9), (oc1 fe2 rk2 wd2 tw2 pa2 pb2 (.ref lo2) (.ref lk2) fm2), (oc4 lk2 (kd g5) (st g5) rw2 gb2 jt2 we2)] ++ va_pl T_1 f) := hD
          refine lv_astoreN (lv' := [(6, .null), (5, .int (nI g5)), (0, .ref lw), (1, .ref sh), (2, .ref fe), (3, .int px), (4, .int py)]) hx hb dX4_isBare_18 hl (by decide) rfl (fun ls hl => ?_)
          refine lv_aloadN hx hb dX4_isBare_20 (lv_at hl 0 rfl) ?_
          refine lv_ifnullN (tgt := 48) hx hb dX4_isBare_22 (by decide) ?_
          have hP := pl_back (cs := [(oc1 fe2 rk2 wd2 tw2 pa2 pb2 (.ref lo2) (.ref lk2) fm2), (oc4 lk2 (kd g5) (st g5) rw2 gb2 jt2 we2)]) (L := L) (f := f) (X := [(oc3 lw (.ref dr) (.ref tg) (.ref wy) (.ref br) (.ref bo) (.ref aa)), (oc7 sh (.ref fa) (nI ft)), (oq fa cF 200 FA), (oc1 fe rk9 wd9 tw9 pa9 pb9 (.ref lo) (.ref lk) fm9), (oc4 lk kd9 st9 (.ref r) gb9 jt9 we9)]) (by rw [hT_1]; exact (show va_P (dC, dI) classes (([(oc3 lw (.ref dr) (.ref tg) (.ref wy) (.ref br) (.ref bo) (.ref aa)), (oc7 sh (.ref fa) (nI ft)), (oq fa cF 200 FA), (oc1 fe rk9 wd9 tw9 pa9 pb9 (.ref lo) (.ref lk) fm9), (oc4 lk kd9 st9 (.ref r) gb9 jt9 we9)] ++ [(oc1 fe2 rk2 wd2 tw2 pa2 pb2 (.ref lo2) (.ref lk2) fm2), (oc4 lk2 (kd g5) (st g5) rw2 gb2 jt2 we2)]) ++ va_pl T_1 f) H from hP)) hc9_1
          have hD : va_D A ([(oc3 lw (.ref dr) (.ref tg) (.ref wy) (.ref br) (.ref bo) (.ref aa)), (oc7 sh (.ref fa) (nI ft)), (oq fa cF 200 FA), (oc1 fe rk9 wd9 tw9 pa9 pb9 (.ref lo) (.ref lk) fm9), (oc4 lk kd9 st9 (.ref r) gb9 jt9 we9)] ++ va_pl L f) := vaD_ad rfl hD0_1
          refine lv_iinc (v := nI (g5 + 1)) (lv' := [(5, .int (nI (g5 + 1))), (6, .null), (0, .ref lw), (1, .ref sh), (2, .ref fe), (3, .int px), (4, .int py)]) hx hb dX4_isBare_48 hl (k := 1) rfl (nI_add g5 1) (by decide) rfl (fun ls hl => ?_)
          refine lv_goto (tgt := 3) hx hb dX4_isBare_51 (by decide) ?_
          exact ih_3 (g5 + 1) H locs ls (by omega) (by omega) (by intro q hq; rcases Nat.lt_or_ge q g5 with h | h; exact hall q h; rw [show q = g5 by omega]; intro h1 h2; first | exact absurd hif h1 | exact absurd h2.2.1 hs2 | exact absurd h2.2.2 ht2 | assumption) hP hD hS (lv_sub hl [0, 2, 3, 4, 5, 6] rfl)
        · skip
          have hc9_1 : inPl L f [(oc1 fe2 rk2 wd2 tw2 pa2 pb2 (.ref lo2) (.ref lk2) fm2), (oc4 lk2 (kd g5) (st g5) .null gb2 jt2 we2)] := ⟨hfe2, hlk2, trivial⟩
          have hD0_1 := hD
          obtain ⟨hP, hD⟩ := pl_out hP hD [(oc1 fe2 rk2 wd2 tw2 pa2 pb2 (.ref lo2) (.ref lk2) fm2), (oc4 lk2 (kd g5) (st g5) .null gb2 jt2 we2)] hc9_1 (pwF hfe2.2 hlk2.2)
          generalize hT_1 : outPl L [(oc1 fe2 rk2 wd2 tw2 pa2 pb2 (.ref lo2) (.ref lk2) fm2), (oc4 lk2 (kd g5) (st g5) .null gb2 jt2 we2)] = T_1 at hP hD
          have hP : va_P (dC, dI) classes ([(oc3 lw (.ref dr) (.ref tg) (.ref wy) (.ref br) (.ref bo) (.ref aa)), (oc7 sh (.ref fa) (nI ft)), (oq fa cF 200 FA), (oc1 fe rk9 wd9 tw9 pa9 pb9 (.ref lo) (.ref lk) fm9), (oc4 lk kd9 st9 (.ref r) gb9 jt9 we9), (oc1 fe2 rk2 wd2 tw2 pa2 pb2 (.ref lo2) (.ref lk2) fm2), (oc4 lk2 (kd g5) (st g5) .null gb2 jt2 we2)] ++ va_pl T_1 f) H := hP
          have hD : va_D A ([(oc3 lw (.ref dr) (.ref tg) (.ref wy) (.ref br) (.ref bo) (.ref aa)), (oc7 sh (.ref fa) (nI ft)), (oq fa cF 200 FA), (oc1 fe rk9 wd9 tw9 pa9 pb9 (.ref lo) (.ref lk) fm9), (oc4 lk kd9 st9 (.ref r) gb9 jt9 we9), (oc1 fe2 rk2 wd2 tw2 pa2 pb2 (.ref lo2) (.ref lk2) fm2), (oc4 lk2 (kd g5) (st g5) .null gb2 jt2 we2)] ++ va_pl T_1 f) := hD
          refine lv_aload_n hx hb dX4_isBare_12 rfl (lv_at hl 2 rfl) ?_
          refine lv_iload hx hb dX4_isBare_13 (lv_at hl 0 rfl) ?_
          have hPc := hP.sub (ws' := [(oc7 sh (.ref fa) (nI ft)), (oq fa cF 200 FA), (oc1 fe2 rk2 wd2 tw2 pa2 pb2 (.ref lo2) (.ref lk2) fm2), (oc4 lk2 (kd g5) (st g5) .null gb2 jt2 we2)]) [1, 2, 5, 6] rfl
          have hDc := hD.sub (ws' := [(oc7 sh (.ref fa) (nI ft)), (oq fa cF 200 FA), (oc1 fe2 rk2 wd2 tw2 pa2 pb2 (.ref lo2) (.ref lk2) fm2), (oc4 lk2 (kd g5) (st g5) .null gb2 jt2 we2)]) [1, 2, 5, 6] (by decide) rfl
          have hFc := va_free (wc := [(oc7 sh (.ref fa) (nI ft)), (oq fa cF 200 FA), (oc1 fe2 rk2 wd2 tw2 pa2 pb2 (.ref lo2) (.ref lk2) fm2), (oc4 lk2 (kd g5) (st g5) .null gb2 jt2 we2)]) hD hS hA [1, 2, 5, 6] rfl
          refine zcall (st1 := [.null]) (va_runV (As := [.int (nI g5)]) (rest := []) ⟨hx, hb, hml, hown, hts⟩ (k_Sheet_rowThere_tv l dC dI cI cZ cF H.size sh fa ft FA g5 fe2 lo2 rk2 wd2 tw2 pa2 pb2 lk2 (kd g5) (st g5) gb2 jt2 we2 fm2 (by omega) (by omega) (by first | exact hFi | exact hFA2)) (cwV 1 hts (zz_gV mw_612 mw_613 mw_614 mw_100 mc_yX8_rowThere) rfl rfl rfl (by decide +kernel) ⟨Nat.le_of_ble_eq_true rfl, Nat.le_of_ble_eq_true rfl⟩) (zPV2 (q0 := 0) (ci := 7) hPc hDc hK hXN rfl rfl) rfl rfl hl.1 rfl (lv_room (Nat.le_of_ble_eq_true rfl)) dX4_isBare_15 ⟨Nat.le_of_ble_eq_true rfl, Nat.le_of_ble_eq_true rfl⟩) hS hFc hFc rfl (fun t H1 locs ht hB hk1 hS => ?_)
          obtain ⟨hP1, hD1⟩ := hB
          rw [ht] at hP1
          obtain ⟨hP, hD⟩ := va_joinQ (wr := [(oc3 lw (.ref dr) (.ref tg) (.ref wy) (.ref br) (.ref bo) (.ref aa)), (oc1 fe rk9 wd9 tw9 pa9 pb9 (.ref lo) (.ref lk) fm9), (oc4 lk kd9 st9 (.ref r) gb9 jt9 we9)]) (w1 := [(oc7 sh (.ref fa) (nI ft)), (oq fa cF 200 FA), (oc1 fe2 rk2 wd2 tw2 pa2 pb2 (.ref lo2) (.ref lk2) fm2), (oc4 lk2 (kd g5) (st g5) .null gb2 jt2 we2)]) hP hD [1, 2, 5, 6] [0, 3, 4] rfl rfl (by decide) (by decide) hk1 hFc hP1 hD1
          clear hk1 hPc hDc hFc hP1 hD1 ht
          generalize H1 = H at hP hS ⊢
          have hP := hP.part (cx := [(oc3 lw (.ref dr) (.ref tg) (.ref wy) (.ref br) (.ref bo) (.ref aa)), (oc7 sh (.ref fa) (nI ft)), (oq fa cF 200 FA), (oc1 fe rk9 wd9 tw9 pa9 pb9 (.ref lo) (.ref lk) fm9), (oc4 lk kd9 st9 (.ref r) gb9 jt9 we9), (oc1 fe2 rk2 wd2 tw2 pa2 pb2 (.ref lo2) (.ref lk2) fm2), (oc4 lk2 (kd g5) (st g5) .null gb2 jt2 we2)]) [0, 3, 4, 1, 2, 5, 6] rfl
          have hD := hD.part (cx := [(oc3 lw (.ref dr) (.ref tg) (.ref wy) (.ref br) (.ref bo) (.ref aa)), (oc7 sh (.ref fa) (nI ft)), (oq fa cF 200 FA), (oc1 fe rk9 wd9 tw9 pa9 pb9 (.ref lo) (.ref lk) fm9), (oc4 lk kd9 st9 (.ref r) gb9 jt9 we9), (oc1 fe2 rk2 wd2 tw2 pa2 pb2 (.ref lo2) (.ref lk2) fm2), (oc4 lk2 (kd g5) (st g5) .null gb2 jt2 we2)]) [0, 3, 4, 1, 2, 5, 6] (by decide) rfl
          have hP : va_P (dC, dI) classes ([(oc3 lw (.ref dr) (.ref tg) (.ref wy) (.ref br) (.ref bo) (.ref aa)), (oc7 sh (.ref fa) (nI ft)), (oq fa cF 200 FA), (oc1 fe rk9 wd9 tw9 pa9 pb9 (.ref lo) (.ref lk) fm9), (oc4 lk kd9 st9 (.ref r) gb9 jt9 we9), (oc1 fe2 rk2 wd2 tw2 pa2 pb2 (.ref lo2) (.ref lk2) fm2), (oc4 lk2 (kd g5) (st g5) .null gb2 jt2 we2)] ++ va_pl T_1 f) H := hP
          have hD : va_D A ([(oc3 lw (.ref dr) (.ref tg) (.ref wy) (.ref br) (.ref bo) (.ref aa)), (oc7 sh (.ref fa) (nI ft)), (oq fa cF 200 FA), (oc1 fe rk9 wd9 tw9 pa9 pb9 (.ref lo) (.ref lk) fm9), (oc4 lk kd9 st9 (.ref r) gb9 jt9 we9), (oc1 fe2 rk2 wd2 tw2 pa2 pb2 (.ref lo2) (.ref lk2) fm2), (oc4 lk2 (kd g5) (st g5) .null gb2 jt2 we2)] ++ va_pl T_1 f) := hD
          refine lv_astoreN (lv' := [(6, .null), (5, .int (nI g5)), (0, .ref lw), (1, .ref sh), (2, .ref fe), (3, .int px), (4, .int py)]) hx hb dX4_isBare_18 hl (by decide) rfl (fun ls hl => ?_)
          refine lv_aloadN hx hb dX4_isBare_20 (lv_at hl 0 rfl) ?_
          refine lv_ifnullN (tgt := 48) hx hb dX4_isBare_22 (by decide) ?_
          have hP := pl_back (cs := [(oc1 fe2 rk2 wd2 tw2 pa2 pb2 (.ref lo2) (.ref lk2) fm2), (oc4 lk2 (kd g5) (st g5) .null gb2 jt2 we2)]) (L := L) (f := f) (X := [(oc3 lw (.ref dr) (.ref tg) (.ref wy) (.ref br) (.ref bo) (.ref aa)), (oc7 sh (.ref fa) (nI ft)), (oq fa cF 200 FA), (oc1 fe rk9 wd9 tw9 pa9 pb9 (.ref lo) (.ref lk) fm9), (oc4 lk kd9 st9 (.ref r) gb9 jt9 we9)]) (by rw [hT_1]; exact (show va_P (dC, dI) classes (([(oc3 lw (.ref dr) (.ref tg) (.ref wy) (.ref br) (.ref bo) (.ref aa)), (oc7 sh (.ref fa) (nI ft)), (oq fa cF 200 FA), (oc1 fe rk9 wd9 tw9 pa9 pb9 (.ref lo) (.ref lk) fm9), (oc4 lk kd9 st9 (.ref r) gb9 jt9 we9)] ++ [(oc1 fe2 rk2 wd2 tw2 pa2 pb2 (.ref lo2) (.ref lk2) fm2), (oc4 lk2 (kd g5) (st g5) .null gb2 jt2 we2)]) ++ va_pl T_1 f) H from hP)) hc9_1
          have hD : va_D A ([(oc3 lw (.ref dr) (.ref tg) (.ref wy) (.ref br) (.ref bo) (.ref aa)), (oc7 sh (.ref fa) (nI ft)), (oq fa cF 200 FA), (oc1 fe rk9 wd9 tw9 pa9 pb9 (.ref lo) (.ref lk) fm9), (oc4 lk kd9 st9 (.ref r) gb9 jt9 we9)] ++ va_pl L f) := vaD_ad rfl hD0_1
          refine lv_iinc (v := nI (g5 + 1)) (lv' := [(5, .int (nI (g5 + 1))), (6, .null), (0, .ref lw), (1, .ref sh), (2, .ref fe), (3, .int px), (4, .int py)]) hx hb dX4_isBare_48 hl (k := 1) rfl (nI_add g5 1) (by decide) rfl (fun ls hl => ?_)
          refine lv_goto (tgt := 3) hx hb dX4_isBare_51 (by decide) ?_
          exact ih_3 (g5 + 1) H locs ls (by omega) (by omega) (by intro q hq; rcases Nat.lt_or_ge q g5 with h | h; exact hall q h; rw [show q = g5 by omega]; intro h1 h2; first | exact absurd hif h1 | exact absurd h2.2.1 hs2 | exact absurd h2.2.2 ht2 | assumption) hP hD hS (lv_sub hl [0, 2, 3, 4, 5, 6] rfl)
        · skip
          have hw2 := hwf g5 hlv2
          have hn2 := hw2.2.1
          have hq2 := rw_pls hrr2 hw2
          have hkn2 := hkn g5 hlv2
          have hcap2 := hrr2.1
          have hcap3 := hrr2.2.1
          have hc9_1 : inPl L f [(oc1 fe2 rk2 wd2 tw2 pa2 pb2 (.ref lo2) (.ref lk2) fm2), (oc4 lk2 (kd g5) (st g5) (.ref r2) gb2 jt2 we2), (oc6 r2 (.ref rx2) (.ref ry2) (nI (nN (mn g5))) rg2), (oa rx2 cI cap2 U2), (oa ry2 cI cap2 V2)] := ⟨hfe2, hlk2, hr2, hrx2, hry2, trivial⟩
          have hD0_1 := hD
          obtain ⟨hP, hD⟩ := pl_out hP hD [(oc1 fe2 rk2 wd2 tw2 pa2 pb2 (.ref lo2) (.ref lk2) fm2), (oc4 lk2 (kd g5) (st g5) (.ref r2) gb2 jt2 we2), (oc6 r2 (.ref rx2) (.ref ry2) (nI (nN (mn g5))) rg2), (oa rx2 cI cap2 U2), (oa ry2 cI cap2 V2)] hc9_1 (pwR hfe2.2 hlk2.2 hr2.2 hrx2.2 hry2.2 hne2)
          generalize hT_1 : outPl L [(oc1 fe2 rk2 wd2 tw2 pa2 pb2 (.ref lo2) (.ref lk2) fm2), (oc4 lk2 (kd g5) (st g5) (.ref r2) gb2 jt2 we2), (oc6 r2 (.ref rx2) (.ref ry2) (nI (nN (mn g5))) rg2), (oa rx2 cI cap2 U2), (oa ry2 cI cap2 V2)] = T_1 at hP hD
          have hP : va_P (dC, dI) classes ([(oc3 lw (.ref dr) (.ref tg) (.ref wy) (.ref br) (.ref bo) (.ref aa)), (oc7 sh (.ref fa) (nI ft)), (oq fa cF 200 FA), (oc1 fe rk9 wd9 tw9 pa9 pb9 (.ref lo) (.ref lk) fm9), (oc4 lk kd9 st9 (.ref r) gb9 jt9 we9), (oc1 fe2 rk2 wd2 tw2 pa2 pb2 (.ref lo2) (.ref lk2) fm2), (oc4 lk2 (kd g5) (st g5) (.ref r2) gb2 jt2 we2), (oc6 r2 (.ref rx2) (.ref ry2) (nI (nN (mn g5))) rg2), (oa rx2 cI cap2 U2), (oa ry2 cI cap2 V2)] ++ va_pl T_1 f) H := hP
          have hD : va_D A ([(oc3 lw (.ref dr) (.ref tg) (.ref wy) (.ref br) (.ref bo) (.ref aa)), (oc7 sh (.ref fa) (nI ft)), (oq fa cF 200 FA), (oc1 fe rk9 wd9 tw9 pa9 pb9 (.ref lo) (.ref lk) fm9), (oc4 lk kd9 st9 (.ref r) gb9 jt9 we9), (oc1 fe2 rk2 wd2 tw2 pa2 pb2 (.ref lo2) (.ref lk2) fm2), (oc4 lk2 (kd g5) (st g5) (.ref r2) gb2 jt2 we2), (oc6 r2 (.ref rx2) (.ref ry2) (nI (nN (mn g5))) rg2), (oa rx2 cI cap2 U2), (oa ry2 cI cap2 V2)] ++ va_pl T_1 f) := hD
          refine lv_aload_n hx hb dX4_isBare_12 rfl (lv_at hl 2 rfl) ?_
          refine lv_iload hx hb dX4_isBare_13 (lv_at hl 0 rfl) ?_
          have hPc := hP.sub (ws' := [(oc7 sh (.ref fa) (nI ft)), (oq fa cF 200 FA), (oc1 fe2 rk2 wd2 tw2 pa2 pb2 (.ref lo2) (.ref lk2) fm2), (oc4 lk2 (kd g5) (st g5) (.ref r2) gb2 jt2 we2)]) [1, 2, 5, 6] rfl
          have hDc := hD.sub (ws' := [(oc7 sh (.ref fa) (nI ft)), (oq fa cF 200 FA), (oc1 fe2 rk2 wd2 tw2 pa2 pb2 (.ref lo2) (.ref lk2) fm2), (oc4 lk2 (kd g5) (st g5) (.ref r2) gb2 jt2 we2)]) [1, 2, 5, 6] (by decide) rfl
          have hFc := va_free (wc := [(oc7 sh (.ref fa) (nI ft)), (oq fa cF 200 FA), (oc1 fe2 rk2 wd2 tw2 pa2 pb2 (.ref lo2) (.ref lk2) fm2), (oc4 lk2 (kd g5) (st g5) (.ref r2) gb2 jt2 we2)]) hD hS hA [1, 2, 5, 6] rfl
          refine zcall (st1 := [.ref r2]) (va_runV (As := [.int (nI g5)]) (rest := []) ⟨hx, hb, hml, hown, hts⟩ (k_Sheet_rowThere_yv l dC dI cI cZ cF H.size sh fa ft FA g5 fe2 lo2 rk2 wd2 tw2 pa2 pb2 lk2 (kd g5) (st g5) gb2 jt2 we2 r2 fm2 (by omega) (by omega) (by first | exact hFi | exact hFA2) (by first | exact hs1 | exact hs2 | exact hlv2.2.1)) (cwV 1 hts (zz_gV mw_612 mw_613 mw_614 mw_100 mc_yX8_rowThere) rfl rfl rfl (by decide +kernel) ⟨Nat.le_of_ble_eq_true rfl, Nat.le_of_ble_eq_true rfl⟩) (zPV2 (q0 := 0) (ci := 7) hPc hDc hK hXN rfl rfl) rfl rfl hl.1 rfl (lv_room (Nat.le_of_ble_eq_true rfl)) dX4_isBare_15 ⟨Nat.le_of_ble_eq_true rfl, Nat.le_of_ble_eq_true rfl⟩) hS hFc hFc rfl (fun t H1 locs ht hB hk1 hS => ?_)
          obtain ⟨hP1, hD1⟩ := hB
          rw [ht] at hP1
          obtain ⟨hP, hD⟩ := va_joinQ (wr := [(oc3 lw (.ref dr) (.ref tg) (.ref wy) (.ref br) (.ref bo) (.ref aa)), (oc1 fe rk9 wd9 tw9 pa9 pb9 (.ref lo) (.ref lk) fm9), (oc4 lk kd9 st9 (.ref r) gb9 jt9 we9), (oc6 r2 (.ref rx2) (.ref ry2) (nI (nN (mn g5))) rg2), (oa rx2 cI cap2 U2), (oa ry2 cI cap2 V2)]) (w1 := [(oc7 sh (.ref fa) (nI ft)), (oq fa cF 200 FA), (oc1 fe2 rk2 wd2 tw2 pa2 pb2 (.ref lo2) (.ref lk2) fm2), (oc4 lk2 (kd g5) (st g5) (.ref r2) gb2 jt2 we2)]) hP hD [1, 2, 5, 6] [0, 3, 4, 7, 8, 9] rfl rfl (by decide) (by decide) hk1 hFc hP1 hD1
          clear hk1 hPc hDc hFc hP1 hD1 ht
          generalize H1 = H at hP hS ⊢
          have hP := hP.part (cx := [(oc3 lw (.ref dr) (.ref tg) (.ref wy) (.ref br) (.ref bo) (.ref aa)), (oc7 sh (.ref fa) (nI ft)), (oq fa cF 200 FA), (oc1 fe rk9 wd9 tw9 pa9 pb9 (.ref lo) (.ref lk) fm9), (oc4 lk kd9 st9 (.ref r) gb9 jt9 we9), (oc1 fe2 rk2 wd2 tw2 pa2 pb2 (.ref lo2) (.ref lk2) fm2), (oc4 lk2 (kd g5) (st g5) (.ref r2) gb2 jt2 we2), (oc6 r2 (.ref rx2) (.ref ry2) (nI (nN (mn g5))) rg2), (oa rx2 cI cap2 U2), (oa ry2 cI cap2 V2)]) [0, 6, 7, 1, 2, 8, 9, 3, 4, 5] rfl
          have hD := hD.part (cx := [(oc3 lw (.ref dr) (.ref tg) (.ref wy) (.ref br) (.ref bo) (.ref aa)), (oc7 sh (.ref fa) (nI ft)), (oq fa cF 200 FA), (oc1 fe rk9 wd9 tw9 pa9 pb9 (.ref lo) (.ref lk) fm9), (oc4 lk kd9 st9 (.ref r) gb9 jt9 we9), (oc1 fe2 rk2 wd2 tw2 pa2 pb2 (.ref lo2) (.ref lk2) fm2), (oc4 lk2 (kd g5) (st g5) (.ref r2) gb2 jt2 we2), (oc6 r2 (.ref rx2) (.ref ry2) (nI (nN (mn g5))) rg2), (oa rx2 cI cap2 U2), (oa ry2 cI cap2 V2)]) [0, 6, 7, 1, 2, 8, 9, 3, 4, 5] (by decide) rfl
          have hP : va_P (dC, dI) classes ([(oc3 lw (.ref dr) (.ref tg) (.ref wy) (.ref br) (.ref bo) (.ref aa)), (oc7 sh (.ref fa) (nI ft)), (oq fa cF 200 FA), (oc1 fe rk9 wd9 tw9 pa9 pb9 (.ref lo) (.ref lk) fm9), (oc4 lk kd9 st9 (.ref r) gb9 jt9 we9), (oc1 fe2 rk2 wd2 tw2 pa2 pb2 (.ref lo2) (.ref lk2) fm2), (oc4 lk2 (kd g5) (st g5) (.ref r2) gb2 jt2 we2), (oc6 r2 (.ref rx2) (.ref ry2) (nI (nN (mn g5))) rg2), (oa rx2 cI cap2 U2), (oa ry2 cI cap2 V2)] ++ va_pl T_1 f) H := hP
          have hD : va_D A ([(oc3 lw (.ref dr) (.ref tg) (.ref wy) (.ref br) (.ref bo) (.ref aa)), (oc7 sh (.ref fa) (nI ft)), (oq fa cF 200 FA), (oc1 fe rk9 wd9 tw9 pa9 pb9 (.ref lo) (.ref lk) fm9), (oc4 lk kd9 st9 (.ref r) gb9 jt9 we9), (oc1 fe2 rk2 wd2 tw2 pa2 pb2 (.ref lo2) (.ref lk2) fm2), (oc4 lk2 (kd g5) (st g5) (.ref r2) gb2 jt2 we2), (oc6 r2 (.ref rx2) (.ref ry2) (nI (nN (mn g5))) rg2), (oa rx2 cI cap2 U2), (oa ry2 cI cap2 V2)] ++ va_pl T_1 f) := hD
          refine lv_astore (lv' := [(6, .ref r2), (5, .int (nI g5)), (0, .ref lw), (1, .ref sh), (2, .ref fe), (3, .int px), (4, .int py)]) hx hb dX4_isBare_18 hl (by decide) rfl (fun ls hl => ?_)
          refine lv_aload hx hb dX4_isBare_20 (lv_at hl 0 rfl) ?_
          refine lv_ifnull hx hb dX4_isBare_22 ?_
          refine lv_aload_n hx hb dX4_isBare_25 rfl (lv_at hl 3 rfl) ?_
          refine lv_iload hx hb dX4_isBare_26 (lv_at hl 1 rfl) ?_
          have hPc := hP.sub (ws' := [(oc7 sh (.ref fa) (nI ft)), (oq fa cF 200 FA)]) [1, 2] rfl
          have hDc := hD.sub (ws' := [(oc7 sh (.ref fa) (nI ft)), (oq fa cF 200 FA)]) [1, 2] (by decide) rfl
          have hFc := va_free (wc := [(oc7 sh (.ref fa) (nI ft)), (oq fa cF 200 FA)]) hD hS hA [1, 2] rfl
          refine zcall (st1 := [.ref fe2]) (va_runV (As := [.int (nI g5)]) (rest := []) ⟨hx, hb, hml, hown, hts⟩ (k_Sheet_find l dC dI cI cZ cF H.size sh fa ft FA g5 fe2 (by omega) (by omega) (by first | exact hFi | exact hFA2)) (cwV 1 hts (zz_gV mw_617 mw_499 mw_500 mw_100 mc_yX8_find) rfl rfl rfl (by decide +kernel) ⟨Nat.le_of_ble_eq_true rfl, Nat.le_of_ble_eq_true rfl⟩) (zPV2 (q0 := 0) (ci := 7) hPc hDc hK hXN rfl rfl) rfl rfl hl.1 rfl (lv_room (Nat.le_of_ble_eq_true rfl)) dX4_isBare_28 ⟨Nat.le_of_ble_eq_true rfl, Nat.le_of_ble_eq_true rfl⟩) hS hFc hFc rfl (fun t H1 locs ht hB hk1 hS => ?_)
          obtain ⟨hP1, hD1⟩ := hB
          rw [ht] at hP1
          obtain ⟨hP, hD⟩ := va_joinQ (wr := [(oc3 lw (.ref dr) (.ref tg) (.ref wy) (.ref br) (.ref bo) (.ref aa)), (oc1 fe rk9 wd9 tw9 pa9 pb9 (.ref lo) (.ref lk) fm9), (oc4 lk kd9 st9 (.ref r) gb9 jt9 we9), (oc1 fe2 rk2 wd2 tw2 pa2 pb2 (.ref lo2) (.ref lk2) fm2), (oc4 lk2 (kd g5) (st g5) (.ref r2) gb2 jt2 we2), (oc6 r2 (.ref rx2) (.ref ry2) (nI (nN (mn g5))) rg2), (oa rx2 cI cap2 U2), (oa ry2 cI cap2 V2)]) (w1 := [(oc7 sh (.ref fa) (nI ft)), (oq fa cF 200 FA)]) hP hD [1, 2] [0, 3, 4, 5, 6, 7, 8, 9] rfl rfl (by decide) (by decide) hk1 hFc hP1 hD1
          clear hk1 hPc hDc hFc hP1 hD1 ht
          generalize H1 = H at hP hS ⊢
          have hP := hP.part (cx := [(oc3 lw (.ref dr) (.ref tg) (.ref wy) (.ref br) (.ref bo) (.ref aa)), (oc7 sh (.ref fa) (nI ft)), (oq fa cF 200 FA), (oc1 fe rk9 wd9 tw9 pa9 pb9 (.ref lo) (.ref lk) fm9), (oc4 lk kd9 st9 (.ref r) gb9 jt9 we9), (oc1 fe2 rk2 wd2 tw2 pa2 pb2 (.ref lo2) (.ref lk2) fm2), (oc4 lk2 (kd g5) (st g5) (.ref r2) gb2 jt2 we2), (oc6 r2 (.ref rx2) (.ref ry2) (nI (nN (mn g5))) rg2), (oa rx2 cI cap2 U2), (oa ry2 cI cap2 V2)]) [0, 8, 9, 1, 2, 3, 4, 5, 6, 7] rfl
          have hD := hD.part (cx := [(oc3 lw (.ref dr) (.ref tg) (.ref wy) (.ref br) (.ref bo) (.ref aa)), (oc7 sh (.ref fa) (nI ft)), (oq fa cF 200 FA), (oc1 fe rk9 wd9 tw9 pa9 pb9 (.ref lo) (.ref lk) fm9), (oc4 lk kd9 st9 (.ref r) gb9 jt9 we9), (oc1 fe2 rk2 wd2 tw2 pa2 pb2 (.ref lo2) (.ref lk2) fm2), (oc4 lk2 (kd g5) (st g5) (.ref r2) gb2 jt2 we2), (oc6 r2 (.ref rx2) (.ref ry2) (nI (nN (mn g5))) rg2), (oa rx2 cI cap2 U2), (oa ry2 cI cap2 V2)]) [0, 8, 9, 1, 2, 3, 4, 5, 6, 7] (by decide) rfl
          have hP : va_P (dC, dI) classes ([(oc3 lw (.ref dr) (.ref tg) (.ref wy) (.ref br) (.ref bo) (.ref aa)), (oc7 sh (.ref fa) (nI ft)), (oq fa cF 200 FA), (oc1 fe rk9 wd9 tw9 pa9 pb9 (.ref lo) (.ref lk) fm9), (oc4 lk kd9 st9 (.ref r) gb9 jt9 we9), (oc1 fe2 rk2 wd2 tw2 pa2 pb2 (.ref lo2) (.ref lk2) fm2), (oc4 lk2 (kd g5) (st g5) (.ref r2) gb2 jt2 we2), (oc6 r2 (.ref rx2) (.ref ry2) (nI (nN (mn g5))) rg2), (oa rx2 cI cap2 U2), (oa ry2 cI cap2 V2)] ++ va_pl T_1 f) H := hP
          have hD : va_D A ([(oc3 lw (.ref dr) (.ref tg) (.ref wy) (.ref br) (.ref bo) (.ref aa)), (oc7 sh (.ref fa) (nI ft)), (oq fa cF 200 FA), (oc1 fe rk9 wd9 tw9 pa9 pb9 (.ref lo) (.ref lk) fm9), (oc4 lk kd9 st9 (.ref r) gb9 jt9 we9), (oc1 fe2 rk2 wd2 tw2 pa2 pb2 (.ref lo2) (.ref lk2) fm2), (oc4 lk2 (kd g5) (st g5) (.ref r2) gb2 jt2 we2), (oc6 r2 (.ref rx2) (.ref ry2) (nI (nN (mn g5))) rg2), (oa rx2 cI cap2 U2), (oa ry2 cI cap2 V2)] ++ va_pl T_1 f) := hD
          refine lv_aload_n hx hb dX4_isBare_31 rfl (lv_at hl 4 rfl) ?_
          refine z_acmpeq (rx := fe2) (ry := fe) (tgt := 48) hx hb dX4_isBare_32 (by decide) (fun c_3 => ?_) (fun c_3 => ?_)
          · have c_3 : fe2 = fe := c_3
            exfalso; exact absurd (by assumption) (pl_sep (q := (oc1 fe rk9 wd9 tw9 pa9 pb9 (.ref lo) (.ref lk) fm9)) hD0_1 (by simp) hfe2.1)
          · have c_3 : ¬ fe2 = fe := c_3
            refine lv_aload hx hb dX4_isBare_35 (lv_at hl 0 rfl) ?_
            refine lv_iload_n hx hb dX4_isBare_37 rfl (lv_at hl 5 rfl) ?_
            refine lv_iload hx hb dX4_isBare_38 (lv_at hl 6 rfl) ?_
            have hPc := hP.sub (ws' := [(oc6 r2 (.ref rx2) (.ref ry2) (nI (nN (mn g5))) rg2), (oa rx2 cI cap2 U2), (oa ry2 cI cap2 V2)]) [7, 8, 9] rfl
            have hDc := hD.sub (ws' := [(oc6 r2 (.ref rx2) (.ref ry2) (nI (nN (mn g5))) rg2), (oa rx2 cI cap2 U2), (oa ry2 cI cap2 V2)]) [7, 8, 9] (by decide) rfl
            have hFc := va_free (wc := [(oc6 r2 (.ref rx2) (.ref ry2) (nI (nN (mn g5))) rg2), (oa rx2 cI cap2 U2), (oa ry2 cI cap2 V2)]) hD hS hA [7, 8, 9] rfl
            refine zcall (st1 := [.int (pI (∃ i, i < prt (nN (mn g5)) rg2 ∧ eOn (nN (mn g5)) U2 V2 i px.toInt py.toInt))]) (va_runV (As := [.int px, .int py]) (rest := []) ⟨hx, hb, hml, hown, hts⟩ (k_Row_isOnSet l dC dI cI cZ cF H.size r2 rx2 ry2 (nN (mn g5)) cap2 U2 V2 rg2 px py (by omega) (by omega) (hq2) (hpx) (hpy)) (cwV 2 hts (zz_gV mw_618 mw_619 mw_620 mw_102 mc_yX7_isOnSet) rfl rfl rfl (by decide +kernel) ⟨Nat.le_of_ble_eq_true rfl, Nat.le_of_ble_eq_true rfl⟩) (zPV2 (q0 := 0) (ci := 6) hPc hDc hK hXN rfl rfl) rfl rfl hl.1 rfl (lv_room (Nat.le_of_ble_eq_true rfl)) dX4_isBare_40 ⟨Nat.le_of_ble_eq_true rfl, Nat.le_of_ble_eq_true rfl⟩) hS hFc hFc rfl (fun t H1 locs ht hB hk1 hS => ?_)
            obtain ⟨hP1, hD1⟩ := hB
            rw [ht] at hP1
            obtain ⟨hP, hD⟩ := va_joinQ (wr := [(oc3 lw (.ref dr) (.ref tg) (.ref wy) (.ref br) (.ref bo) (.ref aa)), (oc7 sh (.ref fa) (nI ft)), (oq fa cF 200 FA), (oc1 fe rk9 wd9 tw9 pa9 pb9 (.ref lo) (.ref lk) fm9), (oc4 lk kd9 st9 (.ref r) gb9 jt9 we9), (oc1 fe2 rk2 wd2 tw2 pa2 pb2 (.ref lo2) (.ref lk2) fm2), (oc4 lk2 (kd g5) (st g5) (.ref r2) gb2 jt2 we2)]) (w1 := [(oc6 r2 (.ref rx2) (.ref ry2) (nI (nN (mn g5))) rg2), (oa rx2 cI cap2 U2), (oa ry2 cI cap2 V2)]) hP hD [7, 8, 9] [0, 1, 2, 3, 4, 5, 6] rfl rfl (by decide) (by decide) hk1 hFc hP1 hD1
            clear hk1 hPc hDc hFc hP1 hD1 ht
            generalize H1 = H at hP hS ⊢
            have hP : va_P (dC, dI) classes ([(oc3 lw (.ref dr) (.ref tg) (.ref wy) (.ref br) (.ref bo) (.ref aa)), (oc7 sh (.ref fa) (nI ft)), (oq fa cF 200 FA), (oc1 fe rk9 wd9 tw9 pa9 pb9 (.ref lo) (.ref lk) fm9), (oc4 lk kd9 st9 (.ref r) gb9 jt9 we9), (oc1 fe2 rk2 wd2 tw2 pa2 pb2 (.ref lo2) (.ref lk2) fm2), (oc4 lk2 (kd g5) (st g5) (.ref r2) gb2 jt2 we2), (oc6 r2 (.ref rx2) (.ref ry2) (nI (nN (mn g5))) rg2), (oa rx2 cI cap2 U2), (oa ry2 cI cap2 V2)] ++ va_pl T_1 f) H := hP
            have hD : va_D A ([(oc3 lw (.ref dr) (.ref tg) (.ref wy) (.ref br) (.ref bo) (.ref aa)), (oc7 sh (.ref fa) (nI ft)), (oq fa cF 200 FA), (oc1 fe rk9 wd9 tw9 pa9 pb9 (.ref lo) (.ref lk) fm9), (oc4 lk kd9 st9 (.ref r) gb9 jt9 we9), (oc1 fe2 rk2 wd2 tw2 pa2 pb2 (.ref lo2) (.ref lk2) fm2), (oc4 lk2 (kd g5) (st g5) (.ref r2) gb2 jt2 we2), (oc6 r2 (.ref rx2) (.ref ry2) (nI (nN (mn g5))) rg2), (oa rx2 cI cap2 U2), (oa ry2 cI cap2 V2)] ++ va_pl T_1 f) := hD
            refine zz_i (v := pI (onF kd mn cx cy g5 px.toInt py.toInt)) (zp_iff (on_iff hrr2 hkn2)) ?_
            refine lv_if_eq (tgt := 48) hx hb dX4_isBare_43 (by decide) (fun c_4 => ?_) (fun c_4 => ?_)
            · have c_4 : ¬ (onF kd mn cx cy g5 px.toInt py.toInt) := zp_0 c_4
              have hP := pl_back (cs := [(oc1 fe2 rk2 wd2 tw2 pa2 pb2 (.ref lo2) (.ref lk2) fm2), (oc4 lk2 (kd g5) (st g5) (.ref r2) gb2 jt2 we2), (oc6 r2 (.ref rx2) (.ref ry2) (nI (nN (mn g5))) rg2), (oa rx2 cI cap2 U2), (oa ry2 cI cap2 V2)]) (L := L) (f := f) (X := [(oc3 lw (.ref dr) (.ref tg) (.ref wy) (.ref br) (.ref bo) (.ref aa)), (oc7 sh (.ref fa) (nI ft)), (oq fa cF 200 FA), (oc1 fe rk9 wd9 tw9 pa9 pb9 (.ref lo) (.ref lk) fm9), (oc4 lk kd9 st9 (.ref r) gb9 jt9 we9)]) (by rw [hT_1]; exact (show va_P (dC, dI) classes (([(oc3 lw (.ref dr) (.ref tg) (.ref wy) (.ref br) (.ref bo) (.ref aa)), (oc7 sh (.ref fa) (nI ft)), (oq fa cF 200 FA), (oc1 fe rk9 wd9 tw9 pa9 pb9 (.ref lo) (.ref lk) fm9), (oc4 lk kd9 st9 (.ref r) gb9 jt9 we9)] ++ [(oc1 fe2 rk2 wd2 tw2 pa2 pb2 (.ref lo2) (.ref lk2) fm2), (oc4 lk2 (kd g5) (st g5) (.ref r2) gb2 jt2 we2), (oc6 r2 (.ref rx2) (.ref ry2) (nI (nN (mn g5))) rg2), (oa rx2 cI cap2 U2), (oa ry2 cI cap2 V2)]) ++ va_pl T_1 f) H from hP)) hc9_1
              have hD : va_D A ([(oc3 lw (.ref dr) (.ref tg) (.ref wy) (.ref br) (.ref bo) (.ref aa)), (oc7 sh (.ref fa) (nI ft)), (oq fa cF 200 FA), (oc1 fe rk9 wd9 tw9 pa9 pb9 (.ref lo) (.ref lk) fm9), (oc4 lk kd9 st9 (.ref r) gb9 jt9 we9)] ++ va_pl L f) := vaD_ad rfl hD0_1
              refine lv_iinc (v := nI (g5 + 1)) (lv' := [(5, .int (nI (g5 + 1))), (6, .ref r2), (0, .ref lw), (1, .ref sh), (2, .ref fe), (3, .int px), (4, .int py)]) hx hb dX4_isBare_48 hl (k := 1) rfl (nI_add g5 1) (by decide) rfl (fun ls hl => ?_)
              refine lv_goto (tgt := 3) hx hb dX4_isBare_51 (by decide) ?_
              exact ih_3 (g5 + 1) H locs ls (by omega) (by omega) (by intro q hq; rcases Nat.lt_or_ge q g5 with h | h; exact hall q h; rw [show q = g5 by omega]; intro h1 h2; first | exact absurd hif h1 | exact absurd h2.2.1 hs2 | exact absurd h2.2.2 ht2 | assumption) hP hD hS (lv_sub hl [0, 2, 3, 4, 5, 6] rfl)
            · have c_4 : onF kd mn cx cy g5 px.toInt py.toInt := zp_1 c_4
              have hP := pl_back (cs := [(oc1 fe2 rk2 wd2 tw2 pa2 pb2 (.ref lo2) (.ref lk2) fm2), (oc4 lk2 (kd g5) (st g5) (.ref r2) gb2 jt2 we2), (oc6 r2 (.ref rx2) (.ref ry2) (nI (nN (mn g5))) rg2), (oa rx2 cI cap2 U2), (oa ry2 cI cap2 V2)]) (L := L) (f := f) (X := [(oc3 lw (.ref dr) (.ref tg) (.ref wy) (.ref br) (.ref bo) (.ref aa)), (oc7 sh (.ref fa) (nI ft)), (oq fa cF 200 FA), (oc1 fe rk9 wd9 tw9 pa9 pb9 (.ref lo) (.ref lk) fm9), (oc4 lk kd9 st9 (.ref r) gb9 jt9 we9)]) (by rw [hT_1]; exact (show va_P (dC, dI) classes (([(oc3 lw (.ref dr) (.ref tg) (.ref wy) (.ref br) (.ref bo) (.ref aa)), (oc7 sh (.ref fa) (nI ft)), (oq fa cF 200 FA), (oc1 fe rk9 wd9 tw9 pa9 pb9 (.ref lo) (.ref lk) fm9), (oc4 lk kd9 st9 (.ref r) gb9 jt9 we9)] ++ [(oc1 fe2 rk2 wd2 tw2 pa2 pb2 (.ref lo2) (.ref lk2) fm2), (oc4 lk2 (kd g5) (st g5) (.ref r2) gb2 jt2 we2), (oc6 r2 (.ref rx2) (.ref ry2) (nI (nN (mn g5))) rg2), (oa rx2 cI cap2 U2), (oa ry2 cI cap2 V2)]) ++ va_pl T_1 f) H from hP)) hc9_1
              have hD : va_D A ([(oc3 lw (.ref dr) (.ref tg) (.ref wy) (.ref br) (.ref bo) (.ref aa)), (oc7 sh (.ref fa) (nI ft)), (oq fa cF 200 FA), (oc1 fe rk9 wd9 tw9 pa9 pb9 (.ref lo) (.ref lk) fm9), (oc4 lk kd9 st9 (.ref r) gb9 jt9 we9)] ++ va_pl L f) := vaD_ad rfl hD0_1
              refine lv_iconst (v := 0) hx hb dX4_isBare_46 (by decide) ?_
              have hP9 := hP.part (cx := [(oc3 lw (.ref dr) (.ref tg) (.ref wy) (.ref br) (.ref bo) (.ref aa)), (oc7 sh (.ref fa) (nI ft)), (oq fa cF 200 FA), (oc1 fe rk9 wd9 tw9 pa9 pb9 (.ref lo) (.ref lk) fm9), (oc4 lk kd9 st9 (.ref r) gb9 jt9 we9)]) [0, 1, 2, 3, 4] rfl
              have hD9 := hD.part (cx := [(oc3 lw (.ref dr) (.ref tg) (.ref wy) (.ref br) (.ref bo) (.ref aa)), (oc7 sh (.ref fa) (nI ft)), (oq fa cF 200 FA), (oc1 fe rk9 wd9 tw9 pa9 pb9 (.ref lo) (.ref lk) fm9), (oc4 lk kd9 st9 (.ref r) gb9 jt9 we9)]) [0, 1, 2, 3, 4] (by decide) rfl
              rw [hQ9]
              exact W.zret (ty := .boolean) (v := 0) hx hb hr (rfl) (fun t ht hW => ⟨⟨congrArg (fun z => Outcome.returned (some (Value.int z))) (show (0 : Int32) = pI (∀ q, q < ft → (q ≠ f0 → lvF ft st tn q → ¬ onF kd mn cx cy q px.toInt py.toInt)) from (zp_f (fun h => absurd (by assumption) (h g5 (by omega) hif hlv2))).symm), by rw [ht]; exact hP9, hD9⟩, hS.F ht⟩) hS.2.2 dX4_isBare_47
  exact hl_3 _ 0 s.heap [] ls (Nat.lt_succ_self _) (by omega) (by intro q hq; omega) hP hD hS (lv_sub hl [0, 1, 2, 3, 4, 5] rfl)
