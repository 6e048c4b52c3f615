set_option maxHeartbeats 4000000 in
set_option maxRecDepth 100000 in
theorem k_at_x (l : Launch) (dC : Nat → ClassId) (dI : Nat → Nat → Nat) (cI cZ cF : ClassId) (sz : Nat) (x : Nat) (sh : Nat) (lw : Nat) (ro : Nat) (bq : Nat) (bp : Nat) (dq : Nat) (dp : Nat) (lv : Nat) (sl : Nat) (sd : Int32) (ul : Int32) (su : Int32) (ds : Int32) (fa : Nat) (ft : Nat) (FA : Nat → Option Nat) (v : Int32) (kv : Int32) (w : Int32) (h200 : ft ≤ 200) (hv : ¬ (0 ≤ v.toInt ∧ v.toInt < ((ft : Nat) : Int))) : Met l yX10_at (.code yX10_at cX10_at 6 (some .int) :: ws0) ({ frames := 1, cells := 0, slots := 0, locals := 21 } : Room) (va_Pc [.ref x, .int v, .int kv, .int w] (zPre (dC, dI) classes (zTy cI cZ cF) [(oc8 x (.ref sh) (.ref lw) (.ref ro) (.ref bq) (.ref bp) (.ref dq) (.ref dp) (.ref lv) (.ref sl) ds sd ul su), (oc7 sh (.ref fa) (nI ft)), (oq fa cF 200 FA)] sz zXN)) (zQ (some (.int (-1))) (fun t => va_P (dC, dI) classes [(oc8 x (.ref sh) (.ref lw) (.ref ro) (.ref bq) (.ref bp) (.ref dq) (.ref dp) (.ref lv) (.ref sl) ds sd ul su), (oc7 sh (.ref fa) (nI ft)), (oq fa cF 200 FA)] t.heap ∧ va_D (va_A [(oc8 x (.ref sh) (.ref lw) (.ref ro) (.ref bq) (.ref bp) (.ref dq) (.ref dp) (.ref lv) (.ref sl) ds sd ul su), (oc7 sh (.ref fa) (nI ft)), (oq fa cF 200 FA)] sz) [(oc8 x (.ref sh) (.ref lw) (.ref ro) (.ref bq) (.ref bp) (.ref dq) (.ref dp) (.ref lv) (.ref sl) ds sd ul su), (oc7 sh (.ref fa) (nI ft)), (oq fa cF 200 FA)]) (va_A [(oc8 x (.ref sh) (.ref lw) (.ref ro) (.ref bq) (.ref bp) (.ref dq) (.ref dp) (.ref lv) (.ref sl) ds sd ul su), (oc7 sh (.ref fa) (nI ft)), (oq fa cF 200 FA)] sz)) 0 0 (va_A [(oc8 x (.ref sh) (.ref lw) (.ref ro) (.ref bq) (.ref bp) (.ref dq) (.ref dp) (.ref lv) (.ref sl) ds sd ul su), (oc7 sh (.ref fa) (nI ft)), (oq fa cF 200 FA)] sz) := by
  refine Met.ofW (cc := cX10_at) (maxL := 6) (ret := (some .int)) (by decide) rfl ?_
  intro p e s m args below meth c s₁ B hml hv
  obtain ⟨rfl, hsz, hP, hK, hD0, hXN⟩ := hv
  have hx := B.exec
  have hb := B.bytes
  have hr := B.returns
  have hts0 := atoms_spec (ws := .code yX10_at cX10_at 6 (some .int) :: ws0) B.pre
  have hts : ∀ w9 ∈ ws0, w9.before ([.ref x, .int v, .int kv, .int w] : List Value).toArray s = true := fun w9 h => hts0 w9 (List.mem_cons_of_mem _ h)
  have hown : s.vm.findClass "ScaleShop" = some m.cls := findClass_of_methodNamed B.named
  have hlocks := B.notSynchronized
  subst hsz
  have hD := hD0.self (sz := s.heap.size)
  clear hD0
  generalize hAe : va_A [(oc8 x (.ref sh) (.ref lw) (.ref ro) (.ref bq) (.ref bp) (.ref dq) (.ref dp) (.ref lv) (.ref sl) ds sd ul su), (oc7 sh (.ref fa) (nI ft)), (oq fa cF 200 FA)] s.heap.size = A at hD ⊢
  have hA : ∀ q : Nat, s.heap.size ≤ q → A q := fun q h => by rw [← hAe]; exact Or.inr h
  clear hAe
  have hS : va_S A s.heap s.heap [] := va_S.rf
  have hP : va_P (dC, dI) classes [(oc8 x (.ref sh) (.ref lw) (.ref ro) (.ref bq) (.ref bp) (.ref dq) (.ref dp) (.ref lv) (.ref sl) ds sd ul su), (oc7 sh (.ref fa) (nI ft)), (oq fa cF 200 FA)] s.heap := hP
  obtain ⟨Q9, hQ9⟩ : ∃ Q9 : State → Prop, Q9 = MQ below (zQ (some (.int (-1))) (fun t => va_P (dC, dI) classes [(oc8 x (.ref sh) (.ref lw) (.ref ro) (.ref bq) (.ref bp) (.ref dq) (.ref dp) (.ref lv) (.ref sl) ds sd ul su), (oc7 sh (.ref fa) (nI ft)), (oq fa cF 200 FA)] t.heap ∧ va_D A [(oc8 x (.ref sh) (.ref lw) (.ref ro) (.ref bq) (.ref bp) (.ref dq) (.ref dp) (.ref lv) (.ref sl) ds sd ul su), (oc7 sh (.ref fa) (nI ft)), (oq fa cF 200 FA)]) A) ([.ref x, .int v, .int kv, .int w] : List Value).toArray s 0 0 A := ⟨_, rfl⟩
  rw [← hQ9]
  have hl := lv_entry ([.ref x, .int v, .int kv, .int w]) (n := 6) (Nat.le_of_ble_eq_true rfl)
  rw [lg_entry_eq]
  generalize (lg_sl ([.ref x, .int v, .int kv, .int w]) ++ List.replicate (6 - (lg_sl ([.ref x, .int v, .int kv, .int w])).length) Slot.unset).toArray = ls at hl ⊢
  have hl : lv_has ls 6 [(0, .ref x), (1, .int v), (2, .int kv), (3, .int w)] := hl
  refine lv_aload_n hx hb dX10_at_0 rfl (lv_at hl 0 rfl) ?_
  refine va_get (D := (dC, dI)) (ci := 8) (v := .ref sh) (C := RX10) (T := TX10) (N := 13) hx hb hts inX10 hown hK hP 0 rfl rfl 0 (by decide) (hts _ mw_309) (fun _ h9 => h9) rfl dX10_at_1 ?_
  refine lv_iload_n hx hb dX10_at_4 rfl (lv_at hl 1 rfl) ?_
  have hPc := hP.sub (ws' := [(oc7 sh (.ref fa) (nI ft)), (oq fa cF 200 FA)]) [1, 2] rfl
  have hDc := hD.sub (ws' := [(oc7 sh (.ref fa) (nI ft)), (oq fa cF 200 FA)]) [1, 2] (by decide) rfl
  have hFc := va_free (wc := [(oc7 sh (.ref fa) (nI ft)), (oq fa cF 200 FA)]) hD hS hA [1, 2] rfl
  refine zcall (st1 := [.null]) (va_runV (As := [.int v]) (rest := []) ⟨hx, hb, hml, hown, hts⟩ (k_Sheet_find_n l dC dI cI cZ cF s.heap.size sh fa ft FA v (by omega) (by assumption)) (cwV 1 hts (zz_gV mw_498 mw_499 mw_500 mw_100 mc_yX8_find) rfl rfl rfl (by decide +kernel) ⟨Nat.le_of_ble_eq_true rfl, Nat.le_of_ble_eq_true rfl⟩) (zPV2 (q0 := 0) (ci := 7) hPc hDc hK hXN rfl rfl) rfl rfl hl.1 rfl (lv_room (Nat.le_of_ble_eq_true rfl)) dX10_at_5 ⟨Nat.le_of_ble_eq_true rfl, Nat.le_of_ble_eq_true rfl⟩) hS hFc hFc rfl (fun t H1 locs ht hB hk1 hS => ?_)
  obtain ⟨hP1, hD1⟩ := hB
  rw [ht] at hP1
  obtain ⟨hP, hD⟩ := va_join (wr := [(oc8 x (.ref sh) (.ref lw) (.ref ro) (.ref bq) (.ref bp) (.ref dq) (.ref dp) (.ref lv) (.ref sl) ds sd ul su)]) (w1 := [(oc7 sh (.ref fa) (nI ft)), (oq fa cF 200 FA)]) hP hD [1, 2] [0] rfl rfl (by decide) (by decide) hk1 hFc hP1 hD1
  clear hk1 hPc hDc hFc hP1 hD1 ht
  generalize H1 = H at hP hS ⊢
  have hP : va_P (dC, dI) classes [(oc8 x (.ref sh) (.ref lw) (.ref ro) (.ref bq) (.ref bp) (.ref dq) (.ref dp) (.ref lv) (.ref sl) ds sd ul su), (oc7 sh (.ref fa) (nI ft)), (oq fa cF 200 FA)] H := hP
  have hD : va_D A [(oc8 x (.ref sh) (.ref lw) (.ref ro) (.ref bq) (.ref bp) (.ref dq) (.ref dp) (.ref lv) (.ref sl) ds sd ul su), (oc7 sh (.ref fa) (nI ft)), (oq fa cF 200 FA)] := hD
  refine lv_astoreN (lv' := [(4, .null), (0, .ref x), (1, .int v), (2, .int kv), (3, .int w)]) hx hb dX10_at_8 hl (by decide) rfl (fun ls hl => ?_)
  refine lv_aloadN hx hb dX10_at_10 (lv_at hl 0 rfl) ?_
  refine lv_ifnullN (tgt := 24) hx hb dX10_at_12 (by decide) ?_
  refine lv_iconst (v := (-1)) hx hb dX10_at_24 (by decide) ?_
  have hP9 := hP.sub (ws' := [(oc8 x (.ref sh) (.ref lw) (.ref ro) (.ref bq) (.ref bp) (.ref dq) (.ref dp) (.ref lv) (.ref sl) ds sd ul su), (oc7 sh (.ref fa) (nI ft)), (oq fa cF 200 FA)]) [0, 1, 2] rfl
  have hD9 := hD.sub (ws' := [(oc8 x (.ref sh) (.ref lw) (.ref ro) (.ref bq) (.ref bp) (.ref dq) (.ref dp) (.ref lv) (.ref sl) ds sd ul su), (oc7 sh (.ref fa) (nI ft)), (oq fa cF 200 FA)]) [0, 1, 2] (by decide) rfl
  rw [hQ9]
  exact W.iret (v := (-1)) hx hb hr (fun t ht hW => ⟨⟨rfl, by rw [ht]; exact hP9, hD9⟩, hS.F ht⟩) hS.2.2 dX10_at_25
set_option maxHeartbeats 4000000 in
set_option maxRecDepth 100000 in
theorem k_at_r (l : Launch) (dC : Nat → ClassId) (dI : Nat → Nat → Nat) (cI cZ cF : ClassId) (sz : Nat) (x : Nat) (sh : Nat) (lw : Nat) (ro : Nat) (bq : Nat) (bp : Nat) (dq : Nat) (dp : Nat) (lv : Nat) (sl : Nat) (sd : Int32) (ul : Int32) (su : Int32) (ds : Int32) (fa : Nat) (ft : Nat) (FA : Nat → Option Nat) (f0 : Nat) (L : List Nat) (f : Nat → va_E) (kd : Nat → Int32) (st : Nat → Int32) (tn : Nat → Int32) (mn : Nat → Int32) (cx : Nat → Int32) (cy : Nat → Int32) (rk : Nat → Int32) (wd : Nat → Int32) (tw : Nat → Int32) (pa : Nat → Int32) (pb : Nat → Int32) (gb : Nat → Int32) (it : Nat → Int32) (kv : Int32) (w : Int32) (h200 : ft ≤ 200) (hf0 : f0 < ft) (hva : ∀ q, q < ft → vwA cI L f FA rk wd tw pa pb kd st gb it tn mn cx cy q) (hbad : ¬ ((tn f0).toInt = 0 ∧ 0 ≤ kv.toInt ∧ kv.toInt < ((nN (mn f0) : Nat) : Int) ∧ 0 ≤ w.toInt ∧ w.toInt ≤ 1)) : Met l yX10_at (.code yX10_at cX10_at 6 (some .int) :: ws0) ({ frames := 1, cells := 0, slots := 0, locals := 22 } : Room) (va_Pc [.ref x, .int (nI f0), .int kv, .int w] (zPre (dC, dI) classes (zTy cI cZ cF) ([(oc8 x (.ref sh) (.ref lw) (.ref ro) (.ref bq) (.ref bp) (.ref dq) (.ref dp) (.ref lv) (.ref sl) ds sd ul su), (oc7 sh (.ref fa) (nI ft)), (oq fa cF 200 FA)] ++ va_pl L f) sz zXN)) (zQ (some (.int (-1))) (fun t => va_P (dC, dI) classes ([(oc8 x (.ref sh) (.ref lw) (.ref ro) (.ref bq) (.ref bp) (.ref dq) (.ref dp) (.ref lv) (.ref sl) ds sd ul su), (oc7 sh (.ref fa) (nI ft)), (oq fa cF 200 FA)] ++ va_pl L f) t.heap ∧ va_D (va_A ([(oc8 x (.ref sh) (.ref lw) (.ref ro) (.ref bq) (.ref bp) (.ref dq) (.ref dp) (.ref lv) (.ref sl) ds sd ul su), (oc7 sh (.ref fa) (nI ft)), (oq fa cF 200 FA)] ++ va_pl L f) sz) ([(oc8 x (.ref sh) (.ref lw) (.ref ro) (.ref bq) (.ref bp) (.ref dq) (.ref dp) (.ref lv) (.ref sl) ds sd ul su), (oc7 sh (.ref fa) (nI ft)), (oq fa cF 200 FA)] ++ va_pl L f)) (va_A ([(oc8 x (.ref sh) (.ref lw) (.ref ro) (.ref bq) (.ref bp) (.ref dq) (.ref dp) (.ref lv) (.ref sl) ds sd ul su), (oc7 sh (.ref fa) (nI ft)), (oq fa cF 200 FA)] ++ va_pl L f) sz)) 0 0 (va_A ([(oc8 x (.ref sh) (.ref lw) (.ref ro) (.ref bq) (.ref bp) (.ref dq) (.ref dp) (.ref lv) (.ref sl) ds sd ul su), (oc7 sh (.ref fa) (nI ft)), (oq fa cF 200 FA)] ++ va_pl L f) sz) := by
  refine Met.ofW (cc := cX10_at) (maxL := 6) (ret := (some .int)) (by decide) rfl ?_
  intro p e s m args below meth c s₁ B hml hv
  obtain ⟨rfl, hsz, hP, hK, hD0, hXN⟩ := hv
  have hx := B.exec
  have hb := B.bytes
  have hr := B.returns
  have hts0 := atoms_spec (ws := .code yX10_at cX10_at 6 (some .int) :: ws0) B.pre
  have hts : ∀ w9 ∈ ws0, w9.before ([.ref x, .int (nI f0), .int kv, .int w] : List Value).toArray s = true := fun w9 h => hts0 w9 (List.mem_cons_of_mem _ h)
  have hown : s.vm.findClass "ScaleShop" = some m.cls := findClass_of_methodNamed B.named
  have hlocks := B.notSynchronized
  subst hsz
  have hD := hD0.self (sz := s.heap.size)
  clear hD0
  generalize hAe : va_A ([(oc8 x (.ref sh) (.ref lw) (.ref ro) (.ref bq) (.ref bp) (.ref dq) (.ref dp) (.ref lv) (.ref sl) ds sd ul su), (oc7 sh (.ref fa) (nI ft)), (oq fa cF 200 FA)] ++ va_pl L f) s.heap.size = A at hD ⊢
  have hA : ∀ q : Nat, s.heap.size ≤ q → A q := fun q h => by rw [← hAe]; exact Or.inr h
  clear hAe
  have hS : va_S A s.heap s.heap [] := va_S.rf
  have hP : va_P (dC, dI) classes ([(oc8 x (.ref sh) (.ref lw) (.ref ro) (.ref bq) (.ref bp) (.ref dq) (.ref dp) (.ref lv) (.ref sl) ds sd ul su), (oc7 sh (.ref fa) (nI ft)), (oq fa cF 200 FA)] ++ va_pl L f) s.heap := hP
  obtain ⟨Q9, hQ9⟩ : ∃ Q9 : State → Prop, Q9 = MQ below (zQ (some (.int (-1))) (fun t => va_P (dC, dI) classes ([(oc8 x (.ref sh) (.ref lw) (.ref ro) (.ref bq) (.ref bp) (.ref dq) (.ref dp) (.ref lv) (.ref sl) ds sd ul su), (oc7 sh (.ref fa) (nI ft)), (oq fa cF 200 FA)] ++ va_pl L f) t.heap ∧ va_D A ([(oc8 x (.ref sh) (.ref lw) (.ref ro) (.ref bq) (.ref bp) (.ref dq) (.ref dp) (.ref lv) (.ref sl) ds sd ul su), (oc7 sh (.ref fa) (nI ft)), (oq fa cF 200 FA)] ++ va_pl L f)) A) ([.ref x, .int (nI f0), .int kv, .int w] : List Value).toArray s 0 0 A := ⟨_, rfl⟩
  rw [← hQ9]
  have hl := lv_entry ([.ref x, .int (nI f0), .int kv, .int w]) (n := 6) (Nat.le_of_ble_eq_true rfl)
  rw [lg_entry_eq]
  generalize (lg_sl ([.ref x, .int (nI f0), .int kv, .int w]) ++ List.replicate (6 - (lg_sl ([.ref x, .int (nI f0), .int kv, .int w])).length) Slot.unset).toArray = ls at hl ⊢
  have hl : lv_has ls 6 [(0, .ref x), (1, .int (nI f0)), (2, .int kv), (3, .int w)] := hl
  have e_0 : (0 : Int32).toInt = 0 := (by decide)
  have e_1 : (1 : Int32).toInt = 1 := (by decide)
  rcases vwA_2 (hva f0 (by omega)) with ⟨ht2, fe2, lk2, lo2, we2, fm2, hFA2, hfe2, hlk2⟩ | ⟨ht2, fe2, lk2, lo2, we2, fm2, r2, rx2, ry2, cap2, U2, V2, rg2, hFA2, hfe2, hlk2, ⟨hr2, hrx2, hry2, hne2⟩, hrr2⟩
  · skip
    have hc9_1 : inPl L f [(oc1 fe2 (rk f0) (wd f0) (tw f0) (pa f0) (pb f0) (.ref lo2) (.ref lk2) fm2), (oc4 lk2 (kd f0) (st f0) .null (gb f0) (it f0) we2)] := ⟨hfe2, hlk2, trivial⟩
    have hD0_1 := hD
    obtain ⟨hP, hD⟩ := pl_out hP hD [(oc1 fe2 (rk f0) (wd f0) (tw f0) (pa f0) (pb f0) (.ref lo2) (.ref lk2) fm2), (oc4 lk2 (kd f0) (st f0) .null (gb f0) (it f0) we2)] hc9_1 (pwF hfe2.2 hlk2.2)
    generalize hT_1 : outPl L [(oc1 fe2 (rk f0) (wd f0) (tw f0) (pa f0) (pb f0) (.ref lo2) (.ref lk2) fm2), (oc4 lk2 (kd f0) (st f0) .null (gb f0) (it f0) we2)] = T_1 at hP hD
    have hP : va_P (dC, dI) classes ([(oc8 x (.ref sh) (.ref lw) (.ref ro) (.ref bq) (.ref bp) (.ref dq) (.ref dp) (.ref lv) (.ref sl) ds sd ul su), (oc7 sh (.ref fa) (nI ft)), (oq fa cF 200 FA), (oc1 fe2 (rk f0) (wd f0) (tw f0) (pa f0) (pb f0) (.ref lo2) (.ref lk2) fm2), (oc4 lk2 (kd f0) (st f0) .null (gb f0) (it f0) we2)] ++ va_pl T_1 f) s.heap := hP
    have hD : va_D A ([(oc8 x (.ref sh) (.ref lw) (.ref ro) (.ref bq) (.ref bp) (.ref dq) (.ref dp) (.ref lv) (.ref sl) ds sd ul su), (oc7 sh (.ref fa) (nI ft)), (oq fa cF 200 FA), (oc1 fe2 (rk f0) (wd f0) (tw f0) (pa f0) (pb f0) (.ref lo2) (.ref lk2) fm2), (oc4 lk2 (kd f0) (st f0) .null (gb f0) (it f0) we2)] ++ va_pl T_1 f) := hD
    refine lv_aload_n hx hb dX10_at_0 rfl (lv_at hl 0 rfl) ?_
    refine va_get (D := (dC, dI)) (ci := 8) (v := .ref sh) (C := RX10) (T := TX10) (N := 13) hx hb hts inX10 hown hK hP 0 rfl rfl 0 (by decide) (hts _ mw_309) (fun _ h9 => h9) rfl dX10_at_1 ?_
    refine lv_iload_n hx hb dX10_at_4 rfl (lv_at hl 1 rfl) ?_
    have hPc := hP.sub (ws' := [(oc7 sh (.ref fa) (nI ft)), (oq fa cF 200 FA)]) [1, 2] rfl
    have hDc := hD.sub (ws' := [(oc7 sh (.ref fa) (nI ft)), (oq fa cF 200 FA)]) [1, 2] (by decide) rfl
    have hFc := va_free (wc := [(oc7 sh (.ref fa) (nI ft)), (oq fa cF 200 FA)]) hD hS hA [1, 2] rfl
    refine zcall (st1 := [.ref fe2]) (va_runV (As := [.int (nI f0)]) (rest := []) ⟨hx, hb, hml, hown, hts⟩ (k_Sheet_find l dC dI cI cZ cF s.heap.size sh fa ft FA f0 fe2 (by omega) (by omega) (hFA2)) (cwV 1 hts (zz_gV mw_498 mw_499 mw_500 mw_100 mc_yX8_find) rfl rfl rfl (by decide +kernel) ⟨Nat.le_of_ble_eq_true rfl, Nat.le_of_ble_eq_true rfl⟩) (zPV2 (q0 := 0) (ci := 7) hPc hDc hK hXN rfl rfl) rfl rfl hl.1 rfl (lv_room (Nat.le_of_ble_eq_true rfl)) dX10_at_5 ⟨Nat.le_of_ble_eq_true rfl, Nat.le_of_ble_eq_true rfl⟩) hS hFc hFc rfl (fun t H1 locs ht hB hk1 hS => ?_)
    obtain ⟨hP1, hD1⟩ := hB
    rw [ht] at hP1
    obtain ⟨hP, hD⟩ := va_joinQ (wr := [(oc8 x (.ref sh) (.ref lw) (.ref ro) (.ref bq) (.ref bp) (.ref dq) (.ref dp) (.ref lv) (.ref sl) ds sd ul su), (oc1 fe2 (rk f0) (wd f0) (tw f0) (pa f0) (pb f0) (.ref lo2) (.ref lk2) fm2), (oc4 lk2 (kd f0) (st f0) .null (gb f0) (it f0) we2)]) (w1 := [(oc7 sh (.ref fa) (nI ft)), (oq fa cF 200 FA)]) hP hD [1, 2] [0, 3, 4] rfl rfl (by decide) (by decide) hk1 hFc hP1 hD1
    clear hk1 hPc hDc hFc hP1 hD1 ht
    generalize H1 = H at hP hS ⊢
    have hP := hP.part (cx := [(oc8 x (.ref sh) (.ref lw) (.ref ro) (.ref bq) (.ref bp) (.ref dq) (.ref dp) (.ref lv) (.ref sl) ds sd ul su), (oc7 sh (.ref fa) (nI ft)), (oq fa cF 200 FA), (oc1 fe2 (rk f0) (wd f0) (tw f0) (pa f0) (pb f0) (.ref lo2) (.ref lk2) fm2), (oc4 lk2 (kd f0) (st f0) .null (gb f0) (it f0) we2)]) [0, 3, 4, 1, 2] rfl
    have hD := hD.part (cx := [(oc8 x (.ref sh) (.ref lw) (.ref ro) (.ref bq) (.ref bp) (.ref dq) (.ref dp) (.ref lv) (.ref sl) ds sd ul su), (oc7 sh (.ref fa) (nI ft)), (oq fa cF 200 FA), (oc1 fe2 (rk f0) (wd f0) (tw f0) (pa f0) (pb f0) (.ref lo2) (.ref lk2) fm2), (oc4 lk2 (kd f0) (st f0) .null (gb f0) (it f0) we2)]) [0, 3, 4, 1, 2] (by decide) rfl
    have hP : va_P (dC, dI) classes ([(oc8 x (.ref sh) (.ref lw) (.ref ro) (.ref bq) (.ref bp) (.ref dq) (.ref dp) (.ref lv) (.ref sl) ds sd ul su), (oc7 sh (.ref fa) (nI ft)), (oq fa cF 200 FA), (oc1 fe2 (rk f0) (wd f0) (tw f0) (pa f0) (pb f0) (.ref lo2) (.ref lk2) fm2), (oc4 lk2 (kd f0) (st f0) .null (gb f0) (it f0) we2)] ++ va_pl T_1 f) H := hP
    have hD : va_D A ([(oc8 x (.ref sh) (.ref lw) (.ref ro) (.ref bq) (.ref bp) (.ref dq) (.ref dp) (.ref lv) (.ref sl) ds sd ul su), (oc7 sh (.ref fa) (nI ft)), (oq fa cF 200 FA), (oc1 fe2 (rk f0) (wd f0) (tw f0) (pa f0) (pb f0) (.ref lo2) (.ref lk2) fm2), (oc4 lk2 (kd f0) (st f0) .null (gb f0) (it f0) we2)] ++ va_pl T_1 f) := hD
    refine lv_astore (lv' := [(4, .ref fe2), (0, .ref x), (1, .int (nI f0)), (2, .int kv), (3, .int w)]) hx hb dX10_at_8 hl (by decide) rfl (fun ls hl => ?_)
    refine lv_aload hx hb dX10_at_10 (lv_at hl 0 rfl) ?_
    refine lv_ifnull hx hb dX10_at_12 ?_
    refine lv_iload_n hx hb dX10_at_15 rfl (lv_at hl 4 rfl) ?_
    refine lv_iconst (v := 0) hx hb dX10_at_16 (by decide) ?_
    refine lv_iconst (v := 1) hx hb dX10_at_17 (by decide) ?_
    have hPc := hP.sub (ws' := []) [] rfl
    have hDc := hD.sub (ws' := []) [] (by decide) rfl
    have hFc := va_free (wc := []) hD hS hA [] rfl
    refine zcall (st1 := [.int (pI ((0 : Int32).toInt ≤ w.toInt ∧ w.toInt ≤ (1 : Int32).toInt))]) (va_runS (As := [.int w, .int 0, .int 1]) (rest := []) ⟨hx, hb, hml, hown, hts⟩ (k_isWithin l dC dI cI cZ cF H.size w 0 1 ) (va_cwS 3 hts (zz_gS mw_353 mw_354 mw_99 mc_yX10_isWithin) rfl rfl rfl (by decide +kernel) ⟨Nat.le_of_ble_eq_true rfl, Nat.le_of_ble_eq_true rfl⟩) (zPS2 hPc hDc hK hXN) rfl rfl hl.1 rfl (lv_room (Nat.le_of_ble_eq_true rfl)) dX10_at_18 ⟨Nat.le_of_ble_eq_true rfl, Nat.le_of_ble_eq_true rfl⟩) hS hFc hFc rfl (fun t H1 locs ht hB hk1 hS => ?_)
    obtain ⟨hP1, hD1⟩ := hB
    rw [ht] at hP1
    obtain ⟨hP, hD⟩ := va_joinQ (wr := [(oc8 x (.ref sh) (.ref lw) (.ref ro) (.ref bq) (.ref bp) (.ref dq) (.ref dp) (.ref lv) (.ref sl) ds sd ul su), (oc7 sh (.ref fa) (nI ft)), (oq fa cF 200 FA), (oc1 fe2 (rk f0) (wd f0) (tw f0) (pa f0) (pb f0) (.ref lo2) (.ref lk2) fm2), (oc4 lk2 (kd f0) (st f0) .null (gb f0) (it f0) we2)]) (w1 := []) hP hD [] [0, 1, 2, 3, 4] rfl rfl (by decide) (by decide) hk1 hFc hP1 hD1
    clear hk1 hPc hDc hFc hP1 hD1 ht
    generalize H1 = H at hP hS ⊢
    have hP : va_P (dC, dI) classes ([(oc8 x (.ref sh) (.ref lw) (.ref ro) (.ref bq) (.ref bp) (.ref dq) (.ref dp) (.ref lv) (.ref sl) ds sd ul su), (oc7 sh (.ref fa) (nI ft)), (oq fa cF 200 FA), (oc1 fe2 (rk f0) (wd f0) (tw f0) (pa f0) (pb f0) (.ref lo2) (.ref lk2) fm2), (oc4 lk2 (kd f0) (st f0) .null (gb f0) (it f0) we2)] ++ va_pl T_1 f) H := hP
    have hD : va_D A ([(oc8 x (.ref sh) (.ref lw) (.ref ro) (.ref bq) (.ref bp) (.ref dq) (.ref dp) (.ref lv) (.ref sl) ds sd ul su), (oc7 sh (.ref fa) (nI ft)), (oq fa cF 200 FA), (oc1 fe2 (rk f0) (wd f0) (tw f0) (pa f0) (pb f0) (.ref lo2) (.ref lk2) fm2), (oc4 lk2 (kd f0) (st f0) .null (gb f0) (it f0) we2)] ++ va_pl T_1 f) := hD
    refine lv_if_ne (tgt := 26) hx hb dX10_at_21 (by decide) (fun c_1 => ?_) (fun c_1 => ?_)
    · have c_1 : (0 : Int32).toInt ≤ w.toInt ∧ w.toInt ≤ (1 : Int32).toInt := zp_1 c_1
      refine lv_aload hx hb dX10_at_26 (lv_at hl 0 rfl) ?_
      refine va_get (D := (dC, dI)) (ci := 1) (v := .ref lk2) (C := RX2) (T := TX2) (N := 8) hx hb hts inX2 hown hK hP 3 rfl rfl 6 (by decide) (hts _ mw_433) (fun _ h9 => h9) rfl dX10_at_28 ?_
      refine va_get (D := (dC, dI)) (ci := 4) (v := .null) (C := RX5) (T := TX5) (N := 6) hx hb hts inX5 hown hK hP 4 rfl rfl 2 (by decide) (hts _ mw_391) (fun _ h9 => h9) rfl dX10_at_31 ?_
      refine lv_astoreN (lv' := [(5, .null), (4, .ref fe2), (0, .ref x), (1, .int (nI f0)), (2, .int kv), (3, .int w)]) hx hb dX10_at_34 hl (by decide) rfl (fun ls hl => ?_)
      refine lv_aloadN hx hb dX10_at_36 (lv_at hl 0 rfl) ?_
      refine lv_ifnullN (tgt := 54) hx hb dX10_at_38 (by decide) ?_
      refine lv_iconst (v := (-1)) hx hb dX10_at_54 (by decide) ?_
      have hP := pl_back (cs := [(oc1 fe2 (rk f0) (wd f0) (tw f0) (pa f0) (pb f0) (.ref lo2) (.ref lk2) fm2), (oc4 lk2 (kd f0) (st f0) .null (gb f0) (it f0) we2)]) (L := L) (f := f) (X := [(oc8 x (.ref sh) (.ref lw) (.ref ro) (.ref bq) (.ref bp) (.ref dq) (.ref dp) (.ref lv) (.ref sl) ds sd ul su), (oc7 sh (.ref fa) (nI ft)), (oq fa cF 200 FA)]) (by rw [hT_1]; exact (show va_P (dC, dI) classes (([(oc8 x (.ref sh) (.ref lw) (.ref ro) (.ref bq) (.ref bp) (.ref dq) (.ref dp) (.ref lv) (.ref sl) ds sd ul su), (oc7 sh (.ref fa) (nI ft)), (oq fa cF 200 FA)] ++ [(oc1 fe2 (rk f0) (wd f0) (tw f0) (pa f0) (pb f0) (.ref lo2) (.ref lk2) fm2), (oc4 lk2 (kd f0) (st f0) .null (gb f0) (it f0) we2)]) ++ va_pl T_1 f) H from hP)) hc9_1
      have hD : va_D A ([(oc8 x (.ref sh) (.ref lw) (.ref ro) (.ref bq) (.ref bp) (.ref dq) (.ref dp) (.ref lv) (.ref sl) ds sd ul su), (oc7 sh (.ref fa) (nI ft)), (oq fa cF 200 FA)] ++ va_pl L f) := vaD_ae hD0_1 rfl
      have hP9 := hP.part (cx := [(oc8 x (.ref sh) (.ref lw) (.ref ro) (.ref bq) (.ref bp) (.ref dq) (.ref dp) (.ref lv) (.ref sl) ds sd ul su), (oc7 sh (.ref fa) (nI ft)), (oq fa cF 200 FA)]) [0, 1, 2] rfl
      have hD9 := hD.part (cx := [(oc8 x (.ref sh) (.ref lw) (.ref ro) (.ref bq) (.ref bp) (.ref dq) (.ref dp) (.ref lv) (.ref sl) ds sd ul su), (oc7 sh (.ref fa) (nI ft)), (oq fa cF 200 FA)]) [0, 1, 2] (by decide) rfl
      rw [hQ9]
      exact W.iret (v := (-1)) hx hb hr (fun t ht hW => ⟨⟨rfl, by rw [ht]; exact hP9, hD9⟩, hS.F ht⟩) hS.2.2 dX10_at_55
    · have c_1 : ¬ ((0 : Int32).toInt ≤ w.toInt ∧ w.toInt ≤ (1 : Int32).toInt) := zp_0 c_1
      refine lv_iconst (v := (-1)) hx hb dX10_at_24 (by decide) ?_
      have hP := pl_back (cs := [(oc1 fe2 (rk f0) (wd f0) (tw f0) (pa f0) (pb f0) (.ref lo2) (.ref lk2) fm2), (oc4 lk2 (kd f0) (st f0) .null (gb f0) (it f0) we2)]) (L := L) (f := f) (X := [(oc8 x (.ref sh) (.ref lw) (.ref ro) (.ref bq) (.ref bp) (.ref dq) (.ref dp) (.ref lv) (.ref sl) ds sd ul su), (oc7 sh (.ref fa) (nI ft)), (oq fa cF 200 FA)]) (by rw [hT_1]; exact (show va_P (dC, dI) classes (([(oc8 x (.ref sh) (.ref lw) (.ref ro) (.ref bq) (.ref bp) (.ref dq) (.ref dp) (.ref lv) (.ref sl) ds sd ul su), (oc7 sh (.ref fa) (nI ft)), (oq fa cF 200 FA)] ++ [(oc1 fe2 (rk f0) (wd f0) (tw f0) (pa f0) (pb f0) (.ref lo2) (.ref lk2) fm2), (oc4 lk2 (kd f0) (st f0) .null (gb f0) (it f0) we2)]) ++ va_pl T_1 f) H from hP)) hc9_1
      have hD : va_D A ([(oc8 x (.ref sh) (.ref lw) (.ref ro) (.ref bq) (.ref bp) (.ref dq) (.ref dp) (.ref lv) (.ref sl) ds sd ul su), (oc7 sh (.ref fa) (nI ft)), (oq fa cF 200 FA)] ++ va_pl L f) := vaD_ae hD0_1 rfl
      have hP9 := hP.part (cx := [(oc8 x (.ref sh) (.ref lw) (.ref ro) (.ref bq) (.ref bp) (.ref dq) (.ref dp) (.ref lv) (.ref sl) ds sd ul su), (oc7 sh (.ref fa) (nI ft)), (oq fa cF 200 FA)]) [0, 1, 2] rfl
      have hD9 := hD.part (cx := [(oc8 x (.ref sh) (.ref lw) (.ref ro) (.ref bq) (.ref bp) (.ref dq) (.ref dp) (.ref lv) (.ref sl) ds sd ul su), (oc7 sh (.ref fa) (nI ft)), (oq fa cF 200 FA)]) [0, 1, 2] (by decide) rfl
      rw [hQ9]
      exact W.iret (v := (-1)) hx hb hr (fun t ht hW => ⟨⟨rfl, by rw [ht]; exact hP9, hD9⟩, hS.F ht⟩) hS.2.2 dX10_at_25
  · skip
    have hcap2 := hrr2.1
    have hcap3 := hrr2.2.1
    have hc9_1 : inPl L f [(oc1 fe2 (rk f0) (wd f0) (tw f0) (pa f0) (pb f0) (.ref lo2) (.ref lk2) fm2), (oc4 lk2 (kd f0) (st f0) (.ref r2) (gb f0) (it f0) we2), (oc6 r2 (.ref rx2) (.ref ry2) (nI (nN (mn f0))) rg2), (oa rx2 cI cap2 U2), (oa ry2 cI cap2 V2)] := ⟨hfe2, hlk2, hr2, hrx2, hry2, trivial⟩
    have hD0_1 := hD
    obtain ⟨hP, hD⟩ := pl_out hP hD [(oc1 fe2 (rk f0) (wd f0) (tw f0) (pa f0) (pb f0) (.ref lo2) (.ref lk2) fm2), (oc4 lk2 (kd f0) (st f0) (.ref r2) (gb f0) (it f0) we2), (oc6 r2 (.ref rx2) (.ref ry2) (nI (nN (mn f0))) rg2), (oa rx2 cI cap2 U2), (oa ry2 cI cap2 V2)] hc9_1 (pwR hfe2.2 hlk2.2 hr2.2 hrx2.2 hry2.2 hne2)
    generalize hT_1 : outPl L [(oc1 fe2 (rk f0) (wd f0) (tw f0) (pa f0) (pb f0) (.ref lo2) (.ref lk2) fm2), (oc4 lk2 (kd f0) (st f0) (.ref r2) (gb f0) (it f0) we2), (oc6 r2 (.ref rx2) (.ref ry2) (nI (nN (mn f0))) rg2), (oa rx2 cI cap2 U2), (oa ry2 cI cap2 V2)] = T_1 at hP hD
    have hP : va_P (dC, dI) classes ([(oc8 x (.ref sh) (.ref lw) (.ref ro) (.ref bq) (.ref bp) (.ref dq) (.ref dp) (.ref lv) (.ref sl) ds sd ul su), (oc7 sh (.ref fa) (nI ft)), (oq fa cF 200 FA), (oc1 fe2 (rk f0) (wd f0) (tw f0) (pa f0) (pb f0) (.ref lo2) (.ref lk2) fm2), (oc4 lk2 (kd f0) (st f0) (.ref r2) (gb f0) (it f0) we2), (oc6 r2 (.ref rx2) (.ref ry2) (nI (nN (mn f0))) rg2), (oa rx2 cI cap2 U2), (oa ry2 cI cap2 V2)] ++ va_pl T_1 f) s.heap := hP
    have hD : va_D A ([(oc8 x (.ref sh) (.ref lw) (.ref ro) (.ref bq) (.ref bp) (.ref dq) (.ref dp) (.ref lv) (.ref sl) ds sd ul su), (oc7 sh (.ref fa) (nI ft)), (oq fa cF 200 FA), (oc1 fe2 (rk f0) (wd f0) (tw f0) (pa f0) (pb f0) (.ref lo2) (.ref lk2) fm2), (oc4 lk2 (kd f0) (st f0) (.ref r2) (gb f0) (it f0) we2), (oc6 r2 (.ref rx2) (.ref ry2) (nI (nN (mn f0))) rg2), (oa rx2 cI cap2 U2), (oa ry2 cI cap2 V2)] ++ va_pl T_1 f) := hD
    refine lv_aload_n hx hb dX10_at_0 rfl (lv_at hl 0 rfl) ?_
    refine va_get (D := (dC, dI)) (ci := 8) (v := .ref sh) (C := RX10) (T := TX10) (N := 13) hx hb hts inX10 hown hK hP 0 rfl rfl 0 (by decide) (hts _ mw_309) (fun _ h9 => h9) rfl dX10_at_1 ?_
    refine lv_iload_n hx hb dX10_at_4 rfl (lv_at hl 1 rfl) ?_
    have hPc := hP.sub (ws' := [(oc7 sh (.ref fa) (nI ft)), (oq fa cF 200 FA)]) [1, 2] rfl
    have hDc := hD.sub (ws' := [(oc7 sh (.ref fa) (nI ft)), (oq fa cF 200 FA)]) [1, 2] (by decide) rfl
    have hFc := va_free (wc := [(oc7 sh (.ref fa) (nI ft)), (oq fa cF 200 FA)]) hD hS hA [1, 2] rfl
    refine zcall (st1 := [.ref fe2]) (va_runV (As := [.int (nI f0)]) (rest := []) ⟨hx, hb, hml, hown, hts⟩ (k_Sheet_find l dC dI cI cZ cF s.heap.size sh fa ft FA f0 fe2 (by omega) (by omega) (hFA2)) (cwV 1 hts (zz_gV mw_498 mw_499 mw_500 mw_100 mc_yX8_find) rfl rfl rfl (by decide +kernel) ⟨Nat.le_of_ble_eq_true rfl, Nat.le_of_ble_eq_true rfl⟩) (zPV2 (q0 := 0) (ci := 7) hPc hDc hK hXN rfl rfl) rfl rfl hl.1 rfl (lv_room (Nat.le_of_ble_eq_true rfl)) dX10_at_5 ⟨Nat.le_of_ble_eq_true rfl, Nat.le_of_ble_eq_true rfl⟩) hS hFc hFc rfl (fun t H1 locs ht hB hk1 hS => ?_)
    obtain ⟨hP1, hD1⟩ := hB
    rw [ht] at hP1
    obtain ⟨hP, hD⟩ := va_joinQ (wr := [(oc8 x (.ref sh) (.ref lw) (.ref ro) (.ref bq) (.ref bp) (.ref dq) (.ref dp) (.ref lv) (.ref sl) ds sd ul su), (oc1 fe2 (rk f0) (wd f0) (tw f0) (pa f0) (pb f0) (.ref lo2) (.ref lk2) fm2), (oc4 lk2 (kd f0) (st f0) (.ref r2) (gb f0) (it f0) we2), (oc6 r2 (.ref rx2) (.ref ry2) (nI (nN (mn f0))) rg2), (oa rx2 cI cap2 U2), (oa ry2 cI cap2 V2)]) (w1 := [(oc7 sh (.ref fa) (nI ft)), (oq fa cF 200 FA)]) hP hD [1, 2] [0, 3, 4, 5, 6, 7] rfl rfl (by decide) (by decide) hk1 hFc hP1 hD1
    clear hk1 hPc hDc hFc hP1 hD1 ht
    generalize H1 = H at hP hS ⊢
    have hP := hP.part (cx := [(oc8 x (.ref sh) (.ref lw) (.ref ro) (.ref bq) (.ref bp) (.ref dq) (.ref dp) (.ref lv) (.ref sl) ds sd ul su), (oc7 sh (.ref fa) (nI ft)), (oq fa cF 200 FA), (oc1 fe2 (rk f0) (wd f0) (tw f0) (pa f0) (pb f0) (.ref lo2) (.ref lk2) fm2), (oc4 lk2 (kd f0) (st f0) (.ref r2) (gb f0) (it f0) we2), (oc6 r2 (.ref rx2) (.ref ry2) (nI (nN (mn f0))) rg2), (oa rx2 cI cap2 U2), (oa ry2 cI cap2 V2)]) [0, 6, 7, 1, 2, 3, 4, 5] rfl
    have hD := hD.part (cx := [(oc8 x (.ref sh) (.ref lw) (.ref ro) (.ref bq) (.ref bp) (.ref dq) (.ref dp) (.ref lv) (.ref sl) ds sd ul su), (oc7 sh (.ref fa) (nI ft)), (oq fa cF 200 FA), (oc1 fe2 (rk f0) (wd f0) (tw f0) (pa f0) (pb f0) (.ref lo2) (.ref lk2) fm2), (oc4 lk2 (kd f0) (st f0) (.ref r2) (gb f0) (it f0) we2), (oc6 r2 (.ref rx2) (.ref ry2) (nI (nN (mn f0))) rg2), (oa rx2 cI cap2 U2), (oa ry2 cI cap2 V2)]) [0, 6, 7, 1, 2, 3, 4, 5] (by decide) rfl
    have hP : va_P (dC, dI) classes ([(oc8 x (.ref sh) (.ref lw) (.ref ro) (.ref bq) (.ref bp) (.ref dq) (.ref dp) (.ref lv) (.ref sl) ds sd ul su), (oc7 sh (.ref fa) (nI ft)), (oq fa cF 200 FA), (oc1 fe2 (rk f0) (wd f0) (tw f0) (pa f0) (pb f0) (.ref lo2) (.ref lk2) fm2), (oc4 lk2 (kd f0) (st f0) (.ref r2) (gb f0) (it f0) we2), (oc6 r2 (.ref rx2) (.ref ry2) (nI (nN (mn f0))) rg2), (oa rx2 cI cap2 U2), (oa ry2 cI cap2 V2)] ++ va_pl T_1 f) H := hP
    have hD : va_D A ([(oc8 x (.ref sh) (.ref lw) (.ref ro) (.ref bq) (.ref bp) (.ref dq) (.ref dp) (.ref lv) (.ref sl) ds sd ul su), (oc7 sh (.ref fa) (nI ft)), (oq fa cF 200 FA), (oc1 fe2 (rk f0) (wd f0) (tw f0) (pa f0) (pb f0) (.ref lo2) (.ref lk2) fm2), (oc4 lk2 (kd f0) (st f0) (.ref r2) (gb f0) (it f0) we2), (oc6 r2 (.ref rx2) (.ref ry2) (nI (nN (mn f0))) rg2), (oa rx2 cI cap2 U2), (oa ry2 cI cap2 V2)] ++ va_pl T_1 f) := hD
    refine lv_astore (lv' := [(4, .ref fe2), (0, .ref x), (1, .int (nI f0)), (2, .int kv), (3, .int w)]) hx hb dX10_at_8 hl (by decide) rfl (fun ls hl => ?_)
    refine lv_aload hx hb dX10_at_10 (lv_at hl 0 rfl) ?_
    refine lv_ifnull hx hb dX10_at_12 ?_
    refine lv_iload_n hx hb dX10_at_15 rfl (lv_at hl 4 rfl) ?_
    refine lv_iconst (v := 0) hx hb dX10_at_16 (by decide) ?_
    refine lv_iconst (v := 1) hx hb dX10_at_17 (by decide) ?_
    have hPc := hP.sub (ws' := []) [] rfl
    have hDc := hD.sub (ws' := []) [] (by decide) rfl
    have hFc := va_free (wc := []) hD hS hA [] rfl
    refine zcall (st1 := [.int (pI ((0 : Int32).toInt ≤ w.toInt ∧ w.toInt ≤ (1 : Int32).toInt))]) (va_runS (As := [.int w, .int 0, .int 1]) (rest := []) ⟨hx, hb, hml, hown, hts⟩ (k_isWithin l dC dI cI cZ cF H.size w 0 1 ) (va_cwS 3 hts (zz_gS mw_353 mw_354 mw_99 mc_yX10_isWithin) rfl rfl rfl (by decide +kernel) ⟨Nat.le_of_ble_eq_true rfl, Nat.le_of_ble_eq_true rfl⟩) (zPS2 hPc hDc hK hXN) rfl rfl hl.1 rfl (lv_room (Nat.le_of_ble_eq_true rfl)) dX10_at_18 ⟨Nat.le_of_ble_eq_true rfl, Nat.le_of_ble_eq_true rfl⟩) hS hFc hFc rfl (fun t H1 locs ht hB hk1 hS => ?_)
    obtain ⟨hP1, hD1⟩ := hB
    rw [ht] at hP1
    obtain ⟨hP, hD⟩ := va_joinQ (wr := [(oc8 x (.ref sh) (.ref lw) (.ref ro) (.ref bq) (.ref bp) (.ref dq) (.ref dp) (.ref lv) (.ref sl) ds sd ul su), (oc7 sh (.ref fa) (nI ft)), (oq fa cF 200 FA), (oc1 fe2 (rk f0) (wd f0) (tw f0) (pa f0) (pb f0) (.ref lo2) (.ref lk2) fm2), (oc4 lk2 (kd f0) (st f0) (.ref r2) (gb f0) (it f0) we2), (oc6 r2 (.ref rx2) (.ref ry2) (nI (nN (mn f0))) rg2), (oa rx2 cI cap2 U2), (oa ry2 cI cap2 V2)]) (w1 := []) hP hD [] [0, 1, 2, 3, 4, 5, 6, 7] rfl rfl (by decide) (by decide) hk1 hFc hP1 hD1
    clear hk1 hPc hDc hFc hP1 hD1 ht
    generalize H1 = H at hP hS ⊢
    have hP : va_P (dC, dI) classes ([(oc8 x (.ref sh) (.ref lw) (.ref ro) (.ref bq) (.ref bp) (.ref dq) (.ref dp) (.ref lv) (.ref sl) ds sd ul su), (oc7 sh (.ref fa) (nI ft)), (oq fa cF 200 FA), (oc1 fe2 (rk f0) (wd f0) (tw f0) (pa f0) (pb f0) (.ref lo2) (.ref lk2) fm2), (oc4 lk2 (kd f0) (st f0) (.ref r2) (gb f0) (it f0) we2), (oc6 r2 (.ref rx2) (.ref ry2) (nI (nN (mn f0))) rg2), (oa rx2 cI cap2 U2), (oa ry2 cI cap2 V2)] ++ va_pl T_1 f) H := hP
    have hD : va_D A ([(oc8 x (.ref sh) (.ref lw) (.ref ro) (.ref bq) (.ref bp) (.ref dq) (.ref dp) (.ref lv) (.ref sl) ds sd ul su), (oc7 sh (.ref fa) (nI ft)), (oq fa cF 200 FA), (oc1 fe2 (rk f0) (wd f0) (tw f0) (pa f0) (pb f0) (.ref lo2) (.ref lk2) fm2), (oc4 lk2 (kd f0) (st f0) (.ref r2) (gb f0) (it f0) we2), (oc6 r2 (.ref rx2) (.ref ry2) (nI (nN (mn f0))) rg2), (oa rx2 cI cap2 U2), (oa ry2 cI cap2 V2)] ++ va_pl T_1 f) := hD
    refine lv_if_ne (tgt := 26) hx hb dX10_at_21 (by decide) (fun c_2 => ?_) (fun c_2 => ?_)
    · have c_2 : (0 : Int32).toInt ≤ w.toInt ∧ w.toInt ≤ (1 : Int32).toInt := zp_1 c_2
      refine lv_aload hx hb dX10_at_26 (lv_at hl 0 rfl) ?_
      refine va_get (D := (dC, dI)) (ci := 1) (v := .ref lk2) (C := RX2) (T := TX2) (N := 8) hx hb hts inX2 hown hK hP 3 rfl rfl 6 (by decide) (hts _ mw_433) (fun _ h9 => h9) rfl dX10_at_28 ?_
      refine va_get (D := (dC, dI)) (ci := 4) (v := .ref r2) (C := RX5) (T := TX5) (N := 6) hx hb hts inX5 hown hK hP 4 rfl rfl 2 (by decide) (hts _ mw_391) (fun _ h9 => h9) rfl dX10_at_31 ?_
      refine lv_astore (lv' := [(5, .ref r2), (4, .ref fe2), (0, .ref x), (1, .int (nI f0)), (2, .int kv), (3, .int w)]) hx hb dX10_at_34 hl (by decide) rfl (fun ls hl => ?_)
      refine lv_aload hx hb dX10_at_36 (lv_at hl 0 rfl) ?_
      refine lv_ifnull hx hb dX10_at_38 ?_
      refine lv_iload_n hx hb dX10_at_41 rfl (lv_at hl 4 rfl) ?_
      refine lv_if_lt (tgt := 54) hx hb dX10_at_42 (by decide) (fun c_3 => ?_) (fun c_3 => ?_)
      · have c_3 : kv.toInt < 0 := zc_lt rfl (by decide) c_3
        refine lv_iconst (v := (-1)) hx hb dX10_at_54 (by decide) ?_
        have hP := pl_back (cs := [(oc1 fe2 (rk f0) (wd f0) (tw f0) (pa f0) (pb f0) (.ref lo2) (.ref lk2) fm2), (oc4 lk2 (kd f0) (st f0) (.ref r2) (gb f0) (it f0) we2), (oc6 r2 (.ref rx2) (.ref ry2) (nI (nN (mn f0))) rg2), (oa rx2 cI cap2 U2), (oa ry2 cI cap2 V2)]) (L := L) (f := f) (X := [(oc8 x (.ref sh) (.ref lw) (.ref ro) (.ref bq) (.ref bp) (.ref dq) (.ref dp) (.ref lv) (.ref sl) ds sd ul su), (oc7 sh (.ref fa) (nI ft)), (oq fa cF 200 FA)]) (by rw [hT_1]; exact (show va_P (dC, dI) classes (([(oc8 x (.ref sh) (.ref lw) (.ref ro) (.ref bq) (.ref bp) (.ref dq) (.ref dp) (.ref lv) (.ref sl) ds sd ul su), (oc7 sh (.ref fa) (nI ft)), (oq fa cF 200 FA)] ++ [(oc1 fe2 (rk f0) (wd f0) (tw f0) (pa f0) (pb f0) (.ref lo2) (.ref lk2) fm2), (oc4 lk2 (kd f0) (st f0) (.ref r2) (gb f0) (it f0) we2), (oc6 r2 (.ref rx2) (.ref ry2) (nI (nN (mn f0))) rg2), (oa rx2 cI cap2 U2), (oa ry2 cI cap2 V2)]) ++ va_pl T_1 f) H from hP)) hc9_1
        have hD : va_D A ([(oc8 x (.ref sh) (.ref lw) (.ref ro) (.ref bq) (.ref bp) (.ref dq) (.ref dp) (.ref lv) (.ref sl) ds sd ul su), (oc7 sh (.ref fa) (nI ft)), (oq fa cF 200 FA)] ++ va_pl L f) := vaD_ae hD0_1 rfl
        have hP9 := hP.part (cx := [(oc8 x (.ref sh) (.ref lw) (.ref ro) (.ref bq) (.ref bp) (.ref dq) (.ref dp) (.ref lv) (.ref sl) ds sd ul su), (oc7 sh (.ref fa) (nI ft)), (oq fa cF 200 FA)]) [0, 1, 2] rfl
        have hD9 := hD.part (cx := [(oc8 x (.ref sh) (.ref lw) (.ref ro) (.ref bq) (.ref bp) (.ref dq) (.ref dp) (.ref lv) (.ref sl) ds sd ul su), (oc7 sh (.ref fa) (nI ft)), (oq fa cF 200 FA)]) [0, 1, 2] (by decide) rfl
        rw [hQ9]
        exact W.iret (v := (-1)) hx hb hr (fun t ht hW => ⟨⟨rfl, by rw [ht]; exact hP9, hD9⟩, hS.F ht⟩) hS.2.2 dX10_at_55
      · have c_3 : 0 ≤ kv.toInt := zc_nlt rfl (by decide) c_3
        refine lv_iload_n hx hb dX10_at_45 rfl (lv_at hl 4 rfl) ?_
        refine lv_aload hx hb dX10_at_46 (lv_at hl 0 rfl) ?_
        refine va_get (D := (dC, dI)) (ci := 6) (v := .int (nI (nN (mn f0)))) (C := RX7) (T := TX7) (N := 4) hx hb hts inX7 hown hK hP 5 rfl rfl 2 (by decide) (hts _ mw_179) (fun _ h9 => h9) rfl dX10_at_48 ?_
        refine lv_icmp_lt (tgt := 56) hx hb dX10_at_51 (by decide) (fun c_4 => ?_) (fun c_4 => ?_)
        · have c_4 : kv.toInt < ((nN (mn f0) : Nat) : Int) := zc_lt rfl (nI_toInt (by omega)) c_4
          exfalso; omega
        · have c_4 : ((nN (mn f0) : Nat) : Int) ≤ kv.toInt := zc_nlt rfl (nI_toInt (by omega)) c_4
          refine lv_iconst (v := (-1)) hx hb dX10_at_54 (by decide) ?_
          have hP := pl_back (cs := [(oc1 fe2 (rk f0) (wd f0) (tw f0) (pa f0) (pb f0) (.ref lo2) (.ref lk2) fm2), (oc4 lk2 (kd f0) (st f0) (.ref r2) (gb f0) (it f0) we2), (oc6 r2 (.ref rx2) (.ref ry2) (nI (nN (mn f0))) rg2), (oa rx2 cI cap2 U2), (oa ry2 cI cap2 V2)]) (L := L) (f := f) (X := [(oc8 x (.ref sh) (.ref lw) (.ref ro) (.ref bq) (.ref bp) (.ref dq) (.ref dp) (.ref lv) (.ref sl) ds sd ul su), (oc7 sh (.ref fa) (nI ft)), (oq fa cF 200 FA)]) (by rw [hT_1]; exact (show va_P (dC, dI) classes (([(oc8 x (.ref sh) (.ref lw) (.ref ro) (.ref bq) (.ref bp) (.ref dq) (.ref dp) (.ref lv) (.ref sl) ds sd ul su), (oc7 sh (.ref fa) (nI ft)), (oq fa cF 200 FA)] ++ [(oc1 fe2 (rk f0) (wd f0) (tw f0) (pa f0) (pb f0) (.ref lo2) (.ref lk2) fm2), (oc4 lk2 (kd f0) (st f0) (.ref r2) (gb f0) (it f0) we2), (oc6 r2 (.ref rx2) (.ref ry2) (nI (nN (mn f0))) rg2), (oa rx2 cI cap2 U2), (oa ry2 cI cap2 V2)]) ++ va_pl T_1 f) H from hP)) hc9_1
          have hD : va_D A ([(oc8 x (.ref sh) (.ref lw) (.ref ro) (.ref bq) (.ref bp) (.ref dq) (.ref dp) (.ref lv) (.ref sl) ds sd ul su), (oc7 sh (.ref fa) (nI ft)), (oq fa cF 200 FA)] ++ va_pl L f) := vaD_ae hD0_1 rfl
          have hP9 := hP.part (cx := [(oc8 x (.ref sh) (.ref lw) (.ref ro) (.ref bq) (.ref bp) (.ref dq) (.ref dp) (.ref lv) (.ref sl) ds sd ul su), (oc7 sh (.ref fa) (nI ft)), (oq fa cF 200 FA)]) [0, 1, 2] rfl
          have hD9 := hD.part (cx := [(oc8 x (.ref sh) (.ref lw) (.ref ro) (.ref bq) (.ref bp) (.ref dq) (.ref dp) (.ref lv) (.ref sl) ds sd ul su), (oc7 sh (.ref fa) (nI ft)), (oq fa cF 200 FA)]) [0, 1, 2] (by decide) rfl
          rw [hQ9]
          exact W.iret (v := (-1)) hx hb hr (fun t ht hW => ⟨⟨rfl, by rw [ht]; exact hP9, hD9⟩, hS.F ht⟩) hS.2.2 dX10_at_55
    · have c_2 : ¬ ((0 : Int32).toInt ≤ w.toInt ∧ w.toInt ≤ (1 : Int32).toInt) := zp_0 c_2
      refine lv_iconst (v := (-1)) hx hb dX10_at_24 (by decide) ?_
      have hP := pl_back (cs := [(oc1 fe2 (rk f0) (wd f0) (tw f0) (pa f0) (pb f0) (.ref lo2) (.ref lk2) fm2), (oc4 lk2 (kd f0) (st f0) (.ref r2) (gb f0) (it f0) we2), (oc6 r2 (.ref rx2) (.ref ry2) (nI (nN (mn f0))) rg2), (oa rx2 cI cap2 U2), (oa ry2 cI cap2 V2)]) (L := L) (f := f) (X := [(oc8 x (.ref sh) (.ref lw) (.ref ro) (.ref bq) (.ref bp) (.ref dq) (.ref dp) (.ref lv) (.ref sl) ds sd ul su), (oc7 sh (.ref fa) (nI ft)), (oq fa cF 200 FA)]) (by rw [hT_1]; exact (show va_P (dC, dI) classes (([(oc8 x (.ref sh) (.ref lw) (.ref ro) (.ref bq) (.ref bp) (.ref dq) (.ref dp) (.ref lv) (.ref sl) ds sd ul su), (oc7 sh (.ref fa) (nI ft)), (oq fa cF 200 FA)] ++ [(oc1 fe2 (rk f0) (wd f0) (tw f0) (pa f0) (pb f0) (.ref lo2) (.ref lk2) fm2), (oc4 lk2 (kd f0) (st f0) (.ref r2) (gb f0) (it f0) we2), (oc6 r2 (.ref rx2) (.ref ry2) (nI (nN (mn f0))) rg2), (oa rx2 cI cap2 U2), (oa ry2 cI cap2 V2)]) ++ va_pl T_1 f) H from hP)) hc9_1
      have hD : va_D A ([(oc8 x (.ref sh) (.ref lw) (.ref ro) (.ref bq) (.ref bp) (.ref dq) (.ref dp) (.ref lv) (.ref sl) ds sd ul su), (oc7 sh (.ref fa) (nI ft)), (oq fa cF 200 FA)] ++ va_pl L f) := vaD_ae hD0_1 rfl
      have hP9 := hP.part (cx := [(oc8 x (.ref sh) (.ref lw) (.ref ro) (.ref bq) (.ref bp) (.ref dq) (.ref dp) (.ref lv) (.ref sl) ds sd ul su), (oc7 sh (.ref fa) (nI ft)), (oq fa cF 200 FA)]) [0, 1, 2] rfl
      have hD9 := hD.part (cx := [(oc8 x (.ref sh) (.ref lw) (.ref ro) (.ref bq) (.ref bp) (.ref dq) (.ref dp) (.ref lv) (.ref sl) ds sd ul su), (oc7 sh (.ref fa) (nI ft)), (oq fa cF 200 FA)]) [0, 1, 2] (by decide) rfl
      rw [hQ9]
      exact W.iret (v := (-1)) hx hb hr (fun t ht hW => ⟨⟨rfl, by rw [ht]; exact hP9, hD9⟩, hS.F ht⟩) hS.2.2 dX10_at_25
set_option maxHeartbeats 4000000 in
set_option maxRecDepth 100000 in
theorem k_at_0 (l : Launch) (dC : Nat → ClassId) (dI : Nat → Nat → Nat) (cI cZ cF : ClassId) (sz : Nat) (x : Nat) (sh : Nat) (lw : Nat) (ro : Nat) (bq : Nat) (bp : Nat) (dq : Nat) (dp : Nat) (lv : Nat) (sl : Nat) (sd : Int32) (ul : Int32) (su : Int32) (ds : Int32) (fa : Nat) (ft : Nat) (FA : Nat → Option Nat) (f0 : Nat) (L : List Nat) (f : Nat → va_E) (kd : Nat → Int32) (st : Nat → Int32) (tn : Nat → Int32) (mn : Nat → Int32) (cx : Nat → Int32) (cy : Nat → Int32) (rk : Nat → Int32) (wd : Nat → Int32) (tw : Nat → Int32) (pa : Nat → Int32) (pb : Nat → Int32) (gb : Nat → Int32) (it : Nat → Int32) (k : Nat) (h200 : ft ≤ 200) (hf0 : f0 < ft) (hva : ∀ q, q < ft → vwA cI L f FA rk wd tw pa pb kd st gb it tn mn cx cy q) (htn : (tn f0).toInt = 0) (hk9 : k < nN (mn f0)) : Met l yX10_at (.code yX10_at cX10_at 6 (some .int) :: ws0) ({ frames := 1, cells := 0, slots := 0, locals := 22 } : Room) (va_Pc [.ref x, .int (nI f0), .int (nI k), .int 0] (zPre (dC, dI) classes (zTy cI cZ cF) ([(oc8 x (.ref sh) (.ref lw) (.ref ro) (.ref bq) (.ref bp) (.ref dq) (.ref dp) (.ref lv) (.ref sl) ds sd ul su), (oc7 sh (.ref fa) (nI ft)), (oq fa cF 200 FA)] ++ va_pl L f) sz zXN)) (zQ (some (.int (cF40 cx f0 k))) (fun t => va_P (dC, dI) classes ([(oc8 x (.ref sh) (.ref lw) (.ref ro) (.ref bq) (.ref bp) (.ref dq) (.ref dp) (.ref lv) (.ref sl) ds sd ul su), (oc7 sh (.ref fa) (nI ft)), (oq fa cF 200 FA)] ++ va_pl L f) t.heap ∧ va_D (va_A ([(oc8 x (.ref sh) (.ref lw) (.ref ro) (.ref bq) (.ref bp) (.ref dq) (.ref dp) (.ref lv) (.ref sl) ds sd ul su), (oc7 sh (.ref fa) (nI ft)), (oq fa cF 200 FA)] ++ va_pl L f) sz) ([(oc8 x (.ref sh) (.ref lw) (.ref ro) (.ref bq) (.ref bp) (.ref dq) (.ref dp) (.ref lv) (.ref sl) ds sd ul su), (oc7 sh (.ref fa) (nI ft)), (oq fa cF 200 FA)] ++ va_pl L f)) (va_A ([(oc8 x (.ref sh) (.ref lw) (.ref ro) (.ref bq) (.ref bp) (.ref dq) (.ref dp) (.ref lv) (.ref sl) ds sd ul su), (oc7 sh (.ref fa) (nI ft)), (oq fa cF 200 FA)] ++ va_pl L f) sz)) 0 0 (va_A ([(oc8 x (.ref sh) (.ref lw) (.ref ro) (.ref bq) (.ref bp) (.ref dq) (.ref dp) (.ref lv) (.ref sl) ds sd ul su), (oc7 sh (.ref fa) (nI ft)), (oq fa cF 200 FA)] ++ va_pl L f) sz) := by
  refine Met.ofW (cc := cX10_at) (maxL := 6) (ret := (some .int)) (by decide) rfl ?_
  intro p e s m args below meth c s₁ B hml hv
  obtain ⟨rfl, hsz, hP, hK, hD0, hXN⟩ := hv
  have hx := B.exec
  have hb := B.bytes
  have hr := B.returns
  have hts0 := atoms_spec (ws := .code yX10_at cX10_at 6 (some .int) :: ws0) B.pre
  have hts : ∀ w9 ∈ ws0, w9.before ([.ref x, .int (nI f0), .int (nI k), .int 0] : List Value).toArray s = true := fun w9 h => hts0 w9 (List.mem_cons_of_mem _ h)
  have hown : s.vm.findClass "ScaleShop" = some m.cls := findClass_of_methodNamed B.named
  have hlocks := B.notSynchronized
  subst hsz
  have hD := hD0.self (sz := s.heap.size)
  clear hD0
  generalize hAe : va_A ([(oc8 x (.ref sh) (.ref lw) (.ref ro) (.ref bq) (.ref bp) (.ref dq) (.ref dp) (.ref lv) (.ref sl) ds sd ul su), (oc7 sh (.ref fa) (nI ft)), (oq fa cF 200 FA)] ++ va_pl L f) s.heap.size = A at hD ⊢
  have hA : ∀ q : Nat, s.heap.size ≤ q → A q := fun q h => by rw [← hAe]; exact Or.inr h
  clear hAe
  have hS : va_S A s.heap s.heap [] := va_S.rf
  have hP : va_P (dC, dI) classes ([(oc8 x (.ref sh) (.ref lw) (.ref ro) (.ref bq) (.ref bp) (.ref dq) (.ref dp) (.ref lv) (.ref sl) ds sd ul su), (oc7 sh (.ref fa) (nI ft)), (oq fa cF 200 FA)] ++ va_pl L f) s.heap := hP
  obtain ⟨Q9, hQ9⟩ : ∃ Q9 : State → Prop, Q9 = MQ below (zQ (some (.int (cF40 cx f0 k))) (fun t => va_P (dC, dI) classes ([(oc8 x (.ref sh) (.ref lw) (.ref ro) (.ref bq) (.ref bp) (.ref dq) (.ref dp) (.ref lv) (.ref sl) ds sd ul su), (oc7 sh (.ref fa) (nI ft)), (oq fa cF 200 FA)] ++ va_pl L f) t.heap ∧ va_D A ([(oc8 x (.ref sh) (.ref lw) (.ref ro) (.ref bq) (.ref bp) (.ref dq) (.ref dp) (.ref lv) (.ref sl) ds sd ul su), (oc7 sh (.ref fa) (nI ft)), (oq fa cF 200 FA)] ++ va_pl L f)) A) ([.ref x, .int (nI f0), .int (nI k), .int 0] : List Value).toArray s 0 0 A := ⟨_, rfl⟩
  rw [← hQ9]
  have hl := lv_entry ([.ref x, .int (nI f0), .int (nI k), .int 0]) (n := 6) (Nat.le_of_ble_eq_true rfl)
  rw [lg_entry_eq]
  generalize (lg_sl ([.ref x, .int (nI f0), .int (nI k), .int 0]) ++ List.replicate (6 - (lg_sl ([.ref x, .int (nI f0), .int (nI k), .int 0])).length) Slot.unset).toArray = ls at hl ⊢
  have hl : lv_has ls 6 [(0, .ref x), (1, .int (nI f0)), (2, .int (nI k)), (3, .int 0)] := hl
  have e_0 : (0 : Int32).toInt = 0 := (by decide)
  have e_1 : (1 : Int32).toInt = 1 := (by decide)
  rcases vwA_2 (hva f0 (by omega)) with ⟨ht2, fe2, lk2, lo2, we2, fm2, hFA2, hfe2, hlk2⟩ | ⟨ht2, fe2, lk2, lo2, we2, fm2, r2, rx2, ry2, cap2, U2, V2, rg2, hFA2, hfe2, hlk2, ⟨hr2, hrx2, hry2, hne2⟩, hrr2⟩
  · skip
    have hc9_1 : inPl L f [(oc1 fe2 (rk f0) (wd f0) (tw f0) (pa f0) (pb f0) (.ref lo2) (.ref lk2) fm2), (oc4 lk2 (kd f0) (st f0) .null (gb f0) (it f0) we2)] := ⟨hfe2, hlk2, trivial⟩
    have hD0_1 := hD
    obtain ⟨hP, hD⟩ := pl_out hP hD [(oc1 fe2 (rk f0) (wd f0) (tw f0) (pa f0) (pb f0) (.ref lo2) (.ref lk2) fm2), (oc4 lk2 (kd f0) (st f0) .null (gb f0) (it f0) we2)] hc9_1 (pwF hfe2.2 hlk2.2)
    generalize hT_1 : outPl L [(oc1 fe2 (rk f0) (wd f0) (tw f0) (pa f0) (pb f0) (.ref lo2) (.ref lk2) fm2), (oc4 lk2 (kd f0) (st f0) .null (gb f0) (it f0) we2)] = T_1 at hP hD
    have hP : va_P (dC, dI) classes ([(oc8 x (.ref sh) (.ref lw) (.ref ro) (.ref bq) (.ref bp) (.ref dq) (.ref dp) (.ref lv) (.ref sl) ds sd ul su), (oc7 sh (.ref fa) (nI ft)), (oq fa cF 200 FA), (oc1 fe2 (rk f0) (wd f0) (tw f0) (pa f0) (pb f0) (.ref lo2) (.ref lk2) fm2), (oc4 lk2 (kd f0) (st f0) .null (gb f0) (it f0) we2)] ++ va_pl T_1 f) s.heap := hP
    have hD : va_D A ([(oc8 x (.ref sh) (.ref lw) (.ref ro) (.ref bq) (.ref bp) (.ref dq) (.ref dp) (.ref lv) (.ref sl) ds sd ul su), (oc7 sh (.ref fa) (nI ft)), (oq fa cF 200 FA), (oc1 fe2 (rk f0) (wd f0) (tw f0) (pa f0) (pb f0) (.ref lo2) (.ref lk2) fm2), (oc4 lk2 (kd f0) (st f0) .null (gb f0) (it f0) we2)] ++ va_pl T_1 f) := hD
    refine lv_aload_n hx hb dX10_at_0 rfl (lv_at hl 0 rfl) ?_
    refine va_get (D := (dC, dI)) (ci := 8) (v := .ref sh) (C := RX10) (T := TX10) (N := 13) hx hb hts inX10 hown hK hP 0 rfl rfl 0 (by decide) (hts _ mw_309) (fun _ h9 => h9) rfl dX10_at_1 ?_
    refine lv_iload_n hx hb dX10_at_4 rfl (lv_at hl 1 rfl) ?_
    have hPc := hP.sub (ws' := [(oc7 sh (.ref fa) (nI ft)), (oq fa cF 200 FA)]) [1, 2] rfl
    have hDc := hD.sub (ws' := [(oc7 sh (.ref fa) (nI ft)), (oq fa cF 200 FA)]) [1, 2] (by decide) rfl
    have hFc := va_free (wc := [(oc7 sh (.ref fa) (nI ft)), (oq fa cF 200 FA)]) hD hS hA [1, 2] rfl
    refine zcall (st1 := [.ref fe2]) (va_runV (As := [.int (nI f0)]) (rest := []) ⟨hx, hb, hml, hown, hts⟩ (k_Sheet_find l dC dI cI cZ cF s.heap.size sh fa ft FA f0 fe2 (by omega) (by omega) (hFA2)) (cwV 1 hts (zz_gV mw_498 mw_499 mw_500 mw_100 mc_yX8_find) rfl rfl rfl (by decide +kernel) ⟨Nat.le_of_ble_eq_true rfl, Nat.le_of_ble_eq_true rfl⟩) (zPV2 (q0 := 0) (ci := 7) hPc hDc hK hXN rfl rfl) rfl rfl hl.1 rfl (lv_room (Nat.le_of_ble_eq_true rfl)) dX10_at_5 ⟨Nat.le_of_ble_eq_true rfl, Nat.le_of_ble_eq_true rfl⟩) hS hFc hFc rfl (fun t H1 locs ht hB hk1 hS => ?_)
    obtain ⟨hP1, hD1⟩ := hB
    rw [ht] at hP1
    obtain ⟨hP, hD⟩ := va_joinQ (wr := [(oc8 x (.ref sh) (.ref lw) (.ref ro) (.ref bq) (.ref bp) (.ref dq) (.ref dp) (.ref lv) (.ref sl) ds sd ul su), (oc1 fe2 (rk f0) (wd f0) (tw f0) (pa f0) (pb f0) (.ref lo2) (.ref lk2) fm2), (oc4 lk2 (kd f0) (st f0) .null (gb f0) (it f0) we2)]) (w1 := [(oc7 sh (.ref fa) (nI ft)), (oq fa cF 200 FA)]) hP hD [1, 2] [0, 3, 4] rfl rfl (by decide) (by decide) hk1 hFc hP1 hD1
    clear hk1 hPc hDc hFc hP1 hD1 ht
    generalize H1 = H at hP hS ⊢
    have hP := hP.part (cx := [(oc8 x (.ref sh) (.ref lw) (.ref ro) (.ref bq) (.ref bp) (.ref dq) (.ref dp) (.ref lv) (.ref sl) ds sd ul su), (oc7 sh (.ref fa) (nI ft)), (oq fa cF 200 FA), (oc1 fe2 (rk f0) (wd f0) (tw f0) (pa f0) (pb f0) (.ref lo2) (.ref lk2) fm2), (oc4 lk2 (kd f0) (st f0) .null (gb f0) (it f0) we2)]) [0, 3, 4, 1, 2] rfl
    have hD := hD.part (cx := [(oc8 x (.ref sh) (.ref lw) (.ref ro) (.ref bq) (.ref bp) (.ref dq) (.ref dp) (.ref lv) (.ref sl) ds sd ul su), (oc7 sh (.ref fa) (nI ft)), (oq fa cF 200 FA), (oc1 fe2 (rk f0) (wd f0) (tw f0) (pa f0) (pb f0) (.ref lo2) (.ref lk2) fm2), (oc4 lk2 (kd f0) (st f0) .null (gb f0) (it f0) we2)]) [0, 3, 4, 1, 2] (by decide) rfl
    have hP : va_P (dC, dI) classes ([(oc8 x (.ref sh) (.ref lw) (.ref ro) (.ref bq) (.ref bp) (.ref dq) (.ref dp) (.ref lv) (.ref sl) ds sd ul su), (oc7 sh (.ref fa) (nI ft)), (oq fa cF 200 FA), (oc1 fe2 (rk f0) (wd f0) (tw f0) (pa f0) (pb f0) (.ref lo2) (.ref lk2) fm2), (oc4 lk2 (kd f0) (st f0) .null (gb f0) (it f0) we2)] ++ va_pl T_1 f) H := hP
    have hD : va_D A ([(oc8 x (.ref sh) (.ref lw) (.ref ro) (.ref bq) (.ref bp) (.ref dq) (.ref dp) (.ref lv) (.ref sl) ds sd ul su), (oc7 sh (.ref fa) (nI ft)), (oq fa cF 200 FA), (oc1 fe2 (rk f0) (wd f0) (tw f0) (pa f0) (pb f0) (.ref lo2) (.ref lk2) fm2), (oc4 lk2 (kd f0) (st f0) .null (gb f0) (it f0) we2)] ++ va_pl T_1 f) := hD
    refine lv_astore (lv' := [(4, .ref fe2), (0, .ref x), (1, .int (nI f0)), (2, .int (nI k)), (3, .int 0)]) hx hb dX10_at_8 hl (by decide) rfl (fun ls hl => ?_)
    refine lv_aload hx hb dX10_at_10 (lv_at hl 0 rfl) ?_
    refine lv_ifnull hx hb dX10_at_12 ?_
    refine lv_iload_n hx hb dX10_at_15 rfl (lv_at hl 4 rfl) ?_
    refine lv_iconst (v := 0) hx hb dX10_at_16 (by decide) ?_
    refine lv_iconst (v := 1) hx hb dX10_at_17 (by decide) ?_
    have hPc := hP.sub (ws' := []) [] rfl
    have hDc := hD.sub (ws' := []) [] (by decide) rfl
    have hFc := va_free (wc := []) hD hS hA [] rfl
    refine zcall (st1 := [.int (pI ((0 : Int32).toInt ≤ (0 : Int32).toInt ∧ (0 : Int32).toInt ≤ (1 : Int32).toInt))]) (va_runS (As := [.int 0, .int 0, .int 1]) (rest := []) ⟨hx, hb, hml, hown, hts⟩ (k_isWithin l dC dI cI cZ cF H.size 0 0 1 ) (va_cwS 3 hts (zz_gS mw_353 mw_354 mw_99 mc_yX10_isWithin) rfl rfl rfl (by decide +kernel) ⟨Nat.le_of_ble_eq_true rfl, Nat.le_of_ble_eq_true rfl⟩) (zPS2 hPc hDc hK hXN) rfl rfl hl.1 rfl (lv_room (Nat.le_of_ble_eq_true rfl)) dX10_at_18 ⟨Nat.le_of_ble_eq_true rfl, Nat.le_of_ble_eq_true rfl⟩) hS hFc hFc rfl (fun t H1 locs ht hB hk1 hS => ?_)
    obtain ⟨hP1, hD1⟩ := hB
    rw [ht] at hP1
    obtain ⟨hP, hD⟩ := va_joinQ (wr := [(oc8 x (.ref sh) (.ref lw) (.ref ro) (.ref bq) (.ref bp) (.ref dq) (.ref dp) (.ref lv) (.ref sl) ds sd ul su), (oc7 sh (.ref fa) (nI ft)), (oq fa cF 200 FA), (oc1 fe2 (rk f0) (wd f0) (tw f0) (pa f0) (pb f0) (.ref lo2) (.ref lk2) fm2), (oc4 lk2 (kd f0) (st f0) .null (gb f0) (it f0) we2)]) (w1 := []) hP hD [] [0, 1, 2, 3, 4] rfl rfl (by decide) (by decide) hk1 hFc hP1 hD1
    clear hk1 hPc hDc hFc hP1 hD1 ht
    generalize H1 = H at hP hS ⊢
    have hP : va_P (dC, dI) classes ([(oc8 x (.ref sh) (.ref lw) (.ref ro) (.ref bq) (.ref bp) (.ref dq) (.ref dp) (.ref lv) (.ref sl) ds sd ul su), (oc7 sh (.ref fa) (nI ft)), (oq fa cF 200 FA), (oc1 fe2 (rk f0) (wd f0) (tw f0) (pa f0) (pb f0) (.ref lo2) (.ref lk2) fm2), (oc4 lk2 (kd f0) (st f0) .null (gb f0) (it f0) we2)] ++ va_pl T_1 f) H := hP
    have hD : va_D A ([(oc8 x (.ref sh) (.ref lw) (.ref ro) (.ref bq) (.ref bp) (.ref dq) (.ref dp) (.ref lv) (.ref sl) ds sd ul su), (oc7 sh (.ref fa) (nI ft)), (oq fa cF 200 FA), (oc1 fe2 (rk f0) (wd f0) (tw f0) (pa f0) (pb f0) (.ref lo2) (.ref lk2) fm2), (oc4 lk2 (kd f0) (st f0) .null (gb f0) (it f0) we2)] ++ va_pl T_1 f) := hD
    refine lv_if_ne (tgt := 26) hx hb dX10_at_21 (by decide) (fun c_1 => ?_) (fun c_1 => ?_)
    · have c_1 : (0 : Int32).toInt ≤ (0 : Int32).toInt ∧ (0 : Int32).toInt ≤ (1 : Int32).toInt := zp_1 c_1
      refine lv_aload hx hb dX10_at_26 (lv_at hl 0 rfl) ?_
      refine va_get (D := (dC, dI)) (ci := 1) (v := .ref lk2) (C := RX2) (T := TX2) (N := 8) hx hb hts inX2 hown hK hP 3 rfl rfl 6 (by decide) (hts _ mw_433) (fun _ h9 => h9) rfl dX10_at_28 ?_
      refine va_get (D := (dC, dI)) (ci := 4) (v := .null) (C := RX5) (T := TX5) (N := 6) hx hb hts inX5 hown hK hP 4 rfl rfl 2 (by decide) (hts _ mw_391) (fun _ h9 => h9) rfl dX10_at_31 ?_
      refine lv_astoreN (lv' := [(5, .null), (4, .ref fe2), (0, .ref x), (1, .int (nI f0)), (2, .int (nI k)), (3, .int 0)]) hx hb dX10_at_34 hl (by decide) rfl (fun ls hl => ?_)
      refine lv_aloadN hx hb dX10_at_36 (lv_at hl 0 rfl) ?_
      refine lv_ifnullN (tgt := 54) hx hb dX10_at_38 (by decide) ?_
      exfalso; omega
    · have c_1 : ¬ ((0 : Int32).toInt ≤ (0 : Int32).toInt ∧ (0 : Int32).toInt ≤ (1 : Int32).toInt) := zp_0 c_1
      exfalso; omega
  · skip
    have hcap2 := hrr2.1
    have hcap3 := hrr2.2.1
    have hc9_1 : inPl L f [(oc1 fe2 (rk f0) (wd f0) (tw f0) (pa f0) (pb f0) (.ref lo2) (.ref lk2) fm2), (oc4 lk2 (kd f0) (st f0) (.ref r2) (gb f0) (it f0) we2), (oc6 r2 (.ref rx2) (.ref ry2) (nI (nN (mn f0))) rg2), (oa rx2 cI cap2 U2), (oa ry2 cI cap2 V2)] := ⟨hfe2, hlk2, hr2, hrx2, hry2, trivial⟩
    have hD0_1 := hD
    obtain ⟨hP, hD⟩ := pl_out hP hD [(oc1 fe2 (rk f0) (wd f0) (tw f0) (pa f0) (pb f0) (.ref lo2) (.ref lk2) fm2), (oc4 lk2 (kd f0) (st f0) (.ref r2) (gb f0) (it f0) we2), (oc6 r2 (.ref rx2) (.ref ry2) (nI (nN (mn f0))) rg2), (oa rx2 cI cap2 U2), (oa ry2 cI cap2 V2)] hc9_1 (pwR hfe2.2 hlk2.2 hr2.2 hrx2.2 hry2.2 hne2)
    generalize hT_1 : outPl L [(oc1 fe2 (rk f0) (wd f0) (tw f0) (pa f0) (pb f0) (.ref lo2) (.ref lk2) fm2), (oc4 lk2 (kd f0) (st f0) (.ref r2) (gb f0) (it f0) we2), (oc6 r2 (.ref rx2) (.ref ry2) (nI (nN (mn f0))) rg2), (oa rx2 cI cap2 U2), (oa ry2 cI cap2 V2)] = T_1 at hP hD
    have hP : va_P (dC, dI) classes ([(oc8 x (.ref sh) (.ref lw) (.ref ro) (.ref bq) (.ref bp) (.ref dq) (.ref dp) (.ref lv) (.ref sl) ds sd ul su), (oc7 sh (.ref fa) (nI ft)), (oq fa cF 200 FA), (oc1 fe2 (rk f0) (wd f0) (tw f0) (pa f0) (pb f0) (.ref lo2) (.ref lk2) fm2), (oc4 lk2 (kd f0) (st f0) (.ref r2) (gb f0) (it f0) we2), (oc6 r2 (.ref rx2) (.ref ry2) (nI (nN (mn f0))) rg2), (oa rx2 cI cap2 U2), (oa ry2 cI cap2 V2)] ++ va_pl T_1 f) s.heap := hP
    have hD : va_D A ([(oc8 x (.ref sh) (.ref lw) (.ref ro) (.ref bq) (.ref bp) (.ref dq) (.ref dp) (.ref lv) (.ref sl) ds sd ul su), (oc7 sh (.ref fa) (nI ft)), (oq fa cF 200 FA), (oc1 fe2 (rk f0) (wd f0) (tw f0) (pa f0) (pb f0) (.ref lo2) (.ref lk2) fm2), (oc4 lk2 (kd f0) (st f0) (.ref r2) (gb f0) (it f0) we2), (oc6 r2 (.ref rx2) (.ref ry2) (nI (nN (mn f0))) rg2), (oa rx2 cI cap2 U2), (oa ry2 cI cap2 V2)] ++ va_pl T_1 f) := hD
    refine lv_aload_n hx hb dX10_at_0 rfl (lv_at hl 0 rfl) ?_
    refine va_get (D := (dC, dI)) (ci := 8) (v := .ref sh) (C := RX10) (T := TX10) (N := 13) hx hb hts inX10 hown hK hP 0 rfl rfl 0 (by decide) (hts _ mw_309) (fun _ h9 => h9) rfl dX10_at_1 ?_
    refine lv_iload_n hx hb dX10_at_4 rfl (lv_at hl 1 rfl) ?_
    have hPc := hP.sub (ws' := [(oc7 sh (.ref fa) (nI ft)), (oq fa cF 200 FA)]) [1, 2] rfl
    have hDc := hD.sub (ws' := [(oc7 sh (.ref fa) (nI ft)), (oq fa cF 200 FA)]) [1, 2] (by decide) rfl
    have hFc := va_free (wc := [(oc7 sh (.ref fa) (nI ft)), (oq fa cF 200 FA)]) hD hS hA [1, 2] rfl
    refine zcall (st1 := [.ref fe2]) (va_runV (As := [.int (nI f0)]) (rest := []) ⟨hx, hb, hml, hown, hts⟩ (k_Sheet_find l dC dI cI cZ cF s.heap.size sh fa ft FA f0 fe2 (by omega) (by omega) (hFA2)) (cwV 1 hts (zz_gV mw_498 mw_499 mw_500 mw_100 mc_yX8_find) rfl rfl rfl (by decide +kernel) ⟨Nat.le_of_ble_eq_true rfl, Nat.le_of_ble_eq_true rfl⟩) (zPV2 (q0 := 0) (ci := 7) hPc hDc hK hXN rfl rfl) rfl rfl hl.1 rfl (lv_room (Nat.le_of_ble_eq_true rfl)) dX10_at_5 ⟨Nat.le_of_ble_eq_true rfl, Nat.le_of_ble_eq_true rfl⟩) hS hFc hFc rfl (fun t H1 locs ht hB hk1 hS => ?_)
    obtain ⟨hP1, hD1⟩ := hB
    rw [ht] at hP1
    obtain ⟨hP, hD⟩ := va_joinQ (wr := [(oc8 x (.ref sh) (.ref lw) (.ref ro) (.ref bq) (.ref bp) (.ref dq) (.ref dp) (.ref lv) (.ref sl) ds sd ul su), (oc1 fe2 (rk f0) (wd f0) (tw f0) (pa f0) (pb f0) (.ref lo2) (.ref lk2) fm2), (oc4 lk2 (kd f0) (st f0) (.ref r2) (gb f0) (it f0) we2), (oc6 r2 (.ref rx2) (.ref ry2) (nI (nN (mn f0))) rg2), (oa rx2 cI cap2 U2), (oa ry2 cI cap2 V2)]) (w1 := [(oc7 sh (.ref fa) (nI ft)), (oq fa cF 200 FA)]) hP hD [1, 2] [0, 3, 4, 5, 6, 7] rfl rfl (by decide) (by decide) hk1 hFc hP1 hD1
    clear hk1 hPc hDc hFc hP1 hD1 ht
    generalize H1 = H at hP hS ⊢
    have hP := hP.part (cx := [(oc8 x (.ref sh) (.ref lw) (.ref ro) (.ref bq) (.ref bp) (.ref dq) (.ref dp) (.ref lv) (.ref sl) ds sd ul su), (oc7 sh (.ref fa) (nI ft)), (oq fa cF 200 FA), (oc1 fe2 (rk f0) (wd f0) (tw f0) (pa f0) (pb f0) (.ref lo2) (.ref lk2) fm2), (oc4 lk2 (kd f0) (st f0) (.ref r2) (gb f0) (it f0) we2), (oc6 r2 (.ref rx2) (.ref ry2) (nI (nN (mn f0))) rg2), (oa rx2 cI cap2 U2), (oa ry2 cI cap2 V2)]) [0, 6, 7, 1, 2, 3, 4, 5] rfl
    have hD := hD.part (cx := [(oc8 x (.ref sh) (.ref lw) (.ref ro) (.ref bq) (.ref bp) (.ref dq) (.ref dp) (.ref lv) (.ref sl) ds sd ul su), (oc7 sh (.ref fa) (nI ft)), (oq fa cF 200 FA), (oc1 fe2 (rk f0) (wd f0) (tw f0) (pa f0) (pb f0) (.ref lo2) (.ref lk2) fm2), (oc4 lk2 (kd f0) (st f0) (.ref r2) (gb f0) (it f0) we2), (oc6 r2 (.ref rx2) (.ref ry2) (nI (nN (mn f0))) rg2), (oa rx2 cI cap2 U2), (oa ry2 cI cap2 V2)]) [0, 6, 7, 1, 2, 3, 4, 5] (by decide) rfl
    have hP : va_P (dC, dI) classes ([(oc8 x (.ref sh) (.ref lw) (.ref ro) (.ref bq) (.ref bp) (.ref dq) (.ref dp) (.ref lv) (.ref sl) ds sd ul su), (oc7 sh (.ref fa) (nI ft)), (oq fa cF 200 FA), (oc1 fe2 (rk f0) (wd f0) (tw f0) (pa f0) (pb f0) (.ref lo2) (.ref lk2) fm2), (oc4 lk2 (kd f0) (st f0) (.ref r2) (gb f0) (it f0) we2), (oc6 r2 (.ref rx2) (.ref ry2) (nI (nN (mn f0))) rg2), (oa rx2 cI cap2 U2), (oa ry2 cI cap2 V2)] ++ va_pl T_1 f) H := hP
    have hD : va_D A ([(oc8 x (.ref sh) (.ref lw) (.ref ro) (.ref bq) (.ref bp) (.ref dq) (.ref dp) (.ref lv) (.ref sl) ds sd ul su), (oc7 sh (.ref fa) (nI ft)), (oq fa cF 200 FA), (oc1 fe2 (rk f0) (wd f0) (tw f0) (pa f0) (pb f0) (.ref lo2) (.ref lk2) fm2), (oc4 lk2 (kd f0) (st f0) (.ref r2) (gb f0) (it f0) we2), (oc6 r2 (.ref rx2) (.ref ry2) (nI (nN (mn f0))) rg2), (oa rx2 cI cap2 U2), (oa ry2 cI cap2 V2)] ++ va_pl T_1 f) := hD
    refine lv_astore (lv' := [(4, .ref fe2), (0, .ref x), (1, .int (nI f0)), (2, .int (nI k)), (3, .int 0)]) hx hb dX10_at_8 hl (by decide) rfl (fun ls hl => ?_)
    refine lv_aload hx hb dX10_at_10 (lv_at hl 0 rfl) ?_
    refine lv_ifnull hx hb dX10_at_12 ?_
    refine lv_iload_n hx hb dX10_at_15 rfl (lv_at hl 4 rfl) ?_
    refine lv_iconst (v := 0) hx hb dX10_at_16 (by decide) ?_
    refine lv_iconst (v := 1) hx hb dX10_at_17 (by decide) ?_
    have hPc := hP.sub (ws' := []) [] rfl
    have hDc := hD.sub (ws' := []) [] (by decide) rfl
    have hFc := va_free (wc := []) hD hS hA [] rfl
    refine zcall (st1 := [.int (pI ((0 : Int32).toInt ≤ (0 : Int32).toInt ∧ (0 : Int32).toInt ≤ (1 : Int32).toInt))]) (va_runS (As := [.int 0, .int 0, .int 1]) (rest := []) ⟨hx, hb, hml, hown, hts⟩ (k_isWithin l dC dI cI cZ cF H.size 0 0 1 ) (va_cwS 3 hts (zz_gS mw_353 mw_354 mw_99 mc_yX10_isWithin) rfl rfl rfl (by decide +kernel) ⟨Nat.le_of_ble_eq_true rfl, Nat.le_of_ble_eq_true rfl⟩) (zPS2 hPc hDc hK hXN) rfl rfl hl.1 rfl (lv_room (Nat.le_of_ble_eq_true rfl)) dX10_at_18 ⟨Nat.le_of_ble_eq_true rfl, Nat.le_of_ble_eq_true rfl⟩) hS hFc hFc rfl (fun t H1 locs ht hB hk1 hS => ?_)
    obtain ⟨hP1, hD1⟩ := hB
    rw [ht] at hP1
    obtain ⟨hP, hD⟩ := va_joinQ (wr := [(oc8 x (.ref sh) (.ref lw) (.ref ro) (.ref bq) (.ref bp) (.ref dq) (.ref dp) (.ref lv) (.ref sl) ds sd ul su), (oc7 sh (.ref fa) (nI ft)), (oq fa cF 200 FA), (oc1 fe2 (rk f0) (wd f0) (tw f0) (pa f0) (pb f0) (.ref lo2) (.ref lk2) fm2), (oc4 lk2 (kd f0) (st f0) (.ref r2) (gb f0) (it f0) we2), (oc6 r2 (.ref rx2) (.ref ry2) (nI (nN (mn f0))) rg2), (oa rx2 cI cap2 U2), (oa ry2 cI cap2 V2)]) (w1 := []) hP hD [] [0, 1, 2, 3, 4, 5, 6, 7] rfl rfl (by decide) (by decide) hk1 hFc hP1 hD1
    clear hk1 hPc hDc hFc hP1 hD1 ht
    generalize H1 = H at hP hS ⊢
    have hP : va_P (dC, dI) classes ([(oc8 x (.ref sh) (.ref lw) (.ref ro) (.ref bq) (.ref bp) (.ref dq) (.ref dp) (.ref lv) (.ref sl) ds sd ul su), (oc7 sh (.ref fa) (nI ft)), (oq fa cF 200 FA), (oc1 fe2 (rk f0) (wd f0) (tw f0) (pa f0) (pb f0) (.ref lo2) (.ref lk2) fm2), (oc4 lk2 (kd f0) (st f0) (.ref r2) (gb f0) (it f0) we2), (oc6 r2 (.ref rx2) (.ref ry2) (nI (nN (mn f0))) rg2), (oa rx2 cI cap2 U2), (oa ry2 cI cap2 V2)] ++ va_pl T_1 f) H := hP
    have hD : va_D A ([(oc8 x (.ref sh) (.ref lw) (.ref ro) (.ref bq) (.ref bp) (.ref dq) (.ref dp) (.ref lv) (.ref sl) ds sd ul su), (oc7 sh (.ref fa) (nI ft)), (oq fa cF 200 FA), (oc1 fe2 (rk f0) (wd f0) (tw f0) (pa f0) (pb f0) (.ref lo2) (.ref lk2) fm2), (oc4 lk2 (kd f0) (st f0) (.ref r2) (gb f0) (it f0) we2), (oc6 r2 (.ref rx2) (.ref ry2) (nI (nN (mn f0))) rg2), (oa rx2 cI cap2 U2), (oa ry2 cI cap2 V2)] ++ va_pl T_1 f) := hD
    refine lv_if_ne (tgt := 26) hx hb dX10_at_21 (by decide) (fun c_2 => ?_) (fun c_2 => ?_)
    · have c_2 : (0 : Int32).toInt ≤ (0 : Int32).toInt ∧ (0 : Int32).toInt ≤ (1 : Int32).toInt := zp_1 c_2
      refine lv_aload hx hb dX10_at_26 (lv_at hl 0 rfl) ?_
      refine va_get (D := (dC, dI)) (ci := 1) (v := .ref lk2) (C := RX2) (T := TX2) (N := 8) hx hb hts inX2 hown hK hP 3 rfl rfl 6 (by decide) (hts _ mw_433) (fun _ h9 => h9) rfl dX10_at_28 ?_
      refine va_get (D := (dC, dI)) (ci := 4) (v := .ref r2) (C := RX5) (T := TX5) (N := 6) hx hb hts inX5 hown hK hP 4 rfl rfl 2 (by decide) (hts _ mw_391) (fun _ h9 => h9) rfl dX10_at_31 ?_
      refine lv_astore (lv' := [(5, .ref r2), (4, .ref fe2), (0, .ref x), (1, .int (nI f0)), (2, .int (nI k)), (3, .int 0)]) hx hb dX10_at_34 hl (by decide) rfl (fun ls hl => ?_)
      refine lv_aload hx hb dX10_at_36 (lv_at hl 0 rfl) ?_
      refine lv_ifnull hx hb dX10_at_38 ?_
      refine lv_iload_n hx hb dX10_at_41 rfl (lv_at hl 4 rfl) ?_
      refine lv_if_lt (tgt := 54) hx hb dX10_at_42 (by decide) (fun c_3 => ?_) (fun c_3 => ?_)
      · have c_3 : ((k : Nat) : Int) < 0 := zc_lt (nI_toInt (by omega)) (by decide) c_3
        exfalso; omega
      · have c_3 : 0 ≤ ((k : Nat) : Int) := zc_nlt (nI_toInt (by omega)) (by decide) c_3
        refine lv_iload_n hx hb dX10_at_45 rfl (lv_at hl 4 rfl) ?_
        refine lv_aload hx hb dX10_at_46 (lv_at hl 0 rfl) ?_
        refine va_get (D := (dC, dI)) (ci := 6) (v := .int (nI (nN (mn f0)))) (C := RX7) (T := TX7) (N := 4) hx hb hts inX7 hown hK hP 5 rfl rfl 2 (by decide) (hts _ mw_179) (fun _ h9 => h9) rfl dX10_at_48 ?_
        refine lv_icmp_lt (tgt := 56) hx hb dX10_at_51 (by decide) (fun c_4 => ?_) (fun c_4 => ?_)
        · have c_4 : ((k : Nat) : Int) < ((nN (mn f0) : Nat) : Int) := zc_lt (nI_toInt (by omega)) (nI_toInt (by omega)) c_4
          refine lv_iload_n hx hb dX10_at_56 rfl (lv_at hl 5 rfl) ?_
          refine lv_if_ne (tgt := 70) hx hb dX10_at_57 (by decide) (fun c_5 => ?_) (fun c_5 => ?_)
          · exact absurd (by decide) c_5
          · refine lv_aload hx hb dX10_at_60 (lv_at hl 0 rfl) ?_
            refine va_get (D := (dC, dI)) (ci := 6) (v := .ref rx2) (C := RX7) (T := TX7) (N := 4) hx hb hts inX7 hown hK hP 5 rfl rfl 0 (by decide) (hts _ mw_167) (fun _ h9 => h9) rfl dX10_at_62 ?_
            refine lv_iload_n hx hb dX10_at_65 rfl (lv_at hl 4 rfl) ?_
            refine z_iald hx hb hK hP 6 0 rfl rfl (e := k) rfl (by omega) (by omega) dX10_at_66 ?_
            refine lv_goto (tgt := 77) hx hb dX10_at_67 (by decide) ?_
            have hP := pl_back (cs := [(oc1 fe2 (rk f0) (wd f0) (tw f0) (pa f0) (pb f0) (.ref lo2) (.ref lk2) fm2), (oc4 lk2 (kd f0) (st f0) (.ref r2) (gb f0) (it f0) we2), (oc6 r2 (.ref rx2) (.ref ry2) (nI (nN (mn f0))) rg2), (oa rx2 cI cap2 U2), (oa ry2 cI cap2 V2)]) (L := L) (f := f) (X := [(oc8 x (.ref sh) (.ref lw) (.ref ro) (.ref bq) (.ref bp) (.ref dq) (.ref dp) (.ref lv) (.ref sl) ds sd ul su), (oc7 sh (.ref fa) (nI ft)), (oq fa cF 200 FA)]) (by rw [hT_1]; exact (show va_P (dC, dI) classes (([(oc8 x (.ref sh) (.ref lw) (.ref ro) (.ref bq) (.ref bp) (.ref dq) (.ref dp) (.ref lv) (.ref sl) ds sd ul su), (oc7 sh (.ref fa) (nI ft)), (oq fa cF 200 FA)] ++ [(oc1 fe2 (rk f0) (wd f0) (tw f0) (pa f0) (pb f0) (.ref lo2) (.ref lk2) fm2), (oc4 lk2 (kd f0) (st f0) (.ref r2) (gb f0) (it f0) we2), (oc6 r2 (.ref rx2) (.ref ry2) (nI (nN (mn f0))) rg2), (oa rx2 cI cap2 U2), (oa ry2 cI cap2 V2)]) ++ va_pl T_1 f) H from hP)) hc9_1
            have hD : va_D A ([(oc8 x (.ref sh) (.ref lw) (.ref ro) (.ref bq) (.ref bp) (.ref dq) (.ref dp) (.ref lv) (.ref sl) ds sd ul su), (oc7 sh (.ref fa) (nI ft)), (oq fa cF 200 FA)] ++ va_pl L f) := vaD_ae hD0_1 rfl
            have hP9 := hP.part (cx := [(oc8 x (.ref sh) (.ref lw) (.ref ro) (.ref bq) (.ref bp) (.ref dq) (.ref dp) (.ref lv) (.ref sl) ds sd ul su), (oc7 sh (.ref fa) (nI ft)), (oq fa cF 200 FA)]) [0, 1, 2] rfl
            have hD9 := hD.part (cx := [(oc8 x (.ref sh) (.ref lw) (.ref ro) (.ref bq) (.ref bp) (.ref dq) (.ref dp) (.ref lv) (.ref sl) ds sd ul su), (oc7 sh (.ref fa) (nI ft)), (oq fa cF 200 FA)]) [0, 1, 2] (by decide) rfl
            rw [hQ9]
            exact W.iret (v := U2 k) hx hb hr (fun t ht hW => ⟨⟨congrArg (fun z => Outcome.returned (some (Value.int z))) (show (U2 k : Int32) = cF40 cx f0 k from by first | exact (hrr2.2.2.2.2 k (by omega)).1 | exact (hrr2.2.2.2.2 k (by omega)).1.symm), by rw [ht]; exact hP9, hD9⟩, hS.F ht⟩) hS.2.2 dX10_at_77
        · have c_4 : ((nN (mn f0) : Nat) : Int) ≤ ((k : Nat) : Int) := zc_nlt (nI_toInt (by omega)) (nI_toInt (by omega)) c_4
          exfalso; omega
    · have c_2 : ¬ ((0 : Int32).toInt ≤ (0 : Int32).toInt ∧ (0 : Int32).toInt ≤ (1 : Int32).toInt) := zp_0 c_2
      exfalso; omega
set_option maxHeartbeats 4000000 in
set_option maxRecDepth 100000 in
theorem k_at_1 (l : Launch) (dC : Nat → ClassId) (dI : Nat → Nat → Nat) (cI cZ cF : ClassId) (sz : Nat) (x : Nat) (sh : Nat) (lw : Nat) (ro : Nat) (bq : Nat) (bp : Nat) (dq : Nat) (dp : Nat) (lv : Nat) (sl : Nat) (sd : Int32) (ul : Int32) (su : Int32) (ds : Int32) (fa : Nat) (ft : Nat) (FA : Nat → Option Nat) (f0 : Nat) (L : List Nat) (f : Nat → va_E) (kd : Nat → Int32) (st : Nat → Int32) (tn : Nat → Int32) (mn : Nat → Int32) (cx : Nat → Int32) (cy : Nat → Int32) (rk : Nat → Int32) (wd : Nat → Int32) (tw : Nat → Int32) (pa : Nat → Int32) (pb : Nat → Int32) (gb : Nat → Int32) (it : Nat → Int32) (k : Nat) (h200 : ft ≤ 200) (hf0 : f0 < ft) (hva : ∀ q, q < ft → vwA cI L f FA rk wd tw pa pb kd st gb it tn mn cx cy q) (htn : (tn f0).toInt = 0) (hk9 : k < nN (mn f0)) : Met l yX10_at (.code yX10_at cX10_at 6 (some .int) :: ws0) ({ frames := 1, cells := 0, slots := 0, locals := 22 } : Room) (va_Pc [.ref x, .int (nI f0), .int (nI k), .int 1] (zPre (dC, dI) classes (zTy cI cZ cF) ([(oc8 x (.ref sh) (.ref lw) (.ref ro) (.ref bq) (.ref bp) (.ref dq) (.ref dp) (.ref lv) (.ref sl) ds sd ul su), (oc7 sh (.ref fa) (nI ft)), (oq fa cF 200 FA)] ++ va_pl L f) sz zXN)) (zQ (some (.int (cF40 cy f0 k))) (fun t => va_P (dC, dI) classes ([(oc8 x (.ref sh) (.ref lw) (.ref ro) (.ref bq) (.ref bp) (.ref dq) (.ref dp) (.ref lv) (.ref sl) ds sd ul su), (oc7 sh (.ref fa) (nI ft)), (oq fa cF 200 FA)] ++ va_pl L f) t.heap ∧ va_D (va_A ([(oc8 x (.ref sh) (.ref lw) (.ref ro) (.ref bq) (.ref bp) (.ref dq) (.ref dp) (.ref lv) (.ref sl) ds sd ul su), (oc7 sh (.ref fa) (nI ft)), (oq fa cF 200 FA)] ++ va_pl L f) sz) ([(oc8 x (.ref sh) (.ref lw) (.ref ro) (.ref bq) (.ref bp) (.ref dq) (.ref dp) (.ref lv) (.ref sl) ds sd ul su), (oc7 sh (.ref fa) (nI ft)), (oq fa cF 200 FA)] ++ va_pl L f)) (va_A ([(oc8 x (.ref sh) (.ref lw) (.ref ro) (.ref bq) (.ref bp) (.ref dq) (.ref dp) (.ref lv) (.ref sl) ds sd ul su), (oc7 sh (.ref fa) (nI ft)), (oq fa cF 200 FA)] ++ va_pl L f) sz)) 0 0 (va_A ([(oc8 x (.ref sh) (.ref lw) (.ref ro) (.ref bq) (.ref bp) (.ref dq) (.ref dp) (.ref lv) (.ref sl) ds sd ul su), (oc7 sh (.ref fa) (nI ft)), (oq fa cF 200 FA)] ++ va_pl L f) sz) := by
  refine Met.ofW (cc := cX10_at) (maxL := 6) (ret := (some .int)) (by decide) rfl ?_
  intro p e s m args below meth c s₁ B hml hv
  obtain ⟨rfl, hsz, hP, hK, hD0, hXN⟩ := hv
  have hx := B.exec
  have hb := B.bytes
  have hr := B.returns
  have hts0 := atoms_spec (ws := .code yX10_at cX10_at 6 (some .int) :: ws0) B.pre
  have hts : ∀ w9 ∈ ws0, w9.before ([.ref x, .int (nI f0), .int (nI k), .int 1] : List Value).toArray s = true := fun w9 h => hts0 w9 (List.mem_cons_of_mem _ h)
  have hown : s.vm.findClass "ScaleShop" = some m.cls := findClass_of_methodNamed B.named
  have hlocks := B.notSynchronized
  subst hsz
  have hD := hD0.self (sz := s.heap.size)
  clear hD0
  generalize hAe : va_A ([(oc8 x (.ref sh) (.ref lw) (.ref ro) (.ref bq) (.ref bp) (.ref dq) (.ref dp) (.ref lv) (.ref sl) ds sd ul su), (oc7 sh (.ref fa) (nI ft)), (oq fa cF 200 FA)] ++ va_pl L f) s.heap.size = A at hD ⊢
  have hA : ∀ q : Nat, s.heap.size ≤ q → A q := fun q h => by rw [← hAe]; exact Or.inr h
  clear hAe
  have hS : va_S A s.heap s.heap [] := va_S.rf
  have hP : va_P (dC, dI) classes ([(oc8 x (.ref sh) (.ref lw) (.ref ro) (.ref bq) (.ref bp) (.ref dq) (.ref dp) (.ref lv) (.ref sl) ds sd ul su), (oc7 sh (.ref fa) (nI ft)), (oq fa cF 200 FA)] ++ va_pl L f) s.heap := hP
  obtain ⟨Q9, hQ9⟩ : ∃ Q9 : State → Prop, Q9 = MQ below (zQ (some (.int (cF40 cy f0 k))) (fun t => va_P (dC, dI) classes ([(oc8 x (.ref sh) (.ref lw) (.ref ro) (.ref bq) (.ref bp) (.ref dq) (.ref dp) (.ref lv) (.ref sl) ds sd ul su), (oc7 sh (.ref fa) (nI ft)), (oq fa cF 200 FA)] ++ va_pl L f) t.heap ∧ va_D A ([(oc8 x (.ref sh) (.ref lw) (.ref ro) (.ref bq) (.ref bp) (.ref dq) (.ref dp) (.ref lv) (.ref sl) ds sd ul su), (oc7 sh (.ref fa) (nI ft)), (oq fa cF 200 FA)] ++ va_pl L f)) A) ([.ref x, .int (nI f0), .int (nI k), .int 1] : List Value).toArray s 0 0 A := ⟨_, rfl⟩
  rw [← hQ9]
  have hl := lv_entry ([.ref x, .int (nI f0), .int (nI k), .int 1]) (n := 6) (Nat.le_of_ble_eq_true rfl)
  rw [lg_entry_eq]
  generalize (lg_sl ([.ref x, .int (nI f0), .int (nI k), .int 1]) ++ List.replicate (6 - (lg_sl ([.ref x, .int (nI f0), .int (nI k), .int 1])).length) Slot.unset).toArray = ls at hl ⊢
  have hl : lv_has ls 6 [(0, .ref x), (1, .int (nI f0)), (2, .int (nI k)), (3, .int 1)] := hl
  have e_0 : (0 : Int32).toInt = 0 := (by decide)
  have e_1 : (1 : Int32).toInt = 1 := (by decide)
  rcases vwA_2 (hva f0 (by omega)) with ⟨ht2, fe2, lk2, lo2, we2, fm2, hFA2, hfe2, hlk2⟩ | ⟨ht2, fe2, lk2, lo2, we2, fm2, r2, rx2, ry2, cap2, U2, V2, rg2, hFA2, hfe2, hlk2, ⟨hr2, hrx2, hry2, hne2⟩, hrr2⟩
  · skip
    have hc9_1 : inPl L f [(oc1 fe2 (rk f0) (wd f0) (tw f0) (pa f0) (pb f0) (.ref lo2) (.ref lk2) fm2), (oc4 lk2 (kd f0) (st f0) .null (gb f0) (it f0) we2)] := ⟨hfe2, hlk2, trivial⟩
    have hD0_1 := hD
    obtain ⟨hP, hD⟩ := pl_out hP hD [(oc1 fe2 (rk f0) (wd f0) (tw f0) (pa f0) (pb f0) (.ref lo2) (.ref lk2) fm2), (oc4 lk2 (kd f0) (st f0) .null (gb f0) (it f0) we2)] hc9_1 (pwF hfe2.2 hlk2.2)
    generalize hT_1 : outPl L [(oc1 fe2 (rk f0) (wd f0) (tw f0) (pa f0) (pb f0) (.ref lo2) (.ref lk2) fm2), (oc4 lk2 (kd f0) (st f0) .null (gb f0) (it f0) we2)] = T_1 at hP hD
    have hP : va_P (dC, dI) classes ([(oc8 x (.ref sh) (.ref lw) (.ref ro) (.ref bq) (.ref bp) (.ref dq) (.ref dp) (.ref lv) (.ref sl) ds sd ul su), (oc7 sh (.ref fa) (nI ft)), (oq fa cF 200 FA), (oc1 fe2 (rk f0) (wd f0) (tw f0) (pa f0) (pb f0) (.ref lo2) (.ref lk2) fm2), (oc4 lk2 (kd f0) (st f0) .null (gb f0) (it f0) we2)] ++ va_pl T_1 f) s.heap := hP
    have hD : va_D A ([(oc8 x (.ref sh) (.ref lw) (.ref ro) (.ref bq) (.ref bp) (.ref dq) (.ref dp) (.ref lv) (.ref sl) ds sd ul su), (oc7 sh (.ref fa) (nI ft)), (oq fa cF 200 FA), (oc1 fe2 (rk f0) (wd f0) (tw f0) (pa f0) (pb f0) (.ref lo2) (.ref lk2) fm2), (oc4 lk2 (kd f0) (st f0) .null (gb f0) (it f0) we2)] ++ va_pl T_1 f) := hD
    refine lv_aload_n hx hb dX10_at_0 rfl (lv_at hl 0 rfl) ?_
    refine va_get (D := (dC, dI)) (ci := 8) (v := .ref sh) (C := RX10) (T := TX10) (N := 13) hx hb hts inX10 hown hK hP 0 rfl rfl 0 (by decide) (hts _ mw_309) (fun _ h9 => h9) rfl dX10_at_1 ?_
    refine lv_iload_n hx hb dX10_at_4 rfl (lv_at hl 1 rfl) ?_
    have hPc := hP.sub (ws' := [(oc7 sh (.ref fa) (nI ft)), (oq fa cF 200 FA)]) [1, 2] rfl
    have hDc := hD.sub (ws' := [(oc7 sh (.ref fa) (nI ft)), (oq fa cF 200 FA)]) [1, 2] (by decide) rfl
    have hFc := va_free (wc := [(oc7 sh (.ref fa) (nI ft)), (oq fa cF 200 FA)]) hD hS hA [1, 2] rfl
    refine zcall (st1 := [.ref fe2]) (va_runV (As := [.int (nI f0)]) (rest := []) ⟨hx, hb, hml, hown, hts⟩ (k_Sheet_find l dC dI cI cZ cF s.heap.size sh fa ft FA f0 fe2 (by omega) (by omega) (hFA2)) (cwV 1 hts (zz_gV mw_498 mw_499 mw_500 mw_100 mc_yX8_find) rfl rfl rfl (by decide +kernel) ⟨Nat.le_of_ble_eq_true rfl, Nat.le_of_ble_eq_true rfl⟩) (zPV2 (q0 := 0) (ci := 7) hPc hDc hK hXN rfl rfl) rfl rfl hl.1 rfl (lv_room (Nat.le_of_ble_eq_true rfl)) dX10_at_5 ⟨Nat.le_of_ble_eq_true rfl, Nat.le_of_ble_eq_true rfl⟩) hS hFc hFc rfl (fun t H1 locs ht hB hk1 hS => ?_)
    obtain ⟨hP1, hD1⟩ := hB
    rw [ht] at hP1
    obtain ⟨hP, hD⟩ := va_joinQ (wr := [(oc8 x (.ref sh) (.ref lw) (.ref ro) (.ref bq) (.ref bp) (.ref dq) (.ref dp) (.ref lv) (.ref sl) ds sd ul su), (oc1 fe2 (rk f0) (wd f0) (tw f0) (pa f0) (pb f0) (.ref lo2) (.ref lk2) fm2), (oc4 lk2 (kd f0) (st f0) .null (gb f0) (it f0) we2)]) (w1 := [(oc7 sh (.ref fa) (nI ft)), (oq fa cF 200 FA)]) hP hD [1, 2] [0, 3, 4] rfl rfl (by decide) (by decide) hk1 hFc hP1 hD1
    clear hk1 hPc hDc hFc hP1 hD1 ht
    generalize H1 = H at hP hS ⊢
    have hP := hP.part (cx := [(oc8 x (.ref sh) (.ref lw) (.ref ro) (.ref bq) (.ref bp) (.ref dq) (.ref dp) (.ref lv) (.ref sl) ds sd ul su), (oc7 sh (.ref fa) (nI ft)), (oq fa cF 200 FA), (oc1 fe2 (rk f0) (wd f0) (tw f0) (pa f0) (pb f0) (.ref lo2) (.ref lk2) fm2), (oc4 lk2 (kd f0) (st f0) .null (gb f0) (it f0) we2)]) [0, 3, 4, 1, 2] rfl
    have hD := hD.part (cx := [(oc8 x (.ref sh) (.ref lw) (.ref ro) (.ref bq) (.ref bp) (.ref dq) (.ref dp) (.ref lv) (.ref sl) ds sd ul su), (oc7 sh (.ref fa) (nI ft)), (oq fa cF 200 FA), (oc1 fe2 (rk f0) (wd f0) (tw f0) (pa f0) (pb f0) (.ref lo2) (.ref lk2) fm2), (oc4 lk2 (kd f0) (st f0) .null (gb f0) (it f0) we2)]) [0, 3, 4, 1, 2] (by decide) rfl
    have hP : va_P (dC, dI) classes ([(oc8 x (.ref sh) (.ref lw) (.ref ro) (.ref bq) (.ref bp) (.ref dq) (.ref dp) (.ref lv) (.ref sl) ds sd ul su), (oc7 sh (.ref fa) (nI ft)), (oq fa cF 200 FA), (oc1 fe2 (rk f0) (wd f0) (tw f0) (pa f0) (pb f0) (.ref lo2) (.ref lk2) fm2), (oc4 lk2 (kd f0) (st f0) .null (gb f0) (it f0) we2)] ++ va_pl T_1 f) H := hP
    have hD : va_D A ([(oc8 x (.ref sh) (.ref lw) (.ref ro) (.ref bq) (.ref bp) (.ref dq) (.ref dp) (.ref lv) (.ref sl) ds sd ul su), (oc7 sh (.ref fa) (nI ft)), (oq fa cF 200 FA), (oc1 fe2 (rk f0) (wd f0) (tw f0) (pa f0) (pb f0) (.ref lo2) (.ref lk2) fm2), (oc4 lk2 (kd f0) (st f0) .null (gb f0) (it f0) we2)] ++ va_pl T_1 f) := hD
    refine lv_astore (lv' := [(4, .ref fe2), (0, .ref x), (1, .int (nI f0)), (2, .int (nI k)), (3, .int 1)]) hx hb dX10_at_8 hl (by decide) rfl (fun ls hl => ?_)
    refine lv_aload hx hb dX10_at_10 (lv_at hl 0 rfl) ?_
    refine lv_ifnull hx hb dX10_at_12 ?_
    refine lv_iload_n hx hb dX10_at_15 rfl (lv_at hl 4 rfl) ?_
    refine lv_iconst (v := 0) hx hb dX10_at_16 (by decide) ?_
    refine lv_iconst (v := 1) hx hb dX10_at_17 (by decide) ?_
    have hPc := hP.sub (ws' := []) [] rfl
    have hDc := hD.sub (ws' := []) [] (by decide) rfl
    have hFc := va_free (wc := []) hD hS hA [] rfl
    refine zcall (st1 := [.int (pI ((0 : Int32).toInt ≤ (1 : Int32).toInt ∧ (1 : Int32).toInt ≤ (1 : Int32).toInt))]) (va_runS (As := [.int 1, .int 0, .int 1]) (rest := []) ⟨hx, hb, hml, hown, hts⟩ (k_isWithin l dC dI cI cZ cF H.size 1 0 1 ) (va_cwS 3 hts (zz_gS mw_353 mw_354 mw_99 mc_yX10_isWithin) rfl rfl rfl (by decide +kernel) ⟨Nat.le_of_ble_eq_true rfl, Nat.le_of_ble_eq_true rfl⟩) (zPS2 hPc hDc hK hXN) rfl rfl hl.1 rfl (lv_room (Nat.le_of_ble_eq_true rfl)) dX10_at_18 ⟨Nat.le_of_ble_eq_true rfl, Nat.le_of_ble_eq_true rfl⟩) hS hFc hFc rfl (fun t H1 locs ht hB hk1 hS => ?_)
    obtain ⟨hP1, hD1⟩ := hB
    rw [ht] at hP1
    obtain ⟨hP, hD⟩ := va_joinQ (wr := [(oc8 x (.ref sh) (.ref lw) (.ref ro) (.ref bq) (.ref bp) (.ref dq) (.ref dp) (.ref lv) (.ref sl) ds sd ul su), (oc7 sh (.ref fa) (nI ft)), (oq fa cF 200 FA), (oc1 fe2 (rk f0) (wd f0) (tw f0) (pa f0) (pb f0) (.ref lo2) (.ref lk2) fm2), (oc4 lk2 (kd f0) (st f0) .null (gb f0) (it f0) we2)]) (w1 := []) hP hD [] [0, 1, 2, 3, 4] rfl rfl (by decide) (by decide) hk1 hFc hP1 hD1
    clear hk1 hPc hDc hFc hP1 hD1 ht
    generalize H1 = H at hP hS ⊢
    have hP : va_P (dC, dI) classes ([(oc8 x (.ref sh) (.ref lw) (.ref ro) (.ref bq) (.ref bp) (.ref dq) (.ref dp) (.ref lv) (.ref sl) ds sd ul su), (oc7 sh (.ref fa) (nI ft)), (oq fa cF 200 FA), (oc1 fe2 (rk f0) (wd f0) (tw f0) (pa f0) (pb f0) (.ref lo2) (.ref lk2) fm2), (oc4 lk2 (kd f0) (st f0) .null (gb f0) (it f0) we2)] ++ va_pl T_1 f) H := hP
    have hD : va_D A ([(oc8 x (.ref sh) (.ref lw) (.ref ro) (.ref bq) (.ref bp) (.ref dq) (.ref dp) (.ref lv) (.ref sl) ds sd ul su), (oc7 sh (.ref fa) (nI ft)), (oq fa cF 200 FA), (oc1 fe2 (rk f0) (wd f0) (tw f0) (pa f0) (pb f0) (.ref lo2) (.ref lk2) fm2), (oc4 lk2 (kd f0) (st f0) .null (gb f0) (it f0) we2)] ++ va_pl T_1 f) := hD
    refine lv_if_ne (tgt := 26) hx hb dX10_at_21 (by decide) (fun c_1 => ?_) (fun c_1 => ?_)
    · have c_1 : (0 : Int32).toInt ≤ (1 : Int32).toInt ∧ (1 : Int32).toInt ≤ (1 : Int32).toInt := zp_1 c_1
      refine lv_aload hx hb dX10_at_26 (lv_at hl 0 rfl) ?_
      refine va_get (D := (dC, dI)) (ci := 1) (v := .ref lk2) (C := RX2) (T := TX2) (N := 8) hx hb hts inX2 hown hK hP 3 rfl rfl 6 (by decide) (hts _ mw_433) (fun _ h9 => h9) rfl dX10_at_28 ?_
      refine va_get (D := (dC, dI)) (ci := 4) (v := .null) (C := RX5) (T := TX5) (N := 6) hx hb hts inX5 hown hK hP 4 rfl rfl 2 (by decide) (hts _ mw_391) (fun _ h9 => h9) rfl dX10_at_31 ?_
      refine lv_astoreN (lv' := [(5, .null), (4, .ref fe2), (0, .ref x), (1, .int (nI f0)), (2, .int (nI k)), (3, .int 1)]) hx hb dX10_at_34 hl (by decide) rfl (fun ls hl => ?_)
      refine lv_aloadN hx hb dX10_at_36 (lv_at hl 0 rfl) ?_
      refine lv_ifnullN (tgt := 54) hx hb dX10_at_38 (by decide) ?_
      exfalso; omega
    · have c_1 : ¬ ((0 : Int32).toInt ≤ (1 : Int32).toInt ∧ (1 : Int32).toInt ≤ (1 : Int32).toInt) := zp_0 c_1
      exfalso; omega
  · skip
    have hcap2 := hrr2.1
    have hcap3 := hrr2.2.1
    have hc9_1 : inPl L f [(oc1 fe2 (rk f0) (wd f0) (tw f0) (pa f0) (pb f0) (.ref lo2) (.ref lk2) fm2), (oc4 lk2 (kd f0) (st f0) (.ref r2) (gb f0) (it f0) we2), (oc6 r2 (.ref rx2) (.ref ry2) (nI (nN (mn f0))) rg2), (oa rx2 cI cap2 U2), (oa ry2 cI cap2 V2)] := ⟨hfe2, hlk2, hr2, hrx2, hry2, trivial⟩
    have hD0_1 := hD
    obtain ⟨hP, hD⟩ := pl_out hP hD [(oc1 fe2 (rk f0) (wd f0) (tw f0) (pa f0) (pb f0) (.ref lo2) (.ref lk2) fm2), (oc4 lk2 (kd f0) (st f0) (.ref r2) (gb f0) (it f0) we2), (oc6 r2 (.ref rx2) (.ref ry2) (nI (nN (mn f0))) rg2), (oa rx2 cI cap2 U2), (oa ry2 cI cap2 V2)] hc9_1 (pwR hfe2.2 hlk2.2 hr2.2 hrx2.2 hry2.2 hne2)
    generalize hT_1 : outPl L [(oc1 fe2 (rk f0) (wd f0) (tw f0) (pa f0) (pb f0) (.ref lo2) (.ref lk2) fm2), (oc4 lk2 (kd f0) (st f0) (.ref r2) (gb f0) (it f0) we2), (oc6 r2 (.ref rx2) (.ref ry2) (nI (nN (mn f0))) rg2), (oa rx2 cI cap2 U2), (oa ry2 cI cap2 V2)] = T_1 at hP hD
    have hP : va_P (dC, dI) classes ([(oc8 x (.ref sh) (.ref lw) (.ref ro) (.ref bq) (.ref bp) (.ref dq) (.ref dp) (.ref lv) (.ref sl) ds sd ul su), (oc7 sh (.ref fa) (nI ft)), (oq fa cF 200 FA), (oc1 fe2 (rk f0) (wd f0) (tw f0) (pa f0) (pb f0) (.ref lo2) (.ref lk2) fm2), (oc4 lk2 (kd f0) (st f0) (.ref r2) (gb f0) (it f0) we2), (oc6 r2 (.ref rx2) (.ref ry2) (nI (nN (mn f0))) rg2), (oa rx2 cI cap2 U2), (oa ry2 cI cap2 V2)] ++ va_pl T_1 f) s.heap := hP
    have hD : va_D A ([(oc8 x (.ref sh) (.ref lw) (.ref ro) (.ref bq) (.ref bp) (.ref dq) (.ref dp) (.ref lv) (.ref sl) ds sd ul su), (oc7 sh (.ref fa) (nI ft)), (oq fa cF 200 FA), (oc1 fe2 (rk f0) (wd f0) (tw f0) (pa f0) (pb f0) (.ref lo2) (.ref lk2) fm2), (oc4 lk2 (kd f0) (st f0) (.ref r2) (gb f0) (it f0) we2), (oc6 r2 (.ref rx2) (.ref ry2) (nI (nN (mn f0))) rg2), (oa rx2 cI cap2 U2), (oa ry2 cI cap2 V2)] ++ va_pl T_1 f) := hD
    refine lv_aload_n hx hb dX10_at_0 rfl (lv_at hl 0 rfl) ?_
    refine va_get (D := (dC, dI)) (ci := 8) (v := .ref sh) (C := RX10) (T := TX10) (N := 13) hx hb hts inX10 hown hK hP 0 rfl rfl 0 (by decide) (hts _ mw_309) (fun _ h9 => h9) rfl dX10_at_1 ?_
    refine lv_iload_n hx hb dX10_at_4 rfl (lv_at hl 1 rfl) ?_
    have hPc := hP.sub (ws' := [(oc7 sh (.ref fa) (nI ft)), (oq fa cF 200 FA)]) [1, 2] rfl
    have hDc := hD.sub (ws' := [(oc7 sh (.ref fa) (nI ft)), (oq fa cF 200 FA)]) [1, 2] (by decide) rfl
    have hFc := va_free (wc := [(oc7 sh (.ref fa) (nI ft)), (oq fa cF 200 FA)]) hD hS hA [1, 2] rfl
    refine zcall (st1 := [.ref fe2]) (va_runV (As := [.int (nI f0)]) (rest := []) ⟨hx, hb, hml, hown, hts⟩ (k_Sheet_find l dC dI cI cZ cF s.heap.size sh fa ft FA f0 fe2 (by omega) (by omega) (hFA2)) (cwV 1 hts (zz_gV mw_498 mw_499 mw_500 mw_100 mc_yX8_find) rfl rfl rfl (by decide +kernel) ⟨Nat.le_of_ble_eq_true rfl, Nat.le_of_ble_eq_true rfl⟩) (zPV2 (q0 := 0) (ci := 7) hPc hDc hK hXN rfl rfl) rfl rfl hl.1 rfl (lv_room (Nat.le_of_ble_eq_true rfl)) dX10_at_5 ⟨Nat.le_of_ble_eq_true rfl, Nat.le_of_ble_eq_true rfl⟩) hS hFc hFc rfl (fun t H1 locs ht hB hk1 hS => ?_)
    obtain ⟨hP1, hD1⟩ := hB
    rw [ht] at hP1
    obtain ⟨hP, hD⟩ := va_joinQ (wr := [(oc8 x (.ref sh) (.ref lw) (.ref ro) (.ref bq) (.ref bp) (.ref dq) (.ref dp) (.ref lv) (.ref sl) ds sd ul su), (oc1 fe2 (rk f0) (wd f0) (tw f0) (pa f0) (pb f0) (.ref lo2) (.ref lk2) fm2), (oc4 lk2 (kd f0) (st f0) (.ref r2) (gb f0) (it f0) we2), (oc6 r2 (.ref rx2) (.ref ry2) (nI (nN (mn f0))) rg2), (oa rx2 cI cap2 U2), (oa ry2 cI cap2 V2)]) (w1 := [(oc7 sh (.ref fa) (nI ft)), (oq fa cF 200 FA)]) hP hD [1, 2] [0, 3, 4, 5, 6, 7] rfl rfl (by decide) (by decide) hk1 hFc hP1 hD1
    clear hk1 hPc hDc hFc hP1 hD1 ht
    generalize H1 = H at hP hS ⊢
    have hP := hP.part (cx := [(oc8 x (.ref sh) (.ref lw) (.ref ro) (.ref bq) (.ref bp) (.ref dq) (.ref dp) (.ref lv) (.ref sl) ds sd ul su), (oc7 sh (.ref fa) (nI ft)), (oq fa cF 200 FA), (oc1 fe2 (rk f0) (wd f0) (tw f0) (pa f0) (pb f0) (.ref lo2) (.ref lk2) fm2), (oc4 lk2 (kd f0) (st f0) (.ref r2) (gb f0) (it f0) we2), (oc6 r2 (.ref rx2) (.ref ry2) (nI (nN (mn f0))) rg2), (oa rx2 cI cap2 U2), (oa ry2 cI cap2 V2)]) [0, 6, 7, 1, 2, 3, 4, 5] rfl
    have hD := hD.part (cx := [(oc8 x (.ref sh) (.ref lw) (.ref ro) (.ref bq) (.ref bp) (.ref dq) (.ref dp) (.ref lv) (.ref sl) ds sd ul su), (oc7 sh (.ref fa) (nI ft)), (oq fa cF 200 FA), (oc1 fe2 (rk f0) (wd f0) (tw f0) (pa f0) (pb f0) (.ref lo2) (.ref lk2) fm2), (oc4 lk2 (kd f0) (st f0) (.ref r2) (gb f0) (it f0) we2), (oc6 r2 (.ref rx2) (.ref ry2) (nI (nN (mn f0))) rg2), (oa rx2 cI cap2 U2), (oa ry2 cI cap2 V2)]) [0, 6, 7, 1, 2, 3, 4, 5] (by decide) rfl
    have hP : va_P (dC, dI) classes ([(oc8 x (.ref sh) (.ref lw) (.ref ro) (.ref bq) (.ref bp) (.ref dq) (.ref dp) (.ref lv) (.ref sl) ds sd ul su), (oc7 sh (.ref fa) (nI ft)), (oq fa cF 200 FA), (oc1 fe2 (rk f0) (wd f0) (tw f0) (pa f0) (pb f0) (.ref lo2) (.ref lk2) fm2), (oc4 lk2 (kd f0) (st f0) (.ref r2) (gb f0) (it f0) we2), (oc6 r2 (.ref rx2) (.ref ry2) (nI (nN (mn f0))) rg2), (oa rx2 cI cap2 U2), (oa ry2 cI cap2 V2)] ++ va_pl T_1 f) H := hP
    have hD : va_D A ([(oc8 x (.ref sh) (.ref lw) (.ref ro) (.ref bq) (.ref bp) (.ref dq) (.ref dp) (.ref lv) (.ref sl) ds sd ul su), (oc7 sh (.ref fa) (nI ft)), (oq fa cF 200 FA), (oc1 fe2 (rk f0) (wd f0) (tw f0) (pa f0) (pb f0) (.ref lo2) (.ref lk2) fm2), (oc4 lk2 (kd f0) (st f0) (.ref r2) (gb f0) (it f0) we2), (oc6 r2 (.ref rx2) (.ref ry2) (nI (nN (mn f0))) rg2), (oa rx2 cI cap2 U2), (oa ry2 cI cap2 V2)] ++ va_pl T_1 f) := hD
    refine lv_astore (lv' := [(4, .ref fe2), (0, .ref x), (1, .int (nI f0)), (2, .int (nI k)), (3, .int 1)]) hx hb dX10_at_8 hl (by decide) rfl (fun ls hl => ?_)
    refine lv_aload hx hb dX10_at_10 (lv_at hl 0 rfl) ?_
    refine lv_ifnull hx hb dX10_at_12 ?_
    refine lv_iload_n hx hb dX10_at_15 rfl (lv_at hl 4 rfl) ?_
    refine lv_iconst (v := 0) hx hb dX10_at_16 (by decide) ?_
    refine lv_iconst (v := 1) hx hb dX10_at_17 (by decide) ?_
    have hPc := hP.sub (ws' := []) [] rfl
    have hDc := hD.sub (ws' := []) [] (by decide) rfl
    have hFc := va_free (wc := []) hD hS hA [] rfl
    refine zcall (st1 := [.int (pI ((0 : Int32).toInt ≤ (1 : Int32).toInt ∧ (1 : Int32).toInt ≤ (1 : Int32).toInt))]) (va_runS (As := [.int 1, .int 0, .int 1]) (rest := []) ⟨hx, hb, hml, hown, hts⟩ (k_isWithin l dC dI cI cZ cF H.size 1 0 1 ) (va_cwS 3 hts (zz_gS mw_353 mw_354 mw_99 mc_yX10_isWithin) rfl rfl rfl (by decide +kernel) ⟨Nat.le_of_ble_eq_true rfl, Nat.le_of_ble_eq_true rfl⟩) (zPS2 hPc hDc hK hXN) rfl rfl hl.1 rfl (lv_room (Nat.le_of_ble_eq_true rfl)) dX10_at_18 ⟨Nat.le_of_ble_eq_true rfl, Nat.le_of_ble_eq_true rfl⟩) hS hFc hFc rfl (fun t H1 locs ht hB hk1 hS => ?_)
    obtain ⟨hP1, hD1⟩ := hB
    rw [ht] at hP1
    obtain ⟨hP, hD⟩ := va_joinQ (wr := [(oc8 x (.ref sh) (.ref lw) (.ref ro) (.ref bq) (.ref bp) (.ref dq) (.ref dp) (.ref lv) (.ref sl) ds sd ul su), (oc7 sh (.ref fa) (nI ft)), (oq fa cF 200 FA), (oc1 fe2 (rk f0) (wd f0) (tw f0) (pa f0) (pb f0) (.ref lo2) (.ref lk2) fm2), (oc4 lk2 (kd f0) (st f0) (.ref r2) (gb f0) (it f0) we2), (oc6 r2 (.ref rx2) (.ref ry2) (nI (nN (mn f0))) rg2), (oa rx2 cI cap2 U2), (oa ry2 cI cap2 V2)]) (w1 := []) hP hD [] [0, 1, 2, 3, 4, 5, 6, 7] rfl rfl (by decide) (by decide) hk1 hFc hP1 hD1
    clear hk1 hPc hDc hFc hP1 hD1 ht
    generalize H1 = H at hP hS ⊢
    have hP : va_P (dC, dI) classes ([(oc8 x (.ref sh) (.ref lw) (.ref ro) (.ref bq) (.ref bp) (.ref dq) (.ref dp) (.ref lv) (.ref sl) ds sd ul su), (oc7 sh (.ref fa) (nI ft)), (oq fa cF 200 FA), (oc1 fe2 (rk f0) (wd f0) (tw f0) (pa f0) (pb f0) (.ref lo2) (.ref lk2) fm2), (oc4 lk2 (kd f0) (st f0) (.ref r2) (gb f0) (it f0) we2), (oc6 r2 (.ref rx2) (.ref ry2) (nI (nN (mn f0))) rg2), (oa rx2 cI cap2 U2), (oa ry2 cI cap2 V2)] ++ va_pl T_1 f) H := hP
    have hD : va_D A ([(oc8 x (.ref sh) (.ref lw) (.ref ro) (.ref bq) (.ref bp) (.ref dq) (.ref dp) (.ref lv) (.ref sl) ds sd ul su), (oc7 sh (.ref fa) (nI ft)), (oq fa cF 200 FA), (oc1 fe2 (rk f0) (wd f0) (tw f0) (pa f0) (pb f0) (.ref lo2) (.ref lk2) fm2), (oc4 lk2 (kd f0) (st f0) (.ref r2) (gb f0) (it f0) we2), (oc6 r2 (.ref rx2) (.ref ry2) (nI (nN (mn f0))) rg2), (oa rx2 cI cap2 U2), (oa ry2 cI cap2 V2)] ++ va_pl T_1 f) := hD
    refine lv_if_ne (tgt := 26) hx hb dX10_at_21 (by decide) (fun c_2 => ?_) (fun c_2 => ?_)
    · have c_2 : (0 : Int32).toInt ≤ (1 : Int32).toInt ∧ (1 : Int32).toInt ≤ (1 : Int32).toInt := zp_1 c_2
      refine lv_aload hx hb dX10_at_26 (lv_at hl 0 rfl) ?_
      refine va_get (D := (dC, dI)) (ci := 1) (v := .ref lk2) (C := RX2) (T := TX2) (N := 8) hx hb hts inX2 hown hK hP 3 rfl rfl 6 (by decide) (hts _ mw_433) (fun _ h9 => h9) rfl dX10_at_28 ?_
      refine va_get (D := (dC, dI)) (ci := 4) (v := .ref r2) (C := RX5) (T := TX5) (N := 6) hx hb hts inX5 hown hK hP 4 rfl rfl 2 (by decide) (hts _ mw_391) (fun _ h9 => h9) rfl dX10_at_31 ?_
      refine lv_astore (lv' := [(5, .ref r2), (4, .ref fe2), (0, .ref x), (1, .int (nI f0)), (2, .int (nI k)), (3, .int 1)]) hx hb dX10_at_34 hl (by decide) rfl (fun ls hl => ?_)
      refine lv_aload hx hb dX10_at_36 (lv_at hl 0 rfl) ?_
      refine lv_ifnull hx hb dX10_at_38 ?_
      refine lv_iload_n hx hb dX10_at_41 rfl (lv_at hl 4 rfl) ?_
      refine lv_if_lt (tgt := 54) hx hb dX10_at_42 (by decide) (fun c_3 => ?_) (fun c_3 => ?_)
      · have c_3 : ((k : Nat) : Int) < 0 := zc_lt (nI_toInt (by omega)) (by decide) c_3
        exfalso; omega
      · have c_3 : 0 ≤ ((k : Nat) : Int) := zc_nlt (nI_toInt (by omega)) (by decide) c_3
        refine lv_iload_n hx hb dX10_at_45 rfl (lv_at hl 4 rfl) ?_
        refine lv_aload hx hb dX10_at_46 (lv_at hl 0 rfl) ?_
        refine va_get (D := (dC, dI)) (ci := 6) (v := .int (nI (nN (mn f0)))) (C := RX7) (T := TX7) (N := 4) hx hb hts inX7 hown hK hP 5 rfl rfl 2 (by decide) (hts _ mw_179) (fun _ h9 => h9) rfl dX10_at_48 ?_
        refine lv_icmp_lt (tgt := 56) hx hb dX10_at_51 (by decide) (fun c_4 => ?_) (fun c_4 => ?_)
        · have c_4 : ((k : Nat) : Int) < ((nN (mn f0) : Nat) : Int) := zc_lt (nI_toInt (by omega)) (nI_toInt (by omega)) c_4
          refine lv_iload_n hx hb dX10_at_56 rfl (lv_at hl 5 rfl) ?_
          refine lv_if_ne (tgt := 70) hx hb dX10_at_57 (by decide) (fun c_5 => ?_) (fun c_5 => ?_)
          · refine lv_aload hx hb dX10_at_70 (lv_at hl 0 rfl) ?_
            refine va_get (D := (dC, dI)) (ci := 6) (v := .ref ry2) (C := RX7) (T := TX7) (N := 4) hx hb hts inX7 hown hK hP 5 rfl rfl 1 (by decide) (hts _ mw_174) (fun _ h9 => h9) rfl dX10_at_72 ?_
            refine lv_iload_n hx hb dX10_at_75 rfl (lv_at hl 4 rfl) ?_
            refine z_iald hx hb hK hP 7 0 rfl rfl (e := k) rfl (by omega) (by omega) dX10_at_76 ?_
            have hP := pl_back (cs := [(oc1 fe2 (rk f0) (wd f0) (tw f0) (pa f0) (pb f0) (.ref lo2) (.ref lk2) fm2), (oc4 lk2 (kd f0) (st f0) (.ref r2) (gb f0) (it f0) we2), (oc6 r2 (.ref rx2) (.ref ry2) (nI (nN (mn f0))) rg2), (oa rx2 cI cap2 U2), (oa ry2 cI cap2 V2)]) (L := L) (f := f) (X := [(oc8 x (.ref sh) (.ref lw) (.ref ro) (.ref bq) (.ref bp) (.ref dq) (.ref dp) (.ref lv) (.ref sl) ds sd ul su), (oc7 sh (.ref fa) (nI ft)), (oq fa cF 200 FA)]) (by rw [hT_1]; exact (show va_P (dC, dI) classes (([(oc8 x (.ref sh) (.ref lw) (.ref ro) (.ref bq) (.ref bp) (.ref dq) (.ref dp) (.ref lv) (.ref sl) ds sd ul su), (oc7 sh (.ref fa) (nI ft)), (oq fa cF 200 FA)] ++ [(oc1 fe2 (rk f0) (wd f0) (tw f0) (pa f0) (pb f0) (.ref lo2) (.ref lk2) fm2), (oc4 lk2 (kd f0) (st f0) (.ref r2) (gb f0) (it f0) we2), (oc6 r2 (.ref rx2) (.ref ry2) (nI (nN (mn f0))) rg2), (oa rx2 cI cap2 U2), (oa ry2 cI cap2 V2)]) ++ va_pl T_1 f) H from hP)) hc9_1
            have hD : va_D A ([(oc8 x (.ref sh) (.ref lw) (.ref ro) (.ref bq) (.ref bp) (.ref dq) (.ref dp) (.ref lv) (.ref sl) ds sd ul su), (oc7 sh (.ref fa) (nI ft)), (oq fa cF 200 FA)] ++ va_pl L f) := vaD_ae hD0_1 rfl
            have hP9 := hP.part (cx := [(oc8 x (.ref sh) (.ref lw) (.ref ro) (.ref bq) (.ref bp) (.ref dq) (.ref dp) (.ref lv) (.ref sl) ds sd ul su), (oc7 sh (.ref fa) (nI ft)), (oq fa cF 200 FA)]) [0, 1, 2] rfl
            have hD9 := hD.part (cx := [(oc8 x (.ref sh) (.ref lw) (.ref ro) (.ref bq) (.ref bp) (.ref dq) (.ref dp) (.ref lv) (.ref sl) ds sd ul su), (oc7 sh (.ref fa) (nI ft)), (oq fa cF 200 FA)]) [0, 1, 2] (by decide) rfl
            rw [hQ9]
            exact W.iret (v := V2 k) hx hb hr (fun t ht hW => ⟨⟨congrArg (fun z => Outcome.returned (some (Value.int z))) (show (V2 k : Int32) = cF40 cy f0 k from by first | exact (hrr2.2.2.2.2 k (by omega)).2 | exact (hrr2.2.2.2.2 k (by omega)).2.symm), by rw [ht]; exact hP9, hD9⟩, hS.F ht⟩) hS.2.2 dX10_at_77
          · exact absurd c_5 (by decide)
        · have c_4 : ((nN (mn f0) : Nat) : Int) ≤ ((k : Nat) : Int) := zc_nlt (nI_toInt (by omega)) (nI_toInt (by omega)) c_4
          exfalso; omega
    · have c_2 : ¬ ((0 : Int32).toInt ≤ (1 : Int32).toInt ∧ (1 : Int32).toInt ≤ (1 : Int32).toInt) := zp_0 c_2
      exfalso; omega
set_option maxHeartbeats 4000000 in
set_option maxRecDepth 100000 in
theorem k_size_x (l : Launch) (dC : Nat → ClassId) (dI : Nat → Nat → Nat) (cI cZ cF : ClassId) (sz : Nat) (x : Nat) (sh : Nat) (lw : Nat) (ro : Nat) (bq : Nat) (bp : Nat) (dq : Nat) (dp : Nat) (lv : Nat) (sl : Nat) (sd : Int32) (ul : Int32) (su : Int32) (ds : Int32) (fa : Nat) (ft : Nat) (FA : Nat → Option Nat) (v : Int32) (h200 : ft ≤ 200) (hv : ¬ (0 ≤ v.toInt ∧ v.toInt < ((ft : Nat) : Int))) : Met l yX10_size (.code yX10_size cX10_size 3 (some .long) :: ws0) ({ frames := 2, cells := 0, slots := 0, locals := 43 } : Room) (va_Pc [.ref x, .int v] (zPre (dC, dI) classes (zTy cI cZ cF) [(oc8 x (.ref sh) (.ref lw) (.ref ro) (.ref bq) (.ref bp) (.ref dq) (.ref dp) (.ref lv) (.ref sl) ds sd ul su), (oc7 sh (.ref fa) (nI ft)), (oq fa cF 200 FA)] sz zXN)) (zQ (some (.long (-1))) (fun t => va_P (dC, dI) classes [(oc8 x (.ref sh) (.ref lw) (.ref ro) (.ref bq) (.ref bp) (.ref dq) (.ref dp) (.ref lv) (.ref sl) ds sd ul su), (oc7 sh (.ref fa) (nI ft)), (oq fa cF 200 FA)] t.heap ∧ va_D (va_A [(oc8 x (.ref sh) (.ref lw) (.ref ro) (.ref bq) (.ref bp) (.ref dq) (.ref dp) (.ref lv) (.ref sl) ds sd ul su), (oc7 sh (.ref fa) (nI ft)), (oq fa cF 200 FA)] sz) [(oc8 x (.ref sh) (.ref lw) (.ref ro) (.ref bq) (.ref bp) (.ref dq) (.ref dp) (.ref lv) (.ref sl) ds sd ul su), (oc7 sh (.ref fa) (nI ft)), (oq fa cF 200 FA)]) (va_A [(oc8 x (.ref sh) (.ref lw) (.ref ro) (.ref bq) (.ref bp) (.ref dq) (.ref dp) (.ref lv) (.ref sl) ds sd ul su), (oc7 sh (.ref fa) (nI ft)), (oq fa cF 200 FA)] sz)) 0 0 (va_A [(oc8 x (.ref sh) (.ref lw) (.ref ro) (.ref bq) (.ref bp) (.ref dq) (.ref dp) (.ref lv) (.ref sl) ds sd ul su), (oc7 sh (.ref fa) (nI ft)), (oq fa cF 200 FA)] sz) := by
  refine Met.ofW (cc := cX10_size) (maxL := 3) (ret := (some .long)) (by decide) rfl ?_
  intro p e s m args below meth c s₁ B hml hv
  obtain ⟨rfl, hsz, hP, hK, hD0, hXN⟩ := hv
  have hx := B.exec
  have hb := B.bytes
  have hr := B.returns
  have hts0 := atoms_spec (ws := .code yX10_size cX10_size 3 (some .long) :: ws0) B.pre
  have hts : ∀ w9 ∈ ws0, w9.before ([.ref x, .int v] : List Value).toArray s = true := fun w9 h => hts0 w9 (List.mem_cons_of_mem _ h)
  have hown : s.vm.findClass "ScaleShop" = some m.cls := findClass_of_methodNamed B.named
  have hlocks := B.notSynchronized
  subst hsz
  have hD := hD0.self (sz := s.heap.size)
  clear hD0
  generalize hAe : va_A [(oc8 x (.ref sh) (.ref lw) (.ref ro) (.ref bq) (.ref bp) (.ref dq) (.ref dp) (.ref lv) (.ref sl) ds sd ul su), (oc7 sh (.ref fa) (nI ft)), (oq fa cF 200 FA)] s.heap.size = A at hD ⊢
  have hA : ∀ q : Nat, s.heap.size ≤ q → A q := fun q h => by rw [← hAe]; exact Or.inr h
  clear hAe
  have hS : va_S A s.heap s.heap [] := va_S.rf
  have hP : va_P (dC, dI) classes [(oc8 x (.ref sh) (.ref lw) (.ref ro) (.ref bq) (.ref bp) (.ref dq) (.ref dp) (.ref lv) (.ref sl) ds sd ul su), (oc7 sh (.ref fa) (nI ft)), (oq fa cF 200 FA)] s.heap := hP
  obtain ⟨Q9, hQ9⟩ : ∃ Q9 : State → Prop, Q9 = MQ below (zQ (some (.long (-1))) (fun t => va_P (dC, dI) classes [(oc8 x (.ref sh) (.ref lw) (.ref ro) (.ref bq) (.ref bp) (.ref dq) (.ref dp) (.ref lv) (.ref sl) ds sd ul su), (oc7 sh (.ref fa) (nI ft)), (oq fa cF 200 FA)] t.heap ∧ va_D A [(oc8 x (.ref sh) (.ref lw) (.ref ro) (.ref bq) (.ref bp) (.ref dq) (.ref dp) (.ref lv) (.ref sl) ds sd ul su), (oc7 sh (.ref fa) (nI ft)), (oq fa cF 200 FA)]) A) ([.ref x, .int v] : List Value).toArray s 0 0 A := ⟨_, rfl⟩
  rw [← hQ9]
  have hl := lv_entry ([.ref x, .int v]) (n := 3) (Nat.le_of_ble_eq_true rfl)
  rw [lg_entry_eq]
  generalize (lg_sl ([.ref x, .int v]) ++ List.replicate (3 - (lg_sl ([.ref x, .int v])).length) Slot.unset).toArray = ls at hl ⊢
  have hl : lv_has ls 3 [(0, .ref x), (1, .int v)] := hl
  refine lv_aload_n hx hb dX10_size_0 rfl (lv_at hl 0 rfl) ?_
  refine va_get (D := (dC, dI)) (ci := 8) (v := .ref sh) (C := RX10) (T := TX10) (N := 13) hx hb hts inX10 hown hK hP 0 rfl rfl 0 (by decide) (hts _ mw_309) (fun _ h9 => h9) rfl dX10_size_1 ?_
  refine lv_iload_n hx hb dX10_size_4 rfl (lv_at hl 1 rfl) ?_
  have hPc := hP.sub (ws' := [(oc7 sh (.ref fa) (nI ft)), (oq fa cF 200 FA)]) [1, 2] rfl
  have hDc := hD.sub (ws' := [(oc7 sh (.ref fa) (nI ft)), (oq fa cF 200 FA)]) [1, 2] (by decide) rfl
  have hFc := va_free (wc := [(oc7 sh (.ref fa) (nI ft)), (oq fa cF 200 FA)]) hD hS hA [1, 2] rfl
  refine zcall (st1 := [.null]) (va_runV (As := [.int v]) (rest := []) ⟨hx, hb, hml, hown, hts⟩ (k_Sheet_rowThere_x l dC dI cI cZ cF s.heap.size sh fa ft FA v (by omega) (by assumption)) (cwV 1 hts (zz_gV mw_1027 mw_613 mw_614 mw_100 mc_yX8_rowThere) rfl rfl rfl (by decide +kernel) ⟨Nat.le_of_ble_eq_true rfl, Nat.le_of_ble_eq_true rfl⟩) (zPV2 (q0 := 0) (ci := 7) hPc hDc hK hXN rfl rfl) rfl rfl hl.1 rfl (lv_room (Nat.le_of_ble_eq_true rfl)) dX10_size_5 ⟨Nat.le_of_ble_eq_true rfl, Nat.le_of_ble_eq_true rfl⟩) hS hFc hFc rfl (fun t H1 locs ht hB hk1 hS => ?_)
  obtain ⟨hP1, hD1⟩ := hB
  rw [ht] at hP1
  obtain ⟨hP, hD⟩ := va_join (wr := [(oc8 x (.ref sh) (.ref lw) (.ref ro) (.ref bq) (.ref bp) (.ref dq) (.ref dp) (.ref lv) (.ref sl) ds sd ul su)]) (w1 := [(oc7 sh (.ref fa) (nI ft)), (oq fa cF 200 FA)]) hP hD [1, 2] [0] rfl rfl (by decide) (by decide) hk1 hFc hP1 hD1
  clear hk1 hPc hDc hFc hP1 hD1 ht
  generalize H1 = H at hP hS ⊢
  have hP : va_P (dC, dI) classes [(oc8 x (.ref sh) (.ref lw) (.ref ro) (.ref bq) (.ref bp) (.ref dq) (.ref dp) (.ref lv) (.ref sl) ds sd ul su), (oc7 sh (.ref fa) (nI ft)), (oq fa cF 200 FA)] H := hP
  have hD : va_D A [(oc8 x (.ref sh) (.ref lw) (.ref ro) (.ref bq) (.ref bp) (.ref dq) (.ref dp) (.ref lv) (.ref sl) ds sd ul su), (oc7 sh (.ref fa) (nI ft)), (oq fa cF 200 FA)] := hD
  refine lv_astore_nN (lv' := [(2, .null), (0, .ref x), (1, .int v)]) hx hb dX10_size_8 rfl hl (by decide) rfl (fun ls hl => ?_)
  refine lv_aload_nN hx hb dX10_size_9 rfl (lv_at hl 0 rfl) ?_
  refine lv_ifnonnullN hx hb dX10_size_10 ?_
  refine lv_ldc2 hx hb hown (hts _ mw_1077) dX10_size_13 ?_
  have hP9 := hP.sub (ws' := [(oc8 x (.ref sh) (.ref lw) (.ref ro) (.ref bq) (.ref bp) (.ref dq) (.ref dp) (.ref lv) (.ref sl) ds sd ul su), (oc7 sh (.ref fa) (nI ft)), (oq fa cF 200 FA)]) [0, 1, 2] rfl
  have hD9 := hD.sub (ws' := [(oc8 x (.ref sh) (.ref lw) (.ref ro) (.ref bq) (.ref bp) (.ref dq) (.ref dp) (.ref lv) (.ref sl) ds sd ul su), (oc7 sh (.ref fa) (nI ft)), (oq fa cF 200 FA)]) [0, 1, 2] (by decide) rfl
  rw [hQ9]
  exact W.lret (v := (-1)) hx hb hr (fun t ht hW => ⟨⟨rfl, by rw [ht]; exact hP9, hD9⟩, hS.F ht⟩) hS.2.2 dX10_size_16
set_option maxHeartbeats 4000000 in
set_option maxRecDepth 100000 in
theorem k_size_r (l : Launch) (dC : Nat → ClassId) (dI : Nat → Nat → Nat) (cI cZ cF : ClassId) (sz : Nat) (x : Nat) (sh : Nat) (lw : Nat) (ro : Nat) (bq : Nat) (bp : Nat) (dq : Nat) (dp : Nat) (lv : Nat) (sl : Nat) (sd : Int32) (ul : Int32) (su : Int32) (ds : Int32) (fa : Nat) (ft : Nat) (FA : Nat → Option Nat) (f0 : Nat) (L : List Nat) (f : Nat → va_E) (kd : Nat → Int32) (st : Nat → Int32) (tn : Nat → Int32) (mn : Nat → Int32) (cx : Nat → Int32) (cy : Nat → Int32) (rk : Nat → Int32) (wd : Nat → Int32) (tw : Nat → Int32) (pa : Nat → Int32) (pb : Nat → Int32) (gb : Nat → Int32) (it : Nat → Int32) (h200 : ft ≤ 200) (hf0 : f0 < ft) (hva : ∀ q, q < ft → vwA cI L f FA rk wd tw pa pb kd st gb it tn mn cx cy q) (hbad : ¬ lvF ft st tn f0) : Met l yX10_size (.code yX10_size cX10_size 3 (some .long) :: ws0) ({ frames := 2, cells := 0, slots := 0, locals := 43 } : Room) (va_Pc [.ref x, .int (nI f0)] (zPre (dC, dI) classes (zTy cI cZ cF) ([(oc8 x (.ref sh) (.ref lw) (.ref ro) (.ref bq) (.ref bp) (.ref dq) (.ref dp) (.ref lv) (.ref sl) ds sd ul su), (oc7 sh (.ref fa) (nI ft)), (oq fa cF 200 FA)] ++ va_pl L f) sz zXN)) (zQ (some (.long (-1))) (fun t => va_P (dC, dI) classes ([(oc8 x (.ref sh) (.ref lw) (.ref ro) (.ref bq) (.ref bp) (.ref dq) (.ref dp) (.ref lv) (.ref sl) ds sd ul su), (oc7 sh (.ref fa) (nI ft)), (oq fa cF 200 FA)] ++ va_pl L f) t.heap ∧ va_D (va_A ([(oc8 x (.ref sh) (.ref lw) (.ref ro) (.ref bq) (.ref bp) (.ref dq) (.ref dp) (.ref lv) (.ref sl) ds sd ul su), (oc7 sh (.ref fa) (nI ft)), (oq fa cF 200 FA)] ++ va_pl L f) sz) ([(oc8 x (.ref sh) (.ref lw) (.ref ro) (.ref bq) (.ref bp) (.ref dq) (.ref dp) (.ref lv) (.ref sl) ds sd ul su), (oc7 sh (.ref fa) (nI ft)), (oq fa cF 200 FA)] ++ va_pl L f)) (va_A ([(oc8 x (.ref sh) (.ref lw) (.ref ro) (.ref bq) (.ref bp) (.ref dq) (.ref dp) (.ref lv) (.ref sl) ds sd ul su), (oc7 sh (.ref fa) (nI ft)), (oq fa cF 200 FA)] ++ va_pl L f) sz)) 0 0 (va_A ([(oc8 x (.ref sh) (.ref lw) (.ref ro) (.ref bq) (.ref bp) (.ref dq) (.ref dp) (.ref lv) (.ref sl) ds sd ul su), (oc7 sh (.ref fa) (nI ft)), (oq fa cF 200 FA)] ++ va_pl L f) sz) := by
  refine Met.ofW (cc := cX10_size) (maxL := 3) (ret := (some .long)) (by decide) rfl ?_
  intro p e s m args below meth c s₁ B hml hv
  obtain ⟨rfl, hsz, hP, hK, hD0, hXN⟩ := hv
  have hx := B.exec
  have hb := B.bytes
  have hr := B.returns
  have hts0 := atoms_spec (ws := .code yX10_size cX10_size 3 (some .long) :: ws0) B.pre
  have hts : ∀ w9 ∈ ws0, w9.before ([.ref x, .int (nI f0)] : List Value).toArray s = true := fun w9 h => hts0 w9 (List.mem_cons_of_mem _ h)
  have hown : s.vm.findClass "ScaleShop" = some m.cls := findClass_of_methodNamed B.named
  have hlocks := B.notSynchronized
  subst hsz
  have hD := hD0.self (sz := s.heap.size)
  clear hD0
  generalize hAe : va_A ([(oc8 x (.ref sh) (.ref lw) (.ref ro) (.ref bq) (.ref bp) (.ref dq) (.ref dp) (.ref lv) (.ref sl) ds sd ul su), (oc7 sh (.ref fa) (nI ft)), (oq fa cF 200 FA)] ++ va_pl L f) s.heap.size = A at hD ⊢
  have hA : ∀ q : Nat, s.heap.size ≤ q → A q := fun q h => by rw [← hAe]; exact Or.inr h
  clear hAe
  have hS : va_S A s.heap s.heap [] := va_S.rf
  have hP : va_P (dC, dI) classes ([(oc8 x (.ref sh) (.ref lw) (.ref ro) (.ref bq) (.ref bp) (.ref dq) (.ref dp) (.ref lv) (.ref sl) ds sd ul su), (oc7 sh (.ref fa) (nI ft)), (oq fa cF 200 FA)] ++ va_pl L f) s.heap := hP
  obtain ⟨Q9, hQ9⟩ : ∃ Q9 : State → Prop, Q9 = MQ below (zQ (some (.long (-1))) (fun t => va_P (dC, dI) classes ([(oc8 x (.ref sh) (.ref lw) (.ref ro) (.ref bq) (.ref bp) (.ref dq) (.ref dp) (.ref lv) (.ref sl) ds sd ul su), (oc7 sh (.ref fa) (nI ft)), (oq fa cF 200 FA)] ++ va_pl L f) t.heap ∧ va_D A ([(oc8 x (.ref sh) (.ref lw) (.ref ro) (.ref bq) (.ref bp) (.ref dq) (.ref dp) (.ref lv) (.ref sl) ds sd ul su), (oc7 sh (.ref fa) (nI ft)), (oq fa cF 200 FA)] ++ va_pl L f)) A) ([.ref x, .int (nI f0)] : List Value).toArray s 0 0 A := ⟨_, rfl⟩
  rw [← hQ9]
  have hl := lv_entry ([.ref x, .int (nI f0)]) (n := 3) (Nat.le_of_ble_eq_true rfl)
  rw [lg_entry_eq]
  generalize (lg_sl ([.ref x, .int (nI f0)]) ++ List.replicate (3 - (lg_sl ([.ref x, .int (nI f0)])).length) Slot.unset).toArray = ls at hl ⊢
  have hl : lv_has ls 3 [(0, .ref x), (1, .int (nI f0))] := hl
  rcases vwA_d (hva f0 (by omega)) hf0 hbad with ⟨ht2, fe2, lk2, lo2, we2, fm2, hFA2, hfe2, hlk2⟩ | ⟨ht2, hA2, fe2, lk2, lo2, we2, fm2, r2, rx2, ry2, cap2, U2, V2, rg2, hFA2, hfe2, hlk2, ⟨hr2, hrx2, hry2, hne2⟩, hrr2⟩
  · skip
    have hc9_1 : inPl L f [(oc1 fe2 (rk f0) (wd f0) (tw f0) (pa f0) (pb f0) (.ref lo2) (.ref lk2) fm2), (oc4 lk2 (kd f0) (st f0) .null (gb f0) (it f0) we2)] := ⟨hfe2, hlk2, trivial⟩
    have hD0_1 := hD
    obtain ⟨hP, hD⟩ := pl_out hP hD [(oc1 fe2 (rk f0) (wd f0) (tw f0) (pa f0) (pb f0) (.ref lo2) (.ref lk2) fm2), (oc4 lk2 (kd f0) (st f0) .null (gb f0) (it f0) we2)] hc9_1 (pwF hfe2.2 hlk2.2)
    generalize hT_1 : outPl L [(oc1 fe2 (rk f0) (wd f0) (tw f0) (pa f0) (pb f0) (.ref lo2) (.ref lk2) fm2), (oc4 lk2 (kd f0) (st f0) .null (gb f0) (it f0) we2)] = T_1 at hP hD
    have hP : va_P (dC, dI) classes ([(oc8 x (.ref sh) (.ref lw) (.ref ro) (.ref bq) (.ref bp) (.ref dq) (.ref dp) (.ref lv) (.ref sl) ds sd ul su), (oc7 sh (.ref fa) (nI ft)), (oq fa cF 200 FA), (oc1 fe2 (rk f0) (wd f0) (tw f0) (pa f0) (pb f0) (.ref lo2) (.ref lk2) fm2), (oc4 lk2 (kd f0) (st f0) .null (gb f0) (it f0) we2)] ++ va_pl T_1 f) s.heap := hP
    have hD : va_D A ([(oc8 x (.ref sh) (.ref lw) (.ref ro) (.ref bq) (.ref bp) (.ref dq) (.ref dp) (.ref lv) (.ref sl) ds sd ul su), (oc7 sh (.ref fa) (nI ft)), (oq fa cF 200 FA), (oc1 fe2 (rk f0) (wd f0) (tw f0) (pa f0) (pb f0) (.ref lo2) (.ref lk2) fm2), (oc4 lk2 (kd f0) (st f0) .null (gb f0) (it f0) we2)] ++ va_pl T_1 f) := hD
    refine lv_aload_n hx hb dX10_size_0 rfl (lv_at hl 0 rfl) ?_
    refine va_get (D := (dC, dI)) (ci := 8) (v := .ref sh) (C := RX10) (T := TX10) (N := 13) hx hb hts inX10 hown hK hP 0 rfl rfl 0 (by decide) (hts _ mw_309) (fun _ h9 => h9) rfl dX10_size_1 ?_
    refine lv_iload_n hx hb dX10_size_4 rfl (lv_at hl 1 rfl) ?_
    have hPc := hP.sub (ws' := [(oc7 sh (.ref fa) (nI ft)), (oq fa cF 200 FA), (oc1 fe2 (rk f0) (wd f0) (tw f0) (pa f0) (pb f0) (.ref lo2) (.ref lk2) fm2), (oc4 lk2 (kd f0) (st f0) .null (gb f0) (it f0) we2)]) [1, 2, 3, 4] rfl
    have hDc := hD.sub (ws' := [(oc7 sh (.ref fa) (nI ft)), (oq fa cF 200 FA), (oc1 fe2 (rk f0) (wd f0) (tw f0) (pa f0) (pb f0) (.ref lo2) (.ref lk2) fm2), (oc4 lk2 (kd f0) (st f0) .null (gb f0) (it f0) we2)]) [1, 2, 3, 4] (by decide) rfl
    have hFc := va_free (wc := [(oc7 sh (.ref fa) (nI ft)), (oq fa cF 200 FA), (oc1 fe2 (rk f0) (wd f0) (tw f0) (pa f0) (pb f0) (.ref lo2) (.ref lk2) fm2), (oc4 lk2 (kd f0) (st f0) .null (gb f0) (it f0) we2)]) hD hS hA [1, 2, 3, 4] rfl
    refine zcall (st1 := [.null]) (va_runV (As := [.int (nI f0)]) (rest := []) ⟨hx, hb, hml, hown, hts⟩ (k_Sheet_rowThere_tv l dC dI cI cZ cF s.heap.size sh fa ft FA f0 fe2 lo2 (rk f0) (wd f0) (tw f0) (pa f0) (pb f0) lk2 (kd f0) (st f0) (gb f0) (it f0) we2 fm2 (by omega) (by omega) (hFA2)) (cwV 1 hts (zz_gV mw_1027 mw_613 mw_614 mw_100 mc_yX8_rowThere) rfl rfl rfl (by decide +kernel) ⟨Nat.le_of_ble_eq_true rfl, Nat.le_of_ble_eq_true rfl⟩) (zPV2 (q0 := 0) (ci := 7) hPc hDc hK hXN rfl rfl) rfl rfl hl.1 rfl (lv_room (Nat.le_of_ble_eq_true rfl)) dX10_size_5 ⟨Nat.le_of_ble_eq_true rfl, Nat.le_of_ble_eq_true rfl⟩) hS hFc hFc rfl (fun t H1 locs ht hB hk1 hS => ?_)
    obtain ⟨hP1, hD1⟩ := hB
    rw [ht] at hP1
    obtain ⟨hP, hD⟩ := va_joinQ (wr := [(oc8 x (.ref sh) (.ref lw) (.ref ro) (.ref bq) (.ref bp) (.ref dq) (.ref dp) (.ref lv) (.ref sl) ds sd ul su)]) (w1 := [(oc7 sh (.ref fa) (nI ft)), (oq fa cF 200 FA), (oc1 fe2 (rk f0) (wd f0) (tw f0) (pa f0) (pb f0) (.ref lo2) (.ref lk2) fm2), (oc4 lk2 (kd f0) (st f0) .null (gb f0) (it f0) we2)]) hP hD [1, 2, 3, 4] [0] rfl rfl (by decide) (by decide) hk1 hFc hP1 hD1
    clear hk1 hPc hDc hFc hP1 hD1 ht
    generalize H1 = H at hP hS ⊢
    have hP : va_P (dC, dI) classes ([(oc8 x (.ref sh) (.ref lw) (.ref ro) (.ref bq) (.ref bp) (.ref dq) (.ref dp) (.ref lv) (.ref sl) ds sd ul su), (oc7 sh (.ref fa) (nI ft)), (oq fa cF 200 FA), (oc1 fe2 (rk f0) (wd f0) (tw f0) (pa f0) (pb f0) (.ref lo2) (.ref lk2) fm2), (oc4 lk2 (kd f0) (st f0) .null (gb f0) (it f0) we2)] ++ va_pl T_1 f) H := hP
    have hD : va_D A ([(oc8 x (.ref sh) (.ref lw) (.ref ro) (.ref bq) (.ref bp) (.ref dq) (.ref dp) (.ref lv) (.ref sl) ds sd ul su), (oc7 sh (.ref fa) (nI ft)), (oq fa cF 200 FA), (oc1 fe2 (rk f0) (wd f0) (tw f0) (pa f0) (pb f0) (.ref lo2) (.ref lk2) fm2), (oc4 lk2 (kd f0) (st f0) .null (gb f0) (it f0) we2)] ++ va_pl T_1 f) := hD
    refine lv_astore_nN (lv' := [(2, .null), (0, .ref x), (1, .int (nI f0))]) hx hb dX10_size_8 rfl hl (by decide) rfl (fun ls hl => ?_)
    refine lv_aload_nN hx hb dX10_size_9 rfl (lv_at hl 0 rfl) ?_
    refine lv_ifnonnullN hx hb dX10_size_10 ?_
    refine lv_ldc2 hx hb hown (hts _ mw_1077) dX10_size_13 ?_
    have hP := pl_back (cs := [(oc1 fe2 (rk f0) (wd f0) (tw f0) (pa f0) (pb f0) (.ref lo2) (.ref lk2) fm2), (oc4 lk2 (kd f0) (st f0) .null (gb f0) (it f0) we2)]) (L := L) (f := f) (X := [(oc8 x (.ref sh) (.ref lw) (.ref ro) (.ref bq) (.ref bp) (.ref dq) (.ref dp) (.ref lv) (.ref sl) ds sd ul su), (oc7 sh (.ref fa) (nI ft)), (oq fa cF 200 FA)]) (by rw [hT_1]; exact (show va_P (dC, dI) classes (([(oc8 x (.ref sh) (.ref lw) (.ref ro) (.ref bq) (.ref bp) (.ref dq) (.ref dp) (.ref lv) (.ref sl) ds sd ul su), (oc7 sh (.ref fa) (nI ft)), (oq fa cF 200 FA)] ++ [(oc1 fe2 (rk f0) (wd f0) (tw f0) (pa f0) (pb f0) (.ref lo2) (.ref lk2) fm2), (oc4 lk2 (kd f0) (st f0) .null (gb f0) (it f0) we2)]) ++ va_pl T_1 f) H from hP)) hc9_1
    have hD : va_D A ([(oc8 x (.ref sh) (.ref lw) (.ref ro) (.ref bq) (.ref bp) (.ref dq) (.ref dp) (.ref lv) (.ref sl) ds sd ul su), (oc7 sh (.ref fa) (nI ft)), (oq fa cF 200 FA)] ++ va_pl L f) := vaD_ae hD0_1 rfl
    have hP9 := hP.part (cx := [(oc8 x (.ref sh) (.ref lw) (.ref ro) (.ref bq) (.ref bp) (.ref dq) (.ref dp) (.ref lv) (.ref sl) ds sd ul su), (oc7 sh (.ref fa) (nI ft)), (oq fa cF 200 FA)]) [0, 1, 2] rfl
    have hD9 := hD.part (cx := [(oc8 x (.ref sh) (.ref lw) (.ref ro) (.ref bq) (.ref bp) (.ref dq) (.ref dp) (.ref lv) (.ref sl) ds sd ul su), (oc7 sh (.ref fa) (nI ft)), (oq fa cF 200 FA)]) [0, 1, 2] (by decide) rfl
    rw [hQ9]
    exact W.lret (v := (-1)) hx hb hr (fun t ht hW => ⟨⟨rfl, by rw [ht]; exact hP9, hD9⟩, hS.F ht⟩) hS.2.2 dX10_size_16
  · skip
    have hcap2 := hrr2.1
    have hcap3 := hrr2.2.1
    have hc9_1 : inPl L f [(oc1 fe2 (rk f0) (wd f0) (tw f0) (pa f0) (pb f0) (.ref lo2) (.ref lk2) fm2), (oc4 lk2 (kd f0) (st f0) (.ref r2) (gb f0) (it f0) we2), (oc6 r2 (.ref rx2) (.ref ry2) (nI (nN (mn f0))) rg2), (oa rx2 cI cap2 U2), (oa ry2 cI cap2 V2)] := ⟨hfe2, hlk2, hr2, hrx2, hry2, trivial⟩
    have hD0_1 := hD
    obtain ⟨hP, hD⟩ := pl_out hP hD [(oc1 fe2 (rk f0) (wd f0) (tw f0) (pa f0) (pb f0) (.ref lo2) (.ref lk2) fm2), (oc4 lk2 (kd f0) (st f0) (.ref r2) (gb f0) (it f0) we2), (oc6 r2 (.ref rx2) (.ref ry2) (nI (nN (mn f0))) rg2), (oa rx2 cI cap2 U2), (oa ry2 cI cap2 V2)] hc9_1 (pwR hfe2.2 hlk2.2 hr2.2 hrx2.2 hry2.2 hne2)
    generalize hT_1 : outPl L [(oc1 fe2 (rk f0) (wd f0) (tw f0) (pa f0) (pb f0) (.ref lo2) (.ref lk2) fm2), (oc4 lk2 (kd f0) (st f0) (.ref r2) (gb f0) (it f0) we2), (oc6 r2 (.ref rx2) (.ref ry2) (nI (nN (mn f0))) rg2), (oa rx2 cI cap2 U2), (oa ry2 cI cap2 V2)] = T_1 at hP hD
    have hP : va_P (dC, dI) classes ([(oc8 x (.ref sh) (.ref lw) (.ref ro) (.ref bq) (.ref bp) (.ref dq) (.ref dp) (.ref lv) (.ref sl) ds sd ul su), (oc7 sh (.ref fa) (nI ft)), (oq fa cF 200 FA), (oc1 fe2 (rk f0) (wd f0) (tw f0) (pa f0) (pb f0) (.ref lo2) (.ref lk2) fm2), (oc4 lk2 (kd f0) (st f0) (.ref r2) (gb f0) (it f0) we2), (oc6 r2 (.ref rx2) (.ref ry2) (nI (nN (mn f0))) rg2), (oa rx2 cI cap2 U2), (oa ry2 cI cap2 V2)] ++ va_pl T_1 f) s.heap := hP
    have hD : va_D A ([(oc8 x (.ref sh) (.ref lw) (.ref ro) (.ref bq) (.ref bp) (.ref dq) (.ref dp) (.ref lv) (.ref sl) ds sd ul su), (oc7 sh (.ref fa) (nI ft)), (oq fa cF 200 FA), (oc1 fe2 (rk f0) (wd f0) (tw f0) (pa f0) (pb f0) (.ref lo2) (.ref lk2) fm2), (oc4 lk2 (kd f0) (st f0) (.ref r2) (gb f0) (it f0) we2), (oc6 r2 (.ref rx2) (.ref ry2) (nI (nN (mn f0))) rg2), (oa rx2 cI cap2 U2), (oa ry2 cI cap2 V2)] ++ va_pl T_1 f) := hD
    refine lv_aload_n hx hb dX10_size_0 rfl (lv_at hl 0 rfl) ?_
    refine va_get (D := (dC, dI)) (ci := 8) (v := .ref sh) (C := RX10) (T := TX10) (N := 13) hx hb hts inX10 hown hK hP 0 rfl rfl 0 (by decide) (hts _ mw_309) (fun _ h9 => h9) rfl dX10_size_1 ?_
    refine lv_iload_n hx hb dX10_size_4 rfl (lv_at hl 1 rfl) ?_
    have hPc := hP.sub (ws' := [(oc7 sh (.ref fa) (nI ft)), (oq fa cF 200 FA), (oc1 fe2 (rk f0) (wd f0) (tw f0) (pa f0) (pb f0) (.ref lo2) (.ref lk2) fm2), (oc4 lk2 (kd f0) (st f0) (.ref r2) (gb f0) (it f0) we2)]) [1, 2, 3, 4] rfl
    have hDc := hD.sub (ws' := [(oc7 sh (.ref fa) (nI ft)), (oq fa cF 200 FA), (oc1 fe2 (rk f0) (wd f0) (tw f0) (pa f0) (pb f0) (.ref lo2) (.ref lk2) fm2), (oc4 lk2 (kd f0) (st f0) (.ref r2) (gb f0) (it f0) we2)]) [1, 2, 3, 4] (by decide) rfl
    have hFc := va_free (wc := [(oc7 sh (.ref fa) (nI ft)), (oq fa cF 200 FA), (oc1 fe2 (rk f0) (wd f0) (tw f0) (pa f0) (pb f0) (.ref lo2) (.ref lk2) fm2), (oc4 lk2 (kd f0) (st f0) (.ref r2) (gb f0) (it f0) we2)]) hD hS hA [1, 2, 3, 4] rfl
    refine zcall (st1 := [.null]) (va_runV (As := [.int (nI f0)]) (rest := []) ⟨hx, hb, hml, hown, hts⟩ (k_Sheet_rowThere_sv l dC dI cI cZ cF s.heap.size sh fa ft FA f0 fe2 lo2 (rk f0) (wd f0) (tw f0) (pa f0) (pb f0) lk2 (kd f0) (st f0) (gb f0) (it f0) we2 fm2 (.ref r2) (by omega) (by omega) (hFA2) (by first | exact hA2 | omega)) (cwV 1 hts (zz_gV mw_1027 mw_613 mw_614 mw_100 mc_yX8_rowThere) rfl rfl rfl (by decide +kernel) ⟨Nat.le_of_ble_eq_true rfl, Nat.le_of_ble_eq_true rfl⟩) (zPV2 (q0 := 0) (ci := 7) hPc hDc hK hXN rfl rfl) rfl rfl hl.1 rfl (lv_room (Nat.le_of_ble_eq_true rfl)) dX10_size_5 ⟨Nat.le_of_ble_eq_true rfl, Nat.le_of_ble_eq_true rfl⟩) hS hFc hFc rfl (fun t H1 locs ht hB hk1 hS => ?_)
    obtain ⟨hP1, hD1⟩ := hB
    rw [ht] at hP1
    obtain ⟨hP, hD⟩ := va_joinQ (wr := [(oc8 x (.ref sh) (.ref lw) (.ref ro) (.ref bq) (.ref bp) (.ref dq) (.ref dp) (.ref lv) (.ref sl) ds sd ul su), (oc6 r2 (.ref rx2) (.ref ry2) (nI (nN (mn f0))) rg2), (oa rx2 cI cap2 U2), (oa ry2 cI cap2 V2)]) (w1 := [(oc7 sh (.ref fa) (nI ft)), (oq fa cF 200 FA), (oc1 fe2 (rk f0) (wd f0) (tw f0) (pa f0) (pb f0) (.ref lo2) (.ref lk2) fm2), (oc4 lk2 (kd f0) (st f0) (.ref r2) (gb f0) (it f0) we2)]) hP hD [1, 2, 3, 4] [0, 5, 6, 7] rfl rfl (by decide) (by decide) hk1 hFc hP1 hD1
    clear hk1 hPc hDc hFc hP1 hD1 ht
    generalize H1 = H at hP hS ⊢
    have hP := hP.part (cx := [(oc8 x (.ref sh) (.ref lw) (.ref ro) (.ref bq) (.ref bp) (.ref dq) (.ref dp) (.ref lv) (.ref sl) ds sd ul su), (oc7 sh (.ref fa) (nI ft)), (oq fa cF 200 FA), (oc1 fe2 (rk f0) (wd f0) (tw f0) (pa f0) (pb f0) (.ref lo2) (.ref lk2) fm2), (oc4 lk2 (kd f0) (st f0) (.ref r2) (gb f0) (it f0) we2), (oc6 r2 (.ref rx2) (.ref ry2) (nI (nN (mn f0))) rg2), (oa rx2 cI cap2 U2), (oa ry2 cI cap2 V2)]) [0, 4, 5, 6, 7, 1, 2, 3] rfl
    have hD := hD.part (cx := [(oc8 x (.ref sh) (.ref lw) (.ref ro) (.ref bq) (.ref bp) (.ref dq) (.ref dp) (.ref lv) (.ref sl) ds sd ul su), (oc7 sh (.ref fa) (nI ft)), (oq fa cF 200 FA), (oc1 fe2 (rk f0) (wd f0) (tw f0) (pa f0) (pb f0) (.ref lo2) (.ref lk2) fm2), (oc4 lk2 (kd f0) (st f0) (.ref r2) (gb f0) (it f0) we2), (oc6 r2 (.ref rx2) (.ref ry2) (nI (nN (mn f0))) rg2), (oa rx2 cI cap2 U2), (oa ry2 cI cap2 V2)]) [0, 4, 5, 6, 7, 1, 2, 3] (by decide) rfl
    have hP : va_P (dC, dI) classes ([(oc8 x (.ref sh) (.ref lw) (.ref ro) (.ref bq) (.ref bp) (.ref dq) (.ref dp) (.ref lv) (.ref sl) ds sd ul su), (oc7 sh (.ref fa) (nI ft)), (oq fa cF 200 FA), (oc1 fe2 (rk f0) (wd f0) (tw f0) (pa f0) (pb f0) (.ref lo2) (.ref lk2) fm2), (oc4 lk2 (kd f0) (st f0) (.ref r2) (gb f0) (it f0) we2), (oc6 r2 (.ref rx2) (.ref ry2) (nI (nN (mn f0))) rg2), (oa rx2 cI cap2 U2), (oa ry2 cI cap2 V2)] ++ va_pl T_1 f) H := hP
    have hD : va_D A ([(oc8 x (.ref sh) (.ref lw) (.ref ro) (.ref bq) (.ref bp) (.ref dq) (.ref dp) (.ref lv) (.ref sl) ds sd ul su), (oc7 sh (.ref fa) (nI ft)), (oq fa cF 200 FA), (oc1 fe2 (rk f0) (wd f0) (tw f0) (pa f0) (pb f0) (.ref lo2) (.ref lk2) fm2), (oc4 lk2 (kd f0) (st f0) (.ref r2) (gb f0) (it f0) we2), (oc6 r2 (.ref rx2) (.ref ry2) (nI (nN (mn f0))) rg2), (oa rx2 cI cap2 U2), (oa ry2 cI cap2 V2)] ++ va_pl T_1 f) := hD
    refine lv_astore_nN (lv' := [(2, .null), (0, .ref x), (1, .int (nI f0))]) hx hb dX10_size_8 rfl hl (by decide) rfl (fun ls hl => ?_)
    refine lv_aload_nN hx hb dX10_size_9 rfl (lv_at hl 0 rfl) ?_
    refine lv_ifnonnullN hx hb dX10_size_10 ?_
    refine lv_ldc2 hx hb hown (hts _ mw_1077) dX10_size_13 ?_
    have hP := pl_back (cs := [(oc1 fe2 (rk f0) (wd f0) (tw f0) (pa f0) (pb f0) (.ref lo2) (.ref lk2) fm2), (oc4 lk2 (kd f0) (st f0) (.ref r2) (gb f0) (it f0) we2), (oc6 r2 (.ref rx2) (.ref ry2) (nI (nN (mn f0))) rg2), (oa rx2 cI cap2 U2), (oa ry2 cI cap2 V2)]) (L := L) (f := f) (X := [(oc8 x (.ref sh) (.ref lw) (.ref ro) (.ref bq) (.ref bp) (.ref dq) (.ref dp) (.ref lv) (.ref sl) ds sd ul su), (oc7 sh (.ref fa) (nI ft)), (oq fa cF 200 FA)]) (by rw [hT_1]; exact (show va_P (dC, dI) classes (([(oc8 x (.ref sh) (.ref lw) (.ref ro) (.ref bq) (.ref bp) (.ref dq) (.ref dp) (.ref lv) (.ref sl) ds sd ul su), (oc7 sh (.ref fa) (nI ft)), (oq fa cF 200 FA)] ++ [(oc1 fe2 (rk f0) (wd f0) (tw f0) (pa f0) (pb f0) (.ref lo2) (.ref lk2) fm2), (oc4 lk2 (kd f0) (st f0) (.ref r2) (gb f0) (it f0) we2), (oc6 r2 (.ref rx2) (.ref ry2) (nI (nN (mn f0))) rg2), (oa rx2 cI cap2 U2), (oa ry2 cI cap2 V2)]) ++ va_pl T_1 f) H from hP)) hc9_1
    have hD : va_D A ([(oc8 x (.ref sh) (.ref lw) (.ref ro) (.ref bq) (.ref bp) (.ref dq) (.ref dp) (.ref lv) (.ref sl) ds sd ul su), (oc7 sh (.ref fa) (nI ft)), (oq fa cF 200 FA)] ++ va_pl L f) := vaD_ae hD0_1 rfl
    have hP9 := hP.part (cx := [(oc8 x (.ref sh) (.ref lw) (.ref ro) (.ref bq) (.ref bp) (.ref dq) (.ref dp) (.ref lv) (.ref sl) ds sd ul su), (oc7 sh (.ref fa) (nI ft)), (oq fa cF 200 FA)]) [0, 1, 2] rfl
    have hD9 := hD.part (cx := [(oc8 x (.ref sh) (.ref lw) (.ref ro) (.ref bq) (.ref bp) (.ref dq) (.ref dp) (.ref lv) (.ref sl) ds sd ul su), (oc7 sh (.ref fa) (nI ft)), (oq fa cF 200 FA)]) [0, 1, 2] (by decide) rfl
    rw [hQ9]
    exact W.lret (v := (-1)) hx hb hr (fun t ht hW => ⟨⟨rfl, by rw [ht]; exact hP9, hD9⟩, hS.F ht⟩) hS.2.2 dX10_size_16
set_option maxHeartbeats 4000000 in
set_option maxRecDepth 100000 in
theorem k_size_a (l : Launch) (dC : Nat → ClassId) (dI : Nat → Nat → Nat) (cI cZ cF : ClassId) (sz : Nat) (x : Nat) (sh : Nat) (lw : Nat) (ro : Nat) (bq : Nat) (bp : Nat) (dq : Nat) (dp : Nat) (lv : Nat) (sl : Nat) (sd : Int32) (ul : Int32) (su : Int32) (ds : Int32) (fa : Nat) (ft : Nat) (FA : Nat → Option Nat) (f0 : Nat) (L : List Nat) (f : Nat → va_E) (kd : Nat → Int32) (st : Nat → Int32) (tn : Nat → Int32) (mn : Nat → Int32) (cx : Nat → Int32) (cy : Nat → Int32) (rk : Nat → Int32) (wd : Nat → Int32) (tw : Nat → Int32) (pa : Nat → Int32) (pb : Nat → Int32) (gb : Nat → Int32) (it : Nat → Int32) (h200 : ft ≤ 200) (hf0 : f0 < ft) (hva : ∀ q, q < ft → vwA cI L f FA rk wd tw pa pb kd st gb it tn mn cx cy q) (hok : okA ft st tn kd mn cx cy) (hlv : lvF ft st tn f0) (hk5 : 5 ≤ (kd f0).toInt) : Met l yX10_size (.code yX10_size cX10_size 3 (some .long) :: ws0) ({ frames := 2, cells := 0, slots := 0, locals := 44 } : Room) (va_Pc [.ref x, .int (nI f0)] (zPre (dC, dI) classes (zTy cI cZ cF) ([(oc8 x (.ref sh) (.ref lw) (.ref ro) (.ref bq) (.ref bp) (.ref dq) (.ref dp) (.ref lv) (.ref sl) ds sd ul su), (oc7 sh (.ref fa) (nI ft)), (oq fa cF 200 FA)] ++ va_pl L f) sz zXN)) (zQ (some (.long (jI ((arF mn cx cy f0 : Nat) : Int)))) (fun t => va_P (dC, dI) classes ([(oc8 x (.ref sh) (.ref lw) (.ref ro) (.ref bq) (.ref bp) (.ref dq) (.ref dp) (.ref lv) (.ref sl) ds sd ul su), (oc7 sh (.ref fa) (nI ft)), (oq fa cF 200 FA)] ++ va_pl L f) t.heap ∧ va_D (va_A ([(oc8 x (.ref sh) (.ref lw) (.ref ro) (.ref bq) (.ref bp) (.ref dq) (.ref dp) (.ref lv) (.ref sl) ds sd ul su), (oc7 sh (.ref fa) (nI ft)), (oq fa cF 200 FA)] ++ va_pl L f) sz) ([(oc8 x (.ref sh) (.ref lw) (.ref ro) (.ref bq) (.ref bp) (.ref dq) (.ref dp) (.ref lv) (.ref sl) ds sd ul su), (oc7 sh (.ref fa) (nI ft)), (oq fa cF 200 FA)] ++ va_pl L f)) (va_A ([(oc8 x (.ref sh) (.ref lw) (.ref ro) (.ref bq) (.ref bp) (.ref dq) (.ref dp) (.ref lv) (.ref sl) ds sd ul su), (oc7 sh (.ref fa) (nI ft)), (oq fa cF 200 FA)] ++ va_pl L f) sz)) 0 0 (va_A ([(oc8 x (.ref sh) (.ref lw) (.ref ro) (.ref bq) (.ref bp) (.ref dq) (.ref dp) (.ref lv) (.ref sl) ds sd ul su), (oc7 sh (.ref fa) (nI ft)), (oq fa cF 200 FA)] ++ va_pl L f) sz) := by
  refine Met.ofW (cc := cX10_size) (maxL := 3) (ret := (some .long)) (by decide) rfl ?_
  intro p e s m args below meth c s₁ B hml hv
  obtain ⟨rfl, hsz, hP, hK, hD0, hXN⟩ := hv
  have hx := B.exec
  have hb := B.bytes
  have hr := B.returns
  have hts0 := atoms_spec (ws := .code yX10_size cX10_size 3 (some .long) :: ws0) B.pre
  have hts : ∀ w9 ∈ ws0, w9.before ([.ref x, .int (nI f0)] : List Value).toArray s = true := fun w9 h => hts0 w9 (List.mem_cons_of_mem _ h)
  have hown : s.vm.findClass "ScaleShop" = some m.cls := findClass_of_methodNamed B.named
  have hlocks := B.notSynchronized
  subst hsz
  have hD := hD0.self (sz := s.heap.size)
  clear hD0
  generalize hAe : va_A ([(oc8 x (.ref sh) (.ref lw) (.ref ro) (.ref bq) (.ref bp) (.ref dq) (.ref dp) (.ref lv) (.ref sl) ds sd ul su), (oc7 sh (.ref fa) (nI ft)), (oq fa cF 200 FA)] ++ va_pl L f) s.heap.size = A at hD ⊢
  have hA : ∀ q : Nat, s.heap.size ≤ q → A q := fun q h => by rw [← hAe]; exact Or.inr h
  clear hAe
  have hS : va_S A s.heap s.heap [] := va_S.rf
  have hP : va_P (dC, dI) classes ([(oc8 x (.ref sh) (.ref lw) (.ref ro) (.ref bq) (.ref bp) (.ref dq) (.ref dp) (.ref lv) (.ref sl) ds sd ul su), (oc7 sh (.ref fa) (nI ft)), (oq fa cF 200 FA)] ++ va_pl L f) s.heap := hP
  obtain ⟨Q9, hQ9⟩ : ∃ Q9 : State → Prop, Q9 = MQ below (zQ (some (.long (jI ((arF mn cx cy f0 : Nat) : Int)))) (fun t => va_P (dC, dI) classes ([(oc8 x (.ref sh) (.ref lw) (.ref ro) (.ref bq) (.ref bp) (.ref dq) (.ref dp) (.ref lv) (.ref sl) ds sd ul su), (oc7 sh (.ref fa) (nI ft)), (oq fa cF 200 FA)] ++ va_pl L f) t.heap ∧ va_D A ([(oc8 x (.ref sh) (.ref lw) (.ref ro) (.ref bq) (.ref bp) (.ref dq) (.ref dp) (.ref lv) (.ref sl) ds sd ul su), (oc7 sh (.ref fa) (nI ft)), (oq fa cF 200 FA)] ++ va_pl L f)) A) ([.ref x, .int (nI f0)] : List Value).toArray s 0 0 A := ⟨_, rfl⟩
  rw [← hQ9]
  have hl := lv_entry ([.ref x, .int (nI f0)]) (n := 3) (Nat.le_of_ble_eq_true rfl)
  rw [lg_entry_eq]
  generalize (lg_sl ([.ref x, .int (nI f0)]) ++ List.replicate (3 - (lg_sl ([.ref x, .int (nI f0)])).length) Slot.unset).toArray = ls at hl ⊢
  have hl : lv_has ls 3 [(0, .ref x), (1, .int (nI f0))] := hl
  obtain ⟨fe2, lk2, lo2, we2, fm2, r2, rx2, ry2, cap2, U2, V2, rg2, hFA2, hfe2, hlk2, ⟨hr2, hrx2, hry2, hne2⟩, hrr2⟩ := vwA_l (hva f0 (by omega)) hlv.2.2
  · skip
    have hcap2 := hrr2.1
    have hcap3 := hrr2.2.1
    have hA2 := hlv.2.1
    have ht2 := hlv.2.2
    have hw2 := (hok f0 hlv).1
    have hq2 := rw_pls hrr2 hw2
    have hn2 := hw2.2.1
    have hrg2 := hrr2.2.2.2.1
    have hab2 := ar2B hq2 _ (Nat.le_refl _)
    have hlb2 := ln2B hq2 (nN (mn f0) - 1) (by omega)
    have hc9_1 : inPl L f [(oc1 fe2 (rk f0) (wd f0) (tw f0) (pa f0) (pb f0) (.ref lo2) (.ref lk2) fm2), (oc4 lk2 (kd f0) (st f0) (.ref r2) (gb f0) (it f0) we2), (oc6 r2 (.ref rx2) (.ref ry2) (nI (nN (mn f0))) rg2), (oa rx2 cI cap2 U2), (oa ry2 cI cap2 V2)] := ⟨hfe2, hlk2, hr2, hrx2, hry2, trivial⟩
    have hD0_1 := hD
    obtain ⟨hP, hD⟩ := pl_out hP hD [(oc1 fe2 (rk f0) (wd f0) (tw f0) (pa f0) (pb f0) (.ref lo2) (.ref lk2) fm2), (oc4 lk2 (kd f0) (st f0) (.ref r2) (gb f0) (it f0) we2), (oc6 r2 (.ref rx2) (.ref ry2) (nI (nN (mn f0))) rg2), (oa rx2 cI cap2 U2), (oa ry2 cI cap2 V2)] hc9_1 (pwR hfe2.2 hlk2.2 hr2.2 hrx2.2 hry2.2 hne2)
    generalize hT_1 : outPl L [(oc1 fe2 (rk f0) (wd f0) (tw f0) (pa f0) (pb f0) (.ref lo2) (.ref lk2) fm2), (oc4 lk2 (kd f0) (st f0) (.ref r2) (gb f0) (it f0) we2), (oc6 r2 (.ref rx2) (.ref ry2) (nI (nN (mn f0))) rg2), (oa rx2 cI cap2 U2), (oa ry2 cI cap2 V2)] = T_1 at hP hD
    have hP : va_P (dC, dI) classes ([(oc8 x (.ref sh) (.ref lw) (.ref ro) (.ref bq) (.ref bp) (.ref dq) (.ref dp) (.ref lv) (.ref sl) ds sd ul su), (oc7 sh (.ref fa) (nI ft)), (oq fa cF 200 FA), (oc1 fe2 (rk f0) (wd f0) (tw f0) (pa f0) (pb f0) (.ref lo2) (.ref lk2) fm2), (oc4 lk2 (kd f0) (st f0) (.ref r2) (gb f0) (it f0) we2), (oc6 r2 (.ref rx2) (.ref ry2) (nI (nN (mn f0))) rg2), (oa rx2 cI cap2 U2), (oa ry2 cI cap2 V2)] ++ va_pl T_1 f) s.heap := hP
    have hD : va_D A ([(oc8 x (.ref sh) (.ref lw) (.ref ro) (.ref bq) (.ref bp) (.ref dq) (.ref dp) (.ref lv) (.ref sl) ds sd ul su), (oc7 sh (.ref fa) (nI ft)), (oq fa cF 200 FA), (oc1 fe2 (rk f0) (wd f0) (tw f0) (pa f0) (pb f0) (.ref lo2) (.ref lk2) fm2), (oc4 lk2 (kd f0) (st f0) (.ref r2) (gb f0) (it f0) we2), (oc6 r2 (.ref rx2) (.ref ry2) (nI (nN (mn f0))) rg2), (oa rx2 cI cap2 U2), (oa ry2 cI cap2 V2)] ++ va_pl T_1 f) := hD
    refine lv_aload_n hx hb dX10_size_0 rfl (lv_at hl 0 rfl) ?_
    refine va_get (D := (dC, dI)) (ci := 8) (v := .ref sh) (C := RX10) (T := TX10) (N := 13) hx hb hts inX10 hown hK hP 0 rfl rfl 0 (by decide) (hts _ mw_309) (fun _ h9 => h9) rfl dX10_size_1 ?_
    refine lv_iload_n hx hb dX10_size_4 rfl (lv_at hl 1 rfl) ?_
    have hPc := hP.sub (ws' := [(oc7 sh (.ref fa) (nI ft)), (oq fa cF 200 FA), (oc1 fe2 (rk f0) (wd f0) (tw f0) (pa f0) (pb f0) (.ref lo2) (.ref lk2) fm2), (oc4 lk2 (kd f0) (st f0) (.ref r2) (gb f0) (it f0) we2)]) [1, 2, 3, 4] rfl
    have hDc := hD.sub (ws' := [(oc7 sh (.ref fa) (nI ft)), (oq fa cF 200 FA), (oc1 fe2 (rk f0) (wd f0) (tw f0) (pa f0) (pb f0) (.ref lo2) (.ref lk2) fm2), (oc4 lk2 (kd f0) (st f0) (.ref r2) (gb f0) (it f0) we2)]) [1, 2, 3, 4] (by decide) rfl
    have hFc := va_free (wc := [(oc7 sh (.ref fa) (nI ft)), (oq fa cF 200 FA), (oc1 fe2 (rk f0) (wd f0) (tw f0) (pa f0) (pb f0) (.ref lo2) (.ref lk2) fm2), (oc4 lk2 (kd f0) (st f0) (.ref r2) (gb f0) (it f0) we2)]) hD hS hA [1, 2, 3, 4] rfl
    refine zcall (st1 := [.ref r2]) (va_runV (As := [.int (nI f0)]) (rest := []) ⟨hx, hb, hml, hown, hts⟩ (k_Sheet_rowThere_yv l dC dI cI cZ cF s.heap.size sh fa ft FA f0 fe2 lo2 (rk f0) (wd f0) (tw f0) (pa f0) (pb f0) lk2 (kd f0) (st f0) (gb f0) (it f0) we2 r2 fm2 (by omega) (by omega) (hFA2) (by first | exact hA2 | omega)) (cwV 1 hts (zz_gV mw_1027 mw_613 mw_614 mw_100 mc_yX8_rowThere) rfl rfl rfl (by decide +kernel) ⟨Nat.le_of_ble_eq_true rfl, Nat.le_of_ble_eq_true rfl⟩) (zPV2 (q0 := 0) (ci := 7) hPc hDc hK hXN rfl rfl) rfl rfl hl.1 rfl (lv_room (Nat.le_of_ble_eq_true rfl)) dX10_size_5 ⟨Nat.le_of_ble_eq_true rfl, Nat.le_of_ble_eq_true rfl⟩) hS hFc hFc rfl (fun t H1 locs ht hB hk1 hS => ?_)
    obtain ⟨hP1, hD1⟩ := hB
    rw [ht] at hP1
    obtain ⟨hP, hD⟩ := va_joinQ (wr := [(oc8 x (.ref sh) (.ref lw) (.ref ro) (.ref bq) (.ref bp) (.ref dq) (.ref dp) (.ref lv) (.ref sl) ds sd ul su), (oc6 r2 (.ref rx2) (.ref ry2) (nI (nN (mn f0))) rg2), (oa rx2 cI cap2 U2), (oa ry2 cI cap2 V2)]) (w1 := [(oc7 sh (.ref fa) (nI ft)), (oq fa cF 200 FA), (oc1 fe2 (rk f0) (wd f0) (tw f0) (pa f0) (pb f0) (.ref lo2) (.ref lk2) fm2), (oc4 lk2 (kd f0) (st f0) (.ref r2) (gb f0) (it f0) we2)]) hP hD [1, 2, 3, 4] [0, 5, 6, 7] rfl rfl (by decide) (by decide) hk1 hFc hP1 hD1
    clear hk1 hPc hDc hFc hP1 hD1 ht
    generalize H1 = H at hP hS ⊢
    have hP := hP.part (cx := [(oc8 x (.ref sh) (.ref lw) (.ref ro) (.ref bq) (.ref bp) (.ref dq) (.ref dp) (.ref lv) (.ref sl) ds sd ul su), (oc7 sh (.ref fa) (nI ft)), (oq fa cF 200 FA), (oc1 fe2 (rk f0) (wd f0) (tw f0) (pa f0) (pb f0) (.ref lo2) (.ref lk2) fm2), (oc4 lk2 (kd f0) (st f0) (.ref r2) (gb f0) (it f0) we2), (oc6 r2 (.ref rx2) (.ref ry2) (nI (nN (mn f0))) rg2), (oa rx2 cI cap2 U2), (oa ry2 cI cap2 V2)]) [0, 4, 5, 6, 7, 1, 2, 3] rfl
    have hD := hD.part (cx := [(oc8 x (.ref sh) (.ref lw) (.ref ro) (.ref bq) (.ref bp) (.ref dq) (.ref dp) (.ref lv) (.ref sl) ds sd ul su), (oc7 sh (.ref fa) (nI ft)), (oq fa cF 200 FA), (oc1 fe2 (rk f0) (wd f0) (tw f0) (pa f0) (pb f0) (.ref lo2) (.ref lk2) fm2), (oc4 lk2 (kd f0) (st f0) (.ref r2) (gb f0) (it f0) we2), (oc6 r2 (.ref rx2) (.ref ry2) (nI (nN (mn f0))) rg2), (oa rx2 cI cap2 U2), (oa ry2 cI cap2 V2)]) [0, 4, 5, 6, 7, 1, 2, 3] (by decide) rfl
    have hP : va_P (dC, dI) classes ([(oc8 x (.ref sh) (.ref lw) (.ref ro) (.ref bq) (.ref bp) (.ref dq) (.ref dp) (.ref lv) (.ref sl) ds sd ul su), (oc7 sh (.ref fa) (nI ft)), (oq fa cF 200 FA), (oc1 fe2 (rk f0) (wd f0) (tw f0) (pa f0) (pb f0) (.ref lo2) (.ref lk2) fm2), (oc4 lk2 (kd f0) (st f0) (.ref r2) (gb f0) (it f0) we2), (oc6 r2 (.ref rx2) (.ref ry2) (nI (nN (mn f0))) rg2), (oa rx2 cI cap2 U2), (oa ry2 cI cap2 V2)] ++ va_pl T_1 f) H := hP
    have hD : va_D A ([(oc8 x (.ref sh) (.ref lw) (.ref ro) (.ref bq) (.ref bp) (.ref dq) (.ref dp) (.ref lv) (.ref sl) ds sd ul su), (oc7 sh (.ref fa) (nI ft)), (oq fa cF 200 FA), (oc1 fe2 (rk f0) (wd f0) (tw f0) (pa f0) (pb f0) (.ref lo2) (.ref lk2) fm2), (oc4 lk2 (kd f0) (st f0) (.ref r2) (gb f0) (it f0) we2), (oc6 r2 (.ref rx2) (.ref ry2) (nI (nN (mn f0))) rg2), (oa rx2 cI cap2 U2), (oa ry2 cI cap2 V2)] ++ va_pl T_1 f) := hD
    refine lv_astore_n (lv' := [(2, .ref r2), (0, .ref x), (1, .int (nI f0))]) hx hb dX10_size_8 rfl hl (by decide) rfl (fun ls hl => ?_)
    refine lv_aload_n hx hb dX10_size_9 rfl (lv_at hl 0 rfl) ?_
    refine lv_ifnonnull (tgt := 17) hx hb dX10_size_10 (by decide) ?_
    refine lv_aload_n hx hb dX10_size_17 rfl (lv_at hl 0 rfl) ?_
    refine va_get (D := (dC, dI)) (ci := 6) (v := .int rg2) (C := RX7) (T := TX7) (N := 4) hx hb hts inX7 hown hK hP 5 rfl rfl 3 (by decide) (hts _ mw_185) (fun _ h9 => h9) rfl dX10_size_18 ?_
    refine lv_if_eq (tgt := 32) hx hb dX10_size_21 (by decide) (fun c_1 => ?_) (fun c_1 => ?_)
    · have c_1 : rg2.toInt = 0 := zc_eq rfl (by decide) c_1
      exfalso; rw [if_pos hk5] at hrg2; omega
    · have c_1 : ¬ rg2.toInt = 0 := zc_ne rfl (by decide) c_1
      refine lv_aload_n hx hb dX10_size_24 rfl (lv_at hl 0 rfl) ?_
      have hPc := hP.sub (ws' := [(oc6 r2 (.ref rx2) (.ref ry2) (nI (nN (mn f0))) rg2), (oa rx2 cI cap2 U2), (oa ry2 cI cap2 V2)]) [5, 6, 7] rfl
      have hDc := hD.sub (ws' := [(oc6 r2 (.ref rx2) (.ref ry2) (nI (nN (mn f0))) rg2), (oa rx2 cI cap2 U2), (oa ry2 cI cap2 V2)]) [5, 6, 7] (by decide) rfl
      have hFc := va_free (wc := [(oc6 r2 (.ref rx2) (.ref ry2) (nI (nN (mn f0))) rg2), (oa rx2 cI cap2 U2), (oa ry2 cI cap2 V2)]) hD hS hA [5, 6, 7] rfl
      refine zcall (st1 := [.int (nI (Int.natAbs (ar2 (nN (mn f0)) U2 V2 (nN (mn f0)))))]) (va_runV (As := []) (rest := []) ⟨hx, hb, hml, hown, hts⟩ (k_Row_doubleArea l dC dI cI cZ cF H.size r2 rx2 ry2 (nN (mn f0)) cap2 U2 V2 rg2 (by omega) (by omega) (hq2)) (cwV 0 hts (zz_gV mw_917 mw_918 mw_919 mw_102 mc_yX7_doubleArea) rfl rfl rfl (by decide +kernel) ⟨Nat.le_of_ble_eq_true rfl, Nat.le_of_ble_eq_true rfl⟩) (zPV2 (q0 := 0) (ci := 6) hPc hDc hK hXN rfl rfl) rfl rfl hl.1 rfl (lv_room (Nat.le_of_ble_eq_true rfl)) dX10_size_25 ⟨Nat.le_of_ble_eq_true rfl, Nat.le_of_ble_eq_true rfl⟩) hS hFc hFc rfl (fun t H1 locs ht hB hk1 hS => ?_)
      obtain ⟨hP1, hD1⟩ := hB
      rw [ht] at hP1
      obtain ⟨hP, hD⟩ := va_joinQ (wr := [(oc8 x (.ref sh) (.ref lw) (.ref ro) (.ref bq) (.ref bp) (.ref dq) (.ref dp) (.ref lv) (.ref sl) ds sd ul su), (oc7 sh (.ref fa) (nI ft)), (oq fa cF 200 FA), (oc1 fe2 (rk f0) (wd f0) (tw f0) (pa f0) (pb f0) (.ref lo2) (.ref lk2) fm2), (oc4 lk2 (kd f0) (st f0) (.ref r2) (gb f0) (it f0) we2)]) (w1 := [(oc6 r2 (.ref rx2) (.ref ry2) (nI (nN (mn f0))) rg2), (oa rx2 cI cap2 U2), (oa ry2 cI cap2 V2)]) hP hD [5, 6, 7] [0, 1, 2, 3, 4] rfl rfl (by decide) (by decide) hk1 hFc hP1 hD1
      clear hk1 hPc hDc hFc hP1 hD1 ht
      generalize H1 = H at hP hS ⊢
      have hP : va_P (dC, dI) classes ([(oc8 x (.ref sh) (.ref lw) (.ref ro) (.ref bq) (.ref bp) (.ref dq) (.ref dp) (.ref lv) (.ref sl) ds sd ul su), (oc7 sh (.ref fa) (nI ft)), (oq fa cF 200 FA), (oc1 fe2 (rk f0) (wd f0) (tw f0) (pa f0) (pb f0) (.ref lo2) (.ref lk2) fm2), (oc4 lk2 (kd f0) (st f0) (.ref r2) (gb f0) (it f0) we2), (oc6 r2 (.ref rx2) (.ref ry2) (nI (nN (mn f0))) rg2), (oa rx2 cI cap2 U2), (oa ry2 cI cap2 V2)] ++ va_pl T_1 f) H := hP
      have hD : va_D A ([(oc8 x (.ref sh) (.ref lw) (.ref ro) (.ref bq) (.ref bp) (.ref dq) (.ref dp) (.ref lv) (.ref sl) ds sd ul su), (oc7 sh (.ref fa) (nI ft)), (oq fa cF 200 FA), (oc1 fe2 (rk f0) (wd f0) (tw f0) (pa f0) (pb f0) (.ref lo2) (.ref lk2) fm2), (oc4 lk2 (kd f0) (st f0) (.ref r2) (gb f0) (it f0) we2), (oc6 r2 (.ref rx2) (.ref ry2) (nI (nN (mn f0))) rg2), (oa rx2 cI cap2 U2), (oa ry2 cI cap2 V2)] ++ va_pl T_1 f) := hD
      refine lv_i2l (v := (nI (Int.natAbs (ar2 (nN (mn f0)) U2 V2 (nN (mn f0))))).toInt64) hx hb dX10_size_28 (rfl) ?_
      refine lv_goto (tgt := 37) hx hb dX10_size_29 (by decide) ?_
      have hP := pl_back (cs := [(oc1 fe2 (rk f0) (wd f0) (tw f0) (pa f0) (pb f0) (.ref lo2) (.ref lk2) fm2), (oc4 lk2 (kd f0) (st f0) (.ref r2) (gb f0) (it f0) we2), (oc6 r2 (.ref rx2) (.ref ry2) (nI (nN (mn f0))) rg2), (oa rx2 cI cap2 U2), (oa ry2 cI cap2 V2)]) (L := L) (f := f) (X := [(oc8 x (.ref sh) (.ref lw) (.ref ro) (.ref bq) (.ref bp) (.ref dq) (.ref dp) (.ref lv) (.ref sl) ds sd ul su), (oc7 sh (.ref fa) (nI ft)), (oq fa cF 200 FA)]) (by rw [hT_1]; exact (show va_P (dC, dI) classes (([(oc8 x (.ref sh) (.ref lw) (.ref ro) (.ref bq) (.ref bp) (.ref dq) (.ref dp) (.ref lv) (.ref sl) ds sd ul su), (oc7 sh (.ref fa) (nI ft)), (oq fa cF 200 FA)] ++ [(oc1 fe2 (rk f0) (wd f0) (tw f0) (pa f0) (pb f0) (.ref lo2) (.ref lk2) fm2), (oc4 lk2 (kd f0) (st f0) (.ref r2) (gb f0) (it f0) we2), (oc6 r2 (.ref rx2) (.ref ry2) (nI (nN (mn f0))) rg2), (oa rx2 cI cap2 U2), (oa ry2 cI cap2 V2)]) ++ va_pl T_1 f) H from hP)) hc9_1
      have hD : va_D A ([(oc8 x (.ref sh) (.ref lw) (.ref ro) (.ref bq) (.ref bp) (.ref dq) (.ref dp) (.ref lv) (.ref sl) ds sd ul su), (oc7 sh (.ref fa) (nI ft)), (oq fa cF 200 FA)] ++ va_pl L f) := vaD_ae hD0_1 rfl
      have hP9 := hP.part (cx := [(oc8 x (.ref sh) (.ref lw) (.ref ro) (.ref bq) (.ref bp) (.ref dq) (.ref dp) (.ref lv) (.ref sl) ds sd ul su), (oc7 sh (.ref fa) (nI ft)), (oq fa cF 200 FA)]) [0, 1, 2] rfl
      have hD9 := hD.part (cx := [(oc8 x (.ref sh) (.ref lw) (.ref ro) (.ref bq) (.ref bp) (.ref dq) (.ref dp) (.ref lv) (.ref sl) ds sd ul su), (oc7 sh (.ref fa) (nI ft)), (oq fa cF 200 FA)]) [0, 1, 2] (by decide) rfl
      rw [hQ9]
      exact W.lret (v := (nI (Int.natAbs (ar2 (nN (mn f0)) U2 V2 (nN (mn f0))))).toInt64) hx hb hr (fun t ht hW => ⟨⟨congrArg (fun z => Outcome.returned (some (Value.long z))) (show ((nI (Int.natAbs (ar2 (nN (mn f0)) U2 V2 (nN (mn f0))))).toInt64 : Int64) = jI ((arF mn cx cy f0 : Nat) : Int) from by unfold arF; rw [← ar2_cg hrr2.2.2.2.2 _ (Nat.le_refl _)]; exact nI_64 (by omega)), by rw [ht]; exact hP9, hD9⟩, hS.F ht⟩) hS.2.2 dX10_size_37
set_option maxHeartbeats 4000000 in
set_option maxRecDepth 100000 in
theorem k_size_l (l : Launch) (dC : Nat → ClassId) (dI : Nat → Nat → Nat) (cI cZ cF : ClassId) (sz : Nat) (x : Nat) (sh : Nat) (lw : Nat) (ro : Nat) (bq : Nat) (bp : Nat) (dq : Nat) (dp : Nat) (lv : Nat) (sl : Nat) (sd : Int32) (ul : Int32) (su : Int32) (ds : Int32) (fa : Nat) (ft : Nat) (FA : Nat → Option Nat) (f0 : Nat) (L : List Nat) (f : Nat → va_E) (kd : Nat → Int32) (st : Nat → Int32) (tn : Nat → Int32) (mn : Nat → Int32) (cx : Nat → Int32) (cy : Nat → Int32) (rk : Nat → Int32) (wd : Nat → Int32) (tw : Nat → Int32) (pa : Nat → Int32) (pb : Nat → Int32) (gb : Nat → Int32) (it : Nat → Int32) (h200 : ft ≤ 200) (hf0 : f0 < ft) (hva : ∀ q, q < ft → vwA cI L f FA rk wd tw pa pb kd st gb it tn mn cx cy q) (hok : okA ft st tn kd mn cx cy) (hlv : lvF ft st tn f0) (hk5 : ¬ 5 ≤ (kd f0).toInt) : Met l yX10_size (.code yX10_size cX10_size 3 (some .long) :: ws0) ({ frames := 2, cells := 0, slots := 0, locals := 43 } : Room) (va_Pc [.ref x, .int (nI f0)] (zPre (dC, dI) classes (zTy cI cZ cF) ([(oc8 x (.ref sh) (.ref lw) (.ref ro) (.ref bq) (.ref bp) (.ref dq) (.ref dp) (.ref lv) (.ref sl) ds sd ul su), (oc7 sh (.ref fa) (nI ft)), (oq fa cF 200 FA)] ++ va_pl L f) sz zXN)) (zQ (some (.long (jI ((ln2 (cF40 cx f0) (cF40 cy f0) (nN (mn f0) - 1) : Nat) : Int)))) (fun t => va_P (dC, dI) classes ([(oc8 x (.ref sh) (.ref lw) (.ref ro) (.ref bq) (.ref bp) (.ref dq) (.ref dp) (.ref lv) (.ref sl) ds sd ul su), (oc7 sh (.ref fa) (nI ft)), (oq fa cF 200 FA)] ++ va_pl L f) t.heap ∧ va_D (va_A ([(oc8 x (.ref sh) (.ref lw) (.ref ro) (.ref bq) (.ref bp) (.ref dq) (.ref dp) (.ref lv) (.ref sl) ds sd ul su), (oc7 sh (.ref fa) (nI ft)), (oq fa cF 200 FA)] ++ va_pl L f) sz) ([(oc8 x (.ref sh) (.ref lw) (.ref ro) (.ref bq) (.ref bp) (.ref dq) (.ref dp) (.ref lv) (.ref sl) ds sd ul su), (oc7 sh (.ref fa) (nI ft)), (oq fa cF 200 FA)] ++ va_pl L f)) (va_A ([(oc8 x (.ref sh) (.ref lw) (.ref ro) (.ref bq) (.ref bp) (.ref dq) (.ref dp) (.ref lv) (.ref sl) ds sd ul su), (oc7 sh (.ref fa) (nI ft)), (oq fa cF 200 FA)] ++ va_pl L f) sz)) 0 0 (va_A ([(oc8 x (.ref sh) (.ref lw) (.ref ro) (.ref bq) (.ref bp) (.ref dq) (.ref dp) (.ref lv) (.ref sl) ds sd ul su), (oc7 sh (.ref fa) (nI ft)), (oq fa cF 200 FA)] ++ va_pl L f) sz) := by
  refine Met.ofW (cc := cX10_size) (maxL := 3) (ret := (some .long)) (by decide) rfl ?_
  intro p e s m args below meth c s₁ B hml hv
  obtain ⟨rfl, hsz, hP, hK, hD0, hXN⟩ := hv
  have hx := B.exec
  have hb := B.bytes
  have hr := B.returns
  have hts0 := atoms_spec (ws := .code yX10_size cX10_size 3 (some .long) :: ws0) B.pre
  have hts : ∀ w9 ∈ ws0, w9.before ([.ref x, .int (nI f0)] : List Value).toArray s = true := fun w9 h => hts0 w9 (List.mem_cons_of_mem _ h)
  have hown : s.vm.findClass "ScaleShop" = some m.cls := findClass_of_methodNamed B.named
  have hlocks := B.notSynchronized
  subst hsz
  have hD := hD0.self (sz := s.heap.size)
  clear hD0
  generalize hAe : va_A ([(oc8 x (.ref sh) (.ref lw) (.ref ro) (.ref bq) (.ref bp) (.ref dq) (.ref dp) (.ref lv) (.ref sl) ds sd ul su), (oc7 sh (.ref fa) (nI ft)), (oq fa cF 200 FA)] ++ va_pl L f) s.heap.size = A at hD ⊢
  have hA : ∀ q : Nat, s.heap.size ≤ q → A q := fun q h => by rw [← hAe]; exact Or.inr h
  clear hAe
  have hS : va_S A s.heap s.heap [] := va_S.rf
  have hP : va_P (dC, dI) classes ([(oc8 x (.ref sh) (.ref lw) (.ref ro) (.ref bq) (.ref bp) (.ref dq) (.ref dp) (.ref lv) (.ref sl) ds sd ul su), (oc7 sh (.ref fa) (nI ft)), (oq fa cF 200 FA)] ++ va_pl L f) s.heap := hP
  obtain ⟨Q9, hQ9⟩ : ∃ Q9 : State → Prop, Q9 = MQ below (zQ (some (.long (jI ((ln2 (cF40 cx f0) (cF40 cy f0) (nN (mn f0) - 1) : Nat) : Int)))) (fun t => va_P (dC, dI) classes ([(oc8 x (.ref sh) (.ref lw) (.ref ro) (.ref bq) (.ref bp) (.ref dq) (.ref dp) (.ref lv) (.ref sl) ds sd ul su), (oc7 sh (.ref fa) (nI ft)), (oq fa cF 200 FA)] ++ va_pl L f) t.heap ∧ va_D A ([(oc8 x (.ref sh) (.ref lw) (.ref ro) (.ref bq) (.ref bp) (.ref dq) (.ref dp) (.ref lv) (.ref sl) ds sd ul su), (oc7 sh (.ref fa) (nI ft)), (oq fa cF 200 FA)] ++ va_pl L f)) A) ([.ref x, .int (nI f0)] : List Value).toArray s 0 0 A := ⟨_, rfl⟩
  rw [← hQ9]
  have hl := lv_entry ([.ref x, .int (nI f0)]) (n := 3) (Nat.le_of_ble_eq_true rfl)
  rw [lg_entry_eq]
  generalize (lg_sl ([.ref x, .int (nI f0)]) ++ List.replicate (3 - (lg_sl ([.ref x, .int (nI f0)])).length) Slot.unset).toArray = ls at hl ⊢
  have hl : lv_has ls 3 [(0, .ref x), (1, .int (nI f0))] := hl
  obtain ⟨fe2, lk2, lo2, we2, fm2, r2, rx2, ry2, cap2, U2, V2, rg2, hFA2, hfe2, hlk2, ⟨hr2, hrx2, hry2, hne2⟩, hrr2⟩ := vwA_l (hva f0 (by omega)) hlv.2.2
  · skip
    have hcap2 := hrr2.1
    have hcap3 := hrr2.2.1
    have hA2 := hlv.2.1
    have ht2 := hlv.2.2
    have hw2 := (hok f0 hlv).1
    have hq2 := rw_pls hrr2 hw2
    have hn2 := hw2.2.1
    have hrg2 := hrr2.2.2.2.1
    have hab2 := ar2B hq2 _ (Nat.le_refl _)
    have hlb2 := ln2B hq2 (nN (mn f0) - 1) (by omega)
    have hc9_1 : inPl L f [(oc1 fe2 (rk f0) (wd f0) (tw f0) (pa f0) (pb f0) (.ref lo2) (.ref lk2) fm2), (oc4 lk2 (kd f0) (st f0) (.ref r2) (gb f0) (it f0) we2), (oc6 r2 (.ref rx2) (.ref ry2) (nI (nN (mn f0))) rg2), (oa rx2 cI cap2 U2), (oa ry2 cI cap2 V2)] := ⟨hfe2, hlk2, hr2, hrx2, hry2, trivial⟩
    have hD0_1 := hD
    obtain ⟨hP, hD⟩ := pl_out hP hD [(oc1 fe2 (rk f0) (wd f0) (tw f0) (pa f0) (pb f0) (.ref lo2) (.ref lk2) fm2), (oc4 lk2 (kd f0) (st f0) (.ref r2) (gb f0) (it f0) we2), (oc6 r2 (.ref rx2) (.ref ry2) (nI (nN (mn f0))) rg2), (oa rx2 cI cap2 U2), (oa ry2 cI cap2 V2)] hc9_1 (pwR hfe2.2 hlk2.2 hr2.2 hrx2.2 hry2.2 hne2)
    generalize hT_1 : outPl L [(oc1 fe2 (rk f0) (wd f0) (tw f0) (pa f0) (pb f0) (.ref lo2) (.ref lk2) fm2), (oc4 lk2 (kd f0) (st f0) (.ref r2) (gb f0) (it f0) we2), (oc6 r2 (.ref rx2) (.ref ry2) (nI (nN (mn f0))) rg2), (oa rx2 cI cap2 U2), (oa ry2 cI cap2 V2)] = T_1 at hP hD
    have hP : va_P (dC, dI) classes ([(oc8 x (.ref sh) (.ref lw) (.ref ro) (.ref bq) (.ref bp) (.ref dq) (.ref dp) (.ref lv) (.ref sl) ds sd ul su), (oc7 sh (.ref fa) (nI ft)), (oq fa cF 200 FA), (oc1 fe2 (rk f0) (wd f0) (tw f0) (pa f0) (pb f0) (.ref lo2) (.ref lk2) fm2), (oc4 lk2 (kd f0) (st f0) (.ref r2) (gb f0) (it f0) we2), (oc6 r2 (.ref rx2) (.ref ry2) (nI (nN (mn f0))) rg2), (oa rx2 cI cap2 U2), (oa ry2 cI cap2 V2)] ++ va_pl T_1 f) s.heap := hP
    have hD : va_D A ([(oc8 x (.ref sh) (.ref lw) (.ref ro) (.ref bq) (.ref bp) (.ref dq) (.ref dp) (.ref lv) (.ref sl) ds sd ul su), (oc7 sh (.ref fa) (nI ft)), (oq fa cF 200 FA), (oc1 fe2 (rk f0) (wd f0) (tw f0) (pa f0) (pb f0) (.ref lo2) (.ref lk2) fm2), (oc4 lk2 (kd f0) (st f0) (.ref r2) (gb f0) (it f0) we2), (oc6 r2 (.ref rx2) (.ref ry2) (nI (nN (mn f0))) rg2), (oa rx2 cI cap2 U2), (oa ry2 cI cap2 V2)] ++ va_pl T_1 f) := hD
    refine lv_aload_n hx hb dX10_size_0 rfl (lv_at hl 0 rfl) ?_
    refine va_get (D := (dC, dI)) (ci := 8) (v := .ref sh) (C := RX10) (T := TX10) (N := 13) hx hb hts inX10 hown hK hP 0 rfl rfl 0 (by decide) (hts _ mw_309) (fun _ h9 => h9) rfl dX10_size_1 ?_
    refine lv_iload_n hx hb dX10_size_4 rfl (lv_at hl 1 rfl) ?_
    have hPc := hP.sub (ws' := [(oc7 sh (.ref fa) (nI ft)), (oq fa cF 200 FA), (oc1 fe2 (rk f0) (wd f0) (tw f0) (pa f0) (pb f0) (.ref lo2) (.ref lk2) fm2), (oc4 lk2 (kd f0) (st f0) (.ref r2) (gb f0) (it f0) we2)]) [1, 2, 3, 4] rfl
    have hDc := hD.sub (ws' := [(oc7 sh (.ref fa) (nI ft)), (oq fa cF 200 FA), (oc1 fe2 (rk f0) (wd f0) (tw f0) (pa f0) (pb f0) (.ref lo2) (.ref lk2) fm2), (oc4 lk2 (kd f0) (st f0) (.ref r2) (gb f0) (it f0) we2)]) [1, 2, 3, 4] (by decide) rfl
    have hFc := va_free (wc := [(oc7 sh (.ref fa) (nI ft)), (oq fa cF 200 FA), (oc1 fe2 (rk f0) (wd f0) (tw f0) (pa f0) (pb f0) (.ref lo2) (.ref lk2) fm2), (oc4 lk2 (kd f0) (st f0) (.ref r2) (gb f0) (it f0) we2)]) hD hS hA [1, 2, 3, 4] rfl
    refine zcall (st1 := [.ref r2]) (va_runV (As := [.int (nI f0)]) (rest := []) ⟨hx, hb, hml, hown, hts⟩ (k_Sheet_rowThere_yv l dC dI cI cZ cF s.heap.size sh fa ft FA f0 fe2 lo2 (rk f0) (wd f0) (tw f0) (pa f0) (pb f0) lk2 (kd f0) (st f0) (gb f0) (it f0) we2 r2 fm2 (by omega) (by omega) (hFA2) (by first | exact hA2 | omega)) (cwV 1 hts (zz_gV mw_1027 mw_613 mw_614 mw_100 mc_yX8_rowThere) rfl rfl rfl (by decide +kernel) ⟨Nat.le_of_ble_eq_true rfl, Nat.le_of_ble_eq_true rfl⟩) (zPV2 (q0 := 0) (ci := 7) hPc hDc hK hXN rfl rfl) rfl rfl hl.1 rfl (lv_room (Nat.le_of_ble_eq_true rfl)) dX10_size_5 ⟨Nat.le_of_ble_eq_true rfl, Nat.le_of_ble_eq_true rfl⟩) hS hFc hFc rfl (fun t H1 locs ht hB hk1 hS => ?_)
    obtain ⟨hP1, hD1⟩ := hB
    rw [ht] at hP1
    obtain ⟨hP, hD⟩ := va_joinQ (wr := [(oc8 x (.ref sh) (.ref lw) (.ref ro) (.ref bq) (.ref bp) (.ref dq) (.ref dp) (.ref lv) (.ref sl) ds sd ul su), (oc6 r2 (.ref rx2) (.ref ry2) (nI (nN (mn f0))) rg2), (oa rx2 cI cap2 U2), (oa ry2 cI cap2 V2)]) (w1 := [(oc7 sh (.ref fa) (nI ft)), (oq fa cF 200 FA), (oc1 fe2 (rk f0) (wd f0) (tw f0) (pa f0) (pb f0) (.ref lo2) (.ref lk2) fm2), (oc4 lk2 (kd f0) (st f0) (.ref r2) (gb f0) (it f0) we2)]) hP hD [1, 2, 3, 4] [0, 5, 6, 7] rfl rfl (by decide) (by decide) hk1 hFc hP1 hD1
    clear hk1 hPc hDc hFc hP1 hD1 ht
    generalize H1 = H at hP hS ⊢
    have hP := hP.part (cx := [(oc8 x (.ref sh) (.ref lw) (.ref ro) (.ref bq) (.ref bp) (.ref dq) (.ref dp) (.ref lv) (.ref sl) ds sd ul su), (oc7 sh (.ref fa) (nI ft)), (oq fa cF 200 FA), (oc1 fe2 (rk f0) (wd f0) (tw f0) (pa f0) (pb f0) (.ref lo2) (.ref lk2) fm2), (oc4 lk2 (kd f0) (st f0) (.ref r2) (gb f0) (it f0) we2), (oc6 r2 (.ref rx2) (.ref ry2) (nI (nN (mn f0))) rg2), (oa rx2 cI cap2 U2), (oa ry2 cI cap2 V2)]) [0, 4, 5, 6, 7, 1, 2, 3] rfl
    have hD := hD.part (cx := [(oc8 x (.ref sh) (.ref lw) (.ref ro) (.ref bq) (.ref bp) (.ref dq) (.ref dp) (.ref lv) (.ref sl) ds sd ul su), (oc7 sh (.ref fa) (nI ft)), (oq fa cF 200 FA), (oc1 fe2 (rk f0) (wd f0) (tw f0) (pa f0) (pb f0) (.ref lo2) (.ref lk2) fm2), (oc4 lk2 (kd f0) (st f0) (.ref r2) (gb f0) (it f0) we2), (oc6 r2 (.ref rx2) (.ref ry2) (nI (nN (mn f0))) rg2), (oa rx2 cI cap2 U2), (oa ry2 cI cap2 V2)]) [0, 4, 5, 6, 7, 1, 2, 3] (by decide) rfl
    have hP : va_P (dC, dI) classes ([(oc8 x (.ref sh) (.ref lw) (.ref ro) (.ref bq) (.ref bp) (.ref dq) (.ref dp) (.ref lv) (.ref sl) ds sd ul su), (oc7 sh (.ref fa) (nI ft)), (oq fa cF 200 FA), (oc1 fe2 (rk f0) (wd f0) (tw f0) (pa f0) (pb f0) (.ref lo2) (.ref lk2) fm2), (oc4 lk2 (kd f0) (st f0) (.ref r2) (gb f0) (it f0) we2), (oc6 r2 (.ref rx2) (.ref ry2) (nI (nN (mn f0))) rg2), (oa rx2 cI cap2 U2), (oa ry2 cI cap2 V2)] ++ va_pl T_1 f) H := hP
    have hD : va_D A ([(oc8 x (.ref sh) (.ref lw) (.ref ro) (.ref bq) (.ref bp) (.ref dq) (.ref dp) (.ref lv) (.ref sl) ds sd ul su), (oc7 sh (.ref fa) (nI ft)), (oq fa cF 200 FA), (oc1 fe2 (rk f0) (wd f0) (tw f0) (pa f0) (pb f0) (.ref lo2) (.ref lk2) fm2), (oc4 lk2 (kd f0) (st f0) (.ref r2) (gb f0) (it f0) we2), (oc6 r2 (.ref rx2) (.ref ry2) (nI (nN (mn f0))) rg2), (oa rx2 cI cap2 U2), (oa ry2 cI cap2 V2)] ++ va_pl T_1 f) := hD
    refine lv_astore_n (lv' := [(2, .ref r2), (0, .ref x), (1, .int (nI f0))]) hx hb dX10_size_8 rfl hl (by decide) rfl (fun ls hl => ?_)
    refine lv_aload_n hx hb dX10_size_9 rfl (lv_at hl 0 rfl) ?_
    refine lv_ifnonnull (tgt := 17) hx hb dX10_size_10 (by decide) ?_
    refine lv_aload_n hx hb dX10_size_17 rfl (lv_at hl 0 rfl) ?_
    refine va_get (D := (dC, dI)) (ci := 6) (v := .int rg2) (C := RX7) (T := TX7) (N := 4) hx hb hts inX7 hown hK hP 5 rfl rfl 3 (by decide) (hts _ mw_185) (fun _ h9 => h9) rfl dX10_size_18 ?_
    refine lv_if_eq (tgt := 32) hx hb dX10_size_21 (by decide) (fun c_1 => ?_) (fun c_1 => ?_)
    · have c_1 : rg2.toInt = 0 := zc_eq rfl (by decide) c_1
      refine lv_aload_n hx hb dX10_size_32 rfl (lv_at hl 0 rfl) ?_
      have hPc := hP.sub (ws' := [(oc6 r2 (.ref rx2) (.ref ry2) (nI (nN (mn f0))) rg2), (oa rx2 cI cap2 U2), (oa ry2 cI cap2 V2)]) [5, 6, 7] rfl
      have hDc := hD.sub (ws' := [(oc6 r2 (.ref rx2) (.ref ry2) (nI (nN (mn f0))) rg2), (oa rx2 cI cap2 U2), (oa ry2 cI cap2 V2)]) [5, 6, 7] (by decide) rfl
      have hFc := va_free (wc := [(oc6 r2 (.ref rx2) (.ref ry2) (nI (nN (mn f0))) rg2), (oa rx2 cI cap2 U2), (oa ry2 cI cap2 V2)]) hD hS hA [5, 6, 7] rfl
      refine zcall (st1 := [.int (nI (ln2 U2 V2 ((nN (mn f0)) - 1)))]) (va_runV (As := []) (rest := []) ⟨hx, hb, hml, hown, hts⟩ (k_Row_length l dC dI cI cZ cF H.size r2 rx2 ry2 (nN (mn f0)) cap2 U2 V2 rg2 (by omega) (by omega) (hq2) (by omega)) (cwV 0 hts (zz_gV mw_1120 mw_1003 mw_1004 mw_102 mc_yX7_length) rfl rfl rfl (by decide +kernel) ⟨Nat.le_of_ble_eq_true rfl, Nat.le_of_ble_eq_true rfl⟩) (zPV2 (q0 := 0) (ci := 6) hPc hDc hK hXN rfl rfl) rfl rfl hl.1 rfl (lv_room (Nat.le_of_ble_eq_true rfl)) dX10_size_33 ⟨Nat.le_of_ble_eq_true rfl, Nat.le_of_ble_eq_true rfl⟩) hS hFc hFc rfl (fun t H1 locs ht hB hk1 hS => ?_)
      obtain ⟨hP1, hD1⟩ := hB
      rw [ht] at hP1
      obtain ⟨hP, hD⟩ := va_joinQ (wr := [(oc8 x (.ref sh) (.ref lw) (.ref ro) (.ref bq) (.ref bp) (.ref dq) (.ref dp) (.ref lv) (.ref sl) ds sd ul su), (oc7 sh (.ref fa) (nI ft)), (oq fa cF 200 FA), (oc1 fe2 (rk f0) (wd f0) (tw f0) (pa f0) (pb f0) (.ref lo2) (.ref lk2) fm2), (oc4 lk2 (kd f0) (st f0) (.ref r2) (gb f0) (it f0) we2)]) (w1 := [(oc6 r2 (.ref rx2) (.ref ry2) (nI (nN (mn f0))) rg2), (oa rx2 cI cap2 U2), (oa ry2 cI cap2 V2)]) hP hD [5, 6, 7] [0, 1, 2, 3, 4] rfl rfl (by decide) (by decide) hk1 hFc hP1 hD1
      clear hk1 hPc hDc hFc hP1 hD1 ht
      generalize H1 = H at hP hS ⊢
      have hP : va_P (dC, dI) classes ([(oc8 x (.ref sh) (.ref lw) (.ref ro) (.ref bq) (.ref bp) (.ref dq) (.ref dp) (.ref lv) (.ref sl) ds sd ul su), (oc7 sh (.ref fa) (nI ft)), (oq fa cF 200 FA), (oc1 fe2 (rk f0) (wd f0) (tw f0) (pa f0) (pb f0) (.ref lo2) (.ref lk2) fm2), (oc4 lk2 (kd f0) (st f0) (.ref r2) (gb f0) (it f0) we2), (oc6 r2 (.ref rx2) (.ref ry2) (nI (nN (mn f0))) rg2), (oa rx2 cI cap2 U2), (oa ry2 cI cap2 V2)] ++ va_pl T_1 f) H := hP
      have hD : va_D A ([(oc8 x (.ref sh) (.ref lw) (.ref ro) (.ref bq) (.ref bp) (.ref dq) (.ref dp) (.ref lv) (.ref sl) ds sd ul su), (oc7 sh (.ref fa) (nI ft)), (oq fa cF 200 FA), (oc1 fe2 (rk f0) (wd f0) (tw f0) (pa f0) (pb f0) (.ref lo2) (.ref lk2) fm2), (oc4 lk2 (kd f0) (st f0) (.ref r2) (gb f0) (it f0) we2), (oc6 r2 (.ref rx2) (.ref ry2) (nI (nN (mn f0))) rg2), (oa rx2 cI cap2 U2), (oa ry2 cI cap2 V2)] ++ va_pl T_1 f) := hD
      refine lv_i2l (v := (nI (ln2 U2 V2 ((nN (mn f0)) - 1))).toInt64) hx hb dX10_size_36 (rfl) ?_
      have hP := pl_back (cs := [(oc1 fe2 (rk f0) (wd f0) (tw f0) (pa f0) (pb f0) (.ref lo2) (.ref lk2) fm2), (oc4 lk2 (kd f0) (st f0) (.ref r2) (gb f0) (it f0) we2), (oc6 r2 (.ref rx2) (.ref ry2) (nI (nN (mn f0))) rg2), (oa rx2 cI cap2 U2), (oa ry2 cI cap2 V2)]) (L := L) (f := f) (X := [(oc8 x (.ref sh) (.ref lw) (.ref ro) (.ref bq) (.ref bp) (.ref dq) (.ref dp) (.ref lv) (.ref sl) ds sd ul su), (oc7 sh (.ref fa) (nI ft)), (oq fa cF 200 FA)]) (by rw [hT_1]; exact (show va_P (dC, dI) classes (([(oc8 x (.ref sh) (.ref lw) (.ref ro) (.ref bq) (.ref bp) (.ref dq) (.ref dp) (.ref lv) (.ref sl) ds sd ul su), (oc7 sh (.ref fa) (nI ft)), (oq fa cF 200 FA)] ++ [(oc1 fe2 (rk f0) (wd f0) (tw f0) (pa f0) (pb f0) (.ref lo2) (.ref lk2) fm2), (oc4 lk2 (kd f0) (st f0) (.ref r2) (gb f0) (it f0) we2), (oc6 r2 (.ref rx2) (.ref ry2) (nI (nN (mn f0))) rg2), (oa rx2 cI cap2 U2), (oa ry2 cI cap2 V2)]) ++ va_pl T_1 f) H from hP)) hc9_1
      have hD : va_D A ([(oc8 x (.ref sh) (.ref lw) (.ref ro) (.ref bq) (.ref bp) (.ref dq) (.ref dp) (.ref lv) (.ref sl) ds sd ul su), (oc7 sh (.ref fa) (nI ft)), (oq fa cF 200 FA)] ++ va_pl L f) := vaD_ae hD0_1 rfl
      have hP9 := hP.part (cx := [(oc8 x (.ref sh) (.ref lw) (.ref ro) (.ref bq) (.ref bp) (.ref dq) (.ref dp) (.ref lv) (.ref sl) ds sd ul su), (oc7 sh (.ref fa) (nI ft)), (oq fa cF 200 FA)]) [0, 1, 2] rfl
      have hD9 := hD.part (cx := [(oc8 x (.ref sh) (.ref lw) (.ref ro) (.ref bq) (.ref bp) (.ref dq) (.ref dp) (.ref lv) (.ref sl) ds sd ul su), (oc7 sh (.ref fa) (nI ft)), (oq fa cF 200 FA)]) [0, 1, 2] (by decide) rfl
      rw [hQ9]
      exact W.lret (v := (nI (ln2 U2 V2 ((nN (mn f0)) - 1))).toInt64) hx hb hr (fun t ht hW => ⟨⟨congrArg (fun z => Outcome.returned (some (Value.long z))) (show ((nI (ln2 U2 V2 ((nN (mn f0)) - 1))).toInt64 : Int64) = jI ((ln2 (cF40 cx f0) (cF40 cy f0) (nN (mn f0) - 1) : Nat) : Int) from by rw [← ln2_cg hrr2.2.2.2.2 _ (by omega)]; exact nI_64 (by omega)), by rw [ht]; exact hP9, hD9⟩, hS.F ht⟩) hS.2.2 dX10_size_37
    · have c_1 : ¬ rg2.toInt = 0 := zc_ne rfl (by decide) c_1
      exfalso; rw [if_neg hk5] at hrg2; omega
set_option maxHeartbeats 4000000 in
set_option maxRecDepth 100000 in
theorem k_status (l : Launch) (dC : Nat → ClassId) (dI : Nat → Nat → Nat) (cI cZ cF : ClassId) (sz : Nat) (x : Nat) (sh : Nat) (lw : Nat) (ro : Nat) (bq : Nat) (bp : Nat) (dq : Nat) (dp : Nat) (lv : Nat) (sl : Nat) (sd : Int32) (ul : Int32) (su : Int32) (ds : Int32) : Met l yX10_status (.code yX10_status cX10_status 1 (some .int) :: ws0) ({ frames := 0, cells := 0, slots := 0, locals := 0 } : Room) (va_Pc [.ref x] (zPre (dC, dI) classes (zTy cI cZ cF) [(oc8 x (.ref sh) (.ref lw) (.ref ro) (.ref bq) (.ref bp) (.ref dq) (.ref dp) (.ref lv) (.ref sl) ds sd ul su)] sz zXN)) (zQ (some (.int su)) (fun t => va_P (dC, dI) classes [(oc8 x (.ref sh) (.ref lw) (.ref ro) (.ref bq) (.ref bp) (.ref dq) (.ref dp) (.ref lv) (.ref sl) ds sd ul su)] t.heap ∧ va_D (va_A [(oc8 x (.ref sh) (.ref lw) (.ref ro) (.ref bq) (.ref bp) (.ref dq) (.ref dp) (.ref lv) (.ref sl) ds sd ul su)] sz) [(oc8 x (.ref sh) (.ref lw) (.ref ro) (.ref bq) (.ref bp) (.ref dq) (.ref dp) (.ref lv) (.ref sl) ds sd ul su)]) (va_A [(oc8 x (.ref sh) (.ref lw) (.ref ro) (.ref bq) (.ref bp) (.ref dq) (.ref dp) (.ref lv) (.ref sl) ds sd ul su)] sz)) 0 0 (va_A [(oc8 x (.ref sh) (.ref lw) (.ref ro) (.ref bq) (.ref bp) (.ref dq) (.ref dp) (.ref lv) (.ref sl) ds sd ul su)] sz) := by
  refine Met.ofW (cc := cX10_status) (maxL := 1) (ret := (some .int)) (by decide) rfl ?_
  intro p e s m args below meth c s₁ B hml hv
  obtain ⟨rfl, hsz, hP, hK, hD0, hXN⟩ := hv
  have hx := B.exec
  have hb := B.bytes
  have hr := B.returns
  have hts0 := atoms_spec (ws := .code yX10_status cX10_status 1 (some .int) :: ws0) B.pre
  have hts : ∀ w9 ∈ ws0, w9.before ([.ref x] : List Value).toArray s = true := fun w9 h => hts0 w9 (List.mem_cons_of_mem _ h)
  have hown : s.vm.findClass "ScaleShop" = some m.cls := findClass_of_methodNamed B.named
  have hlocks := B.notSynchronized
  subst hsz
  have hD := hD0.self (sz := s.heap.size)
  clear hD0
  generalize hAe : va_A [(oc8 x (.ref sh) (.ref lw) (.ref ro) (.ref bq) (.ref bp) (.ref dq) (.ref dp) (.ref lv) (.ref sl) ds sd ul su)] s.heap.size = A at hD ⊢
  have hA : ∀ q : Nat, s.heap.size ≤ q → A q := fun q h => by rw [← hAe]; exact Or.inr h
  clear hAe
  have hS : va_S A s.heap s.heap [] := va_S.rf
  have hP : va_P (dC, dI) classes [(oc8 x (.ref sh) (.ref lw) (.ref ro) (.ref bq) (.ref bp) (.ref dq) (.ref dp) (.ref lv) (.ref sl) ds sd ul su)] s.heap := hP
  obtain ⟨Q9, hQ9⟩ : ∃ Q9 : State → Prop, Q9 = MQ below (zQ (some (.int su)) (fun t => va_P (dC, dI) classes [(oc8 x (.ref sh) (.ref lw) (.ref ro) (.ref bq) (.ref bp) (.ref dq) (.ref dp) (.ref lv) (.ref sl) ds sd ul su)] t.heap ∧ va_D A [(oc8 x (.ref sh) (.ref lw) (.ref ro) (.ref bq) (.ref bp) (.ref dq) (.ref dp) (.ref lv) (.ref sl) ds sd ul su)]) A) ([.ref x] : List Value).toArray s 0 0 A := ⟨_, rfl⟩
  rw [← hQ9]
  have hl := lv_entry ([.ref x]) (n := 1) (Nat.le_of_ble_eq_true rfl)
  rw [lg_entry_eq]
  generalize (lg_sl ([.ref x]) ++ List.replicate (1 - (lg_sl ([.ref x])).length) Slot.unset).toArray = ls at hl ⊢
  have hl : lv_has ls 1 [(0, .ref x)] := hl
  refine lv_aload_n hx hb dX10_status_0 rfl (lv_at hl 0 rfl) ?_
  refine va_get (D := (dC, dI)) (ci := 8) (v := .int su) (C := RX10) (T := TX10) (N := 13) hx hb hts inX10 hown hK hP 0 rfl rfl 12 (by decide) (hts _ mw_321) (fun _ h9 => h9) rfl dX10_status_1 ?_
  have hP9 := hP.sub (ws' := [(oc8 x (.ref sh) (.ref lw) (.ref ro) (.ref bq) (.ref bp) (.ref dq) (.ref dp) (.ref lv) (.ref sl) ds sd ul su)]) [0] rfl
  have hD9 := hD.sub (ws' := [(oc8 x (.ref sh) (.ref lw) (.ref ro) (.ref bq) (.ref bp) (.ref dq) (.ref dp) (.ref lv) (.ref sl) ds sd ul su)]) [0] (by decide) rfl
  rw [hQ9]
  exact W.iret (v := su) hx hb hr (fun t ht hW => ⟨⟨rfl, by rw [ht]; exact hP9, hD9⟩, hS.F ht⟩) hS.2.2 dX10_status_4
set_option maxHeartbeats 4000000 in
set_option maxRecDepth 100000 in
theorem k_Sheet_inState (l : Launch) (dC : Nat → ClassId) (dI : Nat → Nat → Nat) (cI cZ cF : ClassId) (sz : Nat) (sh : Nat) (fa : Nat) (ft : Nat) (FA : Nat → Option Nat) (L : List Nat) (f : Nat → va_E) (kd : Nat → Int32) (st : Nat → Int32) (tn : Nat → Int32) (mn : Nat → Int32) (cx : Nat → Int32) (cy : Nat → Int32) (rk : Nat → Int32) (wd : Nat → Int32) (tw : Nat → Int32) (pa : Nat → Int32) (pb : Nat → Int32) (gb : Nat → Int32) (it : Nat → Int32) (sv : Int32) (h200 : ft ≤ 200) (hva : ∀ q, q < ft → vwA cI L f FA rk wd tw pa pb kd st gb it tn mn cx cy q) : Met l yX8_inState (.code yX8_inState cX8_inState 5 (some .int) :: ws0) ({ frames := 1, cells := 0, slots := 0, locals := 21 } : Room) (va_Pc [.ref sh, .int sv] (zPre (dC, dI) classes (zTy cI cZ cF) ([(oc7 sh (.ref fa) (nI ft)), (oq fa cF 200 FA)] ++ va_pl L f) sz zXN)) (zQ (some (.int (nI (cntP (fun g => (st g).toInt = sv.toInt) ft)))) (fun t => va_P (dC, dI) classes ([(oc7 sh (.ref fa) (nI ft)), (oq fa cF 200 FA)] ++ va_pl L f) t.heap ∧ va_D (va_A ([(oc7 sh (.ref fa) (nI ft)), (oq fa cF 200 FA)] ++ va_pl L f) sz) ([(oc7 sh (.ref fa) (nI ft)), (oq fa cF 200 FA)] ++ va_pl L f)) (va_A ([(oc7 sh (.ref fa) (nI ft)), (oq fa cF 200 FA)] ++ va_pl L f) sz)) 0 0 (va_A ([(oc7 sh (.ref fa) (nI ft)), (oq fa cF 200 FA)] ++ va_pl L f) sz) := by
  refine Met.ofW (cc := cX8_inState) (maxL := 5) (ret := (some .int)) (by decide) rfl ?_
  intro p e s m args below meth c s₁ B hml hv
  obtain ⟨rfl, hsz, hP, hK, hD0, hXN⟩ := hv
  have hx := B.exec
  have hb := B.bytes
  have hr := B.returns
  have hts0 := atoms_spec (ws := .code yX8_inState cX8_inState 5 (some .int) :: ws0) B.pre
  have hts : ∀ w9 ∈ ws0, w9.before ([.ref sh, .int sv] : List Value).toArray s = true := fun w9 h => hts0 w9 (List.mem_cons_of_mem _ h)
  have hown : s.vm.findClass "ScaleShop$Sheet" = some m.cls := findClass_of_methodNamed B.named
  have hlocks := B.notSynchronized
  subst hsz
  have hD := hD0.self (sz := s.heap.size)
  clear hD0
  generalize hAe : va_A ([(oc7 sh (.ref fa) (nI ft)), (oq fa cF 200 FA)] ++ va_pl L f) s.heap.size = A at hD ⊢
  have hA : ∀ q : Nat, s.heap.size ≤ q → A q := fun q h => by rw [← hAe]; exact Or.inr h
  clear hAe
  have hS : va_S A s.heap s.heap [] := va_S.rf
  have hP : va_P (dC, dI) classes ([(oc7 sh (.ref fa) (nI ft)), (oq fa cF 200 FA)] ++ va_pl L f) s.heap := hP
  obtain ⟨Q9, hQ9⟩ : ∃ Q9 : State → Prop, Q9 = MQ below (zQ (some (.int (nI (cntP (fun g => (st g).toInt = sv.toInt) ft)))) (fun t => va_P (dC, dI) classes ([(oc7 sh (.ref fa) (nI ft)), (oq fa cF 200 FA)] ++ va_pl L f) t.heap ∧ va_D A ([(oc7 sh (.ref fa) (nI ft)), (oq fa cF 200 FA)] ++ va_pl L f)) A) ([.ref sh, .int sv] : List Value).toArray s 0 0 A := ⟨_, rfl⟩
  rw [← hQ9]
  have hl := lv_entry ([.ref sh, .int sv]) (n := 5) (Nat.le_of_ble_eq_true rfl)
  rw [lg_entry_eq]
  generalize (lg_sl ([.ref sh, .int sv]) ++ List.replicate (5 - (lg_sl ([.ref sh, .int sv])).length) Slot.unset).toArray = ls at hl ⊢
  have hl : lv_has ls 5 [(0, .ref sh), (1, .int sv)] := hl
  refine lv_iconst (v := 0) hx hb dX8_inState_0 (by decide) ?_
  refine lv_istore_n (lv' := [(2, .int 0), (0, .ref sh), (1, .int sv)]) hx hb dX8_inState_1 rfl hl (by decide) rfl (fun ls hl => ?_)
  refine lv_iconst (v := 0) hx hb dX8_inState_2 (by decide) ?_
  refine lv_istore_n (lv' := [(3, .int 0), (2, .int 0), (0, .ref sh), (1, .int sv)]) hx hb dX8_inState_3 rfl hl (by decide) rfl (fun ls hl => ?_)
  have hl_4 : ∀ (n9 : Nat) (g5 : Nat) (H : Heap) (locs : List Loc) (ls : Array Slot), ft - g5 < n9 → (g5 ≤ ft) → va_P (dC, dI) classes ([(oc7 sh (.ref fa) (nI ft)), (oq fa cF 200 FA)] ++ va_pl L f) H → va_D A ([(oc7 sh (.ref fa) (nI ft)), (oq fa cF 200 FA)] ++ va_pl L f) → va_S A s.heap H locs → lv_has ls 5 [(3, .int (nI g5)), (2, .int (nI (cntP (fun g => (st g).toInt = sv.toInt) g5))), (0, .ref sh), (1, .int sv)] → W p l e ((headSpec (.code yX8_inState cX8_inState 5 (some .int) :: ws0) ({ frames := 1, cells := 0, slots := 0, locals := 21 } : Room)).room) s m ([.ref sh, .int sv] : List Value).toArray below meth c H locs 0 0 Q9 (F0 m 4 ls []) := by
    intro n9
    induction n9 with
    | zero => intro g5 H locs ls hm; exact absurd hm (Nat.not_lt_zero _)
    | succ n9 ih_4 =>
      intro g5 H locs ls hm hg5 hP hD hS hl
      have hcb := cntP_b (fun g => (st g).toInt = sv.toInt) g5
      refine lv_iload_n hx hb dX8_inState_4 rfl (lv_at hl 0 rfl) ?_
      refine lv_aload_n hx hb dX8_inState_5 rfl (lv_at hl 2 rfl) ?_
      refine va_get (D := (dC, dI)) (ci := 7) (v := .int (nI ft)) (C := RX8) (T := TX8) (N := 2) hx hb hts inX8 hown hK hP 0 rfl rfl 1 (by decide) (hts _ mw_137) (fun _ h9 => h9) rfl dX8_inState_6 ?_
      refine lv_icmp_ge (tgt := 45) hx hb dX8_inState_9 (by decide) (fun c_1 => ?_) (fun c_1 => ?_)
      · have c_1 : ((ft : Nat) : Int) ≤ ((g5 : Nat) : Int) := zc_le (nI_toInt (by omega)) (nI_toInt (by omega)) c_1
        refine lv_iload_n hx hb dX8_inState_45 rfl (lv_at hl 1 rfl) ?_
        have hP9 := hP.part (cx := [(oc7 sh (.ref fa) (nI ft)), (oq fa cF 200 FA)]) [0, 1] rfl
        have hD9 := hD.part (cx := [(oc7 sh (.ref fa) (nI ft)), (oq fa cF 200 FA)]) [0, 1] (by decide) rfl
        rw [hQ9]
        exact W.iret (v := nI (cntP (fun g => (st g).toInt = sv.toInt) g5)) hx hb hr (fun t ht hW => ⟨⟨congrArg (fun z => Outcome.returned (some (Value.int z))) (show (nI (cntP (fun g => (st g).toInt = sv.toInt) g5) : Int32) = nI (cntP (fun g => (st g).toInt = sv.toInt) ft) from zn_eq (by rw [show g5 = ft by omega])), by rw [ht]; exact hP9, hD9⟩, hS.F ht⟩) hS.2.2 dX8_inState_46
      · have c_1 : ((g5 : Nat) : Int) < ((ft : Nat) : Int) := zc_nle (nI_toInt (by omega)) (nI_toInt (by omega)) c_1
        rcases vwA_2 (hva g5 (by omega)) with ⟨ht2, fe2, lk2, lo2, we2, fm2, hFA2, hfe2, hlk2⟩ | ⟨ht2, fe2, lk2, lo2, we2, fm2, r2, rx2, ry2, cap2, U2, V2, rg2, hFA2, hfe2, hlk2, ⟨hr2, hrx2, hry2, hne2⟩, hrr2⟩
        · skip
          have hc9_1 : inPl L f [(oc1 fe2 (rk g5) (wd g5) (tw g5) (pa g5) (pb g5) (.ref lo2) (.ref lk2) fm2), (oc4 lk2 (kd g5) (st g5) .null (gb g5) (it g5) we2)] := ⟨hfe2, hlk2, trivial⟩
          have hD0_1 := hD
          obtain ⟨hP, hD⟩ := pl_out hP hD [(oc1 fe2 (rk g5) (wd g5) (tw g5) (pa g5) (pb g5) (.ref lo2) (.ref lk2) fm2), (oc4 lk2 (kd g5) (st g5) .null (gb g5) (it g5) we2)] hc9_1 (pwF hfe2.2 hlk2.2)
          generalize hT_1 : outPl L [(oc1 fe2 (rk g5) (wd g5) (tw g5) (pa g5) (pb g5) (.ref lo2) (.ref lk2) fm2), (oc4 lk2 (kd g5) (st g5) .null (gb g5) (it g5) we2)] = T_1 at hP hD
          have hP : va_P (dC, dI) classes ([(oc7 sh (.ref fa) (nI ft)), (oq fa cF 200 FA), (oc1 fe2 (rk g5) (wd g5) (tw g5) (pa g5) (pb g5) (.ref lo2) (.ref lk2) fm2), (oc4 lk2 (kd g5) (st g5) .null (gb g5) (it g5) we2)] ++ va_pl T_1 f) H := hP
          have hD : va_D A ([(oc7 sh (.ref fa) (nI ft)), (oq fa cF 200 FA), (oc1 fe2 (rk g5) (wd g5) (tw g5) (pa g5) (pb g5) (.ref lo2) (.ref lk2) fm2), (oc4 lk2 (kd g5) (st g5) .null (gb g5) (it g5) we2)] ++ va_pl T_1 f) := hD
          refine lv_aload_n hx hb dX8_inState_12 rfl (lv_at hl 2 rfl) ?_
          refine lv_iload_n hx hb dX8_inState_13 rfl (lv_at hl 0 rfl) ?_
          have hPc := hP.sub (ws' := [(oc7 sh (.ref fa) (nI ft)), (oq fa cF 200 FA)]) [0, 1] rfl
          have hDc := hD.sub (ws' := [(oc7 sh (.ref fa) (nI ft)), (oq fa cF 200 FA)]) [0, 1] (by decide) rfl
          have hFc := va_free (wc := [(oc7 sh (.ref fa) (nI ft)), (oq fa cF 200 FA)]) hD hS hA [0, 1] rfl
          refine zcall (st1 := [.ref fe2]) (va_runV (As := [.int (nI g5)]) (rest := []) ⟨hx, hb, hml, hown, hts⟩ (k_Sheet_find l dC dI cI cZ cF H.size sh fa ft FA g5 fe2 (by omega) (by omega) (hFA2)) (cwV 1 hts (zz_gV mw_616 mw_499 mw_500 mw_100 mc_yX8_find) rfl rfl rfl (by decide +kernel) ⟨Nat.le_of_ble_eq_true rfl, Nat.le_of_ble_eq_true rfl⟩) (zPV2 (q0 := 0) (ci := 7) hPc hDc hK hXN rfl rfl) rfl rfl hl.1 rfl (lv_room (Nat.le_of_ble_eq_true rfl)) dX8_inState_14 ⟨Nat.le_of_ble_eq_true rfl, Nat.le_of_ble_eq_true rfl⟩) hS hFc hFc rfl (fun t H1 locs ht hB hk1 hS => ?_)
          obtain ⟨hP1, hD1⟩ := hB
          rw [ht] at hP1
          obtain ⟨hP, hD⟩ := va_joinQ (wr := [(oc1 fe2 (rk g5) (wd g5) (tw g5) (pa g5) (pb g5) (.ref lo2) (.ref lk2) fm2), (oc4 lk2 (kd g5) (st g5) .null (gb g5) (it g5) we2)]) (w1 := [(oc7 sh (.ref fa) (nI ft)), (oq fa cF 200 FA)]) hP hD [0, 1] [2, 3] rfl rfl (by decide) (by decide) hk1 hFc hP1 hD1
          clear hk1 hPc hDc hFc hP1 hD1 ht
          generalize H1 = H at hP hS ⊢
          have hP := hP.part (cx := [(oc7 sh (.ref fa) (nI ft)), (oq fa cF 200 FA), (oc1 fe2 (rk g5) (wd g5) (tw g5) (pa g5) (pb g5) (.ref lo2) (.ref lk2) fm2), (oc4 lk2 (kd g5) (st g5) .null (gb g5) (it g5) we2)]) [2, 3, 0, 1] rfl
          have hD := hD.part (cx := [(oc7 sh (.ref fa) (nI ft)), (oq fa cF 200 FA), (oc1 fe2 (rk g5) (wd g5) (tw g5) (pa g5) (pb g5) (.ref lo2) (.ref lk2) fm2), (oc4 lk2 (kd g5) (st g5) .null (gb g5) (it g5) we2)]) [2, 3, 0, 1] (by decide) rfl
          have hP : va_P (dC, dI) classes ([(oc7 sh (.ref fa) (nI ft)), (oq fa cF 200 FA), (oc1 fe2 (rk g5) (wd g5) (tw g5) (pa g5) (pb g5) (.ref lo2) (.ref lk2) fm2), (oc4 lk2 (kd g5) (st g5) .null (gb g5) (it g5) we2)] ++ va_pl T_1 f) H := hP
          have hD : va_D A ([(oc7 sh (.ref fa) (nI ft)), (oq fa cF 200 FA), (oc1 fe2 (rk g5) (wd g5) (tw g5) (pa g5) (pb g5) (.ref lo2) (.ref lk2) fm2), (oc4 lk2 (kd g5) (st g5) .null (gb g5) (it g5) we2)] ++ va_pl T_1 f) := hD
          refine lv_astore (lv' := [(4, .ref fe2), (3, .int (nI g5)), (2, .int (nI (cntP (fun g => (st g).toInt = sv.toInt) g5))), (0, .ref sh), (1, .int sv)]) hx hb dX8_inState_17 hl (by decide) rfl (fun ls hl => ?_)
          refine lv_aload hx hb dX8_inState_19 (lv_at hl 0 rfl) ?_
          refine lv_ifnull hx hb dX8_inState_21 ?_
          refine lv_aload hx hb dX8_inState_24 (lv_at hl 0 rfl) ?_
          refine va_get (D := (dC, dI)) (ci := 1) (v := .ref lk2) (C := RX2) (T := TX2) (N := 8) hx hb hts inX2 hown hK hP 2 rfl rfl 6 (by decide) (hts _ mw_434) (fun _ h9 => h9) rfl dX8_inState_26 ?_
          refine va_get (D := (dC, dI)) (ci := 4) (v := .int (st g5)) (C := RX5) (T := TX5) (N := 6) hx hb hts inX5 hown hK hP 3 rfl rfl 1 (by decide) (hts _ mw_387) (fun _ h9 => h9) rfl dX8_inState_29 ?_
          refine lv_iload_n hx hb dX8_inState_32 rfl (lv_at hl 4 rfl) ?_
          refine lv_icmp_ne (tgt := 39) hx hb dX8_inState_33 (by decide) (fun c_2 => ?_) (fun c_2 => ?_)
          · have c_2 : ¬ (st g5).toInt = sv.toInt := zc_ne rfl rfl c_2
            have hP := pl_back (cs := [(oc1 fe2 (rk g5) (wd g5) (tw g5) (pa g5) (pb g5) (.ref lo2) (.ref lk2) fm2), (oc4 lk2 (kd g5) (st g5) .null (gb g5) (it g5) we2)]) (L := L) (f := f) (X := [(oc7 sh (.ref fa) (nI ft)), (oq fa cF 200 FA)]) (by rw [hT_1]; exact (show va_P (dC, dI) classes (([(oc7 sh (.ref fa) (nI ft)), (oq fa cF 200 FA)] ++ [(oc1 fe2 (rk g5) (wd g5) (tw g5) (pa g5) (pb g5) (.ref lo2) (.ref lk2) fm2), (oc4 lk2 (kd g5) (st g5) .null (gb g5) (it g5) we2)]) ++ va_pl T_1 f) H from hP)) hc9_1
            have hD : va_D A ([(oc7 sh (.ref fa) (nI ft)), (oq fa cF 200 FA)] ++ va_pl L f) := vaD_ae hD0_1 rfl
            refine lv_iinc (v := nI (g5 + 1)) (lv' := [(3, .int (nI (g5 + 1))), (4, .ref fe2), (2, .int (nI (cntP (fun g => (st g).toInt = sv.toInt) g5))), (0, .ref sh), (1, .int sv)]) hx hb dX8_inState_39 hl (k := 1) rfl (nI_add g5 1) (by decide) rfl (fun ls hl => ?_)
            refine lv_goto (tgt := 4) hx hb dX8_inState_42 (by decide) ?_
            have hl9 := lv_sub hl [0, 2, 3, 4] rfl
            have e9_2 : nI (cntP (fun g => (st g).toInt = sv.toInt) (g5 + 1)) = (nI (cntP (fun g => (st g).toInt = sv.toInt) g5) : Int32) := by first | exact congrArg nI (cntP_y (P := fun g => (st g).toInt = sv.toInt) (show (st g5).toInt = sv.toInt by omega)) | exact congrArg nI (cntP_n0 (P := fun g => (st g).toInt = sv.toInt) (show ¬ (st g5).toInt = sv.toInt by omega))
            have hl9 : lv_has ls 5 [(3, .int (nI (g5 + 1))), (2, .int (nI (cntP (fun g => (st g).toInt = sv.toInt) (g5 + 1)))), (0, .ref sh), (1, .int sv)] := by rw [e9_2]; exact hl9
            exact ih_4 (g5 + 1) H locs ls (by omega) (by omega) hP hD hS hl9
          · have c_2 : (st g5).toInt = sv.toInt := zc_eq rfl rfl c_2
            refine lv_iinc (v := nI ((cntP (fun g => (st g).toInt = sv.toInt) g5) + 1)) (lv' := [(2, .int (nI ((cntP (fun g => (st g).toInt = sv.toInt) g5) + 1))), (4, .ref fe2), (3, .int (nI g5)), (0, .ref sh), (1, .int sv)]) hx hb dX8_inState_36 hl (k := 2) rfl (nI_add (cntP (fun g => (st g).toInt = sv.toInt) g5) 1) (by decide) rfl (fun ls hl => ?_)
            have hP := pl_back (cs := [(oc1 fe2 (rk g5) (wd g5) (tw g5) (pa g5) (pb g5) (.ref lo2) (.ref lk2) fm2), (oc4 lk2 (kd g5) (st g5) .null (gb g5) (it g5) we2)]) (L := L) (f := f) (X := [(oc7 sh (.ref fa) (nI ft)), (oq fa cF 200 FA)]) (by rw [hT_1]; exact (show va_P (dC, dI) classes (([(oc7 sh (.ref fa) (nI ft)), (oq fa cF 200 FA)] ++ [(oc1 fe2 (rk g5) (wd g5) (tw g5) (pa g5) (pb g5) (.ref lo2) (.ref lk2) fm2), (oc4 lk2 (kd g5) (st g5) .null (gb g5) (it g5) we2)]) ++ va_pl T_1 f) H from hP)) hc9_1
            have hD : va_D A ([(oc7 sh (.ref fa) (nI ft)), (oq fa cF 200 FA)] ++ va_pl L f) := vaD_ae hD0_1 rfl
            refine lv_iinc (v := nI (g5 + 1)) (lv' := [(3, .int (nI (g5 + 1))), (2, .int (nI ((cntP (fun g => (st g).toInt = sv.toInt) g5) + 1))), (4, .ref fe2), (0, .ref sh), (1, .int sv)]) hx hb dX8_inState_39 hl (k := 2) rfl (nI_add g5 1) (by decide) rfl (fun ls hl => ?_)
            refine lv_goto (tgt := 4) hx hb dX8_inState_42 (by decide) ?_
            have hl9 := lv_sub hl [0, 1, 3, 4] rfl
            have e9_2 : nI (cntP (fun g => (st g).toInt = sv.toInt) (g5 + 1)) = (nI ((cntP (fun g => (st g).toInt = sv.toInt) g5) + 1) : Int32) := by first | exact congrArg nI (cntP_y (P := fun g => (st g).toInt = sv.toInt) (show (st g5).toInt = sv.toInt by omega)) | exact congrArg nI (cntP_n0 (P := fun g => (st g).toInt = sv.toInt) (show ¬ (st g5).toInt = sv.toInt by omega))
            have hl9 : lv_has ls 5 [(3, .int (nI (g5 + 1))), (2, .int (nI (cntP (fun g => (st g).toInt = sv.toInt) (g5 + 1)))), (0, .ref sh), (1, .int sv)] := by rw [e9_2]; exact hl9
            exact ih_4 (g5 + 1) H locs ls (by omega) (by omega) hP hD hS hl9
        · skip
          have hcap2 := hrr2.1
          have hcap3 := hrr2.2.1
          have hc9_1 : inPl L f [(oc1 fe2 (rk g5) (wd g5) (tw g5) (pa g5) (pb g5) (.ref lo2) (.ref lk2) fm2), (oc4 lk2 (kd g5) (st g5) (.ref r2) (gb g5) (it g5) we2), (oc6 r2 (.ref rx2) (.ref ry2) (nI (nN (mn g5))) rg2), (oa rx2 cI cap2 U2), (oa ry2 cI cap2 V2)] := ⟨hfe2, hlk2, hr2, hrx2, hry2, trivial⟩
          have hD0_1 := hD
          obtain ⟨hP, hD⟩ := pl_out hP hD [(oc1 fe2 (rk g5) (wd g5) (tw g5) (pa g5) (pb g5) (.ref lo2) (.ref lk2) fm2), (oc4 lk2 (kd g5) (st g5) (.ref r2) (gb g5) (it g5) we2), (oc6 r2 (.ref rx2) (.ref ry2) (nI (nN (mn g5))) rg2), (oa rx2 cI cap2 U2), (oa ry2 cI cap2 V2)] hc9_1 (pwR hfe2.2 hlk2.2 hr2.2 hrx2.2 hry2.2 hne2)
          generalize hT_1 : outPl L [(oc1 fe2 (rk g5) (wd g5) (tw g5) (pa g5) (pb g5) (.ref lo2) (.ref lk2) fm2), (oc4 lk2 (kd g5) (st g5) (.ref r2) (gb g5) (it g5) we2), (oc6 r2 (.ref rx2) (.ref ry2) (nI (nN (mn g5))) rg2), (oa rx2 cI cap2 U2), (oa ry2 cI cap2 V2)] = T_1 at hP hD
          have hP : va_P (dC, dI) classes ([(oc7 sh (.ref fa) (nI ft)), (oq fa cF 200 FA), (oc1 fe2 (rk g5) (wd g5) (tw g5) (pa g5) (pb g5) (.ref lo2) (.ref lk2) fm2), (oc4 lk2 (kd g5) (st g5) (.ref r2) (gb g5) (it g5) we2), (oc6 r2 (.ref rx2) (.ref ry2) (nI (nN (mn g5))) rg2), (oa rx2 cI cap2 U2), (oa ry2 cI cap2 V2)] ++ va_pl T_1 f) H := hP
          have hD : va_D A ([(oc7 sh (.ref fa) (nI ft)), (oq fa cF 200 FA), (oc1 fe2 (rk g5) (wd g5) (tw g5) (pa g5) (pb g5) (.ref lo2) (.ref lk2) fm2), (oc4 lk2 (kd g5) (st g5) (.ref r2) (gb g5) (it g5) we2), (oc6 r2 (.ref rx2) (.ref ry2) (nI (nN (mn g5))) rg2), (oa rx2 cI cap2 U2), (oa ry2 cI cap2 V2)] ++ va_pl T_1 f) := hD
          refine lv_aload_n hx hb dX8_inState_12 rfl (lv_at hl 2 rfl) ?_
          refine lv_iload_n hx hb dX8_inState_13 rfl (lv_at hl 0 rfl) ?_
          have hPc := hP.sub (ws' := [(oc7 sh (.ref fa) (nI ft)), (oq fa cF 200 FA)]) [0, 1] rfl
          have hDc := hD.sub (ws' := [(oc7 sh (.ref fa) (nI ft)), (oq fa cF 200 FA)]) [0, 1] (by decide) rfl
          have hFc := va_free (wc := [(oc7 sh (.ref fa) (nI ft)), (oq fa cF 200 FA)]) hD hS hA [0, 1] rfl
          refine zcall (st1 := [.ref fe2]) (va_runV (As := [.int (nI g5)]) (rest := []) ⟨hx, hb, hml, hown, hts⟩ (k_Sheet_find l dC dI cI cZ cF H.size sh fa ft FA g5 fe2 (by omega) (by omega) (hFA2)) (cwV 1 hts (zz_gV mw_616 mw_499 mw_500 mw_100 mc_yX8_find) rfl rfl rfl (by decide +kernel) ⟨Nat.le_of_ble_eq_true rfl, Nat.le_of_ble_eq_true rfl⟩) (zPV2 (q0 := 0) (ci := 7) hPc hDc hK hXN rfl rfl) rfl rfl hl.1 rfl (lv_room (Nat.le_of_ble_eq_true rfl)) dX8_inState_14 ⟨Nat.le_of_ble_eq_true rfl, Nat.le_of_ble_eq_true rfl⟩) hS hFc hFc rfl (fun t H1 locs ht hB hk1 hS => ?_)
          obtain ⟨hP1, hD1⟩ := hB
          rw [ht] at hP1
          obtain ⟨hP, hD⟩ := va_joinQ (wr := [(oc1 fe2 (rk g5) (wd g5) (tw g5) (pa g5) (pb g5) (.ref lo2) (.ref lk2) fm2), (oc4 lk2 (kd g5) (st g5) (.ref r2) (gb g5) (it g5) we2), (oc6 r2 (.ref rx2) (.ref ry2) (nI (nN (mn g5))) rg2), (oa rx2 cI cap2 U2), (oa ry2 cI cap2 V2)]) (w1 := [(oc7 sh (.ref fa) (nI ft)), (oq fa cF 200 FA)]) hP hD [0, 1] [2, 3, 4, 5, 6] rfl rfl (by decide) (by decide) hk1 hFc hP1 hD1
          clear hk1 hPc hDc hFc hP1 hD1 ht
          generalize H1 = H at hP hS ⊢
          have hP := hP.part (cx := [(oc7 sh (.ref fa) (nI ft)), (oq fa cF 200 FA), (oc1 fe2 (rk g5) (wd g5) (tw g5) (pa g5) (pb g5) (.ref lo2) (.ref lk2) fm2), (oc4 lk2 (kd g5) (st g5) (.ref r2) (gb g5) (it g5) we2), (oc6 r2 (.ref rx2) (.ref ry2) (nI (nN (mn g5))) rg2), (oa rx2 cI cap2 U2), (oa ry2 cI cap2 V2)]) [5, 6, 0, 1, 2, 3, 4] rfl
          have hD := hD.part (cx := [(oc7 sh (.ref fa) (nI ft)), (oq fa cF 200 FA), (oc1 fe2 (rk g5) (wd g5) (tw g5) (pa g5) (pb g5) (.ref lo2) (.ref lk2) fm2), (oc4 lk2 (kd g5) (st g5) (.ref r2) (gb g5) (it g5) we2), (oc6 r2 (.ref rx2) (.ref ry2) (nI (nN (mn g5))) rg2), (oa rx2 cI cap2 U2), (oa ry2 cI cap2 V2)]) [5, 6, 0, 1, 2, 3, 4] (by decide) rfl
          have hP : va_P (dC, dI) classes ([(oc7 sh (.ref fa) (nI ft)), (oq fa cF 200 FA), (oc1 fe2 (rk g5) (wd g5) (tw g5) (pa g5) (pb g5) (.ref lo2) (.ref lk2) fm2), (oc4 lk2 (kd g5) (st g5) (.ref r2) (gb g5) (it g5) we2), (oc6 r2 (.ref rx2) (.ref ry2) (nI (nN (mn g5))) rg2), (oa rx2 cI cap2 U2), (oa ry2 cI cap2 V2)] ++ va_pl T_1 f) H := hP
          have hD : va_D A ([(oc7 sh (.ref fa) (nI ft)), (oq fa cF 200 FA), (oc1 fe2 (rk g5) (wd g5) (tw g5) (pa g5) (pb g5) (.ref lo2) (.ref lk2) fm2), (oc4 lk2 (kd g5) (st g5) (.ref r2) (gb g5) (it g5) we2), (oc6 r2 (.ref rx2) (.ref ry2) (nI (nN (mn g5))) rg2), (oa rx2 cI cap2 U2), (oa ry2 cI cap2 V2)] ++ va_pl T_1 f) := hD
          refine lv_astore (lv' := [(4, .ref fe2), (3, .int (nI g5)), (2, .int (nI (cntP (fun g => (st g).toInt = sv.toInt) g5))), (0, .ref sh), (1, .int sv)]) hx hb dX8_inState_17 hl (by decide) rfl (fun ls hl => ?_)
          refine lv_aload hx hb dX8_inState_19 (lv_at hl 0 rfl) ?_
          refine lv_ifnull hx hb dX8_inState_21 ?_
          refine lv_aload hx hb dX8_inState_24 (lv_at hl 0 rfl) ?_
          refine va_get (D := (dC, dI)) (ci := 1) (v := .ref lk2) (C := RX2) (T := TX2) (N := 8) hx hb hts inX2 hown hK hP 2 rfl rfl 6 (by decide) (hts _ mw_434) (fun _ h9 => h9) rfl dX8_inState_26 ?_
          refine va_get (D := (dC, dI)) (ci := 4) (v := .int (st g5)) (C := RX5) (T := TX5) (N := 6) hx hb hts inX5 hown hK hP 3 rfl rfl 1 (by decide) (hts _ mw_387) (fun _ h9 => h9) rfl dX8_inState_29 ?_
          refine lv_iload_n hx hb dX8_inState_32 rfl (lv_at hl 4 rfl) ?_
          refine lv_icmp_ne (tgt := 39) hx hb dX8_inState_33 (by decide) (fun c_3 => ?_) (fun c_3 => ?_)
          · have c_3 : ¬ (st g5).toInt = sv.toInt := zc_ne rfl rfl c_3
            have hP := pl_back (cs := [(oc1 fe2 (rk g5) (wd g5) (tw g5) (pa g5) (pb g5) (.ref lo2) (.ref lk2) fm2), (oc4 lk2 (kd g5) (st g5) (.ref r2) (gb g5) (it g5) we2), (oc6 r2 (.ref rx2) (.ref ry2) (nI (nN (mn g5))) rg2), (oa rx2 cI cap2 U2), (oa ry2 cI cap2 V2)]) (L := L) (f := f) (X := [(oc7 sh (.ref fa) (nI ft)), (oq fa cF 200 FA)]) (by rw [hT_1]; exact (show va_P (dC, dI) classes (([(oc7 sh (.ref fa) (nI ft)), (oq fa cF 200 FA)] ++ [(oc1 fe2 (rk g5) (wd g5) (tw g5) (pa g5) (pb g5) (.ref lo2) (.ref lk2) fm2), (oc4 lk2 (kd g5) (st g5) (.ref r2) (gb g5) (it g5) we2), (oc6 r2 (.ref rx2) (.ref ry2) (nI (nN (mn g5))) rg2), (oa rx2 cI cap2 U2), (oa ry2 cI cap2 V2)]) ++ va_pl T_1 f) H from hP)) hc9_1
            have hD : va_D A ([(oc7 sh (.ref fa) (nI ft)), (oq fa cF 200 FA)] ++ va_pl L f) := vaD_ae hD0_1 rfl
            refine lv_iinc (v := nI (g5 + 1)) (lv' := [(3, .int (nI (g5 + 1))), (4, .ref fe2), (2, .int (nI (cntP (fun g => (st g).toInt = sv.toInt) g5))), (0, .ref sh), (1, .int sv)]) hx hb dX8_inState_39 hl (k := 1) rfl (nI_add g5 1) (by decide) rfl (fun ls hl => ?_)
            refine lv_goto (tgt := 4) hx hb dX8_inState_42 (by decide) ?_
            have hl9 := lv_sub hl [0, 2, 3, 4] rfl
            have e9_2 : nI (cntP (fun g => (st g).toInt = sv.toInt) (g5 + 1)) = (nI (cntP (fun g => (st g).toInt = sv.toInt) g5) : Int32) := by first | exact congrArg nI (cntP_y (P := fun g => (st g).toInt = sv.toInt) (show (st g5).toInt = sv.toInt by omega)) | exact congrArg nI (cntP_n0 (P := fun g => (st g).toInt = sv.toInt) (show ¬ (st g5).toInt = sv.toInt by omega))
            have hl9 : lv_has ls 5 [(3, .int (nI (g5 + 1))), (2, .int (nI (cntP (fun g => (st g).toInt = sv.toInt) (g5 + 1)))), (0, .ref sh), (1, .int sv)] := by rw [e9_2]; exact hl9
            exact ih_4 (g5 + 1) H locs ls (by omega) (by omega) hP hD hS hl9
          · have c_3 : (st g5).toInt = sv.toInt := zc_eq rfl rfl c_3
            refine lv_iinc (v := nI ((cntP (fun g => (st g).toInt = sv.toInt) g5) + 1)) (lv' := [(2, .int (nI ((cntP (fun g => (st g).toInt = sv.toInt) g5) + 1))), (4, .ref fe2), (3, .int (nI g5)), (0, .ref sh), (1, .int sv)]) hx hb dX8_inState_36 hl (k := 2) rfl (nI_add (cntP (fun g => (st g).toInt = sv.toInt) g5) 1) (by decide) rfl (fun ls hl => ?_)
            have hP := pl_back (cs := [(oc1 fe2 (rk g5) (wd g5) (tw g5) (pa g5) (pb g5) (.ref lo2) (.ref lk2) fm2), (oc4 lk2 (kd g5) (st g5) (.ref r2) (gb g5) (it g5) we2), (oc6 r2 (.ref rx2) (.ref ry2) (nI (nN (mn g5))) rg2), (oa rx2 cI cap2 U2), (oa ry2 cI cap2 V2)]) (L := L) (f := f) (X := [(oc7 sh (.ref fa) (nI ft)), (oq fa cF 200 FA)]) (by rw [hT_1]; exact (show va_P (dC, dI) classes (([(oc7 sh (.ref fa) (nI ft)), (oq fa cF 200 FA)] ++ [(oc1 fe2 (rk g5) (wd g5) (tw g5) (pa g5) (pb g5) (.ref lo2) (.ref lk2) fm2), (oc4 lk2 (kd g5) (st g5) (.ref r2) (gb g5) (it g5) we2), (oc6 r2 (.ref rx2) (.ref ry2) (nI (nN (mn g5))) rg2), (oa rx2 cI cap2 U2), (oa ry2 cI cap2 V2)]) ++ va_pl T_1 f) H from hP)) hc9_1
            have hD : va_D A ([(oc7 sh (.ref fa) (nI ft)), (oq fa cF 200 FA)] ++ va_pl L f) := vaD_ae hD0_1 rfl
            refine lv_iinc (v := nI (g5 + 1)) (lv' := [(3, .int (nI (g5 + 1))), (2, .int (nI ((cntP (fun g => (st g).toInt = sv.toInt) g5) + 1))), (4, .ref fe2), (0, .ref sh), (1, .int sv)]) hx hb dX8_inState_39 hl (k := 2) rfl (nI_add g5 1) (by decide) rfl (fun ls hl => ?_)
            refine lv_goto (tgt := 4) hx hb dX8_inState_42 (by decide) ?_
            have hl9 := lv_sub hl [0, 1, 3, 4] rfl
            have e9_2 : nI (cntP (fun g => (st g).toInt = sv.toInt) (g5 + 1)) = (nI ((cntP (fun g => (st g).toInt = sv.toInt) g5) + 1) : Int32) := by first | exact congrArg nI (cntP_y (P := fun g => (st g).toInt = sv.toInt) (show (st g5).toInt = sv.toInt by omega)) | exact congrArg nI (cntP_n0 (P := fun g => (st g).toInt = sv.toInt) (show ¬ (st g5).toInt = sv.toInt by omega))
            have hl9 : lv_has ls 5 [(3, .int (nI (g5 + 1))), (2, .int (nI (cntP (fun g => (st g).toInt = sv.toInt) (g5 + 1)))), (0, .ref sh), (1, .int sv)] := by rw [e9_2]; exact hl9
            exact ih_4 (g5 + 1) H locs ls (by omega) (by omega) hP hD hS hl9
  have e9_2 : nI (cntP (fun g => (st g).toInt = sv.toInt) 0) = (0 : Int32) := by rfl
  have hl9 : lv_has ls 5 [(3, .int (nI 0)), (2, .int (nI (cntP (fun g => (st g).toInt = sv.toInt) 0))), (0, .ref sh), (1, .int sv)] := by rw [e9_2]; exact lv_sub hl [0, 1, 2, 3] rfl
  exact hl_4 _ 0 s.heap [] ls (Nat.lt_succ_self _) (by omega) hP hD hS hl9
set_option maxHeartbeats 4000000 in
set_option maxRecDepth 100000 in
theorem k_Sheet_torn (l : Launch) (dC : Nat → ClassId) (dI : Nat → Nat → Nat) (cI cZ cF : ClassId) (sz : Nat) (sh : Nat) (fa : Nat) (ft : Nat) (FA : Nat → Option Nat) (L : List Nat) (f : Nat → va_E) (kd : Nat → Int32) (st : Nat → Int32) (tn : Nat → Int32) (mn : Nat → Int32) (cx : Nat → Int32) (cy : Nat → Int32) (rk : Nat → Int32) (wd : Nat → Int32) (tw : Nat → Int32) (pa : Nat → Int32) (pb : Nat → Int32) (gb : Nat → Int32) (it : Nat → Int32) (h200 : ft ≤ 200) (hva : ∀ q, q < ft → vwA cI L f FA rk wd tw pa pb kd st gb it tn mn cx cy q) : Met l yX8_torn (.code yX8_torn cX8_torn 4 (some .int) :: ws0) ({ frames := 1, cells := 0, slots := 0, locals := 21 } : Room) (va_Pc [.ref sh] (zPre (dC, dI) classes (zTy cI cZ cF) ([(oc7 sh (.ref fa) (nI ft)), (oq fa cF 200 FA)] ++ va_pl L f) sz zXN)) (zQ (some (.int (nI (cntP (fun g => ¬ (tn g).toInt = 0) ft)))) (fun t => va_P (dC, dI) classes ([(oc7 sh (.ref fa) (nI ft)), (oq fa cF 200 FA)] ++ va_pl L f) t.heap ∧ va_D (va_A ([(oc7 sh (.ref fa) (nI ft)), (oq fa cF 200 FA)] ++ va_pl L f) sz) ([(oc7 sh (.ref fa) (nI ft)), (oq fa cF 200 FA)] ++ va_pl L f)) (va_A ([(oc7 sh (.ref fa) (nI ft)), (oq fa cF 200 FA)] ++ va_pl L f) sz)) 0 0 (va_A ([(oc7 sh (.ref fa) (nI ft)), (oq fa cF 200 FA)] ++ va_pl L f) sz) := by
  refine Met.ofW (cc := cX8_torn) (maxL := 4) (ret := (some .int)) (by decide) rfl ?_
  intro p e s m args below meth c s₁ B hml hv
  obtain ⟨rfl, hsz, hP, hK, hD0, hXN⟩ := hv
  have hx := B.exec
  have hb := B.bytes
  have hr := B.returns
  have hts0 := atoms_spec (ws := .code yX8_torn cX8_torn 4 (some .int) :: ws0) B.pre
  have hts : ∀ w9 ∈ ws0, w9.before ([.ref sh] : List Value).toArray s = true := fun w9 h => hts0 w9 (List.mem_cons_of_mem _ h)
  have hown : s.vm.findClass "ScaleShop$Sheet" = some m.cls := findClass_of_methodNamed B.named
  have hlocks := B.notSynchronized
  subst hsz
  have hD := hD0.self (sz := s.heap.size)
  clear hD0
  generalize hAe : va_A ([(oc7 sh (.ref fa) (nI ft)), (oq fa cF 200 FA)] ++ va_pl L f) s.heap.size = A at hD ⊢
  have hA : ∀ q : Nat, s.heap.size ≤ q → A q := fun q h => by rw [← hAe]; exact Or.inr h
  clear hAe
  have hS : va_S A s.heap s.heap [] := va_S.rf
  have hP : va_P (dC, dI) classes ([(oc7 sh (.ref fa) (nI ft)), (oq fa cF 200 FA)] ++ va_pl L f) s.heap := hP
  obtain ⟨Q9, hQ9⟩ : ∃ Q9 : State → Prop, Q9 = MQ below (zQ (some (.int (nI (cntP (fun g => ¬ (tn g).toInt = 0) ft)))) (fun t => va_P (dC, dI) classes ([(oc7 sh (.ref fa) (nI ft)), (oq fa cF 200 FA)] ++ va_pl L f) t.heap ∧ va_D A ([(oc7 sh (.ref fa) (nI ft)), (oq fa cF 200 FA)] ++ va_pl L f)) A) ([.ref sh] : List Value).toArray s 0 0 A := ⟨_, rfl⟩
  rw [← hQ9]
  have hl := lv_entry ([.ref sh]) (n := 4) (Nat.le_of_ble_eq_true rfl)
  rw [lg_entry_eq]
  generalize (lg_sl ([.ref sh]) ++ List.replicate (4 - (lg_sl ([.ref sh])).length) Slot.unset).toArray = ls at hl ⊢
  have hl : lv_has ls 4 [(0, .ref sh)] := hl
  refine lv_iconst (v := 0) hx hb dX8_torn_0 (by decide) ?_
  refine lv_istore_n (lv' := [(1, .int 0), (0, .ref sh)]) hx hb dX8_torn_1 rfl hl (by decide) rfl (fun ls hl => ?_)
  refine lv_iconst (v := 0) hx hb dX8_torn_2 (by decide) ?_
  refine lv_istore_n (lv' := [(2, .int 0), (1, .int 0), (0, .ref sh)]) hx hb dX8_torn_3 rfl hl (by decide) rfl (fun ls hl => ?_)
  have hl_4 : ∀ (n9 : Nat) (g5 : Nat) (H : Heap) (locs : List Loc) (ls : Array Slot), ft - g5 < n9 → (g5 ≤ ft) → va_P (dC, dI) classes ([(oc7 sh (.ref fa) (nI ft)), (oq fa cF 200 FA)] ++ va_pl L f) H → va_D A ([(oc7 sh (.ref fa) (nI ft)), (oq fa cF 200 FA)] ++ va_pl L f) → va_S A s.heap H locs → lv_has ls 4 [(2, .int (nI g5)), (1, .int (nI (cntP (fun g => ¬ (tn g).toInt = 0) g5))), (0, .ref sh)] → W p l e ((headSpec (.code yX8_torn cX8_torn 4 (some .int) :: ws0) ({ frames := 1, cells := 0, slots := 0, locals := 21 } : Room)).room) s m ([.ref sh] : List Value).toArray below meth c H locs 0 0 Q9 (F0 m 4 ls []) := by
    intro n9
    induction n9 with
    | zero => intro g5 H locs ls hm; exact absurd hm (Nat.not_lt_zero _)
    | succ n9 ih_4 =>
      intro g5 H locs ls hm hg5 hP hD hS hl
      have hcb := cntP_b (fun g => ¬ (tn g).toInt = 0) g5
      refine lv_iload_n hx hb dX8_torn_4 rfl (lv_at hl 0 rfl) ?_
      refine lv_aload_n hx hb dX8_torn_5 rfl (lv_at hl 2 rfl) ?_
      refine va_get (D := (dC, dI)) (ci := 7) (v := .int (nI ft)) (C := RX8) (T := TX8) (N := 2) hx hb hts inX8 hown hK hP 0 rfl rfl 1 (by decide) (hts _ mw_137) (fun _ h9 => h9) rfl dX8_torn_6 ?_
      refine lv_icmp_ge (tgt := 41) hx hb dX8_torn_9 (by decide) (fun c_1 => ?_) (fun c_1 => ?_)
      · have c_1 : ((ft : Nat) : Int) ≤ ((g5 : Nat) : Int) := zc_le (nI_toInt (by omega)) (nI_toInt (by omega)) c_1
        refine lv_iload_n hx hb dX8_torn_41 rfl (lv_at hl 1 rfl) ?_
        have hP9 := hP.part (cx := [(oc7 sh (.ref fa) (nI ft)), (oq fa cF 200 FA)]) [0, 1] rfl
        have hD9 := hD.part (cx := [(oc7 sh (.ref fa) (nI ft)), (oq fa cF 200 FA)]) [0, 1] (by decide) rfl
        rw [hQ9]
        exact W.iret (v := nI (cntP (fun g => ¬ (tn g).toInt = 0) g5)) hx hb hr (fun t ht hW => ⟨⟨congrArg (fun z => Outcome.returned (some (Value.int z))) (show (nI (cntP (fun g => ¬ (tn g).toInt = 0) g5) : Int32) = nI (cntP (fun g => ¬ (tn g).toInt = 0) ft) from zn_eq (by rw [show g5 = ft by omega])), by rw [ht]; exact hP9, hD9⟩, hS.F ht⟩) hS.2.2 dX8_torn_42
      · have c_1 : ((g5 : Nat) : Int) < ((ft : Nat) : Int) := zc_nle (nI_toInt (by omega)) (nI_toInt (by omega)) c_1
        rcases vwA_2 (hva g5 (by omega)) with ⟨ht2, fe2, lk2, lo2, we2, fm2, hFA2, hfe2, hlk2⟩ | ⟨ht2, fe2, lk2, lo2, we2, fm2, r2, rx2, ry2, cap2, U2, V2, rg2, hFA2, hfe2, hlk2, ⟨hr2, hrx2, hry2, hne2⟩, hrr2⟩
        · skip
          have hc9_1 : inPl L f [(oc1 fe2 (rk g5) (wd g5) (tw g5) (pa g5) (pb g5) (.ref lo2) (.ref lk2) fm2), (oc4 lk2 (kd g5) (st g5) .null (gb g5) (it g5) we2)] := ⟨hfe2, hlk2, trivial⟩
          have hD0_1 := hD
          obtain ⟨hP, hD⟩ := pl_out hP hD [(oc1 fe2 (rk g5) (wd g5) (tw g5) (pa g5) (pb g5) (.ref lo2) (.ref lk2) fm2), (oc4 lk2 (kd g5) (st g5) .null (gb g5) (it g5) we2)] hc9_1 (pwF hfe2.2 hlk2.2)
          generalize hT_1 : outPl L [(oc1 fe2 (rk g5) (wd g5) (tw g5) (pa g5) (pb g5) (.ref lo2) (.ref lk2) fm2), (oc4 lk2 (kd g5) (st g5) .null (gb g5) (it g5) we2)] = T_1 at hP hD
          have hP : va_P (dC, dI) classes ([(oc7 sh (.ref fa) (nI ft)), (oq fa cF 200 FA), (oc1 fe2 (rk g5) (wd g5) (tw g5) (pa g5) (pb g5) (.ref lo2) (.ref lk2) fm2), (oc4 lk2 (kd g5) (st g5) .null (gb g5) (it g5) we2)] ++ va_pl T_1 f) H := hP
          have hD : va_D A ([(oc7 sh (.ref fa) (nI ft)), (oq fa cF 200 FA), (oc1 fe2 (rk g5) (wd g5) (tw g5) (pa g5) (pb g5) (.ref lo2) (.ref lk2) fm2), (oc4 lk2 (kd g5) (st g5) .null (gb g5) (it g5) we2)] ++ va_pl T_1 f) := hD
          refine lv_aload_n hx hb dX8_torn_12 rfl (lv_at hl 2 rfl) ?_
          refine lv_iload_n hx hb dX8_torn_13 rfl (lv_at hl 0 rfl) ?_
          have hPc := hP.sub (ws' := [(oc7 sh (.ref fa) (nI ft)), (oq fa cF 200 FA)]) [0, 1] rfl
          have hDc := hD.sub (ws' := [(oc7 sh (.ref fa) (nI ft)), (oq fa cF 200 FA)]) [0, 1] (by decide) rfl
          have hFc := va_free (wc := [(oc7 sh (.ref fa) (nI ft)), (oq fa cF 200 FA)]) hD hS hA [0, 1] rfl
          refine zcall (st1 := [.ref fe2]) (va_runV (As := [.int (nI g5)]) (rest := []) ⟨hx, hb, hml, hown, hts⟩ (k_Sheet_find l dC dI cI cZ cF H.size sh fa ft FA g5 fe2 (by omega) (by omega) (hFA2)) (cwV 1 hts (zz_gV mw_616 mw_499 mw_500 mw_100 mc_yX8_find) rfl rfl rfl (by decide +kernel) ⟨Nat.le_of_ble_eq_true rfl, Nat.le_of_ble_eq_true rfl⟩) (zPV2 (q0 := 0) (ci := 7) hPc hDc hK hXN rfl rfl) rfl rfl hl.1 rfl (lv_room (Nat.le_of_ble_eq_true rfl)) dX8_torn_14 ⟨Nat.le_of_ble_eq_true rfl, Nat.le_of_ble_eq_true rfl⟩) hS hFc hFc rfl (fun t H1 locs ht hB hk1 hS => ?_)
          obtain ⟨hP1, hD1⟩ := hB
          rw [ht] at hP1
          obtain ⟨hP, hD⟩ := va_joinQ (wr := [(oc1 fe2 (rk g5) (wd g5) (tw g5) (pa g5) (pb g5) (.ref lo2) (.ref lk2) fm2), (oc4 lk2 (kd g5) (st g5) .null (gb g5) (it g5) we2)]) (w1 := [(oc7 sh (.ref fa) (nI ft)), (oq fa cF 200 FA)]) hP hD [0, 1] [2, 3] rfl rfl (by decide) (by decide) hk1 hFc hP1 hD1
          clear hk1 hPc hDc hFc hP1 hD1 ht
          generalize H1 = H at hP hS ⊢
          have hP := hP.part (cx := [(oc7 sh (.ref fa) (nI ft)), (oq fa cF 200 FA), (oc1 fe2 (rk g5) (wd g5) (tw g5) (pa g5) (pb g5) (.ref lo2) (.ref lk2) fm2), (oc4 lk2 (kd g5) (st g5) .null (gb g5) (it g5) we2)]) [2, 3, 0, 1] rfl
          have hD := hD.part (cx := [(oc7 sh (.ref fa) (nI ft)), (oq fa cF 200 FA), (oc1 fe2 (rk g5) (wd g5) (tw g5) (pa g5) (pb g5) (.ref lo2) (.ref lk2) fm2), (oc4 lk2 (kd g5) (st g5) .null (gb g5) (it g5) we2)]) [2, 3, 0, 1] (by decide) rfl
          have hP : va_P (dC, dI) classes ([(oc7 sh (.ref fa) (nI ft)), (oq fa cF 200 FA), (oc1 fe2 (rk g5) (wd g5) (tw g5) (pa g5) (pb g5) (.ref lo2) (.ref lk2) fm2), (oc4 lk2 (kd g5) (st g5) .null (gb g5) (it g5) we2)] ++ va_pl T_1 f) H := hP
          have hD : va_D A ([(oc7 sh (.ref fa) (nI ft)), (oq fa cF 200 FA), (oc1 fe2 (rk g5) (wd g5) (tw g5) (pa g5) (pb g5) (.ref lo2) (.ref lk2) fm2), (oc4 lk2 (kd g5) (st g5) .null (gb g5) (it g5) we2)] ++ va_pl T_1 f) := hD
          refine lv_astore_n (lv' := [(3, .ref fe2), (2, .int (nI g5)), (1, .int (nI (cntP (fun g => ¬ (tn g).toInt = 0) g5))), (0, .ref sh)]) hx hb dX8_torn_17 rfl hl (by decide) rfl (fun ls hl => ?_)
          refine lv_aload_n hx hb dX8_torn_18 rfl (lv_at hl 0 rfl) ?_
          refine lv_ifnull hx hb dX8_torn_19 ?_
          refine lv_aload_n hx hb dX8_torn_22 rfl (lv_at hl 0 rfl) ?_
          refine va_get (D := (dC, dI)) (ci := 1) (v := .ref lk2) (C := RX2) (T := TX2) (N := 8) hx hb hts inX2 hown hK hP 2 rfl rfl 6 (by decide) (hts _ mw_434) (fun _ h9 => h9) rfl dX8_torn_23 ?_
          refine va_get (D := (dC, dI)) (ci := 4) (v := .null) (C := RX5) (T := TX5) (N := 6) hx hb hts inX5 hown hK hP 3 rfl rfl 2 (by decide) (hts _ mw_393) (fun _ h9 => h9) rfl dX8_torn_26 ?_
          refine lv_ifnonnullN hx hb dX8_torn_29 ?_
          refine lv_iinc (v := nI ((cntP (fun g => ¬ (tn g).toInt = 0) g5) + 1)) (lv' := [(1, .int (nI ((cntP (fun g => ¬ (tn g).toInt = 0) g5) + 1))), (3, .ref fe2), (2, .int (nI g5)), (0, .ref sh)]) hx hb dX8_torn_32 hl (k := 2) rfl (nI_add (cntP (fun g => ¬ (tn g).toInt = 0) g5) 1) (by decide) rfl (fun ls hl => ?_)
          have hP := pl_back (cs := [(oc1 fe2 (rk g5) (wd g5) (tw g5) (pa g5) (pb g5) (.ref lo2) (.ref lk2) fm2), (oc4 lk2 (kd g5) (st g5) .null (gb g5) (it g5) we2)]) (L := L) (f := f) (X := [(oc7 sh (.ref fa) (nI ft)), (oq fa cF 200 FA)]) (by rw [hT_1]; exact (show va_P (dC, dI) classes (([(oc7 sh (.ref fa) (nI ft)), (oq fa cF 200 FA)] ++ [(oc1 fe2 (rk g5) (wd g5) (tw g5) (pa g5) (pb g5) (.ref lo2) (.ref lk2) fm2), (oc4 lk2 (kd g5) (st g5) .null (gb g5) (it g5) we2)]) ++ va_pl T_1 f) H from hP)) hc9_1
          have hD : va_D A ([(oc7 sh (.ref fa) (nI ft)), (oq fa cF 200 FA)] ++ va_pl L f) := vaD_ae hD0_1 rfl
          refine lv_iinc (v := nI (g5 + 1)) (lv' := [(2, .int (nI (g5 + 1))), (1, .int (nI ((cntP (fun g => ¬ (tn g).toInt = 0) g5) + 1))), (3, .ref fe2), (0, .ref sh)]) hx hb dX8_torn_35 hl (k := 2) rfl (nI_add g5 1) (by decide) rfl (fun ls hl => ?_)
          refine lv_goto (tgt := 4) hx hb dX8_torn_38 (by decide) ?_
          have hl9 := lv_sub hl [0, 1, 3] rfl
          have e9_1 : nI (cntP (fun g => ¬ (tn g).toInt = 0) (g5 + 1)) = (nI ((cntP (fun g => ¬ (tn g).toInt = 0) g5) + 1) : Int32) := by first | exact congrArg nI (cntP_y (P := fun g => ¬ (tn g).toInt = 0) (ht2)) | exact congrArg nI (cntP_n0 (P := fun g => ¬ (tn g).toInt = 0) (fun h => h ht2))
          have hl9 : lv_has ls 4 [(2, .int (nI (g5 + 1))), (1, .int (nI (cntP (fun g => ¬ (tn g).toInt = 0) (g5 + 1)))), (0, .ref sh)] := by rw [e9_1]; exact hl9
          exact ih_4 (g5 + 1) H locs ls (by omega) (by omega) hP hD hS hl9
        · skip
          have hcap2 := hrr2.1
          have hcap3 := hrr2.2.1
          have hc9_1 : inPl L f [(oc1 fe2 (rk g5) (wd g5) (tw g5) (pa g5) (pb g5) (.ref lo2) (.ref lk2) fm2), (oc4 lk2 (kd g5) (st g5) (.ref r2) (gb g5) (it g5) we2), (oc6 r2 (.ref rx2) (.ref ry2) (nI (nN (mn g5))) rg2), (oa rx2 cI cap2 U2), (oa ry2 cI cap2 V2)] := ⟨hfe2, hlk2, hr2, hrx2, hry2, trivial⟩
          have hD0_1 := hD
          obtain ⟨hP, hD⟩ := pl_out hP hD [(oc1 fe2 (rk g5) (wd g5) (tw g5) (pa g5) (pb g5) (.ref lo2) (.ref lk2) fm2), (oc4 lk2 (kd g5) (st g5) (.ref r2) (gb g5) (it g5) we2), (oc6 r2 (.ref rx2) (.ref ry2) (nI (nN (mn g5))) rg2), (oa rx2 cI cap2 U2), (oa ry2 cI cap2 V2)] hc9_1 (pwR hfe2.2 hlk2.2 hr2.2 hrx2.2 hry2.2 hne2)
          generalize hT_1 : outPl L [(oc1 fe2 (rk g5) (wd g5) (tw g5) (pa g5) (pb g5) (.ref lo2) (.ref lk2) fm2), (oc4 lk2 (kd g5) (st g5) (.ref r2) (gb g5) (it g5) we2), (oc6 r2 (.ref rx2) (.ref ry2) (nI (nN (mn g5))) rg2), (oa rx2 cI cap2 U2), (oa ry2 cI cap2 V2)] = T_1 at hP hD
          have hP : va_P (dC, dI) classes ([(oc7 sh (.ref fa) (nI ft)), (oq fa cF 200 FA), (oc1 fe2 (rk g5) (wd g5) (tw g5) (pa g5) (pb g5) (.ref lo2) (.ref lk2) fm2), (oc4 lk2 (kd g5) (st g5) (.ref r2) (gb g5) (it g5) we2), (oc6 r2 (.ref rx2) (.ref ry2) (nI (nN (mn g5))) rg2), (oa rx2 cI cap2 U2), (oa ry2 cI cap2 V2)] ++ va_pl T_1 f) H := hP
          have hD : va_D A ([(oc7 sh (.ref fa) (nI ft)), (oq fa cF 200 FA), (oc1 fe2 (rk g5) (wd g5) (tw g5) (pa g5) (pb g5) (.ref lo2) (.ref lk2) fm2), (oc4 lk2 (kd g5) (st g5) (.ref r2) (gb g5) (it g5) we2), (oc6 r2 (.ref rx2) (.ref ry2) (nI (nN (mn g5))) rg2), (oa rx2 cI cap2 U2), (oa ry2 cI cap2 V2)] ++ va_pl T_1 f) := hD
          refine lv_aload_n hx hb dX8_torn_12 rfl (lv_at hl 2 rfl) ?_
          refine lv_iload_n hx hb dX8_torn_13 rfl (lv_at hl 0 rfl) ?_
          have hPc := hP.sub (ws' := [(oc7 sh (.ref fa) (nI ft)), (oq fa cF 200 FA)]) [0, 1] rfl
          have hDc := hD.sub (ws' := [(oc7 sh (.ref fa) (nI ft)), (oq fa cF 200 FA)]) [0, 1] (by decide) rfl
          have hFc := va_free (wc := [(oc7 sh (.ref fa) (nI ft)), (oq fa cF 200 FA)]) hD hS hA [0, 1] rfl
          refine zcall (st1 := [.ref fe2]) (va_runV (As := [.int (nI g5)]) (rest := []) ⟨hx, hb, hml, hown, hts⟩ (k_Sheet_find l dC dI cI cZ cF H.size sh fa ft FA g5 fe2 (by omega) (by omega) (hFA2)) (cwV 1 hts (zz_gV mw_616 mw_499 mw_500 mw_100 mc_yX8_find) rfl rfl rfl (by decide +kernel) ⟨Nat.le_of_ble_eq_true rfl, Nat.le_of_ble_eq_true rfl⟩) (zPV2 (q0 := 0) (ci := 7) hPc hDc hK hXN rfl rfl) rfl rfl hl.1 rfl (lv_room (Nat.le_of_ble_eq_true rfl)) dX8_torn_14 ⟨Nat.le_of_ble_eq_true rfl, Nat.le_of_ble_eq_true rfl⟩) hS hFc hFc rfl (fun t H1 locs ht hB hk1 hS => ?_)
          obtain ⟨hP1, hD1⟩ := hB
          rw [ht] at hP1
          obtain ⟨hP, hD⟩ := va_joinQ (wr := [(oc1 fe2 (rk g5) (wd g5) (tw g5) (pa g5) (pb g5) (.ref lo2) (.ref lk2) fm2), (oc4 lk2 (kd g5) (st g5) (.ref r2) (gb g5) (it g5) we2), (oc6 r2 (.ref rx2) (.ref ry2) (nI (nN (mn g5))) rg2), (oa rx2 cI cap2 U2), (oa ry2 cI cap2 V2)]) (w1 := [(oc7 sh (.ref fa) (nI ft)), (oq fa cF 200 FA)]) hP hD [0, 1] [2, 3, 4, 5, 6] rfl rfl (by decide) (by decide) hk1 hFc hP1 hD1
          clear hk1 hPc hDc hFc hP1 hD1 ht
          generalize H1 = H at hP hS ⊢
          have hP := hP.part (cx := [(oc7 sh (.ref fa) (nI ft)), (oq fa cF 200 FA), (oc1 fe2 (rk g5) (wd g5) (tw g5) (pa g5) (pb g5) (.ref lo2) (.ref lk2) fm2), (oc4 lk2 (kd g5) (st g5) (.ref r2) (gb g5) (it g5) we2), (oc6 r2 (.ref rx2) (.ref ry2) (nI (nN (mn g5))) rg2), (oa rx2 cI cap2 U2), (oa ry2 cI cap2 V2)]) [5, 6, 0, 1, 2, 3, 4] rfl
          have hD := hD.part (cx := [(oc7 sh (.ref fa) (nI ft)), (oq fa cF 200 FA), (oc1 fe2 (rk g5) (wd g5) (tw g5) (pa g5) (pb g5) (.ref lo2) (.ref lk2) fm2), (oc4 lk2 (kd g5) (st g5) (.ref r2) (gb g5) (it g5) we2), (oc6 r2 (.ref rx2) (.ref ry2) (nI (nN (mn g5))) rg2), (oa rx2 cI cap2 U2), (oa ry2 cI cap2 V2)]) [5, 6, 0, 1, 2, 3, 4] (by decide) rfl
          have hP : va_P (dC, dI) classes ([(oc7 sh (.ref fa) (nI ft)), (oq fa cF 200 FA), (oc1 fe2 (rk g5) (wd g5) (tw g5) (pa g5) (pb g5) (.ref lo2) (.ref lk2) fm2), (oc4 lk2 (kd g5) (st g5) (.ref r2) (gb g5) (it g5) we2), (oc6 r2 (.ref rx2) (.ref ry2) (nI (nN (mn g5))) rg2), (oa rx2 cI cap2 U2), (oa ry2 cI cap2 V2)] ++ va_pl T_1 f) H := hP
          have hD : va_D A ([(oc7 sh (.ref fa) (nI ft)), (oq fa cF 200 FA), (oc1 fe2 (rk g5) (wd g5) (tw g5) (pa g5) (pb g5) (.ref lo2) (.ref lk2) fm2), (oc4 lk2 (kd g5) (st g5) (.ref r2) (gb g5) (it g5) we2), (oc6 r2 (.ref rx2) (.ref ry2) (nI (nN (mn g5))) rg2), (oa rx2 cI cap2 U2), (oa ry2 cI cap2 V2)] ++ va_pl T_1 f) := hD
          refine lv_astore_n (lv' := [(3, .ref fe2), (2, .int (nI g5)), (1, .int (nI (cntP (fun g => ¬ (tn g).toInt = 0) g5))), (0, .ref sh)]) hx hb dX8_torn_17 rfl hl (by decide) rfl (fun ls hl => ?_)
          refine lv_aload_n hx hb dX8_torn_18 rfl (lv_at hl 0 rfl) ?_
          refine lv_ifnull hx hb dX8_torn_19 ?_
          refine lv_aload_n hx hb dX8_torn_22 rfl (lv_at hl 0 rfl) ?_
          refine va_get (D := (dC, dI)) (ci := 1) (v := .ref lk2) (C := RX2) (T := TX2) (N := 8) hx hb hts inX2 hown hK hP 2 rfl rfl 6 (by decide) (hts _ mw_434) (fun _ h9 => h9) rfl dX8_torn_23 ?_
          refine va_get (D := (dC, dI)) (ci := 4) (v := .ref r2) (C := RX5) (T := TX5) (N := 6) hx hb hts inX5 hown hK hP 3 rfl rfl 2 (by decide) (hts _ mw_393) (fun _ h9 => h9) rfl dX8_torn_26 ?_
          refine lv_ifnonnull (tgt := 35) hx hb dX8_torn_29 (by decide) ?_
          have hP := pl_back (cs := [(oc1 fe2 (rk g5) (wd g5) (tw g5) (pa g5) (pb g5) (.ref lo2) (.ref lk2) fm2), (oc4 lk2 (kd g5) (st g5) (.ref r2) (gb g5) (it g5) we2), (oc6 r2 (.ref rx2) (.ref ry2) (nI (nN (mn g5))) rg2), (oa rx2 cI cap2 U2), (oa ry2 cI cap2 V2)]) (L := L) (f := f) (X := [(oc7 sh (.ref fa) (nI ft)), (oq fa cF 200 FA)]) (by rw [hT_1]; exact (show va_P (dC, dI) classes (([(oc7 sh (.ref fa) (nI ft)), (oq fa cF 200 FA)] ++ [(oc1 fe2 (rk g5) (wd g5) (tw g5) (pa g5) (pb g5) (.ref lo2) (.ref lk2) fm2), (oc4 lk2 (kd g5) (st g5) (.ref r2) (gb g5) (it g5) we2), (oc6 r2 (.ref rx2) (.ref ry2) (nI (nN (mn g5))) rg2), (oa rx2 cI cap2 U2), (oa ry2 cI cap2 V2)]) ++ va_pl T_1 f) H from hP)) hc9_1
          have hD : va_D A ([(oc7 sh (.ref fa) (nI ft)), (oq fa cF 200 FA)] ++ va_pl L f) := vaD_ae hD0_1 rfl
          refine lv_iinc (v := nI (g5 + 1)) (lv' := [(2, .int (nI (g5 + 1))), (3, .ref fe2), (1, .int (nI (cntP (fun g => ¬ (tn g).toInt = 0) g5))), (0, .ref sh)]) hx hb dX8_torn_35 hl (k := 1) rfl (nI_add g5 1) (by decide) rfl (fun ls hl => ?_)
          refine lv_goto (tgt := 4) hx hb dX8_torn_38 (by decide) ?_
          have hl9 := lv_sub hl [0, 2, 3] rfl
          have e9_1 : nI (cntP (fun g => ¬ (tn g).toInt = 0) (g5 + 1)) = (nI (cntP (fun g => ¬ (tn g).toInt = 0) g5) : Int32) := by first | exact congrArg nI (cntP_y (P := fun g => ¬ (tn g).toInt = 0) (ht2)) | exact congrArg nI (cntP_n0 (P := fun g => ¬ (tn g).toInt = 0) (fun h => h ht2))
          have hl9 : lv_has ls 4 [(2, .int (nI (g5 + 1))), (1, .int (nI (cntP (fun g => ¬ (tn g).toInt = 0) (g5 + 1)))), (0, .ref sh)] := by rw [e9_1]; exact hl9
          exact ih_4 (g5 + 1) H locs ls (by omega) (by omega) hP hD hS hl9
  have e9_1 : nI (cntP (fun g => ¬ (tn g).toInt = 0) 0) = (0 : Int32) := by rfl
  have hl9 : lv_has ls 4 [(2, .int (nI 0)), (1, .int (nI (cntP (fun g => ¬ (tn g).toInt = 0) 0))), (0, .ref sh)] := by rw [e9_1]; exact lv_sub hl [0, 1, 2] rfl
  exact hl_4 _ 0 s.heap [] ls (Nat.lt_succ_self _) (by omega) hP hD hS hl9
set_option maxHeartbeats 4000000 in
set_option maxRecDepth 100000 in
theorem k_Sheet_cornersThere (l : Launch) (dC : Nat → ClassId) (dI : Nat → Nat → Nat) (cI cZ cF : ClassId) (sz : Nat) (sh : Nat) (fa : Nat) (ft : Nat) (FA : Nat → Option Nat) (L : List Nat) (f : Nat → va_E) (kd : Nat → Int32) (st : Nat → Int32) (tn : Nat → Int32) (mn : Nat → Int32) (cx : Nat → Int32) (cy : Nat → Int32) (rk : Nat → Int32) (wd : Nat → Int32) (tw : Nat → Int32) (pa : Nat → Int32) (pb : Nat → Int32) (gb : Nat → Int32) (it : Nat → Int32) (h200 : ft ≤ 200) (hva : ∀ q, q < ft → vwA cI L f FA rk wd tw pa pb kd st gb it tn mn cx cy q) : Met l yX8_cornersThere (.code yX8_cornersThere cX8_cornersThere 4 (some .int) :: ws0) ({ frames := 2, cells := 0, slots := 0, locals := 43 } : Room) (va_Pc [.ref sh] (zPre (dC, dI) classes (zTy cI cZ cF) ([(oc7 sh (.ref fa) (nI ft)), (oq fa cF 200 FA)] ++ va_pl L f) sz zXN)) (zQ (some (.int (nI (smP (lvF ft st tn) (fun g => nN (mn g)) ft)))) (fun t => va_P (dC, dI) classes ([(oc7 sh (.ref fa) (nI ft)), (oq fa cF 200 FA)] ++ va_pl L f) t.heap ∧ va_D (va_A ([(oc7 sh (.ref fa) (nI ft)), (oq fa cF 200 FA)] ++ va_pl L f) sz) ([(oc7 sh (.ref fa) (nI ft)), (oq fa cF 200 FA)] ++ va_pl L f)) (va_A ([(oc7 sh (.ref fa) (nI ft)), (oq fa cF 200 FA)] ++ va_pl L f) sz)) 0 0 (va_A ([(oc7 sh (.ref fa) (nI ft)), (oq fa cF 200 FA)] ++ va_pl L f) sz) := by
  refine Met.ofW (cc := cX8_cornersThere) (maxL := 4) (ret := (some .int)) (by decide) rfl ?_
  intro p e s m args below meth c s₁ B hml hv
  obtain ⟨rfl, hsz, hP, hK, hD0, hXN⟩ := hv
  have hx := B.exec
  have hb := B.bytes
  have hr := B.returns
  have hts0 := atoms_spec (ws := .code yX8_cornersThere cX8_cornersThere 4 (some .int) :: ws0) B.pre
  have hts : ∀ w9 ∈ ws0, w9.before ([.ref sh] : List Value).toArray s = true := fun w9 h => hts0 w9 (List.mem_cons_of_mem _ h)
  have hown : s.vm.findClass "ScaleShop$Sheet" = some m.cls := findClass_of_methodNamed B.named
  have hlocks := B.notSynchronized
  subst hsz
  have hD := hD0.self (sz := s.heap.size)
  clear hD0
  generalize hAe : va_A ([(oc7 sh (.ref fa) (nI ft)), (oq fa cF 200 FA)] ++ va_pl L f) s.heap.size = A at hD ⊢
  have hA : ∀ q : Nat, s.heap.size ≤ q → A q := fun q h => by rw [← hAe]; exact Or.inr h
  clear hAe
  have hS : va_S A s.heap s.heap [] := va_S.rf
  have hP : va_P (dC, dI) classes ([(oc7 sh (.ref fa) (nI ft)), (oq fa cF 200 FA)] ++ va_pl L f) s.heap := hP
  obtain ⟨Q9, hQ9⟩ : ∃ Q9 : State → Prop, Q9 = MQ below (zQ (some (.int (nI (smP (lvF ft st tn) (fun g => nN (mn g)) ft)))) (fun t => va_P (dC, dI) classes ([(oc7 sh (.ref fa) (nI ft)), (oq fa cF 200 FA)] ++ va_pl L f) t.heap ∧ va_D A ([(oc7 sh (.ref fa) (nI ft)), (oq fa cF 200 FA)] ++ va_pl L f)) A) ([.ref sh] : List Value).toArray s 0 0 A := ⟨_, rfl⟩
  rw [← hQ9]
  have hl := lv_entry ([.ref sh]) (n := 4) (Nat.le_of_ble_eq_true rfl)
  rw [lg_entry_eq]
  generalize (lg_sl ([.ref sh]) ++ List.replicate (4 - (lg_sl ([.ref sh])).length) Slot.unset).toArray = ls at hl ⊢
  have hl : lv_has ls 4 [(0, .ref sh)] := hl
  refine lv_iconst (v := 0) hx hb dX8_cornersThere_0 (by decide) ?_
  refine lv_istore_n (lv' := [(1, .int 0), (0, .ref sh)]) hx hb dX8_cornersThere_1 rfl hl (by decide) rfl (fun ls hl => ?_)
  refine lv_iconst (v := 0) hx hb dX8_cornersThere_2 (by decide) ?_
  refine lv_istore_n (lv' := [(2, .int 0), (1, .int 0), (0, .ref sh)]) hx hb dX8_cornersThere_3 rfl hl (by decide) rfl (fun ls hl => ?_)
  have hl_4 : ∀ (n9 : Nat) (g5 : Nat) (H : Heap) (locs : List Loc) (ls : Array Slot), ft - g5 < n9 → (g5 ≤ ft) → (smP (lvF ft st tn) (fun g => nN (mn g)) g5 ≤ 40 * g5) → va_P (dC, dI) classes ([(oc7 sh (.ref fa) (nI ft)), (oq fa cF 200 FA)] ++ va_pl L f) H → va_D A ([(oc7 sh (.ref fa) (nI ft)), (oq fa cF 200 FA)] ++ va_pl L f) → va_S A s.heap H locs → lv_has ls 4 [(2, .int (nI g5)), (1, .int (nI (smP (lvF ft st tn) (fun g => nN (mn g)) g5))), (0, .ref sh)] → W p l e ((headSpec (.code yX8_cornersThere cX8_cornersThere 4 (some .int) :: ws0) ({ frames := 2, cells := 0, slots := 0, locals := 43 } : Room)).room) s m ([.ref sh] : List Value).toArray below meth c H locs 0 0 Q9 (F0 m 4 ls []) := by
    intro n9
    induction n9 with
    | zero => intro g5 H locs ls hm; exact absurd hm (Nat.not_lt_zero _)
    | succ n9 ih_4 =>
      intro g5 H locs ls hm hg5 hsb hP hD hS hl
      refine lv_iload_n hx hb dX8_cornersThere_4 rfl (lv_at hl 0 rfl) ?_
      refine lv_aload_n hx hb dX8_cornersThere_5 rfl (lv_at hl 2 rfl) ?_
      refine va_get (D := (dC, dI)) (ci := 7) (v := .int (nI ft)) (C := RX8) (T := TX8) (N := 2) hx hb hts inX8 hown hK hP 0 rfl rfl 1 (by decide) (hts _ mw_137) (fun _ h9 => h9) rfl dX8_cornersThere_6 ?_
      refine lv_icmp_ge (tgt := 39) hx hb dX8_cornersThere_9 (by decide) (fun c_1 => ?_) (fun c_1 => ?_)
      · have c_1 : ((ft : Nat) : Int) ≤ ((g5 : Nat) : Int) := zc_le (nI_toInt (by omega)) (nI_toInt (by omega)) c_1
        refine lv_iload_n hx hb dX8_cornersThere_39 rfl (lv_at hl 1 rfl) ?_
        have hP9 := hP.part (cx := [(oc7 sh (.ref fa) (nI ft)), (oq fa cF 200 FA)]) [0, 1] rfl
        have hD9 := hD.part (cx := [(oc7 sh (.ref fa) (nI ft)), (oq fa cF 200 FA)]) [0, 1] (by decide) rfl
        rw [hQ9]
        exact W.iret (v := nI (smP (lvF ft st tn) (fun g => nN (mn g)) g5)) hx hb hr (fun t ht hW => ⟨⟨congrArg (fun z => Outcome.returned (some (Value.int z))) (show (nI (smP (lvF ft st tn) (fun g => nN (mn g)) g5) : Int32) = nI (smP (lvF ft st tn) (fun g => nN (mn g)) ft) from zn_eq (by rw [show g5 = ft by omega])), by rw [ht]; exact hP9, hD9⟩, hS.F ht⟩) hS.2.2 dX8_cornersThere_40
      · have c_1 : ((g5 : Nat) : Int) < ((ft : Nat) : Int) := zc_nle (nI_toInt (by omega)) (nI_toInt (by omega)) c_1
        rcases vwA_3 (P9 := ((st g5).toInt = 1)) (hva g5 (by omega)) with ⟨ht2, fe2, lk2, lo2, we2, fm2, hFA2, hfe2, hlk2⟩ | ⟨ht2, hA2, fe2, lk2, lo2, we2, fm2, r2, rx2, ry2, cap2, U2, V2, rg2, hFA2, hfe2, hlk2, ⟨hr2, hrx2, hry2, hne2⟩, hrr2⟩ | ⟨ht2, hA2, fe2, lk2, lo2, we2, fm2, r2, rx2, ry2, cap2, U2, V2, rg2, hFA2, hfe2, hlk2, ⟨hr2, hrx2, hry2, hne2⟩, hrr2⟩
        · skip
          have hnl2 : ¬ lvF ft st tn g5 := fun h => ht2 h.2.2
          have hc9_1 : inPl L f [(oc1 fe2 (rk g5) (wd g5) (tw g5) (pa g5) (pb g5) (.ref lo2) (.ref lk2) fm2), (oc4 lk2 (kd g5) (st g5) .null (gb g5) (it g5) we2)] := ⟨hfe2, hlk2, trivial⟩
          have hD0_1 := hD
          obtain ⟨hP, hD⟩ := pl_out hP hD [(oc1 fe2 (rk g5) (wd g5) (tw g5) (pa g5) (pb g5) (.ref lo2) (.ref lk2) fm2), (oc4 lk2 (kd g5) (st g5) .null (gb g5) (it g5) we2)] hc9_1 (pwF hfe2.2 hlk2.2)
          generalize hT_1 : outPl L [(oc1 fe2 (rk g5) (wd g5) (tw g5) (pa g5) (pb g5) (.ref lo2) (.ref lk2) fm2), (oc4 lk2 (kd g5) (st g5) .null (gb g5) (it g5) we2)] = T_1 at hP hD
          have hP : va_P (dC, dI) classes ([(oc7 sh (.ref fa) (nI ft)), (oq fa cF 200 FA), (oc1 fe2 (rk g5) (wd g5) (tw g5) (pa g5) (pb g5) (.ref lo2) (.ref lk2) fm2), (oc4 lk2 (kd g5) (st g5) .null (gb g5) (it g5) we2)] ++ va_pl T_1 f) H := hP
          have hD : va_D A ([(oc7 sh (.ref fa) (nI ft)), (oq fa cF 200 FA), (oc1 fe2 (rk g5) (wd g5) (tw g5) (pa g5) (pb g5) (.ref lo2) (.ref lk2) fm2), (oc4 lk2 (kd g5) (st g5) .null (gb g5) (it g5) we2)] ++ va_pl T_1 f) := hD
          refine lv_aload_n hx hb dX8_cornersThere_12 rfl (lv_at hl 2 rfl) ?_
          refine lv_iload_n hx hb dX8_cornersThere_13 rfl (lv_at hl 0 rfl) ?_
          have hPc := hP.sub (ws' := [(oc7 sh (.ref fa) (nI ft)), (oq fa cF 200 FA), (oc1 fe2 (rk g5) (wd g5) (tw g5) (pa g5) (pb g5) (.ref lo2) (.ref lk2) fm2), (oc4 lk2 (kd g5) (st g5) .null (gb g5) (it g5) we2)]) [0, 1, 2, 3] rfl
          have hDc := hD.sub (ws' := [(oc7 sh (.ref fa) (nI ft)), (oq fa cF 200 FA), (oc1 fe2 (rk g5) (wd g5) (tw g5) (pa g5) (pb g5) (.ref lo2) (.ref lk2) fm2), (oc4 lk2 (kd g5) (st g5) .null (gb g5) (it g5) we2)]) [0, 1, 2, 3] (by decide) rfl
          have hFc := va_free (wc := [(oc7 sh (.ref fa) (nI ft)), (oq fa cF 200 FA), (oc1 fe2 (rk g5) (wd g5) (tw g5) (pa g5) (pb g5) (.ref lo2) (.ref lk2) fm2), (oc4 lk2 (kd g5) (st g5) .null (gb g5) (it g5) we2)]) hD hS hA [0, 1, 2, 3] rfl
          refine zcall (st1 := [.null]) (va_runV (As := [.int (nI g5)]) (rest := []) ⟨hx, hb, hml, hown, hts⟩ (k_Sheet_rowThere_tv l dC dI cI cZ cF H.size sh fa ft FA g5 fe2 lo2 (rk g5) (wd g5) (tw g5) (pa g5) (pb g5) lk2 (kd g5) (st g5) (gb g5) (it g5) we2 fm2 (by omega) (by omega) (hFA2)) (cwV 1 hts (zz_gV mw_987 mw_613 mw_614 mw_100 mc_yX8_rowThere) rfl rfl rfl (by decide +kernel) ⟨Nat.le_of_ble_eq_true rfl, Nat.le_of_ble_eq_true rfl⟩) (zPV2 (q0 := 0) (ci := 7) hPc hDc hK hXN rfl rfl) rfl rfl hl.1 rfl (lv_room (Nat.le_of_ble_eq_true rfl)) dX8_cornersThere_14 ⟨Nat.le_of_ble_eq_true rfl, Nat.le_of_ble_eq_true rfl⟩) hS hFc hFc rfl (fun t H1 locs ht hB hk1 hS => ?_)
          obtain ⟨hP1, hD1⟩ := hB
          rw [ht] at hP1
          obtain ⟨hP, hD⟩ := va_joinQ (wr := []) (w1 := [(oc7 sh (.ref fa) (nI ft)), (oq fa cF 200 FA), (oc1 fe2 (rk g5) (wd g5) (tw g5) (pa g5) (pb g5) (.ref lo2) (.ref lk2) fm2), (oc4 lk2 (kd g5) (st g5) .null (gb g5) (it g5) we2)]) hP hD [0, 1, 2, 3] [] rfl rfl (by decide) (by decide) hk1 hFc hP1 hD1
          clear hk1 hPc hDc hFc hP1 hD1 ht
          generalize H1 = H at hP hS ⊢
          have hP : va_P (dC, dI) classes ([(oc7 sh (.ref fa) (nI ft)), (oq fa cF 200 FA), (oc1 fe2 (rk g5) (wd g5) (tw g5) (pa g5) (pb g5) (.ref lo2) (.ref lk2) fm2), (oc4 lk2 (kd g5) (st g5) .null (gb g5) (it g5) we2)] ++ va_pl T_1 f) H := hP
          have hD : va_D A ([(oc7 sh (.ref fa) (nI ft)), (oq fa cF 200 FA), (oc1 fe2 (rk g5) (wd g5) (tw g5) (pa g5) (pb g5) (.ref lo2) (.ref lk2) fm2), (oc4 lk2 (kd g5) (st g5) .null (gb g5) (it g5) we2)] ++ va_pl T_1 f) := hD
          refine lv_astore_nN (lv' := [(3, .null), (2, .int (nI g5)), (1, .int (nI (smP (lvF ft st tn) (fun g => nN (mn g)) g5))), (0, .ref sh)]) hx hb dX8_cornersThere_17 rfl hl (by decide) rfl (fun ls hl => ?_)
          refine lv_iload_n hx hb dX8_cornersThere_18 rfl (lv_at hl 2 rfl) ?_
          refine lv_aload_nN hx hb dX8_cornersThere_19 rfl (lv_at hl 0 rfl) ?_
          refine lv_ifnonnullN hx hb dX8_cornersThere_20 ?_
          refine lv_iconst (v := 0) hx hb dX8_cornersThere_23 (by decide) ?_
          refine lv_goto (tgt := 31) hx hb dX8_cornersThere_24 (by decide) ?_
          have hP := pl_back (cs := [(oc1 fe2 (rk g5) (wd g5) (tw g5) (pa g5) (pb g5) (.ref lo2) (.ref lk2) fm2), (oc4 lk2 (kd g5) (st g5) .null (gb g5) (it g5) we2)]) (L := L) (f := f) (X := [(oc7 sh (.ref fa) (nI ft)), (oq fa cF 200 FA)]) (by rw [hT_1]; exact (show va_P (dC, dI) classes (([(oc7 sh (.ref fa) (nI ft)), (oq fa cF 200 FA)] ++ [(oc1 fe2 (rk g5) (wd g5) (tw g5) (pa g5) (pb g5) (.ref lo2) (.ref lk2) fm2), (oc4 lk2 (kd g5) (st g5) .null (gb g5) (it g5) we2)]) ++ va_pl T_1 f) H from hP)) hc9_1
          have hD : va_D A ([(oc7 sh (.ref fa) (nI ft)), (oq fa cF 200 FA)] ++ va_pl L f) := vaD_ae hD0_1 rfl
          refine lv_iadd hx hb dX8_cornersThere_31 ?_
          refine zz_i (v := nI ((smP (lvF ft st tn) (fun g => nN (mn g)) g5) + 0)) (nI_add (smP (lvF ft st tn) (fun g => nN (mn g)) g5) 0) ?_
          refine lv_istore_n (lv' := [(1, .int (nI ((smP (lvF ft st tn) (fun g => nN (mn g)) g5) + 0))), (3, .null), (2, .int (nI g5)), (0, .ref sh)]) hx hb dX8_cornersThere_32 rfl hl (by decide) rfl (fun ls hl => ?_)
          refine lv_iinc (v := nI (g5 + 1)) (lv' := [(2, .int (nI (g5 + 1))), (1, .int (nI ((smP (lvF ft st tn) (fun g => nN (mn g)) g5) + 0))), (3, .null), (0, .ref sh)]) hx hb dX8_cornersThere_33 hl (k := 2) rfl (nI_add g5 1) (by decide) rfl (fun ls hl => ?_)
          refine lv_goto (tgt := 4) hx hb dX8_cornersThere_36 (by decide) ?_
          have hl9 := lv_sub hl [0, 1, 3] rfl
          have e9_1 : nI (smP (lvF ft st tn) (fun g => nN (mn g)) (g5 + 1)) = (nI ((smP (lvF ft st tn) (fun g => nN (mn g)) g5) + 0) : Int32) := by first | exact zn_eq ((smP_y (P := lvF ft st tn) hlv2).symm) | exact congrArg nI (smP_y (P := lvF ft st tn) hlv2) | exact congrArg nI (smP_n (P := lvF ft st tn) hnl2)
          have hl9 : lv_has ls 4 [(2, .int (nI (g5 + 1))), (1, .int (nI (smP (lvF ft st tn) (fun g => nN (mn g)) (g5 + 1)))), (0, .ref sh)] := by rw [e9_1]; exact hl9
          exact ih_4 (g5 + 1) H locs ls (by omega) (by omega) (by first | (have e9 := smP_y (P := lvF ft st tn) (c := fun g => nN (mn g)) hlv2; omega) | (have e9 := smP_n (P := lvF ft st tn) (c := fun g => nN (mn g)) hnl2; omega)) hP hD hS hl9
        · skip
          have hcap2 := hrr2.1
          have hcap3 := hrr2.2.1
          have hlv2 : lvF ft st tn g5 := ⟨by omega, hA2, ht2⟩
          have hc9_1 : inPl L f [(oc1 fe2 (rk g5) (wd g5) (tw g5) (pa g5) (pb g5) (.ref lo2) (.ref lk2) fm2), (oc4 lk2 (kd g5) (st g5) (.ref r2) (gb g5) (it g5) we2), (oc6 r2 (.ref rx2) (.ref ry2) (nI (nN (mn g5))) rg2), (oa rx2 cI cap2 U2), (oa ry2 cI cap2 V2)] := ⟨hfe2, hlk2, hr2, hrx2, hry2, trivial⟩
          have hD0_1 := hD
          obtain ⟨hP, hD⟩ := pl_out hP hD [(oc1 fe2 (rk g5) (wd g5) (tw g5) (pa g5) (pb g5) (.ref lo2) (.ref lk2) fm2), (oc4 lk2 (kd g5) (st g5) (.ref r2) (gb g5) (it g5) we2), (oc6 r2 (.ref rx2) (.ref ry2) (nI (nN (mn g5))) rg2), (oa rx2 cI cap2 U2), (oa ry2 cI cap2 V2)] hc9_1 (pwR hfe2.2 hlk2.2 hr2.2 hrx2.2 hry2.2 hne2)
          generalize hT_1 : outPl L [(oc1 fe2 (rk g5) (wd g5) (tw g5) (pa g5) (pb g5) (.ref lo2) (.ref lk2) fm2), (oc4 lk2 (kd g5) (st g5) (.ref r2) (gb g5) (it g5) we2), (oc6 r2 (.ref rx2) (.ref ry2) (nI (nN (mn g5))) rg2), (oa rx2 cI cap2 U2), (oa ry2 cI cap2 V2)] = T_1 at hP hD
          have hP : va_P (dC, dI) classes ([(oc7 sh (.ref fa) (nI ft)), (oq fa cF 200 FA), (oc1 fe2 (rk g5) (wd g5) (tw g5) (pa g5) (pb g5) (.ref lo2) (.ref lk2) fm2), (oc4 lk2 (kd g5) (st g5) (.ref r2) (gb g5) (it g5) we2), (oc6 r2 (.ref rx2) (.ref ry2) (nI (nN (mn g5))) rg2), (oa rx2 cI cap2 U2), (oa ry2 cI cap2 V2)] ++ va_pl T_1 f) H := hP
          have hD : va_D A ([(oc7 sh (.ref fa) (nI ft)), (oq fa cF 200 FA), (oc1 fe2 (rk g5) (wd g5) (tw g5) (pa g5) (pb g5) (.ref lo2) (.ref lk2) fm2), (oc4 lk2 (kd g5) (st g5) (.ref r2) (gb g5) (it g5) we2), (oc6 r2 (.ref rx2) (.ref ry2) (nI (nN (mn g5))) rg2), (oa rx2 cI cap2 U2), (oa ry2 cI cap2 V2)] ++ va_pl T_1 f) := hD
          refine lv_aload_n hx hb dX8_cornersThere_12 rfl (lv_at hl 2 rfl) ?_
          refine lv_iload_n hx hb dX8_cornersThere_13 rfl (lv_at hl 0 rfl) ?_
          have hPc := hP.sub (ws' := [(oc7 sh (.ref fa) (nI ft)), (oq fa cF 200 FA), (oc1 fe2 (rk g5) (wd g5) (tw g5) (pa g5) (pb g5) (.ref lo2) (.ref lk2) fm2), (oc4 lk2 (kd g5) (st g5) (.ref r2) (gb g5) (it g5) we2)]) [0, 1, 2, 3] rfl
          have hDc := hD.sub (ws' := [(oc7 sh (.ref fa) (nI ft)), (oq fa cF 200 FA), (oc1 fe2 (rk g5) (wd g5) (tw g5) (pa g5) (pb g5) (.ref lo2) (.ref lk2) fm2), (oc4 lk2 (kd g5) (st g5) (.ref r2) (gb g5) (it g5) we2)]) [0, 1, 2, 3] (by decide) rfl
          have hFc := va_free (wc := [(oc7 sh (.ref fa) (nI ft)), (oq fa cF 200 FA), (oc1 fe2 (rk g5) (wd g5) (tw g5) (pa g5) (pb g5) (.ref lo2) (.ref lk2) fm2), (oc4 lk2 (kd g5) (st g5) (.ref r2) (gb g5) (it g5) we2)]) hD hS hA [0, 1, 2, 3] rfl
          refine zcall (st1 := [.ref r2]) (va_runV (As := [.int (nI g5)]) (rest := []) ⟨hx, hb, hml, hown, hts⟩ (k_Sheet_rowThere_yv l dC dI cI cZ cF H.size sh fa ft FA g5 fe2 lo2 (rk g5) (wd g5) (tw g5) (pa g5) (pb g5) lk2 (kd g5) (st g5) (gb g5) (it g5) we2 r2 fm2 (by omega) (by omega) (hFA2) (by first | exact hA2 | omega)) (cwV 1 hts (zz_gV mw_987 mw_613 mw_614 mw_100 mc_yX8_rowThere) rfl rfl rfl (by decide +kernel) ⟨Nat.le_of_ble_eq_true rfl, Nat.le_of_ble_eq_true rfl⟩) (zPV2 (q0 := 0) (ci := 7) hPc hDc hK hXN rfl rfl) rfl rfl hl.1 rfl (lv_room (Nat.le_of_ble_eq_true rfl)) dX8_cornersThere_14 ⟨Nat.le_of_ble_eq_true rfl, Nat.le_of_ble_eq_true rfl⟩) hS hFc hFc rfl (fun t H1 locs ht hB hk1 hS => ?_)
          obtain ⟨hP1, hD1⟩ := hB
          rw [ht] at hP1
          obtain ⟨hP, hD⟩ := va_joinQ (wr := [(oc6 r2 (.ref rx2) (.ref ry2) (nI (nN (mn g5))) rg2), (oa rx2 cI cap2 U2), (oa ry2 cI cap2 V2)]) (w1 := [(oc7 sh (.ref fa) (nI ft)), (oq fa cF 200 FA), (oc1 fe2 (rk g5) (wd g5) (tw g5) (pa g5) (pb g5) (.ref lo2) (.ref lk2) fm2), (oc4 lk2 (kd g5) (st g5) (.ref r2) (gb g5) (it g5) we2)]) hP hD [0, 1, 2, 3] [4, 5, 6] rfl rfl (by decide) (by decide) hk1 hFc hP1 hD1
          clear hk1 hPc hDc hFc hP1 hD1 ht
          generalize H1 = H at hP hS ⊢
          have hP := hP.part (cx := [(oc7 sh (.ref fa) (nI ft)), (oq fa cF 200 FA), (oc1 fe2 (rk g5) (wd g5) (tw g5) (pa g5) (pb g5) (.ref lo2) (.ref lk2) fm2), (oc4 lk2 (kd g5) (st g5) (.ref r2) (gb g5) (it g5) we2), (oc6 r2 (.ref rx2) (.ref ry2) (nI (nN (mn g5))) rg2), (oa rx2 cI cap2 U2), (oa ry2 cI cap2 V2)]) [3, 4, 5, 6, 0, 1, 2] rfl
          have hD := hD.part (cx := [(oc7 sh (.ref fa) (nI ft)), (oq fa cF 200 FA), (oc1 fe2 (rk g5) (wd g5) (tw g5) (pa g5) (pb g5) (.ref lo2) (.ref lk2) fm2), (oc4 lk2 (kd g5) (st g5) (.ref r2) (gb g5) (it g5) we2), (oc6 r2 (.ref rx2) (.ref ry2) (nI (nN (mn g5))) rg2), (oa rx2 cI cap2 U2), (oa ry2 cI cap2 V2)]) [3, 4, 5, 6, 0, 1, 2] (by decide) rfl
          have hP : va_P (dC, dI) classes ([(oc7 sh (.ref fa) (nI ft)), (oq fa cF 200 FA), (oc1 fe2 (rk g5) (wd g5) (tw g5) (pa g5) (pb g5) (.ref lo2) (.ref lk2) fm2), (oc4 lk2 (kd g5) (st g5) (.ref r2) (gb g5) (it g5) we2), (oc6 r2 (.ref rx2) (.ref ry2) (nI (nN (mn g5))) rg2), (oa rx2 cI cap2 U2), (oa ry2 cI cap2 V2)] ++ va_pl T_1 f) H := hP
          have hD : va_D A ([(oc7 sh (.ref fa) (nI ft)), (oq fa cF 200 FA), (oc1 fe2 (rk g5) (wd g5) (tw g5) (pa g5) (pb g5) (.ref lo2) (.ref lk2) fm2), (oc4 lk2 (kd g5) (st g5) (.ref r2) (gb g5) (it g5) we2), (oc6 r2 (.ref rx2) (.ref ry2) (nI (nN (mn g5))) rg2), (oa rx2 cI cap2 U2), (oa ry2 cI cap2 V2)] ++ va_pl T_1 f) := hD
          refine lv_astore_n (lv' := [(3, .ref r2), (2, .int (nI g5)), (1, .int (nI (smP (lvF ft st tn) (fun g => nN (mn g)) g5))), (0, .ref sh)]) hx hb dX8_cornersThere_17 rfl hl (by decide) rfl (fun ls hl => ?_)
          refine lv_iload_n hx hb dX8_cornersThere_18 rfl (lv_at hl 2 rfl) ?_
          refine lv_aload_n hx hb dX8_cornersThere_19 rfl (lv_at hl 0 rfl) ?_
          refine lv_ifnonnull (tgt := 27) hx hb dX8_cornersThere_20 (by decide) ?_
          refine lv_aload_n hx hb dX8_cornersThere_27 rfl (lv_at hl 0 rfl) ?_
          refine va_get (D := (dC, dI)) (ci := 6) (v := .int (nI (nN (mn g5)))) (C := RX7) (T := TX7) (N := 4) hx hb hts inX7 hown hK hP 4 rfl rfl 2 (by decide) (hts _ mw_182) (fun _ h9 => h9) rfl dX8_cornersThere_28 ?_
          have hP := pl_back (cs := [(oc1 fe2 (rk g5) (wd g5) (tw g5) (pa g5) (pb g5) (.ref lo2) (.ref lk2) fm2), (oc4 lk2 (kd g5) (st g5) (.ref r2) (gb g5) (it g5) we2), (oc6 r2 (.ref rx2) (.ref ry2) (nI (nN (mn g5))) rg2), (oa rx2 cI cap2 U2), (oa ry2 cI cap2 V2)]) (L := L) (f := f) (X := [(oc7 sh (.ref fa) (nI ft)), (oq fa cF 200 FA)]) (by rw [hT_1]; exact (show va_P (dC, dI) classes (([(oc7 sh (.ref fa) (nI ft)), (oq fa cF 200 FA)] ++ [(oc1 fe2 (rk g5) (wd g5) (tw g5) (pa g5) (pb g5) (.ref lo2) (.ref lk2) fm2), (oc4 lk2 (kd g5) (st g5) (.ref r2) (gb g5) (it g5) we2), (oc6 r2 (.ref rx2) (.ref ry2) (nI (nN (mn g5))) rg2), (oa rx2 cI cap2 U2), (oa ry2 cI cap2 V2)]) ++ va_pl T_1 f) H from hP)) hc9_1
          have hD : va_D A ([(oc7 sh (.ref fa) (nI ft)), (oq fa cF 200 FA)] ++ va_pl L f) := vaD_ae hD0_1 rfl
          refine lv_iadd hx hb dX8_cornersThere_31 ?_
          refine zz_i (v := nI ((smP (lvF ft st tn) (fun g => nN (mn g)) g5) + (nN (mn g5)))) (nI_add (smP (lvF ft st tn) (fun g => nN (mn g)) g5) (nN (mn g5))) ?_
          refine lv_istore_n (lv' := [(1, .int (nI ((smP (lvF ft st tn) (fun g => nN (mn g)) g5) + (nN (mn g5))))), (3, .ref r2), (2, .int (nI g5)), (0, .ref sh)]) hx hb dX8_cornersThere_32 rfl hl (by decide) rfl (fun ls hl => ?_)
          refine lv_iinc (v := nI (g5 + 1)) (lv' := [(2, .int (nI (g5 + 1))), (1, .int (nI ((smP (lvF ft st tn) (fun g => nN (mn g)) g5) + (nN (mn g5))))), (3, .ref r2), (0, .ref sh)]) hx hb dX8_cornersThere_33 hl (k := 2) rfl (nI_add g5 1) (by decide) rfl (fun ls hl => ?_)
          refine lv_goto (tgt := 4) hx hb dX8_cornersThere_36 (by decide) ?_
          have hl9 := lv_sub hl [0, 1, 3] rfl
          have e9_1 : nI (smP (lvF ft st tn) (fun g => nN (mn g)) (g5 + 1)) = (nI ((smP (lvF ft st tn) (fun g => nN (mn g)) g5) + (nN (mn g5))) : Int32) := by first | exact zn_eq ((smP_y (P := lvF ft st tn) hlv2).symm) | exact congrArg nI (smP_y (P := lvF ft st tn) hlv2) | exact congrArg nI (smP_n (P := lvF ft st tn) hnl2)
          have hl9 : lv_has ls 4 [(2, .int (nI (g5 + 1))), (1, .int (nI (smP (lvF ft st tn) (fun g => nN (mn g)) (g5 + 1)))), (0, .ref sh)] := by rw [e9_1]; exact hl9
          exact ih_4 (g5 + 1) H locs ls (by omega) (by omega) (by first | (have e9 := smP_y (P := lvF ft st tn) (c := fun g => nN (mn g)) hlv2; omega) | (have e9 := smP_n (P := lvF ft st tn) (c := fun g => nN (mn g)) hnl2; omega)) hP hD hS hl9
        · skip
          have hcap2 := hrr2.1
          have hcap3 := hrr2.2.1
          have hnl2 : ¬ lvF ft st tn g5 := fun h => hA2 h.2.1
          have hc9_1 : inPl L f [(oc1 fe2 (rk g5) (wd g5) (tw g5) (pa g5) (pb g5) (.ref lo2) (.ref lk2) fm2), (oc4 lk2 (kd g5) (st g5) (.ref r2) (gb g5) (it g5) we2), (oc6 r2 (.ref rx2) (.ref ry2) (nI (nN (mn g5))) rg2), (oa rx2 cI cap2 U2), (oa ry2 cI cap2 V2)] := ⟨hfe2, hlk2, hr2, hrx2, hry2, trivial⟩
          have hD0_1 := hD
          obtain ⟨hP, hD⟩ := pl_out hP hD [(oc1 fe2 (rk g5) (wd g5) (tw g5) (pa g5) (pb g5) (.ref lo2) (.ref lk2) fm2), (oc4 lk2 (kd g5) (st g5) (.ref r2) (gb g5) (it g5) we2), (oc6 r2 (.ref rx2) (.ref ry2) (nI (nN (mn g5))) rg2), (oa rx2 cI cap2 U2), (oa ry2 cI cap2 V2)] hc9_1 (pwR hfe2.2 hlk2.2 hr2.2 hrx2.2 hry2.2 hne2)
          generalize hT_1 : outPl L [(oc1 fe2 (rk g5) (wd g5) (tw g5) (pa g5) (pb g5) (.ref lo2) (.ref lk2) fm2), (oc4 lk2 (kd g5) (st g5) (.ref r2) (gb g5) (it g5) we2), (oc6 r2 (.ref rx2) (.ref ry2) (nI (nN (mn g5))) rg2), (oa rx2 cI cap2 U2), (oa ry2 cI cap2 V2)] = T_1 at hP hD
          have hP : va_P (dC, dI) classes ([(oc7 sh (.ref fa) (nI ft)), (oq fa cF 200 FA), (oc1 fe2 (rk g5) (wd g5) (tw g5) (pa g5) (pb g5) (.ref lo2) (.ref lk2) fm2), (oc4 lk2 (kd g5) (st g5) (.ref r2) (gb g5) (it g5) we2), (oc6 r2 (.ref rx2) (.ref ry2) (nI (nN (mn g5))) rg2), (oa rx2 cI cap2 U2), (oa ry2 cI cap2 V2)] ++ va_pl T_1 f) H := hP
          have hD : va_D A ([(oc7 sh (.ref fa) (nI ft)), (oq fa cF 200 FA), (oc1 fe2 (rk g5) (wd g5) (tw g5) (pa g5) (pb g5) (.ref lo2) (.ref lk2) fm2), (oc4 lk2 (kd g5) (st g5) (.ref r2) (gb g5) (it g5) we2), (oc6 r2 (.ref rx2) (.ref ry2) (nI (nN (mn g5))) rg2), (oa rx2 cI cap2 U2), (oa ry2 cI cap2 V2)] ++ va_pl T_1 f) := hD
          refine lv_aload_n hx hb dX8_cornersThere_12 rfl (lv_at hl 2 rfl) ?_
          refine lv_iload_n hx hb dX8_cornersThere_13 rfl (lv_at hl 0 rfl) ?_
          have hPc := hP.sub (ws' := [(oc7 sh (.ref fa) (nI ft)), (oq fa cF 200 FA), (oc1 fe2 (rk g5) (wd g5) (tw g5) (pa g5) (pb g5) (.ref lo2) (.ref lk2) fm2), (oc4 lk2 (kd g5) (st g5) (.ref r2) (gb g5) (it g5) we2)]) [0, 1, 2, 3] rfl
          have hDc := hD.sub (ws' := [(oc7 sh (.ref fa) (nI ft)), (oq fa cF 200 FA), (oc1 fe2 (rk g5) (wd g5) (tw g5) (pa g5) (pb g5) (.ref lo2) (.ref lk2) fm2), (oc4 lk2 (kd g5) (st g5) (.ref r2) (gb g5) (it g5) we2)]) [0, 1, 2, 3] (by decide) rfl
          have hFc := va_free (wc := [(oc7 sh (.ref fa) (nI ft)), (oq fa cF 200 FA), (oc1 fe2 (rk g5) (wd g5) (tw g5) (pa g5) (pb g5) (.ref lo2) (.ref lk2) fm2), (oc4 lk2 (kd g5) (st g5) (.ref r2) (gb g5) (it g5) we2)]) hD hS hA [0, 1, 2, 3] rfl
          refine zcall (st1 := [.null]) (va_runV (As := [.int (nI g5)]) (rest := []) ⟨hx, hb, hml, hown, hts⟩ (k_Sheet_rowThere_sv l dC dI cI cZ cF H.size sh fa ft FA g5 fe2 lo2 (rk g5) (wd g5) (tw g5) (pa g5) (pb g5) lk2 (kd g5) (st g5) (gb g5) (it g5) we2 fm2 (.ref r2) (by omega) (by omega) (hFA2) (by first | exact hA2 | omega)) (cwV 1 hts (zz_gV mw_987 mw_613 mw_614 mw_100 mc_yX8_rowThere) rfl rfl rfl (by decide +kernel) ⟨Nat.le_of_ble_eq_true rfl, Nat.le_of_ble_eq_true rfl⟩) (zPV2 (q0 := 0) (ci := 7) hPc hDc hK hXN rfl rfl) rfl rfl hl.1 rfl (lv_room (Nat.le_of_ble_eq_true rfl)) dX8_cornersThere_14 ⟨Nat.le_of_ble_eq_true rfl, Nat.le_of_ble_eq_true rfl⟩) hS hFc hFc rfl (fun t H1 locs ht hB hk1 hS => ?_)
          obtain ⟨hP1, hD1⟩ := hB
          rw [ht] at hP1
          obtain ⟨hP, hD⟩ := va_joinQ (wr := [(oc6 r2 (.ref rx2) (.ref ry2) (nI (nN (mn g5))) rg2), (oa rx2 cI cap2 U2), (oa ry2 cI cap2 V2)]) (w1 := [(oc7 sh (.ref fa) (nI ft)), (oq fa cF 200 FA), (oc1 fe2 (rk g5) (wd g5) (tw g5) (pa g5) (pb g5) (.ref lo2) (.ref lk2) fm2), (oc4 lk2 (kd g5) (st g5) (.ref r2) (gb g5) (it g5) we2)]) hP hD [0, 1, 2, 3] [4, 5, 6] rfl rfl (by decide) (by decide) hk1 hFc hP1 hD1
          clear hk1 hPc hDc hFc hP1 hD1 ht
          generalize H1 = H at hP hS ⊢
          have hP := hP.part (cx := [(oc7 sh (.ref fa) (nI ft)), (oq fa cF 200 FA), (oc1 fe2 (rk g5) (wd g5) (tw g5) (pa g5) (pb g5) (.ref lo2) (.ref lk2) fm2), (oc4 lk2 (kd g5) (st g5) (.ref r2) (gb g5) (it g5) we2), (oc6 r2 (.ref rx2) (.ref ry2) (nI (nN (mn g5))) rg2), (oa rx2 cI cap2 U2), (oa ry2 cI cap2 V2)]) [3, 4, 5, 6, 0, 1, 2] rfl
          have hD := hD.part (cx := [(oc7 sh (.ref fa) (nI ft)), (oq fa cF 200 FA), (oc1 fe2 (rk g5) (wd g5) (tw g5) (pa g5) (pb g5) (.ref lo2) (.ref lk2) fm2), (oc4 lk2 (kd g5) (st g5) (.ref r2) (gb g5) (it g5) we2), (oc6 r2 (.ref rx2) (.ref ry2) (nI (nN (mn g5))) rg2), (oa rx2 cI cap2 U2), (oa ry2 cI cap2 V2)]) [3, 4, 5, 6, 0, 1, 2] (by decide) rfl
          have hP : va_P (dC, dI) classes ([(oc7 sh (.ref fa) (nI ft)), (oq fa cF 200 FA), (oc1 fe2 (rk g5) (wd g5) (tw g5) (pa g5) (pb g5) (.ref lo2) (.ref lk2) fm2), (oc4 lk2 (kd g5) (st g5) (.ref r2) (gb g5) (it g5) we2), (oc6 r2 (.ref rx2) (.ref ry2) (nI (nN (mn g5))) rg2), (oa rx2 cI cap2 U2), (oa ry2 cI cap2 V2)] ++ va_pl T_1 f) H := hP
          have hD : va_D A ([(oc7 sh (.ref fa) (nI ft)), (oq fa cF 200 FA), (oc1 fe2 (rk g5) (wd g5) (tw g5) (pa g5) (pb g5) (.ref lo2) (.ref lk2) fm2), (oc4 lk2 (kd g5) (st g5) (.ref r2) (gb g5) (it g5) we2), (oc6 r2 (.ref rx2) (.ref ry2) (nI (nN (mn g5))) rg2), (oa rx2 cI cap2 U2), (oa ry2 cI cap2 V2)] ++ va_pl T_1 f) := hD
          refine lv_astore_nN (lv' := [(3, .null), (2, .int (nI g5)), (1, .int (nI (smP (lvF ft st tn) (fun g => nN (mn g)) g5))), (0, .ref sh)]) hx hb dX8_cornersThere_17 rfl hl (by decide) rfl (fun ls hl => ?_)
          refine lv_iload_n hx hb dX8_cornersThere_18 rfl (lv_at hl 2 rfl) ?_
          refine lv_aload_nN hx hb dX8_cornersThere_19 rfl (lv_at hl 0 rfl) ?_
          refine lv_ifnonnullN hx hb dX8_cornersThere_20 ?_
          refine lv_iconst (v := 0) hx hb dX8_cornersThere_23 (by decide) ?_
          refine lv_goto (tgt := 31) hx hb dX8_cornersThere_24 (by decide) ?_
          have hP := pl_back (cs := [(oc1 fe2 (rk g5) (wd g5) (tw g5) (pa g5) (pb g5) (.ref lo2) (.ref lk2) fm2), (oc4 lk2 (kd g5) (st g5) (.ref r2) (gb g5) (it g5) we2), (oc6 r2 (.ref rx2) (.ref ry2) (nI (nN (mn g5))) rg2), (oa rx2 cI cap2 U2), (oa ry2 cI cap2 V2)]) (L := L) (f := f) (X := [(oc7 sh (.ref fa) (nI ft)), (oq fa cF 200 FA)]) (by rw [hT_1]; exact (show va_P (dC, dI) classes (([(oc7 sh (.ref fa) (nI ft)), (oq fa cF 200 FA)] ++ [(oc1 fe2 (rk g5) (wd g5) (tw g5) (pa g5) (pb g5) (.ref lo2) (.ref lk2) fm2), (oc4 lk2 (kd g5) (st g5) (.ref r2) (gb g5) (it g5) we2), (oc6 r2 (.ref rx2) (.ref ry2) (nI (nN (mn g5))) rg2), (oa rx2 cI cap2 U2), (oa ry2 cI cap2 V2)]) ++ va_pl T_1 f) H from hP)) hc9_1
          have hD : va_D A ([(oc7 sh (.ref fa) (nI ft)), (oq fa cF 200 FA)] ++ va_pl L f) := vaD_ae hD0_1 rfl
          refine lv_iadd hx hb dX8_cornersThere_31 ?_
          refine zz_i (v := nI ((smP (lvF ft st tn) (fun g => nN (mn g)) g5) + 0)) (nI_add (smP (lvF ft st tn) (fun g => nN (mn g)) g5) 0) ?_
          refine lv_istore_n (lv' := [(1, .int (nI ((smP (lvF ft st tn) (fun g => nN (mn g)) g5) + 0))), (3, .null), (2, .int (nI g5)), (0, .ref sh)]) hx hb dX8_cornersThere_32 rfl hl (by decide) rfl (fun ls hl => ?_)
          refine lv_iinc (v := nI (g5 + 1)) (lv' := [(2, .int (nI (g5 + 1))), (1, .int (nI ((smP (lvF ft st tn) (fun g => nN (mn g)) g5) + 0))), (3, .null), (0, .ref sh)]) hx hb dX8_cornersThere_33 hl (k := 2) rfl (nI_add g5 1) (by decide) rfl (fun ls hl => ?_)
          refine lv_goto (tgt := 4) hx hb dX8_cornersThere_36 (by decide) ?_
          have hl9 := lv_sub hl [0, 1, 3] rfl
          have e9_1 : nI (smP (lvF ft st tn) (fun g => nN (mn g)) (g5 + 1)) = (nI ((smP (lvF ft st tn) (fun g => nN (mn g)) g5) + 0) : Int32) := by first | exact zn_eq ((smP_y (P := lvF ft st tn) hlv2).symm) | exact congrArg nI (smP_y (P := lvF ft st tn) hlv2) | exact congrArg nI (smP_n (P := lvF ft st tn) hnl2)
          have hl9 : lv_has ls 4 [(2, .int (nI (g5 + 1))), (1, .int (nI (smP (lvF ft st tn) (fun g => nN (mn g)) (g5 + 1)))), (0, .ref sh)] := by rw [e9_1]; exact hl9
          exact ih_4 (g5 + 1) H locs ls (by omega) (by omega) (by first | (have e9 := smP_y (P := lvF ft st tn) (c := fun g => nN (mn g)) hlv2; omega) | (have e9 := smP_n (P := lvF ft st tn) (c := fun g => nN (mn g)) hnl2; omega)) hP hD hS hl9
  have e9_1 : nI (smP (lvF ft st tn) (fun g => nN (mn g)) 0) = (0 : Int32) := by rfl
  have hl9 : lv_has ls 4 [(2, .int (nI 0)), (1, .int (nI (smP (lvF ft st tn) (fun g => nN (mn g)) 0))), (0, .ref sh)] := by rw [e9_1]; exact lv_sub hl [0, 1, 2] rfl
  exact hl_4 _ 0 s.heap [] ls (Nat.lt_succ_self _) (by omega) (Nat.le_refl 0) hP hD hS hl9
set_option maxHeartbeats 4000000 in
set_option maxRecDepth 100000 in
theorem k_count_0 (l : Launch) (dC : Nat → ClassId) (dI : Nat → Nat → Nat) (cI cZ cF : ClassId) (sz : Nat) (x : Nat) (sh : Nat) (lw : Nat) (ro : Nat) (bq : Nat) (bp : Nat) (dq : Nat) (dp : Nat) (lv : Nat) (sl : Nat) (sd : Int32) (ul : Int32) (su : Int32) (ds : Int32) (fa : Nat) (ft : Nat) (FA : Nat → Option Nat) (L : List Nat) (f : Nat → va_E) (kd : Nat → Int32) (st : Nat → Int32) (tn : Nat → Int32) (mn : Nat → Int32) (cx : Nat → Int32) (cy : Nat → Int32) (rk : Nat → Int32) (wd : Nat → Int32) (tw : Nat → Int32) (pa : Nat → Int32) (pb : Nat → Int32) (gb : Nat → Int32) (it : Nat → Int32) (h200 : ft ≤ 200) (hva : ∀ q, q < ft → vwA cI L f FA rk wd tw pa pb kd st gb it tn mn cx cy q) : Met l yX10_count (.code yX10_count cX10_count 2 (some .int) :: ws0) ({ frames := 0, cells := 0, slots := 0, locals := 0 } : Room) (va_Pc [.ref x, .int 0] (zPre (dC, dI) classes (zTy cI cZ cF) ([(oc8 x (.ref sh) (.ref lw) (.ref ro) (.ref bq) (.ref bp) (.ref dq) (.ref dp) (.ref lv) (.ref sl) ds sd ul su), (oc7 sh (.ref fa) (nI ft)), (oq fa cF 200 FA)] ++ va_pl L f) sz zXN)) (zQ (some (.int (nI ft))) (fun t => va_P (dC, dI) classes ([(oc8 x (.ref sh) (.ref lw) (.ref ro) (.ref bq) (.ref bp) (.ref dq) (.ref dp) (.ref lv) (.ref sl) ds sd ul su), (oc7 sh (.ref fa) (nI ft)), (oq fa cF 200 FA)] ++ va_pl L f) t.heap ∧ va_D (va_A ([(oc8 x (.ref sh) (.ref lw) (.ref ro) (.ref bq) (.ref bp) (.ref dq) (.ref dp) (.ref lv) (.ref sl) ds sd ul su), (oc7 sh (.ref fa) (nI ft)), (oq fa cF 200 FA)] ++ va_pl L f) sz) ([(oc8 x (.ref sh) (.ref lw) (.ref ro) (.ref bq) (.ref bp) (.ref dq) (.ref dp) (.ref lv) (.ref sl) ds sd ul su), (oc7 sh (.ref fa) (nI ft)), (oq fa cF 200 FA)] ++ va_pl L f)) (va_A ([(oc8 x (.ref sh) (.ref lw) (.ref ro) (.ref bq) (.ref bp) (.ref dq) (.ref dp) (.ref lv) (.ref sl) ds sd ul su), (oc7 sh (.ref fa) (nI ft)), (oq fa cF 200 FA)] ++ va_pl L f) sz)) 0 0 (va_A ([(oc8 x (.ref sh) (.ref lw) (.ref ro) (.ref bq) (.ref bp) (.ref dq) (.ref dp) (.ref lv) (.ref sl) ds sd ul su), (oc7 sh (.ref fa) (nI ft)), (oq fa cF 200 FA)] ++ va_pl L f) sz) := by
  refine Met.ofW (cc := cX10_count) (maxL := 2) (ret := (some .int)) (by decide) rfl ?_
  intro p e s m args below meth c s₁ B hml hv
  obtain ⟨rfl, hsz, hP, hK, hD0, hXN⟩ := hv
  have hx := B.exec
  have hb := B.bytes
  have hr := B.returns
  have hts0 := atoms_spec (ws := .code yX10_count cX10_count 2 (some .int) :: ws0) B.pre
  have hts : ∀ w9 ∈ ws0, w9.before ([.ref x, .int 0] : List Value).toArray s = true := fun w9 h => hts0 w9 (List.mem_cons_of_mem _ h)
  have hown : s.vm.findClass "ScaleShop" = some m.cls := findClass_of_methodNamed B.named
  have hlocks := B.notSynchronized
  subst hsz
  have hD := hD0.self (sz := s.heap.size)
  clear hD0
  generalize hAe : va_A ([(oc8 x (.ref sh) (.ref lw) (.ref ro) (.ref bq) (.ref bp) (.ref dq) (.ref dp) (.ref lv) (.ref sl) ds sd ul su), (oc7 sh (.ref fa) (nI ft)), (oq fa cF 200 FA)] ++ va_pl L f) s.heap.size = A at hD ⊢
  have hA : ∀ q : Nat, s.heap.size ≤ q → A q := fun q h => by rw [← hAe]; exact Or.inr h
  clear hAe
  have hS : va_S A s.heap s.heap [] := va_S.rf
  have hP : va_P (dC, dI) classes ([(oc8 x (.ref sh) (.ref lw) (.ref ro) (.ref bq) (.ref bp) (.ref dq) (.ref dp) (.ref lv) (.ref sl) ds sd ul su), (oc7 sh (.ref fa) (nI ft)), (oq fa cF 200 FA)] ++ va_pl L f) s.heap := hP
  obtain ⟨Q9, hQ9⟩ : ∃ Q9 : State → Prop, Q9 = MQ below (zQ (some (.int (nI ft))) (fun t => va_P (dC, dI) classes ([(oc8 x (.ref sh) (.ref lw) (.ref ro) (.ref bq) (.ref bp) (.ref dq) (.ref dp) (.ref lv) (.ref sl) ds sd ul su), (oc7 sh (.ref fa) (nI ft)), (oq fa cF 200 FA)] ++ va_pl L f) t.heap ∧ va_D A ([(oc8 x (.ref sh) (.ref lw) (.ref ro) (.ref bq) (.ref bp) (.ref dq) (.ref dp) (.ref lv) (.ref sl) ds sd ul su), (oc7 sh (.ref fa) (nI ft)), (oq fa cF 200 FA)] ++ va_pl L f)) A) ([.ref x, .int 0] : List Value).toArray s 0 0 A := ⟨_, rfl⟩
  rw [← hQ9]
  have hl := lv_entry ([.ref x, .int 0]) (n := 2) (Nat.le_of_ble_eq_true rfl)
  rw [lg_entry_eq]
  generalize (lg_sl ([.ref x, .int 0]) ++ List.replicate (2 - (lg_sl ([.ref x, .int 0])).length) Slot.unset).toArray = ls at hl ⊢
  have hl : lv_has ls 2 [(0, .ref x), (1, .int 0)] := hl
  refine lv_iload_n hx hb dX10_count_0 rfl (lv_at hl 1 rfl) ?_
  refine lv_tableIn (tgt := 48) (off := 47) hx hb dX10_count_1 (by decide) (by decide) (by decide) (by decide) ?_
  refine lv_aload_n hx hb dX10_count_48 rfl (lv_at hl 0 rfl) ?_
  refine va_get (D := (dC, dI)) (ci := 8) (v := .ref sh) (C := RX10) (T := TX10) (N := 13) hx hb hts inX10 hown hK hP 0 rfl rfl 0 (by decide) (hts _ mw_309) (fun _ h9 => h9) rfl dX10_count_49 ?_
  refine va_get (D := (dC, dI)) (ci := 7) (v := .int (nI ft)) (C := RX8) (T := TX8) (N := 2) hx hb hts inX8 hown hK hP 1 rfl rfl 1 (by decide) (hts _ mw_140) (fun _ h9 => h9) rfl dX10_count_52 ?_
  have hP9 := hP.part (cx := [(oc8 x (.ref sh) (.ref lw) (.ref ro) (.ref bq) (.ref bp) (.ref dq) (.ref dp) (.ref lv) (.ref sl) ds sd ul su), (oc7 sh (.ref fa) (nI ft)), (oq fa cF 200 FA)]) [0, 1, 2] rfl
  have hD9 := hD.part (cx := [(oc8 x (.ref sh) (.ref lw) (.ref ro) (.ref bq) (.ref bp) (.ref dq) (.ref dp) (.ref lv) (.ref sl) ds sd ul su), (oc7 sh (.ref fa) (nI ft)), (oq fa cF 200 FA)]) [0, 1, 2] (by decide) rfl
  rw [hQ9]
  exact W.iret (v := nI ft) hx hb hr (fun t ht hW => ⟨⟨rfl, by rw [ht]; exact hP9, hD9⟩, hS.F ht⟩) hS.2.2 dX10_count_55
set_option maxHeartbeats 4000000 in
set_option maxRecDepth 100000 in
theorem k_count_1 (l : Launch) (dC : Nat → ClassId) (dI : Nat → Nat → Nat) (cI cZ cF : ClassId) (sz : Nat) (x : Nat) (sh : Nat) (lw : Nat) (ro : Nat) (bq : Nat) (bp : Nat) (dq : Nat) (dp : Nat) (lv : Nat) (sl : Nat) (sd : Int32) (ul : Int32) (su : Int32) (ds : Int32) (fa : Nat) (ft : Nat) (FA : Nat → Option Nat) (L : List Nat) (f : Nat → va_E) (kd : Nat → Int32) (st : Nat → Int32) (tn : Nat → Int32) (mn : Nat → Int32) (cx : Nat → Int32) (cy : Nat → Int32) (rk : Nat → Int32) (wd : Nat → Int32) (tw : Nat → Int32) (pa : Nat → Int32) (pb : Nat → Int32) (gb : Nat → Int32) (it : Nat → Int32) (h200 : ft ≤ 200) (hva : ∀ q, q < ft → vwA cI L f FA rk wd tw pa pb kd st gb it tn mn cx cy q) : Met l yX10_count (.code yX10_count cX10_count 2 (some .int) :: ws0) ({ frames := 2, cells := 0, slots := 0, locals := 45 } : Room) (va_Pc [.ref x, .int 1] (zPre (dC, dI) classes (zTy cI cZ cF) ([(oc8 x (.ref sh) (.ref lw) (.ref ro) (.ref bq) (.ref bp) (.ref dq) (.ref dp) (.ref lv) (.ref sl) ds sd ul su), (oc7 sh (.ref fa) (nI ft)), (oq fa cF 200 FA)] ++ va_pl L f) sz zXN)) (zQ (some (.int (nI (cntP (fun g => (st g).toInt = 1) ft)))) (fun t => va_P (dC, dI) classes ([(oc8 x (.ref sh) (.ref lw) (.ref ro) (.ref bq) (.ref bp) (.ref dq) (.ref dp) (.ref lv) (.ref sl) ds sd ul su), (oc7 sh (.ref fa) (nI ft)), (oq fa cF 200 FA)] ++ va_pl L f) t.heap ∧ va_D (va_A ([(oc8 x (.ref sh) (.ref lw) (.ref ro) (.ref bq) (.ref bp) (.ref dq) (.ref dp) (.ref lv) (.ref sl) ds sd ul su), (oc7 sh (.ref fa) (nI ft)), (oq fa cF 200 FA)] ++ va_pl L f) sz) ([(oc8 x (.ref sh) (.ref lw) (.ref ro) (.ref bq) (.ref bp) (.ref dq) (.ref dp) (.ref lv) (.ref sl) ds sd ul su), (oc7 sh (.ref fa) (nI ft)), (oq fa cF 200 FA)] ++ va_pl L f)) (va_A ([(oc8 x (.ref sh) (.ref lw) (.ref ro) (.ref bq) (.ref bp) (.ref dq) (.ref dp) (.ref lv) (.ref sl) ds sd ul su), (oc7 sh (.ref fa) (nI ft)), (oq fa cF 200 FA)] ++ va_pl L f) sz)) 0 0 (va_A ([(oc8 x (.ref sh) (.ref lw) (.ref ro) (.ref bq) (.ref bp) (.ref dq) (.ref dp) (.ref lv) (.ref sl) ds sd ul su), (oc7 sh (.ref fa) (nI ft)), (oq fa cF 200 FA)] ++ va_pl L f) sz) := by
  refine Met.ofW (cc := cX10_count) (maxL := 2) (ret := (some .int)) (by decide) rfl ?_
  intro p e s m args below meth c s₁ B hml hv
  obtain ⟨rfl, hsz, hP, hK, hD0, hXN⟩ := hv
  have hx := B.exec
  have hb := B.bytes
  have hr := B.returns
  have hts0 := atoms_spec (ws := .code yX10_count cX10_count 2 (some .int) :: ws0) B.pre
  have hts : ∀ w9 ∈ ws0, w9.before ([.ref x, .int 1] : List Value).toArray s = true := fun w9 h => hts0 w9 (List.mem_cons_of_mem _ h)
  have hown : s.vm.findClass "ScaleShop" = some m.cls := findClass_of_methodNamed B.named
  have hlocks := B.notSynchronized
  subst hsz
  have hD := hD0.self (sz := s.heap.size)
  clear hD0
  generalize hAe : va_A ([(oc8 x (.ref sh) (.ref lw) (.ref ro) (.ref bq) (.ref bp) (.ref dq) (.ref dp) (.ref lv) (.ref sl) ds sd ul su), (oc7 sh (.ref fa) (nI ft)), (oq fa cF 200 FA)] ++ va_pl L f) s.heap.size = A at hD ⊢
  have hA : ∀ q : Nat, s.heap.size ≤ q → A q := fun q h => by rw [← hAe]; exact Or.inr h
  clear hAe
  have hS : va_S A s.heap s.heap [] := va_S.rf
  have hP : va_P (dC, dI) classes ([(oc8 x (.ref sh) (.ref lw) (.ref ro) (.ref bq) (.ref bp) (.ref dq) (.ref dp) (.ref lv) (.ref sl) ds sd ul su), (oc7 sh (.ref fa) (nI ft)), (oq fa cF 200 FA)] ++ va_pl L f) s.heap := hP
  obtain ⟨Q9, hQ9⟩ : ∃ Q9 : State → Prop, Q9 = MQ below (zQ (some (.int (nI (cntP (fun g => (st g).toInt = 1) ft)))) (fun t => va_P (dC, dI) classes ([(oc8 x (.ref sh) (.ref lw) (.ref ro) (.ref bq) (.ref bp) (.ref dq) (.ref dp) (.ref lv) (.ref sl) ds sd ul su), (oc7 sh (.ref fa) (nI ft)), (oq fa cF 200 FA)] ++ va_pl L f) t.heap ∧ va_D A ([(oc8 x (.ref sh) (.ref lw) (.ref ro) (.ref bq) (.ref bp) (.ref dq) (.ref dp) (.ref lv) (.ref sl) ds sd ul su), (oc7 sh (.ref fa) (nI ft)), (oq fa cF 200 FA)] ++ va_pl L f)) A) ([.ref x, .int 1] : List Value).toArray s 0 0 A := ⟨_, rfl⟩
  rw [← hQ9]
  have hl := lv_entry ([.ref x, .int 1]) (n := 2) (Nat.le_of_ble_eq_true rfl)
  rw [lg_entry_eq]
  generalize (lg_sl ([.ref x, .int 1]) ++ List.replicate (2 - (lg_sl ([.ref x, .int 1])).length) Slot.unset).toArray = ls at hl ⊢
  have hl : lv_has ls 2 [(0, .ref x), (1, .int 1)] := hl
  refine lv_iload_n hx hb dX10_count_0 rfl (lv_at hl 1 rfl) ?_
  refine lv_tableIn (tgt := 56) (off := 55) hx hb dX10_count_1 (by decide) (by decide) (by decide) (by decide) ?_
  refine lv_aload_n hx hb dX10_count_56 rfl (lv_at hl 0 rfl) ?_
  refine va_get (D := (dC, dI)) (ci := 8) (v := .ref sh) (C := RX10) (T := TX10) (N := 13) hx hb hts inX10 hown hK hP 0 rfl rfl 0 (by decide) (hts _ mw_309) (fun _ h9 => h9) rfl dX10_count_57 ?_
  refine lv_iconst (v := 1) hx hb dX10_count_60 (by decide) ?_
  have hPc := hP.part (cx := [(oc7 sh (.ref fa) (nI ft)), (oq fa cF 200 FA)]) [1, 2] rfl
  have hDc := hD.part (cx := [(oc7 sh (.ref fa) (nI ft)), (oq fa cF 200 FA)]) [1, 2] (by decide) rfl
  have hFc := va_freeP (cx := [(oc7 sh (.ref fa) (nI ft)), (oq fa cF 200 FA)]) hD hS hA [1, 2] rfl
  refine zcall (st1 := [.int (nI (cntP (fun g => (st g).toInt = (1 : Int32).toInt) ft))]) (va_runV (As := [.int 1]) (rest := []) ⟨hx, hb, hml, hown, hts⟩ (k_Sheet_inState l dC dI cI cZ cF s.heap.size sh fa ft FA L f kd st tn mn cx cy rk wd tw pa pb gb it 1 (by omega) (by assumption)) (cwV 1 hts (zz_gV mw_1137 mw_1138 mw_1139 mw_100 mc_yX8_inState) rfl rfl rfl (by decide +kernel) ⟨Nat.le_of_ble_eq_true rfl, Nat.le_of_ble_eq_true rfl⟩) (zPV2 (q0 := 0) (ci := 7) hPc hDc hK hXN rfl rfl) rfl rfl hl.1 rfl (lv_room (Nat.le_of_ble_eq_true rfl)) dX10_count_61 ⟨Nat.le_of_ble_eq_true rfl, Nat.le_of_ble_eq_true rfl⟩) hS hFc hFc rfl (fun t H1 locs ht hB hk1 hS => ?_)
  obtain ⟨hP1, hD1⟩ := hB
  rw [ht] at hP1
  obtain ⟨hP, hD⟩ := va_joinP (wr := [(oc8 x (.ref sh) (.ref lw) (.ref ro) (.ref bq) (.ref bp) (.ref dq) (.ref dp) (.ref lv) (.ref sl) ds sd ul su)]) (rx := [(oc7 sh (.ref fa) (nI ft)), (oq fa cF 200 FA)]) hP hD [1, 2] [0] rfl rfl (by decide) (by decide) hk1 hFc hP1 hD1
  clear hk1 hPc hDc hFc hP1 hD1 ht
  generalize H1 = H at hP hS ⊢
  have hP : va_P (dC, dI) classes ([(oc8 x (.ref sh) (.ref lw) (.ref ro) (.ref bq) (.ref bp) (.ref dq) (.ref dp) (.ref lv) (.ref sl) ds sd ul su), (oc7 sh (.ref fa) (nI ft)), (oq fa cF 200 FA)] ++ va_pl L f) H := hP
  have hD : va_D A ([(oc8 x (.ref sh) (.ref lw) (.ref ro) (.ref bq) (.ref bp) (.ref dq) (.ref dp) (.ref lv) (.ref sl) ds sd ul su), (oc7 sh (.ref fa) (nI ft)), (oq fa cF 200 FA)] ++ va_pl L f) := hD
  have hP9 := hP.part (cx := [(oc8 x (.ref sh) (.ref lw) (.ref ro) (.ref bq) (.ref bp) (.ref dq) (.ref dp) (.ref lv) (.ref sl) ds sd ul su), (oc7 sh (.ref fa) (nI ft)), (oq fa cF 200 FA)]) [0, 1, 2] rfl
  have hD9 := hD.part (cx := [(oc8 x (.ref sh) (.ref lw) (.ref ro) (.ref bq) (.ref bp) (.ref dq) (.ref dp) (.ref lv) (.ref sl) ds sd ul su), (oc7 sh (.ref fa) (nI ft)), (oq fa cF 200 FA)]) [0, 1, 2] (by decide) rfl
  rw [hQ9]
  exact W.iret (v := nI (cntP (fun g => (st g).toInt = (1 : Int32).toInt) ft)) hx hb hr (fun t ht hW => ⟨⟨congrArg (fun z => Outcome.returned (some (Value.int z))) (show (nI (cntP (fun g => (st g).toInt = (1 : Int32).toInt) ft) : Int32) = nI (cntP (fun g => (st g).toInt = 1) ft) from by have e1 : (1 : Int32).toInt = 1 := (by decide); rw [e1]), by rw [ht]; exact hP9, hD9⟩, hS.F ht⟩) hS.2.2 dX10_count_64
set_option maxHeartbeats 4000000 in
set_option maxRecDepth 100000 in
theorem k_count_2 (l : Launch) (dC : Nat → ClassId) (dI : Nat → Nat → Nat) (cI cZ cF : ClassId) (sz : Nat) (x : Nat) (sh : Nat) (lw : Nat) (ro : Nat) (bq : Nat) (bp : Nat) (dq : Nat) (dp : Nat) (lv : Nat) (sl : Nat) (sd : Int32) (ul : Int32) (su : Int32) (ds : Int32) (fa : Nat) (ft : Nat) (FA : Nat → Option Nat) (L : List Nat) (f : Nat → va_E) (kd : Nat → Int32) (st : Nat → Int32) (tn : Nat → Int32) (mn : Nat → Int32) (cx : Nat → Int32) (cy : Nat → Int32) (rk : Nat → Int32) (wd : Nat → Int32) (tw : Nat → Int32) (pa : Nat → Int32) (pb : Nat → Int32) (gb : Nat → Int32) (it : Nat → Int32) (h200 : ft ≤ 200) (hva : ∀ q, q < ft → vwA cI L f FA rk wd tw pa pb kd st gb it tn mn cx cy q) : Met l yX10_count (.code yX10_count cX10_count 2 (some .int) :: ws0) ({ frames := 2, cells := 0, slots := 0, locals := 45 } : Room) (va_Pc [.ref x, .int 2] (zPre (dC, dI) classes (zTy cI cZ cF) ([(oc8 x (.ref sh) (.ref lw) (.ref ro) (.ref bq) (.ref bp) (.ref dq) (.ref dp) (.ref lv) (.ref sl) ds sd ul su), (oc7 sh (.ref fa) (nI ft)), (oq fa cF 200 FA)] ++ va_pl L f) sz zXN)) (zQ (some (.int (nI (cntP (fun g => (st g).toInt = 2) ft)))) (fun t => va_P (dC, dI) classes ([(oc8 x (.ref sh) (.ref lw) (.ref ro) (.ref bq) (.ref bp) (.ref dq) (.ref dp) (.ref lv) (.ref sl) ds sd ul su), (oc7 sh (.ref fa) (nI ft)), (oq fa cF 200 FA)] ++ va_pl L f) t.heap ∧ va_D (va_A ([(oc8 x (.ref sh) (.ref lw) (.ref ro) (.ref bq) (.ref bp) (.ref dq) (.ref dp) (.ref lv) (.ref sl) ds sd ul su), (oc7 sh (.ref fa) (nI ft)), (oq fa cF 200 FA)] ++ va_pl L f) sz) ([(oc8 x (.ref sh) (.ref lw) (.ref ro) (.ref bq) (.ref bp) (.ref dq) (.ref dp) (.ref lv) (.ref sl) ds sd ul su), (oc7 sh (.ref fa) (nI ft)), (oq fa cF 200 FA)] ++ va_pl L f)) (va_A ([(oc8 x (.ref sh) (.ref lw) (.ref ro) (.ref bq) (.ref bp) (.ref dq) (.ref dp) (.ref lv) (.ref sl) ds sd ul su), (oc7 sh (.ref fa) (nI ft)), (oq fa cF 200 FA)] ++ va_pl L f) sz)) 0 0 (va_A ([(oc8 x (.ref sh) (.ref lw) (.ref ro) (.ref bq) (.ref bp) (.ref dq) (.ref dp) (.ref lv) (.ref sl) ds sd ul su), (oc7 sh (.ref fa) (nI ft)), (oq fa cF 200 FA)] ++ va_pl L f) sz) := by
  refine Met.ofW (cc := cX10_count) (maxL := 2) (ret := (some .int)) (by decide) rfl ?_
  intro p e s m args below meth c s₁ B hml hv
  obtain ⟨rfl, hsz, hP, hK, hD0, hXN⟩ := hv
  have hx := B.exec
  have hb := B.bytes
  have hr := B.returns
  have hts0 := atoms_spec (ws := .code yX10_count cX10_count 2 (some .int) :: ws0) B.pre
  have hts : ∀ w9 ∈ ws0, w9.before ([.ref x, .int 2] : List Value).toArray s = true := fun w9 h => hts0 w9 (List.mem_cons_of_mem _ h)
  have hown : s.vm.findClass "ScaleShop" = some m.cls := findClass_of_methodNamed B.named
  have hlocks := B.notSynchronized
  subst hsz
  have hD := hD0.self (sz := s.heap.size)
  clear hD0
  generalize hAe : va_A ([(oc8 x (.ref sh) (.ref lw) (.ref ro) (.ref bq) (.ref bp) (.ref dq) (.ref dp) (.ref lv) (.ref sl) ds sd ul su), (oc7 sh (.ref fa) (nI ft)), (oq fa cF 200 FA)] ++ va_pl L f) s.heap.size = A at hD ⊢
  have hA : ∀ q : Nat, s.heap.size ≤ q → A q := fun q h => by rw [← hAe]; exact Or.inr h
  clear hAe
  have hS : va_S A s.heap s.heap [] := va_S.rf
  have hP : va_P (dC, dI) classes ([(oc8 x (.ref sh) (.ref lw) (.ref ro) (.ref bq) (.ref bp) (.ref dq) (.ref dp) (.ref lv) (.ref sl) ds sd ul su), (oc7 sh (.ref fa) (nI ft)), (oq fa cF 200 FA)] ++ va_pl L f) s.heap := hP
  obtain ⟨Q9, hQ9⟩ : ∃ Q9 : State → Prop, Q9 = MQ below (zQ (some (.int (nI (cntP (fun g => (st g).toInt = 2) ft)))) (fun t => va_P (dC, dI) classes ([(oc8 x (.ref sh) (.ref lw) (.ref ro) (.ref bq) (.ref bp) (.ref dq) (.ref dp) (.ref lv) (.ref sl) ds sd ul su), (oc7 sh (.ref fa) (nI ft)), (oq fa cF 200 FA)] ++ va_pl L f) t.heap ∧ va_D A ([(oc8 x (.ref sh) (.ref lw) (.ref ro) (.ref bq) (.ref bp) (.ref dq) (.ref dp) (.ref lv) (.ref sl) ds sd ul su), (oc7 sh (.ref fa) (nI ft)), (oq fa cF 200 FA)] ++ va_pl L f)) A) ([.ref x, .int 2] : List Value).toArray s 0 0 A := ⟨_, rfl⟩
  rw [← hQ9]
  have hl := lv_entry ([.ref x, .int 2]) (n := 2) (Nat.le_of_ble_eq_true rfl)
  rw [lg_entry_eq]
  generalize (lg_sl ([.ref x, .int 2]) ++ List.replicate (2 - (lg_sl ([.ref x, .int 2])).length) Slot.unset).toArray = ls at hl ⊢
  have hl : lv_has ls 2 [(0, .ref x), (1, .int 2)] := hl
  refine lv_iload_n hx hb dX10_count_0 rfl (lv_at hl 1 rfl) ?_
  refine lv_tableIn (tgt := 65) (off := 64) hx hb dX10_count_1 (by decide) (by decide) (by decide) (by decide) ?_
  refine lv_aload_n hx hb dX10_count_65 rfl (lv_at hl 0 rfl) ?_
  refine va_get (D := (dC, dI)) (ci := 8) (v := .ref sh) (C := RX10) (T := TX10) (N := 13) hx hb hts inX10 hown hK hP 0 rfl rfl 0 (by decide) (hts _ mw_309) (fun _ h9 => h9) rfl dX10_count_66 ?_
  refine lv_iconst (v := 2) hx hb dX10_count_69 (by decide) ?_
  have hPc := hP.part (cx := [(oc7 sh (.ref fa) (nI ft)), (oq fa cF 200 FA)]) [1, 2] rfl
  have hDc := hD.part (cx := [(oc7 sh (.ref fa) (nI ft)), (oq fa cF 200 FA)]) [1, 2] (by decide) rfl
  have hFc := va_freeP (cx := [(oc7 sh (.ref fa) (nI ft)), (oq fa cF 200 FA)]) hD hS hA [1, 2] rfl
  refine zcall (st1 := [.int (nI (cntP (fun g => (st g).toInt = (2 : Int32).toInt) ft))]) (va_runV (As := [.int 2]) (rest := []) ⟨hx, hb, hml, hown, hts⟩ (k_Sheet_inState l dC dI cI cZ cF s.heap.size sh fa ft FA L f kd st tn mn cx cy rk wd tw pa pb gb it 2 (by omega) (by assumption)) (cwV 1 hts (zz_gV mw_1137 mw_1138 mw_1139 mw_100 mc_yX8_inState) rfl rfl rfl (by decide +kernel) ⟨Nat.le_of_ble_eq_true rfl, Nat.le_of_ble_eq_true rfl⟩) (zPV2 (q0 := 0) (ci := 7) hPc hDc hK hXN rfl rfl) rfl rfl hl.1 rfl (lv_room (Nat.le_of_ble_eq_true rfl)) dX10_count_70 ⟨Nat.le_of_ble_eq_true rfl, Nat.le_of_ble_eq_true rfl⟩) hS hFc hFc rfl (fun t H1 locs ht hB hk1 hS => ?_)
  obtain ⟨hP1, hD1⟩ := hB
  rw [ht] at hP1
  obtain ⟨hP, hD⟩ := va_joinP (wr := [(oc8 x (.ref sh) (.ref lw) (.ref ro) (.ref bq) (.ref bp) (.ref dq) (.ref dp) (.ref lv) (.ref sl) ds sd ul su)]) (rx := [(oc7 sh (.ref fa) (nI ft)), (oq fa cF 200 FA)]) hP hD [1, 2] [0] rfl rfl (by decide) (by decide) hk1 hFc hP1 hD1
  clear hk1 hPc hDc hFc hP1 hD1 ht
  generalize H1 = H at hP hS ⊢
  have hP : va_P (dC, dI) classes ([(oc8 x (.ref sh) (.ref lw) (.ref ro) (.ref bq) (.ref bp) (.ref dq) (.ref dp) (.ref lv) (.ref sl) ds sd ul su), (oc7 sh (.ref fa) (nI ft)), (oq fa cF 200 FA)] ++ va_pl L f) H := hP
  have hD : va_D A ([(oc8 x (.ref sh) (.ref lw) (.ref ro) (.ref bq) (.ref bp) (.ref dq) (.ref dp) (.ref lv) (.ref sl) ds sd ul su), (oc7 sh (.ref fa) (nI ft)), (oq fa cF 200 FA)] ++ va_pl L f) := hD
  have hP9 := hP.part (cx := [(oc8 x (.ref sh) (.ref lw) (.ref ro) (.ref bq) (.ref bp) (.ref dq) (.ref dp) (.ref lv) (.ref sl) ds sd ul su), (oc7 sh (.ref fa) (nI ft)), (oq fa cF 200 FA)]) [0, 1, 2] rfl
  have hD9 := hD.part (cx := [(oc8 x (.ref sh) (.ref lw) (.ref ro) (.ref bq) (.ref bp) (.ref dq) (.ref dp) (.ref lv) (.ref sl) ds sd ul su), (oc7 sh (.ref fa) (nI ft)), (oq fa cF 200 FA)]) [0, 1, 2] (by decide) rfl
  rw [hQ9]
  exact W.iret (v := nI (cntP (fun g => (st g).toInt = (2 : Int32).toInt) ft)) hx hb hr (fun t ht hW => ⟨⟨congrArg (fun z => Outcome.returned (some (Value.int z))) (show (nI (cntP (fun g => (st g).toInt = (2 : Int32).toInt) ft) : Int32) = nI (cntP (fun g => (st g).toInt = 2) ft) from by have e1 : (2 : Int32).toInt = 2 := (by decide); rw [e1]), by rw [ht]; exact hP9, hD9⟩, hS.F ht⟩) hS.2.2 dX10_count_73
set_option maxHeartbeats 4000000 in
set_option maxRecDepth 100000 in
theorem k_count_3 (l : Launch) (dC : Nat → ClassId) (dI : Nat → Nat → Nat) (cI cZ cF : ClassId) (sz : Nat) (x : Nat) (sh : Nat) (lw : Nat) (ro : Nat) (bq : Nat) (bp : Nat) (dq : Nat) (dp : Nat) (lv : Nat) (sl : Nat) (sd : Int32) (ul : Int32) (su : Int32) (ds : Int32) (fa : Nat) (ft : Nat) (FA : Nat → Option Nat) (L : List Nat) (f : Nat → va_E) (kd : Nat → Int32) (st : Nat → Int32) (tn : Nat → Int32) (mn : Nat → Int32) (cx : Nat → Int32) (cy : Nat → Int32) (rk : Nat → Int32) (wd : Nat → Int32) (tw : Nat → Int32) (pa : Nat → Int32) (pb : Nat → Int32) (gb : Nat → Int32) (it : Nat → Int32) (h200 : ft ≤ 200) (hva : ∀ q, q < ft → vwA cI L f FA rk wd tw pa pb kd st gb it tn mn cx cy q) : Met l yX10_count (.code yX10_count cX10_count 2 (some .int) :: ws0) ({ frames := 2, cells := 0, slots := 0, locals := 44 } : Room) (va_Pc [.ref x, .int 3] (zPre (dC, dI) classes (zTy cI cZ cF) ([(oc8 x (.ref sh) (.ref lw) (.ref ro) (.ref bq) (.ref bp) (.ref dq) (.ref dp) (.ref lv) (.ref sl) ds sd ul su), (oc7 sh (.ref fa) (nI ft)), (oq fa cF 200 FA)] ++ va_pl L f) sz zXN)) (zQ (some (.int (nI (cntP (fun g => ¬ (tn g).toInt = 0) ft)))) (fun t => va_P (dC, dI) classes ([(oc8 x (.ref sh) (.ref lw) (.ref ro) (.ref bq) (.ref bp) (.ref dq) (.ref dp) (.ref lv) (.ref sl) ds sd ul su), (oc7 sh (.ref fa) (nI ft)), (oq fa cF 200 FA)] ++ va_pl L f) t.heap ∧ va_D (va_A ([(oc8 x (.ref sh) (.ref lw) (.ref ro) (.ref bq) (.ref bp) (.ref dq) (.ref dp) (.ref lv) (.ref sl) ds sd ul su), (oc7 sh (.ref fa) (nI ft)), (oq fa cF 200 FA)] ++ va_pl L f) sz) ([(oc8 x (.ref sh) (.ref lw) (.ref ro) (.ref bq) (.ref bp) (.ref dq) (.ref dp) (.ref lv) (.ref sl) ds sd ul su), (oc7 sh (.ref fa) (nI ft)), (oq fa cF 200 FA)] ++ va_pl L f)) (va_A ([(oc8 x (.ref sh) (.ref lw) (.ref ro) (.ref bq) (.ref bp) (.ref dq) (.ref dp) (.ref lv) (.ref sl) ds sd ul su), (oc7 sh (.ref fa) (nI ft)), (oq fa cF 200 FA)] ++ va_pl L f) sz)) 0 0 (va_A ([(oc8 x (.ref sh) (.ref lw) (.ref ro) (.ref bq) (.ref bp) (.ref dq) (.ref dp) (.ref lv) (.ref sl) ds sd ul su), (oc7 sh (.ref fa) (nI ft)), (oq fa cF 200 FA)] ++ va_pl L f) sz) := by
  refine Met.ofW (cc := cX10_count) (maxL := 2) (ret := (some .int)) (by decide) rfl ?_
  intro p e s m args below meth c s₁ B hml hv
  obtain ⟨rfl, hsz, hP, hK, hD0, hXN⟩ := hv
  have hx := B.exec
  have hb := B.bytes
  have hr := B.returns
  have hts0 := atoms_spec (ws := .code yX10_count cX10_count 2 (some .int) :: ws0) B.pre
  have hts : ∀ w9 ∈ ws0, w9.before ([.ref x, .int 3] : List Value).toArray s = true := fun w9 h => hts0 w9 (List.mem_cons_of_mem _ h)
  have hown : s.vm.findClass "ScaleShop" = some m.cls := findClass_of_methodNamed B.named
  have hlocks := B.notSynchronized
  subst hsz
  have hD := hD0.self (sz := s.heap.size)
  clear hD0
  generalize hAe : va_A ([(oc8 x (.ref sh) (.ref lw) (.ref ro) (.ref bq) (.ref bp) (.ref dq) (.ref dp) (.ref lv) (.ref sl) ds sd ul su), (oc7 sh (.ref fa) (nI ft)), (oq fa cF 200 FA)] ++ va_pl L f) s.heap.size = A at hD ⊢
  have hA : ∀ q : Nat, s.heap.size ≤ q → A q := fun q h => by rw [← hAe]; exact Or.inr h
  clear hAe
  have hS : va_S A s.heap s.heap [] := va_S.rf
  have hP : va_P (dC, dI) classes ([(oc8 x (.ref sh) (.ref lw) (.ref ro) (.ref bq) (.ref bp) (.ref dq) (.ref dp) (.ref lv) (.ref sl) ds sd ul su), (oc7 sh (.ref fa) (nI ft)), (oq fa cF 200 FA)] ++ va_pl L f) s.heap := hP
  obtain ⟨Q9, hQ9⟩ : ∃ Q9 : State → Prop, Q9 = MQ below (zQ (some (.int (nI (cntP (fun g => ¬ (tn g).toInt = 0) ft)))) (fun t => va_P (dC, dI) classes ([(oc8 x (.ref sh) (.ref lw) (.ref ro) (.ref bq) (.ref bp) (.ref dq) (.ref dp) (.ref lv) (.ref sl) ds sd ul su), (oc7 sh (.ref fa) (nI ft)), (oq fa cF 200 FA)] ++ va_pl L f) t.heap ∧ va_D A ([(oc8 x (.ref sh) (.ref lw) (.ref ro) (.ref bq) (.ref bp) (.ref dq) (.ref dp) (.ref lv) (.ref sl) ds sd ul su), (oc7 sh (.ref fa) (nI ft)), (oq fa cF 200 FA)] ++ va_pl L f)) A) ([.ref x, .int 3] : List Value).toArray s 0 0 A := ⟨_, rfl⟩
  rw [← hQ9]
  have hl := lv_entry ([.ref x, .int 3]) (n := 2) (Nat.le_of_ble_eq_true rfl)
  rw [lg_entry_eq]
  generalize (lg_sl ([.ref x, .int 3]) ++ List.replicate (2 - (lg_sl ([.ref x, .int 3])).length) Slot.unset).toArray = ls at hl ⊢
  have hl : lv_has ls 2 [(0, .ref x), (1, .int 3)] := hl
  refine lv_iload_n hx hb dX10_count_0 rfl (lv_at hl 1 rfl) ?_
  refine lv_tableIn (tgt := 74) (off := 73) hx hb dX10_count_1 (by decide) (by decide) (by decide) (by decide) ?_
  refine lv_aload_n hx hb dX10_count_74 rfl (lv_at hl 0 rfl) ?_
  refine va_get (D := (dC, dI)) (ci := 8) (v := .ref sh) (C := RX10) (T := TX10) (N := 13) hx hb hts inX10 hown hK hP 0 rfl rfl 0 (by decide) (hts _ mw_309) (fun _ h9 => h9) rfl dX10_count_75 ?_
  have hPc := hP.part (cx := [(oc7 sh (.ref fa) (nI ft)), (oq fa cF 200 FA)]) [1, 2] rfl
  have hDc := hD.part (cx := [(oc7 sh (.ref fa) (nI ft)), (oq fa cF 200 FA)]) [1, 2] (by decide) rfl
  have hFc := va_freeP (cx := [(oc7 sh (.ref fa) (nI ft)), (oq fa cF 200 FA)]) hD hS hA [1, 2] rfl
  refine zcall (st1 := [.int (nI (cntP (fun g => ¬ (tn g).toInt = 0) ft))]) (va_runV (As := []) (rest := []) ⟨hx, hb, hml, hown, hts⟩ (k_Sheet_torn l dC dI cI cZ cF s.heap.size sh fa ft FA L f kd st tn mn cx cy rk wd tw pa pb gb it (by omega) (by assumption)) (cwV 0 hts (zz_gV mw_1141 mw_1142 mw_1143 mw_100 mc_yX8_torn) rfl rfl rfl (by decide +kernel) ⟨Nat.le_of_ble_eq_true rfl, Nat.le_of_ble_eq_true rfl⟩) (zPV2 (q0 := 0) (ci := 7) hPc hDc hK hXN rfl rfl) rfl rfl hl.1 rfl (lv_room (Nat.le_of_ble_eq_true rfl)) dX10_count_78 ⟨Nat.le_of_ble_eq_true rfl, Nat.le_of_ble_eq_true rfl⟩) hS hFc hFc rfl (fun t H1 locs ht hB hk1 hS => ?_)
  obtain ⟨hP1, hD1⟩ := hB
  rw [ht] at hP1
  obtain ⟨hP, hD⟩ := va_joinP (wr := [(oc8 x (.ref sh) (.ref lw) (.ref ro) (.ref bq) (.ref bp) (.ref dq) (.ref dp) (.ref lv) (.ref sl) ds sd ul su)]) (rx := [(oc7 sh (.ref fa) (nI ft)), (oq fa cF 200 FA)]) hP hD [1, 2] [0] rfl rfl (by decide) (by decide) hk1 hFc hP1 hD1
  clear hk1 hPc hDc hFc hP1 hD1 ht
  generalize H1 = H at hP hS ⊢
  have hP : va_P (dC, dI) classes ([(oc8 x (.ref sh) (.ref lw) (.ref ro) (.ref bq) (.ref bp) (.ref dq) (.ref dp) (.ref lv) (.ref sl) ds sd ul su), (oc7 sh (.ref fa) (nI ft)), (oq fa cF 200 FA)] ++ va_pl L f) H := hP
  have hD : va_D A ([(oc8 x (.ref sh) (.ref lw) (.ref ro) (.ref bq) (.ref bp) (.ref dq) (.ref dp) (.ref lv) (.ref sl) ds sd ul su), (oc7 sh (.ref fa) (nI ft)), (oq fa cF 200 FA)] ++ va_pl L f) := hD
  have hP9 := hP.part (cx := [(oc8 x (.ref sh) (.ref lw) (.ref ro) (.ref bq) (.ref bp) (.ref dq) (.ref dp) (.ref lv) (.ref sl) ds sd ul su), (oc7 sh (.ref fa) (nI ft)), (oq fa cF 200 FA)]) [0, 1, 2] rfl
  have hD9 := hD.part (cx := [(oc8 x (.ref sh) (.ref lw) (.ref ro) (.ref bq) (.ref bp) (.ref dq) (.ref dp) (.ref lv) (.ref sl) ds sd ul su), (oc7 sh (.ref fa) (nI ft)), (oq fa cF 200 FA)]) [0, 1, 2] (by decide) rfl
  rw [hQ9]
  exact W.iret (v := nI (cntP (fun g => ¬ (tn g).toInt = 0) ft)) hx hb hr (fun t ht hW => ⟨⟨rfl, by rw [ht]; exact hP9, hD9⟩, hS.F ht⟩) hS.2.2 dX10_count_81
set_option maxHeartbeats 4000000 in
set_option maxRecDepth 100000 in
theorem k_count_4 (l : Launch) (dC : Nat → ClassId) (dI : Nat → Nat → Nat) (cI cZ cF : ClassId) (sz : Nat) (x : Nat) (sh : Nat) (lw : Nat) (ro : Nat) (bq : Nat) (bp : Nat) (dq : Nat) (dp : Nat) (lv : Nat) (sl : Nat) (sd : Int32) (ul : Int32) (su : Int32) (ds : Int32) (fa : Nat) (ft : Nat) (FA : Nat → Option Nat) (L : List Nat) (f : Nat → va_E) (kd : Nat → Int32) (st : Nat → Int32) (tn : Nat → Int32) (mn : Nat → Int32) (cx : Nat → Int32) (cy : Nat → Int32) (rk : Nat → Int32) (wd : Nat → Int32) (tw : Nat → Int32) (pa : Nat → Int32) (pb : Nat → Int32) (gb : Nat → Int32) (it : Nat → Int32) (h200 : ft ≤ 200) (hva : ∀ q, q < ft → vwA cI L f FA rk wd tw pa pb kd st gb it tn mn cx cy q) : Met l yX10_count (.code yX10_count cX10_count 2 (some .int) :: ws0) ({ frames := 3, cells := 0, slots := 0, locals := 66 } : Room) (va_Pc [.ref x, .int 4] (zPre (dC, dI) classes (zTy cI cZ cF) ([(oc8 x (.ref sh) (.ref lw) (.ref ro) (.ref bq) (.ref bp) (.ref dq) (.ref dp) (.ref lv) (.ref sl) ds sd ul su), (oc7 sh (.ref fa) (nI ft)), (oq fa cF 200 FA)] ++ va_pl L f) sz zXN)) (zQ (some (.int (nI (smP (lvF ft st tn) (fun g => nN (mn g)) ft)))) (fun t => va_P (dC, dI) classes ([(oc8 x (.ref sh) (.ref lw) (.ref ro) (.ref bq) (.ref bp) (.ref dq) (.ref dp) (.ref lv) (.ref sl) ds sd ul su), (oc7 sh (.ref fa) (nI ft)), (oq fa cF 200 FA)] ++ va_pl L f) t.heap ∧ va_D (va_A ([(oc8 x (.ref sh) (.ref lw) (.ref ro) (.ref bq) (.ref bp) (.ref dq) (.ref dp) (.ref lv) (.ref sl) ds sd ul su), (oc7 sh (.ref fa) (nI ft)), (oq fa cF 200 FA)] ++ va_pl L f) sz) ([(oc8 x (.ref sh) (.ref lw) (.ref ro) (.ref bq) (.ref bp) (.ref dq) (.ref dp) (.ref lv) (.ref sl) ds sd ul su), (oc7 sh (.ref fa) (nI ft)), (oq fa cF 200 FA)] ++ va_pl L f)) (va_A ([(oc8 x (.ref sh) (.ref lw) (.ref ro) (.ref bq) (.ref bp) (.ref dq) (.ref dp) (.ref lv) (.ref sl) ds sd ul su), (oc7 sh (.ref fa) (nI ft)), (oq fa cF 200 FA)] ++ va_pl L f) sz)) 0 0 (va_A ([(oc8 x (.ref sh) (.ref lw) (.ref ro) (.ref bq) (.ref bp) (.ref dq) (.ref dp) (.ref lv) (.ref sl) ds sd ul su), (oc7 sh (.ref fa) (nI ft)), (oq fa cF 200 FA)] ++ va_pl L f) sz) := by
  refine Met.ofW (cc := cX10_count) (maxL := 2) (ret := (some .int)) (by decide) rfl ?_
  intro p e s m args below meth c s₁ B hml hv
  obtain ⟨rfl, hsz, hP, hK, hD0, hXN⟩ := hv
  have hx := B.exec
  have hb := B.bytes
  have hr := B.returns
  have hts0 := atoms_spec (ws := .code yX10_count cX10_count 2 (some .int) :: ws0) B.pre
  have hts : ∀ w9 ∈ ws0, w9.before ([.ref x, .int 4] : List Value).toArray s = true := fun w9 h => hts0 w9 (List.mem_cons_of_mem _ h)
  have hown : s.vm.findClass "ScaleShop" = some m.cls := findClass_of_methodNamed B.named
  have hlocks := B.notSynchronized
  subst hsz
  have hD := hD0.self (sz := s.heap.size)
  clear hD0
  generalize hAe : va_A ([(oc8 x (.ref sh) (.ref lw) (.ref ro) (.ref bq) (.ref bp) (.ref dq) (.ref dp) (.ref lv) (.ref sl) ds sd ul su), (oc7 sh (.ref fa) (nI ft)), (oq fa cF 200 FA)] ++ va_pl L f) s.heap.size = A at hD ⊢
  have hA : ∀ q : Nat, s.heap.size ≤ q → A q := fun q h => by rw [← hAe]; exact Or.inr h
  clear hAe
  have hS : va_S A s.heap s.heap [] := va_S.rf
  have hP : va_P (dC, dI) classes ([(oc8 x (.ref sh) (.ref lw) (.ref ro) (.ref bq) (.ref bp) (.ref dq) (.ref dp) (.ref lv) (.ref sl) ds sd ul su), (oc7 sh (.ref fa) (nI ft)), (oq fa cF 200 FA)] ++ va_pl L f) s.heap := hP
  obtain ⟨Q9, hQ9⟩ : ∃ Q9 : State → Prop, Q9 = MQ below (zQ (some (.int (nI (smP (lvF ft st tn) (fun g => nN (mn g)) ft)))) (fun t => va_P (dC, dI) classes ([(oc8 x (.ref sh) (.ref lw) (.ref ro) (.ref bq) (.ref bp) (.ref dq) (.ref dp) (.ref lv) (.ref sl) ds sd ul su), (oc7 sh (.ref fa) (nI ft)), (oq fa cF 200 FA)] ++ va_pl L f) t.heap ∧ va_D A ([(oc8 x (.ref sh) (.ref lw) (.ref ro) (.ref bq) (.ref bp) (.ref dq) (.ref dp) (.ref lv) (.ref sl) ds sd ul su), (oc7 sh (.ref fa) (nI ft)), (oq fa cF 200 FA)] ++ va_pl L f)) A) ([.ref x, .int 4] : List Value).toArray s 0 0 A := ⟨_, rfl⟩
  rw [← hQ9]
  have hl := lv_entry ([.ref x, .int 4]) (n := 2) (Nat.le_of_ble_eq_true rfl)
  rw [lg_entry_eq]
  generalize (lg_sl ([.ref x, .int 4]) ++ List.replicate (2 - (lg_sl ([.ref x, .int 4])).length) Slot.unset).toArray = ls at hl ⊢
  have hl : lv_has ls 2 [(0, .ref x), (1, .int 4)] := hl
  refine lv_iload_n hx hb dX10_count_0 rfl (lv_at hl 1 rfl) ?_
  refine lv_tableIn (tgt := 82) (off := 81) hx hb dX10_count_1 (by decide) (by decide) (by decide) (by decide) ?_
  refine lv_aload_n hx hb dX10_count_82 rfl (lv_at hl 0 rfl) ?_
  refine va_get (D := (dC, dI)) (ci := 8) (v := .ref sh) (C := RX10) (T := TX10) (N := 13) hx hb hts inX10 hown hK hP 0 rfl rfl 0 (by decide) (hts _ mw_309) (fun _ h9 => h9) rfl dX10_count_83 ?_
  have hPc := hP.part (cx := [(oc7 sh (.ref fa) (nI ft)), (oq fa cF 200 FA)]) [1, 2] rfl
  have hDc := hD.part (cx := [(oc7 sh (.ref fa) (nI ft)), (oq fa cF 200 FA)]) [1, 2] (by decide) rfl
  have hFc := va_freeP (cx := [(oc7 sh (.ref fa) (nI ft)), (oq fa cF 200 FA)]) hD hS hA [1, 2] rfl
  refine zcall (st1 := [.int (nI (smP (lvF ft st tn) (fun g => nN (mn g)) ft))]) (va_runV (As := []) (rest := []) ⟨hx, hb, hml, hown, hts⟩ (k_Sheet_cornersThere l dC dI cI cZ cF s.heap.size sh fa ft FA L f kd st tn mn cx cy rk wd tw pa pb gb it (by omega) (by assumption)) (cwV 0 hts (zz_gV mw_1145 mw_1146 mw_1147 mw_100 mc_yX8_cornersThere) rfl rfl rfl (by decide +kernel) ⟨Nat.le_of_ble_eq_true rfl, Nat.le_of_ble_eq_true rfl⟩) (zPV2 (q0 := 0) (ci := 7) hPc hDc hK hXN rfl rfl) rfl rfl hl.1 rfl (lv_room (Nat.le_of_ble_eq_true rfl)) dX10_count_86 ⟨Nat.le_of_ble_eq_true rfl, Nat.le_of_ble_eq_true rfl⟩) hS hFc hFc rfl (fun t H1 locs ht hB hk1 hS => ?_)
  obtain ⟨hP1, hD1⟩ := hB
  rw [ht] at hP1
  obtain ⟨hP, hD⟩ := va_joinP (wr := [(oc8 x (.ref sh) (.ref lw) (.ref ro) (.ref bq) (.ref bp) (.ref dq) (.ref dp) (.ref lv) (.ref sl) ds sd ul su)]) (rx := [(oc7 sh (.ref fa) (nI ft)), (oq fa cF 200 FA)]) hP hD [1, 2] [0] rfl rfl (by decide) (by decide) hk1 hFc hP1 hD1
  clear hk1 hPc hDc hFc hP1 hD1 ht
  generalize H1 = H at hP hS ⊢
  have hP : va_P (dC, dI) classes ([(oc8 x (.ref sh) (.ref lw) (.ref ro) (.ref bq) (.ref bp) (.ref dq) (.ref dp) (.ref lv) (.ref sl) ds sd ul su), (oc7 sh (.ref fa) (nI ft)), (oq fa cF 200 FA)] ++ va_pl L f) H := hP
  have hD : va_D A ([(oc8 x (.ref sh) (.ref lw) (.ref ro) (.ref bq) (.ref bp) (.ref dq) (.ref dp) (.ref lv) (.ref sl) ds sd ul su), (oc7 sh (.ref fa) (nI ft)), (oq fa cF 200 FA)] ++ va_pl L f) := hD
  have hP9 := hP.part (cx := [(oc8 x (.ref sh) (.ref lw) (.ref ro) (.ref bq) (.ref bp) (.ref dq) (.ref dp) (.ref lv) (.ref sl) ds sd ul su), (oc7 sh (.ref fa) (nI ft)), (oq fa cF 200 FA)]) [0, 1, 2] rfl
  have hD9 := hD.part (cx := [(oc8 x (.ref sh) (.ref lw) (.ref ro) (.ref bq) (.ref bp) (.ref dq) (.ref dp) (.ref lv) (.ref sl) ds sd ul su), (oc7 sh (.ref fa) (nI ft)), (oq fa cF 200 FA)]) [0, 1, 2] (by decide) rfl
  rw [hQ9]
  exact W.iret (v := nI (smP (lvF ft st tn) (fun g => nN (mn g)) ft)) hx hb hr (fun t ht hW => ⟨⟨rfl, by rw [ht]; exact hP9, hD9⟩, hS.F ht⟩) hS.2.2 dX10_count_89
set_option maxHeartbeats 4000000 in
set_option maxRecDepth 100000 in
theorem k_count_5 (l : Launch) (dC : Nat → ClassId) (dI : Nat → Nat → Nat) (cI cZ cF : ClassId) (sz : Nat) (x : Nat) (sh : Nat) (lw : Nat) (ro : Nat) (bq : Nat) (bp : Nat) (dq : Nat) (dp : Nat) (lv : Nat) (sl : Nat) (sd : Int32) (ul : Int32) (su : Int32) (ds : Int32) (fa : Nat) (ft : Nat) (FA : Nat → Option Nat) (L : List Nat) (f : Nat → va_E) (kd : Nat → Int32) (st : Nat → Int32) (tn : Nat → Int32) (mn : Nat → Int32) (cx : Nat → Int32) (cy : Nat → Int32) (rk : Nat → Int32) (wd : Nat → Int32) (tw : Nat → Int32) (pa : Nat → Int32) (pb : Nat → Int32) (gb : Nat → Int32) (it : Nat → Int32) (h200 : ft ≤ 200) (hva : ∀ q, q < ft → vwA cI L f FA rk wd tw pa pb kd st gb it tn mn cx cy q) : Met l yX10_count (.code yX10_count cX10_count 2 (some .int) :: ws0) ({ frames := 0, cells := 0, slots := 0, locals := 0 } : Room) (va_Pc [.ref x, .int 5] (zPre (dC, dI) classes (zTy cI cZ cF) ([(oc8 x (.ref sh) (.ref lw) (.ref ro) (.ref bq) (.ref bp) (.ref dq) (.ref dp) (.ref lv) (.ref sl) ds sd ul su), (oc7 sh (.ref fa) (nI ft)), (oq fa cF 200 FA)] ++ va_pl L f) sz zXN)) (zQ (some (.int ds)) (fun t => va_P (dC, dI) classes ([(oc8 x (.ref sh) (.ref lw) (.ref ro) (.ref bq) (.ref bp) (.ref dq) (.ref dp) (.ref lv) (.ref sl) ds sd ul su), (oc7 sh (.ref fa) (nI ft)), (oq fa cF 200 FA)] ++ va_pl L f) t.heap ∧ va_D (va_A ([(oc8 x (.ref sh) (.ref lw) (.ref ro) (.ref bq) (.ref bp) (.ref dq) (.ref dp) (.ref lv) (.ref sl) ds sd ul su), (oc7 sh (.ref fa) (nI ft)), (oq fa cF 200 FA)] ++ va_pl L f) sz) ([(oc8 x (.ref sh) (.ref lw) (.ref ro) (.ref bq) (.ref bp) (.ref dq) (.ref dp) (.ref lv) (.ref sl) ds sd ul su), (oc7 sh (.ref fa) (nI ft)), (oq fa cF 200 FA)] ++ va_pl L f)) (va_A ([(oc8 x (.ref sh) (.ref lw) (.ref ro) (.ref bq) (.ref bp) (.ref dq) (.ref dp) (.ref lv) (.ref sl) ds sd ul su), (oc7 sh (.ref fa) (nI ft)), (oq fa cF 200 FA)] ++ va_pl L f) sz)) 0 0 (va_A ([(oc8 x (.ref sh) (.ref lw) (.ref ro) (.ref bq) (.ref bp) (.ref dq) (.ref dp) (.ref lv) (.ref sl) ds sd ul su), (oc7 sh (.ref fa) (nI ft)), (oq fa cF 200 FA)] ++ va_pl L f) sz) := by
  refine Met.ofW (cc := cX10_count) (maxL := 2) (ret := (some .int)) (by decide) rfl ?_
  intro p e s m args below meth c s₁ B hml hv
  obtain ⟨rfl, hsz, hP, hK, hD0, hXN⟩ := hv
  have hx := B.exec
  have hb := B.bytes
  have hr := B.returns
  have hts0 := atoms_spec (ws := .code yX10_count cX10_count 2 (some .int) :: ws0) B.pre
  have hts : ∀ w9 ∈ ws0, w9.before ([.ref x, .int 5] : List Value).toArray s = true := fun w9 h => hts0 w9 (List.mem_cons_of_mem _ h)
  have hown : s.vm.findClass "ScaleShop" = some m.cls := findClass_of_methodNamed B.named
  have hlocks := B.notSynchronized
  subst hsz
  have hD := hD0.self (sz := s.heap.size)
  clear hD0
  generalize hAe : va_A ([(oc8 x (.ref sh) (.ref lw) (.ref ro) (.ref bq) (.ref bp) (.ref dq) (.ref dp) (.ref lv) (.ref sl) ds sd ul su), (oc7 sh (.ref fa) (nI ft)), (oq fa cF 200 FA)] ++ va_pl L f) s.heap.size = A at hD ⊢
  have hA : ∀ q : Nat, s.heap.size ≤ q → A q := fun q h => by rw [← hAe]; exact Or.inr h
  clear hAe
  have hS : va_S A s.heap s.heap [] := va_S.rf
  have hP : va_P (dC, dI) classes ([(oc8 x (.ref sh) (.ref lw) (.ref ro) (.ref bq) (.ref bp) (.ref dq) (.ref dp) (.ref lv) (.ref sl) ds sd ul su), (oc7 sh (.ref fa) (nI ft)), (oq fa cF 200 FA)] ++ va_pl L f) s.heap := hP
  obtain ⟨Q9, hQ9⟩ : ∃ Q9 : State → Prop, Q9 = MQ below (zQ (some (.int ds)) (fun t => va_P (dC, dI) classes ([(oc8 x (.ref sh) (.ref lw) (.ref ro) (.ref bq) (.ref bp) (.ref dq) (.ref dp) (.ref lv) (.ref sl) ds sd ul su), (oc7 sh (.ref fa) (nI ft)), (oq fa cF 200 FA)] ++ va_pl L f) t.heap ∧ va_D A ([(oc8 x (.ref sh) (.ref lw) (.ref ro) (.ref bq) (.ref bp) (.ref dq) (.ref dp) (.ref lv) (.ref sl) ds sd ul su), (oc7 sh (.ref fa) (nI ft)), (oq fa cF 200 FA)] ++ va_pl L f)) A) ([.ref x, .int 5] : List Value).toArray s 0 0 A := ⟨_, rfl⟩
  rw [← hQ9]
  have hl := lv_entry ([.ref x, .int 5]) (n := 2) (Nat.le_of_ble_eq_true rfl)
  rw [lg_entry_eq]
  generalize (lg_sl ([.ref x, .int 5]) ++ List.replicate (2 - (lg_sl ([.ref x, .int 5])).length) Slot.unset).toArray = ls at hl ⊢
  have hl : lv_has ls 2 [(0, .ref x), (1, .int 5)] := hl
  refine lv_iload_n hx hb dX10_count_0 rfl (lv_at hl 1 rfl) ?_
  refine lv_tableIn (tgt := 90) (off := 89) hx hb dX10_count_1 (by decide) (by decide) (by decide) (by decide) ?_
  refine lv_aload_n hx hb dX10_count_90 rfl (lv_at hl 0 rfl) ?_
  refine va_get (D := (dC, dI)) (ci := 8) (v := .int ds) (C := RX10) (T := TX10) (N := 13) hx hb hts inX10 hown hK hP 0 rfl rfl 9 (by decide) (hts _ mw_318) (fun _ h9 => h9) rfl dX10_count_91 ?_
  have hP9 := hP.part (cx := [(oc8 x (.ref sh) (.ref lw) (.ref ro) (.ref bq) (.ref bp) (.ref dq) (.ref dp) (.ref lv) (.ref sl) ds sd ul su), (oc7 sh (.ref fa) (nI ft)), (oq fa cF 200 FA)]) [0, 1, 2] rfl
  have hD9 := hD.part (cx := [(oc8 x (.ref sh) (.ref lw) (.ref ro) (.ref bq) (.ref bp) (.ref dq) (.ref dp) (.ref lv) (.ref sl) ds sd ul su), (oc7 sh (.ref fa) (nI ft)), (oq fa cF 200 FA)]) [0, 1, 2] (by decide) rfl
  rw [hQ9]
  exact W.iret (v := ds) hx hb hr (fun t ht hW => ⟨⟨rfl, by rw [ht]; exact hP9, hD9⟩, hS.F ht⟩) hS.2.2 dX10_count_94
set_option maxHeartbeats 4000000 in
set_option maxRecDepth 100000 in
theorem k_count_7 (l : Launch) (dC : Nat → ClassId) (dI : Nat → Nat → Nat) (cI cZ cF : ClassId) (sz : Nat) (x : Nat) (sh : Nat) (lw : Nat) (ro : Nat) (bq : Nat) (bp : Nat) (dq : Nat) (dp : Nat) (lv : Nat) (sl : Nat) (sd : Int32) (ul : Int32) (su : Int32) (ds : Int32) (fa : Nat) (ft : Nat) (FA : Nat → Option Nat) (L : List Nat) (f : Nat → va_E) (kd : Nat → Int32) (st : Nat → Int32) (tn : Nat → Int32) (mn : Nat → Int32) (cx : Nat → Int32) (cy : Nat → Int32) (rk : Nat → Int32) (wd : Nat → Int32) (tw : Nat → Int32) (pa : Nat → Int32) (pb : Nat → Int32) (gb : Nat → Int32) (it : Nat → Int32) (h200 : ft ≤ 200) (hva : ∀ q, q < ft → vwA cI L f FA rk wd tw pa pb kd st gb it tn mn cx cy q) : Met l yX10_count (.code yX10_count cX10_count 2 (some .int) :: ws0) ({ frames := 0, cells := 0, slots := 0, locals := 0 } : Room) (va_Pc [.ref x, .int 7] (zPre (dC, dI) classes (zTy cI cZ cF) ([(oc8 x (.ref sh) (.ref lw) (.ref ro) (.ref bq) (.ref bp) (.ref dq) (.ref dp) (.ref lv) (.ref sl) ds sd ul su), (oc7 sh (.ref fa) (nI ft)), (oq fa cF 200 FA)] ++ va_pl L f) sz zXN)) (zQ (some (.int ul)) (fun t => va_P (dC, dI) classes ([(oc8 x (.ref sh) (.ref lw) (.ref ro) (.ref bq) (.ref bp) (.ref dq) (.ref dp) (.ref lv) (.ref sl) ds sd ul su), (oc7 sh (.ref fa) (nI ft)), (oq fa cF 200 FA)] ++ va_pl L f) t.heap ∧ va_D (va_A ([(oc8 x (.ref sh) (.ref lw) (.ref ro) (.ref bq) (.ref bp) (.ref dq) (.ref dp) (.ref lv) (.ref sl) ds sd ul su), (oc7 sh (.ref fa) (nI ft)), (oq fa cF 200 FA)] ++ va_pl L f) sz) ([(oc8 x (.ref sh) (.ref lw) (.ref ro) (.ref bq) (.ref bp) (.ref dq) (.ref dp) (.ref lv) (.ref sl) ds sd ul su), (oc7 sh (.ref fa) (nI ft)), (oq fa cF 200 FA)] ++ va_pl L f)) (va_A ([(oc8 x (.ref sh) (.ref lw) (.ref ro) (.ref bq) (.ref bp) (.ref dq) (.ref dp) (.ref lv) (.ref sl) ds sd ul su), (oc7 sh (.ref fa) (nI ft)), (oq fa cF 200 FA)] ++ va_pl L f) sz)) 0 0 (va_A ([(oc8 x (.ref sh) (.ref lw) (.ref ro) (.ref bq) (.ref bp) (.ref dq) (.ref dp) (.ref lv) (.ref sl) ds sd ul su), (oc7 sh (.ref fa) (nI ft)), (oq fa cF 200 FA)] ++ va_pl L f) sz) := by
  refine Met.ofW (cc := cX10_count) (maxL := 2) (ret := (some .int)) (by decide) rfl ?_
  intro p e s m args below meth c s₁ B hml hv
  obtain ⟨rfl, hsz, hP, hK, hD0, hXN⟩ := hv
  have hx := B.exec
  have hb := B.bytes
  have hr := B.returns
  have hts0 := atoms_spec (ws := .code yX10_count cX10_count 2 (some .int) :: ws0) B.pre
  have hts : ∀ w9 ∈ ws0, w9.before ([.ref x, .int 7] : List Value).toArray s = true := fun w9 h => hts0 w9 (List.mem_cons_of_mem _ h)
  have hown : s.vm.findClass "ScaleShop" = some m.cls := findClass_of_methodNamed B.named
  have hlocks := B.notSynchronized
  subst hsz
  have hD := hD0.self (sz := s.heap.size)
  clear hD0
  generalize hAe : va_A ([(oc8 x (.ref sh) (.ref lw) (.ref ro) (.ref bq) (.ref bp) (.ref dq) (.ref dp) (.ref lv) (.ref sl) ds sd ul su), (oc7 sh (.ref fa) (nI ft)), (oq fa cF 200 FA)] ++ va_pl L f) s.heap.size = A at hD ⊢
  have hA : ∀ q : Nat, s.heap.size ≤ q → A q := fun q h => by rw [← hAe]; exact Or.inr h
  clear hAe
  have hS : va_S A s.heap s.heap [] := va_S.rf
  have hP : va_P (dC, dI) classes ([(oc8 x (.ref sh) (.ref lw) (.ref ro) (.ref bq) (.ref bp) (.ref dq) (.ref dp) (.ref lv) (.ref sl) ds sd ul su), (oc7 sh (.ref fa) (nI ft)), (oq fa cF 200 FA)] ++ va_pl L f) s.heap := hP
  obtain ⟨Q9, hQ9⟩ : ∃ Q9 : State → Prop, Q9 = MQ below (zQ (some (.int ul)) (fun t => va_P (dC, dI) classes ([(oc8 x (.ref sh) (.ref lw) (.ref ro) (.ref bq) (.ref bp) (.ref dq) (.ref dp) (.ref lv) (.ref sl) ds sd ul su), (oc7 sh (.ref fa) (nI ft)), (oq fa cF 200 FA)] ++ va_pl L f) t.heap ∧ va_D A ([(oc8 x (.ref sh) (.ref lw) (.ref ro) (.ref bq) (.ref bp) (.ref dq) (.ref dp) (.ref lv) (.ref sl) ds sd ul su), (oc7 sh (.ref fa) (nI ft)), (oq fa cF 200 FA)] ++ va_pl L f)) A) ([.ref x, .int 7] : List Value).toArray s 0 0 A := ⟨_, rfl⟩
  rw [← hQ9]
  have hl := lv_entry ([.ref x, .int 7]) (n := 2) (Nat.le_of_ble_eq_true rfl)
  rw [lg_entry_eq]
  generalize (lg_sl ([.ref x, .int 7]) ++ List.replicate (2 - (lg_sl ([.ref x, .int 7])).length) Slot.unset).toArray = ls at hl ⊢
  have hl : lv_has ls 2 [(0, .ref x), (1, .int 7)] := hl
  refine lv_iload_n hx hb dX10_count_0 rfl (lv_at hl 1 rfl) ?_
  refine lv_tableIn (tgt := 108) (off := 107) hx hb dX10_count_1 (by decide) (by decide) (by decide) (by decide) ?_
  refine lv_aload_n hx hb dX10_count_108 rfl (lv_at hl 0 rfl) ?_
  refine va_get (D := (dC, dI)) (ci := 8) (v := .int ul) (C := RX10) (T := TX10) (N := 13) hx hb hts inX10 hown hK hP 0 rfl rfl 11 (by decide) (hts _ mw_320) (fun _ h9 => h9) rfl dX10_count_109 ?_
  have hP9 := hP.part (cx := [(oc8 x (.ref sh) (.ref lw) (.ref ro) (.ref bq) (.ref bp) (.ref dq) (.ref dp) (.ref lv) (.ref sl) ds sd ul su), (oc7 sh (.ref fa) (nI ft)), (oq fa cF 200 FA)]) [0, 1, 2] rfl
  have hD9 := hD.part (cx := [(oc8 x (.ref sh) (.ref lw) (.ref ro) (.ref bq) (.ref bp) (.ref dq) (.ref dp) (.ref lv) (.ref sl) ds sd ul su), (oc7 sh (.ref fa) (nI ft)), (oq fa cF 200 FA)]) [0, 1, 2] (by decide) rfl
  rw [hQ9]
  exact W.iret (v := ul) hx hb hr (fun t ht hW => ⟨⟨rfl, by rw [ht]; exact hP9, hD9⟩, hS.F ht⟩) hS.2.2 dX10_count_112
set_option maxHeartbeats 4000000 in
set_option maxRecDepth 100000 in
theorem k_count_d (l : Launch) (dC : Nat → ClassId) (dI : Nat → Nat → Nat) (cI cZ cF : ClassId) (sz : Nat) (x : Nat) (sh : Nat) (lw : Nat) (ro : Nat) (bq : Nat) (bp : Nat) (dq : Nat) (dp : Nat) (lv : Nat) (sl : Nat) (sd : Int32) (ul : Int32) (su : Int32) (ds : Int32) (w : Int32) (hw9 : w.toInt < 0 ∨ 7 < w.toInt) : Met l yX10_count (.code yX10_count cX10_count 2 (some .int) :: ws0) ({ frames := 0, cells := 0, slots := 0, locals := 0 } : Room) (va_Pc [.ref x, .int w] (zPre (dC, dI) classes (zTy cI cZ cF) [(oc8 x (.ref sh) (.ref lw) (.ref ro) (.ref bq) (.ref bp) (.ref dq) (.ref dp) (.ref lv) (.ref sl) ds sd ul su)] sz zXN)) (zQ (some (.int (-1))) (fun t => va_P (dC, dI) classes [(oc8 x (.ref sh) (.ref lw) (.ref ro) (.ref bq) (.ref bp) (.ref dq) (.ref dp) (.ref lv) (.ref sl) ds sd ul su)] t.heap ∧ va_D (va_A [(oc8 x (.ref sh) (.ref lw) (.ref ro) (.ref bq) (.ref bp) (.ref dq) (.ref dp) (.ref lv) (.ref sl) ds sd ul su)] sz) [(oc8 x (.ref sh) (.ref lw) (.ref ro) (.ref bq) (.ref bp) (.ref dq) (.ref dp) (.ref lv) (.ref sl) ds sd ul su)]) (va_A [(oc8 x (.ref sh) (.ref lw) (.ref ro) (.ref bq) (.ref bp) (.ref dq) (.ref dp) (.ref lv) (.ref sl) ds sd ul su)] sz)) 0 0 (va_A [(oc8 x (.ref sh) (.ref lw) (.ref ro) (.ref bq) (.ref bp) (.ref dq) (.ref dp) (.ref lv) (.ref sl) ds sd ul su)] sz) := by
  refine Met.ofW (cc := cX10_count) (maxL := 2) (ret := (some .int)) (by decide) rfl ?_
  intro p e s m args below meth c s₁ B hml hv
  obtain ⟨rfl, hsz, hP, hK, hD0, hXN⟩ := hv
  have hx := B.exec
  have hb := B.bytes
  have hr := B.returns
  have hts0 := atoms_spec (ws := .code yX10_count cX10_count 2 (some .int) :: ws0) B.pre
  have hts : ∀ w9 ∈ ws0, w9.before ([.ref x, .int w] : List Value).toArray s = true := fun w9 h => hts0 w9 (List.mem_cons_of_mem _ h)
  have hown : s.vm.findClass "ScaleShop" = some m.cls := findClass_of_methodNamed B.named
  have hlocks := B.notSynchronized
  subst hsz
  have hD := hD0.self (sz := s.heap.size)
  clear hD0
  generalize hAe : va_A [(oc8 x (.ref sh) (.ref lw) (.ref ro) (.ref bq) (.ref bp) (.ref dq) (.ref dp) (.ref lv) (.ref sl) ds sd ul su)] s.heap.size = A at hD ⊢
  have hA : ∀ q : Nat, s.heap.size ≤ q → A q := fun q h => by rw [← hAe]; exact Or.inr h
  clear hAe
  have hS : va_S A s.heap s.heap [] := va_S.rf
  have hP : va_P (dC, dI) classes [(oc8 x (.ref sh) (.ref lw) (.ref ro) (.ref bq) (.ref bp) (.ref dq) (.ref dp) (.ref lv) (.ref sl) ds sd ul su)] s.heap := hP
  obtain ⟨Q9, hQ9⟩ : ∃ Q9 : State → Prop, Q9 = MQ below (zQ (some (.int (-1))) (fun t => va_P (dC, dI) classes [(oc8 x (.ref sh) (.ref lw) (.ref ro) (.ref bq) (.ref bp) (.ref dq) (.ref dp) (.ref lv) (.ref sl) ds sd ul su)] t.heap ∧ va_D A [(oc8 x (.ref sh) (.ref lw) (.ref ro) (.ref bq) (.ref bp) (.ref dq) (.ref dp) (.ref lv) (.ref sl) ds sd ul su)]) A) ([.ref x, .int w] : List Value).toArray s 0 0 A := ⟨_, rfl⟩
  rw [← hQ9]
  have hl := lv_entry ([.ref x, .int w]) (n := 2) (Nat.le_of_ble_eq_true rfl)
  rw [lg_entry_eq]
  generalize (lg_sl ([.ref x, .int w]) ++ List.replicate (2 - (lg_sl ([.ref x, .int w])).length) Slot.unset).toArray = ls at hl ⊢
  have hl : lv_has ls 2 [(0, .ref x), (1, .int w)] := hl
  refine lv_iload_n hx hb dX10_count_0 rfl (lv_at hl 1 rfl) ?_
  refine lv_tableOut (tgt := 113) hx hb dX10_count_1 (hw9) (by decide) ?_
  refine lv_iconst (v := (-1)) hx hb dX10_count_113 (by decide) ?_
  have hP9 := hP.sub (ws' := [(oc8 x (.ref sh) (.ref lw) (.ref ro) (.ref bq) (.ref bp) (.ref dq) (.ref dp) (.ref lv) (.ref sl) ds sd ul su)]) [0] rfl
  have hD9 := hD.sub (ws' := [(oc8 x (.ref sh) (.ref lw) (.ref ro) (.ref bq) (.ref bp) (.ref dq) (.ref dp) (.ref lv) (.ref sl) ds sd ul su)]) [0] (by decide) rfl
  rw [hQ9]
  exact W.iret (v := (-1)) hx hb hr (fun t ht hW => ⟨⟨rfl, by rw [ht]; exact hP9, hD9⟩, hS.F ht⟩) hS.2.2 dX10_count_114
set_option maxHeartbeats 4000000 in
set_option maxRecDepth 100000 in
theorem k_count_6 (l : Launch) (dC : Nat → ClassId) (dI : Nat → Nat → Nat) (cI cZ cF : ClassId) (sz : Nat) (cO : ClassId) (e0 : Nat) (mi : Nat) (x : Nat) (sh : Nat) (lw : Nat) (ro : Nat) (bq : Nat) (bp : Nat) (dq : Nat) (dp : Nat) (lv : Nat) (sl : Nat) (sd : Int32) (ul : Int32) (su : Int32) (ea : Nat) (dn : Nat) (T : Nat) (mc9 : Int32) (hdT : dn ≤ T) (hT5 : T ≤ 512) : Met l yX10_count (.code yX10_count cX10_count 2 (some .int) :: ws0) ({ frames := 1, cells := 0, slots := 0, locals := 20 } : Room) (va_Pc [.ref x, .int 6] (zPre (dC, dI) classes (zTyO cI cZ cF cO) [(oc8 x (.ref sh) (.ref lw) (.ref ro) (.ref bq) (.ref bp) (.ref dq) (.ref dp) (.ref lv) (.ref sl) (nI dn) sd ul su), (oc10 sl mc9 (.ref ea) (nI T))] sz (zXL e0 mi (va_A [(oc8 x (.ref sh) (.ref lw) (.ref ro) (.ref bq) (.ref bp) (.ref dq) (.ref dp) (.ref lv) (.ref sl) (nI dn) sd ul su), (oc10 sl mc9 (.ref ea) (nI T))] sz)))) (zQ (some (.int (nI (T - dn)))) (fun t => va_P (dC, dI) classes [(oc8 x (.ref sh) (.ref lw) (.ref ro) (.ref bq) (.ref bp) (.ref dq) (.ref dp) (.ref lv) (.ref sl) (nI dn) sd ul su), (oc10 sl mc9 (.ref ea) (nI T))] t.heap ∧ va_D (va_A [(oc8 x (.ref sh) (.ref lw) (.ref ro) (.ref bq) (.ref bp) (.ref dq) (.ref dp) (.ref lv) (.ref sl) (nI dn) sd ul su), (oc10 sl mc9 (.ref ea) (nI T))] sz) [(oc8 x (.ref sh) (.ref lw) (.ref ro) (.ref bq) (.ref bp) (.ref dq) (.ref dp) (.ref lv) (.ref sl) (nI dn) sd ul su), (oc10 sl mc9 (.ref ea) (nI T))]) (va_A [(oc8 x (.ref sh) (.ref lw) (.ref ro) (.ref bq) (.ref bp) (.ref dq) (.ref dp) (.ref lv) (.ref sl) (nI dn) sd ul su), (oc10 sl mc9 (.ref ea) (nI T))] sz)) 0 0 (va_A [(oc8 x (.ref sh) (.ref lw) (.ref ro) (.ref bq) (.ref bp) (.ref dq) (.ref dp) (.ref lv) (.ref sl) (nI dn) sd ul su), (oc10 sl mc9 (.ref ea) (nI T))] sz) := by
  refine Met.ofW (cc := cX10_count) (maxL := 2) (ret := (some .int)) (by decide) rfl ?_
  intro p e s m args below meth c s₁ B hml hv
  obtain ⟨rfl, hsz, hP, hK, hD0, hXL⟩ := hv
  have hx := B.exec
  have hb := B.bytes
  have hr := B.returns
  have hts0 := atoms_spec (ws := .code yX10_count cX10_count 2 (some .int) :: ws0) B.pre
  have hts : ∀ w9 ∈ ws0, w9.before ([.ref x, .int 6] : List Value).toArray s = true := fun w9 h => hts0 w9 (List.mem_cons_of_mem _ h)
  have hown : s.vm.findClass "ScaleShop" = some m.cls := findClass_of_methodNamed B.named
  have hlocks := B.notSynchronized
  subst hsz
  have hD := hD0.self (sz := s.heap.size)
  clear hD0
  generalize hAe : va_A [(oc8 x (.ref sh) (.ref lw) (.ref ro) (.ref bq) (.ref bp) (.ref dq) (.ref dp) (.ref lv) (.ref sl) (nI dn) sd ul su), (oc10 sl mc9 (.ref ea) (nI T))] s.heap.size = A at hD hXL ⊢
  have hA : ∀ q : Nat, s.heap.size ≤ q → A q := fun q h => by rw [← hAe]; exact Or.inr h
  clear hAe
  have hS : va_S A s.heap s.heap [] := va_S.rf
  have hXN := hXL.1
  have hK3 := hK.sub [0, 1, 2] rfl
  have hP : va_P (dC, dI) classes [(oc8 x (.ref sh) (.ref lw) (.ref ro) (.ref bq) (.ref bp) (.ref dq) (.ref dp) (.ref lv) (.ref sl) (nI dn) sd ul su), (oc10 sl mc9 (.ref ea) (nI T))] s.heap := hP
  obtain ⟨Q9, hQ9⟩ : ∃ Q9 : State → Prop, Q9 = MQ below (zQ (some (.int (nI (T - dn)))) (fun t => va_P (dC, dI) classes [(oc8 x (.ref sh) (.ref lw) (.ref ro) (.ref bq) (.ref bp) (.ref dq) (.ref dp) (.ref lv) (.ref sl) (nI dn) sd ul su), (oc10 sl mc9 (.ref ea) (nI T))] t.heap ∧ va_D A [(oc8 x (.ref sh) (.ref lw) (.ref ro) (.ref bq) (.ref bp) (.ref dq) (.ref dp) (.ref lv) (.ref sl) (nI dn) sd ul su), (oc10 sl mc9 (.ref ea) (nI T))]) A) ([.ref x, .int 6] : List Value).toArray s 0 0 A := ⟨_, rfl⟩
  rw [← hQ9]
  have hl := lv_entry ([.ref x, .int 6]) (n := 2) (Nat.le_of_ble_eq_true rfl)
  rw [lg_entry_eq]
  generalize (lg_sl ([.ref x, .int 6]) ++ List.replicate (2 - (lg_sl ([.ref x, .int 6])).length) Slot.unset).toArray = ls at hl ⊢
  have hl : lv_has ls 2 [(0, .ref x), (1, .int 6)] := hl
  refine lv_iload_n hx hb dX10_count_0 rfl (lv_at hl 1 rfl) ?_
  refine lv_tableIn (tgt := 95) (off := 94) hx hb dX10_count_1 (by decide) (by decide) (by decide) (by decide) ?_
  refine lv_aload_n hx hb dX10_count_95 rfl (lv_at hl 0 rfl) ?_
  refine va_get (D := (dC, dI)) (ci := 8) (v := .ref sl) (C := RX10) (T := TX10) (N := 13) hx hb hts inX10 hown hK hP 0 rfl rfl 8 (by decide) (hts _ mw_317) (fun _ h9 => h9) rfl dX10_count_96 ?_
  have hPc := hP.sub (ws' := [(oc10 sl mc9 (.ref ea) (nI T))]) [1] rfl
  have hDc := hD.sub (ws' := [(oc10 sl mc9 (.ref ea) (nI T))]) [1] (by decide) rfl
  have hFc := va_free (wc := [(oc10 sl mc9 (.ref ea) (nI T))]) hD hS hA [1] rfl
  refine zcall (st1 := [.int (nI T)]) (va_runV (As := []) (rest := []) ⟨hx, hb, hml, hown, hts⟩ (k_AL_size l dC dI cI cZ cF s.heap.size sl ea T mc9 ) (cwV 0 hts (zz_gV mw_468 mw_469 mw_470 mw_109 mc_yJx4a65c_size_8abf5) rfl rfl rfl (by decide +kernel) ⟨Nat.le_of_ble_eq_true rfl, Nat.le_of_ble_eq_true rfl⟩) (zPV2 (q0 := 0) (ci := 10) hPc hDc hK3 hXN rfl rfl) rfl rfl hl.1 rfl (lv_room (Nat.le_of_ble_eq_true rfl)) dX10_count_99 ⟨Nat.le_of_ble_eq_true rfl, Nat.le_of_ble_eq_true rfl⟩) hS hFc hFc rfl (fun t H1 locs ht hB hk1 hS => ?_)
  obtain ⟨hP1, hD1⟩ := hB
  rw [ht] at hP1
  obtain ⟨hP, hD⟩ := va_join (wr := [(oc8 x (.ref sh) (.ref lw) (.ref ro) (.ref bq) (.ref bp) (.ref dq) (.ref dp) (.ref lv) (.ref sl) (nI dn) sd ul su)]) (w1 := [(oc10 sl mc9 (.ref ea) (nI T))]) hP hD [1] [0] rfl rfl (by decide) (by decide) hk1 hFc hP1 hD1
  clear hk1 hPc hDc hFc hP1 hD1 ht
  generalize H1 = H at hP hS ⊢
  have hP : va_P (dC, dI) classes [(oc8 x (.ref sh) (.ref lw) (.ref ro) (.ref bq) (.ref bp) (.ref dq) (.ref dp) (.ref lv) (.ref sl) (nI dn) sd ul su), (oc10 sl mc9 (.ref ea) (nI T))] H := hP
  have hD : va_D A [(oc8 x (.ref sh) (.ref lw) (.ref ro) (.ref bq) (.ref bp) (.ref dq) (.ref dp) (.ref lv) (.ref sl) (nI dn) sd ul su), (oc10 sl mc9 (.ref ea) (nI T))] := hD
  refine lv_aload_n hx hb dX10_count_102 rfl (lv_at hl 0 rfl) ?_
  refine va_get (D := (dC, dI)) (ci := 8) (v := .int (nI dn)) (C := RX10) (T := TX10) (N := 13) hx hb hts inX10 hown hK hP 0 rfl rfl 9 (by decide) (hts _ mw_318) (fun _ h9 => h9) rfl dX10_count_103 ?_
  refine lv_isub hx hb dX10_count_106 ?_
  refine zz_i (v := nI (T - dn)) (pk_sub (a := T) (b := dn) (by omega)) ?_
  have hP9 := hP.sub (ws' := [(oc8 x (.ref sh) (.ref lw) (.ref ro) (.ref bq) (.ref bp) (.ref dq) (.ref dp) (.ref lv) (.ref sl) (nI dn) sd ul su), (oc10 sl mc9 (.ref ea) (nI T))]) [0, 1] rfl
  have hD9 := hD.sub (ws' := [(oc8 x (.ref sh) (.ref lw) (.ref ro) (.ref bq) (.ref bp) (.ref dq) (.ref dp) (.ref lv) (.ref sl) (nI dn) sd ul su), (oc10 sl mc9 (.ref ea) (nI T))]) [0, 1] (by decide) rfl
  rw [hQ9]
  exact W.iret (v := nI (T - dn)) hx hb hr (fun t ht hW => ⟨⟨rfl, by rw [ht]; exact hP9, hD9⟩, hS.F ht⟩) hS.2.2 dX10_count_107
