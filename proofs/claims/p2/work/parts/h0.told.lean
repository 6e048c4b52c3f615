set_option maxHeartbeats 4000000 in
set_option maxRecDepth 100000 in
theorem k_told_x (l : Launch) (dC : Nat → ClassId) (dI : Nat → Nat → Nat) (cI cZ cF : ClassId) (sz : Nat) (x : Nat) (sh : Nat) (lw : Nat) (ro : Nat) (bq : Nat) (bp : Nat) (dq : Nat) (dp : Nat) (lv : Nat) (sl : Nat) (sd : Int32) (ul : Int32) (su : Int32) (ds : Int32) (fa : Nat) (ft : Nat) (FA : Nat → Option Nat) (v : Int32) (w : Int32) (h200 : ft ≤ 200) (hv : ¬ (0 ≤ v.toInt ∧ v.toInt < ((ft : Nat) : Int))) : Met l yX10_told (.code yX10_told cX10_told 4 (some .int) :: ws0) ({ frames := 1, cells := 0, slots := 0, locals := 21 } : Room) (va_Pc [.ref x, .int v, .int w] (zPre (dC, dI) classes (zTy cI cZ cF) [(oc8 x (.ref sh) (.ref lw) (.ref ro) (.ref bq) (.ref bp) (.ref dq) (.ref dp) (.ref lv) (.ref sl) ds sd ul su), (oc7 sh (.ref fa) (nI ft)), (oq fa cF 200 FA)] sz zXN)) (zQ (some (.int (-1))) (fun t => va_P (dC, dI) classes [(oc8 x (.ref sh) (.ref lw) (.ref ro) (.ref bq) (.ref bp) (.ref dq) (.ref dp) (.ref lv) (.ref sl) ds sd ul su), (oc7 sh (.ref fa) (nI ft)), (oq fa cF 200 FA)] t.heap ∧ va_D (va_A [(oc8 x (.ref sh) (.ref lw) (.ref ro) (.ref bq) (.ref bp) (.ref dq) (.ref dp) (.ref lv) (.ref sl) ds sd ul su), (oc7 sh (.ref fa) (nI ft)), (oq fa cF 200 FA)] sz) [(oc8 x (.ref sh) (.ref lw) (.ref ro) (.ref bq) (.ref bp) (.ref dq) (.ref dp) (.ref lv) (.ref sl) ds sd ul su), (oc7 sh (.ref fa) (nI ft)), (oq fa cF 200 FA)]) (va_A [(oc8 x (.ref sh) (.ref lw) (.ref ro) (.ref bq) (.ref bp) (.ref dq) (.ref dp) (.ref lv) (.ref sl) ds sd ul su), (oc7 sh (.ref fa) (nI ft)), (oq fa cF 200 FA)] sz)) 0 0 (va_A [(oc8 x (.ref sh) (.ref lw) (.ref ro) (.ref bq) (.ref bp) (.ref dq) (.ref dp) (.ref lv) (.ref sl) ds sd ul su), (oc7 sh (.ref fa) (nI ft)), (oq fa cF 200 FA)] sz) := by
  refine Met.ofW (cc := cX10_told) (maxL := 4) (ret := (some .int)) (by decide) rfl ?_
  intro p e s m args below meth c s₁ B hml hv
  obtain ⟨rfl, hsz, hP, hK, hD0, hXN⟩ := hv
  have hx := B.exec
  have hb := B.bytes
  have hr := B.returns
  have hts0 := atoms_spec (ws := .code yX10_told cX10_told 4 (some .int) :: ws0) B.pre
  have hts : ∀ w9 ∈ ws0, w9.before ([.ref x, .int v, .int w] : List Value).toArray s = true := fun w9 h => hts0 w9 (List.mem_cons_of_mem _ h)
  have hown : s.vm.findClass "ScaleShop" = some m.cls := findClass_of_methodNamed B.named
  have hlocks := B.notSynchronized
  subst hsz
  have hD := hD0.self (sz := s.heap.size)
  clear hD0
  generalize hAe : va_A [(oc8 x (.ref sh) (.ref lw) (.ref ro) (.ref bq) (.ref bp) (.ref dq) (.ref dp) (.ref lv) (.ref sl) ds sd ul su), (oc7 sh (.ref fa) (nI ft)), (oq fa cF 200 FA)] s.heap.size = A at hD ⊢
  have hA : ∀ q : Nat, s.heap.size ≤ q → A q := fun q h => by rw [← hAe]; exact Or.inr h
  clear hAe
  have hS : va_S A s.heap s.heap [] := va_S.rf
  have hP : va_P (dC, dI) classes [(oc8 x (.ref sh) (.ref lw) (.ref ro) (.ref bq) (.ref bp) (.ref dq) (.ref dp) (.ref lv) (.ref sl) ds sd ul su), (oc7 sh (.ref fa) (nI ft)), (oq fa cF 200 FA)] s.heap := hP
  obtain ⟨Q9, hQ9⟩ : ∃ Q9 : State → Prop, Q9 = MQ below (zQ (some (.int (-1))) (fun t => va_P (dC, dI) classes [(oc8 x (.ref sh) (.ref lw) (.ref ro) (.ref bq) (.ref bp) (.ref dq) (.ref dp) (.ref lv) (.ref sl) ds sd ul su), (oc7 sh (.ref fa) (nI ft)), (oq fa cF 200 FA)] t.heap ∧ va_D A [(oc8 x (.ref sh) (.ref lw) (.ref ro) (.ref bq) (.ref bp) (.ref dq) (.ref dp) (.ref lv) (.ref sl) ds sd ul su), (oc7 sh (.ref fa) (nI ft)), (oq fa cF 200 FA)]) A) ([.ref x, .int v, .int w] : List Value).toArray s 0 0 A := ⟨_, rfl⟩
  rw [← hQ9]
  have hl := lv_entry ([.ref x, .int v, .int w]) (n := 4) (Nat.le_of_ble_eq_true rfl)
  rw [lg_entry_eq]
  generalize (lg_sl ([.ref x, .int v, .int w]) ++ List.replicate (4 - (lg_sl ([.ref x, .int v, .int w])).length) Slot.unset).toArray = ls at hl ⊢
  have hl : lv_has ls 4 [(0, .ref x), (1, .int v), (2, .int w)] := hl
  refine lv_aload_n hx hb dX10_told_0 rfl (lv_at hl 0 rfl) ?_
  refine va_get (D := (dC, dI)) (ci := 8) (v := .ref sh) (C := RX10) (T := TX10) (N := 13) hx hb hts inX10 hown hK hP 0 rfl rfl 0 (by decide) (hts _ mw_309) (fun _ h9 => h9) rfl dX10_told_1 ?_
  refine lv_iload_n hx hb dX10_told_4 rfl (lv_at hl 1 rfl) ?_
  have hPc := hP.sub (ws' := [(oc7 sh (.ref fa) (nI ft)), (oq fa cF 200 FA)]) [1, 2] rfl
  have hDc := hD.sub (ws' := [(oc7 sh (.ref fa) (nI ft)), (oq fa cF 200 FA)]) [1, 2] (by decide) rfl
  have hFc := va_free (wc := [(oc7 sh (.ref fa) (nI ft)), (oq fa cF 200 FA)]) hD hS hA [1, 2] rfl
  refine zcall (st1 := [.null]) (va_runV (As := [.int v]) (rest := []) ⟨hx, hb, hml, hown, hts⟩ (k_Sheet_find_n l dC dI cI cZ cF s.heap.size sh fa ft FA v (by omega) (by assumption)) (cwV 1 hts (zz_gV mw_498 mw_499 mw_500 mw_100 mc_yX8_find) rfl rfl rfl (by decide +kernel) ⟨Nat.le_of_ble_eq_true rfl, Nat.le_of_ble_eq_true rfl⟩) (zPV2 (q0 := 0) (ci := 7) hPc hDc hK hXN rfl rfl) rfl rfl hl.1 rfl (lv_room (Nat.le_of_ble_eq_true rfl)) dX10_told_5 ⟨Nat.le_of_ble_eq_true rfl, Nat.le_of_ble_eq_true rfl⟩) hS hFc hFc rfl (fun t H1 locs ht hB hk1 hS => ?_)
  obtain ⟨hP1, hD1⟩ := hB
  rw [ht] at hP1
  obtain ⟨hP, hD⟩ := va_join (wr := [(oc8 x (.ref sh) (.ref lw) (.ref ro) (.ref bq) (.ref bp) (.ref dq) (.ref dp) (.ref lv) (.ref sl) ds sd ul su)]) (w1 := [(oc7 sh (.ref fa) (nI ft)), (oq fa cF 200 FA)]) hP hD [1, 2] [0] rfl rfl (by decide) (by decide) hk1 hFc hP1 hD1
  clear hk1 hPc hDc hFc hP1 hD1 ht
  generalize H1 = H at hP hS ⊢
  have hP : va_P (dC, dI) classes [(oc8 x (.ref sh) (.ref lw) (.ref ro) (.ref bq) (.ref bp) (.ref dq) (.ref dp) (.ref lv) (.ref sl) ds sd ul su), (oc7 sh (.ref fa) (nI ft)), (oq fa cF 200 FA)] H := hP
  have hD : va_D A [(oc8 x (.ref sh) (.ref lw) (.ref ro) (.ref bq) (.ref bp) (.ref dq) (.ref dp) (.ref lv) (.ref sl) ds sd ul su), (oc7 sh (.ref fa) (nI ft)), (oq fa cF 200 FA)] := hD
  refine lv_astore_nN (lv' := [(3, .null), (0, .ref x), (1, .int v), (2, .int w)]) hx hb dX10_told_8 rfl hl (by decide) rfl (fun ls hl => ?_)
  refine lv_aload_nN hx hb dX10_told_9 rfl (lv_at hl 0 rfl) ?_
  refine lv_ifnonnullN hx hb dX10_told_10 ?_
  refine lv_iconst (v := (-1)) hx hb dX10_told_13 (by decide) ?_
  have hP9 := hP.sub (ws' := [(oc8 x (.ref sh) (.ref lw) (.ref ro) (.ref bq) (.ref bp) (.ref dq) (.ref dp) (.ref lv) (.ref sl) ds sd ul su), (oc7 sh (.ref fa) (nI ft)), (oq fa cF 200 FA)]) [0, 1, 2] rfl
  have hD9 := hD.sub (ws' := [(oc8 x (.ref sh) (.ref lw) (.ref ro) (.ref bq) (.ref bp) (.ref dq) (.ref dp) (.ref lv) (.ref sl) ds sd ul su), (oc7 sh (.ref fa) (nI ft)), (oq fa cF 200 FA)]) [0, 1, 2] (by decide) rfl
  rw [hQ9]
  exact W.iret (v := (-1)) hx hb hr (fun t ht hW => ⟨⟨rfl, by rw [ht]; exact hP9, hD9⟩, hS.F ht⟩) hS.2.2 dX10_told_14
set_option maxHeartbeats 4000000 in
set_option maxRecDepth 100000 in
theorem k_told_0 (l : Launch) (dC : Nat → ClassId) (dI : Nat → Nat → Nat) (cI cZ cF : ClassId) (sz : Nat) (x : Nat) (sh : Nat) (lw : Nat) (ro : Nat) (bq : Nat) (bp : Nat) (dq : Nat) (dp : Nat) (lv : Nat) (sl : Nat) (sd : Int32) (ul : Int32) (su : Int32) (ds : Int32) (fa : Nat) (ft : Nat) (FA : Nat → Option Nat) (f0 : Nat) (L : List Nat) (f : Nat → va_E) (kd : Nat → Int32) (st : Nat → Int32) (tn : Nat → Int32) (mn : Nat → Int32) (cx : Nat → Int32) (cy : Nat → Int32) (rk : Nat → Int32) (wd : Nat → Int32) (tw : Nat → Int32) (pa : Nat → Int32) (pb : Nat → Int32) (gb : Nat → Int32) (it : Nat → Int32) (h200 : ft ≤ 200) (hf0 : f0 < ft) (hva : ∀ q, q < ft → vwA cI L f FA rk wd tw pa pb kd st gb it tn mn cx cy q) : Met l yX10_told (.code yX10_told cX10_told 4 (some .int) :: ws0) ({ frames := 1, cells := 0, slots := 0, locals := 21 } : Room) (va_Pc [.ref x, .int (nI f0), .int 0] (zPre (dC, dI) classes (zTy cI cZ cF) ([(oc8 x (.ref sh) (.ref lw) (.ref ro) (.ref bq) (.ref bp) (.ref dq) (.ref dp) (.ref lv) (.ref sl) ds sd ul su), (oc7 sh (.ref fa) (nI ft)), (oq fa cF 200 FA)] ++ va_pl L f) sz zXN)) (zQ (some (.int (kd f0))) (fun t => va_P (dC, dI) classes ([(oc8 x (.ref sh) (.ref lw) (.ref ro) (.ref bq) (.ref bp) (.ref dq) (.ref dp) (.ref lv) (.ref sl) ds sd ul su), (oc7 sh (.ref fa) (nI ft)), (oq fa cF 200 FA)] ++ va_pl L f) t.heap ∧ va_D (va_A ([(oc8 x (.ref sh) (.ref lw) (.ref ro) (.ref bq) (.ref bp) (.ref dq) (.ref dp) (.ref lv) (.ref sl) ds sd ul su), (oc7 sh (.ref fa) (nI ft)), (oq fa cF 200 FA)] ++ va_pl L f) sz) ([(oc8 x (.ref sh) (.ref lw) (.ref ro) (.ref bq) (.ref bp) (.ref dq) (.ref dp) (.ref lv) (.ref sl) ds sd ul su), (oc7 sh (.ref fa) (nI ft)), (oq fa cF 200 FA)] ++ va_pl L f)) (va_A ([(oc8 x (.ref sh) (.ref lw) (.ref ro) (.ref bq) (.ref bp) (.ref dq) (.ref dp) (.ref lv) (.ref sl) ds sd ul su), (oc7 sh (.ref fa) (nI ft)), (oq fa cF 200 FA)] ++ va_pl L f) sz)) 0 0 (va_A ([(oc8 x (.ref sh) (.ref lw) (.ref ro) (.ref bq) (.ref bp) (.ref dq) (.ref dp) (.ref lv) (.ref sl) ds sd ul su), (oc7 sh (.ref fa) (nI ft)), (oq fa cF 200 FA)] ++ va_pl L f) sz) := by
  refine Met.ofW (cc := cX10_told) (maxL := 4) (ret := (some .int)) (by decide) rfl ?_
  intro p e s m args below meth c s₁ B hml hv
  obtain ⟨rfl, hsz, hP, hK, hD0, hXN⟩ := hv
  have hx := B.exec
  have hb := B.bytes
  have hr := B.returns
  have hts0 := atoms_spec (ws := .code yX10_told cX10_told 4 (some .int) :: ws0) B.pre
  have hts : ∀ w9 ∈ ws0, w9.before ([.ref x, .int (nI f0), .int 0] : List Value).toArray s = true := fun w9 h => hts0 w9 (List.mem_cons_of_mem _ h)
  have hown : s.vm.findClass "ScaleShop" = some m.cls := findClass_of_methodNamed B.named
  have hlocks := B.notSynchronized
  subst hsz
  have hD := hD0.self (sz := s.heap.size)
  clear hD0
  generalize hAe : va_A ([(oc8 x (.ref sh) (.ref lw) (.ref ro) (.ref bq) (.ref bp) (.ref dq) (.ref dp) (.ref lv) (.ref sl) ds sd ul su), (oc7 sh (.ref fa) (nI ft)), (oq fa cF 200 FA)] ++ va_pl L f) s.heap.size = A at hD ⊢
  have hA : ∀ q : Nat, s.heap.size ≤ q → A q := fun q h => by rw [← hAe]; exact Or.inr h
  clear hAe
  have hS : va_S A s.heap s.heap [] := va_S.rf
  have hP : va_P (dC, dI) classes ([(oc8 x (.ref sh) (.ref lw) (.ref ro) (.ref bq) (.ref bp) (.ref dq) (.ref dp) (.ref lv) (.ref sl) ds sd ul su), (oc7 sh (.ref fa) (nI ft)), (oq fa cF 200 FA)] ++ va_pl L f) s.heap := hP
  obtain ⟨Q9, hQ9⟩ : ∃ Q9 : State → Prop, Q9 = MQ below (zQ (some (.int (kd f0))) (fun t => va_P (dC, dI) classes ([(oc8 x (.ref sh) (.ref lw) (.ref ro) (.ref bq) (.ref bp) (.ref dq) (.ref dp) (.ref lv) (.ref sl) ds sd ul su), (oc7 sh (.ref fa) (nI ft)), (oq fa cF 200 FA)] ++ va_pl L f) t.heap ∧ va_D A ([(oc8 x (.ref sh) (.ref lw) (.ref ro) (.ref bq) (.ref bp) (.ref dq) (.ref dp) (.ref lv) (.ref sl) ds sd ul su), (oc7 sh (.ref fa) (nI ft)), (oq fa cF 200 FA)] ++ va_pl L f)) A) ([.ref x, .int (nI f0), .int 0] : List Value).toArray s 0 0 A := ⟨_, rfl⟩
  rw [← hQ9]
  have hl := lv_entry ([.ref x, .int (nI f0), .int 0]) (n := 4) (Nat.le_of_ble_eq_true rfl)
  rw [lg_entry_eq]
  generalize (lg_sl ([.ref x, .int (nI f0), .int 0]) ++ List.replicate (4 - (lg_sl ([.ref x, .int (nI f0), .int 0])).length) Slot.unset).toArray = ls at hl ⊢
  have hl : lv_has ls 4 [(0, .ref x), (1, .int (nI f0)), (2, .int 0)] := hl
  rcases vwA_2 (hva f0 (by omega)) with ⟨ht2, fe2, lk2, lo2, we2, fm2, hFA2, hfe2, hlk2⟩ | ⟨ht2, fe2, lk2, lo2, we2, fm2, r2, rx2, ry2, cap2, U2, V2, rg2, hFA2, hfe2, hlk2, ⟨hr2, hrx2, hry2, hne2⟩, hrr2⟩
  · skip
    have hc9_1 : inPl L f [(oc1 fe2 (rk f0) (wd f0) (tw f0) (pa f0) (pb f0) (.ref lo2) (.ref lk2) fm2), (oc4 lk2 (kd f0) (st f0) .null (gb f0) (it f0) we2)] := ⟨hfe2, hlk2, trivial⟩
    have hD0_1 := hD
    obtain ⟨hP, hD⟩ := pl_out hP hD [(oc1 fe2 (rk f0) (wd f0) (tw f0) (pa f0) (pb f0) (.ref lo2) (.ref lk2) fm2), (oc4 lk2 (kd f0) (st f0) .null (gb f0) (it f0) we2)] hc9_1 (pwF hfe2.2 hlk2.2)
    generalize hT_1 : outPl L [(oc1 fe2 (rk f0) (wd f0) (tw f0) (pa f0) (pb f0) (.ref lo2) (.ref lk2) fm2), (oc4 lk2 (kd f0) (st f0) .null (gb f0) (it f0) we2)] = T_1 at hP hD
    have hP : va_P (dC, dI) classes ([(oc8 x (.ref sh) (.ref lw) (.ref ro) (.ref bq) (.ref bp) (.ref dq) (.ref dp) (.ref lv) (.ref sl) ds sd ul su), (oc7 sh (.ref fa) (nI ft)), (oq fa cF 200 FA), (oc1 fe2 (rk f0) (wd f0) (tw f0) (pa f0) (pb f0) (.ref lo2) (.ref lk2) fm2), (oc4 lk2 (kd f0) (st f0) .null (gb f0) (it f0) we2)] ++ va_pl T_1 f) s.heap := hP
    have hD : va_D A ([(oc8 x (.ref sh) (.ref lw) (.ref ro) (.ref bq) (.ref bp) (.ref dq) (.ref dp) (.ref lv) (.ref sl) ds sd ul su), (oc7 sh (.ref fa) (nI ft)), (oq fa cF 200 FA), (oc1 fe2 (rk f0) (wd f0) (tw f0) (pa f0) (pb f0) (.ref lo2) (.ref lk2) fm2), (oc4 lk2 (kd f0) (st f0) .null (gb f0) (it f0) we2)] ++ va_pl T_1 f) := hD
    refine lv_aload_n hx hb dX10_told_0 rfl (lv_at hl 0 rfl) ?_
    refine va_get (D := (dC, dI)) (ci := 8) (v := .ref sh) (C := RX10) (T := TX10) (N := 13) hx hb hts inX10 hown hK hP 0 rfl rfl 0 (by decide) (hts _ mw_309) (fun _ h9 => h9) rfl dX10_told_1 ?_
    refine lv_iload_n hx hb dX10_told_4 rfl (lv_at hl 1 rfl) ?_
    have hPc := hP.sub (ws' := [(oc7 sh (.ref fa) (nI ft)), (oq fa cF 200 FA)]) [1, 2] rfl
    have hDc := hD.sub (ws' := [(oc7 sh (.ref fa) (nI ft)), (oq fa cF 200 FA)]) [1, 2] (by decide) rfl
    have hFc := va_free (wc := [(oc7 sh (.ref fa) (nI ft)), (oq fa cF 200 FA)]) hD hS hA [1, 2] rfl
    refine zcall (st1 := [.ref fe2]) (va_runV (As := [.int (nI f0)]) (rest := []) ⟨hx, hb, hml, hown, hts⟩ (k_Sheet_find l dC dI cI cZ cF s.heap.size sh fa ft FA f0 fe2 (by omega) (by omega) (hFA2)) (cwV 1 hts (zz_gV mw_498 mw_499 mw_500 mw_100 mc_yX8_find) rfl rfl rfl (by decide +kernel) ⟨Nat.le_of_ble_eq_true rfl, Nat.le_of_ble_eq_true rfl⟩) (zPV2 (q0 := 0) (ci := 7) hPc hDc hK hXN rfl rfl) rfl rfl hl.1 rfl (lv_room (Nat.le_of_ble_eq_true rfl)) dX10_told_5 ⟨Nat.le_of_ble_eq_true rfl, Nat.le_of_ble_eq_true rfl⟩) hS hFc hFc rfl (fun t H1 locs ht hB hk1 hS => ?_)
    obtain ⟨hP1, hD1⟩ := hB
    rw [ht] at hP1
    obtain ⟨hP, hD⟩ := va_joinQ (wr := [(oc8 x (.ref sh) (.ref lw) (.ref ro) (.ref bq) (.ref bp) (.ref dq) (.ref dp) (.ref lv) (.ref sl) ds sd ul su), (oc1 fe2 (rk f0) (wd f0) (tw f0) (pa f0) (pb f0) (.ref lo2) (.ref lk2) fm2), (oc4 lk2 (kd f0) (st f0) .null (gb f0) (it f0) we2)]) (w1 := [(oc7 sh (.ref fa) (nI ft)), (oq fa cF 200 FA)]) hP hD [1, 2] [0, 3, 4] rfl rfl (by decide) (by decide) hk1 hFc hP1 hD1
    clear hk1 hPc hDc hFc hP1 hD1 ht
    generalize H1 = H at hP hS ⊢
    have hP := hP.part (cx := [(oc8 x (.ref sh) (.ref lw) (.ref ro) (.ref bq) (.ref bp) (.ref dq) (.ref dp) (.ref lv) (.ref sl) ds sd ul su), (oc7 sh (.ref fa) (nI ft)), (oq fa cF 200 FA), (oc1 fe2 (rk f0) (wd f0) (tw f0) (pa f0) (pb f0) (.ref lo2) (.ref lk2) fm2), (oc4 lk2 (kd f0) (st f0) .null (gb f0) (it f0) we2)]) [0, 3, 4, 1, 2] rfl
    have hD := hD.part (cx := [(oc8 x (.ref sh) (.ref lw) (.ref ro) (.ref bq) (.ref bp) (.ref dq) (.ref dp) (.ref lv) (.ref sl) ds sd ul su), (oc7 sh (.ref fa) (nI ft)), (oq fa cF 200 FA), (oc1 fe2 (rk f0) (wd f0) (tw f0) (pa f0) (pb f0) (.ref lo2) (.ref lk2) fm2), (oc4 lk2 (kd f0) (st f0) .null (gb f0) (it f0) we2)]) [0, 3, 4, 1, 2] (by decide) rfl
    have hP : va_P (dC, dI) classes ([(oc8 x (.ref sh) (.ref lw) (.ref ro) (.ref bq) (.ref bp) (.ref dq) (.ref dp) (.ref lv) (.ref sl) ds sd ul su), (oc7 sh (.ref fa) (nI ft)), (oq fa cF 200 FA), (oc1 fe2 (rk f0) (wd f0) (tw f0) (pa f0) (pb f0) (.ref lo2) (.ref lk2) fm2), (oc4 lk2 (kd f0) (st f0) .null (gb f0) (it f0) we2)] ++ va_pl T_1 f) H := hP
    have hD : va_D A ([(oc8 x (.ref sh) (.ref lw) (.ref ro) (.ref bq) (.ref bp) (.ref dq) (.ref dp) (.ref lv) (.ref sl) ds sd ul su), (oc7 sh (.ref fa) (nI ft)), (oq fa cF 200 FA), (oc1 fe2 (rk f0) (wd f0) (tw f0) (pa f0) (pb f0) (.ref lo2) (.ref lk2) fm2), (oc4 lk2 (kd f0) (st f0) .null (gb f0) (it f0) we2)] ++ va_pl T_1 f) := hD
    refine lv_astore_n (lv' := [(3, .ref fe2), (0, .ref x), (1, .int (nI f0)), (2, .int 0)]) hx hb dX10_told_8 rfl hl (by decide) rfl (fun ls hl => ?_)
    refine lv_aload_n hx hb dX10_told_9 rfl (lv_at hl 0 rfl) ?_
    refine lv_ifnonnull (tgt := 15) hx hb dX10_told_10 (by decide) ?_
    refine lv_iload_n hx hb dX10_told_15 rfl (lv_at hl 3 rfl) ?_
    refine lv_tableIn (tgt := 76) (off := 60) hx hb dX10_told_16 (by decide) (by decide) (by decide) (by decide) ?_
    refine lv_aload_n hx hb dX10_told_76 rfl (lv_at hl 0 rfl) ?_
    refine va_get (D := (dC, dI)) (ci := 1) (v := .ref lk2) (C := RX2) (T := TX2) (N := 8) hx hb hts inX2 hown hK hP 3 rfl rfl 6 (by decide) (hts _ mw_433) (fun _ h9 => h9) rfl dX10_told_77 ?_
    refine va_get (D := (dC, dI)) (ci := 4) (v := .int (kd f0)) (C := RX5) (T := TX5) (N := 6) hx hb hts inX5 hown hK hP 4 rfl rfl 0 (by decide) (hts _ mw_381) (fun _ h9 => h9) rfl dX10_told_80 ?_
    have hP := pl_back (cs := [(oc1 fe2 (rk f0) (wd f0) (tw f0) (pa f0) (pb f0) (.ref lo2) (.ref lk2) fm2), (oc4 lk2 (kd f0) (st f0) .null (gb f0) (it f0) we2)]) (L := L) (f := f) (X := [(oc8 x (.ref sh) (.ref lw) (.ref ro) (.ref bq) (.ref bp) (.ref dq) (.ref dp) (.ref lv) (.ref sl) ds sd ul su), (oc7 sh (.ref fa) (nI ft)), (oq fa cF 200 FA)]) (by rw [hT_1]; exact (show va_P (dC, dI) classes (([(oc8 x (.ref sh) (.ref lw) (.ref ro) (.ref bq) (.ref bp) (.ref dq) (.ref dp) (.ref lv) (.ref sl) ds sd ul su), (oc7 sh (.ref fa) (nI ft)), (oq fa cF 200 FA)] ++ [(oc1 fe2 (rk f0) (wd f0) (tw f0) (pa f0) (pb f0) (.ref lo2) (.ref lk2) fm2), (oc4 lk2 (kd f0) (st f0) .null (gb f0) (it f0) we2)]) ++ va_pl T_1 f) H from hP)) hc9_1
    have hD : va_D A ([(oc8 x (.ref sh) (.ref lw) (.ref ro) (.ref bq) (.ref bp) (.ref dq) (.ref dp) (.ref lv) (.ref sl) ds sd ul su), (oc7 sh (.ref fa) (nI ft)), (oq fa cF 200 FA)] ++ va_pl L f) := vaD_ae hD0_1 rfl
    have hP9 := hP.part (cx := [(oc8 x (.ref sh) (.ref lw) (.ref ro) (.ref bq) (.ref bp) (.ref dq) (.ref dp) (.ref lv) (.ref sl) ds sd ul su), (oc7 sh (.ref fa) (nI ft)), (oq fa cF 200 FA)]) [0, 1, 2] rfl
    have hD9 := hD.part (cx := [(oc8 x (.ref sh) (.ref lw) (.ref ro) (.ref bq) (.ref bp) (.ref dq) (.ref dp) (.ref lv) (.ref sl) ds sd ul su), (oc7 sh (.ref fa) (nI ft)), (oq fa cF 200 FA)]) [0, 1, 2] (by decide) rfl
    rw [hQ9]
    exact W.iret (v := kd f0) hx hb hr (fun t ht hW => ⟨⟨rfl, by rw [ht]; exact hP9, hD9⟩, hS.F ht⟩) hS.2.2 dX10_told_83
  · skip
    have hcap2 := hrr2.1
    have hcap3 := hrr2.2.1
    have hc9_1 : inPl L f [(oc1 fe2 (rk f0) (wd f0) (tw f0) (pa f0) (pb f0) (.ref lo2) (.ref lk2) fm2), (oc4 lk2 (kd f0) (st f0) (.ref r2) (gb f0) (it f0) we2), (oc6 r2 (.ref rx2) (.ref ry2) (nI (nN (mn f0))) rg2), (oa rx2 cI cap2 U2), (oa ry2 cI cap2 V2)] := ⟨hfe2, hlk2, hr2, hrx2, hry2, trivial⟩
    have hD0_1 := hD
    obtain ⟨hP, hD⟩ := pl_out hP hD [(oc1 fe2 (rk f0) (wd f0) (tw f0) (pa f0) (pb f0) (.ref lo2) (.ref lk2) fm2), (oc4 lk2 (kd f0) (st f0) (.ref r2) (gb f0) (it f0) we2), (oc6 r2 (.ref rx2) (.ref ry2) (nI (nN (mn f0))) rg2), (oa rx2 cI cap2 U2), (oa ry2 cI cap2 V2)] hc9_1 (pwR hfe2.2 hlk2.2 hr2.2 hrx2.2 hry2.2 hne2)
    generalize hT_1 : outPl L [(oc1 fe2 (rk f0) (wd f0) (tw f0) (pa f0) (pb f0) (.ref lo2) (.ref lk2) fm2), (oc4 lk2 (kd f0) (st f0) (.ref r2) (gb f0) (it f0) we2), (oc6 r2 (.ref rx2) (.ref ry2) (nI (nN (mn f0))) rg2), (oa rx2 cI cap2 U2), (oa ry2 cI cap2 V2)] = T_1 at hP hD
    have hP : va_P (dC, dI) classes ([(oc8 x (.ref sh) (.ref lw) (.ref ro) (.ref bq) (.ref bp) (.ref dq) (.ref dp) (.ref lv) (.ref sl) ds sd ul su), (oc7 sh (.ref fa) (nI ft)), (oq fa cF 200 FA), (oc1 fe2 (rk f0) (wd f0) (tw f0) (pa f0) (pb f0) (.ref lo2) (.ref lk2) fm2), (oc4 lk2 (kd f0) (st f0) (.ref r2) (gb f0) (it f0) we2), (oc6 r2 (.ref rx2) (.ref ry2) (nI (nN (mn f0))) rg2), (oa rx2 cI cap2 U2), (oa ry2 cI cap2 V2)] ++ va_pl T_1 f) s.heap := hP
    have hD : va_D A ([(oc8 x (.ref sh) (.ref lw) (.ref ro) (.ref bq) (.ref bp) (.ref dq) (.ref dp) (.ref lv) (.ref sl) ds sd ul su), (oc7 sh (.ref fa) (nI ft)), (oq fa cF 200 FA), (oc1 fe2 (rk f0) (wd f0) (tw f0) (pa f0) (pb f0) (.ref lo2) (.ref lk2) fm2), (oc4 lk2 (kd f0) (st f0) (.ref r2) (gb f0) (it f0) we2), (oc6 r2 (.ref rx2) (.ref ry2) (nI (nN (mn f0))) rg2), (oa rx2 cI cap2 U2), (oa ry2 cI cap2 V2)] ++ va_pl T_1 f) := hD
    refine lv_aload_n hx hb dX10_told_0 rfl (lv_at hl 0 rfl) ?_
    refine va_get (D := (dC, dI)) (ci := 8) (v := .ref sh) (C := RX10) (T := TX10) (N := 13) hx hb hts inX10 hown hK hP 0 rfl rfl 0 (by decide) (hts _ mw_309) (fun _ h9 => h9) rfl dX10_told_1 ?_
    refine lv_iload_n hx hb dX10_told_4 rfl (lv_at hl 1 rfl) ?_
    have hPc := hP.sub (ws' := [(oc7 sh (.ref fa) (nI ft)), (oq fa cF 200 FA)]) [1, 2] rfl
    have hDc := hD.sub (ws' := [(oc7 sh (.ref fa) (nI ft)), (oq fa cF 200 FA)]) [1, 2] (by decide) rfl
    have hFc := va_free (wc := [(oc7 sh (.ref fa) (nI ft)), (oq fa cF 200 FA)]) hD hS hA [1, 2] rfl
    refine zcall (st1 := [.ref fe2]) (va_runV (As := [.int (nI f0)]) (rest := []) ⟨hx, hb, hml, hown, hts⟩ (k_Sheet_find l dC dI cI cZ cF s.heap.size sh fa ft FA f0 fe2 (by omega) (by omega) (hFA2)) (cwV 1 hts (zz_gV mw_498 mw_499 mw_500 mw_100 mc_yX8_find) rfl rfl rfl (by decide +kernel) ⟨Nat.le_of_ble_eq_true rfl, Nat.le_of_ble_eq_true rfl⟩) (zPV2 (q0 := 0) (ci := 7) hPc hDc hK hXN rfl rfl) rfl rfl hl.1 rfl (lv_room (Nat.le_of_ble_eq_true rfl)) dX10_told_5 ⟨Nat.le_of_ble_eq_true rfl, Nat.le_of_ble_eq_true rfl⟩) hS hFc hFc rfl (fun t H1 locs ht hB hk1 hS => ?_)
    obtain ⟨hP1, hD1⟩ := hB
    rw [ht] at hP1
    obtain ⟨hP, hD⟩ := va_joinQ (wr := [(oc8 x (.ref sh) (.ref lw) (.ref ro) (.ref bq) (.ref bp) (.ref dq) (.ref dp) (.ref lv) (.ref sl) ds sd ul su), (oc1 fe2 (rk f0) (wd f0) (tw f0) (pa f0) (pb f0) (.ref lo2) (.ref lk2) fm2), (oc4 lk2 (kd f0) (st f0) (.ref r2) (gb f0) (it f0) we2), (oc6 r2 (.ref rx2) (.ref ry2) (nI (nN (mn f0))) rg2), (oa rx2 cI cap2 U2), (oa ry2 cI cap2 V2)]) (w1 := [(oc7 sh (.ref fa) (nI ft)), (oq fa cF 200 FA)]) hP hD [1, 2] [0, 3, 4, 5, 6, 7] rfl rfl (by decide) (by decide) hk1 hFc hP1 hD1
    clear hk1 hPc hDc hFc hP1 hD1 ht
    generalize H1 = H at hP hS ⊢
    have hP := hP.part (cx := [(oc8 x (.ref sh) (.ref lw) (.ref ro) (.ref bq) (.ref bp) (.ref dq) (.ref dp) (.ref lv) (.ref sl) ds sd ul su), (oc7 sh (.ref fa) (nI ft)), (oq fa cF 200 FA), (oc1 fe2 (rk f0) (wd f0) (tw f0) (pa f0) (pb f0) (.ref lo2) (.ref lk2) fm2), (oc4 lk2 (kd f0) (st f0) (.ref r2) (gb f0) (it f0) we2), (oc6 r2 (.ref rx2) (.ref ry2) (nI (nN (mn f0))) rg2), (oa rx2 cI cap2 U2), (oa ry2 cI cap2 V2)]) [0, 6, 7, 1, 2, 3, 4, 5] rfl
    have hD := hD.part (cx := [(oc8 x (.ref sh) (.ref lw) (.ref ro) (.ref bq) (.ref bp) (.ref dq) (.ref dp) (.ref lv) (.ref sl) ds sd ul su), (oc7 sh (.ref fa) (nI ft)), (oq fa cF 200 FA), (oc1 fe2 (rk f0) (wd f0) (tw f0) (pa f0) (pb f0) (.ref lo2) (.ref lk2) fm2), (oc4 lk2 (kd f0) (st f0) (.ref r2) (gb f0) (it f0) we2), (oc6 r2 (.ref rx2) (.ref ry2) (nI (nN (mn f0))) rg2), (oa rx2 cI cap2 U2), (oa ry2 cI cap2 V2)]) [0, 6, 7, 1, 2, 3, 4, 5] (by decide) rfl
    have hP : va_P (dC, dI) classes ([(oc8 x (.ref sh) (.ref lw) (.ref ro) (.ref bq) (.ref bp) (.ref dq) (.ref dp) (.ref lv) (.ref sl) ds sd ul su), (oc7 sh (.ref fa) (nI ft)), (oq fa cF 200 FA), (oc1 fe2 (rk f0) (wd f0) (tw f0) (pa f0) (pb f0) (.ref lo2) (.ref lk2) fm2), (oc4 lk2 (kd f0) (st f0) (.ref r2) (gb f0) (it f0) we2), (oc6 r2 (.ref rx2) (.ref ry2) (nI (nN (mn f0))) rg2), (oa rx2 cI cap2 U2), (oa ry2 cI cap2 V2)] ++ va_pl T_1 f) H := hP
    have hD : va_D A ([(oc8 x (.ref sh) (.ref lw) (.ref ro) (.ref bq) (.ref bp) (.ref dq) (.ref dp) (.ref lv) (.ref sl) ds sd ul su), (oc7 sh (.ref fa) (nI ft)), (oq fa cF 200 FA), (oc1 fe2 (rk f0) (wd f0) (tw f0) (pa f0) (pb f0) (.ref lo2) (.ref lk2) fm2), (oc4 lk2 (kd f0) (st f0) (.ref r2) (gb f0) (it f0) we2), (oc6 r2 (.ref rx2) (.ref ry2) (nI (nN (mn f0))) rg2), (oa rx2 cI cap2 U2), (oa ry2 cI cap2 V2)] ++ va_pl T_1 f) := hD
    refine lv_astore_n (lv' := [(3, .ref fe2), (0, .ref x), (1, .int (nI f0)), (2, .int 0)]) hx hb dX10_told_8 rfl hl (by decide) rfl (fun ls hl => ?_)
    refine lv_aload_n hx hb dX10_told_9 rfl (lv_at hl 0 rfl) ?_
    refine lv_ifnonnull (tgt := 15) hx hb dX10_told_10 (by decide) ?_
    refine lv_iload_n hx hb dX10_told_15 rfl (lv_at hl 3 rfl) ?_
    refine lv_tableIn (tgt := 76) (off := 60) hx hb dX10_told_16 (by decide) (by decide) (by decide) (by decide) ?_
    refine lv_aload_n hx hb dX10_told_76 rfl (lv_at hl 0 rfl) ?_
    refine va_get (D := (dC, dI)) (ci := 1) (v := .ref lk2) (C := RX2) (T := TX2) (N := 8) hx hb hts inX2 hown hK hP 3 rfl rfl 6 (by decide) (hts _ mw_433) (fun _ h9 => h9) rfl dX10_told_77 ?_
    refine va_get (D := (dC, dI)) (ci := 4) (v := .int (kd f0)) (C := RX5) (T := TX5) (N := 6) hx hb hts inX5 hown hK hP 4 rfl rfl 0 (by decide) (hts _ mw_381) (fun _ h9 => h9) rfl dX10_told_80 ?_
    have hP := pl_back (cs := [(oc1 fe2 (rk f0) (wd f0) (tw f0) (pa f0) (pb f0) (.ref lo2) (.ref lk2) fm2), (oc4 lk2 (kd f0) (st f0) (.ref r2) (gb f0) (it f0) we2), (oc6 r2 (.ref rx2) (.ref ry2) (nI (nN (mn f0))) rg2), (oa rx2 cI cap2 U2), (oa ry2 cI cap2 V2)]) (L := L) (f := f) (X := [(oc8 x (.ref sh) (.ref lw) (.ref ro) (.ref bq) (.ref bp) (.ref dq) (.ref dp) (.ref lv) (.ref sl) ds sd ul su), (oc7 sh (.ref fa) (nI ft)), (oq fa cF 200 FA)]) (by rw [hT_1]; exact (show va_P (dC, dI) classes (([(oc8 x (.ref sh) (.ref lw) (.ref ro) (.ref bq) (.ref bp) (.ref dq) (.ref dp) (.ref lv) (.ref sl) ds sd ul su), (oc7 sh (.ref fa) (nI ft)), (oq fa cF 200 FA)] ++ [(oc1 fe2 (rk f0) (wd f0) (tw f0) (pa f0) (pb f0) (.ref lo2) (.ref lk2) fm2), (oc4 lk2 (kd f0) (st f0) (.ref r2) (gb f0) (it f0) we2), (oc6 r2 (.ref rx2) (.ref ry2) (nI (nN (mn f0))) rg2), (oa rx2 cI cap2 U2), (oa ry2 cI cap2 V2)]) ++ va_pl T_1 f) H from hP)) hc9_1
    have hD : va_D A ([(oc8 x (.ref sh) (.ref lw) (.ref ro) (.ref bq) (.ref bp) (.ref dq) (.ref dp) (.ref lv) (.ref sl) ds sd ul su), (oc7 sh (.ref fa) (nI ft)), (oq fa cF 200 FA)] ++ va_pl L f) := vaD_ae hD0_1 rfl
    have hP9 := hP.part (cx := [(oc8 x (.ref sh) (.ref lw) (.ref ro) (.ref bq) (.ref bp) (.ref dq) (.ref dp) (.ref lv) (.ref sl) ds sd ul su), (oc7 sh (.ref fa) (nI ft)), (oq fa cF 200 FA)]) [0, 1, 2] rfl
    have hD9 := hD.part (cx := [(oc8 x (.ref sh) (.ref lw) (.ref ro) (.ref bq) (.ref bp) (.ref dq) (.ref dp) (.ref lv) (.ref sl) ds sd ul su), (oc7 sh (.ref fa) (nI ft)), (oq fa cF 200 FA)]) [0, 1, 2] (by decide) rfl
    rw [hQ9]
    exact W.iret (v := kd f0) hx hb hr (fun t ht hW => ⟨⟨rfl, by rw [ht]; exact hP9, hD9⟩, hS.F ht⟩) hS.2.2 dX10_told_83
set_option maxHeartbeats 4000000 in
set_option maxRecDepth 100000 in
theorem k_told_1 (l : Launch) (dC : Nat → ClassId) (dI : Nat → Nat → Nat) (cI cZ cF : ClassId) (sz : Nat) (x : Nat) (sh : Nat) (lw : Nat) (ro : Nat) (bq : Nat) (bp : Nat) (dq : Nat) (dp : Nat) (lv : Nat) (sl : Nat) (sd : Int32) (ul : Int32) (su : Int32) (ds : Int32) (fa : Nat) (ft : Nat) (FA : Nat → Option Nat) (f0 : Nat) (L : List Nat) (f : Nat → va_E) (kd : Nat → Int32) (st : Nat → Int32) (tn : Nat → Int32) (mn : Nat → Int32) (cx : Nat → Int32) (cy : Nat → Int32) (rk : Nat → Int32) (wd : Nat → Int32) (tw : Nat → Int32) (pa : Nat → Int32) (pb : Nat → Int32) (gb : Nat → Int32) (it : Nat → Int32) (h200 : ft ≤ 200) (hf0 : f0 < ft) (hva : ∀ q, q < ft → vwA cI L f FA rk wd tw pa pb kd st gb it tn mn cx cy q) : Met l yX10_told (.code yX10_told cX10_told 4 (some .int) :: ws0) ({ frames := 1, cells := 0, slots := 0, locals := 21 } : Room) (va_Pc [.ref x, .int (nI f0), .int 1] (zPre (dC, dI) classes (zTy cI cZ cF) ([(oc8 x (.ref sh) (.ref lw) (.ref ro) (.ref bq) (.ref bp) (.ref dq) (.ref dp) (.ref lv) (.ref sl) ds sd ul su), (oc7 sh (.ref fa) (nI ft)), (oq fa cF 200 FA)] ++ va_pl L f) sz zXN)) (zQ (some (.int (rk f0))) (fun t => va_P (dC, dI) classes ([(oc8 x (.ref sh) (.ref lw) (.ref ro) (.ref bq) (.ref bp) (.ref dq) (.ref dp) (.ref lv) (.ref sl) ds sd ul su), (oc7 sh (.ref fa) (nI ft)), (oq fa cF 200 FA)] ++ va_pl L f) t.heap ∧ va_D (va_A ([(oc8 x (.ref sh) (.ref lw) (.ref ro) (.ref bq) (.ref bp) (.ref dq) (.ref dp) (.ref lv) (.ref sl) ds sd ul su), (oc7 sh (.ref fa) (nI ft)), (oq fa cF 200 FA)] ++ va_pl L f) sz) ([(oc8 x (.ref sh) (.ref lw) (.ref ro) (.ref bq) (.ref bp) (.ref dq) (.ref dp) (.ref lv) (.ref sl) ds sd ul su), (oc7 sh (.ref fa) (nI ft)), (oq fa cF 200 FA)] ++ va_pl L f)) (va_A ([(oc8 x (.ref sh) (.ref lw) (.ref ro) (.ref bq) (.ref bp) (.ref dq) (.ref dp) (.ref lv) (.ref sl) ds sd ul su), (oc7 sh (.ref fa) (nI ft)), (oq fa cF 200 FA)] ++ va_pl L f) sz)) 0 0 (va_A ([(oc8 x (.ref sh) (.ref lw) (.ref ro) (.ref bq) (.ref bp) (.ref dq) (.ref dp) (.ref lv) (.ref sl) ds sd ul su), (oc7 sh (.ref fa) (nI ft)), (oq fa cF 200 FA)] ++ va_pl L f) sz) := by
  refine Met.ofW (cc := cX10_told) (maxL := 4) (ret := (some .int)) (by decide) rfl ?_
  intro p e s m args below meth c s₁ B hml hv
  obtain ⟨rfl, hsz, hP, hK, hD0, hXN⟩ := hv
  have hx := B.exec
  have hb := B.bytes
  have hr := B.returns
  have hts0 := atoms_spec (ws := .code yX10_told cX10_told 4 (some .int) :: ws0) B.pre
  have hts : ∀ w9 ∈ ws0, w9.before ([.ref x, .int (nI f0), .int 1] : List Value).toArray s = true := fun w9 h => hts0 w9 (List.mem_cons_of_mem _ h)
  have hown : s.vm.findClass "ScaleShop" = some m.cls := findClass_of_methodNamed B.named
  have hlocks := B.notSynchronized
  subst hsz
  have hD := hD0.self (sz := s.heap.size)
  clear hD0
  generalize hAe : va_A ([(oc8 x (.ref sh) (.ref lw) (.ref ro) (.ref bq) (.ref bp) (.ref dq) (.ref dp) (.ref lv) (.ref sl) ds sd ul su), (oc7 sh (.ref fa) (nI ft)), (oq fa cF 200 FA)] ++ va_pl L f) s.heap.size = A at hD ⊢
  have hA : ∀ q : Nat, s.heap.size ≤ q → A q := fun q h => by rw [← hAe]; exact Or.inr h
  clear hAe
  have hS : va_S A s.heap s.heap [] := va_S.rf
  have hP : va_P (dC, dI) classes ([(oc8 x (.ref sh) (.ref lw) (.ref ro) (.ref bq) (.ref bp) (.ref dq) (.ref dp) (.ref lv) (.ref sl) ds sd ul su), (oc7 sh (.ref fa) (nI ft)), (oq fa cF 200 FA)] ++ va_pl L f) s.heap := hP
  obtain ⟨Q9, hQ9⟩ : ∃ Q9 : State → Prop, Q9 = MQ below (zQ (some (.int (rk f0))) (fun t => va_P (dC, dI) classes ([(oc8 x (.ref sh) (.ref lw) (.ref ro) (.ref bq) (.ref bp) (.ref dq) (.ref dp) (.ref lv) (.ref sl) ds sd ul su), (oc7 sh (.ref fa) (nI ft)), (oq fa cF 200 FA)] ++ va_pl L f) t.heap ∧ va_D A ([(oc8 x (.ref sh) (.ref lw) (.ref ro) (.ref bq) (.ref bp) (.ref dq) (.ref dp) (.ref lv) (.ref sl) ds sd ul su), (oc7 sh (.ref fa) (nI ft)), (oq fa cF 200 FA)] ++ va_pl L f)) A) ([.ref x, .int (nI f0), .int 1] : List Value).toArray s 0 0 A := ⟨_, rfl⟩
  rw [← hQ9]
  have hl := lv_entry ([.ref x, .int (nI f0), .int 1]) (n := 4) (Nat.le_of_ble_eq_true rfl)
  rw [lg_entry_eq]
  generalize (lg_sl ([.ref x, .int (nI f0), .int 1]) ++ List.replicate (4 - (lg_sl ([.ref x, .int (nI f0), .int 1])).length) Slot.unset).toArray = ls at hl ⊢
  have hl : lv_has ls 4 [(0, .ref x), (1, .int (nI f0)), (2, .int 1)] := hl
  rcases vwA_2 (hva f0 (by omega)) with ⟨ht2, fe2, lk2, lo2, we2, fm2, hFA2, hfe2, hlk2⟩ | ⟨ht2, fe2, lk2, lo2, we2, fm2, r2, rx2, ry2, cap2, U2, V2, rg2, hFA2, hfe2, hlk2, ⟨hr2, hrx2, hry2, hne2⟩, hrr2⟩
  · skip
    have hc9_1 : inPl L f [(oc1 fe2 (rk f0) (wd f0) (tw f0) (pa f0) (pb f0) (.ref lo2) (.ref lk2) fm2), (oc4 lk2 (kd f0) (st f0) .null (gb f0) (it f0) we2)] := ⟨hfe2, hlk2, trivial⟩
    have hD0_1 := hD
    obtain ⟨hP, hD⟩ := pl_out hP hD [(oc1 fe2 (rk f0) (wd f0) (tw f0) (pa f0) (pb f0) (.ref lo2) (.ref lk2) fm2), (oc4 lk2 (kd f0) (st f0) .null (gb f0) (it f0) we2)] hc9_1 (pwF hfe2.2 hlk2.2)
    generalize hT_1 : outPl L [(oc1 fe2 (rk f0) (wd f0) (tw f0) (pa f0) (pb f0) (.ref lo2) (.ref lk2) fm2), (oc4 lk2 (kd f0) (st f0) .null (gb f0) (it f0) we2)] = T_1 at hP hD
    have hP : va_P (dC, dI) classes ([(oc8 x (.ref sh) (.ref lw) (.ref ro) (.ref bq) (.ref bp) (.ref dq) (.ref dp) (.ref lv) (.ref sl) ds sd ul su), (oc7 sh (.ref fa) (nI ft)), (oq fa cF 200 FA), (oc1 fe2 (rk f0) (wd f0) (tw f0) (pa f0) (pb f0) (.ref lo2) (.ref lk2) fm2), (oc4 lk2 (kd f0) (st f0) .null (gb f0) (it f0) we2)] ++ va_pl T_1 f) s.heap := hP
    have hD : va_D A ([(oc8 x (.ref sh) (.ref lw) (.ref ro) (.ref bq) (.ref bp) (.ref dq) (.ref dp) (.ref lv) (.ref sl) ds sd ul su), (oc7 sh (.ref fa) (nI ft)), (oq fa cF 200 FA), (oc1 fe2 (rk f0) (wd f0) (tw f0) (pa f0) (pb f0) (.ref lo2) (.ref lk2) fm2), (oc4 lk2 (kd f0) (st f0) .null (gb f0) (it f0) we2)] ++ va_pl T_1 f) := hD
    refine lv_aload_n hx hb dX10_told_0 rfl (lv_at hl 0 rfl) ?_
    refine va_get (D := (dC, dI)) (ci := 8) (v := .ref sh) (C := RX10) (T := TX10) (N := 13) hx hb hts inX10 hown hK hP 0 rfl rfl 0 (by decide) (hts _ mw_309) (fun _ h9 => h9) rfl dX10_told_1 ?_
    refine lv_iload_n hx hb dX10_told_4 rfl (lv_at hl 1 rfl) ?_
    have hPc := hP.sub (ws' := [(oc7 sh (.ref fa) (nI ft)), (oq fa cF 200 FA)]) [1, 2] rfl
    have hDc := hD.sub (ws' := [(oc7 sh (.ref fa) (nI ft)), (oq fa cF 200 FA)]) [1, 2] (by decide) rfl
    have hFc := va_free (wc := [(oc7 sh (.ref fa) (nI ft)), (oq fa cF 200 FA)]) hD hS hA [1, 2] rfl
    refine zcall (st1 := [.ref fe2]) (va_runV (As := [.int (nI f0)]) (rest := []) ⟨hx, hb, hml, hown, hts⟩ (k_Sheet_find l dC dI cI cZ cF s.heap.size sh fa ft FA f0 fe2 (by omega) (by omega) (hFA2)) (cwV 1 hts (zz_gV mw_498 mw_499 mw_500 mw_100 mc_yX8_find) rfl rfl rfl (by decide +kernel) ⟨Nat.le_of_ble_eq_true rfl, Nat.le_of_ble_eq_true rfl⟩) (zPV2 (q0 := 0) (ci := 7) hPc hDc hK hXN rfl rfl) rfl rfl hl.1 rfl (lv_room (Nat.le_of_ble_eq_true rfl)) dX10_told_5 ⟨Nat.le_of_ble_eq_true rfl, Nat.le_of_ble_eq_true rfl⟩) hS hFc hFc rfl (fun t H1 locs ht hB hk1 hS => ?_)
    obtain ⟨hP1, hD1⟩ := hB
    rw [ht] at hP1
    obtain ⟨hP, hD⟩ := va_joinQ (wr := [(oc8 x (.ref sh) (.ref lw) (.ref ro) (.ref bq) (.ref bp) (.ref dq) (.ref dp) (.ref lv) (.ref sl) ds sd ul su), (oc1 fe2 (rk f0) (wd f0) (tw f0) (pa f0) (pb f0) (.ref lo2) (.ref lk2) fm2), (oc4 lk2 (kd f0) (st f0) .null (gb f0) (it f0) we2)]) (w1 := [(oc7 sh (.ref fa) (nI ft)), (oq fa cF 200 FA)]) hP hD [1, 2] [0, 3, 4] rfl rfl (by decide) (by decide) hk1 hFc hP1 hD1
    clear hk1 hPc hDc hFc hP1 hD1 ht
    generalize H1 = H at hP hS ⊢
    have hP := hP.part (cx := [(oc8 x (.ref sh) (.ref lw) (.ref ro) (.ref bq) (.ref bp) (.ref dq) (.ref dp) (.ref lv) (.ref sl) ds sd ul su), (oc7 sh (.ref fa) (nI ft)), (oq fa cF 200 FA), (oc1 fe2 (rk f0) (wd f0) (tw f0) (pa f0) (pb f0) (.ref lo2) (.ref lk2) fm2), (oc4 lk2 (kd f0) (st f0) .null (gb f0) (it f0) we2)]) [0, 3, 4, 1, 2] rfl
    have hD := hD.part (cx := [(oc8 x (.ref sh) (.ref lw) (.ref ro) (.ref bq) (.ref bp) (.ref dq) (.ref dp) (.ref lv) (.ref sl) ds sd ul su), (oc7 sh (.ref fa) (nI ft)), (oq fa cF 200 FA), (oc1 fe2 (rk f0) (wd f0) (tw f0) (pa f0) (pb f0) (.ref lo2) (.ref lk2) fm2), (oc4 lk2 (kd f0) (st f0) .null (gb f0) (it f0) we2)]) [0, 3, 4, 1, 2] (by decide) rfl
    have hP : va_P (dC, dI) classes ([(oc8 x (.ref sh) (.ref lw) (.ref ro) (.ref bq) (.ref bp) (.ref dq) (.ref dp) (.ref lv) (.ref sl) ds sd ul su), (oc7 sh (.ref fa) (nI ft)), (oq fa cF 200 FA), (oc1 fe2 (rk f0) (wd f0) (tw f0) (pa f0) (pb f0) (.ref lo2) (.ref lk2) fm2), (oc4 lk2 (kd f0) (st f0) .null (gb f0) (it f0) we2)] ++ va_pl T_1 f) H := hP
    have hD : va_D A ([(oc8 x (.ref sh) (.ref lw) (.ref ro) (.ref bq) (.ref bp) (.ref dq) (.ref dp) (.ref lv) (.ref sl) ds sd ul su), (oc7 sh (.ref fa) (nI ft)), (oq fa cF 200 FA), (oc1 fe2 (rk f0) (wd f0) (tw f0) (pa f0) (pb f0) (.ref lo2) (.ref lk2) fm2), (oc4 lk2 (kd f0) (st f0) .null (gb f0) (it f0) we2)] ++ va_pl T_1 f) := hD
    refine lv_astore_n (lv' := [(3, .ref fe2), (0, .ref x), (1, .int (nI f0)), (2, .int 1)]) hx hb dX10_told_8 rfl hl (by decide) rfl (fun ls hl => ?_)
    refine lv_aload_n hx hb dX10_told_9 rfl (lv_at hl 0 rfl) ?_
    refine lv_ifnonnull (tgt := 15) hx hb dX10_told_10 (by decide) ?_
    refine lv_iload_n hx hb dX10_told_15 rfl (lv_at hl 3 rfl) ?_
    refine lv_tableIn (tgt := 84) (off := 68) hx hb dX10_told_16 (by decide) (by decide) (by decide) (by decide) ?_
    refine lv_aload_n hx hb dX10_told_84 rfl (lv_at hl 0 rfl) ?_
    refine va_get (D := (dC, dI)) (ci := 1) (v := .int (rk f0)) (C := RX2) (T := TX2) (N := 8) hx hb hts inX2 hown hK hP 3 rfl rfl 0 (by decide) (hts _ mw_417) (fun _ h9 => h9) rfl dX10_told_85 ?_
    have hP := pl_back (cs := [(oc1 fe2 (rk f0) (wd f0) (tw f0) (pa f0) (pb f0) (.ref lo2) (.ref lk2) fm2), (oc4 lk2 (kd f0) (st f0) .null (gb f0) (it f0) we2)]) (L := L) (f := f) (X := [(oc8 x (.ref sh) (.ref lw) (.ref ro) (.ref bq) (.ref bp) (.ref dq) (.ref dp) (.ref lv) (.ref sl) ds sd ul su), (oc7 sh (.ref fa) (nI ft)), (oq fa cF 200 FA)]) (by rw [hT_1]; exact (show va_P (dC, dI) classes (([(oc8 x (.ref sh) (.ref lw) (.ref ro) (.ref bq) (.ref bp) (.ref dq) (.ref dp) (.ref lv) (.ref sl) ds sd ul su), (oc7 sh (.ref fa) (nI ft)), (oq fa cF 200 FA)] ++ [(oc1 fe2 (rk f0) (wd f0) (tw f0) (pa f0) (pb f0) (.ref lo2) (.ref lk2) fm2), (oc4 lk2 (kd f0) (st f0) .null (gb f0) (it f0) we2)]) ++ va_pl T_1 f) H from hP)) hc9_1
    have hD : va_D A ([(oc8 x (.ref sh) (.ref lw) (.ref ro) (.ref bq) (.ref bp) (.ref dq) (.ref dp) (.ref lv) (.ref sl) ds sd ul su), (oc7 sh (.ref fa) (nI ft)), (oq fa cF 200 FA)] ++ va_pl L f) := vaD_ae hD0_1 rfl
    have hP9 := hP.part (cx := [(oc8 x (.ref sh) (.ref lw) (.ref ro) (.ref bq) (.ref bp) (.ref dq) (.ref dp) (.ref lv) (.ref sl) ds sd ul su), (oc7 sh (.ref fa) (nI ft)), (oq fa cF 200 FA)]) [0, 1, 2] rfl
    have hD9 := hD.part (cx := [(oc8 x (.ref sh) (.ref lw) (.ref ro) (.ref bq) (.ref bp) (.ref dq) (.ref dp) (.ref lv) (.ref sl) ds sd ul su), (oc7 sh (.ref fa) (nI ft)), (oq fa cF 200 FA)]) [0, 1, 2] (by decide) rfl
    rw [hQ9]
    exact W.iret (v := rk f0) hx hb hr (fun t ht hW => ⟨⟨rfl, by rw [ht]; exact hP9, hD9⟩, hS.F ht⟩) hS.2.2 dX10_told_88
  · skip
    have hcap2 := hrr2.1
    have hcap3 := hrr2.2.1
    have hc9_1 : inPl L f [(oc1 fe2 (rk f0) (wd f0) (tw f0) (pa f0) (pb f0) (.ref lo2) (.ref lk2) fm2), (oc4 lk2 (kd f0) (st f0) (.ref r2) (gb f0) (it f0) we2), (oc6 r2 (.ref rx2) (.ref ry2) (nI (nN (mn f0))) rg2), (oa rx2 cI cap2 U2), (oa ry2 cI cap2 V2)] := ⟨hfe2, hlk2, hr2, hrx2, hry2, trivial⟩
    have hD0_1 := hD
    obtain ⟨hP, hD⟩ := pl_out hP hD [(oc1 fe2 (rk f0) (wd f0) (tw f0) (pa f0) (pb f0) (.ref lo2) (.ref lk2) fm2), (oc4 lk2 (kd f0) (st f0) (.ref r2) (gb f0) (it f0) we2), (oc6 r2 (.ref rx2) (.ref ry2) (nI (nN (mn f0))) rg2), (oa rx2 cI cap2 U2), (oa ry2 cI cap2 V2)] hc9_1 (pwR hfe2.2 hlk2.2 hr2.2 hrx2.2 hry2.2 hne2)
    generalize hT_1 : outPl L [(oc1 fe2 (rk f0) (wd f0) (tw f0) (pa f0) (pb f0) (.ref lo2) (.ref lk2) fm2), (oc4 lk2 (kd f0) (st f0) (.ref r2) (gb f0) (it f0) we2), (oc6 r2 (.ref rx2) (.ref ry2) (nI (nN (mn f0))) rg2), (oa rx2 cI cap2 U2), (oa ry2 cI cap2 V2)] = T_1 at hP hD
    have hP : va_P (dC, dI) classes ([(oc8 x (.ref sh) (.ref lw) (.ref ro) (.ref bq) (.ref bp) (.ref dq) (.ref dp) (.ref lv) (.ref sl) ds sd ul su), (oc7 sh (.ref fa) (nI ft)), (oq fa cF 200 FA), (oc1 fe2 (rk f0) (wd f0) (tw f0) (pa f0) (pb f0) (.ref lo2) (.ref lk2) fm2), (oc4 lk2 (kd f0) (st f0) (.ref r2) (gb f0) (it f0) we2), (oc6 r2 (.ref rx2) (.ref ry2) (nI (nN (mn f0))) rg2), (oa rx2 cI cap2 U2), (oa ry2 cI cap2 V2)] ++ va_pl T_1 f) s.heap := hP
    have hD : va_D A ([(oc8 x (.ref sh) (.ref lw) (.ref ro) (.ref bq) (.ref bp) (.ref dq) (.ref dp) (.ref lv) (.ref sl) ds sd ul su), (oc7 sh (.ref fa) (nI ft)), (oq fa cF 200 FA), (oc1 fe2 (rk f0) (wd f0) (tw f0) (pa f0) (pb f0) (.ref lo2) (.ref lk2) fm2), (oc4 lk2 (kd f0) (st f0) (.ref r2) (gb f0) (it f0) we2), (oc6 r2 (.ref rx2) (.ref ry2) (nI (nN (mn f0))) rg2), (oa rx2 cI cap2 U2), (oa ry2 cI cap2 V2)] ++ va_pl T_1 f) := hD
    refine lv_aload_n hx hb dX10_told_0 rfl (lv_at hl 0 rfl) ?_
    refine va_get (D := (dC, dI)) (ci := 8) (v := .ref sh) (C := RX10) (T := TX10) (N := 13) hx hb hts inX10 hown hK hP 0 rfl rfl 0 (by decide) (hts _ mw_309) (fun _ h9 => h9) rfl dX10_told_1 ?_
    refine lv_iload_n hx hb dX10_told_4 rfl (lv_at hl 1 rfl) ?_
    have hPc := hP.sub (ws' := [(oc7 sh (.ref fa) (nI ft)), (oq fa cF 200 FA)]) [1, 2] rfl
    have hDc := hD.sub (ws' := [(oc7 sh (.ref fa) (nI ft)), (oq fa cF 200 FA)]) [1, 2] (by decide) rfl
    have hFc := va_free (wc := [(oc7 sh (.ref fa) (nI ft)), (oq fa cF 200 FA)]) hD hS hA [1, 2] rfl
    refine zcall (st1 := [.ref fe2]) (va_runV (As := [.int (nI f0)]) (rest := []) ⟨hx, hb, hml, hown, hts⟩ (k_Sheet_find l dC dI cI cZ cF s.heap.size sh fa ft FA f0 fe2 (by omega) (by omega) (hFA2)) (cwV 1 hts (zz_gV mw_498 mw_499 mw_500 mw_100 mc_yX8_find) rfl rfl rfl (by decide +kernel) ⟨Nat.le_of_ble_eq_true rfl, Nat.le_of_ble_eq_true rfl⟩) (zPV2 (q0 := 0) (ci := 7) hPc hDc hK hXN rfl rfl) rfl rfl hl.1 rfl (lv_room (Nat.le_of_ble_eq_true rfl)) dX10_told_5 ⟨Nat.le_of_ble_eq_true rfl, Nat.le_of_ble_eq_true rfl⟩) hS hFc hFc rfl (fun t H1 locs ht hB hk1 hS => ?_)
    obtain ⟨hP1, hD1⟩ := hB
    rw [ht] at hP1
    obtain ⟨hP, hD⟩ := va_joinQ (wr := [(oc8 x (.ref sh) (.ref lw) (.ref ro) (.ref bq) (.ref bp) (.ref dq) (.ref dp) (.ref lv) (.ref sl) ds sd ul su), (oc1 fe2 (rk f0) (wd f0) (tw f0) (pa f0) (pb f0) (.ref lo2) (.ref lk2) fm2), (oc4 lk2 (kd f0) (st f0) (.ref r2) (gb f0) (it f0) we2), (oc6 r2 (.ref rx2) (.ref ry2) (nI (nN (mn f0))) rg2), (oa rx2 cI cap2 U2), (oa ry2 cI cap2 V2)]) (w1 := [(oc7 sh (.ref fa) (nI ft)), (oq fa cF 200 FA)]) hP hD [1, 2] [0, 3, 4, 5, 6, 7] rfl rfl (by decide) (by decide) hk1 hFc hP1 hD1
    clear hk1 hPc hDc hFc hP1 hD1 ht
    generalize H1 = H at hP hS ⊢
    have hP := hP.part (cx := [(oc8 x (.ref sh) (.ref lw) (.ref ro) (.ref bq) (.ref bp) (.ref dq) (.ref dp) (.ref lv) (.ref sl) ds sd ul su), (oc7 sh (.ref fa) (nI ft)), (oq fa cF 200 FA), (oc1 fe2 (rk f0) (wd f0) (tw f0) (pa f0) (pb f0) (.ref lo2) (.ref lk2) fm2), (oc4 lk2 (kd f0) (st f0) (.ref r2) (gb f0) (it f0) we2), (oc6 r2 (.ref rx2) (.ref ry2) (nI (nN (mn f0))) rg2), (oa rx2 cI cap2 U2), (oa ry2 cI cap2 V2)]) [0, 6, 7, 1, 2, 3, 4, 5] rfl
    have hD := hD.part (cx := [(oc8 x (.ref sh) (.ref lw) (.ref ro) (.ref bq) (.ref bp) (.ref dq) (.ref dp) (.ref lv) (.ref sl) ds sd ul su), (oc7 sh (.ref fa) (nI ft)), (oq fa cF 200 FA), (oc1 fe2 (rk f0) (wd f0) (tw f0) (pa f0) (pb f0) (.ref lo2) (.ref lk2) fm2), (oc4 lk2 (kd f0) (st f0) (.ref r2) (gb f0) (it f0) we2), (oc6 r2 (.ref rx2) (.ref ry2) (nI (nN (mn f0))) rg2), (oa rx2 cI cap2 U2), (oa ry2 cI cap2 V2)]) [0, 6, 7, 1, 2, 3, 4, 5] (by decide) rfl
    have hP : va_P (dC, dI) classes ([(oc8 x (.ref sh) (.ref lw) (.ref ro) (.ref bq) (.ref bp) (.ref dq) (.ref dp) (.ref lv) (.ref sl) ds sd ul su), (oc7 sh (.ref fa) (nI ft)), (oq fa cF 200 FA), (oc1 fe2 (rk f0) (wd f0) (tw f0) (pa f0) (pb f0) (.ref lo2) (.ref lk2) fm2), (oc4 lk2 (kd f0) (st f0) (.ref r2) (gb f0) (it f0) we2), (oc6 r2 (.ref rx2) (.ref ry2) (nI (nN (mn f0))) rg2), (oa rx2 cI cap2 U2), (oa ry2 cI cap2 V2)] ++ va_pl T_1 f) H := hP
    have hD : va_D A ([(oc8 x (.ref sh) (.ref lw) (.ref ro) (.ref bq) (.ref bp) (.ref dq) (.ref dp) (.ref lv) (.ref sl) ds sd ul su), (oc7 sh (.ref fa) (nI ft)), (oq fa cF 200 FA), (oc1 fe2 (rk f0) (wd f0) (tw f0) (pa f0) (pb f0) (.ref lo2) (.ref lk2) fm2), (oc4 lk2 (kd f0) (st f0) (.ref r2) (gb f0) (it f0) we2), (oc6 r2 (.ref rx2) (.ref ry2) (nI (nN (mn f0))) rg2), (oa rx2 cI cap2 U2), (oa ry2 cI cap2 V2)] ++ va_pl T_1 f) := hD
    refine lv_astore_n (lv' := [(3, .ref fe2), (0, .ref x), (1, .int (nI f0)), (2, .int 1)]) hx hb dX10_told_8 rfl hl (by decide) rfl (fun ls hl => ?_)
    refine lv_aload_n hx hb dX10_told_9 rfl (lv_at hl 0 rfl) ?_
    refine lv_ifnonnull (tgt := 15) hx hb dX10_told_10 (by decide) ?_
    refine lv_iload_n hx hb dX10_told_15 rfl (lv_at hl 3 rfl) ?_
    refine lv_tableIn (tgt := 84) (off := 68) hx hb dX10_told_16 (by decide) (by decide) (by decide) (by decide) ?_
    refine lv_aload_n hx hb dX10_told_84 rfl (lv_at hl 0 rfl) ?_
    refine va_get (D := (dC, dI)) (ci := 1) (v := .int (rk f0)) (C := RX2) (T := TX2) (N := 8) hx hb hts inX2 hown hK hP 3 rfl rfl 0 (by decide) (hts _ mw_417) (fun _ h9 => h9) rfl dX10_told_85 ?_
    have hP := pl_back (cs := [(oc1 fe2 (rk f0) (wd f0) (tw f0) (pa f0) (pb f0) (.ref lo2) (.ref lk2) fm2), (oc4 lk2 (kd f0) (st f0) (.ref r2) (gb f0) (it f0) we2), (oc6 r2 (.ref rx2) (.ref ry2) (nI (nN (mn f0))) rg2), (oa rx2 cI cap2 U2), (oa ry2 cI cap2 V2)]) (L := L) (f := f) (X := [(oc8 x (.ref sh) (.ref lw) (.ref ro) (.ref bq) (.ref bp) (.ref dq) (.ref dp) (.ref lv) (.ref sl) ds sd ul su), (oc7 sh (.ref fa) (nI ft)), (oq fa cF 200 FA)]) (by rw [hT_1]; exact (show va_P (dC, dI) classes (([(oc8 x (.ref sh) (.ref lw) (.ref ro) (.ref bq) (.ref bp) (.ref dq) (.ref dp) (.ref lv) (.ref sl) ds sd ul su), (oc7 sh (.ref fa) (nI ft)), (oq fa cF 200 FA)] ++ [(oc1 fe2 (rk f0) (wd f0) (tw f0) (pa f0) (pb f0) (.ref lo2) (.ref lk2) fm2), (oc4 lk2 (kd f0) (st f0) (.ref r2) (gb f0) (it f0) we2), (oc6 r2 (.ref rx2) (.ref ry2) (nI (nN (mn f0))) rg2), (oa rx2 cI cap2 U2), (oa ry2 cI cap2 V2)]) ++ va_pl T_1 f) H from hP)) hc9_1
    have hD : va_D A ([(oc8 x (.ref sh) (.ref lw) (.ref ro) (.ref bq) (.ref bp) (.ref dq) (.ref dp) (.ref lv) (.ref sl) ds sd ul su), (oc7 sh (.ref fa) (nI ft)), (oq fa cF 200 FA)] ++ va_pl L f) := vaD_ae hD0_1 rfl
    have hP9 := hP.part (cx := [(oc8 x (.ref sh) (.ref lw) (.ref ro) (.ref bq) (.ref bp) (.ref dq) (.ref dp) (.ref lv) (.ref sl) ds sd ul su), (oc7 sh (.ref fa) (nI ft)), (oq fa cF 200 FA)]) [0, 1, 2] rfl
    have hD9 := hD.part (cx := [(oc8 x (.ref sh) (.ref lw) (.ref ro) (.ref bq) (.ref bp) (.ref dq) (.ref dp) (.ref lv) (.ref sl) ds sd ul su), (oc7 sh (.ref fa) (nI ft)), (oq fa cF 200 FA)]) [0, 1, 2] (by decide) rfl
    rw [hQ9]
    exact W.iret (v := rk f0) hx hb hr (fun t ht hW => ⟨⟨rfl, by rw [ht]; exact hP9, hD9⟩, hS.F ht⟩) hS.2.2 dX10_told_88
set_option maxHeartbeats 4000000 in
set_option maxRecDepth 100000 in
theorem k_told_2 (l : Launch) (dC : Nat → ClassId) (dI : Nat → Nat → Nat) (cI cZ cF : ClassId) (sz : Nat) (x : Nat) (sh : Nat) (lw : Nat) (ro : Nat) (bq : Nat) (bp : Nat) (dq : Nat) (dp : Nat) (lv : Nat) (sl : Nat) (sd : Int32) (ul : Int32) (su : Int32) (ds : Int32) (fa : Nat) (ft : Nat) (FA : Nat → Option Nat) (f0 : Nat) (L : List Nat) (f : Nat → va_E) (kd : Nat → Int32) (st : Nat → Int32) (tn : Nat → Int32) (mn : Nat → Int32) (cx : Nat → Int32) (cy : Nat → Int32) (rk : Nat → Int32) (wd : Nat → Int32) (tw : Nat → Int32) (pa : Nat → Int32) (pb : Nat → Int32) (gb : Nat → Int32) (it : Nat → Int32) (h200 : ft ≤ 200) (hf0 : f0 < ft) (hva : ∀ q, q < ft → vwA cI L f FA rk wd tw pa pb kd st gb it tn mn cx cy q) : Met l yX10_told (.code yX10_told cX10_told 4 (some .int) :: ws0) ({ frames := 1, cells := 0, slots := 0, locals := 21 } : Room) (va_Pc [.ref x, .int (nI f0), .int 2] (zPre (dC, dI) classes (zTy cI cZ cF) ([(oc8 x (.ref sh) (.ref lw) (.ref ro) (.ref bq) (.ref bp) (.ref dq) (.ref dp) (.ref lv) (.ref sl) ds sd ul su), (oc7 sh (.ref fa) (nI ft)), (oq fa cF 200 FA)] ++ va_pl L f) sz zXN)) (zQ (some (.int (wd f0))) (fun t => va_P (dC, dI) classes ([(oc8 x (.ref sh) (.ref lw) (.ref ro) (.ref bq) (.ref bp) (.ref dq) (.ref dp) (.ref lv) (.ref sl) ds sd ul su), (oc7 sh (.ref fa) (nI ft)), (oq fa cF 200 FA)] ++ va_pl L f) t.heap ∧ va_D (va_A ([(oc8 x (.ref sh) (.ref lw) (.ref ro) (.ref bq) (.ref bp) (.ref dq) (.ref dp) (.ref lv) (.ref sl) ds sd ul su), (oc7 sh (.ref fa) (nI ft)), (oq fa cF 200 FA)] ++ va_pl L f) sz) ([(oc8 x (.ref sh) (.ref lw) (.ref ro) (.ref bq) (.ref bp) (.ref dq) (.ref dp) (.ref lv) (.ref sl) ds sd ul su), (oc7 sh (.ref fa) (nI ft)), (oq fa cF 200 FA)] ++ va_pl L f)) (va_A ([(oc8 x (.ref sh) (.ref lw) (.ref ro) (.ref bq) (.ref bp) (.ref dq) (.ref dp) (.ref lv) (.ref sl) ds sd ul su), (oc7 sh (.ref fa) (nI ft)), (oq fa cF 200 FA)] ++ va_pl L f) sz)) 0 0 (va_A ([(oc8 x (.ref sh) (.ref lw) (.ref ro) (.ref bq) (.ref bp) (.ref dq) (.ref dp) (.ref lv) (.ref sl) ds sd ul su), (oc7 sh (.ref fa) (nI ft)), (oq fa cF 200 FA)] ++ va_pl L f) sz) := by
  refine Met.ofW (cc := cX10_told) (maxL := 4) (ret := (some .int)) (by decide) rfl ?_
  intro p e s m args below meth c s₁ B hml hv
  obtain ⟨rfl, hsz, hP, hK, hD0, hXN⟩ := hv
  have hx := B.exec
  have hb := B.bytes
  have hr := B.returns
  have hts0 := atoms_spec (ws := .code yX10_told cX10_told 4 (some .int) :: ws0) B.pre
  have hts : ∀ w9 ∈ ws0, w9.before ([.ref x, .int (nI f0), .int 2] : List Value).toArray s = true := fun w9 h => hts0 w9 (List.mem_cons_of_mem _ h)
  have hown : s.vm.findClass "ScaleShop" = some m.cls := findClass_of_methodNamed B.named
  have hlocks := B.notSynchronized
  subst hsz
  have hD := hD0.self (sz := s.heap.size)
  clear hD0
  generalize hAe : va_A ([(oc8 x (.ref sh) (.ref lw) (.ref ro) (.ref bq) (.ref bp) (.ref dq) (.ref dp) (.ref lv) (.ref sl) ds sd ul su), (oc7 sh (.ref fa) (nI ft)), (oq fa cF 200 FA)] ++ va_pl L f) s.heap.size = A at hD ⊢
  have hA : ∀ q : Nat, s.heap.size ≤ q → A q := fun q h => by rw [← hAe]; exact Or.inr h
  clear hAe
  have hS : va_S A s.heap s.heap [] := va_S.rf
  have hP : va_P (dC, dI) classes ([(oc8 x (.ref sh) (.ref lw) (.ref ro) (.ref bq) (.ref bp) (.ref dq) (.ref dp) (.ref lv) (.ref sl) ds sd ul su), (oc7 sh (.ref fa) (nI ft)), (oq fa cF 200 FA)] ++ va_pl L f) s.heap := hP
  obtain ⟨Q9, hQ9⟩ : ∃ Q9 : State → Prop, Q9 = MQ below (zQ (some (.int (wd f0))) (fun t => va_P (dC, dI) classes ([(oc8 x (.ref sh) (.ref lw) (.ref ro) (.ref bq) (.ref bp) (.ref dq) (.ref dp) (.ref lv) (.ref sl) ds sd ul su), (oc7 sh (.ref fa) (nI ft)), (oq fa cF 200 FA)] ++ va_pl L f) t.heap ∧ va_D A ([(oc8 x (.ref sh) (.ref lw) (.ref ro) (.ref bq) (.ref bp) (.ref dq) (.ref dp) (.ref lv) (.ref sl) ds sd ul su), (oc7 sh (.ref fa) (nI ft)), (oq fa cF 200 FA)] ++ va_pl L f)) A) ([.ref x, .int (nI f0), .int 2] : List Value).toArray s 0 0 A := ⟨_, rfl⟩
  rw [← hQ9]
  have hl := lv_entry ([.ref x, .int (nI f0), .int 2]) (n := 4) (Nat.le_of_ble_eq_true rfl)
  rw [lg_entry_eq]
  generalize (lg_sl ([.ref x, .int (nI f0), .int 2]) ++ List.replicate (4 - (lg_sl ([.ref x, .int (nI f0), .int 2])).length) Slot.unset).toArray = ls at hl ⊢
  have hl : lv_has ls 4 [(0, .ref x), (1, .int (nI f0)), (2, .int 2)] := hl
  rcases vwA_2 (hva f0 (by omega)) with ⟨ht2, fe2, lk2, lo2, we2, fm2, hFA2, hfe2, hlk2⟩ | ⟨ht2, fe2, lk2, lo2, we2, fm2, r2, rx2, ry2, cap2, U2, V2, rg2, hFA2, hfe2, hlk2, ⟨hr2, hrx2, hry2, hne2⟩, hrr2⟩
  · skip
    have hc9_1 : inPl L f [(oc1 fe2 (rk f0) (wd f0) (tw f0) (pa f0) (pb f0) (.ref lo2) (.ref lk2) fm2), (oc4 lk2 (kd f0) (st f0) .null (gb f0) (it f0) we2)] := ⟨hfe2, hlk2, trivial⟩
    have hD0_1 := hD
    obtain ⟨hP, hD⟩ := pl_out hP hD [(oc1 fe2 (rk f0) (wd f0) (tw f0) (pa f0) (pb f0) (.ref lo2) (.ref lk2) fm2), (oc4 lk2 (kd f0) (st f0) .null (gb f0) (it f0) we2)] hc9_1 (pwF hfe2.2 hlk2.2)
    generalize hT_1 : outPl L [(oc1 fe2 (rk f0) (wd f0) (tw f0) (pa f0) (pb f0) (.ref lo2) (.ref lk2) fm2), (oc4 lk2 (kd f0) (st f0) .null (gb f0) (it f0) we2)] = T_1 at hP hD
    have hP : va_P (dC, dI) classes ([(oc8 x (.ref sh) (.ref lw) (.ref ro) (.ref bq) (.ref bp) (.ref dq) (.ref dp) (.ref lv) (.ref sl) ds sd ul su), (oc7 sh (.ref fa) (nI ft)), (oq fa cF 200 FA), (oc1 fe2 (rk f0) (wd f0) (tw f0) (pa f0) (pb f0) (.ref lo2) (.ref lk2) fm2), (oc4 lk2 (kd f0) (st f0) .null (gb f0) (it f0) we2)] ++ va_pl T_1 f) s.heap := hP
    have hD : va_D A ([(oc8 x (.ref sh) (.ref lw) (.ref ro) (.ref bq) (.ref bp) (.ref dq) (.ref dp) (.ref lv) (.ref sl) ds sd ul su), (oc7 sh (.ref fa) (nI ft)), (oq fa cF 200 FA), (oc1 fe2 (rk f0) (wd f0) (tw f0) (pa f0) (pb f0) (.ref lo2) (.ref lk2) fm2), (oc4 lk2 (kd f0) (st f0) .null (gb f0) (it f0) we2)] ++ va_pl T_1 f) := hD
    refine lv_aload_n hx hb dX10_told_0 rfl (lv_at hl 0 rfl) ?_
    refine va_get (D := (dC, dI)) (ci := 8) (v := .ref sh) (C := RX10) (T := TX10) (N := 13) hx hb hts inX10 hown hK hP 0 rfl rfl 0 (by decide) (hts _ mw_309) (fun _ h9 => h9) rfl dX10_told_1 ?_
    refine lv_iload_n hx hb dX10_told_4 rfl (lv_at hl 1 rfl) ?_
    have hPc := hP.sub (ws' := [(oc7 sh (.ref fa) (nI ft)), (oq fa cF 200 FA)]) [1, 2] rfl
    have hDc := hD.sub (ws' := [(oc7 sh (.ref fa) (nI ft)), (oq fa cF 200 FA)]) [1, 2] (by decide) rfl
    have hFc := va_free (wc := [(oc7 sh (.ref fa) (nI ft)), (oq fa cF 200 FA)]) hD hS hA [1, 2] rfl
    refine zcall (st1 := [.ref fe2]) (va_runV (As := [.int (nI f0)]) (rest := []) ⟨hx, hb, hml, hown, hts⟩ (k_Sheet_find l dC dI cI cZ cF s.heap.size sh fa ft FA f0 fe2 (by omega) (by omega) (hFA2)) (cwV 1 hts (zz_gV mw_498 mw_499 mw_500 mw_100 mc_yX8_find) rfl rfl rfl (by decide +kernel) ⟨Nat.le_of_ble_eq_true rfl, Nat.le_of_ble_eq_true rfl⟩) (zPV2 (q0 := 0) (ci := 7) hPc hDc hK hXN rfl rfl) rfl rfl hl.1 rfl (lv_room (Nat.le_of_ble_eq_true rfl)) dX10_told_5 ⟨Nat.le_of_ble_eq_true rfl, Nat.le_of_ble_eq_true rfl⟩) hS hFc hFc rfl (fun t H1 locs ht hB hk1 hS => ?_)
    obtain ⟨hP1, hD1⟩ := hB
    rw [ht] at hP1
    obtain ⟨hP, hD⟩ := va_joinQ (wr := [(oc8 x (.ref sh) (.ref lw) (.ref ro) (.ref bq) (.ref bp) (.ref dq) (.ref dp) (.ref lv) (.ref sl) ds sd ul su), (oc1 fe2 (rk f0) (wd f0) (tw f0) (pa f0) (pb f0) (.ref lo2) (.ref lk2) fm2), (oc4 lk2 (kd f0) (st f0) .null (gb f0) (it f0) we2)]) (w1 := [(oc7 sh (.ref fa) (nI ft)), (oq fa cF 200 FA)]) hP hD [1, 2] [0, 3, 4] rfl rfl (by decide) (by decide) hk1 hFc hP1 hD1
    clear hk1 hPc hDc hFc hP1 hD1 ht
    generalize H1 = H at hP hS ⊢
    have hP := hP.part (cx := [(oc8 x (.ref sh) (.ref lw) (.ref ro) (.ref bq) (.ref bp) (.ref dq) (.ref dp) (.ref lv) (.ref sl) ds sd ul su), (oc7 sh (.ref fa) (nI ft)), (oq fa cF 200 FA), (oc1 fe2 (rk f0) (wd f0) (tw f0) (pa f0) (pb f0) (.ref lo2) (.ref lk2) fm2), (oc4 lk2 (kd f0) (st f0) .null (gb f0) (it f0) we2)]) [0, 3, 4, 1, 2] rfl
    have hD := hD.part (cx := [(oc8 x (.ref sh) (.ref lw) (.ref ro) (.ref bq) (.ref bp) (.ref dq) (.ref dp) (.ref lv) (.ref sl) ds sd ul su), (oc7 sh (.ref fa) (nI ft)), (oq fa cF 200 FA), (oc1 fe2 (rk f0) (wd f0) (tw f0) (pa f0) (pb f0) (.ref lo2) (.ref lk2) fm2), (oc4 lk2 (kd f0) (st f0) .null (gb f0) (it f0) we2)]) [0, 3, 4, 1, 2] (by decide) rfl
    have hP : va_P (dC, dI) classes ([(oc8 x (.ref sh) (.ref lw) (.ref ro) (.ref bq) (.ref bp) (.ref dq) (.ref dp) (.ref lv) (.ref sl) ds sd ul su), (oc7 sh (.ref fa) (nI ft)), (oq fa cF 200 FA), (oc1 fe2 (rk f0) (wd f0) (tw f0) (pa f0) (pb f0) (.ref lo2) (.ref lk2) fm2), (oc4 lk2 (kd f0) (st f0) .null (gb f0) (it f0) we2)] ++ va_pl T_1 f) H := hP
    have hD : va_D A ([(oc8 x (.ref sh) (.ref lw) (.ref ro) (.ref bq) (.ref bp) (.ref dq) (.ref dp) (.ref lv) (.ref sl) ds sd ul su), (oc7 sh (.ref fa) (nI ft)), (oq fa cF 200 FA), (oc1 fe2 (rk f0) (wd f0) (tw f0) (pa f0) (pb f0) (.ref lo2) (.ref lk2) fm2), (oc4 lk2 (kd f0) (st f0) .null (gb f0) (it f0) we2)] ++ va_pl T_1 f) := hD
    refine lv_astore_n (lv' := [(3, .ref fe2), (0, .ref x), (1, .int (nI f0)), (2, .int 2)]) hx hb dX10_told_8 rfl hl (by decide) rfl (fun ls hl => ?_)
    refine lv_aload_n hx hb dX10_told_9 rfl (lv_at hl 0 rfl) ?_
    refine lv_ifnonnull (tgt := 15) hx hb dX10_told_10 (by decide) ?_
    refine lv_iload_n hx hb dX10_told_15 rfl (lv_at hl 3 rfl) ?_
    refine lv_tableIn (tgt := 89) (off := 73) hx hb dX10_told_16 (by decide) (by decide) (by decide) (by decide) ?_
    refine lv_aload_n hx hb dX10_told_89 rfl (lv_at hl 0 rfl) ?_
    refine va_get (D := (dC, dI)) (ci := 1) (v := .int (wd f0)) (C := RX2) (T := TX2) (N := 8) hx hb hts inX2 hown hK hP 3 rfl rfl 1 (by decide) (hts _ mw_419) (fun _ h9 => h9) rfl dX10_told_90 ?_
    have hP := pl_back (cs := [(oc1 fe2 (rk f0) (wd f0) (tw f0) (pa f0) (pb f0) (.ref lo2) (.ref lk2) fm2), (oc4 lk2 (kd f0) (st f0) .null (gb f0) (it f0) we2)]) (L := L) (f := f) (X := [(oc8 x (.ref sh) (.ref lw) (.ref ro) (.ref bq) (.ref bp) (.ref dq) (.ref dp) (.ref lv) (.ref sl) ds sd ul su), (oc7 sh (.ref fa) (nI ft)), (oq fa cF 200 FA)]) (by rw [hT_1]; exact (show va_P (dC, dI) classes (([(oc8 x (.ref sh) (.ref lw) (.ref ro) (.ref bq) (.ref bp) (.ref dq) (.ref dp) (.ref lv) (.ref sl) ds sd ul su), (oc7 sh (.ref fa) (nI ft)), (oq fa cF 200 FA)] ++ [(oc1 fe2 (rk f0) (wd f0) (tw f0) (pa f0) (pb f0) (.ref lo2) (.ref lk2) fm2), (oc4 lk2 (kd f0) (st f0) .null (gb f0) (it f0) we2)]) ++ va_pl T_1 f) H from hP)) hc9_1
    have hD : va_D A ([(oc8 x (.ref sh) (.ref lw) (.ref ro) (.ref bq) (.ref bp) (.ref dq) (.ref dp) (.ref lv) (.ref sl) ds sd ul su), (oc7 sh (.ref fa) (nI ft)), (oq fa cF 200 FA)] ++ va_pl L f) := vaD_ae hD0_1 rfl
    have hP9 := hP.part (cx := [(oc8 x (.ref sh) (.ref lw) (.ref ro) (.ref bq) (.ref bp) (.ref dq) (.ref dp) (.ref lv) (.ref sl) ds sd ul su), (oc7 sh (.ref fa) (nI ft)), (oq fa cF 200 FA)]) [0, 1, 2] rfl
    have hD9 := hD.part (cx := [(oc8 x (.ref sh) (.ref lw) (.ref ro) (.ref bq) (.ref bp) (.ref dq) (.ref dp) (.ref lv) (.ref sl) ds sd ul su), (oc7 sh (.ref fa) (nI ft)), (oq fa cF 200 FA)]) [0, 1, 2] (by decide) rfl
    rw [hQ9]
    exact W.iret (v := wd f0) hx hb hr (fun t ht hW => ⟨⟨rfl, by rw [ht]; exact hP9, hD9⟩, hS.F ht⟩) hS.2.2 dX10_told_93
  · skip
    have hcap2 := hrr2.1
    have hcap3 := hrr2.2.1
    have hc9_1 : inPl L f [(oc1 fe2 (rk f0) (wd f0) (tw f0) (pa f0) (pb f0) (.ref lo2) (.ref lk2) fm2), (oc4 lk2 (kd f0) (st f0) (.ref r2) (gb f0) (it f0) we2), (oc6 r2 (.ref rx2) (.ref ry2) (nI (nN (mn f0))) rg2), (oa rx2 cI cap2 U2), (oa ry2 cI cap2 V2)] := ⟨hfe2, hlk2, hr2, hrx2, hry2, trivial⟩
    have hD0_1 := hD
    obtain ⟨hP, hD⟩ := pl_out hP hD [(oc1 fe2 (rk f0) (wd f0) (tw f0) (pa f0) (pb f0) (.ref lo2) (.ref lk2) fm2), (oc4 lk2 (kd f0) (st f0) (.ref r2) (gb f0) (it f0) we2), (oc6 r2 (.ref rx2) (.ref ry2) (nI (nN (mn f0))) rg2), (oa rx2 cI cap2 U2), (oa ry2 cI cap2 V2)] hc9_1 (pwR hfe2.2 hlk2.2 hr2.2 hrx2.2 hry2.2 hne2)
    generalize hT_1 : outPl L [(oc1 fe2 (rk f0) (wd f0) (tw f0) (pa f0) (pb f0) (.ref lo2) (.ref lk2) fm2), (oc4 lk2 (kd f0) (st f0) (.ref r2) (gb f0) (it f0) we2), (oc6 r2 (.ref rx2) (.ref ry2) (nI (nN (mn f0))) rg2), (oa rx2 cI cap2 U2), (oa ry2 cI cap2 V2)] = T_1 at hP hD
    have hP : va_P (dC, dI) classes ([(oc8 x (.ref sh) (.ref lw) (.ref ro) (.ref bq) (.ref bp) (.ref dq) (.ref dp) (.ref lv) (.ref sl) ds sd ul su), (oc7 sh (.ref fa) (nI ft)), (oq fa cF 200 FA), (oc1 fe2 (rk f0) (wd f0) (tw f0) (pa f0) (pb f0) (.ref lo2) (.ref lk2) fm2), (oc4 lk2 (kd f0) (st f0) (.ref r2) (gb f0) (it f0) we2), (oc6 r2 (.ref rx2) (.ref ry2) (nI (nN (mn f0))) rg2), (oa rx2 cI cap2 U2), (oa ry2 cI cap2 V2)] ++ va_pl T_1 f) s.heap := hP
    have hD : va_D A ([(oc8 x (.ref sh) (.ref lw) (.ref ro) (.ref bq) (.ref bp) (.ref dq) (.ref dp) (.ref lv) (.ref sl) ds sd ul su), (oc7 sh (.ref fa) (nI ft)), (oq fa cF 200 FA), (oc1 fe2 (rk f0) (wd f0) (tw f0) (pa f0) (pb f0) (.ref lo2) (.ref lk2) fm2), (oc4 lk2 (kd f0) (st f0) (.ref r2) (gb f0) (it f0) we2), (oc6 r2 (.ref rx2) (.ref ry2) (nI (nN (mn f0))) rg2), (oa rx2 cI cap2 U2), (oa ry2 cI cap2 V2)] ++ va_pl T_1 f) := hD
    refine lv_aload_n hx hb dX10_told_0 rfl (lv_at hl 0 rfl) ?_
    refine va_get (D := (dC, dI)) (ci := 8) (v := .ref sh) (C := RX10) (T := TX10) (N := 13) hx hb hts inX10 hown hK hP 0 rfl rfl 0 (by decide) (hts _ mw_309) (fun _ h9 => h9) rfl dX10_told_1 ?_
    refine lv_iload_n hx hb dX10_told_4 rfl (lv_at hl 1 rfl) ?_
    have hPc := hP.sub (ws' := [(oc7 sh (.ref fa) (nI ft)), (oq fa cF 200 FA)]) [1, 2] rfl
    have hDc := hD.sub (ws' := [(oc7 sh (.ref fa) (nI ft)), (oq fa cF 200 FA)]) [1, 2] (by decide) rfl
    have hFc := va_free (wc := [(oc7 sh (.ref fa) (nI ft)), (oq fa cF 200 FA)]) hD hS hA [1, 2] rfl
    refine zcall (st1 := [.ref fe2]) (va_runV (As := [.int (nI f0)]) (rest := []) ⟨hx, hb, hml, hown, hts⟩ (k_Sheet_find l dC dI cI cZ cF s.heap.size sh fa ft FA f0 fe2 (by omega) (by omega) (hFA2)) (cwV 1 hts (zz_gV mw_498 mw_499 mw_500 mw_100 mc_yX8_find) rfl rfl rfl (by decide +kernel) ⟨Nat.le_of_ble_eq_true rfl, Nat.le_of_ble_eq_true rfl⟩) (zPV2 (q0 := 0) (ci := 7) hPc hDc hK hXN rfl rfl) rfl rfl hl.1 rfl (lv_room (Nat.le_of_ble_eq_true rfl)) dX10_told_5 ⟨Nat.le_of_ble_eq_true rfl, Nat.le_of_ble_eq_true rfl⟩) hS hFc hFc rfl (fun t H1 locs ht hB hk1 hS => ?_)
    obtain ⟨hP1, hD1⟩ := hB
    rw [ht] at hP1
    obtain ⟨hP, hD⟩ := va_joinQ (wr := [(oc8 x (.ref sh) (.ref lw) (.ref ro) (.ref bq) (.ref bp) (.ref dq) (.ref dp) (.ref lv) (.ref sl) ds sd ul su), (oc1 fe2 (rk f0) (wd f0) (tw f0) (pa f0) (pb f0) (.ref lo2) (.ref lk2) fm2), (oc4 lk2 (kd f0) (st f0) (.ref r2) (gb f0) (it f0) we2), (oc6 r2 (.ref rx2) (.ref ry2) (nI (nN (mn f0))) rg2), (oa rx2 cI cap2 U2), (oa ry2 cI cap2 V2)]) (w1 := [(oc7 sh (.ref fa) (nI ft)), (oq fa cF 200 FA)]) hP hD [1, 2] [0, 3, 4, 5, 6, 7] rfl rfl (by decide) (by decide) hk1 hFc hP1 hD1
    clear hk1 hPc hDc hFc hP1 hD1 ht
    generalize H1 = H at hP hS ⊢
    have hP := hP.part (cx := [(oc8 x (.ref sh) (.ref lw) (.ref ro) (.ref bq) (.ref bp) (.ref dq) (.ref dp) (.ref lv) (.ref sl) ds sd ul su), (oc7 sh (.ref fa) (nI ft)), (oq fa cF 200 FA), (oc1 fe2 (rk f0) (wd f0) (tw f0) (pa f0) (pb f0) (.ref lo2) (.ref lk2) fm2), (oc4 lk2 (kd f0) (st f0) (.ref r2) (gb f0) (it f0) we2), (oc6 r2 (.ref rx2) (.ref ry2) (nI (nN (mn f0))) rg2), (oa rx2 cI cap2 U2), (oa ry2 cI cap2 V2)]) [0, 6, 7, 1, 2, 3, 4, 5] rfl
    have hD := hD.part (cx := [(oc8 x (.ref sh) (.ref lw) (.ref ro) (.ref bq) (.ref bp) (.ref dq) (.ref dp) (.ref lv) (.ref sl) ds sd ul su), (oc7 sh (.ref fa) (nI ft)), (oq fa cF 200 FA), (oc1 fe2 (rk f0) (wd f0) (tw f0) (pa f0) (pb f0) (.ref lo2) (.ref lk2) fm2), (oc4 lk2 (kd f0) (st f0) (.ref r2) (gb f0) (it f0) we2), (oc6 r2 (.ref rx2) (.ref ry2) (nI (nN (mn f0))) rg2), (oa rx2 cI cap2 U2), (oa ry2 cI cap2 V2)]) [0, 6, 7, 1, 2, 3, 4, 5] (by decide) rfl
    have hP : va_P (dC, dI) classes ([(oc8 x (.ref sh) (.ref lw) (.ref ro) (.ref bq) (.ref bp) (.ref dq) (.ref dp) (.ref lv) (.ref sl) ds sd ul su), (oc7 sh (.ref fa) (nI ft)), (oq fa cF 200 FA), (oc1 fe2 (rk f0) (wd f0) (tw f0) (pa f0) (pb f0) (.ref lo2) (.ref lk2) fm2), (oc4 lk2 (kd f0) (st f0) (.ref r2) (gb f0) (it f0) we2), (oc6 r2 (.ref rx2) (.ref ry2) (nI (nN (mn f0))) rg2), (oa rx2 cI cap2 U2), (oa ry2 cI cap2 V2)] ++ va_pl T_1 f) H := hP
    have hD : va_D A ([(oc8 x (.ref sh) (.ref lw) (.ref ro) (.ref bq) (.ref bp) (.ref dq) (.ref dp) (.ref lv) (.ref sl) ds sd ul su), (oc7 sh (.ref fa) (nI ft)), (oq fa cF 200 FA), (oc1 fe2 (rk f0) (wd f0) (tw f0) (pa f0) (pb f0) (.ref lo2) (.ref lk2) fm2), (oc4 lk2 (kd f0) (st f0) (.ref r2) (gb f0) (it f0) we2), (oc6 r2 (.ref rx2) (.ref ry2) (nI (nN (mn f0))) rg2), (oa rx2 cI cap2 U2), (oa ry2 cI cap2 V2)] ++ va_pl T_1 f) := hD
    refine lv_astore_n (lv' := [(3, .ref fe2), (0, .ref x), (1, .int (nI f0)), (2, .int 2)]) hx hb dX10_told_8 rfl hl (by decide) rfl (fun ls hl => ?_)
    refine lv_aload_n hx hb dX10_told_9 rfl (lv_at hl 0 rfl) ?_
    refine lv_ifnonnull (tgt := 15) hx hb dX10_told_10 (by decide) ?_
    refine lv_iload_n hx hb dX10_told_15 rfl (lv_at hl 3 rfl) ?_
    refine lv_tableIn (tgt := 89) (off := 73) hx hb dX10_told_16 (by decide) (by decide) (by decide) (by decide) ?_
    refine lv_aload_n hx hb dX10_told_89 rfl (lv_at hl 0 rfl) ?_
    refine va_get (D := (dC, dI)) (ci := 1) (v := .int (wd f0)) (C := RX2) (T := TX2) (N := 8) hx hb hts inX2 hown hK hP 3 rfl rfl 1 (by decide) (hts _ mw_419) (fun _ h9 => h9) rfl dX10_told_90 ?_
    have hP := pl_back (cs := [(oc1 fe2 (rk f0) (wd f0) (tw f0) (pa f0) (pb f0) (.ref lo2) (.ref lk2) fm2), (oc4 lk2 (kd f0) (st f0) (.ref r2) (gb f0) (it f0) we2), (oc6 r2 (.ref rx2) (.ref ry2) (nI (nN (mn f0))) rg2), (oa rx2 cI cap2 U2), (oa ry2 cI cap2 V2)]) (L := L) (f := f) (X := [(oc8 x (.ref sh) (.ref lw) (.ref ro) (.ref bq) (.ref bp) (.ref dq) (.ref dp) (.ref lv) (.ref sl) ds sd ul su), (oc7 sh (.ref fa) (nI ft)), (oq fa cF 200 FA)]) (by rw [hT_1]; exact (show va_P (dC, dI) classes (([(oc8 x (.ref sh) (.ref lw) (.ref ro) (.ref bq) (.ref bp) (.ref dq) (.ref dp) (.ref lv) (.ref sl) ds sd ul su), (oc7 sh (.ref fa) (nI ft)), (oq fa cF 200 FA)] ++ [(oc1 fe2 (rk f0) (wd f0) (tw f0) (pa f0) (pb f0) (.ref lo2) (.ref lk2) fm2), (oc4 lk2 (kd f0) (st f0) (.ref r2) (gb f0) (it f0) we2), (oc6 r2 (.ref rx2) (.ref ry2) (nI (nN (mn f0))) rg2), (oa rx2 cI cap2 U2), (oa ry2 cI cap2 V2)]) ++ va_pl T_1 f) H from hP)) hc9_1
    have hD : va_D A ([(oc8 x (.ref sh) (.ref lw) (.ref ro) (.ref bq) (.ref bp) (.ref dq) (.ref dp) (.ref lv) (.ref sl) ds sd ul su), (oc7 sh (.ref fa) (nI ft)), (oq fa cF 200 FA)] ++ va_pl L f) := vaD_ae hD0_1 rfl
    have hP9 := hP.part (cx := [(oc8 x (.ref sh) (.ref lw) (.ref ro) (.ref bq) (.ref bp) (.ref dq) (.ref dp) (.ref lv) (.ref sl) ds sd ul su), (oc7 sh (.ref fa) (nI ft)), (oq fa cF 200 FA)]) [0, 1, 2] rfl
    have hD9 := hD.part (cx := [(oc8 x (.ref sh) (.ref lw) (.ref ro) (.ref bq) (.ref bp) (.ref dq) (.ref dp) (.ref lv) (.ref sl) ds sd ul su), (oc7 sh (.ref fa) (nI ft)), (oq fa cF 200 FA)]) [0, 1, 2] (by decide) rfl
    rw [hQ9]
    exact W.iret (v := wd f0) hx hb hr (fun t ht hW => ⟨⟨rfl, by rw [ht]; exact hP9, hD9⟩, hS.F ht⟩) hS.2.2 dX10_told_93
set_option maxHeartbeats 4000000 in
set_option maxRecDepth 100000 in
theorem k_told_3 (l : Launch) (dC : Nat → ClassId) (dI : Nat → Nat → Nat) (cI cZ cF : ClassId) (sz : Nat) (x : Nat) (sh : Nat) (lw : Nat) (ro : Nat) (bq : Nat) (bp : Nat) (dq : Nat) (dp : Nat) (lv : Nat) (sl : Nat) (sd : Int32) (ul : Int32) (su : Int32) (ds : Int32) (fa : Nat) (ft : Nat) (FA : Nat → Option Nat) (f0 : Nat) (L : List Nat) (f : Nat → va_E) (kd : Nat → Int32) (st : Nat → Int32) (tn : Nat → Int32) (mn : Nat → Int32) (cx : Nat → Int32) (cy : Nat → Int32) (rk : Nat → Int32) (wd : Nat → Int32) (tw : Nat → Int32) (pa : Nat → Int32) (pb : Nat → Int32) (gb : Nat → Int32) (it : Nat → Int32) (h200 : ft ≤ 200) (hf0 : f0 < ft) (hva : ∀ q, q < ft → vwA cI L f FA rk wd tw pa pb kd st gb it tn mn cx cy q) : Met l yX10_told (.code yX10_told cX10_told 4 (some .int) :: ws0) ({ frames := 1, cells := 0, slots := 0, locals := 21 } : Room) (va_Pc [.ref x, .int (nI f0), .int 3] (zPre (dC, dI) classes (zTy cI cZ cF) ([(oc8 x (.ref sh) (.ref lw) (.ref ro) (.ref bq) (.ref bp) (.ref dq) (.ref dp) (.ref lv) (.ref sl) ds sd ul su), (oc7 sh (.ref fa) (nI ft)), (oq fa cF 200 FA)] ++ va_pl L f) sz zXN)) (zQ (some (.int (tw f0))) (fun t => va_P (dC, dI) classes ([(oc8 x (.ref sh) (.ref lw) (.ref ro) (.ref bq) (.ref bp) (.ref dq) (.ref dp) (.ref lv) (.ref sl) ds sd ul su), (oc7 sh (.ref fa) (nI ft)), (oq fa cF 200 FA)] ++ va_pl L f) t.heap ∧ va_D (va_A ([(oc8 x (.ref sh) (.ref lw) (.ref ro) (.ref bq) (.ref bp) (.ref dq) (.ref dp) (.ref lv) (.ref sl) ds sd ul su), (oc7 sh (.ref fa) (nI ft)), (oq fa cF 200 FA)] ++ va_pl L f) sz) ([(oc8 x (.ref sh) (.ref lw) (.ref ro) (.ref bq) (.ref bp) (.ref dq) (.ref dp) (.ref lv) (.ref sl) ds sd ul su), (oc7 sh (.ref fa) (nI ft)), (oq fa cF 200 FA)] ++ va_pl L f)) (va_A ([(oc8 x (.ref sh) (.ref lw) (.ref ro) (.ref bq) (.ref bp) (.ref dq) (.ref dp) (.ref lv) (.ref sl) ds sd ul su), (oc7 sh (.ref fa) (nI ft)), (oq fa cF 200 FA)] ++ va_pl L f) sz)) 0 0 (va_A ([(oc8 x (.ref sh) (.ref lw) (.ref ro) (.ref bq) (.ref bp) (.ref dq) (.ref dp) (.ref lv) (.ref sl) ds sd ul su), (oc7 sh (.ref fa) (nI ft)), (oq fa cF 200 FA)] ++ va_pl L f) sz) := by
  refine Met.ofW (cc := cX10_told) (maxL := 4) (ret := (some .int)) (by decide) rfl ?_
  intro p e s m args below meth c s₁ B hml hv
  obtain ⟨rfl, hsz, hP, hK, hD0, hXN⟩ := hv
  have hx := B.exec
  have hb := B.bytes
  have hr := B.returns
  have hts0 := atoms_spec (ws := .code yX10_told cX10_told 4 (some .int) :: ws0) B.pre
  have hts : ∀ w9 ∈ ws0, w9.before ([.ref x, .int (nI f0), .int 3] : List Value).toArray s = true := fun w9 h => hts0 w9 (List.mem_cons_of_mem _ h)
  have hown : s.vm.findClass "ScaleShop" = some m.cls := findClass_of_methodNamed B.named
  have hlocks := B.notSynchronized
  subst hsz
  have hD := hD0.self (sz := s.heap.size)
  clear hD0
  generalize hAe : va_A ([(oc8 x (.ref sh) (.ref lw) (.ref ro) (.ref bq) (.ref bp) (.ref dq) (.ref dp) (.ref lv) (.ref sl) ds sd ul su), (oc7 sh (.ref fa) (nI ft)), (oq fa cF 200 FA)] ++ va_pl L f) s.heap.size = A at hD ⊢
  have hA : ∀ q : Nat, s.heap.size ≤ q → A q := fun q h => by rw [← hAe]; exact Or.inr h
  clear hAe
  have hS : va_S A s.heap s.heap [] := va_S.rf
  have hP : va_P (dC, dI) classes ([(oc8 x (.ref sh) (.ref lw) (.ref ro) (.ref bq) (.ref bp) (.ref dq) (.ref dp) (.ref lv) (.ref sl) ds sd ul su), (oc7 sh (.ref fa) (nI ft)), (oq fa cF 200 FA)] ++ va_pl L f) s.heap := hP
  obtain ⟨Q9, hQ9⟩ : ∃ Q9 : State → Prop, Q9 = MQ below (zQ (some (.int (tw f0))) (fun t => va_P (dC, dI) classes ([(oc8 x (.ref sh) (.ref lw) (.ref ro) (.ref bq) (.ref bp) (.ref dq) (.ref dp) (.ref lv) (.ref sl) ds sd ul su), (oc7 sh (.ref fa) (nI ft)), (oq fa cF 200 FA)] ++ va_pl L f) t.heap ∧ va_D A ([(oc8 x (.ref sh) (.ref lw) (.ref ro) (.ref bq) (.ref bp) (.ref dq) (.ref dp) (.ref lv) (.ref sl) ds sd ul su), (oc7 sh (.ref fa) (nI ft)), (oq fa cF 200 FA)] ++ va_pl L f)) A) ([.ref x, .int (nI f0), .int 3] : List Value).toArray s 0 0 A := ⟨_, rfl⟩
  rw [← hQ9]
  have hl := lv_entry ([.ref x, .int (nI f0), .int 3]) (n := 4) (Nat.le_of_ble_eq_true rfl)
  rw [lg_entry_eq]
  generalize (lg_sl ([.ref x, .int (nI f0), .int 3]) ++ List.replicate (4 - (lg_sl ([.ref x, .int (nI f0), .int 3])).length) Slot.unset).toArray = ls at hl ⊢
  have hl : lv_has ls 4 [(0, .ref x), (1, .int (nI f0)), (2, .int 3)] := hl
  rcases vwA_2 (hva f0 (by omega)) with ⟨ht2, fe2, lk2, lo2, we2, fm2, hFA2, hfe2, hlk2⟩ | ⟨ht2, fe2, lk2, lo2, we2, fm2, r2, rx2, ry2, cap2, U2, V2, rg2, hFA2, hfe2, hlk2, ⟨hr2, hrx2, hry2, hne2⟩, hrr2⟩
  · skip
    have hc9_1 : inPl L f [(oc1 fe2 (rk f0) (wd f0) (tw f0) (pa f0) (pb f0) (.ref lo2) (.ref lk2) fm2), (oc4 lk2 (kd f0) (st f0) .null (gb f0) (it f0) we2)] := ⟨hfe2, hlk2, trivial⟩
    have hD0_1 := hD
    obtain ⟨hP, hD⟩ := pl_out hP hD [(oc1 fe2 (rk f0) (wd f0) (tw f0) (pa f0) (pb f0) (.ref lo2) (.ref lk2) fm2), (oc4 lk2 (kd f0) (st f0) .null (gb f0) (it f0) we2)] hc9_1 (pwF hfe2.2 hlk2.2)
    generalize hT_1 : outPl L [(oc1 fe2 (rk f0) (wd f0) (tw f0) (pa f0) (pb f0) (.ref lo2) (.ref lk2) fm2), (oc4 lk2 (kd f0) (st f0) .null (gb f0) (it f0) we2)] = T_1 at hP hD
    have hP : va_P (dC, dI) classes ([(oc8 x (.ref sh) (.ref lw) (.ref ro) (.ref bq) (.ref bp) (.ref dq) (.ref dp) (.ref lv) (.ref sl) ds sd ul su), (oc7 sh (.ref fa) (nI ft)), (oq fa cF 200 FA), (oc1 fe2 (rk f0) (wd f0) (tw f0) (pa f0) (pb f0) (.ref lo2) (.ref lk2) fm2), (oc4 lk2 (kd f0) (st f0) .null (gb f0) (it f0) we2)] ++ va_pl T_1 f) s.heap := hP
    have hD : va_D A ([(oc8 x (.ref sh) (.ref lw) (.ref ro) (.ref bq) (.ref bp) (.ref dq) (.ref dp) (.ref lv) (.ref sl) ds sd ul su), (oc7 sh (.ref fa) (nI ft)), (oq fa cF 200 FA), (oc1 fe2 (rk f0) (wd f0) (tw f0) (pa f0) (pb f0) (.ref lo2) (.ref lk2) fm2), (oc4 lk2 (kd f0) (st f0) .null (gb f0) (it f0) we2)] ++ va_pl T_1 f) := hD
    refine lv_aload_n hx hb dX10_told_0 rfl (lv_at hl 0 rfl) ?_
    refine va_get (D := (dC, dI)) (ci := 8) (v := .ref sh) (C := RX10) (T := TX10) (N := 13) hx hb hts inX10 hown hK hP 0 rfl rfl 0 (by decide) (hts _ mw_309) (fun _ h9 => h9) rfl dX10_told_1 ?_
    refine lv_iload_n hx hb dX10_told_4 rfl (lv_at hl 1 rfl) ?_
    have hPc := hP.sub (ws' := [(oc7 sh (.ref fa) (nI ft)), (oq fa cF 200 FA)]) [1, 2] rfl
    have hDc := hD.sub (ws' := [(oc7 sh (.ref fa) (nI ft)), (oq fa cF 200 FA)]) [1, 2] (by decide) rfl
    have hFc := va_free (wc := [(oc7 sh (.ref fa) (nI ft)), (oq fa cF 200 FA)]) hD hS hA [1, 2] rfl
    refine zcall (st1 := [.ref fe2]) (va_runV (As := [.int (nI f0)]) (rest := []) ⟨hx, hb, hml, hown, hts⟩ (k_Sheet_find l dC dI cI cZ cF s.heap.size sh fa ft FA f0 fe2 (by omega) (by omega) (hFA2)) (cwV 1 hts (zz_gV mw_498 mw_499 mw_500 mw_100 mc_yX8_find) rfl rfl rfl (by decide +kernel) ⟨Nat.le_of_ble_eq_true rfl, Nat.le_of_ble_eq_true rfl⟩) (zPV2 (q0 := 0) (ci := 7) hPc hDc hK hXN rfl rfl) rfl rfl hl.1 rfl (lv_room (Nat.le_of_ble_eq_true rfl)) dX10_told_5 ⟨Nat.le_of_ble_eq_true rfl, Nat.le_of_ble_eq_true rfl⟩) hS hFc hFc rfl (fun t H1 locs ht hB hk1 hS => ?_)
    obtain ⟨hP1, hD1⟩ := hB
    rw [ht] at hP1
    obtain ⟨hP, hD⟩ := va_joinQ (wr := [(oc8 x (.ref sh) (.ref lw) (.ref ro) (.ref bq) (.ref bp) (.ref dq) (.ref dp) (.ref lv) (.ref sl) ds sd ul su), (oc1 fe2 (rk f0) (wd f0) (tw f0) (pa f0) (pb f0) (.ref lo2) (.ref lk2) fm2), (oc4 lk2 (kd f0) (st f0) .null (gb f0) (it f0) we2)]) (w1 := [(oc7 sh (.ref fa) (nI ft)), (oq fa cF 200 FA)]) hP hD [1, 2] [0, 3, 4] rfl rfl (by decide) (by decide) hk1 hFc hP1 hD1
    clear hk1 hPc hDc hFc hP1 hD1 ht
    generalize H1 = H at hP hS ⊢
    have hP := hP.part (cx := [(oc8 x (.ref sh) (.ref lw) (.ref ro) (.ref bq) (.ref bp) (.ref dq) (.ref dp) (.ref lv) (.ref sl) ds sd ul su), (oc7 sh (.ref fa) (nI ft)), (oq fa cF 200 FA), (oc1 fe2 (rk f0) (wd f0) (tw f0) (pa f0) (pb f0) (.ref lo2) (.ref lk2) fm2), (oc4 lk2 (kd f0) (st f0) .null (gb f0) (it f0) we2)]) [0, 3, 4, 1, 2] rfl
    have hD := hD.part (cx := [(oc8 x (.ref sh) (.ref lw) (.ref ro) (.ref bq) (.ref bp) (.ref dq) (.ref dp) (.ref lv) (.ref sl) ds sd ul su), (oc7 sh (.ref fa) (nI ft)), (oq fa cF 200 FA), (oc1 fe2 (rk f0) (wd f0) (tw f0) (pa f0) (pb f0) (.ref lo2) (.ref lk2) fm2), (oc4 lk2 (kd f0) (st f0) .null (gb f0) (it f0) we2)]) [0, 3, 4, 1, 2] (by decide) rfl
    have hP : va_P (dC, dI) classes ([(oc8 x (.ref sh) (.ref lw) (.ref ro) (.ref bq) (.ref bp) (.ref dq) (.ref dp) (.ref lv) (.ref sl) ds sd ul su), (oc7 sh (.ref fa) (nI ft)), (oq fa cF 200 FA), (oc1 fe2 (rk f0) (wd f0) (tw f0) (pa f0) (pb f0) (.ref lo2) (.ref lk2) fm2), (oc4 lk2 (kd f0) (st f0) .null (gb f0) (it f0) we2)] ++ va_pl T_1 f) H := hP
    have hD : va_D A ([(oc8 x (.ref sh) (.ref lw) (.ref ro) (.ref bq) (.ref bp) (.ref dq) (.ref dp) (.ref lv) (.ref sl) ds sd ul su), (oc7 sh (.ref fa) (nI ft)), (oq fa cF 200 FA), (oc1 fe2 (rk f0) (wd f0) (tw f0) (pa f0) (pb f0) (.ref lo2) (.ref lk2) fm2), (oc4 lk2 (kd f0) (st f0) .null (gb f0) (it f0) we2)] ++ va_pl T_1 f) := hD
    refine lv_astore_n (lv' := [(3, .ref fe2), (0, .ref x), (1, .int (nI f0)), (2, .int 3)]) hx hb dX10_told_8 rfl hl (by decide) rfl (fun ls hl => ?_)
    refine lv_aload_n hx hb dX10_told_9 rfl (lv_at hl 0 rfl) ?_
    refine lv_ifnonnull (tgt := 15) hx hb dX10_told_10 (by decide) ?_
    refine lv_iload_n hx hb dX10_told_15 rfl (lv_at hl 3 rfl) ?_
    refine lv_tableIn (tgt := 94) (off := 78) hx hb dX10_told_16 (by decide) (by decide) (by decide) (by decide) ?_
    refine lv_aload_n hx hb dX10_told_94 rfl (lv_at hl 0 rfl) ?_
    refine va_get (D := (dC, dI)) (ci := 1) (v := .int (tw f0)) (C := RX2) (T := TX2) (N := 8) hx hb hts inX2 hown hK hP 3 rfl rfl 2 (by decide) (hts _ mw_421) (fun _ h9 => h9) rfl dX10_told_95 ?_
    have hP := pl_back (cs := [(oc1 fe2 (rk f0) (wd f0) (tw f0) (pa f0) (pb f0) (.ref lo2) (.ref lk2) fm2), (oc4 lk2 (kd f0) (st f0) .null (gb f0) (it f0) we2)]) (L := L) (f := f) (X := [(oc8 x (.ref sh) (.ref lw) (.ref ro) (.ref bq) (.ref bp) (.ref dq) (.ref dp) (.ref lv) (.ref sl) ds sd ul su), (oc7 sh (.ref fa) (nI ft)), (oq fa cF 200 FA)]) (by rw [hT_1]; exact (show va_P (dC, dI) classes (([(oc8 x (.ref sh) (.ref lw) (.ref ro) (.ref bq) (.ref bp) (.ref dq) (.ref dp) (.ref lv) (.ref sl) ds sd ul su), (oc7 sh (.ref fa) (nI ft)), (oq fa cF 200 FA)] ++ [(oc1 fe2 (rk f0) (wd f0) (tw f0) (pa f0) (pb f0) (.ref lo2) (.ref lk2) fm2), (oc4 lk2 (kd f0) (st f0) .null (gb f0) (it f0) we2)]) ++ va_pl T_1 f) H from hP)) hc9_1
    have hD : va_D A ([(oc8 x (.ref sh) (.ref lw) (.ref ro) (.ref bq) (.ref bp) (.ref dq) (.ref dp) (.ref lv) (.ref sl) ds sd ul su), (oc7 sh (.ref fa) (nI ft)), (oq fa cF 200 FA)] ++ va_pl L f) := vaD_ae hD0_1 rfl
    have hP9 := hP.part (cx := [(oc8 x (.ref sh) (.ref lw) (.ref ro) (.ref bq) (.ref bp) (.ref dq) (.ref dp) (.ref lv) (.ref sl) ds sd ul su), (oc7 sh (.ref fa) (nI ft)), (oq fa cF 200 FA)]) [0, 1, 2] rfl
    have hD9 := hD.part (cx := [(oc8 x (.ref sh) (.ref lw) (.ref ro) (.ref bq) (.ref bp) (.ref dq) (.ref dp) (.ref lv) (.ref sl) ds sd ul su), (oc7 sh (.ref fa) (nI ft)), (oq fa cF 200 FA)]) [0, 1, 2] (by decide) rfl
    rw [hQ9]
    exact W.iret (v := tw f0) hx hb hr (fun t ht hW => ⟨⟨rfl, by rw [ht]; exact hP9, hD9⟩, hS.F ht⟩) hS.2.2 dX10_told_98
  · skip
    have hcap2 := hrr2.1
    have hcap3 := hrr2.2.1
    have hc9_1 : inPl L f [(oc1 fe2 (rk f0) (wd f0) (tw f0) (pa f0) (pb f0) (.ref lo2) (.ref lk2) fm2), (oc4 lk2 (kd f0) (st f0) (.ref r2) (gb f0) (it f0) we2), (oc6 r2 (.ref rx2) (.ref ry2) (nI (nN (mn f0))) rg2), (oa rx2 cI cap2 U2), (oa ry2 cI cap2 V2)] := ⟨hfe2, hlk2, hr2, hrx2, hry2, trivial⟩
    have hD0_1 := hD
    obtain ⟨hP, hD⟩ := pl_out hP hD [(oc1 fe2 (rk f0) (wd f0) (tw f0) (pa f0) (pb f0) (.ref lo2) (.ref lk2) fm2), (oc4 lk2 (kd f0) (st f0) (.ref r2) (gb f0) (it f0) we2), (oc6 r2 (.ref rx2) (.ref ry2) (nI (nN (mn f0))) rg2), (oa rx2 cI cap2 U2), (oa ry2 cI cap2 V2)] hc9_1 (pwR hfe2.2 hlk2.2 hr2.2 hrx2.2 hry2.2 hne2)
    generalize hT_1 : outPl L [(oc1 fe2 (rk f0) (wd f0) (tw f0) (pa f0) (pb f0) (.ref lo2) (.ref lk2) fm2), (oc4 lk2 (kd f0) (st f0) (.ref r2) (gb f0) (it f0) we2), (oc6 r2 (.ref rx2) (.ref ry2) (nI (nN (mn f0))) rg2), (oa rx2 cI cap2 U2), (oa ry2 cI cap2 V2)] = T_1 at hP hD
    have hP : va_P (dC, dI) classes ([(oc8 x (.ref sh) (.ref lw) (.ref ro) (.ref bq) (.ref bp) (.ref dq) (.ref dp) (.ref lv) (.ref sl) ds sd ul su), (oc7 sh (.ref fa) (nI ft)), (oq fa cF 200 FA), (oc1 fe2 (rk f0) (wd f0) (tw f0) (pa f0) (pb f0) (.ref lo2) (.ref lk2) fm2), (oc4 lk2 (kd f0) (st f0) (.ref r2) (gb f0) (it f0) we2), (oc6 r2 (.ref rx2) (.ref ry2) (nI (nN (mn f0))) rg2), (oa rx2 cI cap2 U2), (oa ry2 cI cap2 V2)] ++ va_pl T_1 f) s.heap := hP
    have hD : va_D A ([(oc8 x (.ref sh) (.ref lw) (.ref ro) (.ref bq) (.ref bp) (.ref dq) (.ref dp) (.ref lv) (.ref sl) ds sd ul su), (oc7 sh (.ref fa) (nI ft)), (oq fa cF 200 FA), (oc1 fe2 (rk f0) (wd f0) (tw f0) (pa f0) (pb f0) (.ref lo2) (.ref lk2) fm2), (oc4 lk2 (kd f0) (st f0) (.ref r2) (gb f0) (it f0) we2), (oc6 r2 (.ref rx2) (.ref ry2) (nI (nN (mn f0))) rg2), (oa rx2 cI cap2 U2), (oa ry2 cI cap2 V2)] ++ va_pl T_1 f) := hD
    refine lv_aload_n hx hb dX10_told_0 rfl (lv_at hl 0 rfl) ?_
    refine va_get (D := (dC, dI)) (ci := 8) (v := .ref sh) (C := RX10) (T := TX10) (N := 13) hx hb hts inX10 hown hK hP 0 rfl rfl 0 (by decide) (hts _ mw_309) (fun _ h9 => h9) rfl dX10_told_1 ?_
    refine lv_iload_n hx hb dX10_told_4 rfl (lv_at hl 1 rfl) ?_
    have hPc := hP.sub (ws' := [(oc7 sh (.ref fa) (nI ft)), (oq fa cF 200 FA)]) [1, 2] rfl
    have hDc := hD.sub (ws' := [(oc7 sh (.ref fa) (nI ft)), (oq fa cF 200 FA)]) [1, 2] (by decide) rfl
    have hFc := va_free (wc := [(oc7 sh (.ref fa) (nI ft)), (oq fa cF 200 FA)]) hD hS hA [1, 2] rfl
    refine zcall (st1 := [.ref fe2]) (va_runV (As := [.int (nI f0)]) (rest := []) ⟨hx, hb, hml, hown, hts⟩ (k_Sheet_find l dC dI cI cZ cF s.heap.size sh fa ft FA f0 fe2 (by omega) (by omega) (hFA2)) (cwV 1 hts (zz_gV mw_498 mw_499 mw_500 mw_100 mc_yX8_find) rfl rfl rfl (by decide +kernel) ⟨Nat.le_of_ble_eq_true rfl, Nat.le_of_ble_eq_true rfl⟩) (zPV2 (q0 := 0) (ci := 7) hPc hDc hK hXN rfl rfl) rfl rfl hl.1 rfl (lv_room (Nat.le_of_ble_eq_true rfl)) dX10_told_5 ⟨Nat.le_of_ble_eq_true rfl, Nat.le_of_ble_eq_true rfl⟩) hS hFc hFc rfl (fun t H1 locs ht hB hk1 hS => ?_)
    obtain ⟨hP1, hD1⟩ := hB
    rw [ht] at hP1
    obtain ⟨hP, hD⟩ := va_joinQ (wr := [(oc8 x (.ref sh) (.ref lw) (.ref ro) (.ref bq) (.ref bp) (.ref dq) (.ref dp) (.ref lv) (.ref sl) ds sd ul su), (oc1 fe2 (rk f0) (wd f0) (tw f0) (pa f0) (pb f0) (.ref lo2) (.ref lk2) fm2), (oc4 lk2 (kd f0) (st f0) (.ref r2) (gb f0) (it f0) we2), (oc6 r2 (.ref rx2) (.ref ry2) (nI (nN (mn f0))) rg2), (oa rx2 cI cap2 U2), (oa ry2 cI cap2 V2)]) (w1 := [(oc7 sh (.ref fa) (nI ft)), (oq fa cF 200 FA)]) hP hD [1, 2] [0, 3, 4, 5, 6, 7] rfl rfl (by decide) (by decide) hk1 hFc hP1 hD1
    clear hk1 hPc hDc hFc hP1 hD1 ht
    generalize H1 = H at hP hS ⊢
    have hP := hP.part (cx := [(oc8 x (.ref sh) (.ref lw) (.ref ro) (.ref bq) (.ref bp) (.ref dq) (.ref dp) (.ref lv) (.ref sl) ds sd ul su), (oc7 sh (.ref fa) (nI ft)), (oq fa cF 200 FA), (oc1 fe2 (rk f0) (wd f0) (tw f0) (pa f0) (pb f0) (.ref lo2) (.ref lk2) fm2), (oc4 lk2 (kd f0) (st f0) (.ref r2) (gb f0) (it f0) we2), (oc6 r2 (.ref rx2) (.ref ry2) (nI (nN (mn f0))) rg2), (oa rx2 cI cap2 U2), (oa ry2 cI cap2 V2)]) [0, 6, 7, 1, 2, 3, 4, 5] rfl
    have hD := hD.part (cx := [(oc8 x (.ref sh) (.ref lw) (.ref ro) (.ref bq) (.ref bp) (.ref dq) (.ref dp) (.ref lv) (.ref sl) ds sd ul su), (oc7 sh (.ref fa) (nI ft)), (oq fa cF 200 FA), (oc1 fe2 (rk f0) (wd f0) (tw f0) (pa f0) (pb f0) (.ref lo2) (.ref lk2) fm2), (oc4 lk2 (kd f0) (st f0) (.ref r2) (gb f0) (it f0) we2), (oc6 r2 (.ref rx2) (.ref ry2) (nI (nN (mn f0))) rg2), (oa rx2 cI cap2 U2), (oa ry2 cI cap2 V2)]) [0, 6, 7, 1, 2, 3, 4, 5] (by decide) rfl
    have hP : va_P (dC, dI) classes ([(oc8 x (.ref sh) (.ref lw) (.ref ro) (.ref bq) (.ref bp) (.ref dq) (.ref dp) (.ref lv) (.ref sl) ds sd ul su), (oc7 sh (.ref fa) (nI ft)), (oq fa cF 200 FA), (oc1 fe2 (rk f0) (wd f0) (tw f0) (pa f0) (pb f0) (.ref lo2) (.ref lk2) fm2), (oc4 lk2 (kd f0) (st f0) (.ref r2) (gb f0) (it f0) we2), (oc6 r2 (.ref rx2) (.ref ry2) (nI (nN (mn f0))) rg2), (oa rx2 cI cap2 U2), (oa ry2 cI cap2 V2)] ++ va_pl T_1 f) H := hP
    have hD : va_D A ([(oc8 x (.ref sh) (.ref lw) (.ref ro) (.ref bq) (.ref bp) (.ref dq) (.ref dp) (.ref lv) (.ref sl) ds sd ul su), (oc7 sh (.ref fa) (nI ft)), (oq fa cF 200 FA), (oc1 fe2 (rk f0) (wd f0) (tw f0) (pa f0) (pb f0) (.ref lo2) (.ref lk2) fm2), (oc4 lk2 (kd f0) (st f0) (.ref r2) (gb f0) (it f0) we2), (oc6 r2 (.ref rx2) (.ref ry2) (nI (nN (mn f0))) rg2), (oa rx2 cI cap2 U2), (oa ry2 cI cap2 V2)] ++ va_pl T_1 f) := hD
    refine lv_astore_n (lv' := [(3, .ref fe2), (0, .ref x), (1, .int (nI f0)), (2, .int 3)]) hx hb dX10_told_8 rfl hl (by decide) rfl (fun ls hl => ?_)
    refine lv_aload_n hx hb dX10_told_9 rfl (lv_at hl 0 rfl) ?_
    refine lv_ifnonnull (tgt := 15) hx hb dX10_told_10 (by decide) ?_
    refine lv_iload_n hx hb dX10_told_15 rfl (lv_at hl 3 rfl) ?_
    refine lv_tableIn (tgt := 94) (off := 78) hx hb dX10_told_16 (by decide) (by decide) (by decide) (by decide) ?_
    refine lv_aload_n hx hb dX10_told_94 rfl (lv_at hl 0 rfl) ?_
    refine va_get (D := (dC, dI)) (ci := 1) (v := .int (tw f0)) (C := RX2) (T := TX2) (N := 8) hx hb hts inX2 hown hK hP 3 rfl rfl 2 (by decide) (hts _ mw_421) (fun _ h9 => h9) rfl dX10_told_95 ?_
    have hP := pl_back (cs := [(oc1 fe2 (rk f0) (wd f0) (tw f0) (pa f0) (pb f0) (.ref lo2) (.ref lk2) fm2), (oc4 lk2 (kd f0) (st f0) (.ref r2) (gb f0) (it f0) we2), (oc6 r2 (.ref rx2) (.ref ry2) (nI (nN (mn f0))) rg2), (oa rx2 cI cap2 U2), (oa ry2 cI cap2 V2)]) (L := L) (f := f) (X := [(oc8 x (.ref sh) (.ref lw) (.ref ro) (.ref bq) (.ref bp) (.ref dq) (.ref dp) (.ref lv) (.ref sl) ds sd ul su), (oc7 sh (.ref fa) (nI ft)), (oq fa cF 200 FA)]) (by rw [hT_1]; exact (show va_P (dC, dI) classes (([(oc8 x (.ref sh) (.ref lw) (.ref ro) (.ref bq) (.ref bp) (.ref dq) (.ref dp) (.ref lv) (.ref sl) ds sd ul su), (oc7 sh (.ref fa) (nI ft)), (oq fa cF 200 FA)] ++ [(oc1 fe2 (rk f0) (wd f0) (tw f0) (pa f0) (pb f0) (.ref lo2) (.ref lk2) fm2), (oc4 lk2 (kd f0) (st f0) (.ref r2) (gb f0) (it f0) we2), (oc6 r2 (.ref rx2) (.ref ry2) (nI (nN (mn f0))) rg2), (oa rx2 cI cap2 U2), (oa ry2 cI cap2 V2)]) ++ va_pl T_1 f) H from hP)) hc9_1
    have hD : va_D A ([(oc8 x (.ref sh) (.ref lw) (.ref ro) (.ref bq) (.ref bp) (.ref dq) (.ref dp) (.ref lv) (.ref sl) ds sd ul su), (oc7 sh (.ref fa) (nI ft)), (oq fa cF 200 FA)] ++ va_pl L f) := vaD_ae hD0_1 rfl
    have hP9 := hP.part (cx := [(oc8 x (.ref sh) (.ref lw) (.ref ro) (.ref bq) (.ref bp) (.ref dq) (.ref dp) (.ref lv) (.ref sl) ds sd ul su), (oc7 sh (.ref fa) (nI ft)), (oq fa cF 200 FA)]) [0, 1, 2] rfl
    have hD9 := hD.part (cx := [(oc8 x (.ref sh) (.ref lw) (.ref ro) (.ref bq) (.ref bp) (.ref dq) (.ref dp) (.ref lv) (.ref sl) ds sd ul su), (oc7 sh (.ref fa) (nI ft)), (oq fa cF 200 FA)]) [0, 1, 2] (by decide) rfl
    rw [hQ9]
    exact W.iret (v := tw f0) hx hb hr (fun t ht hW => ⟨⟨rfl, by rw [ht]; exact hP9, hD9⟩, hS.F ht⟩) hS.2.2 dX10_told_98
set_option maxHeartbeats 4000000 in
set_option maxRecDepth 100000 in
theorem k_told_4 (l : Launch) (dC : Nat → ClassId) (dI : Nat → Nat → Nat) (cI cZ cF : ClassId) (sz : Nat) (x : Nat) (sh : Nat) (lw : Nat) (ro : Nat) (bq : Nat) (bp : Nat) (dq : Nat) (dp : Nat) (lv : Nat) (sl : Nat) (sd : Int32) (ul : Int32) (su : Int32) (ds : Int32) (fa : Nat) (ft : Nat) (FA : Nat → Option Nat) (f0 : Nat) (L : List Nat) (f : Nat → va_E) (kd : Nat → Int32) (st : Nat → Int32) (tn : Nat → Int32) (mn : Nat → Int32) (cx : Nat → Int32) (cy : Nat → Int32) (rk : Nat → Int32) (wd : Nat → Int32) (tw : Nat → Int32) (pa : Nat → Int32) (pb : Nat → Int32) (gb : Nat → Int32) (it : Nat → Int32) (h200 : ft ≤ 200) (hf0 : f0 < ft) (hva : ∀ q, q < ft → vwA cI L f FA rk wd tw pa pb kd st gb it tn mn cx cy q) : Met l yX10_told (.code yX10_told cX10_told 4 (some .int) :: ws0) ({ frames := 1, cells := 0, slots := 0, locals := 21 } : Room) (va_Pc [.ref x, .int (nI f0), .int 4] (zPre (dC, dI) classes (zTy cI cZ cF) ([(oc8 x (.ref sh) (.ref lw) (.ref ro) (.ref bq) (.ref bp) (.ref dq) (.ref dp) (.ref lv) (.ref sl) ds sd ul su), (oc7 sh (.ref fa) (nI ft)), (oq fa cF 200 FA)] ++ va_pl L f) sz zXN)) (zQ (some (.int (nI (if (tn f0).toInt = 0 then nN (mn f0) else 0)))) (fun t => va_P (dC, dI) classes ([(oc8 x (.ref sh) (.ref lw) (.ref ro) (.ref bq) (.ref bp) (.ref dq) (.ref dp) (.ref lv) (.ref sl) ds sd ul su), (oc7 sh (.ref fa) (nI ft)), (oq fa cF 200 FA)] ++ va_pl L f) t.heap ∧ va_D (va_A ([(oc8 x (.ref sh) (.ref lw) (.ref ro) (.ref bq) (.ref bp) (.ref dq) (.ref dp) (.ref lv) (.ref sl) ds sd ul su), (oc7 sh (.ref fa) (nI ft)), (oq fa cF 200 FA)] ++ va_pl L f) sz) ([(oc8 x (.ref sh) (.ref lw) (.ref ro) (.ref bq) (.ref bp) (.ref dq) (.ref dp) (.ref lv) (.ref sl) ds sd ul su), (oc7 sh (.ref fa) (nI ft)), (oq fa cF 200 FA)] ++ va_pl L f)) (va_A ([(oc8 x (.ref sh) (.ref lw) (.ref ro) (.ref bq) (.ref bp) (.ref dq) (.ref dp) (.ref lv) (.ref sl) ds sd ul su), (oc7 sh (.ref fa) (nI ft)), (oq fa cF 200 FA)] ++ va_pl L f) sz)) 0 0 (va_A ([(oc8 x (.ref sh) (.ref lw) (.ref ro) (.ref bq) (.ref bp) (.ref dq) (.ref dp) (.ref lv) (.ref sl) ds sd ul su), (oc7 sh (.ref fa) (nI ft)), (oq fa cF 200 FA)] ++ va_pl L f) sz) := by
  refine Met.ofW (cc := cX10_told) (maxL := 4) (ret := (some .int)) (by decide) rfl ?_
  intro p e s m args below meth c s₁ B hml hv
  obtain ⟨rfl, hsz, hP, hK, hD0, hXN⟩ := hv
  have hx := B.exec
  have hb := B.bytes
  have hr := B.returns
  have hts0 := atoms_spec (ws := .code yX10_told cX10_told 4 (some .int) :: ws0) B.pre
  have hts : ∀ w9 ∈ ws0, w9.before ([.ref x, .int (nI f0), .int 4] : List Value).toArray s = true := fun w9 h => hts0 w9 (List.mem_cons_of_mem _ h)
  have hown : s.vm.findClass "ScaleShop" = some m.cls := findClass_of_methodNamed B.named
  have hlocks := B.notSynchronized
  subst hsz
  have hD := hD0.self (sz := s.heap.size)
  clear hD0
  generalize hAe : va_A ([(oc8 x (.ref sh) (.ref lw) (.ref ro) (.ref bq) (.ref bp) (.ref dq) (.ref dp) (.ref lv) (.ref sl) ds sd ul su), (oc7 sh (.ref fa) (nI ft)), (oq fa cF 200 FA)] ++ va_pl L f) s.heap.size = A at hD ⊢
  have hA : ∀ q : Nat, s.heap.size ≤ q → A q := fun q h => by rw [← hAe]; exact Or.inr h
  clear hAe
  have hS : va_S A s.heap s.heap [] := va_S.rf
  have hP : va_P (dC, dI) classes ([(oc8 x (.ref sh) (.ref lw) (.ref ro) (.ref bq) (.ref bp) (.ref dq) (.ref dp) (.ref lv) (.ref sl) ds sd ul su), (oc7 sh (.ref fa) (nI ft)), (oq fa cF 200 FA)] ++ va_pl L f) s.heap := hP
  obtain ⟨Q9, hQ9⟩ : ∃ Q9 : State → Prop, Q9 = MQ below (zQ (some (.int (nI (if (tn f0).toInt = 0 then nN (mn f0) else 0)))) (fun t => va_P (dC, dI) classes ([(oc8 x (.ref sh) (.ref lw) (.ref ro) (.ref bq) (.ref bp) (.ref dq) (.ref dp) (.ref lv) (.ref sl) ds sd ul su), (oc7 sh (.ref fa) (nI ft)), (oq fa cF 200 FA)] ++ va_pl L f) t.heap ∧ va_D A ([(oc8 x (.ref sh) (.ref lw) (.ref ro) (.ref bq) (.ref bp) (.ref dq) (.ref dp) (.ref lv) (.ref sl) ds sd ul su), (oc7 sh (.ref fa) (nI ft)), (oq fa cF 200 FA)] ++ va_pl L f)) A) ([.ref x, .int (nI f0), .int 4] : List Value).toArray s 0 0 A := ⟨_, rfl⟩
  rw [← hQ9]
  have hl := lv_entry ([.ref x, .int (nI f0), .int 4]) (n := 4) (Nat.le_of_ble_eq_true rfl)
  rw [lg_entry_eq]
  generalize (lg_sl ([.ref x, .int (nI f0), .int 4]) ++ List.replicate (4 - (lg_sl ([.ref x, .int (nI f0), .int 4])).length) Slot.unset).toArray = ls at hl ⊢
  have hl : lv_has ls 4 [(0, .ref x), (1, .int (nI f0)), (2, .int 4)] := hl
  rcases vwA_2 (hva f0 (by omega)) with ⟨ht2, fe2, lk2, lo2, we2, fm2, hFA2, hfe2, hlk2⟩ | ⟨ht2, fe2, lk2, lo2, we2, fm2, r2, rx2, ry2, cap2, U2, V2, rg2, hFA2, hfe2, hlk2, ⟨hr2, hrx2, hry2, hne2⟩, hrr2⟩
  · skip
    have hc9_1 : inPl L f [(oc1 fe2 (rk f0) (wd f0) (tw f0) (pa f0) (pb f0) (.ref lo2) (.ref lk2) fm2), (oc4 lk2 (kd f0) (st f0) .null (gb f0) (it f0) we2)] := ⟨hfe2, hlk2, trivial⟩
    have hD0_1 := hD
    obtain ⟨hP, hD⟩ := pl_out hP hD [(oc1 fe2 (rk f0) (wd f0) (tw f0) (pa f0) (pb f0) (.ref lo2) (.ref lk2) fm2), (oc4 lk2 (kd f0) (st f0) .null (gb f0) (it f0) we2)] hc9_1 (pwF hfe2.2 hlk2.2)
    generalize hT_1 : outPl L [(oc1 fe2 (rk f0) (wd f0) (tw f0) (pa f0) (pb f0) (.ref lo2) (.ref lk2) fm2), (oc4 lk2 (kd f0) (st f0) .null (gb f0) (it f0) we2)] = T_1 at hP hD
    have hP : va_P (dC, dI) classes ([(oc8 x (.ref sh) (.ref lw) (.ref ro) (.ref bq) (.ref bp) (.ref dq) (.ref dp) (.ref lv) (.ref sl) ds sd ul su), (oc7 sh (.ref fa) (nI ft)), (oq fa cF 200 FA), (oc1 fe2 (rk f0) (wd f0) (tw f0) (pa f0) (pb f0) (.ref lo2) (.ref lk2) fm2), (oc4 lk2 (kd f0) (st f0) .null (gb f0) (it f0) we2)] ++ va_pl T_1 f) s.heap := hP
    have hD : va_D A ([(oc8 x (.ref sh) (.ref lw) (.ref ro) (.ref bq) (.ref bp) (.ref dq) (.ref dp) (.ref lv) (.ref sl) ds sd ul su), (oc7 sh (.ref fa) (nI ft)), (oq fa cF 200 FA), (oc1 fe2 (rk f0) (wd f0) (tw f0) (pa f0) (pb f0) (.ref lo2) (.ref lk2) fm2), (oc4 lk2 (kd f0) (st f0) .null (gb f0) (it f0) we2)] ++ va_pl T_1 f) := hD
    refine lv_aload_n hx hb dX10_told_0 rfl (lv_at hl 0 rfl) ?_
    refine va_get (D := (dC, dI)) (ci := 8) (v := .ref sh) (C := RX10) (T := TX10) (N := 13) hx hb hts inX10 hown hK hP 0 rfl rfl 0 (by decide) (hts _ mw_309) (fun _ h9 => h9) rfl dX10_told_1 ?_
    refine lv_iload_n hx hb dX10_told_4 rfl (lv_at hl 1 rfl) ?_
    have hPc := hP.sub (ws' := [(oc7 sh (.ref fa) (nI ft)), (oq fa cF 200 FA)]) [1, 2] rfl
    have hDc := hD.sub (ws' := [(oc7 sh (.ref fa) (nI ft)), (oq fa cF 200 FA)]) [1, 2] (by decide) rfl
    have hFc := va_free (wc := [(oc7 sh (.ref fa) (nI ft)), (oq fa cF 200 FA)]) hD hS hA [1, 2] rfl
    refine zcall (st1 := [.ref fe2]) (va_runV (As := [.int (nI f0)]) (rest := []) ⟨hx, hb, hml, hown, hts⟩ (k_Sheet_find l dC dI cI cZ cF s.heap.size sh fa ft FA f0 fe2 (by omega) (by omega) (hFA2)) (cwV 1 hts (zz_gV mw_498 mw_499 mw_500 mw_100 mc_yX8_find) rfl rfl rfl (by decide +kernel) ⟨Nat.le_of_ble_eq_true rfl, Nat.le_of_ble_eq_true rfl⟩) (zPV2 (q0 := 0) (ci := 7) hPc hDc hK hXN rfl rfl) rfl rfl hl.1 rfl (lv_room (Nat.le_of_ble_eq_true rfl)) dX10_told_5 ⟨Nat.le_of_ble_eq_true rfl, Nat.le_of_ble_eq_true rfl⟩) hS hFc hFc rfl (fun t H1 locs ht hB hk1 hS => ?_)
    obtain ⟨hP1, hD1⟩ := hB
    rw [ht] at hP1
    obtain ⟨hP, hD⟩ := va_joinQ (wr := [(oc8 x (.ref sh) (.ref lw) (.ref ro) (.ref bq) (.ref bp) (.ref dq) (.ref dp) (.ref lv) (.ref sl) ds sd ul su), (oc1 fe2 (rk f0) (wd f0) (tw f0) (pa f0) (pb f0) (.ref lo2) (.ref lk2) fm2), (oc4 lk2 (kd f0) (st f0) .null (gb f0) (it f0) we2)]) (w1 := [(oc7 sh (.ref fa) (nI ft)), (oq fa cF 200 FA)]) hP hD [1, 2] [0, 3, 4] rfl rfl (by decide) (by decide) hk1 hFc hP1 hD1
    clear hk1 hPc hDc hFc hP1 hD1 ht
    generalize H1 = H at hP hS ⊢
    have hP := hP.part (cx := [(oc8 x (.ref sh) (.ref lw) (.ref ro) (.ref bq) (.ref bp) (.ref dq) (.ref dp) (.ref lv) (.ref sl) ds sd ul su), (oc7 sh (.ref fa) (nI ft)), (oq fa cF 200 FA), (oc1 fe2 (rk f0) (wd f0) (tw f0) (pa f0) (pb f0) (.ref lo2) (.ref lk2) fm2), (oc4 lk2 (kd f0) (st f0) .null (gb f0) (it f0) we2)]) [0, 3, 4, 1, 2] rfl
    have hD := hD.part (cx := [(oc8 x (.ref sh) (.ref lw) (.ref ro) (.ref bq) (.ref bp) (.ref dq) (.ref dp) (.ref lv) (.ref sl) ds sd ul su), (oc7 sh (.ref fa) (nI ft)), (oq fa cF 200 FA), (oc1 fe2 (rk f0) (wd f0) (tw f0) (pa f0) (pb f0) (.ref lo2) (.ref lk2) fm2), (oc4 lk2 (kd f0) (st f0) .null (gb f0) (it f0) we2)]) [0, 3, 4, 1, 2] (by decide) rfl
    have hP : va_P (dC, dI) classes ([(oc8 x (.ref sh) (.ref lw) (.ref ro) (.ref bq) (.ref bp) (.ref dq) (.ref dp) (.ref lv) (.ref sl) ds sd ul su), (oc7 sh (.ref fa) (nI ft)), (oq fa cF 200 FA), (oc1 fe2 (rk f0) (wd f0) (tw f0) (pa f0) (pb f0) (.ref lo2) (.ref lk2) fm2), (oc4 lk2 (kd f0) (st f0) .null (gb f0) (it f0) we2)] ++ va_pl T_1 f) H := hP
    have hD : va_D A ([(oc8 x (.ref sh) (.ref lw) (.ref ro) (.ref bq) (.ref bp) (.ref dq) (.ref dp) (.ref lv) (.ref sl) ds sd ul su), (oc7 sh (.ref fa) (nI ft)), (oq fa cF 200 FA), (oc1 fe2 (rk f0) (wd f0) (tw f0) (pa f0) (pb f0) (.ref lo2) (.ref lk2) fm2), (oc4 lk2 (kd f0) (st f0) .null (gb f0) (it f0) we2)] ++ va_pl T_1 f) := hD
    refine lv_astore_n (lv' := [(3, .ref fe2), (0, .ref x), (1, .int (nI f0)), (2, .int 4)]) hx hb dX10_told_8 rfl hl (by decide) rfl (fun ls hl => ?_)
    refine lv_aload_n hx hb dX10_told_9 rfl (lv_at hl 0 rfl) ?_
    refine lv_ifnonnull (tgt := 15) hx hb dX10_told_10 (by decide) ?_
    refine lv_iload_n hx hb dX10_told_15 rfl (lv_at hl 3 rfl) ?_
    refine lv_tableIn (tgt := 99) (off := 83) hx hb dX10_told_16 (by decide) (by decide) (by decide) (by decide) ?_
    refine lv_aload_n hx hb dX10_told_99 rfl (lv_at hl 0 rfl) ?_
    refine va_get (D := (dC, dI)) (ci := 1) (v := .ref lk2) (C := RX2) (T := TX2) (N := 8) hx hb hts inX2 hown hK hP 3 rfl rfl 6 (by decide) (hts _ mw_433) (fun _ h9 => h9) rfl dX10_told_100 ?_
    refine va_get (D := (dC, dI)) (ci := 4) (v := .null) (C := RX5) (T := TX5) (N := 6) hx hb hts inX5 hown hK hP 4 rfl rfl 2 (by decide) (hts _ mw_391) (fun _ h9 => h9) rfl dX10_told_103 ?_
    refine lv_ifnonnullN hx hb dX10_told_106 ?_
    refine lv_iconst (v := 0) hx hb dX10_told_109 (by decide) ?_
    refine lv_goto (tgt := 123) hx hb dX10_told_110 (by decide) ?_
    have hP := pl_back (cs := [(oc1 fe2 (rk f0) (wd f0) (tw f0) (pa f0) (pb f0) (.ref lo2) (.ref lk2) fm2), (oc4 lk2 (kd f0) (st f0) .null (gb f0) (it f0) we2)]) (L := L) (f := f) (X := [(oc8 x (.ref sh) (.ref lw) (.ref ro) (.ref bq) (.ref bp) (.ref dq) (.ref dp) (.ref lv) (.ref sl) ds sd ul su), (oc7 sh (.ref fa) (nI ft)), (oq fa cF 200 FA)]) (by rw [hT_1]; exact (show va_P (dC, dI) classes (([(oc8 x (.ref sh) (.ref lw) (.ref ro) (.ref bq) (.ref bp) (.ref dq) (.ref dp) (.ref lv) (.ref sl) ds sd ul su), (oc7 sh (.ref fa) (nI ft)), (oq fa cF 200 FA)] ++ [(oc1 fe2 (rk f0) (wd f0) (tw f0) (pa f0) (pb f0) (.ref lo2) (.ref lk2) fm2), (oc4 lk2 (kd f0) (st f0) .null (gb f0) (it f0) we2)]) ++ va_pl T_1 f) H from hP)) hc9_1
    have hD : va_D A ([(oc8 x (.ref sh) (.ref lw) (.ref ro) (.ref bq) (.ref bp) (.ref dq) (.ref dp) (.ref lv) (.ref sl) ds sd ul su), (oc7 sh (.ref fa) (nI ft)), (oq fa cF 200 FA)] ++ va_pl L f) := vaD_ae hD0_1 rfl
    have hP9 := hP.part (cx := [(oc8 x (.ref sh) (.ref lw) (.ref ro) (.ref bq) (.ref bp) (.ref dq) (.ref dp) (.ref lv) (.ref sl) ds sd ul su), (oc7 sh (.ref fa) (nI ft)), (oq fa cF 200 FA)]) [0, 1, 2] rfl
    have hD9 := hD.part (cx := [(oc8 x (.ref sh) (.ref lw) (.ref ro) (.ref bq) (.ref bp) (.ref dq) (.ref dp) (.ref lv) (.ref sl) ds sd ul su), (oc7 sh (.ref fa) (nI ft)), (oq fa cF 200 FA)]) [0, 1, 2] (by decide) rfl
    rw [hQ9]
    exact W.iret (v := 0) hx hb hr (fun t ht hW => ⟨⟨congrArg (fun z => Outcome.returned (some (Value.int z))) (show (0 : Int32) = nI (if (tn f0).toInt = 0 then nN (mn f0) else 0) from by first | (rw [if_neg (by omega)]; rfl) | (rw [if_pos (by omega)])), by rw [ht]; exact hP9, hD9⟩, hS.F ht⟩) hS.2.2 dX10_told_123
  · skip
    have hcap2 := hrr2.1
    have hcap3 := hrr2.2.1
    have hc9_1 : inPl L f [(oc1 fe2 (rk f0) (wd f0) (tw f0) (pa f0) (pb f0) (.ref lo2) (.ref lk2) fm2), (oc4 lk2 (kd f0) (st f0) (.ref r2) (gb f0) (it f0) we2), (oc6 r2 (.ref rx2) (.ref ry2) (nI (nN (mn f0))) rg2), (oa rx2 cI cap2 U2), (oa ry2 cI cap2 V2)] := ⟨hfe2, hlk2, hr2, hrx2, hry2, trivial⟩
    have hD0_1 := hD
    obtain ⟨hP, hD⟩ := pl_out hP hD [(oc1 fe2 (rk f0) (wd f0) (tw f0) (pa f0) (pb f0) (.ref lo2) (.ref lk2) fm2), (oc4 lk2 (kd f0) (st f0) (.ref r2) (gb f0) (it f0) we2), (oc6 r2 (.ref rx2) (.ref ry2) (nI (nN (mn f0))) rg2), (oa rx2 cI cap2 U2), (oa ry2 cI cap2 V2)] hc9_1 (pwR hfe2.2 hlk2.2 hr2.2 hrx2.2 hry2.2 hne2)
    generalize hT_1 : outPl L [(oc1 fe2 (rk f0) (wd f0) (tw f0) (pa f0) (pb f0) (.ref lo2) (.ref lk2) fm2), (oc4 lk2 (kd f0) (st f0) (.ref r2) (gb f0) (it f0) we2), (oc6 r2 (.ref rx2) (.ref ry2) (nI (nN (mn f0))) rg2), (oa rx2 cI cap2 U2), (oa ry2 cI cap2 V2)] = T_1 at hP hD
    have hP : va_P (dC, dI) classes ([(oc8 x (.ref sh) (.ref lw) (.ref ro) (.ref bq) (.ref bp) (.ref dq) (.ref dp) (.ref lv) (.ref sl) ds sd ul su), (oc7 sh (.ref fa) (nI ft)), (oq fa cF 200 FA), (oc1 fe2 (rk f0) (wd f0) (tw f0) (pa f0) (pb f0) (.ref lo2) (.ref lk2) fm2), (oc4 lk2 (kd f0) (st f0) (.ref r2) (gb f0) (it f0) we2), (oc6 r2 (.ref rx2) (.ref ry2) (nI (nN (mn f0))) rg2), (oa rx2 cI cap2 U2), (oa ry2 cI cap2 V2)] ++ va_pl T_1 f) s.heap := hP
    have hD : va_D A ([(oc8 x (.ref sh) (.ref lw) (.ref ro) (.ref bq) (.ref bp) (.ref dq) (.ref dp) (.ref lv) (.ref sl) ds sd ul su), (oc7 sh (.ref fa) (nI ft)), (oq fa cF 200 FA), (oc1 fe2 (rk f0) (wd f0) (tw f0) (pa f0) (pb f0) (.ref lo2) (.ref lk2) fm2), (oc4 lk2 (kd f0) (st f0) (.ref r2) (gb f0) (it f0) we2), (oc6 r2 (.ref rx2) (.ref ry2) (nI (nN (mn f0))) rg2), (oa rx2 cI cap2 U2), (oa ry2 cI cap2 V2)] ++ va_pl T_1 f) := hD
    refine lv_aload_n hx hb dX10_told_0 rfl (lv_at hl 0 rfl) ?_
    refine va_get (D := (dC, dI)) (ci := 8) (v := .ref sh) (C := RX10) (T := TX10) (N := 13) hx hb hts inX10 hown hK hP 0 rfl rfl 0 (by decide) (hts _ mw_309) (fun _ h9 => h9) rfl dX10_told_1 ?_
    refine lv_iload_n hx hb dX10_told_4 rfl (lv_at hl 1 rfl) ?_
    have hPc := hP.sub (ws' := [(oc7 sh (.ref fa) (nI ft)), (oq fa cF 200 FA)]) [1, 2] rfl
    have hDc := hD.sub (ws' := [(oc7 sh (.ref fa) (nI ft)), (oq fa cF 200 FA)]) [1, 2] (by decide) rfl
    have hFc := va_free (wc := [(oc7 sh (.ref fa) (nI ft)), (oq fa cF 200 FA)]) hD hS hA [1, 2] rfl
    refine zcall (st1 := [.ref fe2]) (va_runV (As := [.int (nI f0)]) (rest := []) ⟨hx, hb, hml, hown, hts⟩ (k_Sheet_find l dC dI cI cZ cF s.heap.size sh fa ft FA f0 fe2 (by omega) (by omega) (hFA2)) (cwV 1 hts (zz_gV mw_498 mw_499 mw_500 mw_100 mc_yX8_find) rfl rfl rfl (by decide +kernel) ⟨Nat.le_of_ble_eq_true rfl, Nat.le_of_ble_eq_true rfl⟩) (zPV2 (q0 := 0) (ci := 7) hPc hDc hK hXN rfl rfl) rfl rfl hl.1 rfl (lv_room (Nat.le_of_ble_eq_true rfl)) dX10_told_5 ⟨Nat.le_of_ble_eq_true rfl, Nat.le_of_ble_eq_true rfl⟩) hS hFc hFc rfl (fun t H1 locs ht hB hk1 hS => ?_)
    obtain ⟨hP1, hD1⟩ := hB
    rw [ht] at hP1
    obtain ⟨hP, hD⟩ := va_joinQ (wr := [(oc8 x (.ref sh) (.ref lw) (.ref ro) (.ref bq) (.ref bp) (.ref dq) (.ref dp) (.ref lv) (.ref sl) ds sd ul su), (oc1 fe2 (rk f0) (wd f0) (tw f0) (pa f0) (pb f0) (.ref lo2) (.ref lk2) fm2), (oc4 lk2 (kd f0) (st f0) (.ref r2) (gb f0) (it f0) we2), (oc6 r2 (.ref rx2) (.ref ry2) (nI (nN (mn f0))) rg2), (oa rx2 cI cap2 U2), (oa ry2 cI cap2 V2)]) (w1 := [(oc7 sh (.ref fa) (nI ft)), (oq fa cF 200 FA)]) hP hD [1, 2] [0, 3, 4, 5, 6, 7] rfl rfl (by decide) (by decide) hk1 hFc hP1 hD1
    clear hk1 hPc hDc hFc hP1 hD1 ht
    generalize H1 = H at hP hS ⊢
    have hP := hP.part (cx := [(oc8 x (.ref sh) (.ref lw) (.ref ro) (.ref bq) (.ref bp) (.ref dq) (.ref dp) (.ref lv) (.ref sl) ds sd ul su), (oc7 sh (.ref fa) (nI ft)), (oq fa cF 200 FA), (oc1 fe2 (rk f0) (wd f0) (tw f0) (pa f0) (pb f0) (.ref lo2) (.ref lk2) fm2), (oc4 lk2 (kd f0) (st f0) (.ref r2) (gb f0) (it f0) we2), (oc6 r2 (.ref rx2) (.ref ry2) (nI (nN (mn f0))) rg2), (oa rx2 cI cap2 U2), (oa ry2 cI cap2 V2)]) [0, 6, 7, 1, 2, 3, 4, 5] rfl
    have hD := hD.part (cx := [(oc8 x (.ref sh) (.ref lw) (.ref ro) (.ref bq) (.ref bp) (.ref dq) (.ref dp) (.ref lv) (.ref sl) ds sd ul su), (oc7 sh (.ref fa) (nI ft)), (oq fa cF 200 FA), (oc1 fe2 (rk f0) (wd f0) (tw f0) (pa f0) (pb f0) (.ref lo2) (.ref lk2) fm2), (oc4 lk2 (kd f0) (st f0) (.ref r2) (gb f0) (it f0) we2), (oc6 r2 (.ref rx2) (.ref ry2) (nI (nN (mn f0))) rg2), (oa rx2 cI cap2 U2), (oa ry2 cI cap2 V2)]) [0, 6, 7, 1, 2, 3, 4, 5] (by decide) rfl
    have hP : va_P (dC, dI) classes ([(oc8 x (.ref sh) (.ref lw) (.ref ro) (.ref bq) (.ref bp) (.ref dq) (.ref dp) (.ref lv) (.ref sl) ds sd ul su), (oc7 sh (.ref fa) (nI ft)), (oq fa cF 200 FA), (oc1 fe2 (rk f0) (wd f0) (tw f0) (pa f0) (pb f0) (.ref lo2) (.ref lk2) fm2), (oc4 lk2 (kd f0) (st f0) (.ref r2) (gb f0) (it f0) we2), (oc6 r2 (.ref rx2) (.ref ry2) (nI (nN (mn f0))) rg2), (oa rx2 cI cap2 U2), (oa ry2 cI cap2 V2)] ++ va_pl T_1 f) H := hP
    have hD : va_D A ([(oc8 x (.ref sh) (.ref lw) (.ref ro) (.ref bq) (.ref bp) (.ref dq) (.ref dp) (.ref lv) (.ref sl) ds sd ul su), (oc7 sh (.ref fa) (nI ft)), (oq fa cF 200 FA), (oc1 fe2 (rk f0) (wd f0) (tw f0) (pa f0) (pb f0) (.ref lo2) (.ref lk2) fm2), (oc4 lk2 (kd f0) (st f0) (.ref r2) (gb f0) (it f0) we2), (oc6 r2 (.ref rx2) (.ref ry2) (nI (nN (mn f0))) rg2), (oa rx2 cI cap2 U2), (oa ry2 cI cap2 V2)] ++ va_pl T_1 f) := hD
    refine lv_astore_n (lv' := [(3, .ref fe2), (0, .ref x), (1, .int (nI f0)), (2, .int 4)]) hx hb dX10_told_8 rfl hl (by decide) rfl (fun ls hl => ?_)
    refine lv_aload_n hx hb dX10_told_9 rfl (lv_at hl 0 rfl) ?_
    refine lv_ifnonnull (tgt := 15) hx hb dX10_told_10 (by decide) ?_
    refine lv_iload_n hx hb dX10_told_15 rfl (lv_at hl 3 rfl) ?_
    refine lv_tableIn (tgt := 99) (off := 83) hx hb dX10_told_16 (by decide) (by decide) (by decide) (by decide) ?_
    refine lv_aload_n hx hb dX10_told_99 rfl (lv_at hl 0 rfl) ?_
    refine va_get (D := (dC, dI)) (ci := 1) (v := .ref lk2) (C := RX2) (T := TX2) (N := 8) hx hb hts inX2 hown hK hP 3 rfl rfl 6 (by decide) (hts _ mw_433) (fun _ h9 => h9) rfl dX10_told_100 ?_
    refine va_get (D := (dC, dI)) (ci := 4) (v := .ref r2) (C := RX5) (T := TX5) (N := 6) hx hb hts inX5 hown hK hP 4 rfl rfl 2 (by decide) (hts _ mw_391) (fun _ h9 => h9) rfl dX10_told_103 ?_
    refine lv_ifnonnull (tgt := 113) hx hb dX10_told_106 (by decide) ?_
    refine lv_aload_n hx hb dX10_told_113 rfl (lv_at hl 0 rfl) ?_
    refine va_get (D := (dC, dI)) (ci := 1) (v := .ref lk2) (C := RX2) (T := TX2) (N := 8) hx hb hts inX2 hown hK hP 3 rfl rfl 6 (by decide) (hts _ mw_433) (fun _ h9 => h9) rfl dX10_told_114 ?_
    refine va_get (D := (dC, dI)) (ci := 4) (v := .ref r2) (C := RX5) (T := TX5) (N := 6) hx hb hts inX5 hown hK hP 4 rfl rfl 2 (by decide) (hts _ mw_391) (fun _ h9 => h9) rfl dX10_told_117 ?_
    refine va_get (D := (dC, dI)) (ci := 6) (v := .int (nI (nN (mn f0)))) (C := RX7) (T := TX7) (N := 4) hx hb hts inX7 hown hK hP 5 rfl rfl 2 (by decide) (hts _ mw_179) (fun _ h9 => h9) rfl dX10_told_120 ?_
    have hP := pl_back (cs := [(oc1 fe2 (rk f0) (wd f0) (tw f0) (pa f0) (pb f0) (.ref lo2) (.ref lk2) fm2), (oc4 lk2 (kd f0) (st f0) (.ref r2) (gb f0) (it f0) we2), (oc6 r2 (.ref rx2) (.ref ry2) (nI (nN (mn f0))) rg2), (oa rx2 cI cap2 U2), (oa ry2 cI cap2 V2)]) (L := L) (f := f) (X := [(oc8 x (.ref sh) (.ref lw) (.ref ro) (.ref bq) (.ref bp) (.ref dq) (.ref dp) (.ref lv) (.ref sl) ds sd ul su), (oc7 sh (.ref fa) (nI ft)), (oq fa cF 200 FA)]) (by rw [hT_1]; exact (show va_P (dC, dI) classes (([(oc8 x (.ref sh) (.ref lw) (.ref ro) (.ref bq) (.ref bp) (.ref dq) (.ref dp) (.ref lv) (.ref sl) ds sd ul su), (oc7 sh (.ref fa) (nI ft)), (oq fa cF 200 FA)] ++ [(oc1 fe2 (rk f0) (wd f0) (tw f0) (pa f0) (pb f0) (.ref lo2) (.ref lk2) fm2), (oc4 lk2 (kd f0) (st f0) (.ref r2) (gb f0) (it f0) we2), (oc6 r2 (.ref rx2) (.ref ry2) (nI (nN (mn f0))) rg2), (oa rx2 cI cap2 U2), (oa ry2 cI cap2 V2)]) ++ va_pl T_1 f) H from hP)) hc9_1
    have hD : va_D A ([(oc8 x (.ref sh) (.ref lw) (.ref ro) (.ref bq) (.ref bp) (.ref dq) (.ref dp) (.ref lv) (.ref sl) ds sd ul su), (oc7 sh (.ref fa) (nI ft)), (oq fa cF 200 FA)] ++ va_pl L f) := vaD_ae hD0_1 rfl
    have hP9 := hP.part (cx := [(oc8 x (.ref sh) (.ref lw) (.ref ro) (.ref bq) (.ref bp) (.ref dq) (.ref dp) (.ref lv) (.ref sl) ds sd ul su), (oc7 sh (.ref fa) (nI ft)), (oq fa cF 200 FA)]) [0, 1, 2] rfl
    have hD9 := hD.part (cx := [(oc8 x (.ref sh) (.ref lw) (.ref ro) (.ref bq) (.ref bp) (.ref dq) (.ref dp) (.ref lv) (.ref sl) ds sd ul su), (oc7 sh (.ref fa) (nI ft)), (oq fa cF 200 FA)]) [0, 1, 2] (by decide) rfl
    rw [hQ9]
    exact W.iret (v := nI (nN (mn f0))) hx hb hr (fun t ht hW => ⟨⟨congrArg (fun z => Outcome.returned (some (Value.int z))) (show (nI (nN (mn f0)) : Int32) = nI (if (tn f0).toInt = 0 then nN (mn f0) else 0) from by first | (rw [if_neg (by omega)]; rfl) | (rw [if_pos (by omega)])), by rw [ht]; exact hP9, hD9⟩, hS.F ht⟩) hS.2.2 dX10_told_123
set_option maxHeartbeats 4000000 in
set_option maxRecDepth 100000 in
theorem k_told_5 (l : Launch) (dC : Nat → ClassId) (dI : Nat → Nat → Nat) (cI cZ cF : ClassId) (sz : Nat) (x : Nat) (sh : Nat) (lw : Nat) (ro : Nat) (bq : Nat) (bp : Nat) (dq : Nat) (dp : Nat) (lv : Nat) (sl : Nat) (sd : Int32) (ul : Int32) (su : Int32) (ds : Int32) (fa : Nat) (ft : Nat) (FA : Nat → Option Nat) (f0 : Nat) (L : List Nat) (f : Nat → va_E) (kd : Nat → Int32) (st : Nat → Int32) (tn : Nat → Int32) (mn : Nat → Int32) (cx : Nat → Int32) (cy : Nat → Int32) (rk : Nat → Int32) (wd : Nat → Int32) (tw : Nat → Int32) (pa : Nat → Int32) (pb : Nat → Int32) (gb : Nat → Int32) (it : Nat → Int32) (h200 : ft ≤ 200) (hf0 : f0 < ft) (hva : ∀ q, q < ft → vwA cI L f FA rk wd tw pa pb kd st gb it tn mn cx cy q) : Met l yX10_told (.code yX10_told cX10_told 4 (some .int) :: ws0) ({ frames := 1, cells := 0, slots := 0, locals := 21 } : Room) (va_Pc [.ref x, .int (nI f0), .int 5] (zPre (dC, dI) classes (zTy cI cZ cF) ([(oc8 x (.ref sh) (.ref lw) (.ref ro) (.ref bq) (.ref bp) (.ref dq) (.ref dp) (.ref lv) (.ref sl) ds sd ul su), (oc7 sh (.ref fa) (nI ft)), (oq fa cF 200 FA)] ++ va_pl L f) sz zXN)) (zQ (some (.int (st f0))) (fun t => va_P (dC, dI) classes ([(oc8 x (.ref sh) (.ref lw) (.ref ro) (.ref bq) (.ref bp) (.ref dq) (.ref dp) (.ref lv) (.ref sl) ds sd ul su), (oc7 sh (.ref fa) (nI ft)), (oq fa cF 200 FA)] ++ va_pl L f) t.heap ∧ va_D (va_A ([(oc8 x (.ref sh) (.ref lw) (.ref ro) (.ref bq) (.ref bp) (.ref dq) (.ref dp) (.ref lv) (.ref sl) ds sd ul su), (oc7 sh (.ref fa) (nI ft)), (oq fa cF 200 FA)] ++ va_pl L f) sz) ([(oc8 x (.ref sh) (.ref lw) (.ref ro) (.ref bq) (.ref bp) (.ref dq) (.ref dp) (.ref lv) (.ref sl) ds sd ul su), (oc7 sh (.ref fa) (nI ft)), (oq fa cF 200 FA)] ++ va_pl L f)) (va_A ([(oc8 x (.ref sh) (.ref lw) (.ref ro) (.ref bq) (.ref bp) (.ref dq) (.ref dp) (.ref lv) (.ref sl) ds sd ul su), (oc7 sh (.ref fa) (nI ft)), (oq fa cF 200 FA)] ++ va_pl L f) sz)) 0 0 (va_A ([(oc8 x (.ref sh) (.ref lw) (.ref ro) (.ref bq) (.ref bp) (.ref dq) (.ref dp) (.ref lv) (.ref sl) ds sd ul su), (oc7 sh (.ref fa) (nI ft)), (oq fa cF 200 FA)] ++ va_pl L f) sz) := by
  refine Met.ofW (cc := cX10_told) (maxL := 4) (ret := (some .int)) (by decide) rfl ?_
  intro p e s m args below meth c s₁ B hml hv
  obtain ⟨rfl, hsz, hP, hK, hD0, hXN⟩ := hv
  have hx := B.exec
  have hb := B.bytes
  have hr := B.returns
  have hts0 := atoms_spec (ws := .code yX10_told cX10_told 4 (some .int) :: ws0) B.pre
  have hts : ∀ w9 ∈ ws0, w9.before ([.ref x, .int (nI f0), .int 5] : List Value).toArray s = true := fun w9 h => hts0 w9 (List.mem_cons_of_mem _ h)
  have hown : s.vm.findClass "ScaleShop" = some m.cls := findClass_of_methodNamed B.named
  have hlocks := B.notSynchronized
  subst hsz
  have hD := hD0.self (sz := s.heap.size)
  clear hD0
  generalize hAe : va_A ([(oc8 x (.ref sh) (.ref lw) (.ref ro) (.ref bq) (.ref bp) (.ref dq) (.ref dp) (.ref lv) (.ref sl) ds sd ul su), (oc7 sh (.ref fa) (nI ft)), (oq fa cF 200 FA)] ++ va_pl L f) s.heap.size = A at hD ⊢
  have hA : ∀ q : Nat, s.heap.size ≤ q → A q := fun q h => by rw [← hAe]; exact Or.inr h
  clear hAe
  have hS : va_S A s.heap s.heap [] := va_S.rf
  have hP : va_P (dC, dI) classes ([(oc8 x (.ref sh) (.ref lw) (.ref ro) (.ref bq) (.ref bp) (.ref dq) (.ref dp) (.ref lv) (.ref sl) ds sd ul su), (oc7 sh (.ref fa) (nI ft)), (oq fa cF 200 FA)] ++ va_pl L f) s.heap := hP
  obtain ⟨Q9, hQ9⟩ : ∃ Q9 : State → Prop, Q9 = MQ below (zQ (some (.int (st f0))) (fun t => va_P (dC, dI) classes ([(oc8 x (.ref sh) (.ref lw) (.ref ro) (.ref bq) (.ref bp) (.ref dq) (.ref dp) (.ref lv) (.ref sl) ds sd ul su), (oc7 sh (.ref fa) (nI ft)), (oq fa cF 200 FA)] ++ va_pl L f) t.heap ∧ va_D A ([(oc8 x (.ref sh) (.ref lw) (.ref ro) (.ref bq) (.ref bp) (.ref dq) (.ref dp) (.ref lv) (.ref sl) ds sd ul su), (oc7 sh (.ref fa) (nI ft)), (oq fa cF 200 FA)] ++ va_pl L f)) A) ([.ref x, .int (nI f0), .int 5] : List Value).toArray s 0 0 A := ⟨_, rfl⟩
  rw [← hQ9]
  have hl := lv_entry ([.ref x, .int (nI f0), .int 5]) (n := 4) (Nat.le_of_ble_eq_true rfl)
  rw [lg_entry_eq]
  generalize (lg_sl ([.ref x, .int (nI f0), .int 5]) ++ List.replicate (4 - (lg_sl ([.ref x, .int (nI f0), .int 5])).length) Slot.unset).toArray = ls at hl ⊢
  have hl : lv_has ls 4 [(0, .ref x), (1, .int (nI f0)), (2, .int 5)] := hl
  rcases vwA_2 (hva f0 (by omega)) with ⟨ht2, fe2, lk2, lo2, we2, fm2, hFA2, hfe2, hlk2⟩ | ⟨ht2, fe2, lk2, lo2, we2, fm2, r2, rx2, ry2, cap2, U2, V2, rg2, hFA2, hfe2, hlk2, ⟨hr2, hrx2, hry2, hne2⟩, hrr2⟩
  · skip
    have hc9_1 : inPl L f [(oc1 fe2 (rk f0) (wd f0) (tw f0) (pa f0) (pb f0) (.ref lo2) (.ref lk2) fm2), (oc4 lk2 (kd f0) (st f0) .null (gb f0) (it f0) we2)] := ⟨hfe2, hlk2, trivial⟩
    have hD0_1 := hD
    obtain ⟨hP, hD⟩ := pl_out hP hD [(oc1 fe2 (rk f0) (wd f0) (tw f0) (pa f0) (pb f0) (.ref lo2) (.ref lk2) fm2), (oc4 lk2 (kd f0) (st f0) .null (gb f0) (it f0) we2)] hc9_1 (pwF hfe2.2 hlk2.2)
    generalize hT_1 : outPl L [(oc1 fe2 (rk f0) (wd f0) (tw f0) (pa f0) (pb f0) (.ref lo2) (.ref lk2) fm2), (oc4 lk2 (kd f0) (st f0) .null (gb f0) (it f0) we2)] = T_1 at hP hD
    have hP : va_P (dC, dI) classes ([(oc8 x (.ref sh) (.ref lw) (.ref ro) (.ref bq) (.ref bp) (.ref dq) (.ref dp) (.ref lv) (.ref sl) ds sd ul su), (oc7 sh (.ref fa) (nI ft)), (oq fa cF 200 FA), (oc1 fe2 (rk f0) (wd f0) (tw f0) (pa f0) (pb f0) (.ref lo2) (.ref lk2) fm2), (oc4 lk2 (kd f0) (st f0) .null (gb f0) (it f0) we2)] ++ va_pl T_1 f) s.heap := hP
    have hD : va_D A ([(oc8 x (.ref sh) (.ref lw) (.ref ro) (.ref bq) (.ref bp) (.ref dq) (.ref dp) (.ref lv) (.ref sl) ds sd ul su), (oc7 sh (.ref fa) (nI ft)), (oq fa cF 200 FA), (oc1 fe2 (rk f0) (wd f0) (tw f0) (pa f0) (pb f0) (.ref lo2) (.ref lk2) fm2), (oc4 lk2 (kd f0) (st f0) .null (gb f0) (it f0) we2)] ++ va_pl T_1 f) := hD
    refine lv_aload_n hx hb dX10_told_0 rfl (lv_at hl 0 rfl) ?_
    refine va_get (D := (dC, dI)) (ci := 8) (v := .ref sh) (C := RX10) (T := TX10) (N := 13) hx hb hts inX10 hown hK hP 0 rfl rfl 0 (by decide) (hts _ mw_309) (fun _ h9 => h9) rfl dX10_told_1 ?_
    refine lv_iload_n hx hb dX10_told_4 rfl (lv_at hl 1 rfl) ?_
    have hPc := hP.sub (ws' := [(oc7 sh (.ref fa) (nI ft)), (oq fa cF 200 FA)]) [1, 2] rfl
    have hDc := hD.sub (ws' := [(oc7 sh (.ref fa) (nI ft)), (oq fa cF 200 FA)]) [1, 2] (by decide) rfl
    have hFc := va_free (wc := [(oc7 sh (.ref fa) (nI ft)), (oq fa cF 200 FA)]) hD hS hA [1, 2] rfl
    refine zcall (st1 := [.ref fe2]) (va_runV (As := [.int (nI f0)]) (rest := []) ⟨hx, hb, hml, hown, hts⟩ (k_Sheet_find l dC dI cI cZ cF s.heap.size sh fa ft FA f0 fe2 (by omega) (by omega) (hFA2)) (cwV 1 hts (zz_gV mw_498 mw_499 mw_500 mw_100 mc_yX8_find) rfl rfl rfl (by decide +kernel) ⟨Nat.le_of_ble_eq_true rfl, Nat.le_of_ble_eq_true rfl⟩) (zPV2 (q0 := 0) (ci := 7) hPc hDc hK hXN rfl rfl) rfl rfl hl.1 rfl (lv_room (Nat.le_of_ble_eq_true rfl)) dX10_told_5 ⟨Nat.le_of_ble_eq_true rfl, Nat.le_of_ble_eq_true rfl⟩) hS hFc hFc rfl (fun t H1 locs ht hB hk1 hS => ?_)
    obtain ⟨hP1, hD1⟩ := hB
    rw [ht] at hP1
    obtain ⟨hP, hD⟩ := va_joinQ (wr := [(oc8 x (.ref sh) (.ref lw) (.ref ro) (.ref bq) (.ref bp) (.ref dq) (.ref dp) (.ref lv) (.ref sl) ds sd ul su), (oc1 fe2 (rk f0) (wd f0) (tw f0) (pa f0) (pb f0) (.ref lo2) (.ref lk2) fm2), (oc4 lk2 (kd f0) (st f0) .null (gb f0) (it f0) we2)]) (w1 := [(oc7 sh (.ref fa) (nI ft)), (oq fa cF 200 FA)]) hP hD [1, 2] [0, 3, 4] rfl rfl (by decide) (by decide) hk1 hFc hP1 hD1
    clear hk1 hPc hDc hFc hP1 hD1 ht
    generalize H1 = H at hP hS ⊢
    have hP := hP.part (cx := [(oc8 x (.ref sh) (.ref lw) (.ref ro) (.ref bq) (.ref bp) (.ref dq) (.ref dp) (.ref lv) (.ref sl) ds sd ul su), (oc7 sh (.ref fa) (nI ft)), (oq fa cF 200 FA), (oc1 fe2 (rk f0) (wd f0) (tw f0) (pa f0) (pb f0) (.ref lo2) (.ref lk2) fm2), (oc4 lk2 (kd f0) (st f0) .null (gb f0) (it f0) we2)]) [0, 3, 4, 1, 2] rfl
    have hD := hD.part (cx := [(oc8 x (.ref sh) (.ref lw) (.ref ro) (.ref bq) (.ref bp) (.ref dq) (.ref dp) (.ref lv) (.ref sl) ds sd ul su), (oc7 sh (.ref fa) (nI ft)), (oq fa cF 200 FA), (oc1 fe2 (rk f0) (wd f0) (tw f0) (pa f0) (pb f0) (.ref lo2) (.ref lk2) fm2), (oc4 lk2 (kd f0) (st f0) .null (gb f0) (it f0) we2)]) [0, 3, 4, 1, 2] (by decide) rfl
    have hP : va_P (dC, dI) classes ([(oc8 x (.ref sh) (.ref lw) (.ref ro) (.ref bq) (.ref bp) (.ref dq) (.ref dp) (.ref lv) (.ref sl) ds sd ul su), (oc7 sh (.ref fa) (nI ft)), (oq fa cF 200 FA), (oc1 fe2 (rk f0) (wd f0) (tw f0) (pa f0) (pb f0) (.ref lo2) (.ref lk2) fm2), (oc4 lk2 (kd f0) (st f0) .null (gb f0) (it f0) we2)] ++ va_pl T_1 f) H := hP
    have hD : va_D A ([(oc8 x (.ref sh) (.ref lw) (.ref ro) (.ref bq) (.ref bp) (.ref dq) (.ref dp) (.ref lv) (.ref sl) ds sd ul su), (oc7 sh (.ref fa) (nI ft)), (oq fa cF 200 FA), (oc1 fe2 (rk f0) (wd f0) (tw f0) (pa f0) (pb f0) (.ref lo2) (.ref lk2) fm2), (oc4 lk2 (kd f0) (st f0) .null (gb f0) (it f0) we2)] ++ va_pl T_1 f) := hD
    refine lv_astore_n (lv' := [(3, .ref fe2), (0, .ref x), (1, .int (nI f0)), (2, .int 5)]) hx hb dX10_told_8 rfl hl (by decide) rfl (fun ls hl => ?_)
    refine lv_aload_n hx hb dX10_told_9 rfl (lv_at hl 0 rfl) ?_
    refine lv_ifnonnull (tgt := 15) hx hb dX10_told_10 (by decide) ?_
    refine lv_iload_n hx hb dX10_told_15 rfl (lv_at hl 3 rfl) ?_
    refine lv_tableIn (tgt := 124) (off := 108) hx hb dX10_told_16 (by decide) (by decide) (by decide) (by decide) ?_
    refine lv_aload_n hx hb dX10_told_124 rfl (lv_at hl 0 rfl) ?_
    refine va_get (D := (dC, dI)) (ci := 1) (v := .ref lk2) (C := RX2) (T := TX2) (N := 8) hx hb hts inX2 hown hK hP 3 rfl rfl 6 (by decide) (hts _ mw_433) (fun _ h9 => h9) rfl dX10_told_125 ?_
    refine va_get (D := (dC, dI)) (ci := 4) (v := .int (st f0)) (C := RX5) (T := TX5) (N := 6) hx hb hts inX5 hown hK hP 4 rfl rfl 1 (by decide) (hts _ mw_385) (fun _ h9 => h9) rfl dX10_told_128 ?_
    have hP := pl_back (cs := [(oc1 fe2 (rk f0) (wd f0) (tw f0) (pa f0) (pb f0) (.ref lo2) (.ref lk2) fm2), (oc4 lk2 (kd f0) (st f0) .null (gb f0) (it f0) we2)]) (L := L) (f := f) (X := [(oc8 x (.ref sh) (.ref lw) (.ref ro) (.ref bq) (.ref bp) (.ref dq) (.ref dp) (.ref lv) (.ref sl) ds sd ul su), (oc7 sh (.ref fa) (nI ft)), (oq fa cF 200 FA)]) (by rw [hT_1]; exact (show va_P (dC, dI) classes (([(oc8 x (.ref sh) (.ref lw) (.ref ro) (.ref bq) (.ref bp) (.ref dq) (.ref dp) (.ref lv) (.ref sl) ds sd ul su), (oc7 sh (.ref fa) (nI ft)), (oq fa cF 200 FA)] ++ [(oc1 fe2 (rk f0) (wd f0) (tw f0) (pa f0) (pb f0) (.ref lo2) (.ref lk2) fm2), (oc4 lk2 (kd f0) (st f0) .null (gb f0) (it f0) we2)]) ++ va_pl T_1 f) H from hP)) hc9_1
    have hD : va_D A ([(oc8 x (.ref sh) (.ref lw) (.ref ro) (.ref bq) (.ref bp) (.ref dq) (.ref dp) (.ref lv) (.ref sl) ds sd ul su), (oc7 sh (.ref fa) (nI ft)), (oq fa cF 200 FA)] ++ va_pl L f) := vaD_ae hD0_1 rfl
    have hP9 := hP.part (cx := [(oc8 x (.ref sh) (.ref lw) (.ref ro) (.ref bq) (.ref bp) (.ref dq) (.ref dp) (.ref lv) (.ref sl) ds sd ul su), (oc7 sh (.ref fa) (nI ft)), (oq fa cF 200 FA)]) [0, 1, 2] rfl
    have hD9 := hD.part (cx := [(oc8 x (.ref sh) (.ref lw) (.ref ro) (.ref bq) (.ref bp) (.ref dq) (.ref dp) (.ref lv) (.ref sl) ds sd ul su), (oc7 sh (.ref fa) (nI ft)), (oq fa cF 200 FA)]) [0, 1, 2] (by decide) rfl
    rw [hQ9]
    exact W.iret (v := st f0) hx hb hr (fun t ht hW => ⟨⟨rfl, by rw [ht]; exact hP9, hD9⟩, hS.F ht⟩) hS.2.2 dX10_told_131
  · skip
    have hcap2 := hrr2.1
    have hcap3 := hrr2.2.1
    have hc9_1 : inPl L f [(oc1 fe2 (rk f0) (wd f0) (tw f0) (pa f0) (pb f0) (.ref lo2) (.ref lk2) fm2), (oc4 lk2 (kd f0) (st f0) (.ref r2) (gb f0) (it f0) we2), (oc6 r2 (.ref rx2) (.ref ry2) (nI (nN (mn f0))) rg2), (oa rx2 cI cap2 U2), (oa ry2 cI cap2 V2)] := ⟨hfe2, hlk2, hr2, hrx2, hry2, trivial⟩
    have hD0_1 := hD
    obtain ⟨hP, hD⟩ := pl_out hP hD [(oc1 fe2 (rk f0) (wd f0) (tw f0) (pa f0) (pb f0) (.ref lo2) (.ref lk2) fm2), (oc4 lk2 (kd f0) (st f0) (.ref r2) (gb f0) (it f0) we2), (oc6 r2 (.ref rx2) (.ref ry2) (nI (nN (mn f0))) rg2), (oa rx2 cI cap2 U2), (oa ry2 cI cap2 V2)] hc9_1 (pwR hfe2.2 hlk2.2 hr2.2 hrx2.2 hry2.2 hne2)
    generalize hT_1 : outPl L [(oc1 fe2 (rk f0) (wd f0) (tw f0) (pa f0) (pb f0) (.ref lo2) (.ref lk2) fm2), (oc4 lk2 (kd f0) (st f0) (.ref r2) (gb f0) (it f0) we2), (oc6 r2 (.ref rx2) (.ref ry2) (nI (nN (mn f0))) rg2), (oa rx2 cI cap2 U2), (oa ry2 cI cap2 V2)] = T_1 at hP hD
    have hP : va_P (dC, dI) classes ([(oc8 x (.ref sh) (.ref lw) (.ref ro) (.ref bq) (.ref bp) (.ref dq) (.ref dp) (.ref lv) (.ref sl) ds sd ul su), (oc7 sh (.ref fa) (nI ft)), (oq fa cF 200 FA), (oc1 fe2 (rk f0) (wd f0) (tw f0) (pa f0) (pb f0) (.ref lo2) (.ref lk2) fm2), (oc4 lk2 (kd f0) (st f0) (.ref r2) (gb f0) (it f0) we2), (oc6 r2 (.ref rx2) (.ref ry2) (nI (nN (mn f0))) rg2), (oa rx2 cI cap2 U2), (oa ry2 cI cap2 V2)] ++ va_pl T_1 f) s.heap := hP
    have hD : va_D A ([(oc8 x (.ref sh) (.ref lw) (.ref ro) (.ref bq) (.ref bp) (.ref dq) (.ref dp) (.ref lv) (.ref sl) ds sd ul su), (oc7 sh (.ref fa) (nI ft)), (oq fa cF 200 FA), (oc1 fe2 (rk f0) (wd f0) (tw f0) (pa f0) (pb f0) (.ref lo2) (.ref lk2) fm2), (oc4 lk2 (kd f0) (st f0) (.ref r2) (gb f0) (it f0) we2), (oc6 r2 (.ref rx2) (.ref ry2) (nI (nN (mn f0))) rg2), (oa rx2 cI cap2 U2), (oa ry2 cI cap2 V2)] ++ va_pl T_1 f) := hD
    refine lv_aload_n hx hb dX10_told_0 rfl (lv_at hl 0 rfl) ?_
    refine va_get (D := (dC, dI)) (ci := 8) (v := .ref sh) (C := RX10) (T := TX10) (N := 13) hx hb hts inX10 hown hK hP 0 rfl rfl 0 (by decide) (hts _ mw_309) (fun _ h9 => h9) rfl dX10_told_1 ?_
    refine lv_iload_n hx hb dX10_told_4 rfl (lv_at hl 1 rfl) ?_
    have hPc := hP.sub (ws' := [(oc7 sh (.ref fa) (nI ft)), (oq fa cF 200 FA)]) [1, 2] rfl
    have hDc := hD.sub (ws' := [(oc7 sh (.ref fa) (nI ft)), (oq fa cF 200 FA)]) [1, 2] (by decide) rfl
    have hFc := va_free (wc := [(oc7 sh (.ref fa) (nI ft)), (oq fa cF 200 FA)]) hD hS hA [1, 2] rfl
    refine zcall (st1 := [.ref fe2]) (va_runV (As := [.int (nI f0)]) (rest := []) ⟨hx, hb, hml, hown, hts⟩ (k_Sheet_find l dC dI cI cZ cF s.heap.size sh fa ft FA f0 fe2 (by omega) (by omega) (hFA2)) (cwV 1 hts (zz_gV mw_498 mw_499 mw_500 mw_100 mc_yX8_find) rfl rfl rfl (by decide +kernel) ⟨Nat.le_of_ble_eq_true rfl, Nat.le_of_ble_eq_true rfl⟩) (zPV2 (q0 := 0) (ci := 7) hPc hDc hK hXN rfl rfl) rfl rfl hl.1 rfl (lv_room (Nat.le_of_ble_eq_true rfl)) dX10_told_5 ⟨Nat.le_of_ble_eq_true rfl, Nat.le_of_ble_eq_true rfl⟩) hS hFc hFc rfl (fun t H1 locs ht hB hk1 hS => ?_)
    obtain ⟨hP1, hD1⟩ := hB
    rw [ht] at hP1
    obtain ⟨hP, hD⟩ := va_joinQ (wr := [(oc8 x (.ref sh) (.ref lw) (.ref ro) (.ref bq) (.ref bp) (.ref dq) (.ref dp) (.ref lv) (.ref sl) ds sd ul su), (oc1 fe2 (rk f0) (wd f0) (tw f0) (pa f0) (pb f0) (.ref lo2) (.ref lk2) fm2), (oc4 lk2 (kd f0) (st f0) (.ref r2) (gb f0) (it f0) we2), (oc6 r2 (.ref rx2) (.ref ry2) (nI (nN (mn f0))) rg2), (oa rx2 cI cap2 U2), (oa ry2 cI cap2 V2)]) (w1 := [(oc7 sh (.ref fa) (nI ft)), (oq fa cF 200 FA)]) hP hD [1, 2] [0, 3, 4, 5, 6, 7] rfl rfl (by decide) (by decide) hk1 hFc hP1 hD1
    clear hk1 hPc hDc hFc hP1 hD1 ht
    generalize H1 = H at hP hS ⊢
    have hP := hP.part (cx := [(oc8 x (.ref sh) (.ref lw) (.ref ro) (.ref bq) (.ref bp) (.ref dq) (.ref dp) (.ref lv) (.ref sl) ds sd ul su), (oc7 sh (.ref fa) (nI ft)), (oq fa cF 200 FA), (oc1 fe2 (rk f0) (wd f0) (tw f0) (pa f0) (pb f0) (.ref lo2) (.ref lk2) fm2), (oc4 lk2 (kd f0) (st f0) (.ref r2) (gb f0) (it f0) we2), (oc6 r2 (.ref rx2) (.ref ry2) (nI (nN (mn f0))) rg2), (oa rx2 cI cap2 U2), (oa ry2 cI cap2 V2)]) [0, 6, 7, 1, 2, 3, 4, 5] rfl
    have hD := hD.part (cx := [(oc8 x (.ref sh) (.ref lw) (.ref ro) (.ref bq) (.ref bp) (.ref dq) (.ref dp) (.ref lv) (.ref sl) ds sd ul su), (oc7 sh (.ref fa) (nI ft)), (oq fa cF 200 FA), (oc1 fe2 (rk f0) (wd f0) (tw f0) (pa f0) (pb f0) (.ref lo2) (.ref lk2) fm2), (oc4 lk2 (kd f0) (st f0) (.ref r2) (gb f0) (it f0) we2), (oc6 r2 (.ref rx2) (.ref ry2) (nI (nN (mn f0))) rg2), (oa rx2 cI cap2 U2), (oa ry2 cI cap2 V2)]) [0, 6, 7, 1, 2, 3, 4, 5] (by decide) rfl
    have hP : va_P (dC, dI) classes ([(oc8 x (.ref sh) (.ref lw) (.ref ro) (.ref bq) (.ref bp) (.ref dq) (.ref dp) (.ref lv) (.ref sl) ds sd ul su), (oc7 sh (.ref fa) (nI ft)), (oq fa cF 200 FA), (oc1 fe2 (rk f0) (wd f0) (tw f0) (pa f0) (pb f0) (.ref lo2) (.ref lk2) fm2), (oc4 lk2 (kd f0) (st f0) (.ref r2) (gb f0) (it f0) we2), (oc6 r2 (.ref rx2) (.ref ry2) (nI (nN (mn f0))) rg2), (oa rx2 cI cap2 U2), (oa ry2 cI cap2 V2)] ++ va_pl T_1 f) H := hP
    have hD : va_D A ([(oc8 x (.ref sh) (.ref lw) (.ref ro) (.ref bq) (.ref bp) (.ref dq) (.ref dp) (.ref lv) (.ref sl) ds sd ul su), (oc7 sh (.ref fa) (nI ft)), (oq fa cF 200 FA), (oc1 fe2 (rk f0) (wd f0) (tw f0) (pa f0) (pb f0) (.ref lo2) (.ref lk2) fm2), (oc4 lk2 (kd f0) (st f0) (.ref r2) (gb f0) (it f0) we2), (oc6 r2 (.ref rx2) (.ref ry2) (nI (nN (mn f0))) rg2), (oa rx2 cI cap2 U2), (oa ry2 cI cap2 V2)] ++ va_pl T_1 f) := hD
    refine lv_astore_n (lv' := [(3, .ref fe2), (0, .ref x), (1, .int (nI f0)), (2, .int 5)]) hx hb dX10_told_8 rfl hl (by decide) rfl (fun ls hl => ?_)
    refine lv_aload_n hx hb dX10_told_9 rfl (lv_at hl 0 rfl) ?_
    refine lv_ifnonnull (tgt := 15) hx hb dX10_told_10 (by decide) ?_
    refine lv_iload_n hx hb dX10_told_15 rfl (lv_at hl 3 rfl) ?_
    refine lv_tableIn (tgt := 124) (off := 108) hx hb dX10_told_16 (by decide) (by decide) (by decide) (by decide) ?_
    refine lv_aload_n hx hb dX10_told_124 rfl (lv_at hl 0 rfl) ?_
    refine va_get (D := (dC, dI)) (ci := 1) (v := .ref lk2) (C := RX2) (T := TX2) (N := 8) hx hb hts inX2 hown hK hP 3 rfl rfl 6 (by decide) (hts _ mw_433) (fun _ h9 => h9) rfl dX10_told_125 ?_
    refine va_get (D := (dC, dI)) (ci := 4) (v := .int (st f0)) (C := RX5) (T := TX5) (N := 6) hx hb hts inX5 hown hK hP 4 rfl rfl 1 (by decide) (hts _ mw_385) (fun _ h9 => h9) rfl dX10_told_128 ?_
    have hP := pl_back (cs := [(oc1 fe2 (rk f0) (wd f0) (tw f0) (pa f0) (pb f0) (.ref lo2) (.ref lk2) fm2), (oc4 lk2 (kd f0) (st f0) (.ref r2) (gb f0) (it f0) we2), (oc6 r2 (.ref rx2) (.ref ry2) (nI (nN (mn f0))) rg2), (oa rx2 cI cap2 U2), (oa ry2 cI cap2 V2)]) (L := L) (f := f) (X := [(oc8 x (.ref sh) (.ref lw) (.ref ro) (.ref bq) (.ref bp) (.ref dq) (.ref dp) (.ref lv) (.ref sl) ds sd ul su), (oc7 sh (.ref fa) (nI ft)), (oq fa cF 200 FA)]) (by rw [hT_1]; exact (show va_P (dC, dI) classes (([(oc8 x (.ref sh) (.ref lw) (.ref ro) (.ref bq) (.ref bp) (.ref dq) (.ref dp) (.ref lv) (.ref sl) ds sd ul su), (oc7 sh (.ref fa) (nI ft)), (oq fa cF 200 FA)] ++ [(oc1 fe2 (rk f0) (wd f0) (tw f0) (pa f0) (pb f0) (.ref lo2) (.ref lk2) fm2), (oc4 lk2 (kd f0) (st f0) (.ref r2) (gb f0) (it f0) we2), (oc6 r2 (.ref rx2) (.ref ry2) (nI (nN (mn f0))) rg2), (oa rx2 cI cap2 U2), (oa ry2 cI cap2 V2)]) ++ va_pl T_1 f) H from hP)) hc9_1
    have hD : va_D A ([(oc8 x (.ref sh) (.ref lw) (.ref ro) (.ref bq) (.ref bp) (.ref dq) (.ref dp) (.ref lv) (.ref sl) ds sd ul su), (oc7 sh (.ref fa) (nI ft)), (oq fa cF 200 FA)] ++ va_pl L f) := vaD_ae hD0_1 rfl
    have hP9 := hP.part (cx := [(oc8 x (.ref sh) (.ref lw) (.ref ro) (.ref bq) (.ref bp) (.ref dq) (.ref dp) (.ref lv) (.ref sl) ds sd ul su), (oc7 sh (.ref fa) (nI ft)), (oq fa cF 200 FA)]) [0, 1, 2] rfl
    have hD9 := hD.part (cx := [(oc8 x (.ref sh) (.ref lw) (.ref ro) (.ref bq) (.ref bp) (.ref dq) (.ref dp) (.ref lv) (.ref sl) ds sd ul su), (oc7 sh (.ref fa) (nI ft)), (oq fa cF 200 FA)]) [0, 1, 2] (by decide) rfl
    rw [hQ9]
    exact W.iret (v := st f0) hx hb hr (fun t ht hW => ⟨⟨rfl, by rw [ht]; exact hP9, hD9⟩, hS.F ht⟩) hS.2.2 dX10_told_131
set_option maxHeartbeats 4000000 in
set_option maxRecDepth 100000 in
theorem k_told_6 (l : Launch) (dC : Nat → ClassId) (dI : Nat → Nat → Nat) (cI cZ cF : ClassId) (sz : Nat) (x : Nat) (sh : Nat) (lw : Nat) (ro : Nat) (bq : Nat) (bp : Nat) (dq : Nat) (dp : Nat) (lv : Nat) (sl : Nat) (sd : Int32) (ul : Int32) (su : Int32) (ds : Int32) (fa : Nat) (ft : Nat) (FA : Nat → Option Nat) (f0 : Nat) (L : List Nat) (f : Nat → va_E) (kd : Nat → Int32) (st : Nat → Int32) (tn : Nat → Int32) (mn : Nat → Int32) (cx : Nat → Int32) (cy : Nat → Int32) (rk : Nat → Int32) (wd : Nat → Int32) (tw : Nat → Int32) (pa : Nat → Int32) (pb : Nat → Int32) (gb : Nat → Int32) (it : Nat → Int32) (h200 : ft ≤ 200) (hf0 : f0 < ft) (hva : ∀ q, q < ft → vwA cI L f FA rk wd tw pa pb kd st gb it tn mn cx cy q) : Met l yX10_told (.code yX10_told cX10_told 4 (some .int) :: ws0) ({ frames := 1, cells := 0, slots := 0, locals := 21 } : Room) (va_Pc [.ref x, .int (nI f0), .int 6] (zPre (dC, dI) classes (zTy cI cZ cF) ([(oc8 x (.ref sh) (.ref lw) (.ref ro) (.ref bq) (.ref bp) (.ref dq) (.ref dp) (.ref lv) (.ref sl) ds sd ul su), (oc7 sh (.ref fa) (nI ft)), (oq fa cF 200 FA)] ++ va_pl L f) sz zXN)) (zQ (some (.int (pI (¬ (tn f0).toInt = 0)))) (fun t => va_P (dC, dI) classes ([(oc8 x (.ref sh) (.ref lw) (.ref ro) (.ref bq) (.ref bp) (.ref dq) (.ref dp) (.ref lv) (.ref sl) ds sd ul su), (oc7 sh (.ref fa) (nI ft)), (oq fa cF 200 FA)] ++ va_pl L f) t.heap ∧ va_D (va_A ([(oc8 x (.ref sh) (.ref lw) (.ref ro) (.ref bq) (.ref bp) (.ref dq) (.ref dp) (.ref lv) (.ref sl) ds sd ul su), (oc7 sh (.ref fa) (nI ft)), (oq fa cF 200 FA)] ++ va_pl L f) sz) ([(oc8 x (.ref sh) (.ref lw) (.ref ro) (.ref bq) (.ref bp) (.ref dq) (.ref dp) (.ref lv) (.ref sl) ds sd ul su), (oc7 sh (.ref fa) (nI ft)), (oq fa cF 200 FA)] ++ va_pl L f)) (va_A ([(oc8 x (.ref sh) (.ref lw) (.ref ro) (.ref bq) (.ref bp) (.ref dq) (.ref dp) (.ref lv) (.ref sl) ds sd ul su), (oc7 sh (.ref fa) (nI ft)), (oq fa cF 200 FA)] ++ va_pl L f) sz)) 0 0 (va_A ([(oc8 x (.ref sh) (.ref lw) (.ref ro) (.ref bq) (.ref bp) (.ref dq) (.ref dp) (.ref lv) (.ref sl) ds sd ul su), (oc7 sh (.ref fa) (nI ft)), (oq fa cF 200 FA)] ++ va_pl L f) sz) := by
  refine Met.ofW (cc := cX10_told) (maxL := 4) (ret := (some .int)) (by decide) rfl ?_
  intro p e s m args below meth c s₁ B hml hv
  obtain ⟨rfl, hsz, hP, hK, hD0, hXN⟩ := hv
  have hx := B.exec
  have hb := B.bytes
  have hr := B.returns
  have hts0 := atoms_spec (ws := .code yX10_told cX10_told 4 (some .int) :: ws0) B.pre
  have hts : ∀ w9 ∈ ws0, w9.before ([.ref x, .int (nI f0), .int 6] : List Value).toArray s = true := fun w9 h => hts0 w9 (List.mem_cons_of_mem _ h)
  have hown : s.vm.findClass "ScaleShop" = some m.cls := findClass_of_methodNamed B.named
  have hlocks := B.notSynchronized
  subst hsz
  have hD := hD0.self (sz := s.heap.size)
  clear hD0
  generalize hAe : va_A ([(oc8 x (.ref sh) (.ref lw) (.ref ro) (.ref bq) (.ref bp) (.ref dq) (.ref dp) (.ref lv) (.ref sl) ds sd ul su), (oc7 sh (.ref fa) (nI ft)), (oq fa cF 200 FA)] ++ va_pl L f) s.heap.size = A at hD ⊢
  have hA : ∀ q : Nat, s.heap.size ≤ q → A q := fun q h => by rw [← hAe]; exact Or.inr h
  clear hAe
  have hS : va_S A s.heap s.heap [] := va_S.rf
  have hP : va_P (dC, dI) classes ([(oc8 x (.ref sh) (.ref lw) (.ref ro) (.ref bq) (.ref bp) (.ref dq) (.ref dp) (.ref lv) (.ref sl) ds sd ul su), (oc7 sh (.ref fa) (nI ft)), (oq fa cF 200 FA)] ++ va_pl L f) s.heap := hP
  obtain ⟨Q9, hQ9⟩ : ∃ Q9 : State → Prop, Q9 = MQ below (zQ (some (.int (pI (¬ (tn f0).toInt = 0)))) (fun t => va_P (dC, dI) classes ([(oc8 x (.ref sh) (.ref lw) (.ref ro) (.ref bq) (.ref bp) (.ref dq) (.ref dp) (.ref lv) (.ref sl) ds sd ul su), (oc7 sh (.ref fa) (nI ft)), (oq fa cF 200 FA)] ++ va_pl L f) t.heap ∧ va_D A ([(oc8 x (.ref sh) (.ref lw) (.ref ro) (.ref bq) (.ref bp) (.ref dq) (.ref dp) (.ref lv) (.ref sl) ds sd ul su), (oc7 sh (.ref fa) (nI ft)), (oq fa cF 200 FA)] ++ va_pl L f)) A) ([.ref x, .int (nI f0), .int 6] : List Value).toArray s 0 0 A := ⟨_, rfl⟩
  rw [← hQ9]
  have hl := lv_entry ([.ref x, .int (nI f0), .int 6]) (n := 4) (Nat.le_of_ble_eq_true rfl)
  rw [lg_entry_eq]
  generalize (lg_sl ([.ref x, .int (nI f0), .int 6]) ++ List.replicate (4 - (lg_sl ([.ref x, .int (nI f0), .int 6])).length) Slot.unset).toArray = ls at hl ⊢
  have hl : lv_has ls 4 [(0, .ref x), (1, .int (nI f0)), (2, .int 6)] := hl
  rcases vwA_2 (hva f0 (by omega)) with ⟨ht2, fe2, lk2, lo2, we2, fm2, hFA2, hfe2, hlk2⟩ | ⟨ht2, fe2, lk2, lo2, we2, fm2, r2, rx2, ry2, cap2, U2, V2, rg2, hFA2, hfe2, hlk2, ⟨hr2, hrx2, hry2, hne2⟩, hrr2⟩
  · skip
    have hc9_1 : inPl L f [(oc1 fe2 (rk f0) (wd f0) (tw f0) (pa f0) (pb f0) (.ref lo2) (.ref lk2) fm2), (oc4 lk2 (kd f0) (st f0) .null (gb f0) (it f0) we2)] := ⟨hfe2, hlk2, trivial⟩
    have hD0_1 := hD
    obtain ⟨hP, hD⟩ := pl_out hP hD [(oc1 fe2 (rk f0) (wd f0) (tw f0) (pa f0) (pb f0) (.ref lo2) (.ref lk2) fm2), (oc4 lk2 (kd f0) (st f0) .null (gb f0) (it f0) we2)] hc9_1 (pwF hfe2.2 hlk2.2)
    generalize hT_1 : outPl L [(oc1 fe2 (rk f0) (wd f0) (tw f0) (pa f0) (pb f0) (.ref lo2) (.ref lk2) fm2), (oc4 lk2 (kd f0) (st f0) .null (gb f0) (it f0) we2)] = T_1 at hP hD
    have hP : va_P (dC, dI) classes ([(oc8 x (.ref sh) (.ref lw) (.ref ro) (.ref bq) (.ref bp) (.ref dq) (.ref dp) (.ref lv) (.ref sl) ds sd ul su), (oc7 sh (.ref fa) (nI ft)), (oq fa cF 200 FA), (oc1 fe2 (rk f0) (wd f0) (tw f0) (pa f0) (pb f0) (.ref lo2) (.ref lk2) fm2), (oc4 lk2 (kd f0) (st f0) .null (gb f0) (it f0) we2)] ++ va_pl T_1 f) s.heap := hP
    have hD : va_D A ([(oc8 x (.ref sh) (.ref lw) (.ref ro) (.ref bq) (.ref bp) (.ref dq) (.ref dp) (.ref lv) (.ref sl) ds sd ul su), (oc7 sh (.ref fa) (nI ft)), (oq fa cF 200 FA), (oc1 fe2 (rk f0) (wd f0) (tw f0) (pa f0) (pb f0) (.ref lo2) (.ref lk2) fm2), (oc4 lk2 (kd f0) (st f0) .null (gb f0) (it f0) we2)] ++ va_pl T_1 f) := hD
    refine lv_aload_n hx hb dX10_told_0 rfl (lv_at hl 0 rfl) ?_
    refine va_get (D := (dC, dI)) (ci := 8) (v := .ref sh) (C := RX10) (T := TX10) (N := 13) hx hb hts inX10 hown hK hP 0 rfl rfl 0 (by decide) (hts _ mw_309) (fun _ h9 => h9) rfl dX10_told_1 ?_
    refine lv_iload_n hx hb dX10_told_4 rfl (lv_at hl 1 rfl) ?_
    have hPc := hP.sub (ws' := [(oc7 sh (.ref fa) (nI ft)), (oq fa cF 200 FA)]) [1, 2] rfl
    have hDc := hD.sub (ws' := [(oc7 sh (.ref fa) (nI ft)), (oq fa cF 200 FA)]) [1, 2] (by decide) rfl
    have hFc := va_free (wc := [(oc7 sh (.ref fa) (nI ft)), (oq fa cF 200 FA)]) hD hS hA [1, 2] rfl
    refine zcall (st1 := [.ref fe2]) (va_runV (As := [.int (nI f0)]) (rest := []) ⟨hx, hb, hml, hown, hts⟩ (k_Sheet_find l dC dI cI cZ cF s.heap.size sh fa ft FA f0 fe2 (by omega) (by omega) (hFA2)) (cwV 1 hts (zz_gV mw_498 mw_499 mw_500 mw_100 mc_yX8_find) rfl rfl rfl (by decide +kernel) ⟨Nat.le_of_ble_eq_true rfl, Nat.le_of_ble_eq_true rfl⟩) (zPV2 (q0 := 0) (ci := 7) hPc hDc hK hXN rfl rfl) rfl rfl hl.1 rfl (lv_room (Nat.le_of_ble_eq_true rfl)) dX10_told_5 ⟨Nat.le_of_ble_eq_true rfl, Nat.le_of_ble_eq_true rfl⟩) hS hFc hFc rfl (fun t H1 locs ht hB hk1 hS => ?_)
    obtain ⟨hP1, hD1⟩ := hB
    rw [ht] at hP1
    obtain ⟨hP, hD⟩ := va_joinQ (wr := [(oc8 x (.ref sh) (.ref lw) (.ref ro) (.ref bq) (.ref bp) (.ref dq) (.ref dp) (.ref lv) (.ref sl) ds sd ul su), (oc1 fe2 (rk f0) (wd f0) (tw f0) (pa f0) (pb f0) (.ref lo2) (.ref lk2) fm2), (oc4 lk2 (kd f0) (st f0) .null (gb f0) (it f0) we2)]) (w1 := [(oc7 sh (.ref fa) (nI ft)), (oq fa cF 200 FA)]) hP hD [1, 2] [0, 3, 4] rfl rfl (by decide) (by decide) hk1 hFc hP1 hD1
    clear hk1 hPc hDc hFc hP1 hD1 ht
    generalize H1 = H at hP hS ⊢
    have hP := hP.part (cx := [(oc8 x (.ref sh) (.ref lw) (.ref ro) (.ref bq) (.ref bp) (.ref dq) (.ref dp) (.ref lv) (.ref sl) ds sd ul su), (oc7 sh (.ref fa) (nI ft)), (oq fa cF 200 FA), (oc1 fe2 (rk f0) (wd f0) (tw f0) (pa f0) (pb f0) (.ref lo2) (.ref lk2) fm2), (oc4 lk2 (kd f0) (st f0) .null (gb f0) (it f0) we2)]) [0, 3, 4, 1, 2] rfl
    have hD := hD.part (cx := [(oc8 x (.ref sh) (.ref lw) (.ref ro) (.ref bq) (.ref bp) (.ref dq) (.ref dp) (.ref lv) (.ref sl) ds sd ul su), (oc7 sh (.ref fa) (nI ft)), (oq fa cF 200 FA), (oc1 fe2 (rk f0) (wd f0) (tw f0) (pa f0) (pb f0) (.ref lo2) (.ref lk2) fm2), (oc4 lk2 (kd f0) (st f0) .null (gb f0) (it f0) we2)]) [0, 3, 4, 1, 2] (by decide) rfl
    have hP : va_P (dC, dI) classes ([(oc8 x (.ref sh) (.ref lw) (.ref ro) (.ref bq) (.ref bp) (.ref dq) (.ref dp) (.ref lv) (.ref sl) ds sd ul su), (oc7 sh (.ref fa) (nI ft)), (oq fa cF 200 FA), (oc1 fe2 (rk f0) (wd f0) (tw f0) (pa f0) (pb f0) (.ref lo2) (.ref lk2) fm2), (oc4 lk2 (kd f0) (st f0) .null (gb f0) (it f0) we2)] ++ va_pl T_1 f) H := hP
    have hD : va_D A ([(oc8 x (.ref sh) (.ref lw) (.ref ro) (.ref bq) (.ref bp) (.ref dq) (.ref dp) (.ref lv) (.ref sl) ds sd ul su), (oc7 sh (.ref fa) (nI ft)), (oq fa cF 200 FA), (oc1 fe2 (rk f0) (wd f0) (tw f0) (pa f0) (pb f0) (.ref lo2) (.ref lk2) fm2), (oc4 lk2 (kd f0) (st f0) .null (gb f0) (it f0) we2)] ++ va_pl T_1 f) := hD
    refine lv_astore_n (lv' := [(3, .ref fe2), (0, .ref x), (1, .int (nI f0)), (2, .int 6)]) hx hb dX10_told_8 rfl hl (by decide) rfl (fun ls hl => ?_)
    refine lv_aload_n hx hb dX10_told_9 rfl (lv_at hl 0 rfl) ?_
    refine lv_ifnonnull (tgt := 15) hx hb dX10_told_10 (by decide) ?_
    refine lv_iload_n hx hb dX10_told_15 rfl (lv_at hl 3 rfl) ?_
    refine lv_tableIn (tgt := 132) (off := 116) hx hb dX10_told_16 (by decide) (by decide) (by decide) (by decide) ?_
    refine lv_aload_n hx hb dX10_told_132 rfl (lv_at hl 0 rfl) ?_
    refine va_get (D := (dC, dI)) (ci := 1) (v := .ref lk2) (C := RX2) (T := TX2) (N := 8) hx hb hts inX2 hown hK hP 3 rfl rfl 6 (by decide) (hts _ mw_433) (fun _ h9 => h9) rfl dX10_told_133 ?_
    refine va_get (D := (dC, dI)) (ci := 4) (v := .null) (C := RX5) (T := TX5) (N := 6) hx hb hts inX5 hown hK hP 4 rfl rfl 2 (by decide) (hts _ mw_391) (fun _ h9 => h9) rfl dX10_told_136 ?_
    refine lv_ifnonnullN hx hb dX10_told_139 ?_
    refine lv_iconst (v := 1) hx hb dX10_told_142 (by decide) ?_
    refine lv_goto (tgt := 147) hx hb dX10_told_143 (by decide) ?_
    have hP := pl_back (cs := [(oc1 fe2 (rk f0) (wd f0) (tw f0) (pa f0) (pb f0) (.ref lo2) (.ref lk2) fm2), (oc4 lk2 (kd f0) (st f0) .null (gb f0) (it f0) we2)]) (L := L) (f := f) (X := [(oc8 x (.ref sh) (.ref lw) (.ref ro) (.ref bq) (.ref bp) (.ref dq) (.ref dp) (.ref lv) (.ref sl) ds sd ul su), (oc7 sh (.ref fa) (nI ft)), (oq fa cF 200 FA)]) (by rw [hT_1]; exact (show va_P (dC, dI) classes (([(oc8 x (.ref sh) (.ref lw) (.ref ro) (.ref bq) (.ref bp) (.ref dq) (.ref dp) (.ref lv) (.ref sl) ds sd ul su), (oc7 sh (.ref fa) (nI ft)), (oq fa cF 200 FA)] ++ [(oc1 fe2 (rk f0) (wd f0) (tw f0) (pa f0) (pb f0) (.ref lo2) (.ref lk2) fm2), (oc4 lk2 (kd f0) (st f0) .null (gb f0) (it f0) we2)]) ++ va_pl T_1 f) H from hP)) hc9_1
    have hD : va_D A ([(oc8 x (.ref sh) (.ref lw) (.ref ro) (.ref bq) (.ref bp) (.ref dq) (.ref dp) (.ref lv) (.ref sl) ds sd ul su), (oc7 sh (.ref fa) (nI ft)), (oq fa cF 200 FA)] ++ va_pl L f) := vaD_ae hD0_1 rfl
    have hP9 := hP.part (cx := [(oc8 x (.ref sh) (.ref lw) (.ref ro) (.ref bq) (.ref bp) (.ref dq) (.ref dp) (.ref lv) (.ref sl) ds sd ul su), (oc7 sh (.ref fa) (nI ft)), (oq fa cF 200 FA)]) [0, 1, 2] rfl
    have hD9 := hD.part (cx := [(oc8 x (.ref sh) (.ref lw) (.ref ro) (.ref bq) (.ref bp) (.ref dq) (.ref dp) (.ref lv) (.ref sl) ds sd ul su), (oc7 sh (.ref fa) (nI ft)), (oq fa cF 200 FA)]) [0, 1, 2] (by decide) rfl
    rw [hQ9]
    exact W.iret (v := 1) hx hb hr (fun t ht hW => ⟨⟨congrArg (fun z => Outcome.returned (some (Value.int z))) (show (1 : Int32) = pI (¬ (tn f0).toInt = 0) from (zp_t (by omega)).symm), by rw [ht]; exact hP9, hD9⟩, hS.F ht⟩) hS.2.2 dX10_told_147
  · skip
    have hcap2 := hrr2.1
    have hcap3 := hrr2.2.1
    have hc9_1 : inPl L f [(oc1 fe2 (rk f0) (wd f0) (tw f0) (pa f0) (pb f0) (.ref lo2) (.ref lk2) fm2), (oc4 lk2 (kd f0) (st f0) (.ref r2) (gb f0) (it f0) we2), (oc6 r2 (.ref rx2) (.ref ry2) (nI (nN (mn f0))) rg2), (oa rx2 cI cap2 U2), (oa ry2 cI cap2 V2)] := ⟨hfe2, hlk2, hr2, hrx2, hry2, trivial⟩
    have hD0_1 := hD
    obtain ⟨hP, hD⟩ := pl_out hP hD [(oc1 fe2 (rk f0) (wd f0) (tw f0) (pa f0) (pb f0) (.ref lo2) (.ref lk2) fm2), (oc4 lk2 (kd f0) (st f0) (.ref r2) (gb f0) (it f0) we2), (oc6 r2 (.ref rx2) (.ref ry2) (nI (nN (mn f0))) rg2), (oa rx2 cI cap2 U2), (oa ry2 cI cap2 V2)] hc9_1 (pwR hfe2.2 hlk2.2 hr2.2 hrx2.2 hry2.2 hne2)
    generalize hT_1 : outPl L [(oc1 fe2 (rk f0) (wd f0) (tw f0) (pa f0) (pb f0) (.ref lo2) (.ref lk2) fm2), (oc4 lk2 (kd f0) (st f0) (.ref r2) (gb f0) (it f0) we2), (oc6 r2 (.ref rx2) (.ref ry2) (nI (nN (mn f0))) rg2), (oa rx2 cI cap2 U2), (oa ry2 cI cap2 V2)] = T_1 at hP hD
    have hP : va_P (dC, dI) classes ([(oc8 x (.ref sh) (.ref lw) (.ref ro) (.ref bq) (.ref bp) (.ref dq) (.ref dp) (.ref lv) (.ref sl) ds sd ul su), (oc7 sh (.ref fa) (nI ft)), (oq fa cF 200 FA), (oc1 fe2 (rk f0) (wd f0) (tw f0) (pa f0) (pb f0) (.ref lo2) (.ref lk2) fm2), (oc4 lk2 (kd f0) (st f0) (.ref r2) (gb f0) (it f0) we2), (oc6 r2 (.ref rx2) (.ref ry2) (nI (nN (mn f0))) rg2), (oa rx2 cI cap2 U2), (oa ry2 cI cap2 V2)] ++ va_pl T_1 f) s.heap := hP
    have hD : va_D A ([(oc8 x (.ref sh) (.ref lw) (.ref ro) (.ref bq) (.ref bp) (.ref dq) (.ref dp) (.ref lv) (.ref sl) ds sd ul su), (oc7 sh (.ref fa) (nI ft)), (oq fa cF 200 FA), (oc1 fe2 (rk f0) (wd f0) (tw f0) (pa f0) (pb f0) (.ref lo2) (.ref lk2) fm2), (oc4 lk2 (kd f0) (st f0) (.ref r2) (gb f0) (it f0) we2), (oc6 r2 (.ref rx2) (.ref ry2) (nI (nN (mn f0))) rg2), (oa rx2 cI cap2 U2), (oa ry2 cI cap2 V2)] ++ va_pl T_1 f) := hD
    refine lv_aload_n hx hb dX10_told_0 rfl (lv_at hl 0 rfl) ?_
    refine va_get (D := (dC, dI)) (ci := 8) (v := .ref sh) (C := RX10) (T := TX10) (N := 13) hx hb hts inX10 hown hK hP 0 rfl rfl 0 (by decide) (hts _ mw_309) (fun _ h9 => h9) rfl dX10_told_1 ?_
    refine lv_iload_n hx hb dX10_told_4 rfl (lv_at hl 1 rfl) ?_
    have hPc := hP.sub (ws' := [(oc7 sh (.ref fa) (nI ft)), (oq fa cF 200 FA)]) [1, 2] rfl
    have hDc := hD.sub (ws' := [(oc7 sh (.ref fa) (nI ft)), (oq fa cF 200 FA)]) [1, 2] (by decide) rfl
    have hFc := va_free (wc := [(oc7 sh (.ref fa) (nI ft)), (oq fa cF 200 FA)]) hD hS hA [1, 2] rfl
    refine zcall (st1 := [.ref fe2]) (va_runV (As := [.int (nI f0)]) (rest := []) ⟨hx, hb, hml, hown, hts⟩ (k_Sheet_find l dC dI cI cZ cF s.heap.size sh fa ft FA f0 fe2 (by omega) (by omega) (hFA2)) (cwV 1 hts (zz_gV mw_498 mw_499 mw_500 mw_100 mc_yX8_find) rfl rfl rfl (by decide +kernel) ⟨Nat.le_of_ble_eq_true rfl, Nat.le_of_ble_eq_true rfl⟩) (zPV2 (q0 := 0) (ci := 7) hPc hDc hK hXN rfl rfl) rfl rfl hl.1 rfl (lv_room (Nat.le_of_ble_eq_true rfl)) dX10_told_5 ⟨Nat.le_of_ble_eq_true rfl, Nat.le_of_ble_eq_true rfl⟩) hS hFc hFc rfl (fun t H1 locs ht hB hk1 hS => ?_)
    obtain ⟨hP1, hD1⟩ := hB
    rw [ht] at hP1
    obtain ⟨hP, hD⟩ := va_joinQ (wr := [(oc8 x (.ref sh) (.ref lw) (.ref ro) (.ref bq) (.ref bp) (.ref dq) (.ref dp) (.ref lv) (.ref sl) ds sd ul su), (oc1 fe2 (rk f0) (wd f0) (tw f0) (pa f0) (pb f0) (.ref lo2) (.ref lk2) fm2), (oc4 lk2 (kd f0) (st f0) (.ref r2) (gb f0) (it f0) we2), (oc6 r2 (.ref rx2) (.ref ry2) (nI (nN (mn f0))) rg2), (oa rx2 cI cap2 U2), (oa ry2 cI cap2 V2)]) (w1 := [(oc7 sh (.ref fa) (nI ft)), (oq fa cF 200 FA)]) hP hD [1, 2] [0, 3, 4, 5, 6, 7] rfl rfl (by decide) (by decide) hk1 hFc hP1 hD1
    clear hk1 hPc hDc hFc hP1 hD1 ht
    generalize H1 = H at hP hS ⊢
    have hP := hP.part (cx := [(oc8 x (.ref sh) (.ref lw) (.ref ro) (.ref bq) (.ref bp) (.ref dq) (.ref dp) (.ref lv) (.ref sl) ds sd ul su), (oc7 sh (.ref fa) (nI ft)), (oq fa cF 200 FA), (oc1 fe2 (rk f0) (wd f0) (tw f0) (pa f0) (pb f0) (.ref lo2) (.ref lk2) fm2), (oc4 lk2 (kd f0) (st f0) (.ref r2) (gb f0) (it f0) we2), (oc6 r2 (.ref rx2) (.ref ry2) (nI (nN (mn f0))) rg2), (oa rx2 cI cap2 U2), (oa ry2 cI cap2 V2)]) [0, 6, 7, 1, 2, 3, 4, 5] rfl
    have hD := hD.part (cx := [(oc8 x (.ref sh) (.ref lw) (.ref ro) (.ref bq) (.ref bp) (.ref dq) (.ref dp) (.ref lv) (.ref sl) ds sd ul su), (oc7 sh (.ref fa) (nI ft)), (oq fa cF 200 FA), (oc1 fe2 (rk f0) (wd f0) (tw f0) (pa f0) (pb f0) (.ref lo2) (.ref lk2) fm2), (oc4 lk2 (kd f0) (st f0) (.ref r2) (gb f0) (it f0) we2), (oc6 r2 (.ref rx2) (.ref ry2) (nI (nN (mn f0))) rg2), (oa rx2 cI cap2 U2), (oa ry2 cI cap2 V2)]) [0, 6, 7, 1, 2, 3, 4, 5] (by decide) rfl
    have hP : va_P (dC, dI) classes ([(oc8 x (.ref sh) (.ref lw) (.ref ro) (.ref bq) (.ref bp) (.ref dq) (.ref dp) (.ref lv) (.ref sl) ds sd ul su), (oc7 sh (.ref fa) (nI ft)), (oq fa cF 200 FA), (oc1 fe2 (rk f0) (wd f0) (tw f0) (pa f0) (pb f0) (.ref lo2) (.ref lk2) fm2), (oc4 lk2 (kd f0) (st f0) (.ref r2) (gb f0) (it f0) we2), (oc6 r2 (.ref rx2) (.ref ry2) (nI (nN (mn f0))) rg2), (oa rx2 cI cap2 U2), (oa ry2 cI cap2 V2)] ++ va_pl T_1 f) H := hP
    have hD : va_D A ([(oc8 x (.ref sh) (.ref lw) (.ref ro) (.ref bq) (.ref bp) (.ref dq) (.ref dp) (.ref lv) (.ref sl) ds sd ul su), (oc7 sh (.ref fa) (nI ft)), (oq fa cF 200 FA), (oc1 fe2 (rk f0) (wd f0) (tw f0) (pa f0) (pb f0) (.ref lo2) (.ref lk2) fm2), (oc4 lk2 (kd f0) (st f0) (.ref r2) (gb f0) (it f0) we2), (oc6 r2 (.ref rx2) (.ref ry2) (nI (nN (mn f0))) rg2), (oa rx2 cI cap2 U2), (oa ry2 cI cap2 V2)] ++ va_pl T_1 f) := hD
    refine lv_astore_n (lv' := [(3, .ref fe2), (0, .ref x), (1, .int (nI f0)), (2, .int 6)]) hx hb dX10_told_8 rfl hl (by decide) rfl (fun ls hl => ?_)
    refine lv_aload_n hx hb dX10_told_9 rfl (lv_at hl 0 rfl) ?_
    refine lv_ifnonnull (tgt := 15) hx hb dX10_told_10 (by decide) ?_
    refine lv_iload_n hx hb dX10_told_15 rfl (lv_at hl 3 rfl) ?_
    refine lv_tableIn (tgt := 132) (off := 116) hx hb dX10_told_16 (by decide) (by decide) (by decide) (by decide) ?_
    refine lv_aload_n hx hb dX10_told_132 rfl (lv_at hl 0 rfl) ?_
    refine va_get (D := (dC, dI)) (ci := 1) (v := .ref lk2) (C := RX2) (T := TX2) (N := 8) hx hb hts inX2 hown hK hP 3 rfl rfl 6 (by decide) (hts _ mw_433) (fun _ h9 => h9) rfl dX10_told_133 ?_
    refine va_get (D := (dC, dI)) (ci := 4) (v := .ref r2) (C := RX5) (T := TX5) (N := 6) hx hb hts inX5 hown hK hP 4 rfl rfl 2 (by decide) (hts _ mw_391) (fun _ h9 => h9) rfl dX10_told_136 ?_
    refine lv_ifnonnull (tgt := 146) hx hb dX10_told_139 (by decide) ?_
    refine lv_iconst (v := 0) hx hb dX10_told_146 (by decide) ?_
    have hP := pl_back (cs := [(oc1 fe2 (rk f0) (wd f0) (tw f0) (pa f0) (pb f0) (.ref lo2) (.ref lk2) fm2), (oc4 lk2 (kd f0) (st f0) (.ref r2) (gb f0) (it f0) we2), (oc6 r2 (.ref rx2) (.ref ry2) (nI (nN (mn f0))) rg2), (oa rx2 cI cap2 U2), (oa ry2 cI cap2 V2)]) (L := L) (f := f) (X := [(oc8 x (.ref sh) (.ref lw) (.ref ro) (.ref bq) (.ref bp) (.ref dq) (.ref dp) (.ref lv) (.ref sl) ds sd ul su), (oc7 sh (.ref fa) (nI ft)), (oq fa cF 200 FA)]) (by rw [hT_1]; exact (show va_P (dC, dI) classes (([(oc8 x (.ref sh) (.ref lw) (.ref ro) (.ref bq) (.ref bp) (.ref dq) (.ref dp) (.ref lv) (.ref sl) ds sd ul su), (oc7 sh (.ref fa) (nI ft)), (oq fa cF 200 FA)] ++ [(oc1 fe2 (rk f0) (wd f0) (tw f0) (pa f0) (pb f0) (.ref lo2) (.ref lk2) fm2), (oc4 lk2 (kd f0) (st f0) (.ref r2) (gb f0) (it f0) we2), (oc6 r2 (.ref rx2) (.ref ry2) (nI (nN (mn f0))) rg2), (oa rx2 cI cap2 U2), (oa ry2 cI cap2 V2)]) ++ va_pl T_1 f) H from hP)) hc9_1
    have hD : va_D A ([(oc8 x (.ref sh) (.ref lw) (.ref ro) (.ref bq) (.ref bp) (.ref dq) (.ref dp) (.ref lv) (.ref sl) ds sd ul su), (oc7 sh (.ref fa) (nI ft)), (oq fa cF 200 FA)] ++ va_pl L f) := vaD_ae hD0_1 rfl
    have hP9 := hP.part (cx := [(oc8 x (.ref sh) (.ref lw) (.ref ro) (.ref bq) (.ref bp) (.ref dq) (.ref dp) (.ref lv) (.ref sl) ds sd ul su), (oc7 sh (.ref fa) (nI ft)), (oq fa cF 200 FA)]) [0, 1, 2] rfl
    have hD9 := hD.part (cx := [(oc8 x (.ref sh) (.ref lw) (.ref ro) (.ref bq) (.ref bp) (.ref dq) (.ref dp) (.ref lv) (.ref sl) ds sd ul su), (oc7 sh (.ref fa) (nI ft)), (oq fa cF 200 FA)]) [0, 1, 2] (by decide) rfl
    rw [hQ9]
    exact W.iret (v := 0) hx hb hr (fun t ht hW => ⟨⟨congrArg (fun z => Outcome.returned (some (Value.int z))) (show (0 : Int32) = pI (¬ (tn f0).toInt = 0) from (zp_f (by omega)).symm), by rw [ht]; exact hP9, hD9⟩, hS.F ht⟩) hS.2.2 dX10_told_147
set_option maxHeartbeats 4000000 in
set_option maxRecDepth 100000 in
theorem k_told_7 (l : Launch) (dC : Nat → ClassId) (dI : Nat → Nat → Nat) (cI cZ cF : ClassId) (sz : Nat) (x : Nat) (sh : Nat) (lw : Nat) (ro : Nat) (bq : Nat) (bp : Nat) (dq : Nat) (dp : Nat) (lv : Nat) (sl : Nat) (sd : Int32) (ul : Int32) (su : Int32) (ds : Int32) (fa : Nat) (ft : Nat) (FA : Nat → Option Nat) (f0 : Nat) (L : List Nat) (f : Nat → va_E) (kd : Nat → Int32) (st : Nat → Int32) (tn : Nat → Int32) (mn : Nat → Int32) (cx : Nat → Int32) (cy : Nat → Int32) (rk : Nat → Int32) (wd : Nat → Int32) (tw : Nat → Int32) (pa : Nat → Int32) (pb : Nat → Int32) (gb : Nat → Int32) (it : Nat → Int32) (h200 : ft ≤ 200) (hf0 : f0 < ft) (hva : ∀ q, q < ft → vwA cI L f FA rk wd tw pa pb kd st gb it tn mn cx cy q) : Met l yX10_told (.code yX10_told cX10_told 4 (some .int) :: ws0) ({ frames := 1, cells := 0, slots := 0, locals := 21 } : Room) (va_Pc [.ref x, .int (nI f0), .int 7] (zPre (dC, dI) classes (zTy cI cZ cF) ([(oc8 x (.ref sh) (.ref lw) (.ref ro) (.ref bq) (.ref bp) (.ref dq) (.ref dp) (.ref lv) (.ref sl) ds sd ul su), (oc7 sh (.ref fa) (nI ft)), (oq fa cF 200 FA)] ++ va_pl L f) sz zXN)) (zQ (some (.int (gb f0))) (fun t => va_P (dC, dI) classes ([(oc8 x (.ref sh) (.ref lw) (.ref ro) (.ref bq) (.ref bp) (.ref dq) (.ref dp) (.ref lv) (.ref sl) ds sd ul su), (oc7 sh (.ref fa) (nI ft)), (oq fa cF 200 FA)] ++ va_pl L f) t.heap ∧ va_D (va_A ([(oc8 x (.ref sh) (.ref lw) (.ref ro) (.ref bq) (.ref bp) (.ref dq) (.ref dp) (.ref lv) (.ref sl) ds sd ul su), (oc7 sh (.ref fa) (nI ft)), (oq fa cF 200 FA)] ++ va_pl L f) sz) ([(oc8 x (.ref sh) (.ref lw) (.ref ro) (.ref bq) (.ref bp) (.ref dq) (.ref dp) (.ref lv) (.ref sl) ds sd ul su), (oc7 sh (.ref fa) (nI ft)), (oq fa cF 200 FA)] ++ va_pl L f)) (va_A ([(oc8 x (.ref sh) (.ref lw) (.ref ro) (.ref bq) (.ref bp) (.ref dq) (.ref dp) (.ref lv) (.ref sl) ds sd ul su), (oc7 sh (.ref fa) (nI ft)), (oq fa cF 200 FA)] ++ va_pl L f) sz)) 0 0 (va_A ([(oc8 x (.ref sh) (.ref lw) (.ref ro) (.ref bq) (.ref bp) (.ref dq) (.ref dp) (.ref lv) (.ref sl) ds sd ul su), (oc7 sh (.ref fa) (nI ft)), (oq fa cF 200 FA)] ++ va_pl L f) sz) := by
  refine Met.ofW (cc := cX10_told) (maxL := 4) (ret := (some .int)) (by decide) rfl ?_
  intro p e s m args below meth c s₁ B hml hv
  obtain ⟨rfl, hsz, hP, hK, hD0, hXN⟩ := hv
  have hx := B.exec
  have hb := B.bytes
  have hr := B.returns
  have hts0 := atoms_spec (ws := .code yX10_told cX10_told 4 (some .int) :: ws0) B.pre
  have hts : ∀ w9 ∈ ws0, w9.before ([.ref x, .int (nI f0), .int 7] : List Value).toArray s = true := fun w9 h => hts0 w9 (List.mem_cons_of_mem _ h)
  have hown : s.vm.findClass "ScaleShop" = some m.cls := findClass_of_methodNamed B.named
  have hlocks := B.notSynchronized
  subst hsz
  have hD := hD0.self (sz := s.heap.size)
  clear hD0
  generalize hAe : va_A ([(oc8 x (.ref sh) (.ref lw) (.ref ro) (.ref bq) (.ref bp) (.ref dq) (.ref dp) (.ref lv) (.ref sl) ds sd ul su), (oc7 sh (.ref fa) (nI ft)), (oq fa cF 200 FA)] ++ va_pl L f) s.heap.size = A at hD ⊢
  have hA : ∀ q : Nat, s.heap.size ≤ q → A q := fun q h => by rw [← hAe]; exact Or.inr h
  clear hAe
  have hS : va_S A s.heap s.heap [] := va_S.rf
  have hP : va_P (dC, dI) classes ([(oc8 x (.ref sh) (.ref lw) (.ref ro) (.ref bq) (.ref bp) (.ref dq) (.ref dp) (.ref lv) (.ref sl) ds sd ul su), (oc7 sh (.ref fa) (nI ft)), (oq fa cF 200 FA)] ++ va_pl L f) s.heap := hP
  obtain ⟨Q9, hQ9⟩ : ∃ Q9 : State → Prop, Q9 = MQ below (zQ (some (.int (gb f0))) (fun t => va_P (dC, dI) classes ([(oc8 x (.ref sh) (.ref lw) (.ref ro) (.ref bq) (.ref bp) (.ref dq) (.ref dp) (.ref lv) (.ref sl) ds sd ul su), (oc7 sh (.ref fa) (nI ft)), (oq fa cF 200 FA)] ++ va_pl L f) t.heap ∧ va_D A ([(oc8 x (.ref sh) (.ref lw) (.ref ro) (.ref bq) (.ref bp) (.ref dq) (.ref dp) (.ref lv) (.ref sl) ds sd ul su), (oc7 sh (.ref fa) (nI ft)), (oq fa cF 200 FA)] ++ va_pl L f)) A) ([.ref x, .int (nI f0), .int 7] : List Value).toArray s 0 0 A := ⟨_, rfl⟩
  rw [← hQ9]
  have hl := lv_entry ([.ref x, .int (nI f0), .int 7]) (n := 4) (Nat.le_of_ble_eq_true rfl)
  rw [lg_entry_eq]
  generalize (lg_sl ([.ref x, .int (nI f0), .int 7]) ++ List.replicate (4 - (lg_sl ([.ref x, .int (nI f0), .int 7])).length) Slot.unset).toArray = ls at hl ⊢
  have hl : lv_has ls 4 [(0, .ref x), (1, .int (nI f0)), (2, .int 7)] := hl
  rcases vwA_2 (hva f0 (by omega)) with ⟨ht2, fe2, lk2, lo2, we2, fm2, hFA2, hfe2, hlk2⟩ | ⟨ht2, fe2, lk2, lo2, we2, fm2, r2, rx2, ry2, cap2, U2, V2, rg2, hFA2, hfe2, hlk2, ⟨hr2, hrx2, hry2, hne2⟩, hrr2⟩
  · skip
    have hc9_1 : inPl L f [(oc1 fe2 (rk f0) (wd f0) (tw f0) (pa f0) (pb f0) (.ref lo2) (.ref lk2) fm2), (oc4 lk2 (kd f0) (st f0) .null (gb f0) (it f0) we2)] := ⟨hfe2, hlk2, trivial⟩
    have hD0_1 := hD
    obtain ⟨hP, hD⟩ := pl_out hP hD [(oc1 fe2 (rk f0) (wd f0) (tw f0) (pa f0) (pb f0) (.ref lo2) (.ref lk2) fm2), (oc4 lk2 (kd f0) (st f0) .null (gb f0) (it f0) we2)] hc9_1 (pwF hfe2.2 hlk2.2)
    generalize hT_1 : outPl L [(oc1 fe2 (rk f0) (wd f0) (tw f0) (pa f0) (pb f0) (.ref lo2) (.ref lk2) fm2), (oc4 lk2 (kd f0) (st f0) .null (gb f0) (it f0) we2)] = T_1 at hP hD
    have hP : va_P (dC, dI) classes ([(oc8 x (.ref sh) (.ref lw) (.ref ro) (.ref bq) (.ref bp) (.ref dq) (.ref dp) (.ref lv) (.ref sl) ds sd ul su), (oc7 sh (.ref fa) (nI ft)), (oq fa cF 200 FA), (oc1 fe2 (rk f0) (wd f0) (tw f0) (pa f0) (pb f0) (.ref lo2) (.ref lk2) fm2), (oc4 lk2 (kd f0) (st f0) .null (gb f0) (it f0) we2)] ++ va_pl T_1 f) s.heap := hP
    have hD : va_D A ([(oc8 x (.ref sh) (.ref lw) (.ref ro) (.ref bq) (.ref bp) (.ref dq) (.ref dp) (.ref lv) (.ref sl) ds sd ul su), (oc7 sh (.ref fa) (nI ft)), (oq fa cF 200 FA), (oc1 fe2 (rk f0) (wd f0) (tw f0) (pa f0) (pb f0) (.ref lo2) (.ref lk2) fm2), (oc4 lk2 (kd f0) (st f0) .null (gb f0) (it f0) we2)] ++ va_pl T_1 f) := hD
    refine lv_aload_n hx hb dX10_told_0 rfl (lv_at hl 0 rfl) ?_
    refine va_get (D := (dC, dI)) (ci := 8) (v := .ref sh) (C := RX10) (T := TX10) (N := 13) hx hb hts inX10 hown hK hP 0 rfl rfl 0 (by decide) (hts _ mw_309) (fun _ h9 => h9) rfl dX10_told_1 ?_
    refine lv_iload_n hx hb dX10_told_4 rfl (lv_at hl 1 rfl) ?_
    have hPc := hP.sub (ws' := [(oc7 sh (.ref fa) (nI ft)), (oq fa cF 200 FA)]) [1, 2] rfl
    have hDc := hD.sub (ws' := [(oc7 sh (.ref fa) (nI ft)), (oq fa cF 200 FA)]) [1, 2] (by decide) rfl
    have hFc := va_free (wc := [(oc7 sh (.ref fa) (nI ft)), (oq fa cF 200 FA)]) hD hS hA [1, 2] rfl
    refine zcall (st1 := [.ref fe2]) (va_runV (As := [.int (nI f0)]) (rest := []) ⟨hx, hb, hml, hown, hts⟩ (k_Sheet_find l dC dI cI cZ cF s.heap.size sh fa ft FA f0 fe2 (by omega) (by omega) (hFA2)) (cwV 1 hts (zz_gV mw_498 mw_499 mw_500 mw_100 mc_yX8_find) rfl rfl rfl (by decide +kernel) ⟨Nat.le_of_ble_eq_true rfl, Nat.le_of_ble_eq_true rfl⟩) (zPV2 (q0 := 0) (ci := 7) hPc hDc hK hXN rfl rfl) rfl rfl hl.1 rfl (lv_room (Nat.le_of_ble_eq_true rfl)) dX10_told_5 ⟨Nat.le_of_ble_eq_true rfl, Nat.le_of_ble_eq_true rfl⟩) hS hFc hFc rfl (fun t H1 locs ht hB hk1 hS => ?_)
    obtain ⟨hP1, hD1⟩ := hB
    rw [ht] at hP1
    obtain ⟨hP, hD⟩ := va_joinQ (wr := [(oc8 x (.ref sh) (.ref lw) (.ref ro) (.ref bq) (.ref bp) (.ref dq) (.ref dp) (.ref lv) (.ref sl) ds sd ul su), (oc1 fe2 (rk f0) (wd f0) (tw f0) (pa f0) (pb f0) (.ref lo2) (.ref lk2) fm2), (oc4 lk2 (kd f0) (st f0) .null (gb f0) (it f0) we2)]) (w1 := [(oc7 sh (.ref fa) (nI ft)), (oq fa cF 200 FA)]) hP hD [1, 2] [0, 3, 4] rfl rfl (by decide) (by decide) hk1 hFc hP1 hD1
    clear hk1 hPc hDc hFc hP1 hD1 ht
    generalize H1 = H at hP hS ⊢
    have hP := hP.part (cx := [(oc8 x (.ref sh) (.ref lw) (.ref ro) (.ref bq) (.ref bp) (.ref dq) (.ref dp) (.ref lv) (.ref sl) ds sd ul su), (oc7 sh (.ref fa) (nI ft)), (oq fa cF 200 FA), (oc1 fe2 (rk f0) (wd f0) (tw f0) (pa f0) (pb f0) (.ref lo2) (.ref lk2) fm2), (oc4 lk2 (kd f0) (st f0) .null (gb f0) (it f0) we2)]) [0, 3, 4, 1, 2] rfl
    have hD := hD.part (cx := [(oc8 x (.ref sh) (.ref lw) (.ref ro) (.ref bq) (.ref bp) (.ref dq) (.ref dp) (.ref lv) (.ref sl) ds sd ul su), (oc7 sh (.ref fa) (nI ft)), (oq fa cF 200 FA), (oc1 fe2 (rk f0) (wd f0) (tw f0) (pa f0) (pb f0) (.ref lo2) (.ref lk2) fm2), (oc4 lk2 (kd f0) (st f0) .null (gb f0) (it f0) we2)]) [0, 3, 4, 1, 2] (by decide) rfl
    have hP : va_P (dC, dI) classes ([(oc8 x (.ref sh) (.ref lw) (.ref ro) (.ref bq) (.ref bp) (.ref dq) (.ref dp) (.ref lv) (.ref sl) ds sd ul su), (oc7 sh (.ref fa) (nI ft)), (oq fa cF 200 FA), (oc1 fe2 (rk f0) (wd f0) (tw f0) (pa f0) (pb f0) (.ref lo2) (.ref lk2) fm2), (oc4 lk2 (kd f0) (st f0) .null (gb f0) (it f0) we2)] ++ va_pl T_1 f) H := hP
    have hD : va_D A ([(oc8 x (.ref sh) (.ref lw) (.ref ro) (.ref bq) (.ref bp) (.ref dq) (.ref dp) (.ref lv) (.ref sl) ds sd ul su), (oc7 sh (.ref fa) (nI ft)), (oq fa cF 200 FA), (oc1 fe2 (rk f0) (wd f0) (tw f0) (pa f0) (pb f0) (.ref lo2) (.ref lk2) fm2), (oc4 lk2 (kd f0) (st f0) .null (gb f0) (it f0) we2)] ++ va_pl T_1 f) := hD
    refine lv_astore_n (lv' := [(3, .ref fe2), (0, .ref x), (1, .int (nI f0)), (2, .int 7)]) hx hb dX10_told_8 rfl hl (by decide) rfl (fun ls hl => ?_)
    refine lv_aload_n hx hb dX10_told_9 rfl (lv_at hl 0 rfl) ?_
    refine lv_ifnonnull (tgt := 15) hx hb dX10_told_10 (by decide) ?_
    refine lv_iload_n hx hb dX10_told_15 rfl (lv_at hl 3 rfl) ?_
    refine lv_tableIn (tgt := 148) (off := 132) hx hb dX10_told_16 (by decide) (by decide) (by decide) (by decide) ?_
    refine lv_aload_n hx hb dX10_told_148 rfl (lv_at hl 0 rfl) ?_
    refine va_get (D := (dC, dI)) (ci := 1) (v := .ref lk2) (C := RX2) (T := TX2) (N := 8) hx hb hts inX2 hown hK hP 3 rfl rfl 6 (by decide) (hts _ mw_433) (fun _ h9 => h9) rfl dX10_told_149 ?_
    refine va_get (D := (dC, dI)) (ci := 4) (v := .int (gb f0)) (C := RX5) (T := TX5) (N := 6) hx hb hts inX5 hown hK hP 4 rfl rfl 3 (by decide) (hts _ mw_396) (fun _ h9 => h9) rfl dX10_told_152 ?_
    have hP := pl_back (cs := [(oc1 fe2 (rk f0) (wd f0) (tw f0) (pa f0) (pb f0) (.ref lo2) (.ref lk2) fm2), (oc4 lk2 (kd f0) (st f0) .null (gb f0) (it f0) we2)]) (L := L) (f := f) (X := [(oc8 x (.ref sh) (.ref lw) (.ref ro) (.ref bq) (.ref bp) (.ref dq) (.ref dp) (.ref lv) (.ref sl) ds sd ul su), (oc7 sh (.ref fa) (nI ft)), (oq fa cF 200 FA)]) (by rw [hT_1]; exact (show va_P (dC, dI) classes (([(oc8 x (.ref sh) (.ref lw) (.ref ro) (.ref bq) (.ref bp) (.ref dq) (.ref dp) (.ref lv) (.ref sl) ds sd ul su), (oc7 sh (.ref fa) (nI ft)), (oq fa cF 200 FA)] ++ [(oc1 fe2 (rk f0) (wd f0) (tw f0) (pa f0) (pb f0) (.ref lo2) (.ref lk2) fm2), (oc4 lk2 (kd f0) (st f0) .null (gb f0) (it f0) we2)]) ++ va_pl T_1 f) H from hP)) hc9_1
    have hD : va_D A ([(oc8 x (.ref sh) (.ref lw) (.ref ro) (.ref bq) (.ref bp) (.ref dq) (.ref dp) (.ref lv) (.ref sl) ds sd ul su), (oc7 sh (.ref fa) (nI ft)), (oq fa cF 200 FA)] ++ va_pl L f) := vaD_ae hD0_1 rfl
    have hP9 := hP.part (cx := [(oc8 x (.ref sh) (.ref lw) (.ref ro) (.ref bq) (.ref bp) (.ref dq) (.ref dp) (.ref lv) (.ref sl) ds sd ul su), (oc7 sh (.ref fa) (nI ft)), (oq fa cF 200 FA)]) [0, 1, 2] rfl
    have hD9 := hD.part (cx := [(oc8 x (.ref sh) (.ref lw) (.ref ro) (.ref bq) (.ref bp) (.ref dq) (.ref dp) (.ref lv) (.ref sl) ds sd ul su), (oc7 sh (.ref fa) (nI ft)), (oq fa cF 200 FA)]) [0, 1, 2] (by decide) rfl
    rw [hQ9]
    exact W.iret (v := gb f0) hx hb hr (fun t ht hW => ⟨⟨rfl, by rw [ht]; exact hP9, hD9⟩, hS.F ht⟩) hS.2.2 dX10_told_155
  · skip
    have hcap2 := hrr2.1
    have hcap3 := hrr2.2.1
    have hc9_1 : inPl L f [(oc1 fe2 (rk f0) (wd f0) (tw f0) (pa f0) (pb f0) (.ref lo2) (.ref lk2) fm2), (oc4 lk2 (kd f0) (st f0) (.ref r2) (gb f0) (it f0) we2), (oc6 r2 (.ref rx2) (.ref ry2) (nI (nN (mn f0))) rg2), (oa rx2 cI cap2 U2), (oa ry2 cI cap2 V2)] := ⟨hfe2, hlk2, hr2, hrx2, hry2, trivial⟩
    have hD0_1 := hD
    obtain ⟨hP, hD⟩ := pl_out hP hD [(oc1 fe2 (rk f0) (wd f0) (tw f0) (pa f0) (pb f0) (.ref lo2) (.ref lk2) fm2), (oc4 lk2 (kd f0) (st f0) (.ref r2) (gb f0) (it f0) we2), (oc6 r2 (.ref rx2) (.ref ry2) (nI (nN (mn f0))) rg2), (oa rx2 cI cap2 U2), (oa ry2 cI cap2 V2)] hc9_1 (pwR hfe2.2 hlk2.2 hr2.2 hrx2.2 hry2.2 hne2)
    generalize hT_1 : outPl L [(oc1 fe2 (rk f0) (wd f0) (tw f0) (pa f0) (pb f0) (.ref lo2) (.ref lk2) fm2), (oc4 lk2 (kd f0) (st f0) (.ref r2) (gb f0) (it f0) we2), (oc6 r2 (.ref rx2) (.ref ry2) (nI (nN (mn f0))) rg2), (oa rx2 cI cap2 U2), (oa ry2 cI cap2 V2)] = T_1 at hP hD
    have hP : va_P (dC, dI) classes ([(oc8 x (.ref sh) (.ref lw) (.ref ro) (.ref bq) (.ref bp) (.ref dq) (.ref dp) (.ref lv) (.ref sl) ds sd ul su), (oc7 sh (.ref fa) (nI ft)), (oq fa cF 200 FA), (oc1 fe2 (rk f0) (wd f0) (tw f0) (pa f0) (pb f0) (.ref lo2) (.ref lk2) fm2), (oc4 lk2 (kd f0) (st f0) (.ref r2) (gb f0) (it f0) we2), (oc6 r2 (.ref rx2) (.ref ry2) (nI (nN (mn f0))) rg2), (oa rx2 cI cap2 U2), (oa ry2 cI cap2 V2)] ++ va_pl T_1 f) s.heap := hP
    have hD : va_D A ([(oc8 x (.ref sh) (.ref lw) (.ref ro) (.ref bq) (.ref bp) (.ref dq) (.ref dp) (.ref lv) (.ref sl) ds sd ul su), (oc7 sh (.ref fa) (nI ft)), (oq fa cF 200 FA), (oc1 fe2 (rk f0) (wd f0) (tw f0) (pa f0) (pb f0) (.ref lo2) (.ref lk2) fm2), (oc4 lk2 (kd f0) (st f0) (.ref r2) (gb f0) (it f0) we2), (oc6 r2 (.ref rx2) (.ref ry2) (nI (nN (mn f0))) rg2), (oa rx2 cI cap2 U2), (oa ry2 cI cap2 V2)] ++ va_pl T_1 f) := hD
    refine lv_aload_n hx hb dX10_told_0 rfl (lv_at hl 0 rfl) ?_
    refine va_get (D := (dC, dI)) (ci := 8) (v := .ref sh) (C := RX10) (T := TX10) (N := 13) hx hb hts inX10 hown hK hP 0 rfl rfl 0 (by decide) (hts _ mw_309) (fun _ h9 => h9) rfl dX10_told_1 ?_
    refine lv_iload_n hx hb dX10_told_4 rfl (lv_at hl 1 rfl) ?_
    have hPc := hP.sub (ws' := [(oc7 sh (.ref fa) (nI ft)), (oq fa cF 200 FA)]) [1, 2] rfl
    have hDc := hD.sub (ws' := [(oc7 sh (.ref fa) (nI ft)), (oq fa cF 200 FA)]) [1, 2] (by decide) rfl
    have hFc := va_free (wc := [(oc7 sh (.ref fa) (nI ft)), (oq fa cF 200 FA)]) hD hS hA [1, 2] rfl
    refine zcall (st1 := [.ref fe2]) (va_runV (As := [.int (nI f0)]) (rest := []) ⟨hx, hb, hml, hown, hts⟩ (k_Sheet_find l dC dI cI cZ cF s.heap.size sh fa ft FA f0 fe2 (by omega) (by omega) (hFA2)) (cwV 1 hts (zz_gV mw_498 mw_499 mw_500 mw_100 mc_yX8_find) rfl rfl rfl (by decide +kernel) ⟨Nat.le_of_ble_eq_true rfl, Nat.le_of_ble_eq_true rfl⟩) (zPV2 (q0 := 0) (ci := 7) hPc hDc hK hXN rfl rfl) rfl rfl hl.1 rfl (lv_room (Nat.le_of_ble_eq_true rfl)) dX10_told_5 ⟨Nat.le_of_ble_eq_true rfl, Nat.le_of_ble_eq_true rfl⟩) hS hFc hFc rfl (fun t H1 locs ht hB hk1 hS => ?_)
    obtain ⟨hP1, hD1⟩ := hB
    rw [ht] at hP1
    obtain ⟨hP, hD⟩ := va_joinQ (wr := [(oc8 x (.ref sh) (.ref lw) (.ref ro) (.ref bq) (.ref bp) (.ref dq) (.ref dp) (.ref lv) (.ref sl) ds sd ul su), (oc1 fe2 (rk f0) (wd f0) (tw f0) (pa f0) (pb f0) (.ref lo2) (.ref lk2) fm2), (oc4 lk2 (kd f0) (st f0) (.ref r2) (gb f0) (it f0) we2), (oc6 r2 (.ref rx2) (.ref ry2) (nI (nN (mn f0))) rg2), (oa rx2 cI cap2 U2), (oa ry2 cI cap2 V2)]) (w1 := [(oc7 sh (.ref fa) (nI ft)), (oq fa cF 200 FA)]) hP hD [1, 2] [0, 3, 4, 5, 6, 7] rfl rfl (by decide) (by decide) hk1 hFc hP1 hD1
    clear hk1 hPc hDc hFc hP1 hD1 ht
    generalize H1 = H at hP hS ⊢
    have hP := hP.part (cx := [(oc8 x (.ref sh) (.ref lw) (.ref ro) (.ref bq) (.ref bp) (.ref dq) (.ref dp) (.ref lv) (.ref sl) ds sd ul su), (oc7 sh (.ref fa) (nI ft)), (oq fa cF 200 FA), (oc1 fe2 (rk f0) (wd f0) (tw f0) (pa f0) (pb f0) (.ref lo2) (.ref lk2) fm2), (oc4 lk2 (kd f0) (st f0) (.ref r2) (gb f0) (it f0) we2), (oc6 r2 (.ref rx2) (.ref ry2) (nI (nN (mn f0))) rg2), (oa rx2 cI cap2 U2), (oa ry2 cI cap2 V2)]) [0, 6, 7, 1, 2, 3, 4, 5] rfl
    have hD := hD.part (cx := [(oc8 x (.ref sh) (.ref lw) (.ref ro) (.ref bq) (.ref bp) (.ref dq) (.ref dp) (.ref lv) (.ref sl) ds sd ul su), (oc7 sh (.ref fa) (nI ft)), (oq fa cF 200 FA), (oc1 fe2 (rk f0) (wd f0) (tw f0) (pa f0) (pb f0) (.ref lo2) (.ref lk2) fm2), (oc4 lk2 (kd f0) (st f0) (.ref r2) (gb f0) (it f0) we2), (oc6 r2 (.ref rx2) (.ref ry2) (nI (nN (mn f0))) rg2), (oa rx2 cI cap2 U2), (oa ry2 cI cap2 V2)]) [0, 6, 7, 1, 2, 3, 4, 5] (by decide) rfl
    have hP : va_P (dC, dI) classes ([(oc8 x (.ref sh) (.ref lw) (.ref ro) (.ref bq) (.ref bp) (.ref dq) (.ref dp) (.ref lv) (.ref sl) ds sd ul su), (oc7 sh (.ref fa) (nI ft)), (oq fa cF 200 FA), (oc1 fe2 (rk f0) (wd f0) (tw f0) (pa f0) (pb f0) (.ref lo2) (.ref lk2) fm2), (oc4 lk2 (kd f0) (st f0) (.ref r2) (gb f0) (it f0) we2), (oc6 r2 (.ref rx2) (.ref ry2) (nI (nN (mn f0))) rg2), (oa rx2 cI cap2 U2), (oa ry2 cI cap2 V2)] ++ va_pl T_1 f) H := hP
    have hD : va_D A ([(oc8 x (.ref sh) (.ref lw) (.ref ro) (.ref bq) (.ref bp) (.ref dq) (.ref dp) (.ref lv) (.ref sl) ds sd ul su), (oc7 sh (.ref fa) (nI ft)), (oq fa cF 200 FA), (oc1 fe2 (rk f0) (wd f0) (tw f0) (pa f0) (pb f0) (.ref lo2) (.ref lk2) fm2), (oc4 lk2 (kd f0) (st f0) (.ref r2) (gb f0) (it f0) we2), (oc6 r2 (.ref rx2) (.ref ry2) (nI (nN (mn f0))) rg2), (oa rx2 cI cap2 U2), (oa ry2 cI cap2 V2)] ++ va_pl T_1 f) := hD
    refine lv_astore_n (lv' := [(3, .ref fe2), (0, .ref x), (1, .int (nI f0)), (2, .int 7)]) hx hb dX10_told_8 rfl hl (by decide) rfl (fun ls hl => ?_)
    refine lv_aload_n hx hb dX10_told_9 rfl (lv_at hl 0 rfl) ?_
    refine lv_ifnonnull (tgt := 15) hx hb dX10_told_10 (by decide) ?_
    refine lv_iload_n hx hb dX10_told_15 rfl (lv_at hl 3 rfl) ?_
    refine lv_tableIn (tgt := 148) (off := 132) hx hb dX10_told_16 (by decide) (by decide) (by decide) (by decide) ?_
    refine lv_aload_n hx hb dX10_told_148 rfl (lv_at hl 0 rfl) ?_
    refine va_get (D := (dC, dI)) (ci := 1) (v := .ref lk2) (C := RX2) (T := TX2) (N := 8) hx hb hts inX2 hown hK hP 3 rfl rfl 6 (by decide) (hts _ mw_433) (fun _ h9 => h9) rfl dX10_told_149 ?_
    refine va_get (D := (dC, dI)) (ci := 4) (v := .int (gb f0)) (C := RX5) (T := TX5) (N := 6) hx hb hts inX5 hown hK hP 4 rfl rfl 3 (by decide) (hts _ mw_396) (fun _ h9 => h9) rfl dX10_told_152 ?_
    have hP := pl_back (cs := [(oc1 fe2 (rk f0) (wd f0) (tw f0) (pa f0) (pb f0) (.ref lo2) (.ref lk2) fm2), (oc4 lk2 (kd f0) (st f0) (.ref r2) (gb f0) (it f0) we2), (oc6 r2 (.ref rx2) (.ref ry2) (nI (nN (mn f0))) rg2), (oa rx2 cI cap2 U2), (oa ry2 cI cap2 V2)]) (L := L) (f := f) (X := [(oc8 x (.ref sh) (.ref lw) (.ref ro) (.ref bq) (.ref bp) (.ref dq) (.ref dp) (.ref lv) (.ref sl) ds sd ul su), (oc7 sh (.ref fa) (nI ft)), (oq fa cF 200 FA)]) (by rw [hT_1]; exact (show va_P (dC, dI) classes (([(oc8 x (.ref sh) (.ref lw) (.ref ro) (.ref bq) (.ref bp) (.ref dq) (.ref dp) (.ref lv) (.ref sl) ds sd ul su), (oc7 sh (.ref fa) (nI ft)), (oq fa cF 200 FA)] ++ [(oc1 fe2 (rk f0) (wd f0) (tw f0) (pa f0) (pb f0) (.ref lo2) (.ref lk2) fm2), (oc4 lk2 (kd f0) (st f0) (.ref r2) (gb f0) (it f0) we2), (oc6 r2 (.ref rx2) (.ref ry2) (nI (nN (mn f0))) rg2), (oa rx2 cI cap2 U2), (oa ry2 cI cap2 V2)]) ++ va_pl T_1 f) H from hP)) hc9_1
    have hD : va_D A ([(oc8 x (.ref sh) (.ref lw) (.ref ro) (.ref bq) (.ref bp) (.ref dq) (.ref dp) (.ref lv) (.ref sl) ds sd ul su), (oc7 sh (.ref fa) (nI ft)), (oq fa cF 200 FA)] ++ va_pl L f) := vaD_ae hD0_1 rfl
    have hP9 := hP.part (cx := [(oc8 x (.ref sh) (.ref lw) (.ref ro) (.ref bq) (.ref bp) (.ref dq) (.ref dp) (.ref lv) (.ref sl) ds sd ul su), (oc7 sh (.ref fa) (nI ft)), (oq fa cF 200 FA)]) [0, 1, 2] rfl
    have hD9 := hD.part (cx := [(oc8 x (.ref sh) (.ref lw) (.ref ro) (.ref bq) (.ref bp) (.ref dq) (.ref dp) (.ref lv) (.ref sl) ds sd ul su), (oc7 sh (.ref fa) (nI ft)), (oq fa cF 200 FA)]) [0, 1, 2] (by decide) rfl
    rw [hQ9]
    exact W.iret (v := gb f0) hx hb hr (fun t ht hW => ⟨⟨rfl, by rw [ht]; exact hP9, hD9⟩, hS.F ht⟩) hS.2.2 dX10_told_155
set_option maxHeartbeats 4000000 in
set_option maxRecDepth 100000 in
theorem k_told_8 (l : Launch) (dC : Nat → ClassId) (dI : Nat → Nat → Nat) (cI cZ cF : ClassId) (sz : Nat) (x : Nat) (sh : Nat) (lw : Nat) (ro : Nat) (bq : Nat) (bp : Nat) (dq : Nat) (dp : Nat) (lv : Nat) (sl : Nat) (sd : Int32) (ul : Int32) (su : Int32) (ds : Int32) (fa : Nat) (ft : Nat) (FA : Nat → Option Nat) (f0 : Nat) (L : List Nat) (f : Nat → va_E) (kd : Nat → Int32) (st : Nat → Int32) (tn : Nat → Int32) (mn : Nat → Int32) (cx : Nat → Int32) (cy : Nat → Int32) (rk : Nat → Int32) (wd : Nat → Int32) (tw : Nat → Int32) (pa : Nat → Int32) (pb : Nat → Int32) (gb : Nat → Int32) (it : Nat → Int32) (h200 : ft ≤ 200) (hf0 : f0 < ft) (hva : ∀ q, q < ft → vwA cI L f FA rk wd tw pa pb kd st gb it tn mn cx cy q) : Met l yX10_told (.code yX10_told cX10_told 4 (some .int) :: ws0) ({ frames := 1, cells := 0, slots := 0, locals := 21 } : Room) (va_Pc [.ref x, .int (nI f0), .int 8] (zPre (dC, dI) classes (zTy cI cZ cF) ([(oc8 x (.ref sh) (.ref lw) (.ref ro) (.ref bq) (.ref bp) (.ref dq) (.ref dp) (.ref lv) (.ref sl) ds sd ul su), (oc7 sh (.ref fa) (nI ft)), (oq fa cF 200 FA)] ++ va_pl L f) sz zXN)) (zQ (some (.int (pa f0))) (fun t => va_P (dC, dI) classes ([(oc8 x (.ref sh) (.ref lw) (.ref ro) (.ref bq) (.ref bp) (.ref dq) (.ref dp) (.ref lv) (.ref sl) ds sd ul su), (oc7 sh (.ref fa) (nI ft)), (oq fa cF 200 FA)] ++ va_pl L f) t.heap ∧ va_D (va_A ([(oc8 x (.ref sh) (.ref lw) (.ref ro) (.ref bq) (.ref bp) (.ref dq) (.ref dp) (.ref lv) (.ref sl) ds sd ul su), (oc7 sh (.ref fa) (nI ft)), (oq fa cF 200 FA)] ++ va_pl L f) sz) ([(oc8 x (.ref sh) (.ref lw) (.ref ro) (.ref bq) (.ref bp) (.ref dq) (.ref dp) (.ref lv) (.ref sl) ds sd ul su), (oc7 sh (.ref fa) (nI ft)), (oq fa cF 200 FA)] ++ va_pl L f)) (va_A ([(oc8 x (.ref sh) (.ref lw) (.ref ro) (.ref bq) (.ref bp) (.ref dq) (.ref dp) (.ref lv) (.ref sl) ds sd ul su), (oc7 sh (.ref fa) (nI ft)), (oq fa cF 200 FA)] ++ va_pl L f) sz)) 0 0 (va_A ([(oc8 x (.ref sh) (.ref lw) (.ref ro) (.ref bq) (.ref bp) (.ref dq) (.ref dp) (.ref lv) (.ref sl) ds sd ul su), (oc7 sh (.ref fa) (nI ft)), (oq fa cF 200 FA)] ++ va_pl L f) sz) := by
  refine Met.ofW (cc := cX10_told) (maxL := 4) (ret := (some .int)) (by decide) rfl ?_
  intro p e s m args below meth c s₁ B hml hv
  obtain ⟨rfl, hsz, hP, hK, hD0, hXN⟩ := hv
  have hx := B.exec
  have hb := B.bytes
  have hr := B.returns
  have hts0 := atoms_spec (ws := .code yX10_told cX10_told 4 (some .int) :: ws0) B.pre
  have hts : ∀ w9 ∈ ws0, w9.before ([.ref x, .int (nI f0), .int 8] : List Value).toArray s = true := fun w9 h => hts0 w9 (List.mem_cons_of_mem _ h)
  have hown : s.vm.findClass "ScaleShop" = some m.cls := findClass_of_methodNamed B.named
  have hlocks := B.notSynchronized
  subst hsz
  have hD := hD0.self (sz := s.heap.size)
  clear hD0
  generalize hAe : va_A ([(oc8 x (.ref sh) (.ref lw) (.ref ro) (.ref bq) (.ref bp) (.ref dq) (.ref dp) (.ref lv) (.ref sl) ds sd ul su), (oc7 sh (.ref fa) (nI ft)), (oq fa cF 200 FA)] ++ va_pl L f) s.heap.size = A at hD ⊢
  have hA : ∀ q : Nat, s.heap.size ≤ q → A q := fun q h => by rw [← hAe]; exact Or.inr h
  clear hAe
  have hS : va_S A s.heap s.heap [] := va_S.rf
  have hP : va_P (dC, dI) classes ([(oc8 x (.ref sh) (.ref lw) (.ref ro) (.ref bq) (.ref bp) (.ref dq) (.ref dp) (.ref lv) (.ref sl) ds sd ul su), (oc7 sh (.ref fa) (nI ft)), (oq fa cF 200 FA)] ++ va_pl L f) s.heap := hP
  obtain ⟨Q9, hQ9⟩ : ∃ Q9 : State → Prop, Q9 = MQ below (zQ (some (.int (pa f0))) (fun t => va_P (dC, dI) classes ([(oc8 x (.ref sh) (.ref lw) (.ref ro) (.ref bq) (.ref bp) (.ref dq) (.ref dp) (.ref lv) (.ref sl) ds sd ul su), (oc7 sh (.ref fa) (nI ft)), (oq fa cF 200 FA)] ++ va_pl L f) t.heap ∧ va_D A ([(oc8 x (.ref sh) (.ref lw) (.ref ro) (.ref bq) (.ref bp) (.ref dq) (.ref dp) (.ref lv) (.ref sl) ds sd ul su), (oc7 sh (.ref fa) (nI ft)), (oq fa cF 200 FA)] ++ va_pl L f)) A) ([.ref x, .int (nI f0), .int 8] : List Value).toArray s 0 0 A := ⟨_, rfl⟩
  rw [← hQ9]
  have hl := lv_entry ([.ref x, .int (nI f0), .int 8]) (n := 4) (Nat.le_of_ble_eq_true rfl)
  rw [lg_entry_eq]
  generalize (lg_sl ([.ref x, .int (nI f0), .int 8]) ++ List.replicate (4 - (lg_sl ([.ref x, .int (nI f0), .int 8])).length) Slot.unset).toArray = ls at hl ⊢
  have hl : lv_has ls 4 [(0, .ref x), (1, .int (nI f0)), (2, .int 8)] := hl
  rcases vwA_2 (hva f0 (by omega)) with ⟨ht2, fe2, lk2, lo2, we2, fm2, hFA2, hfe2, hlk2⟩ | ⟨ht2, fe2, lk2, lo2, we2, fm2, r2, rx2, ry2, cap2, U2, V2, rg2, hFA2, hfe2, hlk2, ⟨hr2, hrx2, hry2, hne2⟩, hrr2⟩
  · skip
    have hc9_1 : inPl L f [(oc1 fe2 (rk f0) (wd f0) (tw f0) (pa f0) (pb f0) (.ref lo2) (.ref lk2) fm2), (oc4 lk2 (kd f0) (st f0) .null (gb f0) (it f0) we2)] := ⟨hfe2, hlk2, trivial⟩
    have hD0_1 := hD
    obtain ⟨hP, hD⟩ := pl_out hP hD [(oc1 fe2 (rk f0) (wd f0) (tw f0) (pa f0) (pb f0) (.ref lo2) (.ref lk2) fm2), (oc4 lk2 (kd f0) (st f0) .null (gb f0) (it f0) we2)] hc9_1 (pwF hfe2.2 hlk2.2)
    generalize hT_1 : outPl L [(oc1 fe2 (rk f0) (wd f0) (tw f0) (pa f0) (pb f0) (.ref lo2) (.ref lk2) fm2), (oc4 lk2 (kd f0) (st f0) .null (gb f0) (it f0) we2)] = T_1 at hP hD
    have hP : va_P (dC, dI) classes ([(oc8 x (.ref sh) (.ref lw) (.ref ro) (.ref bq) (.ref bp) (.ref dq) (.ref dp) (.ref lv) (.ref sl) ds sd ul su), (oc7 sh (.ref fa) (nI ft)), (oq fa cF 200 FA), (oc1 fe2 (rk f0) (wd f0) (tw f0) (pa f0) (pb f0) (.ref lo2) (.ref lk2) fm2), (oc4 lk2 (kd f0) (st f0) .null (gb f0) (it f0) we2)] ++ va_pl T_1 f) s.heap := hP
    have hD : va_D A ([(oc8 x (.ref sh) (.ref lw) (.ref ro) (.ref bq) (.ref bp) (.ref dq) (.ref dp) (.ref lv) (.ref sl) ds sd ul su), (oc7 sh (.ref fa) (nI ft)), (oq fa cF 200 FA), (oc1 fe2 (rk f0) (wd f0) (tw f0) (pa f0) (pb f0) (.ref lo2) (.ref lk2) fm2), (oc4 lk2 (kd f0) (st f0) .null (gb f0) (it f0) we2)] ++ va_pl T_1 f) := hD
    refine lv_aload_n hx hb dX10_told_0 rfl (lv_at hl 0 rfl) ?_
    refine va_get (D := (dC, dI)) (ci := 8) (v := .ref sh) (C := RX10) (T := TX10) (N := 13) hx hb hts inX10 hown hK hP 0 rfl rfl 0 (by decide) (hts _ mw_309) (fun _ h9 => h9) rfl dX10_told_1 ?_
    refine lv_iload_n hx hb dX10_told_4 rfl (lv_at hl 1 rfl) ?_
    have hPc := hP.sub (ws' := [(oc7 sh (.ref fa) (nI ft)), (oq fa cF 200 FA)]) [1, 2] rfl
    have hDc := hD.sub (ws' := [(oc7 sh (.ref fa) (nI ft)), (oq fa cF 200 FA)]) [1, 2] (by decide) rfl
    have hFc := va_free (wc := [(oc7 sh (.ref fa) (nI ft)), (oq fa cF 200 FA)]) hD hS hA [1, 2] rfl
    refine zcall (st1 := [.ref fe2]) (va_runV (As := [.int (nI f0)]) (rest := []) ⟨hx, hb, hml, hown, hts⟩ (k_Sheet_find l dC dI cI cZ cF s.heap.size sh fa ft FA f0 fe2 (by omega) (by omega) (hFA2)) (cwV 1 hts (zz_gV mw_498 mw_499 mw_500 mw_100 mc_yX8_find) rfl rfl rfl (by decide +kernel) ⟨Nat.le_of_ble_eq_true rfl, Nat.le_of_ble_eq_true rfl⟩) (zPV2 (q0 := 0) (ci := 7) hPc hDc hK hXN rfl rfl) rfl rfl hl.1 rfl (lv_room (Nat.le_of_ble_eq_true rfl)) dX10_told_5 ⟨Nat.le_of_ble_eq_true rfl, Nat.le_of_ble_eq_true rfl⟩) hS hFc hFc rfl (fun t H1 locs ht hB hk1 hS => ?_)
    obtain ⟨hP1, hD1⟩ := hB
    rw [ht] at hP1
    obtain ⟨hP, hD⟩ := va_joinQ (wr := [(oc8 x (.ref sh) (.ref lw) (.ref ro) (.ref bq) (.ref bp) (.ref dq) (.ref dp) (.ref lv) (.ref sl) ds sd ul su), (oc1 fe2 (rk f0) (wd f0) (tw f0) (pa f0) (pb f0) (.ref lo2) (.ref lk2) fm2), (oc4 lk2 (kd f0) (st f0) .null (gb f0) (it f0) we2)]) (w1 := [(oc7 sh (.ref fa) (nI ft)), (oq fa cF 200 FA)]) hP hD [1, 2] [0, 3, 4] rfl rfl (by decide) (by decide) hk1 hFc hP1 hD1
    clear hk1 hPc hDc hFc hP1 hD1 ht
    generalize H1 = H at hP hS ⊢
    have hP := hP.part (cx := [(oc8 x (.ref sh) (.ref lw) (.ref ro) (.ref bq) (.ref bp) (.ref dq) (.ref dp) (.ref lv) (.ref sl) ds sd ul su), (oc7 sh (.ref fa) (nI ft)), (oq fa cF 200 FA), (oc1 fe2 (rk f0) (wd f0) (tw f0) (pa f0) (pb f0) (.ref lo2) (.ref lk2) fm2), (oc4 lk2 (kd f0) (st f0) .null (gb f0) (it f0) we2)]) [0, 3, 4, 1, 2] rfl
    have hD := hD.part (cx := [(oc8 x (.ref sh) (.ref lw) (.ref ro) (.ref bq) (.ref bp) (.ref dq) (.ref dp) (.ref lv) (.ref sl) ds sd ul su), (oc7 sh (.ref fa) (nI ft)), (oq fa cF 200 FA), (oc1 fe2 (rk f0) (wd f0) (tw f0) (pa f0) (pb f0) (.ref lo2) (.ref lk2) fm2), (oc4 lk2 (kd f0) (st f0) .null (gb f0) (it f0) we2)]) [0, 3, 4, 1, 2] (by decide) rfl
    have hP : va_P (dC, dI) classes ([(oc8 x (.ref sh) (.ref lw) (.ref ro) (.ref bq) (.ref bp) (.ref dq) (.ref dp) (.ref lv) (.ref sl) ds sd ul su), (oc7 sh (.ref fa) (nI ft)), (oq fa cF 200 FA), (oc1 fe2 (rk f0) (wd f0) (tw f0) (pa f0) (pb f0) (.ref lo2) (.ref lk2) fm2), (oc4 lk2 (kd f0) (st f0) .null (gb f0) (it f0) we2)] ++ va_pl T_1 f) H := hP
    have hD : va_D A ([(oc8 x (.ref sh) (.ref lw) (.ref ro) (.ref bq) (.ref bp) (.ref dq) (.ref dp) (.ref lv) (.ref sl) ds sd ul su), (oc7 sh (.ref fa) (nI ft)), (oq fa cF 200 FA), (oc1 fe2 (rk f0) (wd f0) (tw f0) (pa f0) (pb f0) (.ref lo2) (.ref lk2) fm2), (oc4 lk2 (kd f0) (st f0) .null (gb f0) (it f0) we2)] ++ va_pl T_1 f) := hD
    refine lv_astore_n (lv' := [(3, .ref fe2), (0, .ref x), (1, .int (nI f0)), (2, .int 8)]) hx hb dX10_told_8 rfl hl (by decide) rfl (fun ls hl => ?_)
    refine lv_aload_n hx hb dX10_told_9 rfl (lv_at hl 0 rfl) ?_
    refine lv_ifnonnull (tgt := 15) hx hb dX10_told_10 (by decide) ?_
    refine lv_iload_n hx hb dX10_told_15 rfl (lv_at hl 3 rfl) ?_
    refine lv_tableIn (tgt := 156) (off := 140) hx hb dX10_told_16 (by decide) (by decide) (by decide) (by decide) ?_
    refine lv_aload_n hx hb dX10_told_156 rfl (lv_at hl 0 rfl) ?_
    refine va_get (D := (dC, dI)) (ci := 1) (v := .int (pa f0)) (C := RX2) (T := TX2) (N := 8) hx hb hts inX2 hown hK hP 3 rfl rfl 3 (by decide) (hts _ mw_423) (fun _ h9 => h9) rfl dX10_told_157 ?_
    have hP := pl_back (cs := [(oc1 fe2 (rk f0) (wd f0) (tw f0) (pa f0) (pb f0) (.ref lo2) (.ref lk2) fm2), (oc4 lk2 (kd f0) (st f0) .null (gb f0) (it f0) we2)]) (L := L) (f := f) (X := [(oc8 x (.ref sh) (.ref lw) (.ref ro) (.ref bq) (.ref bp) (.ref dq) (.ref dp) (.ref lv) (.ref sl) ds sd ul su), (oc7 sh (.ref fa) (nI ft)), (oq fa cF 200 FA)]) (by rw [hT_1]; exact (show va_P (dC, dI) classes (([(oc8 x (.ref sh) (.ref lw) (.ref ro) (.ref bq) (.ref bp) (.ref dq) (.ref dp) (.ref lv) (.ref sl) ds sd ul su), (oc7 sh (.ref fa) (nI ft)), (oq fa cF 200 FA)] ++ [(oc1 fe2 (rk f0) (wd f0) (tw f0) (pa f0) (pb f0) (.ref lo2) (.ref lk2) fm2), (oc4 lk2 (kd f0) (st f0) .null (gb f0) (it f0) we2)]) ++ va_pl T_1 f) H from hP)) hc9_1
    have hD : va_D A ([(oc8 x (.ref sh) (.ref lw) (.ref ro) (.ref bq) (.ref bp) (.ref dq) (.ref dp) (.ref lv) (.ref sl) ds sd ul su), (oc7 sh (.ref fa) (nI ft)), (oq fa cF 200 FA)] ++ va_pl L f) := vaD_ae hD0_1 rfl
    have hP9 := hP.part (cx := [(oc8 x (.ref sh) (.ref lw) (.ref ro) (.ref bq) (.ref bp) (.ref dq) (.ref dp) (.ref lv) (.ref sl) ds sd ul su), (oc7 sh (.ref fa) (nI ft)), (oq fa cF 200 FA)]) [0, 1, 2] rfl
    have hD9 := hD.part (cx := [(oc8 x (.ref sh) (.ref lw) (.ref ro) (.ref bq) (.ref bp) (.ref dq) (.ref dp) (.ref lv) (.ref sl) ds sd ul su), (oc7 sh (.ref fa) (nI ft)), (oq fa cF 200 FA)]) [0, 1, 2] (by decide) rfl
    rw [hQ9]
    exact W.iret (v := pa f0) hx hb hr (fun t ht hW => ⟨⟨rfl, by rw [ht]; exact hP9, hD9⟩, hS.F ht⟩) hS.2.2 dX10_told_160
  · skip
    have hcap2 := hrr2.1
    have hcap3 := hrr2.2.1
    have hc9_1 : inPl L f [(oc1 fe2 (rk f0) (wd f0) (tw f0) (pa f0) (pb f0) (.ref lo2) (.ref lk2) fm2), (oc4 lk2 (kd f0) (st f0) (.ref r2) (gb f0) (it f0) we2), (oc6 r2 (.ref rx2) (.ref ry2) (nI (nN (mn f0))) rg2), (oa rx2 cI cap2 U2), (oa ry2 cI cap2 V2)] := ⟨hfe2, hlk2, hr2, hrx2, hry2, trivial⟩
    have hD0_1 := hD
    obtain ⟨hP, hD⟩ := pl_out hP hD [(oc1 fe2 (rk f0) (wd f0) (tw f0) (pa f0) (pb f0) (.ref lo2) (.ref lk2) fm2), (oc4 lk2 (kd f0) (st f0) (.ref r2) (gb f0) (it f0) we2), (oc6 r2 (.ref rx2) (.ref ry2) (nI (nN (mn f0))) rg2), (oa rx2 cI cap2 U2), (oa ry2 cI cap2 V2)] hc9_1 (pwR hfe2.2 hlk2.2 hr2.2 hrx2.2 hry2.2 hne2)
    generalize hT_1 : outPl L [(oc1 fe2 (rk f0) (wd f0) (tw f0) (pa f0) (pb f0) (.ref lo2) (.ref lk2) fm2), (oc4 lk2 (kd f0) (st f0) (.ref r2) (gb f0) (it f0) we2), (oc6 r2 (.ref rx2) (.ref ry2) (nI (nN (mn f0))) rg2), (oa rx2 cI cap2 U2), (oa ry2 cI cap2 V2)] = T_1 at hP hD
    have hP : va_P (dC, dI) classes ([(oc8 x (.ref sh) (.ref lw) (.ref ro) (.ref bq) (.ref bp) (.ref dq) (.ref dp) (.ref lv) (.ref sl) ds sd ul su), (oc7 sh (.ref fa) (nI ft)), (oq fa cF 200 FA), (oc1 fe2 (rk f0) (wd f0) (tw f0) (pa f0) (pb f0) (.ref lo2) (.ref lk2) fm2), (oc4 lk2 (kd f0) (st f0) (.ref r2) (gb f0) (it f0) we2), (oc6 r2 (.ref rx2) (.ref ry2) (nI (nN (mn f0))) rg2), (oa rx2 cI cap2 U2), (oa ry2 cI cap2 V2)] ++ va_pl T_1 f) s.heap := hP
    have hD : va_D A ([(oc8 x (.ref sh) (.ref lw) (.ref ro) (.ref bq) (.ref bp) (.ref dq) (.ref dp) (.ref lv) (.ref sl) ds sd ul su), (oc7 sh (.ref fa) (nI ft)), (oq fa cF 200 FA), (oc1 fe2 (rk f0) (wd f0) (tw f0) (pa f0) (pb f0) (.ref lo2) (.ref lk2) fm2), (oc4 lk2 (kd f0) (st f0) (.ref r2) (gb f0) (it f0) we2), (oc6 r2 (.ref rx2) (.ref ry2) (nI (nN (mn f0))) rg2), (oa rx2 cI cap2 U2), (oa ry2 cI cap2 V2)] ++ va_pl T_1 f) := hD
    refine lv_aload_n hx hb dX10_told_0 rfl (lv_at hl 0 rfl) ?_
    refine va_get (D := (dC, dI)) (ci := 8) (v := .ref sh) (C := RX10) (T := TX10) (N := 13) hx hb hts inX10 hown hK hP 0 rfl rfl 0 (by decide) (hts _ mw_309) (fun _ h9 => h9) rfl dX10_told_1 ?_
    refine lv_iload_n hx hb dX10_told_4 rfl (lv_at hl 1 rfl) ?_
    have hPc := hP.sub (ws' := [(oc7 sh (.ref fa) (nI ft)), (oq fa cF 200 FA)]) [1, 2] rfl
    have hDc := hD.sub (ws' := [(oc7 sh (.ref fa) (nI ft)), (oq fa cF 200 FA)]) [1, 2] (by decide) rfl
    have hFc := va_free (wc := [(oc7 sh (.ref fa) (nI ft)), (oq fa cF 200 FA)]) hD hS hA [1, 2] rfl
    refine zcall (st1 := [.ref fe2]) (va_runV (As := [.int (nI f0)]) (rest := []) ⟨hx, hb, hml, hown, hts⟩ (k_Sheet_find l dC dI cI cZ cF s.heap.size sh fa ft FA f0 fe2 (by omega) (by omega) (hFA2)) (cwV 1 hts (zz_gV mw_498 mw_499 mw_500 mw_100 mc_yX8_find) rfl rfl rfl (by decide +kernel) ⟨Nat.le_of_ble_eq_true rfl, Nat.le_of_ble_eq_true rfl⟩) (zPV2 (q0 := 0) (ci := 7) hPc hDc hK hXN rfl rfl) rfl rfl hl.1 rfl (lv_room (Nat.le_of_ble_eq_true rfl)) dX10_told_5 ⟨Nat.le_of_ble_eq_true rfl, Nat.le_of_ble_eq_true rfl⟩) hS hFc hFc rfl (fun t H1 locs ht hB hk1 hS => ?_)
    obtain ⟨hP1, hD1⟩ := hB
    rw [ht] at hP1
    obtain ⟨hP, hD⟩ := va_joinQ (wr := [(oc8 x (.ref sh) (.ref lw) (.ref ro) (.ref bq) (.ref bp) (.ref dq) (.ref dp) (.ref lv) (.ref sl) ds sd ul su), (oc1 fe2 (rk f0) (wd f0) (tw f0) (pa f0) (pb f0) (.ref lo2) (.ref lk2) fm2), (oc4 lk2 (kd f0) (st f0) (.ref r2) (gb f0) (it f0) we2), (oc6 r2 (.ref rx2) (.ref ry2) (nI (nN (mn f0))) rg2), (oa rx2 cI cap2 U2), (oa ry2 cI cap2 V2)]) (w1 := [(oc7 sh (.ref fa) (nI ft)), (oq fa cF 200 FA)]) hP hD [1, 2] [0, 3, 4, 5, 6, 7] rfl rfl (by decide) (by decide) hk1 hFc hP1 hD1
    clear hk1 hPc hDc hFc hP1 hD1 ht
    generalize H1 = H at hP hS ⊢
    have hP := hP.part (cx := [(oc8 x (.ref sh) (.ref lw) (.ref ro) (.ref bq) (.ref bp) (.ref dq) (.ref dp) (.ref lv) (.ref sl) ds sd ul su), (oc7 sh (.ref fa) (nI ft)), (oq fa cF 200 FA), (oc1 fe2 (rk f0) (wd f0) (tw f0) (pa f0) (pb f0) (.ref lo2) (.ref lk2) fm2), (oc4 lk2 (kd f0) (st f0) (.ref r2) (gb f0) (it f0) we2), (oc6 r2 (.ref rx2) (.ref ry2) (nI (nN (mn f0))) rg2), (oa rx2 cI cap2 U2), (oa ry2 cI cap2 V2)]) [0, 6, 7, 1, 2, 3, 4, 5] rfl
    have hD := hD.part (cx := [(oc8 x (.ref sh) (.ref lw) (.ref ro) (.ref bq) (.ref bp) (.ref dq) (.ref dp) (.ref lv) (.ref sl) ds sd ul su), (oc7 sh (.ref fa) (nI ft)), (oq fa cF 200 FA), (oc1 fe2 (rk f0) (wd f0) (tw f0) (pa f0) (pb f0) (.ref lo2) (.ref lk2) fm2), (oc4 lk2 (kd f0) (st f0) (.ref r2) (gb f0) (it f0) we2), (oc6 r2 (.ref rx2) (.ref ry2) (nI (nN (mn f0))) rg2), (oa rx2 cI cap2 U2), (oa ry2 cI cap2 V2)]) [0, 6, 7, 1, 2, 3, 4, 5] (by decide) rfl
    have hP : va_P (dC, dI) classes ([(oc8 x (.ref sh) (.ref lw) (.ref ro) (.ref bq) (.ref bp) (.ref dq) (.ref dp) (.ref lv) (.ref sl) ds sd ul su), (oc7 sh (.ref fa) (nI ft)), (oq fa cF 200 FA), (oc1 fe2 (rk f0) (wd f0) (tw f0) (pa f0) (pb f0) (.ref lo2) (.ref lk2) fm2), (oc4 lk2 (kd f0) (st f0) (.ref r2) (gb f0) (it f0) we2), (oc6 r2 (.ref rx2) (.ref ry2) (nI (nN (mn f0))) rg2), (oa rx2 cI cap2 U2), (oa ry2 cI cap2 V2)] ++ va_pl T_1 f) H := hP
    have hD : va_D A ([(oc8 x (.ref sh) (.ref lw) (.ref ro) (.ref bq) (.ref bp) (.ref dq) (.ref dp) (.ref lv) (.ref sl) ds sd ul su), (oc7 sh (.ref fa) (nI ft)), (oq fa cF 200 FA), (oc1 fe2 (rk f0) (wd f0) (tw f0) (pa f0) (pb f0) (.ref lo2) (.ref lk2) fm2), (oc4 lk2 (kd f0) (st f0) (.ref r2) (gb f0) (it f0) we2), (oc6 r2 (.ref rx2) (.ref ry2) (nI (nN (mn f0))) rg2), (oa rx2 cI cap2 U2), (oa ry2 cI cap2 V2)] ++ va_pl T_1 f) := hD
    refine lv_astore_n (lv' := [(3, .ref fe2), (0, .ref x), (1, .int (nI f0)), (2, .int 8)]) hx hb dX10_told_8 rfl hl (by decide) rfl (fun ls hl => ?_)
    refine lv_aload_n hx hb dX10_told_9 rfl (lv_at hl 0 rfl) ?_
    refine lv_ifnonnull (tgt := 15) hx hb dX10_told_10 (by decide) ?_
    refine lv_iload_n hx hb dX10_told_15 rfl (lv_at hl 3 rfl) ?_
    refine lv_tableIn (tgt := 156) (off := 140) hx hb dX10_told_16 (by decide) (by decide) (by decide) (by decide) ?_
    refine lv_aload_n hx hb dX10_told_156 rfl (lv_at hl 0 rfl) ?_
    refine va_get (D := (dC, dI)) (ci := 1) (v := .int (pa f0)) (C := RX2) (T := TX2) (N := 8) hx hb hts inX2 hown hK hP 3 rfl rfl 3 (by decide) (hts _ mw_423) (fun _ h9 => h9) rfl dX10_told_157 ?_
    have hP := pl_back (cs := [(oc1 fe2 (rk f0) (wd f0) (tw f0) (pa f0) (pb f0) (.ref lo2) (.ref lk2) fm2), (oc4 lk2 (kd f0) (st f0) (.ref r2) (gb f0) (it f0) we2), (oc6 r2 (.ref rx2) (.ref ry2) (nI (nN (mn f0))) rg2), (oa rx2 cI cap2 U2), (oa ry2 cI cap2 V2)]) (L := L) (f := f) (X := [(oc8 x (.ref sh) (.ref lw) (.ref ro) (.ref bq) (.ref bp) (.ref dq) (.ref dp) (.ref lv) (.ref sl) ds sd ul su), (oc7 sh (.ref fa) (nI ft)), (oq fa cF 200 FA)]) (by rw [hT_1]; exact (show va_P (dC, dI) classes (([(oc8 x (.ref sh) (.ref lw) (.ref ro) (.ref bq) (.ref bp) (.ref dq) (.ref dp) (.ref lv) (.ref sl) ds sd ul su), (oc7 sh (.ref fa) (nI ft)), (oq fa cF 200 FA)] ++ [(oc1 fe2 (rk f0) (wd f0) (tw f0) (pa f0) (pb f0) (.ref lo2) (.ref lk2) fm2), (oc4 lk2 (kd f0) (st f0) (.ref r2) (gb f0) (it f0) we2), (oc6 r2 (.ref rx2) (.ref ry2) (nI (nN (mn f0))) rg2), (oa rx2 cI cap2 U2), (oa ry2 cI cap2 V2)]) ++ va_pl T_1 f) H from hP)) hc9_1
    have hD : va_D A ([(oc8 x (.ref sh) (.ref lw) (.ref ro) (.ref bq) (.ref bp) (.ref dq) (.ref dp) (.ref lv) (.ref sl) ds sd ul su), (oc7 sh (.ref fa) (nI ft)), (oq fa cF 200 FA)] ++ va_pl L f) := vaD_ae hD0_1 rfl
    have hP9 := hP.part (cx := [(oc8 x (.ref sh) (.ref lw) (.ref ro) (.ref bq) (.ref bp) (.ref dq) (.ref dp) (.ref lv) (.ref sl) ds sd ul su), (oc7 sh (.ref fa) (nI ft)), (oq fa cF 200 FA)]) [0, 1, 2] rfl
    have hD9 := hD.part (cx := [(oc8 x (.ref sh) (.ref lw) (.ref ro) (.ref bq) (.ref bp) (.ref dq) (.ref dp) (.ref lv) (.ref sl) ds sd ul su), (oc7 sh (.ref fa) (nI ft)), (oq fa cF 200 FA)]) [0, 1, 2] (by decide) rfl
    rw [hQ9]
    exact W.iret (v := pa f0) hx hb hr (fun t ht hW => ⟨⟨rfl, by rw [ht]; exact hP9, hD9⟩, hS.F ht⟩) hS.2.2 dX10_told_160
set_option maxHeartbeats 4000000 in
set_option maxRecDepth 100000 in
theorem k_told_9 (l : Launch) (dC : Nat → ClassId) (dI : Nat → Nat → Nat) (cI cZ cF : ClassId) (sz : Nat) (x : Nat) (sh : Nat) (lw : Nat) (ro : Nat) (bq : Nat) (bp : Nat) (dq : Nat) (dp : Nat) (lv : Nat) (sl : Nat) (sd : Int32) (ul : Int32) (su : Int32) (ds : Int32) (fa : Nat) (ft : Nat) (FA : Nat → Option Nat) (f0 : Nat) (L : List Nat) (f : Nat → va_E) (kd : Nat → Int32) (st : Nat → Int32) (tn : Nat → Int32) (mn : Nat → Int32) (cx : Nat → Int32) (cy : Nat → Int32) (rk : Nat → Int32) (wd : Nat → Int32) (tw : Nat → Int32) (pa : Nat → Int32) (pb : Nat → Int32) (gb : Nat → Int32) (it : Nat → Int32) (h200 : ft ≤ 200) (hf0 : f0 < ft) (hva : ∀ q, q < ft → vwA cI L f FA rk wd tw pa pb kd st gb it tn mn cx cy q) : Met l yX10_told (.code yX10_told cX10_told 4 (some .int) :: ws0) ({ frames := 1, cells := 0, slots := 0, locals := 21 } : Room) (va_Pc [.ref x, .int (nI f0), .int 9] (zPre (dC, dI) classes (zTy cI cZ cF) ([(oc8 x (.ref sh) (.ref lw) (.ref ro) (.ref bq) (.ref bp) (.ref dq) (.ref dp) (.ref lv) (.ref sl) ds sd ul su), (oc7 sh (.ref fa) (nI ft)), (oq fa cF 200 FA)] ++ va_pl L f) sz zXN)) (zQ (some (.int (pb f0))) (fun t => va_P (dC, dI) classes ([(oc8 x (.ref sh) (.ref lw) (.ref ro) (.ref bq) (.ref bp) (.ref dq) (.ref dp) (.ref lv) (.ref sl) ds sd ul su), (oc7 sh (.ref fa) (nI ft)), (oq fa cF 200 FA)] ++ va_pl L f) t.heap ∧ va_D (va_A ([(oc8 x (.ref sh) (.ref lw) (.ref ro) (.ref bq) (.ref bp) (.ref dq) (.ref dp) (.ref lv) (.ref sl) ds sd ul su), (oc7 sh (.ref fa) (nI ft)), (oq fa cF 200 FA)] ++ va_pl L f) sz) ([(oc8 x (.ref sh) (.ref lw) (.ref ro) (.ref bq) (.ref bp) (.ref dq) (.ref dp) (.ref lv) (.ref sl) ds sd ul su), (oc7 sh (.ref fa) (nI ft)), (oq fa cF 200 FA)] ++ va_pl L f)) (va_A ([(oc8 x (.ref sh) (.ref lw) (.ref ro) (.ref bq) (.ref bp) (.ref dq) (.ref dp) (.ref lv) (.ref sl) ds sd ul su), (oc7 sh (.ref fa) (nI ft)), (oq fa cF 200 FA)] ++ va_pl L f) sz)) 0 0 (va_A ([(oc8 x (.ref sh) (.ref lw) (.ref ro) (.ref bq) (.ref bp) (.ref dq) (.ref dp) (.ref lv) (.ref sl) ds sd ul su), (oc7 sh (.ref fa) (nI ft)), (oq fa cF 200 FA)] ++ va_pl L f) sz) := by
  refine Met.ofW (cc := cX10_told) (maxL := 4) (ret := (some .int)) (by decide) rfl ?_
  intro p e s m args below meth c s₁ B hml hv
  obtain ⟨rfl, hsz, hP, hK, hD0, hXN⟩ := hv
  have hx := B.exec
  have hb := B.bytes
  have hr := B.returns
  have hts0 := atoms_spec (ws := .code yX10_told cX10_told 4 (some .int) :: ws0) B.pre
  have hts : ∀ w9 ∈ ws0, w9.before ([.ref x, .int (nI f0), .int 9] : List Value).toArray s = true := fun w9 h => hts0 w9 (List.mem_cons_of_mem _ h)
  have hown : s.vm.findClass "ScaleShop" = some m.cls := findClass_of_methodNamed B.named
  have hlocks := B.notSynchronized
  subst hsz
  have hD := hD0.self (sz := s.heap.size)
  clear hD0
  generalize hAe : va_A ([(oc8 x (.ref sh) (.ref lw) (.ref ro) (.ref bq) (.ref bp) (.ref dq) (.ref dp) (.ref lv) (.ref sl) ds sd ul su), (oc7 sh (.ref fa) (nI ft)), (oq fa cF 200 FA)] ++ va_pl L f) s.heap.size = A at hD ⊢
  have hA : ∀ q : Nat, s.heap.size ≤ q → A q := fun q h => by rw [← hAe]; exact Or.inr h
  clear hAe
  have hS : va_S A s.heap s.heap [] := va_S.rf
  have hP : va_P (dC, dI) classes ([(oc8 x (.ref sh) (.ref lw) (.ref ro) (.ref bq) (.ref bp) (.ref dq) (.ref dp) (.ref lv) (.ref sl) ds sd ul su), (oc7 sh (.ref fa) (nI ft)), (oq fa cF 200 FA)] ++ va_pl L f) s.heap := hP
  obtain ⟨Q9, hQ9⟩ : ∃ Q9 : State → Prop, Q9 = MQ below (zQ (some (.int (pb f0))) (fun t => va_P (dC, dI) classes ([(oc8 x (.ref sh) (.ref lw) (.ref ro) (.ref bq) (.ref bp) (.ref dq) (.ref dp) (.ref lv) (.ref sl) ds sd ul su), (oc7 sh (.ref fa) (nI ft)), (oq fa cF 200 FA)] ++ va_pl L f) t.heap ∧ va_D A ([(oc8 x (.ref sh) (.ref lw) (.ref ro) (.ref bq) (.ref bp) (.ref dq) (.ref dp) (.ref lv) (.ref sl) ds sd ul su), (oc7 sh (.ref fa) (nI ft)), (oq fa cF 200 FA)] ++ va_pl L f)) A) ([.ref x, .int (nI f0), .int 9] : List Value).toArray s 0 0 A := ⟨_, rfl⟩
  rw [← hQ9]
  have hl := lv_entry ([.ref x, .int (nI f0), .int 9]) (n := 4) (Nat.le_of_ble_eq_true rfl)
  rw [lg_entry_eq]
  generalize (lg_sl ([.ref x, .int (nI f0), .int 9]) ++ List.replicate (4 - (lg_sl ([.ref x, .int (nI f0), .int 9])).length) Slot.unset).toArray = ls at hl ⊢
  have hl : lv_has ls 4 [(0, .ref x), (1, .int (nI f0)), (2, .int 9)] := hl
  rcases vwA_2 (hva f0 (by omega)) with ⟨ht2, fe2, lk2, lo2, we2, fm2, hFA2, hfe2, hlk2⟩ | ⟨ht2, fe2, lk2, lo2, we2, fm2, r2, rx2, ry2, cap2, U2, V2, rg2, hFA2, hfe2, hlk2, ⟨hr2, hrx2, hry2, hne2⟩, hrr2⟩
  · skip
    have hc9_1 : inPl L f [(oc1 fe2 (rk f0) (wd f0) (tw f0) (pa f0) (pb f0) (.ref lo2) (.ref lk2) fm2), (oc4 lk2 (kd f0) (st f0) .null (gb f0) (it f0) we2)] := ⟨hfe2, hlk2, trivial⟩
    have hD0_1 := hD
    obtain ⟨hP, hD⟩ := pl_out hP hD [(oc1 fe2 (rk f0) (wd f0) (tw f0) (pa f0) (pb f0) (.ref lo2) (.ref lk2) fm2), (oc4 lk2 (kd f0) (st f0) .null (gb f0) (it f0) we2)] hc9_1 (pwF hfe2.2 hlk2.2)
    generalize hT_1 : outPl L [(oc1 fe2 (rk f0) (wd f0) (tw f0) (pa f0) (pb f0) (.ref lo2) (.ref lk2) fm2), (oc4 lk2 (kd f0) (st f0) .null (gb f0) (it f0) we2)] = T_1 at hP hD
    have hP : va_P (dC, dI) classes ([(oc8 x (.ref sh) (.ref lw) (.ref ro) (.ref bq) (.ref bp) (.ref dq) (.ref dp) (.ref lv) (.ref sl) ds sd ul su), (oc7 sh (.ref fa) (nI ft)), (oq fa cF 200 FA), (oc1 fe2 (rk f0) (wd f0) (tw f0) (pa f0) (pb f0) (.ref lo2) (.ref lk2) fm2), (oc4 lk2 (kd f0) (st f0) .null (gb f0) (it f0) we2)] ++ va_pl T_1 f) s.heap := hP
    have hD : va_D A ([(oc8 x (.ref sh) (.ref lw) (.ref ro) (.ref bq) (.ref bp) (.ref dq) (.ref dp) (.ref lv) (.ref sl) ds sd ul su), (oc7 sh (.ref fa) (nI ft)), (oq fa cF 200 FA), (oc1 fe2 (rk f0) (wd f0) (tw f0) (pa f0) (pb f0) (.ref lo2) (.ref lk2) fm2), (oc4 lk2 (kd f0) (st f0) .null (gb f0) (it f0) we2)] ++ va_pl T_1 f) := hD
    refine lv_aload_n hx hb dX10_told_0 rfl (lv_at hl 0 rfl) ?_
    refine va_get (D := (dC, dI)) (ci := 8) (v := .ref sh) (C := RX10) (T := TX10) (N := 13) hx hb hts inX10 hown hK hP 0 rfl rfl 0 (by decide) (hts _ mw_309) (fun _ h9 => h9) rfl dX10_told_1 ?_
    refine lv_iload_n hx hb dX10_told_4 rfl (lv_at hl 1 rfl) ?_
    have hPc := hP.sub (ws' := [(oc7 sh (.ref fa) (nI ft)), (oq fa cF 200 FA)]) [1, 2] rfl
    have hDc := hD.sub (ws' := [(oc7 sh (.ref fa) (nI ft)), (oq fa cF 200 FA)]) [1, 2] (by decide) rfl
    have hFc := va_free (wc := [(oc7 sh (.ref fa) (nI ft)), (oq fa cF 200 FA)]) hD hS hA [1, 2] rfl
    refine zcall (st1 := [.ref fe2]) (va_runV (As := [.int (nI f0)]) (rest := []) ⟨hx, hb, hml, hown, hts⟩ (k_Sheet_find l dC dI cI cZ cF s.heap.size sh fa ft FA f0 fe2 (by omega) (by omega) (hFA2)) (cwV 1 hts (zz_gV mw_498 mw_499 mw_500 mw_100 mc_yX8_find) rfl rfl rfl (by decide +kernel) ⟨Nat.le_of_ble_eq_true rfl, Nat.le_of_ble_eq_true rfl⟩) (zPV2 (q0 := 0) (ci := 7) hPc hDc hK hXN rfl rfl) rfl rfl hl.1 rfl (lv_room (Nat.le_of_ble_eq_true rfl)) dX10_told_5 ⟨Nat.le_of_ble_eq_true rfl, Nat.le_of_ble_eq_true rfl⟩) hS hFc hFc rfl (fun t H1 locs ht hB hk1 hS => ?_)
    obtain ⟨hP1, hD1⟩ := hB
    rw [ht] at hP1
    obtain ⟨hP, hD⟩ := va_joinQ (wr := [(oc8 x (.ref sh) (.ref lw) (.ref ro) (.ref bq) (.ref bp) (.ref dq) (.ref dp) (.ref lv) (.ref sl) ds sd ul su), (oc1 fe2 (rk f0) (wd f0) (tw f0) (pa f0) (pb f0) (.ref lo2) (.ref lk2) fm2), (oc4 lk2 (kd f0) (st f0) .null (gb f0) (it f0) we2)]) (w1 := [(oc7 sh (.ref fa) (nI ft)), (oq fa cF 200 FA)]) hP hD [1, 2] [0, 3, 4] rfl rfl (by decide) (by decide) hk1 hFc hP1 hD1
    clear hk1 hPc hDc hFc hP1 hD1 ht
    generalize H1 = H at hP hS ⊢
    have hP := hP.part (cx := [(oc8 x (.ref sh) (.ref lw) (.ref ro) (.ref bq) (.ref bp) (.ref dq) (.ref dp) (.ref lv) (.ref sl) ds sd ul su), (oc7 sh (.ref fa) (nI ft)), (oq fa cF 200 FA), (oc1 fe2 (rk f0) (wd f0) (tw f0) (pa f0) (pb f0) (.ref lo2) (.ref lk2) fm2), (oc4 lk2 (kd f0) (st f0) .null (gb f0) (it f0) we2)]) [0, 3, 4, 1, 2] rfl
    have hD := hD.part (cx := [(oc8 x (.ref sh) (.ref lw) (.ref ro) (.ref bq) (.ref bp) (.ref dq) (.ref dp) (.ref lv) (.ref sl) ds sd ul su), (oc7 sh (.ref fa) (nI ft)), (oq fa cF 200 FA), (oc1 fe2 (rk f0) (wd f0) (tw f0) (pa f0) (pb f0) (.ref lo2) (.ref lk2) fm2), (oc4 lk2 (kd f0) (st f0) .null (gb f0) (it f0) we2)]) [0, 3, 4, 1, 2] (by decide) rfl
    have hP : va_P (dC, dI) classes ([(oc8 x (.ref sh) (.ref lw) (.ref ro) (.ref bq) (.ref bp) (.ref dq) (.ref dp) (.ref lv) (.ref sl) ds sd ul su), (oc7 sh (.ref fa) (nI ft)), (oq fa cF 200 FA), (oc1 fe2 (rk f0) (wd f0) (tw f0) (pa f0) (pb f0) (.ref lo2) (.ref lk2) fm2), (oc4 lk2 (kd f0) (st f0) .null (gb f0) (it f0) we2)] ++ va_pl T_1 f) H := hP
    have hD : va_D A ([(oc8 x (.ref sh) (.ref lw) (.ref ro) (.ref bq) (.ref bp) (.ref dq) (.ref dp) (.ref lv) (.ref sl) ds sd ul su), (oc7 sh (.ref fa) (nI ft)), (oq fa cF 200 FA), (oc1 fe2 (rk f0) (wd f0) (tw f0) (pa f0) (pb f0) (.ref lo2) (.ref lk2) fm2), (oc4 lk2 (kd f0) (st f0) .null (gb f0) (it f0) we2)] ++ va_pl T_1 f) := hD
    refine lv_astore_n (lv' := [(3, .ref fe2), (0, .ref x), (1, .int (nI f0)), (2, .int 9)]) hx hb dX10_told_8 rfl hl (by decide) rfl (fun ls hl => ?_)
    refine lv_aload_n hx hb dX10_told_9 rfl (lv_at hl 0 rfl) ?_
    refine lv_ifnonnull (tgt := 15) hx hb dX10_told_10 (by decide) ?_
    refine lv_iload_n hx hb dX10_told_15 rfl (lv_at hl 3 rfl) ?_
    refine lv_tableIn (tgt := 161) (off := 145) hx hb dX10_told_16 (by decide) (by decide) (by decide) (by decide) ?_
    refine lv_aload_n hx hb dX10_told_161 rfl (lv_at hl 0 rfl) ?_
    refine va_get (D := (dC, dI)) (ci := 1) (v := .int (pb f0)) (C := RX2) (T := TX2) (N := 8) hx hb hts inX2 hown hK hP 3 rfl rfl 4 (by decide) (hts _ mw_425) (fun _ h9 => h9) rfl dX10_told_162 ?_
    have hP := pl_back (cs := [(oc1 fe2 (rk f0) (wd f0) (tw f0) (pa f0) (pb f0) (.ref lo2) (.ref lk2) fm2), (oc4 lk2 (kd f0) (st f0) .null (gb f0) (it f0) we2)]) (L := L) (f := f) (X := [(oc8 x (.ref sh) (.ref lw) (.ref ro) (.ref bq) (.ref bp) (.ref dq) (.ref dp) (.ref lv) (.ref sl) ds sd ul su), (oc7 sh (.ref fa) (nI ft)), (oq fa cF 200 FA)]) (by rw [hT_1]; exact (show va_P (dC, dI) classes (([(oc8 x (.ref sh) (.ref lw) (.ref ro) (.ref bq) (.ref bp) (.ref dq) (.ref dp) (.ref lv) (.ref sl) ds sd ul su), (oc7 sh (.ref fa) (nI ft)), (oq fa cF 200 FA)] ++ [(oc1 fe2 (rk f0) (wd f0) (tw f0) (pa f0) (pb f0) (.ref lo2) (.ref lk2) fm2), (oc4 lk2 (kd f0) (st f0) .null (gb f0) (it f0) we2)]) ++ va_pl T_1 f) H from hP)) hc9_1
    have hD : va_D A ([(oc8 x (.ref sh) (.ref lw) (.ref ro) (.ref bq) (.ref bp) (.ref dq) (.ref dp) (.ref lv) (.ref sl) ds sd ul su), (oc7 sh (.ref fa) (nI ft)), (oq fa cF 200 FA)] ++ va_pl L f) := vaD_ae hD0_1 rfl
    have hP9 := hP.part (cx := [(oc8 x (.ref sh) (.ref lw) (.ref ro) (.ref bq) (.ref bp) (.ref dq) (.ref dp) (.ref lv) (.ref sl) ds sd ul su), (oc7 sh (.ref fa) (nI ft)), (oq fa cF 200 FA)]) [0, 1, 2] rfl
    have hD9 := hD.part (cx := [(oc8 x (.ref sh) (.ref lw) (.ref ro) (.ref bq) (.ref bp) (.ref dq) (.ref dp) (.ref lv) (.ref sl) ds sd ul su), (oc7 sh (.ref fa) (nI ft)), (oq fa cF 200 FA)]) [0, 1, 2] (by decide) rfl
    rw [hQ9]
    exact W.iret (v := pb f0) hx hb hr (fun t ht hW => ⟨⟨rfl, by rw [ht]; exact hP9, hD9⟩, hS.F ht⟩) hS.2.2 dX10_told_165
  · skip
    have hcap2 := hrr2.1
    have hcap3 := hrr2.2.1
    have hc9_1 : inPl L f [(oc1 fe2 (rk f0) (wd f0) (tw f0) (pa f0) (pb f0) (.ref lo2) (.ref lk2) fm2), (oc4 lk2 (kd f0) (st f0) (.ref r2) (gb f0) (it f0) we2), (oc6 r2 (.ref rx2) (.ref ry2) (nI (nN (mn f0))) rg2), (oa rx2 cI cap2 U2), (oa ry2 cI cap2 V2)] := ⟨hfe2, hlk2, hr2, hrx2, hry2, trivial⟩
    have hD0_1 := hD
    obtain ⟨hP, hD⟩ := pl_out hP hD [(oc1 fe2 (rk f0) (wd f0) (tw f0) (pa f0) (pb f0) (.ref lo2) (.ref lk2) fm2), (oc4 lk2 (kd f0) (st f0) (.ref r2) (gb f0) (it f0) we2), (oc6 r2 (.ref rx2) (.ref ry2) (nI (nN (mn f0))) rg2), (oa rx2 cI cap2 U2), (oa ry2 cI cap2 V2)] hc9_1 (pwR hfe2.2 hlk2.2 hr2.2 hrx2.2 hry2.2 hne2)
    generalize hT_1 : outPl L [(oc1 fe2 (rk f0) (wd f0) (tw f0) (pa f0) (pb f0) (.ref lo2) (.ref lk2) fm2), (oc4 lk2 (kd f0) (st f0) (.ref r2) (gb f0) (it f0) we2), (oc6 r2 (.ref rx2) (.ref ry2) (nI (nN (mn f0))) rg2), (oa rx2 cI cap2 U2), (oa ry2 cI cap2 V2)] = T_1 at hP hD
    have hP : va_P (dC, dI) classes ([(oc8 x (.ref sh) (.ref lw) (.ref ro) (.ref bq) (.ref bp) (.ref dq) (.ref dp) (.ref lv) (.ref sl) ds sd ul su), (oc7 sh (.ref fa) (nI ft)), (oq fa cF 200 FA), (oc1 fe2 (rk f0) (wd f0) (tw f0) (pa f0) (pb f0) (.ref lo2) (.ref lk2) fm2), (oc4 lk2 (kd f0) (st f0) (.ref r2) (gb f0) (it f0) we2), (oc6 r2 (.ref rx2) (.ref ry2) (nI (nN (mn f0))) rg2), (oa rx2 cI cap2 U2), (oa ry2 cI cap2 V2)] ++ va_pl T_1 f) s.heap := hP
    have hD : va_D A ([(oc8 x (.ref sh) (.ref lw) (.ref ro) (.ref bq) (.ref bp) (.ref dq) (.ref dp) (.ref lv) (.ref sl) ds sd ul su), (oc7 sh (.ref fa) (nI ft)), (oq fa cF 200 FA), (oc1 fe2 (rk f0) (wd f0) (tw f0) (pa f0) (pb f0) (.ref lo2) (.ref lk2) fm2), (oc4 lk2 (kd f0) (st f0) (.ref r2) (gb f0) (it f0) we2), (oc6 r2 (.ref rx2) (.ref ry2) (nI (nN (mn f0))) rg2), (oa rx2 cI cap2 U2), (oa ry2 cI cap2 V2)] ++ va_pl T_1 f) := hD
    refine lv_aload_n hx hb dX10_told_0 rfl (lv_at hl 0 rfl) ?_
    refine va_get (D := (dC, dI)) (ci := 8) (v := .ref sh) (C := RX10) (T := TX10) (N := 13) hx hb hts inX10 hown hK hP 0 rfl rfl 0 (by decide) (hts _ mw_309) (fun _ h9 => h9) rfl dX10_told_1 ?_
    refine lv_iload_n hx hb dX10_told_4 rfl (lv_at hl 1 rfl) ?_
    have hPc := hP.sub (ws' := [(oc7 sh (.ref fa) (nI ft)), (oq fa cF 200 FA)]) [1, 2] rfl
    have hDc := hD.sub (ws' := [(oc7 sh (.ref fa) (nI ft)), (oq fa cF 200 FA)]) [1, 2] (by decide) rfl
    have hFc := va_free (wc := [(oc7 sh (.ref fa) (nI ft)), (oq fa cF 200 FA)]) hD hS hA [1, 2] rfl
    refine zcall (st1 := [.ref fe2]) (va_runV (As := [.int (nI f0)]) (rest := []) ⟨hx, hb, hml, hown, hts⟩ (k_Sheet_find l dC dI cI cZ cF s.heap.size sh fa ft FA f0 fe2 (by omega) (by omega) (hFA2)) (cwV 1 hts (zz_gV mw_498 mw_499 mw_500 mw_100 mc_yX8_find) rfl rfl rfl (by decide +kernel) ⟨Nat.le_of_ble_eq_true rfl, Nat.le_of_ble_eq_true rfl⟩) (zPV2 (q0 := 0) (ci := 7) hPc hDc hK hXN rfl rfl) rfl rfl hl.1 rfl (lv_room (Nat.le_of_ble_eq_true rfl)) dX10_told_5 ⟨Nat.le_of_ble_eq_true rfl, Nat.le_of_ble_eq_true rfl⟩) hS hFc hFc rfl (fun t H1 locs ht hB hk1 hS => ?_)
    obtain ⟨hP1, hD1⟩ := hB
    rw [ht] at hP1
    obtain ⟨hP, hD⟩ := va_joinQ (wr := [(oc8 x (.ref sh) (.ref lw) (.ref ro) (.ref bq) (.ref bp) (.ref dq) (.ref dp) (.ref lv) (.ref sl) ds sd ul su), (oc1 fe2 (rk f0) (wd f0) (tw f0) (pa f0) (pb f0) (.ref lo2) (.ref lk2) fm2), (oc4 lk2 (kd f0) (st f0) (.ref r2) (gb f0) (it f0) we2), (oc6 r2 (.ref rx2) (.ref ry2) (nI (nN (mn f0))) rg2), (oa rx2 cI cap2 U2), (oa ry2 cI cap2 V2)]) (w1 := [(oc7 sh (.ref fa) (nI ft)), (oq fa cF 200 FA)]) hP hD [1, 2] [0, 3, 4, 5, 6, 7] rfl rfl (by decide) (by decide) hk1 hFc hP1 hD1
    clear hk1 hPc hDc hFc hP1 hD1 ht
    generalize H1 = H at hP hS ⊢
    have hP := hP.part (cx := [(oc8 x (.ref sh) (.ref lw) (.ref ro) (.ref bq) (.ref bp) (.ref dq) (.ref dp) (.ref lv) (.ref sl) ds sd ul su), (oc7 sh (.ref fa) (nI ft)), (oq fa cF 200 FA), (oc1 fe2 (rk f0) (wd f0) (tw f0) (pa f0) (pb f0) (.ref lo2) (.ref lk2) fm2), (oc4 lk2 (kd f0) (st f0) (.ref r2) (gb f0) (it f0) we2), (oc6 r2 (.ref rx2) (.ref ry2) (nI (nN (mn f0))) rg2), (oa rx2 cI cap2 U2), (oa ry2 cI cap2 V2)]) [0, 6, 7, 1, 2, 3, 4, 5] rfl
    have hD := hD.part (cx := [(oc8 x (.ref sh) (.ref lw) (.ref ro) (.ref bq) (.ref bp) (.ref dq) (.ref dp) (.ref lv) (.ref sl) ds sd ul su), (oc7 sh (.ref fa) (nI ft)), (oq fa cF 200 FA), (oc1 fe2 (rk f0) (wd f0) (tw f0) (pa f0) (pb f0) (.ref lo2) (.ref lk2) fm2), (oc4 lk2 (kd f0) (st f0) (.ref r2) (gb f0) (it f0) we2), (oc6 r2 (.ref rx2) (.ref ry2) (nI (nN (mn f0))) rg2), (oa rx2 cI cap2 U2), (oa ry2 cI cap2 V2)]) [0, 6, 7, 1, 2, 3, 4, 5] (by decide) rfl
    have hP : va_P (dC, dI) classes ([(oc8 x (.ref sh) (.ref lw) (.ref ro) (.ref bq) (.ref bp) (.ref dq) (.ref dp) (.ref lv) (.ref sl) ds sd ul su), (oc7 sh (.ref fa) (nI ft)), (oq fa cF 200 FA), (oc1 fe2 (rk f0) (wd f0) (tw f0) (pa f0) (pb f0) (.ref lo2) (.ref lk2) fm2), (oc4 lk2 (kd f0) (st f0) (.ref r2) (gb f0) (it f0) we2), (oc6 r2 (.ref rx2) (.ref ry2) (nI (nN (mn f0))) rg2), (oa rx2 cI cap2 U2), (oa ry2 cI cap2 V2)] ++ va_pl T_1 f) H := hP
    have hD : va_D A ([(oc8 x (.ref sh) (.ref lw) (.ref ro) (.ref bq) (.ref bp) (.ref dq) (.ref dp) (.ref lv) (.ref sl) ds sd ul su), (oc7 sh (.ref fa) (nI ft)), (oq fa cF 200 FA), (oc1 fe2 (rk f0) (wd f0) (tw f0) (pa f0) (pb f0) (.ref lo2) (.ref lk2) fm2), (oc4 lk2 (kd f0) (st f0) (.ref r2) (gb f0) (it f0) we2), (oc6 r2 (.ref rx2) (.ref ry2) (nI (nN (mn f0))) rg2), (oa rx2 cI cap2 U2), (oa ry2 cI cap2 V2)] ++ va_pl T_1 f) := hD
    refine lv_astore_n (lv' := [(3, .ref fe2), (0, .ref x), (1, .int (nI f0)), (2, .int 9)]) hx hb dX10_told_8 rfl hl (by decide) rfl (fun ls hl => ?_)
    refine lv_aload_n hx hb dX10_told_9 rfl (lv_at hl 0 rfl) ?_
    refine lv_ifnonnull (tgt := 15) hx hb dX10_told_10 (by decide) ?_
    refine lv_iload_n hx hb dX10_told_15 rfl (lv_at hl 3 rfl) ?_
    refine lv_tableIn (tgt := 161) (off := 145) hx hb dX10_told_16 (by decide) (by decide) (by decide) (by decide) ?_
    refine lv_aload_n hx hb dX10_told_161 rfl (lv_at hl 0 rfl) ?_
    refine va_get (D := (dC, dI)) (ci := 1) (v := .int (pb f0)) (C := RX2) (T := TX2) (N := 8) hx hb hts inX2 hown hK hP 3 rfl rfl 4 (by decide) (hts _ mw_425) (fun _ h9 => h9) rfl dX10_told_162 ?_
    have hP := pl_back (cs := [(oc1 fe2 (rk f0) (wd f0) (tw f0) (pa f0) (pb f0) (.ref lo2) (.ref lk2) fm2), (oc4 lk2 (kd f0) (st f0) (.ref r2) (gb f0) (it f0) we2), (oc6 r2 (.ref rx2) (.ref ry2) (nI (nN (mn f0))) rg2), (oa rx2 cI cap2 U2), (oa ry2 cI cap2 V2)]) (L := L) (f := f) (X := [(oc8 x (.ref sh) (.ref lw) (.ref ro) (.ref bq) (.ref bp) (.ref dq) (.ref dp) (.ref lv) (.ref sl) ds sd ul su), (oc7 sh (.ref fa) (nI ft)), (oq fa cF 200 FA)]) (by rw [hT_1]; exact (show va_P (dC, dI) classes (([(oc8 x (.ref sh) (.ref lw) (.ref ro) (.ref bq) (.ref bp) (.ref dq) (.ref dp) (.ref lv) (.ref sl) ds sd ul su), (oc7 sh (.ref fa) (nI ft)), (oq fa cF 200 FA)] ++ [(oc1 fe2 (rk f0) (wd f0) (tw f0) (pa f0) (pb f0) (.ref lo2) (.ref lk2) fm2), (oc4 lk2 (kd f0) (st f0) (.ref r2) (gb f0) (it f0) we2), (oc6 r2 (.ref rx2) (.ref ry2) (nI (nN (mn f0))) rg2), (oa rx2 cI cap2 U2), (oa ry2 cI cap2 V2)]) ++ va_pl T_1 f) H from hP)) hc9_1
    have hD : va_D A ([(oc8 x (.ref sh) (.ref lw) (.ref ro) (.ref bq) (.ref bp) (.ref dq) (.ref dp) (.ref lv) (.ref sl) ds sd ul su), (oc7 sh (.ref fa) (nI ft)), (oq fa cF 200 FA)] ++ va_pl L f) := vaD_ae hD0_1 rfl
    have hP9 := hP.part (cx := [(oc8 x (.ref sh) (.ref lw) (.ref ro) (.ref bq) (.ref bp) (.ref dq) (.ref dp) (.ref lv) (.ref sl) ds sd ul su), (oc7 sh (.ref fa) (nI ft)), (oq fa cF 200 FA)]) [0, 1, 2] rfl
    have hD9 := hD.part (cx := [(oc8 x (.ref sh) (.ref lw) (.ref ro) (.ref bq) (.ref bp) (.ref dq) (.ref dp) (.ref lv) (.ref sl) ds sd ul su), (oc7 sh (.ref fa) (nI ft)), (oq fa cF 200 FA)]) [0, 1, 2] (by decide) rfl
    rw [hQ9]
    exact W.iret (v := pb f0) hx hb hr (fun t ht hW => ⟨⟨rfl, by rw [ht]; exact hP9, hD9⟩, hS.F ht⟩) hS.2.2 dX10_told_165
set_option maxHeartbeats 4000000 in
set_option maxRecDepth 100000 in
theorem k_told_10 (l : Launch) (dC : Nat → ClassId) (dI : Nat → Nat → Nat) (cI cZ cF : ClassId) (sz : Nat) (x : Nat) (sh : Nat) (lw : Nat) (ro : Nat) (bq : Nat) (bp : Nat) (dq : Nat) (dp : Nat) (lv : Nat) (sl : Nat) (sd : Int32) (ul : Int32) (su : Int32) (ds : Int32) (fa : Nat) (ft : Nat) (FA : Nat → Option Nat) (f0 : Nat) (L : List Nat) (f : Nat → va_E) (kd : Nat → Int32) (st : Nat → Int32) (tn : Nat → Int32) (mn : Nat → Int32) (cx : Nat → Int32) (cy : Nat → Int32) (rk : Nat → Int32) (wd : Nat → Int32) (tw : Nat → Int32) (pa : Nat → Int32) (pb : Nat → Int32) (gb : Nat → Int32) (it : Nat → Int32) (h200 : ft ≤ 200) (hf0 : f0 < ft) (hva : ∀ q, q < ft → vwA cI L f FA rk wd tw pa pb kd st gb it tn mn cx cy q) : Met l yX10_told (.code yX10_told cX10_told 4 (some .int) :: ws0) ({ frames := 1, cells := 0, slots := 0, locals := 21 } : Room) (va_Pc [.ref x, .int (nI f0), .int 10] (zPre (dC, dI) classes (zTy cI cZ cF) ([(oc8 x (.ref sh) (.ref lw) (.ref ro) (.ref bq) (.ref bp) (.ref dq) (.ref dp) (.ref lv) (.ref sl) ds sd ul su), (oc7 sh (.ref fa) (nI ft)), (oq fa cF 200 FA)] ++ va_pl L f) sz zXN)) (zQ (some (.int (it f0))) (fun t => va_P (dC, dI) classes ([(oc8 x (.ref sh) (.ref lw) (.ref ro) (.ref bq) (.ref bp) (.ref dq) (.ref dp) (.ref lv) (.ref sl) ds sd ul su), (oc7 sh (.ref fa) (nI ft)), (oq fa cF 200 FA)] ++ va_pl L f) t.heap ∧ va_D (va_A ([(oc8 x (.ref sh) (.ref lw) (.ref ro) (.ref bq) (.ref bp) (.ref dq) (.ref dp) (.ref lv) (.ref sl) ds sd ul su), (oc7 sh (.ref fa) (nI ft)), (oq fa cF 200 FA)] ++ va_pl L f) sz) ([(oc8 x (.ref sh) (.ref lw) (.ref ro) (.ref bq) (.ref bp) (.ref dq) (.ref dp) (.ref lv) (.ref sl) ds sd ul su), (oc7 sh (.ref fa) (nI ft)), (oq fa cF 200 FA)] ++ va_pl L f)) (va_A ([(oc8 x (.ref sh) (.ref lw) (.ref ro) (.ref bq) (.ref bp) (.ref dq) (.ref dp) (.ref lv) (.ref sl) ds sd ul su), (oc7 sh (.ref fa) (nI ft)), (oq fa cF 200 FA)] ++ va_pl L f) sz)) 0 0 (va_A ([(oc8 x (.ref sh) (.ref lw) (.ref ro) (.ref bq) (.ref bp) (.ref dq) (.ref dp) (.ref lv) (.ref sl) ds sd ul su), (oc7 sh (.ref fa) (nI ft)), (oq fa cF 200 FA)] ++ va_pl L f) sz) := by
  refine Met.ofW (cc := cX10_told) (maxL := 4) (ret := (some .int)) (by decide) rfl ?_
  intro p e s m args below meth c s₁ B hml hv
  obtain ⟨rfl, hsz, hP, hK, hD0, hXN⟩ := hv
  have hx := B.exec
  have hb := B.bytes
  have hr := B.returns
  have hts0 := atoms_spec (ws := .code yX10_told cX10_told 4 (some .int) :: ws0) B.pre
  have hts : ∀ w9 ∈ ws0, w9.before ([.ref x, .int (nI f0), .int 10] : List Value).toArray s = true := fun w9 h => hts0 w9 (List.mem_cons_of_mem _ h)
  have hown : s.vm.findClass "ScaleShop" = some m.cls := findClass_of_methodNamed B.named
  have hlocks := B.notSynchronized
  subst hsz
  have hD := hD0.self (sz := s.heap.size)
  clear hD0
  generalize hAe : va_A ([(oc8 x (.ref sh) (.ref lw) (.ref ro) (.ref bq) (.ref bp) (.ref dq) (.ref dp) (.ref lv) (.ref sl) ds sd ul su), (oc7 sh (.ref fa) (nI ft)), (oq fa cF 200 FA)] ++ va_pl L f) s.heap.size = A at hD ⊢
  have hA : ∀ q : Nat, s.heap.size ≤ q → A q := fun q h => by rw [← hAe]; exact Or.inr h
  clear hAe
  have hS : va_S A s.heap s.heap [] := va_S.rf
  have hP : va_P (dC, dI) classes ([(oc8 x (.ref sh) (.ref lw) (.ref ro) (.ref bq) (.ref bp) (.ref dq) (.ref dp) (.ref lv) (.ref sl) ds sd ul su), (oc7 sh (.ref fa) (nI ft)), (oq fa cF 200 FA)] ++ va_pl L f) s.heap := hP
  obtain ⟨Q9, hQ9⟩ : ∃ Q9 : State → Prop, Q9 = MQ below (zQ (some (.int (it f0))) (fun t => va_P (dC, dI) classes ([(oc8 x (.ref sh) (.ref lw) (.ref ro) (.ref bq) (.ref bp) (.ref dq) (.ref dp) (.ref lv) (.ref sl) ds sd ul su), (oc7 sh (.ref fa) (nI ft)), (oq fa cF 200 FA)] ++ va_pl L f) t.heap ∧ va_D A ([(oc8 x (.ref sh) (.ref lw) (.ref ro) (.ref bq) (.ref bp) (.ref dq) (.ref dp) (.ref lv) (.ref sl) ds sd ul su), (oc7 sh (.ref fa) (nI ft)), (oq fa cF 200 FA)] ++ va_pl L f)) A) ([.ref x, .int (nI f0), .int 10] : List Value).toArray s 0 0 A := ⟨_, rfl⟩
  rw [← hQ9]
  have hl := lv_entry ([.ref x, .int (nI f0), .int 10]) (n := 4) (Nat.le_of_ble_eq_true rfl)
  rw [lg_entry_eq]
  generalize (lg_sl ([.ref x, .int (nI f0), .int 10]) ++ List.replicate (4 - (lg_sl ([.ref x, .int (nI f0), .int 10])).length) Slot.unset).toArray = ls at hl ⊢
  have hl : lv_has ls 4 [(0, .ref x), (1, .int (nI f0)), (2, .int 10)] := hl
  rcases vwA_2 (hva f0 (by omega)) with ⟨ht2, fe2, lk2, lo2, we2, fm2, hFA2, hfe2, hlk2⟩ | ⟨ht2, fe2, lk2, lo2, we2, fm2, r2, rx2, ry2, cap2, U2, V2, rg2, hFA2, hfe2, hlk2, ⟨hr2, hrx2, hry2, hne2⟩, hrr2⟩
  · skip
    have hc9_1 : inPl L f [(oc1 fe2 (rk f0) (wd f0) (tw f0) (pa f0) (pb f0) (.ref lo2) (.ref lk2) fm2), (oc4 lk2 (kd f0) (st f0) .null (gb f0) (it f0) we2)] := ⟨hfe2, hlk2, trivial⟩
    have hD0_1 := hD
    obtain ⟨hP, hD⟩ := pl_out hP hD [(oc1 fe2 (rk f0) (wd f0) (tw f0) (pa f0) (pb f0) (.ref lo2) (.ref lk2) fm2), (oc4 lk2 (kd f0) (st f0) .null (gb f0) (it f0) we2)] hc9_1 (pwF hfe2.2 hlk2.2)
    generalize hT_1 : outPl L [(oc1 fe2 (rk f0) (wd f0) (tw f0) (pa f0) (pb f0) (.ref lo2) (.ref lk2) fm2), (oc4 lk2 (kd f0) (st f0) .null (gb f0) (it f0) we2)] = T_1 at hP hD
    have hP : va_P (dC, dI) classes ([(oc8 x (.ref sh) (.ref lw) (.ref ro) (.ref bq) (.ref bp) (.ref dq) (.ref dp) (.ref lv) (.ref sl) ds sd ul su), (oc7 sh (.ref fa) (nI ft)), (oq fa cF 200 FA), (oc1 fe2 (rk f0) (wd f0) (tw f0) (pa f0) (pb f0) (.ref lo2) (.ref lk2) fm2), (oc4 lk2 (kd f0) (st f0) .null (gb f0) (it f0) we2)] ++ va_pl T_1 f) s.heap := hP
    have hD : va_D A ([(oc8 x (.ref sh) (.ref lw) (.ref ro) (.ref bq) (.ref bp) (.ref dq) (.ref dp) (.ref lv) (.ref sl) ds sd ul su), (oc7 sh (.ref fa) (nI ft)), (oq fa cF 200 FA), (oc1 fe2 (rk f0) (wd f0) (tw f0) (pa f0) (pb f0) (.ref lo2) (.ref lk2) fm2), (oc4 lk2 (kd f0) (st f0) .null (gb f0) (it f0) we2)] ++ va_pl T_1 f) := hD
    refine lv_aload_n hx hb dX10_told_0 rfl (lv_at hl 0 rfl) ?_
    refine va_get (D := (dC, dI)) (ci := 8) (v := .ref sh) (C := RX10) (T := TX10) (N := 13) hx hb hts inX10 hown hK hP 0 rfl rfl 0 (by decide) (hts _ mw_309) (fun _ h9 => h9) rfl dX10_told_1 ?_
    refine lv_iload_n hx hb dX10_told_4 rfl (lv_at hl 1 rfl) ?_
    have hPc := hP.sub (ws' := [(oc7 sh (.ref fa) (nI ft)), (oq fa cF 200 FA)]) [1, 2] rfl
    have hDc := hD.sub (ws' := [(oc7 sh (.ref fa) (nI ft)), (oq fa cF 200 FA)]) [1, 2] (by decide) rfl
    have hFc := va_free (wc := [(oc7 sh (.ref fa) (nI ft)), (oq fa cF 200 FA)]) hD hS hA [1, 2] rfl
    refine zcall (st1 := [.ref fe2]) (va_runV (As := [.int (nI f0)]) (rest := []) ⟨hx, hb, hml, hown, hts⟩ (k_Sheet_find l dC dI cI cZ cF s.heap.size sh fa ft FA f0 fe2 (by omega) (by omega) (hFA2)) (cwV 1 hts (zz_gV mw_498 mw_499 mw_500 mw_100 mc_yX8_find) rfl rfl rfl (by decide +kernel) ⟨Nat.le_of_ble_eq_true rfl, Nat.le_of_ble_eq_true rfl⟩) (zPV2 (q0 := 0) (ci := 7) hPc hDc hK hXN rfl rfl) rfl rfl hl.1 rfl (lv_room (Nat.le_of_ble_eq_true rfl)) dX10_told_5 ⟨Nat.le_of_ble_eq_true rfl, Nat.le_of_ble_eq_true rfl⟩) hS hFc hFc rfl (fun t H1 locs ht hB hk1 hS => ?_)
    obtain ⟨hP1, hD1⟩ := hB
    rw [ht] at hP1
    obtain ⟨hP, hD⟩ := va_joinQ (wr := [(oc8 x (.ref sh) (.ref lw) (.ref ro) (.ref bq) (.ref bp) (.ref dq) (.ref dp) (.ref lv) (.ref sl) ds sd ul su), (oc1 fe2 (rk f0) (wd f0) (tw f0) (pa f0) (pb f0) (.ref lo2) (.ref lk2) fm2), (oc4 lk2 (kd f0) (st f0) .null (gb f0) (it f0) we2)]) (w1 := [(oc7 sh (.ref fa) (nI ft)), (oq fa cF 200 FA)]) hP hD [1, 2] [0, 3, 4] rfl rfl (by decide) (by decide) hk1 hFc hP1 hD1
    clear hk1 hPc hDc hFc hP1 hD1 ht
    generalize H1 = H at hP hS ⊢
    have hP := hP.part (cx := [(oc8 x (.ref sh) (.ref lw) (.ref ro) (.ref bq) (.ref bp) (.ref dq) (.ref dp) (.ref lv) (.ref sl) ds sd ul su), (oc7 sh (.ref fa) (nI ft)), (oq fa cF 200 FA), (oc1 fe2 (rk f0) (wd f0) (tw f0) (pa f0) (pb f0) (.ref lo2) (.ref lk2) fm2), (oc4 lk2 (kd f0) (st f0) .null (gb f0) (it f0) we2)]) [0, 3, 4, 1, 2] rfl
    have hD := hD.part (cx := [(oc8 x (.ref sh) (.ref lw) (.ref ro) (.ref bq) (.ref bp) (.ref dq) (.ref dp) (.ref lv) (.ref sl) ds sd ul su), (oc7 sh (.ref fa) (nI ft)), (oq fa cF 200 FA), (oc1 fe2 (rk f0) (wd f0) (tw f0) (pa f0) (pb f0) (.ref lo2) (.ref lk2) fm2), (oc4 lk2 (kd f0) (st f0) .null (gb f0) (it f0) we2)]) [0, 3, 4, 1, 2] (by decide) rfl
    have hP : va_P (dC, dI) classes ([(oc8 x (.ref sh) (.ref lw) (.ref ro) (.ref bq) (.ref bp) (.ref dq) (.ref dp) (.ref lv) (.ref sl) ds sd ul su), (oc7 sh (.ref fa) (nI ft)), (oq fa cF 200 FA), (oc1 fe2 (rk f0) (wd f0) (tw f0) (pa f0) (pb f0) (.ref lo2) (.ref lk2) fm2), (oc4 lk2 (kd f0) (st f0) .null (gb f0) (it f0) we2)] ++ va_pl T_1 f) H := hP
    have hD : va_D A ([(oc8 x (.ref sh) (.ref lw) (.ref ro) (.ref bq) (.ref bp) (.ref dq) (.ref dp) (.ref lv) (.ref sl) ds sd ul su), (oc7 sh (.ref fa) (nI ft)), (oq fa cF 200 FA), (oc1 fe2 (rk f0) (wd f0) (tw f0) (pa f0) (pb f0) (.ref lo2) (.ref lk2) fm2), (oc4 lk2 (kd f0) (st f0) .null (gb f0) (it f0) we2)] ++ va_pl T_1 f) := hD
    refine lv_astore_n (lv' := [(3, .ref fe2), (0, .ref x), (1, .int (nI f0)), (2, .int 10)]) hx hb dX10_told_8 rfl hl (by decide) rfl (fun ls hl => ?_)
    refine lv_aload_n hx hb dX10_told_9 rfl (lv_at hl 0 rfl) ?_
    refine lv_ifnonnull (tgt := 15) hx hb dX10_told_10 (by decide) ?_
    refine lv_iload_n hx hb dX10_told_15 rfl (lv_at hl 3 rfl) ?_
    refine lv_tableIn (tgt := 166) (off := 150) hx hb dX10_told_16 (by decide) (by decide) (by decide) (by decide) ?_
    refine lv_aload_n hx hb dX10_told_166 rfl (lv_at hl 0 rfl) ?_
    refine va_get (D := (dC, dI)) (ci := 1) (v := .ref lk2) (C := RX2) (T := TX2) (N := 8) hx hb hts inX2 hown hK hP 3 rfl rfl 6 (by decide) (hts _ mw_433) (fun _ h9 => h9) rfl dX10_told_167 ?_
    refine va_get (D := (dC, dI)) (ci := 4) (v := .int (it f0)) (C := RX5) (T := TX5) (N := 6) hx hb hts inX5 hown hK hP 4 rfl rfl 4 (by decide) (hts _ mw_398) (fun _ h9 => h9) rfl dX10_told_170 ?_
    have hP := pl_back (cs := [(oc1 fe2 (rk f0) (wd f0) (tw f0) (pa f0) (pb f0) (.ref lo2) (.ref lk2) fm2), (oc4 lk2 (kd f0) (st f0) .null (gb f0) (it f0) we2)]) (L := L) (f := f) (X := [(oc8 x (.ref sh) (.ref lw) (.ref ro) (.ref bq) (.ref bp) (.ref dq) (.ref dp) (.ref lv) (.ref sl) ds sd ul su), (oc7 sh (.ref fa) (nI ft)), (oq fa cF 200 FA)]) (by rw [hT_1]; exact (show va_P (dC, dI) classes (([(oc8 x (.ref sh) (.ref lw) (.ref ro) (.ref bq) (.ref bp) (.ref dq) (.ref dp) (.ref lv) (.ref sl) ds sd ul su), (oc7 sh (.ref fa) (nI ft)), (oq fa cF 200 FA)] ++ [(oc1 fe2 (rk f0) (wd f0) (tw f0) (pa f0) (pb f0) (.ref lo2) (.ref lk2) fm2), (oc4 lk2 (kd f0) (st f0) .null (gb f0) (it f0) we2)]) ++ va_pl T_1 f) H from hP)) hc9_1
    have hD : va_D A ([(oc8 x (.ref sh) (.ref lw) (.ref ro) (.ref bq) (.ref bp) (.ref dq) (.ref dp) (.ref lv) (.ref sl) ds sd ul su), (oc7 sh (.ref fa) (nI ft)), (oq fa cF 200 FA)] ++ va_pl L f) := vaD_ae hD0_1 rfl
    have hP9 := hP.part (cx := [(oc8 x (.ref sh) (.ref lw) (.ref ro) (.ref bq) (.ref bp) (.ref dq) (.ref dp) (.ref lv) (.ref sl) ds sd ul su), (oc7 sh (.ref fa) (nI ft)), (oq fa cF 200 FA)]) [0, 1, 2] rfl
    have hD9 := hD.part (cx := [(oc8 x (.ref sh) (.ref lw) (.ref ro) (.ref bq) (.ref bp) (.ref dq) (.ref dp) (.ref lv) (.ref sl) ds sd ul su), (oc7 sh (.ref fa) (nI ft)), (oq fa cF 200 FA)]) [0, 1, 2] (by decide) rfl
    rw [hQ9]
    exact W.iret (v := it f0) hx hb hr (fun t ht hW => ⟨⟨rfl, by rw [ht]; exact hP9, hD9⟩, hS.F ht⟩) hS.2.2 dX10_told_173
  · skip
    have hcap2 := hrr2.1
    have hcap3 := hrr2.2.1
    have hc9_1 : inPl L f [(oc1 fe2 (rk f0) (wd f0) (tw f0) (pa f0) (pb f0) (.ref lo2) (.ref lk2) fm2), (oc4 lk2 (kd f0) (st f0) (.ref r2) (gb f0) (it f0) we2), (oc6 r2 (.ref rx2) (.ref ry2) (nI (nN (mn f0))) rg2), (oa rx2 cI cap2 U2), (oa ry2 cI cap2 V2)] := ⟨hfe2, hlk2, hr2, hrx2, hry2, trivial⟩
    have hD0_1 := hD
    obtain ⟨hP, hD⟩ := pl_out hP hD [(oc1 fe2 (rk f0) (wd f0) (tw f0) (pa f0) (pb f0) (.ref lo2) (.ref lk2) fm2), (oc4 lk2 (kd f0) (st f0) (.ref r2) (gb f0) (it f0) we2), (oc6 r2 (.ref rx2) (.ref ry2) (nI (nN (mn f0))) rg2), (oa rx2 cI cap2 U2), (oa ry2 cI cap2 V2)] hc9_1 (pwR hfe2.2 hlk2.2 hr2.2 hrx2.2 hry2.2 hne2)
    generalize hT_1 : outPl L [(oc1 fe2 (rk f0) (wd f0) (tw f0) (pa f0) (pb f0) (.ref lo2) (.ref lk2) fm2), (oc4 lk2 (kd f0) (st f0) (.ref r2) (gb f0) (it f0) we2), (oc6 r2 (.ref rx2) (.ref ry2) (nI (nN (mn f0))) rg2), (oa rx2 cI cap2 U2), (oa ry2 cI cap2 V2)] = T_1 at hP hD
    have hP : va_P (dC, dI) classes ([(oc8 x (.ref sh) (.ref lw) (.ref ro) (.ref bq) (.ref bp) (.ref dq) (.ref dp) (.ref lv) (.ref sl) ds sd ul su), (oc7 sh (.ref fa) (nI ft)), (oq fa cF 200 FA), (oc1 fe2 (rk f0) (wd f0) (tw f0) (pa f0) (pb f0) (.ref lo2) (.ref lk2) fm2), (oc4 lk2 (kd f0) (st f0) (.ref r2) (gb f0) (it f0) we2), (oc6 r2 (.ref rx2) (.ref ry2) (nI (nN (mn f0))) rg2), (oa rx2 cI cap2 U2), (oa ry2 cI cap2 V2)] ++ va_pl T_1 f) s.heap := hP
    have hD : va_D A ([(oc8 x (.ref sh) (.ref lw) (.ref ro) (.ref bq) (.ref bp) (.ref dq) (.ref dp) (.ref lv) (.ref sl) ds sd ul su), (oc7 sh (.ref fa) (nI ft)), (oq fa cF 200 FA), (oc1 fe2 (rk f0) (wd f0) (tw f0) (pa f0) (pb f0) (.ref lo2) (.ref lk2) fm2), (oc4 lk2 (kd f0) (st f0) (.ref r2) (gb f0) (it f0) we2), (oc6 r2 (.ref rx2) (.ref ry2) (nI (nN (mn f0))) rg2), (oa rx2 cI cap2 U2), (oa ry2 cI cap2 V2)] ++ va_pl T_1 f) := hD
    refine lv_aload_n hx hb dX10_told_0 rfl (lv_at hl 0 rfl) ?_
    refine va_get (D := (dC, dI)) (ci := 8) (v := .ref sh) (C := RX10) (T := TX10) (N := 13) hx hb hts inX10 hown hK hP 0 rfl rfl 0 (by decide) (hts _ mw_309) (fun _ h9 => h9) rfl dX10_told_1 ?_
    refine lv_iload_n hx hb dX10_told_4 rfl (lv_at hl 1 rfl) ?_
    have hPc := hP.sub (ws' := [(oc7 sh (.ref fa) (nI ft)), (oq fa cF 200 FA)]) [1, 2] rfl
    have hDc := hD.sub (ws' := [(oc7 sh (.ref fa) (nI ft)), (oq fa cF 200 FA)]) [1, 2] (by decide) rfl
    have hFc := va_free (wc := [(oc7 sh (.ref fa) (nI ft)), (oq fa cF 200 FA)]) hD hS hA [1, 2] rfl
    refine zcall (st1 := [.ref fe2]) (va_runV (As := [.int (nI f0)]) (rest := []) ⟨hx, hb, hml, hown, hts⟩ (k_Sheet_find l dC dI cI cZ cF s.heap.size sh fa ft FA f0 fe2 (by omega) (by omega) (hFA2)) (cwV 1 hts (zz_gV mw_498 mw_499 mw_500 mw_100 mc_yX8_find) rfl rfl rfl (by decide +kernel) ⟨Nat.le_of_ble_eq_true rfl, Nat.le_of_ble_eq_true rfl⟩) (zPV2 (q0 := 0) (ci := 7) hPc hDc hK hXN rfl rfl) rfl rfl hl.1 rfl (lv_room (Nat.le_of_ble_eq_true rfl)) dX10_told_5 ⟨Nat.le_of_ble_eq_true rfl, Nat.le_of_ble_eq_true rfl⟩) hS hFc hFc rfl (fun t H1 locs ht hB hk1 hS => ?_)
    obtain ⟨hP1, hD1⟩ := hB
    rw [ht] at hP1
    obtain ⟨hP, hD⟩ := va_joinQ (wr := [(oc8 x (.ref sh) (.ref lw) (.ref ro) (.ref bq) (.ref bp) (.ref dq) (.ref dp) (.ref lv) (.ref sl) ds sd ul su), (oc1 fe2 (rk f0) (wd f0) (tw f0) (pa f0) (pb f0) (.ref lo2) (.ref lk2) fm2), (oc4 lk2 (kd f0) (st f0) (.ref r2) (gb f0) (it f0) we2), (oc6 r2 (.ref rx2) (.ref ry2) (nI (nN (mn f0))) rg2), (oa rx2 cI cap2 U2), (oa ry2 cI cap2 V2)]) (w1 := [(oc7 sh (.ref fa) (nI ft)), (oq fa cF 200 FA)]) hP hD [1, 2] [0, 3, 4, 5, 6, 7] rfl rfl (by decide) (by decide) hk1 hFc hP1 hD1
    clear hk1 hPc hDc hFc hP1 hD1 ht
    generalize H1 = H at hP hS ⊢
    have hP := hP.part (cx := [(oc8 x (.ref sh) (.ref lw) (.ref ro) (.ref bq) (.ref bp) (.ref dq) (.ref dp) (.ref lv) (.ref sl) ds sd ul su), (oc7 sh (.ref fa) (nI ft)), (oq fa cF 200 FA), (oc1 fe2 (rk f0) (wd f0) (tw f0) (pa f0) (pb f0) (.ref lo2) (.ref lk2) fm2), (oc4 lk2 (kd f0) (st f0) (.ref r2) (gb f0) (it f0) we2), (oc6 r2 (.ref rx2) (.ref ry2) (nI (nN (mn f0))) rg2), (oa rx2 cI cap2 U2), (oa ry2 cI cap2 V2)]) [0, 6, 7, 1, 2, 3, 4, 5] rfl
    have hD := hD.part (cx := [(oc8 x (.ref sh) (.ref lw) (.ref ro) (.ref bq) (.ref bp) (.ref dq) (.ref dp) (.ref lv) (.ref sl) ds sd ul su), (oc7 sh (.ref fa) (nI ft)), (oq fa cF 200 FA), (oc1 fe2 (rk f0) (wd f0) (tw f0) (pa f0) (pb f0) (.ref lo2) (.ref lk2) fm2), (oc4 lk2 (kd f0) (st f0) (.ref r2) (gb f0) (it f0) we2), (oc6 r2 (.ref rx2) (.ref ry2) (nI (nN (mn f0))) rg2), (oa rx2 cI cap2 U2), (oa ry2 cI cap2 V2)]) [0, 6, 7, 1, 2, 3, 4, 5] (by decide) rfl
    have hP : va_P (dC, dI) classes ([(oc8 x (.ref sh) (.ref lw) (.ref ro) (.ref bq) (.ref bp) (.ref dq) (.ref dp) (.ref lv) (.ref sl) ds sd ul su), (oc7 sh (.ref fa) (nI ft)), (oq fa cF 200 FA), (oc1 fe2 (rk f0) (wd f0) (tw f0) (pa f0) (pb f0) (.ref lo2) (.ref lk2) fm2), (oc4 lk2 (kd f0) (st f0) (.ref r2) (gb f0) (it f0) we2), (oc6 r2 (.ref rx2) (.ref ry2) (nI (nN (mn f0))) rg2), (oa rx2 cI cap2 U2), (oa ry2 cI cap2 V2)] ++ va_pl T_1 f) H := hP
    have hD : va_D A ([(oc8 x (.ref sh) (.ref lw) (.ref ro) (.ref bq) (.ref bp) (.ref dq) (.ref dp) (.ref lv) (.ref sl) ds sd ul su), (oc7 sh (.ref fa) (nI ft)), (oq fa cF 200 FA), (oc1 fe2 (rk f0) (wd f0) (tw f0) (pa f0) (pb f0) (.ref lo2) (.ref lk2) fm2), (oc4 lk2 (kd f0) (st f0) (.ref r2) (gb f0) (it f0) we2), (oc6 r2 (.ref rx2) (.ref ry2) (nI (nN (mn f0))) rg2), (oa rx2 cI cap2 U2), (oa ry2 cI cap2 V2)] ++ va_pl T_1 f) := hD
    refine lv_astore_n (lv' := [(3, .ref fe2), (0, .ref x), (1, .int (nI f0)), (2, .int 10)]) hx hb dX10_told_8 rfl hl (by decide) rfl (fun ls hl => ?_)
    refine lv_aload_n hx hb dX10_told_9 rfl (lv_at hl 0 rfl) ?_
    refine lv_ifnonnull (tgt := 15) hx hb dX10_told_10 (by decide) ?_
    refine lv_iload_n hx hb dX10_told_15 rfl (lv_at hl 3 rfl) ?_
    refine lv_tableIn (tgt := 166) (off := 150) hx hb dX10_told_16 (by decide) (by decide) (by decide) (by decide) ?_
    refine lv_aload_n hx hb dX10_told_166 rfl (lv_at hl 0 rfl) ?_
    refine va_get (D := (dC, dI)) (ci := 1) (v := .ref lk2) (C := RX2) (T := TX2) (N := 8) hx hb hts inX2 hown hK hP 3 rfl rfl 6 (by decide) (hts _ mw_433) (fun _ h9 => h9) rfl dX10_told_167 ?_
    refine va_get (D := (dC, dI)) (ci := 4) (v := .int (it f0)) (C := RX5) (T := TX5) (N := 6) hx hb hts inX5 hown hK hP 4 rfl rfl 4 (by decide) (hts _ mw_398) (fun _ h9 => h9) rfl dX10_told_170 ?_
    have hP := pl_back (cs := [(oc1 fe2 (rk f0) (wd f0) (tw f0) (pa f0) (pb f0) (.ref lo2) (.ref lk2) fm2), (oc4 lk2 (kd f0) (st f0) (.ref r2) (gb f0) (it f0) we2), (oc6 r2 (.ref rx2) (.ref ry2) (nI (nN (mn f0))) rg2), (oa rx2 cI cap2 U2), (oa ry2 cI cap2 V2)]) (L := L) (f := f) (X := [(oc8 x (.ref sh) (.ref lw) (.ref ro) (.ref bq) (.ref bp) (.ref dq) (.ref dp) (.ref lv) (.ref sl) ds sd ul su), (oc7 sh (.ref fa) (nI ft)), (oq fa cF 200 FA)]) (by rw [hT_1]; exact (show va_P (dC, dI) classes (([(oc8 x (.ref sh) (.ref lw) (.ref ro) (.ref bq) (.ref bp) (.ref dq) (.ref dp) (.ref lv) (.ref sl) ds sd ul su), (oc7 sh (.ref fa) (nI ft)), (oq fa cF 200 FA)] ++ [(oc1 fe2 (rk f0) (wd f0) (tw f0) (pa f0) (pb f0) (.ref lo2) (.ref lk2) fm2), (oc4 lk2 (kd f0) (st f0) (.ref r2) (gb f0) (it f0) we2), (oc6 r2 (.ref rx2) (.ref ry2) (nI (nN (mn f0))) rg2), (oa rx2 cI cap2 U2), (oa ry2 cI cap2 V2)]) ++ va_pl T_1 f) H from hP)) hc9_1
    have hD : va_D A ([(oc8 x (.ref sh) (.ref lw) (.ref ro) (.ref bq) (.ref bp) (.ref dq) (.ref dp) (.ref lv) (.ref sl) ds sd ul su), (oc7 sh (.ref fa) (nI ft)), (oq fa cF 200 FA)] ++ va_pl L f) := vaD_ae hD0_1 rfl
    have hP9 := hP.part (cx := [(oc8 x (.ref sh) (.ref lw) (.ref ro) (.ref bq) (.ref bp) (.ref dq) (.ref dp) (.ref lv) (.ref sl) ds sd ul su), (oc7 sh (.ref fa) (nI ft)), (oq fa cF 200 FA)]) [0, 1, 2] rfl
    have hD9 := hD.part (cx := [(oc8 x (.ref sh) (.ref lw) (.ref ro) (.ref bq) (.ref bp) (.ref dq) (.ref dp) (.ref lv) (.ref sl) ds sd ul su), (oc7 sh (.ref fa) (nI ft)), (oq fa cF 200 FA)]) [0, 1, 2] (by decide) rfl
    rw [hQ9]
    exact W.iret (v := it f0) hx hb hr (fun t ht hW => ⟨⟨rfl, by rw [ht]; exact hP9, hD9⟩, hS.F ht⟩) hS.2.2 dX10_told_173
set_option maxHeartbeats 4000000 in
set_option maxRecDepth 100000 in
theorem k_told_d (l : Launch) (dC : Nat → ClassId) (dI : Nat → Nat → Nat) (cI cZ cF : ClassId) (sz : Nat) (x : Nat) (sh : Nat) (lw : Nat) (ro : Nat) (bq : Nat) (bp : Nat) (dq : Nat) (dp : Nat) (lv : Nat) (sl : Nat) (sd : Int32) (ul : Int32) (su : Int32) (ds : Int32) (fa : Nat) (ft : Nat) (FA : Nat → Option Nat) (f0 : Nat) (L : List Nat) (f : Nat → va_E) (kd : Nat → Int32) (st : Nat → Int32) (tn : Nat → Int32) (mn : Nat → Int32) (cx : Nat → Int32) (cy : Nat → Int32) (rk : Nat → Int32) (wd : Nat → Int32) (tw : Nat → Int32) (pa : Nat → Int32) (pb : Nat → Int32) (gb : Nat → Int32) (it : Nat → Int32) (w : Int32) (h200 : ft ≤ 200) (hf0 : f0 < ft) (hva : ∀ q, q < ft → vwA cI L f FA rk wd tw pa pb kd st gb it tn mn cx cy q) (hw9 : w.toInt < 0 ∨ 10 < w.toInt) : Met l yX10_told (.code yX10_told cX10_told 4 (some .int) :: ws0) ({ frames := 1, cells := 0, slots := 0, locals := 21 } : Room) (va_Pc [.ref x, .int (nI f0), .int w] (zPre (dC, dI) classes (zTy cI cZ cF) ([(oc8 x (.ref sh) (.ref lw) (.ref ro) (.ref bq) (.ref bp) (.ref dq) (.ref dp) (.ref lv) (.ref sl) ds sd ul su), (oc7 sh (.ref fa) (nI ft)), (oq fa cF 200 FA)] ++ va_pl L f) sz zXN)) (zQ (some (.int (-1))) (fun t => va_P (dC, dI) classes ([(oc8 x (.ref sh) (.ref lw) (.ref ro) (.ref bq) (.ref bp) (.ref dq) (.ref dp) (.ref lv) (.ref sl) ds sd ul su), (oc7 sh (.ref fa) (nI ft)), (oq fa cF 200 FA)] ++ va_pl L f) t.heap ∧ va_D (va_A ([(oc8 x (.ref sh) (.ref lw) (.ref ro) (.ref bq) (.ref bp) (.ref dq) (.ref dp) (.ref lv) (.ref sl) ds sd ul su), (oc7 sh (.ref fa) (nI ft)), (oq fa cF 200 FA)] ++ va_pl L f) sz) ([(oc8 x (.ref sh) (.ref lw) (.ref ro) (.ref bq) (.ref bp) (.ref dq) (.ref dp) (.ref lv) (.ref sl) ds sd ul su), (oc7 sh (.ref fa) (nI ft)), (oq fa cF 200 FA)] ++ va_pl L f)) (va_A ([(oc8 x (.ref sh) (.ref lw) (.ref ro) (.ref bq) (.ref bp) (.ref dq) (.ref dp) (.ref lv) (.ref sl) ds sd ul su), (oc7 sh (.ref fa) (nI ft)), (oq fa cF 200 FA)] ++ va_pl L f) sz)) 0 0 (va_A ([(oc8 x (.ref sh) (.ref lw) (.ref ro) (.ref bq) (.ref bp) (.ref dq) (.ref dp) (.ref lv) (.ref sl) ds sd ul su), (oc7 sh (.ref fa) (nI ft)), (oq fa cF 200 FA)] ++ va_pl L f) sz) := by
  refine Met.ofW (cc := cX10_told) (maxL := 4) (ret := (some .int)) (by decide) rfl ?_
  intro p e s m args below meth c s₁ B hml hv
  obtain ⟨rfl, hsz, hP, hK, hD0, hXN⟩ := hv
  have hx := B.exec
  have hb := B.bytes
  have hr := B.returns
  have hts0 := atoms_spec (ws := .code yX10_told cX10_told 4 (some .int) :: ws0) B.pre
  have hts : ∀ w9 ∈ ws0, w9.before ([.ref x, .int (nI f0), .int w] : List Value).toArray s = true := fun w9 h => hts0 w9 (List.mem_cons_of_mem _ h)
  have hown : s.vm.findClass "ScaleShop" = some m.cls := findClass_of_methodNamed B.named
  have hlocks := B.notSynchronized
  subst hsz
  have hD := hD0.self (sz := s.heap.size)
  clear hD0
  generalize hAe : va_A ([(oc8 x (.ref sh) (.ref lw) (.ref ro) (.ref bq) (.ref bp) (.ref dq) (.ref dp) (.ref lv) (.ref sl) ds sd ul su), (oc7 sh (.ref fa) (nI ft)), (oq fa cF 200 FA)] ++ va_pl L f) s.heap.size = A at hD ⊢
  have hA : ∀ q : Nat, s.heap.size ≤ q → A q := fun q h => by rw [← hAe]; exact Or.inr h
  clear hAe
  have hS : va_S A s.heap s.heap [] := va_S.rf
  have hP : va_P (dC, dI) classes ([(oc8 x (.ref sh) (.ref lw) (.ref ro) (.ref bq) (.ref bp) (.ref dq) (.ref dp) (.ref lv) (.ref sl) ds sd ul su), (oc7 sh (.ref fa) (nI ft)), (oq fa cF 200 FA)] ++ va_pl L f) s.heap := hP
  obtain ⟨Q9, hQ9⟩ : ∃ Q9 : State → Prop, Q9 = MQ below (zQ (some (.int (-1))) (fun t => va_P (dC, dI) classes ([(oc8 x (.ref sh) (.ref lw) (.ref ro) (.ref bq) (.ref bp) (.ref dq) (.ref dp) (.ref lv) (.ref sl) ds sd ul su), (oc7 sh (.ref fa) (nI ft)), (oq fa cF 200 FA)] ++ va_pl L f) t.heap ∧ va_D A ([(oc8 x (.ref sh) (.ref lw) (.ref ro) (.ref bq) (.ref bp) (.ref dq) (.ref dp) (.ref lv) (.ref sl) ds sd ul su), (oc7 sh (.ref fa) (nI ft)), (oq fa cF 200 FA)] ++ va_pl L f)) A) ([.ref x, .int (nI f0), .int w] : List Value).toArray s 0 0 A := ⟨_, rfl⟩
  rw [← hQ9]
  have hl := lv_entry ([.ref x, .int (nI f0), .int w]) (n := 4) (Nat.le_of_ble_eq_true rfl)
  rw [lg_entry_eq]
  generalize (lg_sl ([.ref x, .int (nI f0), .int w]) ++ List.replicate (4 - (lg_sl ([.ref x, .int (nI f0), .int w])).length) Slot.unset).toArray = ls at hl ⊢
  have hl : lv_has ls 4 [(0, .ref x), (1, .int (nI f0)), (2, .int w)] := hl
  rcases vwA_2 (hva f0 (by omega)) with ⟨ht2, fe2, lk2, lo2, we2, fm2, hFA2, hfe2, hlk2⟩ | ⟨ht2, fe2, lk2, lo2, we2, fm2, r2, rx2, ry2, cap2, U2, V2, rg2, hFA2, hfe2, hlk2, ⟨hr2, hrx2, hry2, hne2⟩, hrr2⟩
  · skip
    have hc9_1 : inPl L f [(oc1 fe2 (rk f0) (wd f0) (tw f0) (pa f0) (pb f0) (.ref lo2) (.ref lk2) fm2), (oc4 lk2 (kd f0) (st f0) .null (gb f0) (it f0) we2)] := ⟨hfe2, hlk2, trivial⟩
    have hD0_1 := hD
    obtain ⟨hP, hD⟩ := pl_out hP hD [(oc1 fe2 (rk f0) (wd f0) (tw f0) (pa f0) (pb f0) (.ref lo2) (.ref lk2) fm2), (oc4 lk2 (kd f0) (st f0) .null (gb f0) (it f0) we2)] hc9_1 (pwF hfe2.2 hlk2.2)
    generalize hT_1 : outPl L [(oc1 fe2 (rk f0) (wd f0) (tw f0) (pa f0) (pb f0) (.ref lo2) (.ref lk2) fm2), (oc4 lk2 (kd f0) (st f0) .null (gb f0) (it f0) we2)] = T_1 at hP hD
    have hP : va_P (dC, dI) classes ([(oc8 x (.ref sh) (.ref lw) (.ref ro) (.ref bq) (.ref bp) (.ref dq) (.ref dp) (.ref lv) (.ref sl) ds sd ul su), (oc7 sh (.ref fa) (nI ft)), (oq fa cF 200 FA), (oc1 fe2 (rk f0) (wd f0) (tw f0) (pa f0) (pb f0) (.ref lo2) (.ref lk2) fm2), (oc4 lk2 (kd f0) (st f0) .null (gb f0) (it f0) we2)] ++ va_pl T_1 f) s.heap := hP
    have hD : va_D A ([(oc8 x (.ref sh) (.ref lw) (.ref ro) (.ref bq) (.ref bp) (.ref dq) (.ref dp) (.ref lv) (.ref sl) ds sd ul su), (oc7 sh (.ref fa) (nI ft)), (oq fa cF 200 FA), (oc1 fe2 (rk f0) (wd f0) (tw f0) (pa f0) (pb f0) (.ref lo2) (.ref lk2) fm2), (oc4 lk2 (kd f0) (st f0) .null (gb f0) (it f0) we2)] ++ va_pl T_1 f) := hD
    refine lv_aload_n hx hb dX10_told_0 rfl (lv_at hl 0 rfl) ?_
    refine va_get (D := (dC, dI)) (ci := 8) (v := .ref sh) (C := RX10) (T := TX10) (N := 13) hx hb hts inX10 hown hK hP 0 rfl rfl 0 (by decide) (hts _ mw_309) (fun _ h9 => h9) rfl dX10_told_1 ?_
    refine lv_iload_n hx hb dX10_told_4 rfl (lv_at hl 1 rfl) ?_
    have hPc := hP.sub (ws' := [(oc7 sh (.ref fa) (nI ft)), (oq fa cF 200 FA)]) [1, 2] rfl
    have hDc := hD.sub (ws' := [(oc7 sh (.ref fa) (nI ft)), (oq fa cF 200 FA)]) [1, 2] (by decide) rfl
    have hFc := va_free (wc := [(oc7 sh (.ref fa) (nI ft)), (oq fa cF 200 FA)]) hD hS hA [1, 2] rfl
    refine zcall (st1 := [.ref fe2]) (va_runV (As := [.int (nI f0)]) (rest := []) ⟨hx, hb, hml, hown, hts⟩ (k_Sheet_find l dC dI cI cZ cF s.heap.size sh fa ft FA f0 fe2 (by omega) (by omega) (hFA2)) (cwV 1 hts (zz_gV mw_498 mw_499 mw_500 mw_100 mc_yX8_find) rfl rfl rfl (by decide +kernel) ⟨Nat.le_of_ble_eq_true rfl, Nat.le_of_ble_eq_true rfl⟩) (zPV2 (q0 := 0) (ci := 7) hPc hDc hK hXN rfl rfl) rfl rfl hl.1 rfl (lv_room (Nat.le_of_ble_eq_true rfl)) dX10_told_5 ⟨Nat.le_of_ble_eq_true rfl, Nat.le_of_ble_eq_true rfl⟩) hS hFc hFc rfl (fun t H1 locs ht hB hk1 hS => ?_)
    obtain ⟨hP1, hD1⟩ := hB
    rw [ht] at hP1
    obtain ⟨hP, hD⟩ := va_joinQ (wr := [(oc8 x (.ref sh) (.ref lw) (.ref ro) (.ref bq) (.ref bp) (.ref dq) (.ref dp) (.ref lv) (.ref sl) ds sd ul su), (oc1 fe2 (rk f0) (wd f0) (tw f0) (pa f0) (pb f0) (.ref lo2) (.ref lk2) fm2), (oc4 lk2 (kd f0) (st f0) .null (gb f0) (it f0) we2)]) (w1 := [(oc7 sh (.ref fa) (nI ft)), (oq fa cF 200 FA)]) hP hD [1, 2] [0, 3, 4] rfl rfl (by decide) (by decide) hk1 hFc hP1 hD1
    clear hk1 hPc hDc hFc hP1 hD1 ht
    generalize H1 = H at hP hS ⊢
    have hP := hP.part (cx := [(oc8 x (.ref sh) (.ref lw) (.ref ro) (.ref bq) (.ref bp) (.ref dq) (.ref dp) (.ref lv) (.ref sl) ds sd ul su), (oc7 sh (.ref fa) (nI ft)), (oq fa cF 200 FA), (oc1 fe2 (rk f0) (wd f0) (tw f0) (pa f0) (pb f0) (.ref lo2) (.ref lk2) fm2), (oc4 lk2 (kd f0) (st f0) .null (gb f0) (it f0) we2)]) [0, 3, 4, 1, 2] rfl
    have hD := hD.part (cx := [(oc8 x (.ref sh) (.ref lw) (.ref ro) (.ref bq) (.ref bp) (.ref dq) (.ref dp) (.ref lv) (.ref sl) ds sd ul su), (oc7 sh (.ref fa) (nI ft)), (oq fa cF 200 FA), (oc1 fe2 (rk f0) (wd f0) (tw f0) (pa f0) (pb f0) (.ref lo2) (.ref lk2) fm2), (oc4 lk2 (kd f0) (st f0) .null (gb f0) (it f0) we2)]) [0, 3, 4, 1, 2] (by decide) rfl
    have hP : va_P (dC, dI) classes ([(oc8 x (.ref sh) (.ref lw) (.ref ro) (.ref bq) (.ref bp) (.ref dq) (.ref dp) (.ref lv) (.ref sl) ds sd ul su), (oc7 sh (.ref fa) (nI ft)), (oq fa cF 200 FA), (oc1 fe2 (rk f0) (wd f0) (tw f0) (pa f0) (pb f0) (.ref lo2) (.ref lk2) fm2), (oc4 lk2 (kd f0) (st f0) .null (gb f0) (it f0) we2)] ++ va_pl T_1 f) H := hP
    have hD : va_D A ([(oc8 x (.ref sh) (.ref lw) (.ref ro) (.ref bq) (.ref bp) (.ref dq) (.ref dp) (.ref lv) (.ref sl) ds sd ul su), (oc7 sh (.ref fa) (nI ft)), (oq fa cF 200 FA), (oc1 fe2 (rk f0) (wd f0) (tw f0) (pa f0) (pb f0) (.ref lo2) (.ref lk2) fm2), (oc4 lk2 (kd f0) (st f0) .null (gb f0) (it f0) we2)] ++ va_pl T_1 f) := hD
    refine lv_astore_n (lv' := [(3, .ref fe2), (0, .ref x), (1, .int (nI f0)), (2, .int w)]) hx hb dX10_told_8 rfl hl (by decide) rfl (fun ls hl => ?_)
    refine lv_aload_n hx hb dX10_told_9 rfl (lv_at hl 0 rfl) ?_
    refine lv_ifnonnull (tgt := 15) hx hb dX10_told_10 (by decide) ?_
    refine lv_iload_n hx hb dX10_told_15 rfl (lv_at hl 3 rfl) ?_
    refine lv_tableOut (tgt := 174) hx hb dX10_told_16 (hw9) (by decide) ?_
    refine lv_iconst (v := (-1)) hx hb dX10_told_174 (by decide) ?_
    have hP := pl_back (cs := [(oc1 fe2 (rk f0) (wd f0) (tw f0) (pa f0) (pb f0) (.ref lo2) (.ref lk2) fm2), (oc4 lk2 (kd f0) (st f0) .null (gb f0) (it f0) we2)]) (L := L) (f := f) (X := [(oc8 x (.ref sh) (.ref lw) (.ref ro) (.ref bq) (.ref bp) (.ref dq) (.ref dp) (.ref lv) (.ref sl) ds sd ul su), (oc7 sh (.ref fa) (nI ft)), (oq fa cF 200 FA)]) (by rw [hT_1]; exact (show va_P (dC, dI) classes (([(oc8 x (.ref sh) (.ref lw) (.ref ro) (.ref bq) (.ref bp) (.ref dq) (.ref dp) (.ref lv) (.ref sl) ds sd ul su), (oc7 sh (.ref fa) (nI ft)), (oq fa cF 200 FA)] ++ [(oc1 fe2 (rk f0) (wd f0) (tw f0) (pa f0) (pb f0) (.ref lo2) (.ref lk2) fm2), (oc4 lk2 (kd f0) (st f0) .null (gb f0) (it f0) we2)]) ++ va_pl T_1 f) H from hP)) hc9_1
    have hD : va_D A ([(oc8 x (.ref sh) (.ref lw) (.ref ro) (.ref bq) (.ref bp) (.ref dq) (.ref dp) (.ref lv) (.ref sl) ds sd ul su), (oc7 sh (.ref fa) (nI ft)), (oq fa cF 200 FA)] ++ va_pl L f) := vaD_ae hD0_1 rfl
    have hP9 := hP.part (cx := [(oc8 x (.ref sh) (.ref lw) (.ref ro) (.ref bq) (.ref bp) (.ref dq) (.ref dp) (.ref lv) (.ref sl) ds sd ul su), (oc7 sh (.ref fa) (nI ft)), (oq fa cF 200 FA)]) [0, 1, 2] rfl
    have hD9 := hD.part (cx := [(oc8 x (.ref sh) (.ref lw) (.ref ro) (.ref bq) (.ref bp) (.ref dq) (.ref dp) (.ref lv) (.ref sl) ds sd ul su), (oc7 sh (.ref fa) (nI ft)), (oq fa cF 200 FA)]) [0, 1, 2] (by decide) rfl
    rw [hQ9]
    exact W.iret (v := (-1)) hx hb hr (fun t ht hW => ⟨⟨rfl, by rw [ht]; exact hP9, hD9⟩, hS.F ht⟩) hS.2.2 dX10_told_175
  · skip
    have hcap2 := hrr2.1
    have hcap3 := hrr2.2.1
    have hc9_1 : inPl L f [(oc1 fe2 (rk f0) (wd f0) (tw f0) (pa f0) (pb f0) (.ref lo2) (.ref lk2) fm2), (oc4 lk2 (kd f0) (st f0) (.ref r2) (gb f0) (it f0) we2), (oc6 r2 (.ref rx2) (.ref ry2) (nI (nN (mn f0))) rg2), (oa rx2 cI cap2 U2), (oa ry2 cI cap2 V2)] := ⟨hfe2, hlk2, hr2, hrx2, hry2, trivial⟩
    have hD0_1 := hD
    obtain ⟨hP, hD⟩ := pl_out hP hD [(oc1 fe2 (rk f0) (wd f0) (tw f0) (pa f0) (pb f0) (.ref lo2) (.ref lk2) fm2), (oc4 lk2 (kd f0) (st f0) (.ref r2) (gb f0) (it f0) we2), (oc6 r2 (.ref rx2) (.ref ry2) (nI (nN (mn f0))) rg2), (oa rx2 cI cap2 U2), (oa ry2 cI cap2 V2)] hc9_1 (pwR hfe2.2 hlk2.2 hr2.2 hrx2.2 hry2.2 hne2)
    generalize hT_1 : outPl L [(oc1 fe2 (rk f0) (wd f0) (tw f0) (pa f0) (pb f0) (.ref lo2) (.ref lk2) fm2), (oc4 lk2 (kd f0) (st f0) (.ref r2) (gb f0) (it f0) we2), (oc6 r2 (.ref rx2) (.ref ry2) (nI (nN (mn f0))) rg2), (oa rx2 cI cap2 U2), (oa ry2 cI cap2 V2)] = T_1 at hP hD
    have hP : va_P (dC, dI) classes ([(oc8 x (.ref sh) (.ref lw) (.ref ro) (.ref bq) (.ref bp) (.ref dq) (.ref dp) (.ref lv) (.ref sl) ds sd ul su), (oc7 sh (.ref fa) (nI ft)), (oq fa cF 200 FA), (oc1 fe2 (rk f0) (wd f0) (tw f0) (pa f0) (pb f0) (.ref lo2) (.ref lk2) fm2), (oc4 lk2 (kd f0) (st f0) (.ref r2) (gb f0) (it f0) we2), (oc6 r2 (.ref rx2) (.ref ry2) (nI (nN (mn f0))) rg2), (oa rx2 cI cap2 U2), (oa ry2 cI cap2 V2)] ++ va_pl T_1 f) s.heap := hP
    have hD : va_D A ([(oc8 x (.ref sh) (.ref lw) (.ref ro) (.ref bq) (.ref bp) (.ref dq) (.ref dp) (.ref lv) (.ref sl) ds sd ul su), (oc7 sh (.ref fa) (nI ft)), (oq fa cF 200 FA), (oc1 fe2 (rk f0) (wd f0) (tw f0) (pa f0) (pb f0) (.ref lo2) (.ref lk2) fm2), (oc4 lk2 (kd f0) (st f0) (.ref r2) (gb f0) (it f0) we2), (oc6 r2 (.ref rx2) (.ref ry2) (nI (nN (mn f0))) rg2), (oa rx2 cI cap2 U2), (oa ry2 cI cap2 V2)] ++ va_pl T_1 f) := hD
    refine lv_aload_n hx hb dX10_told_0 rfl (lv_at hl 0 rfl) ?_
    refine va_get (D := (dC, dI)) (ci := 8) (v := .ref sh) (C := RX10) (T := TX10) (N := 13) hx hb hts inX10 hown hK hP 0 rfl rfl 0 (by decide) (hts _ mw_309) (fun _ h9 => h9) rfl dX10_told_1 ?_
    refine lv_iload_n hx hb dX10_told_4 rfl (lv_at hl 1 rfl) ?_
    have hPc := hP.sub (ws' := [(oc7 sh (.ref fa) (nI ft)), (oq fa cF 200 FA)]) [1, 2] rfl
    have hDc := hD.sub (ws' := [(oc7 sh (.ref fa) (nI ft)), (oq fa cF 200 FA)]) [1, 2] (by decide) rfl
    have hFc := va_free (wc := [(oc7 sh (.ref fa) (nI ft)), (oq fa cF 200 FA)]) hD hS hA [1, 2] rfl
    refine zcall (st1 := [.ref fe2]) (va_runV (As := [.int (nI f0)]) (rest := []) ⟨hx, hb, hml, hown, hts⟩ (k_Sheet_find l dC dI cI cZ cF s.heap.size sh fa ft FA f0 fe2 (by omega) (by omega) (hFA2)) (cwV 1 hts (zz_gV mw_498 mw_499 mw_500 mw_100 mc_yX8_find) rfl rfl rfl (by decide +kernel) ⟨Nat.le_of_ble_eq_true rfl, Nat.le_of_ble_eq_true rfl⟩) (zPV2 (q0 := 0) (ci := 7) hPc hDc hK hXN rfl rfl) rfl rfl hl.1 rfl (lv_room (Nat.le_of_ble_eq_true rfl)) dX10_told_5 ⟨Nat.le_of_ble_eq_true rfl, Nat.le_of_ble_eq_true rfl⟩) hS hFc hFc rfl (fun t H1 locs ht hB hk1 hS => ?_)
    obtain ⟨hP1, hD1⟩ := hB
    rw [ht] at hP1
    obtain ⟨hP, hD⟩ := va_joinQ (wr := [(oc8 x (.ref sh) (.ref lw) (.ref ro) (.ref bq) (.ref bp) (.ref dq) (.ref dp) (.ref lv) (.ref sl) ds sd ul su), (oc1 fe2 (rk f0) (wd f0) (tw f0) (pa f0) (pb f0) (.ref lo2) (.ref lk2) fm2), (oc4 lk2 (kd f0) (st f0) (.ref r2) (gb f0) (it f0) we2), (oc6 r2 (.ref rx2) (.ref ry2) (nI (nN (mn f0))) rg2), (oa rx2 cI cap2 U2), (oa ry2 cI cap2 V2)]) (w1 := [(oc7 sh (.ref fa) (nI ft)), (oq fa cF 200 FA)]) hP hD [1, 2] [0, 3, 4, 5, 6, 7] rfl rfl (by decide) (by decide) hk1 hFc hP1 hD1
    clear hk1 hPc hDc hFc hP1 hD1 ht
    generalize H1 = H at hP hS ⊢
    have hP := hP.part (cx := [(oc8 x (.ref sh) (.ref lw) (.ref ro) (.ref bq) (.ref bp) (.ref dq) (.ref dp) (.ref lv) (.ref sl) ds sd ul su), (oc7 sh (.ref fa) (nI ft)), (oq fa cF 200 FA), (oc1 fe2 (rk f0) (wd f0) (tw f0) (pa f0) (pb f0) (.ref lo2) (.ref lk2) fm2), (oc4 lk2 (kd f0) (st f0) (.ref r2) (gb f0) (it f0) we2), (oc6 r2 (.ref rx2) (.ref ry2) (nI (nN (mn f0))) rg2), (oa rx2 cI cap2 U2), (oa ry2 cI cap2 V2)]) [0, 6, 7, 1, 2, 3, 4, 5] rfl
    have hD := hD.part (cx := [(oc8 x (.ref sh) (.ref lw) (.ref ro) (.ref bq) (.ref bp) (.ref dq) (.ref dp) (.ref lv) (.ref sl) ds sd ul su), (oc7 sh (.ref fa) (nI ft)), (oq fa cF 200 FA), (oc1 fe2 (rk f0) (wd f0) (tw f0) (pa f0) (pb f0) (.ref lo2) (.ref lk2) fm2), (oc4 lk2 (kd f0) (st f0) (.ref r2) (gb f0) (it f0) we2), (oc6 r2 (.ref rx2) (.ref ry2) (nI (nN (mn f0))) rg2), (oa rx2 cI cap2 U2), (oa ry2 cI cap2 V2)]) [0, 6, 7, 1, 2, 3, 4, 5] (by decide) rfl
    have hP : va_P (dC, dI) classes ([(oc8 x (.ref sh) (.ref lw) (.ref ro) (.ref bq) (.ref bp) (.ref dq) (.ref dp) (.ref lv) (.ref sl) ds sd ul su), (oc7 sh (.ref fa) (nI ft)), (oq fa cF 200 FA), (oc1 fe2 (rk f0) (wd f0) (tw f0) (pa f0) (pb f0) (.ref lo2) (.ref lk2) fm2), (oc4 lk2 (kd f0) (st f0) (.ref r2) (gb f0) (it f0) we2), (oc6 r2 (.ref rx2) (.ref ry2) (nI (nN (mn f0))) rg2), (oa rx2 cI cap2 U2), (oa ry2 cI cap2 V2)] ++ va_pl T_1 f) H := hP
    have hD : va_D A ([(oc8 x (.ref sh) (.ref lw) (.ref ro) (.ref bq) (.ref bp) (.ref dq) (.ref dp) (.ref lv) (.ref sl) ds sd ul su), (oc7 sh (.ref fa) (nI ft)), (oq fa cF 200 FA), (oc1 fe2 (rk f0) (wd f0) (tw f0) (pa f0) (pb f0) (.ref lo2) (.ref lk2) fm2), (oc4 lk2 (kd f0) (st f0) (.ref r2) (gb f0) (it f0) we2), (oc6 r2 (.ref rx2) (.ref ry2) (nI (nN (mn f0))) rg2), (oa rx2 cI cap2 U2), (oa ry2 cI cap2 V2)] ++ va_pl T_1 f) := hD
    refine lv_astore_n (lv' := [(3, .ref fe2), (0, .ref x), (1, .int (nI f0)), (2, .int w)]) hx hb dX10_told_8 rfl hl (by decide) rfl (fun ls hl => ?_)
    refine lv_aload_n hx hb dX10_told_9 rfl (lv_at hl 0 rfl) ?_
    refine lv_ifnonnull (tgt := 15) hx hb dX10_told_10 (by decide) ?_
    refine lv_iload_n hx hb dX10_told_15 rfl (lv_at hl 3 rfl) ?_
    refine lv_tableOut (tgt := 174) hx hb dX10_told_16 (hw9) (by decide) ?_
    refine lv_iconst (v := (-1)) hx hb dX10_told_174 (by decide) ?_
    have hP := pl_back (cs := [(oc1 fe2 (rk f0) (wd f0) (tw f0) (pa f0) (pb f0) (.ref lo2) (.ref lk2) fm2), (oc4 lk2 (kd f0) (st f0) (.ref r2) (gb f0) (it f0) we2), (oc6 r2 (.ref rx2) (.ref ry2) (nI (nN (mn f0))) rg2), (oa rx2 cI cap2 U2), (oa ry2 cI cap2 V2)]) (L := L) (f := f) (X := [(oc8 x (.ref sh) (.ref lw) (.ref ro) (.ref bq) (.ref bp) (.ref dq) (.ref dp) (.ref lv) (.ref sl) ds sd ul su), (oc7 sh (.ref fa) (nI ft)), (oq fa cF 200 FA)]) (by rw [hT_1]; exact (show va_P (dC, dI) classes (([(oc8 x (.ref sh) (.ref lw) (.ref ro) (.ref bq) (.ref bp) (.ref dq) (.ref dp) (.ref lv) (.ref sl) ds sd ul su), (oc7 sh (.ref fa) (nI ft)), (oq fa cF 200 FA)] ++ [(oc1 fe2 (rk f0) (wd f0) (tw f0) (pa f0) (pb f0) (.ref lo2) (.ref lk2) fm2), (oc4 lk2 (kd f0) (st f0) (.ref r2) (gb f0) (it f0) we2), (oc6 r2 (.ref rx2) (.ref ry2) (nI (nN (mn f0))) rg2), (oa rx2 cI cap2 U2), (oa ry2 cI cap2 V2)]) ++ va_pl T_1 f) H from hP)) hc9_1
    have hD : va_D A ([(oc8 x (.ref sh) (.ref lw) (.ref ro) (.ref bq) (.ref bp) (.ref dq) (.ref dp) (.ref lv) (.ref sl) ds sd ul su), (oc7 sh (.ref fa) (nI ft)), (oq fa cF 200 FA)] ++ va_pl L f) := vaD_ae hD0_1 rfl
    have hP9 := hP.part (cx := [(oc8 x (.ref sh) (.ref lw) (.ref ro) (.ref bq) (.ref bp) (.ref dq) (.ref dp) (.ref lv) (.ref sl) ds sd ul su), (oc7 sh (.ref fa) (nI ft)), (oq fa cF 200 FA)]) [0, 1, 2] rfl
    have hD9 := hD.part (cx := [(oc8 x (.ref sh) (.ref lw) (.ref ro) (.ref bq) (.ref bp) (.ref dq) (.ref dp) (.ref lv) (.ref sl) ds sd ul su), (oc7 sh (.ref fa) (nI ft)), (oq fa cF 200 FA)]) [0, 1, 2] (by decide) rfl
    rw [hQ9]
    exact W.iret (v := (-1)) hx hb hr (fun t ht hW => ⟨⟨rfl, by rw [ht]; exact hP9, hD9⟩, hS.F ht⟩) hS.2.2 dX10_told_175
