set_option maxHeartbeats 4000000 in
set_option maxRecDepth 100000 in
theorem k_corner_r (l : Launch) (dC : Nat → ClassId) (dI : Nat → Nat → Nat) (cI cZ cF : ClassId) (sz : Nat) (x : Nat) (sh : Nat) (lw : Nat) (ro : Nat) (bq : Nat) (bp : Nat) (dq : Nat) (dp : Nat) (lv : Nat) (sl : Nat) (sd : Int32) (ul : Int32) (su : Int32) (ds : Int32) (fa : Nat) (ft : Nat) (FA : Nat → Option Nat) (f0 : Nat) (L : List Nat) (f : Nat → va_E) (kd : Nat → Int32) (st : Nat → Int32) (tn : Nat → Int32) (mn : Nat → Int32) (cx : Nat → Int32) (cy : Nat → Int32) (px : Int32) (py : Int32) (h200 : ft ≤ 200) (hf0 : f0 < ft) (hvw : ∀ q, q < ft → vwO cI L f FA kd st tn mn cx cy q) (hbad : ¬ ((st f0).toInt = 0 ∧ (pl px ∧ pl py) ∧ (tn f0).toInt = 0 ∧ nN (mn f0) < (if (kd f0).toInt = 0 then 1 else 40))) : Met l yX10_corner (.code yX10_corner cX10_corner 6 (some .int) :: ws0) ({ frames := 2, cells := 0, slots := 0, locals := 43 } : Room) (va_Pc [.ref x, .int (nI f0), .int px, .int py] (zPre (dC, dI) classes (zTy cI cZ cF) ([(oc8 x (.ref sh) (.ref lw) (.ref ro) (.ref bq) (.ref bp) (.ref dq) (.ref dp) (.ref lv) (.ref sl) ds sd ul su), (oc7 sh (.ref fa) (nI ft)), (oq fa cF 200 FA)] ++ va_pl L f) sz zXN)) (zQ (some (.int (-1))) (fun t => ∃ (ul1 : Int32), ∃ (su1 : Int32), va_P (dC, dI) classes ([(oc8 x (.ref sh) (.ref lw) (.ref ro) (.ref bq) (.ref bp) (.ref dq) (.ref dp) (.ref lv) (.ref sl) ds sd ul1 su1), (oc7 sh (.ref fa) (nI ft)), (oq fa cF 200 FA)] ++ va_pl L f) t.heap ∧ va_D (va_A ([(oc8 x (.ref sh) (.ref lw) (.ref ro) (.ref bq) (.ref bp) (.ref dq) (.ref dp) (.ref lv) (.ref sl) ds sd ul su), (oc7 sh (.ref fa) (nI ft)), (oq fa cF 200 FA)] ++ va_pl L f) sz) ([(oc8 x (.ref sh) (.ref lw) (.ref ro) (.ref bq) (.ref bp) (.ref dq) (.ref dp) (.ref lv) (.ref sl) ds sd ul1 su1), (oc7 sh (.ref fa) (nI ft)), (oq fa cF 200 FA)] ++ va_pl L f)) (va_A ([(oc8 x (.ref sh) (.ref lw) (.ref ro) (.ref bq) (.ref bp) (.ref dq) (.ref dp) (.ref lv) (.ref sl) ds sd ul su), (oc7 sh (.ref fa) (nI ft)), (oq fa cF 200 FA)] ++ va_pl L f) sz)) 0 0 (va_A ([(oc8 x (.ref sh) (.ref lw) (.ref ro) (.ref bq) (.ref bp) (.ref dq) (.ref dp) (.ref lv) (.ref sl) ds sd ul su), (oc7 sh (.ref fa) (nI ft)), (oq fa cF 200 FA)] ++ va_pl L f) sz) := by
  refine Met.ofW (cc := cX10_corner) (maxL := 6) (ret := (some .int)) (by decide) rfl ?_
  intro p e s m args below meth c s₁ B hml hv
  obtain ⟨rfl, hsz, hP, hK, hD0, hXN⟩ := hv
  have hx := B.exec
  have hb := B.bytes
  have hr := B.returns
  have hts0 := atoms_spec (ws := .code yX10_corner cX10_corner 6 (some .int) :: ws0) B.pre
  have hts : ∀ w9 ∈ ws0, w9.before ([.ref x, .int (nI f0), .int px, .int py] : List Value).toArray s = true := fun w9 h => hts0 w9 (List.mem_cons_of_mem _ h)
  have hown : s.vm.findClass "ScaleShop" = some m.cls := findClass_of_methodNamed B.named
  have hlocks := B.notSynchronized
  subst hsz
  have hD := hD0.self (sz := s.heap.size)
  clear hD0
  generalize hAe : va_A ([(oc8 x (.ref sh) (.ref lw) (.ref ro) (.ref bq) (.ref bp) (.ref dq) (.ref dp) (.ref lv) (.ref sl) ds sd ul su), (oc7 sh (.ref fa) (nI ft)), (oq fa cF 200 FA)] ++ va_pl L f) s.heap.size = A at hD ⊢
  have hA : ∀ q : Nat, s.heap.size ≤ q → A q := fun q h => by rw [← hAe]; exact Or.inr h
  clear hAe
  have hS : va_S A s.heap s.heap [] := va_S.rf
  have hP : va_P (dC, dI) classes ([(oc8 x (.ref sh) (.ref lw) (.ref ro) (.ref bq) (.ref bp) (.ref dq) (.ref dp) (.ref lv) (.ref sl) ds sd ul su), (oc7 sh (.ref fa) (nI ft)), (oq fa cF 200 FA)] ++ va_pl L f) s.heap := hP
  obtain ⟨Q9, hQ9⟩ : ∃ Q9 : State → Prop, Q9 = MQ below (zQ (some (.int (-1))) (fun t => ∃ (ul1 : Int32), ∃ (su1 : Int32), va_P (dC, dI) classes ([(oc8 x (.ref sh) (.ref lw) (.ref ro) (.ref bq) (.ref bp) (.ref dq) (.ref dp) (.ref lv) (.ref sl) ds sd ul1 su1), (oc7 sh (.ref fa) (nI ft)), (oq fa cF 200 FA)] ++ va_pl L f) t.heap ∧ va_D A ([(oc8 x (.ref sh) (.ref lw) (.ref ro) (.ref bq) (.ref bp) (.ref dq) (.ref dp) (.ref lv) (.ref sl) ds sd ul1 su1), (oc7 sh (.ref fa) (nI ft)), (oq fa cF 200 FA)] ++ va_pl L f)) A) ([.ref x, .int (nI f0), .int px, .int py] : List Value).toArray s 0 0 A := ⟨_, rfl⟩
  rw [← hQ9]
  have hl := lv_entry ([.ref x, .int (nI f0), .int px, .int py]) (n := 6) (Nat.le_of_ble_eq_true rfl)
  rw [lg_entry_eq]
  generalize (lg_sl ([.ref x, .int (nI f0), .int px, .int py]) ++ List.replicate (6 - (lg_sl ([.ref x, .int (nI f0), .int px, .int py])).length) Slot.unset).toArray = ls at hl ⊢
  have hl : lv_has ls 6 [(0, .ref x), (1, .int (nI f0)), (2, .int px), (3, .int py)] := hl
  have hmc9 : (if (kd f0).toInt = 0 then 1 else 40) ≤ 40 := (by split <;> omega)
  rcases vw2 (hvw f0 (show f0 < ft by omega)) with ⟨ht2, fe2, lk2, lo2, rk2, wd2, tw2, pa2, pb2, gb2, jt2, we2, fm2, hFA2, hfe2, hlk2⟩ | ⟨ht2, fe2, lk2, lo2, rk2, wd2, tw2, pa2, pb2, gb2, jt2, we2, fm2, r2, rx2, ry2, cap2, U2, V2, rg2, hFA2, hfe2, hlk2, ⟨hr2, hrx2, hry2, hne2⟩, hrr2⟩
  · skip
    have hc9_1 : inPl L f [(oc1 fe2 rk2 wd2 tw2 pa2 pb2 (.ref lo2) (.ref lk2) fm2), (oc4 lk2 (kd f0) (st f0) .null gb2 jt2 we2)] := ⟨hfe2, hlk2, trivial⟩
    have hD0_1 := hD
    obtain ⟨hP, hD⟩ := pl_out hP hD [(oc1 fe2 rk2 wd2 tw2 pa2 pb2 (.ref lo2) (.ref lk2) fm2), (oc4 lk2 (kd f0) (st f0) .null gb2 jt2 we2)] hc9_1 (pwF hfe2.2 hlk2.2)
    generalize hT_1 : outPl L [(oc1 fe2 rk2 wd2 tw2 pa2 pb2 (.ref lo2) (.ref lk2) fm2), (oc4 lk2 (kd f0) (st f0) .null gb2 jt2 we2)] = T_1 at hP hD
    have hP : va_P (dC, dI) classes ([(oc8 x (.ref sh) (.ref lw) (.ref ro) (.ref bq) (.ref bp) (.ref dq) (.ref dp) (.ref lv) (.ref sl) ds sd ul su), (oc7 sh (.ref fa) (nI ft)), (oq fa cF 200 FA), (oc1 fe2 rk2 wd2 tw2 pa2 pb2 (.ref lo2) (.ref lk2) fm2), (oc4 lk2 (kd f0) (st f0) .null gb2 jt2 we2)] ++ va_pl T_1 f) s.heap := hP
    have hD : va_D A ([(oc8 x (.ref sh) (.ref lw) (.ref ro) (.ref bq) (.ref bp) (.ref dq) (.ref dp) (.ref lv) (.ref sl) ds sd ul su), (oc7 sh (.ref fa) (nI ft)), (oq fa cF 200 FA), (oc1 fe2 rk2 wd2 tw2 pa2 pb2 (.ref lo2) (.ref lk2) fm2), (oc4 lk2 (kd f0) (st f0) .null gb2 jt2 we2)] ++ va_pl T_1 f) := hD
    refine lv_aload_n hx hb dX10_corner_0 rfl (lv_at hl 0 rfl) ?_
    refine va_get (D := (dC, dI)) (ci := 8) (v := .ref sh) (C := RX10) (T := TX10) (N := 13) hx hb hts inX10 hown hK hP 0 rfl rfl 0 (by decide) (hts _ mw_309) (fun _ h9 => h9) rfl dX10_corner_1 ?_
    refine lv_iload_n hx hb dX10_corner_4 rfl (lv_at hl 1 rfl) ?_
    have hPc := hP.sub (ws' := [(oc7 sh (.ref fa) (nI ft)), (oq fa cF 200 FA)]) [1, 2] rfl
    have hDc := hD.sub (ws' := [(oc7 sh (.ref fa) (nI ft)), (oq fa cF 200 FA)]) [1, 2] (by decide) rfl
    have hFc := va_free (wc := [(oc7 sh (.ref fa) (nI ft)), (oq fa cF 200 FA)]) hD hS hA [1, 2] rfl
    refine zcall (st1 := [.ref fe2]) (va_runV (As := [.int (nI f0)]) (rest := []) ⟨hx, hb, hml, hown, hts⟩ (k_Sheet_find l dC dI cI cZ cF s.heap.size sh fa ft FA f0 fe2 (by omega) (by omega) (hFA2)) (cwV 1 hts (zz_gV mw_498 mw_499 mw_500 mw_100 mc_yX8_find) rfl rfl rfl (by decide +kernel) ⟨Nat.le_of_ble_eq_true rfl, Nat.le_of_ble_eq_true rfl⟩) (zPV2 (q0 := 0) (ci := 7) hPc hDc hK hXN rfl rfl) rfl rfl hl.1 rfl (lv_room (Nat.le_of_ble_eq_true rfl)) dX10_corner_5 ⟨Nat.le_of_ble_eq_true rfl, Nat.le_of_ble_eq_true rfl⟩) hS hFc hFc rfl (fun t H1 locs ht hB hk1 hS => ?_)
    obtain ⟨hP1, hD1⟩ := hB
    rw [ht] at hP1
    obtain ⟨hP, hD⟩ := va_joinQ (wr := [(oc8 x (.ref sh) (.ref lw) (.ref ro) (.ref bq) (.ref bp) (.ref dq) (.ref dp) (.ref lv) (.ref sl) ds sd ul su), (oc1 fe2 rk2 wd2 tw2 pa2 pb2 (.ref lo2) (.ref lk2) fm2), (oc4 lk2 (kd f0) (st f0) .null gb2 jt2 we2)]) (w1 := [(oc7 sh (.ref fa) (nI ft)), (oq fa cF 200 FA)]) hP hD [1, 2] [0, 3, 4] rfl rfl (by decide) (by decide) hk1 hFc hP1 hD1
    clear hk1 hPc hDc hFc hP1 hD1 ht
    generalize H1 = H at hP hS ⊢
    have hP := hP.part (cx := [(oc8 x (.ref sh) (.ref lw) (.ref ro) (.ref bq) (.ref bp) (.ref dq) (.ref dp) (.ref lv) (.ref sl) ds sd ul su), (oc7 sh (.ref fa) (nI ft)), (oq fa cF 200 FA), (oc1 fe2 rk2 wd2 tw2 pa2 pb2 (.ref lo2) (.ref lk2) fm2), (oc4 lk2 (kd f0) (st f0) .null gb2 jt2 we2)]) [0, 3, 4, 1, 2] rfl
    have hD := hD.part (cx := [(oc8 x (.ref sh) (.ref lw) (.ref ro) (.ref bq) (.ref bp) (.ref dq) (.ref dp) (.ref lv) (.ref sl) ds sd ul su), (oc7 sh (.ref fa) (nI ft)), (oq fa cF 200 FA), (oc1 fe2 rk2 wd2 tw2 pa2 pb2 (.ref lo2) (.ref lk2) fm2), (oc4 lk2 (kd f0) (st f0) .null gb2 jt2 we2)]) [0, 3, 4, 1, 2] (by decide) rfl
    have hP : va_P (dC, dI) classes ([(oc8 x (.ref sh) (.ref lw) (.ref ro) (.ref bq) (.ref bp) (.ref dq) (.ref dp) (.ref lv) (.ref sl) ds sd ul su), (oc7 sh (.ref fa) (nI ft)), (oq fa cF 200 FA), (oc1 fe2 rk2 wd2 tw2 pa2 pb2 (.ref lo2) (.ref lk2) fm2), (oc4 lk2 (kd f0) (st f0) .null gb2 jt2 we2)] ++ va_pl T_1 f) H := hP
    have hD : va_D A ([(oc8 x (.ref sh) (.ref lw) (.ref ro) (.ref bq) (.ref bp) (.ref dq) (.ref dp) (.ref lv) (.ref sl) ds sd ul su), (oc7 sh (.ref fa) (nI ft)), (oq fa cF 200 FA), (oc1 fe2 rk2 wd2 tw2 pa2 pb2 (.ref lo2) (.ref lk2) fm2), (oc4 lk2 (kd f0) (st f0) .null gb2 jt2 we2)] ++ va_pl T_1 f) := hD
    refine lv_astore (lv' := [(4, .ref fe2), (0, .ref x), (1, .int (nI f0)), (2, .int px), (3, .int py)]) hx hb dX10_corner_8 hl (by decide) rfl (fun ls hl => ?_)
    refine lv_aload hx hb dX10_corner_10 (lv_at hl 0 rfl) ?_
    refine lv_ifnonnull (tgt := 21) hx hb dX10_corner_12 (by decide) ?_
    refine lv_aload hx hb dX10_corner_21 (lv_at hl 0 rfl) ?_
    refine va_get (D := (dC, dI)) (ci := 1) (v := .ref lk2) (C := RX2) (T := TX2) (N := 8) hx hb hts inX2 hown hK hP 3 rfl rfl 6 (by decide) (hts _ mw_433) (fun _ h9 => h9) rfl dX10_corner_23 ?_
    refine va_get (D := (dC, dI)) (ci := 4) (v := .int (st f0)) (C := RX5) (T := TX5) (N := 6) hx hb hts inX5 hown hK hP 4 rfl rfl 1 (by decide) (hts _ mw_385) (fun _ h9 => h9) rfl dX10_corner_26 ?_
    refine lv_if_eq (tgt := 38) hx hb dX10_corner_29 (by decide) (fun c_1 => ?_) (fun c_1 => ?_)
    · have c_1 : (st f0).toInt = 0 := zc_eq rfl (by decide) c_1
      refine lv_iload_n hx hb dX10_corner_38 rfl (lv_at hl 3 rfl) ?_
      refine lv_iload_n hx hb dX10_corner_39 rfl (lv_at hl 4 rfl) ?_
      have hPc := hP.sub (ws' := []) [] rfl
      have hDc := hD.sub (ws' := []) [] (by decide) rfl
      have hFc := va_free (wc := []) hD hS hA [] rfl
      refine zcall (st1 := [.int (pI (pl px ∧ pl py))]) (va_runS (As := [.int px, .int py]) (rest := []) ⟨hx, hb, hml, hown, hts⟩ (k_isPlace l dC dI cI cZ cF H.size px py ) (va_cwS 2 hts (zz_gS mw_502 mw_503 mw_99 mc_yX10_isPlace) rfl rfl rfl (by decide +kernel) ⟨Nat.le_of_ble_eq_true rfl, Nat.le_of_ble_eq_true rfl⟩) (zPS2 hPc hDc hK hXN) rfl rfl hl.1 rfl (lv_room (Nat.le_of_ble_eq_true rfl)) dX10_corner_40 ⟨Nat.le_of_ble_eq_true rfl, Nat.le_of_ble_eq_true rfl⟩) hS hFc hFc rfl (fun t H1 locs ht hB hk1 hS => ?_)
      obtain ⟨hP1, hD1⟩ := hB
      rw [ht] at hP1
      obtain ⟨hP, hD⟩ := va_joinQ (wr := [(oc8 x (.ref sh) (.ref lw) (.ref ro) (.ref bq) (.ref bp) (.ref dq) (.ref dp) (.ref lv) (.ref sl) ds sd ul su), (oc7 sh (.ref fa) (nI ft)), (oq fa cF 200 FA), (oc1 fe2 rk2 wd2 tw2 pa2 pb2 (.ref lo2) (.ref lk2) fm2), (oc4 lk2 (kd f0) (st f0) .null gb2 jt2 we2)]) (w1 := []) hP hD [] [0, 1, 2, 3, 4] rfl rfl (by decide) (by decide) hk1 hFc hP1 hD1
      clear hk1 hPc hDc hFc hP1 hD1 ht
      generalize H1 = H at hP hS ⊢
      have hP : va_P (dC, dI) classes ([(oc8 x (.ref sh) (.ref lw) (.ref ro) (.ref bq) (.ref bp) (.ref dq) (.ref dp) (.ref lv) (.ref sl) ds sd ul su), (oc7 sh (.ref fa) (nI ft)), (oq fa cF 200 FA), (oc1 fe2 rk2 wd2 tw2 pa2 pb2 (.ref lo2) (.ref lk2) fm2), (oc4 lk2 (kd f0) (st f0) .null gb2 jt2 we2)] ++ va_pl T_1 f) H := hP
      have hD : va_D A ([(oc8 x (.ref sh) (.ref lw) (.ref ro) (.ref bq) (.ref bp) (.ref dq) (.ref dp) (.ref lv) (.ref sl) ds sd ul su), (oc7 sh (.ref fa) (nI ft)), (oq fa cF 200 FA), (oc1 fe2 rk2 wd2 tw2 pa2 pb2 (.ref lo2) (.ref lk2) fm2), (oc4 lk2 (kd f0) (st f0) .null gb2 jt2 we2)] ++ va_pl T_1 f) := hD
      refine lv_if_ne (tgt := 52) hx hb dX10_corner_43 (by decide) (fun c_2 => ?_) (fun c_2 => ?_)
      · have c_2 : pl px ∧ pl py := zp_1 c_2
        refine lv_aload hx hb dX10_corner_52 (lv_at hl 0 rfl) ?_
        refine va_get (D := (dC, dI)) (ci := 1) (v := .ref lk2) (C := RX2) (T := TX2) (N := 8) hx hb hts inX2 hown hK hP 3 rfl rfl 6 (by decide) (hts _ mw_433) (fun _ h9 => h9) rfl dX10_corner_54 ?_
        refine va_get (D := (dC, dI)) (ci := 4) (v := .null) (C := RX5) (T := TX5) (N := 6) hx hb hts inX5 hown hK hP 4 rfl rfl 2 (by decide) (hts _ mw_391) (fun _ h9 => h9) rfl dX10_corner_57 ?_
        refine lv_astoreN (lv' := [(5, .null), (4, .ref fe2), (0, .ref x), (1, .int (nI f0)), (2, .int px), (3, .int py)]) hx hb dX10_corner_60 hl (by decide) rfl (fun ls hl => ?_)
        refine lv_aloadN hx hb dX10_corner_62 (lv_at hl 0 rfl) ?_
        refine lv_ifnonnullN hx hb dX10_corner_64 ?_
        refine lv_aload_n hx hb dX10_corner_67 rfl (lv_at hl 2 rfl) ?_
        refine lv_iconst (v := 5) hx hb dX10_corner_68 (by decide) ?_
        have hPc := hP.sub (ws' := [(oc8 x (.ref sh) (.ref lw) (.ref ro) (.ref bq) (.ref bp) (.ref dq) (.ref dp) (.ref lv) (.ref sl) ds sd ul su)]) [0] rfl
        have hDc := hD.sub (ws' := [(oc8 x (.ref sh) (.ref lw) (.ref ro) (.ref bq) (.ref bp) (.ref dq) (.ref dp) (.ref lv) (.ref sl) ds sd ul su)]) [0] (by decide) rfl
        have hFc := va_free (wc := [(oc8 x (.ref sh) (.ref lw) (.ref ro) (.ref bq) (.ref bp) (.ref dq) (.ref dp) (.ref lv) (.ref sl) ds sd ul su)]) hD hS hA [0] rfl
        refine zcall (st1 := [.int (-1)]) (va_runV (As := [.int 5]) (rest := []) ⟨hx, hb, hml, hown, hts⟩ (k_refuse_5 l dC dI cI cZ cF H.size x sh lw ro bq bp dq dp lv sl sd ul su ds ) (cwV 1 hts (zz_gV mw_356 mw_358 mw_0 mw_99 mc_yX10_refuse) rfl rfl rfl (by decide +kernel) ⟨Nat.le_of_ble_eq_true rfl, Nat.le_of_ble_eq_true rfl⟩) (zPV2 (q0 := 0) (ci := 8) hPc hDc hK hXN rfl rfl) rfl rfl hl.1 rfl (lv_room (Nat.le_of_ble_eq_true rfl)) dX10_corner_69 ⟨Nat.le_of_ble_eq_true rfl, Nat.le_of_ble_eq_true rfl⟩) hS hFc hFc rfl (fun t H1 locs ht hB hk1 hS => ?_)
        obtain ⟨hP1, hD1⟩ := hB
        rw [ht] at hP1
        obtain ⟨hP, hD⟩ := va_joinQ (wr := [(oc7 sh (.ref fa) (nI ft)), (oq fa cF 200 FA), (oc1 fe2 rk2 wd2 tw2 pa2 pb2 (.ref lo2) (.ref lk2) fm2), (oc4 lk2 (kd f0) (st f0) .null gb2 jt2 we2)]) (w1 := [(oc8 x (.ref sh) (.ref lw) (.ref ro) (.ref bq) (.ref bp) (.ref dq) (.ref dp) (.ref lv) (.ref sl) ds sd ul 5)]) hP hD [0] [1, 2, 3, 4] rfl rfl (by decide) (by decide) hk1 hFc hP1 hD1
        clear hk1 hPc hDc hFc hP1 hD1 ht
        generalize H1 = H at hP hS ⊢
        have hP := hP.part (cx := [(oc8 x (.ref sh) (.ref lw) (.ref ro) (.ref bq) (.ref bp) (.ref dq) (.ref dp) (.ref lv) (.ref sl) ds sd ul 5), (oc7 sh (.ref fa) (nI ft)), (oq fa cF 200 FA), (oc1 fe2 rk2 wd2 tw2 pa2 pb2 (.ref lo2) (.ref lk2) fm2), (oc4 lk2 (kd f0) (st f0) .null gb2 jt2 we2)]) [4, 0, 1, 2, 3] rfl
        have hD := hD.part (cx := [(oc8 x (.ref sh) (.ref lw) (.ref ro) (.ref bq) (.ref bp) (.ref dq) (.ref dp) (.ref lv) (.ref sl) ds sd ul 5), (oc7 sh (.ref fa) (nI ft)), (oq fa cF 200 FA), (oc1 fe2 rk2 wd2 tw2 pa2 pb2 (.ref lo2) (.ref lk2) fm2), (oc4 lk2 (kd f0) (st f0) .null gb2 jt2 we2)]) [4, 0, 1, 2, 3] (by decide) rfl
        have hP : va_P (dC, dI) classes ([(oc8 x (.ref sh) (.ref lw) (.ref ro) (.ref bq) (.ref bp) (.ref dq) (.ref dp) (.ref lv) (.ref sl) ds sd ul 5), (oc7 sh (.ref fa) (nI ft)), (oq fa cF 200 FA), (oc1 fe2 rk2 wd2 tw2 pa2 pb2 (.ref lo2) (.ref lk2) fm2), (oc4 lk2 (kd f0) (st f0) .null gb2 jt2 we2)] ++ va_pl T_1 f) H := hP
        have hD : va_D A ([(oc8 x (.ref sh) (.ref lw) (.ref ro) (.ref bq) (.ref bp) (.ref dq) (.ref dp) (.ref lv) (.ref sl) ds sd ul 5), (oc7 sh (.ref fa) (nI ft)), (oq fa cF 200 FA), (oc1 fe2 rk2 wd2 tw2 pa2 pb2 (.ref lo2) (.ref lk2) fm2), (oc4 lk2 (kd f0) (st f0) .null gb2 jt2 we2)] ++ va_pl T_1 f) := hD
        have hP := pl_back (cs := [(oc1 fe2 rk2 wd2 tw2 pa2 pb2 (.ref lo2) (.ref lk2) fm2), (oc4 lk2 (kd f0) (st f0) .null gb2 jt2 we2)]) (L := L) (f := f) (X := [(oc8 x (.ref sh) (.ref lw) (.ref ro) (.ref bq) (.ref bp) (.ref dq) (.ref dp) (.ref lv) (.ref sl) ds sd ul 5), (oc7 sh (.ref fa) (nI ft)), (oq fa cF 200 FA)]) (by rw [hT_1]; exact (show va_P (dC, dI) classes (([(oc8 x (.ref sh) (.ref lw) (.ref ro) (.ref bq) (.ref bp) (.ref dq) (.ref dp) (.ref lv) (.ref sl) ds sd ul 5), (oc7 sh (.ref fa) (nI ft)), (oq fa cF 200 FA)] ++ [(oc1 fe2 rk2 wd2 tw2 pa2 pb2 (.ref lo2) (.ref lk2) fm2), (oc4 lk2 (kd f0) (st f0) .null gb2 jt2 we2)]) ++ va_pl T_1 f) H from hP)) hc9_1
        have hD : va_D A ([(oc8 x (.ref sh) (.ref lw) (.ref ro) (.ref bq) (.ref bp) (.ref dq) (.ref dp) (.ref lv) (.ref sl) ds sd ul 5), (oc7 sh (.ref fa) (nI ft)), (oq fa cF 200 FA)] ++ va_pl L f) := vaD_ae hD0_1 rfl
        have hP9 := hP.part (cx := [(oc8 x (.ref sh) (.ref lw) (.ref ro) (.ref bq) (.ref bp) (.ref dq) (.ref dp) (.ref lv) (.ref sl) ds sd ul 5), (oc7 sh (.ref fa) (nI ft)), (oq fa cF 200 FA)]) [0, 1, 2] rfl
        have hD9 := hD.part (cx := [(oc8 x (.ref sh) (.ref lw) (.ref ro) (.ref bq) (.ref bp) (.ref dq) (.ref dp) (.ref lv) (.ref sl) ds sd ul 5), (oc7 sh (.ref fa) (nI ft)), (oq fa cF 200 FA)]) [0, 1, 2] (by decide) rfl
        rw [hQ9]
        exact W.iret (v := (-1)) hx hb hr (fun t ht hW => ⟨⟨rfl, ul, 5, by rw [ht]; exact hP9, hD9⟩, hS.F ht⟩) hS.2.2 dX10_corner_72
      · have c_2 : ¬ (pl px ∧ pl py) := zp_0 c_2
        refine lv_aload_n hx hb dX10_corner_46 rfl (lv_at hl 1 rfl) ?_
        refine lv_iconst (v := 4) hx hb dX10_corner_47 (by decide) ?_
        have hPc := hP.sub (ws' := [(oc8 x (.ref sh) (.ref lw) (.ref ro) (.ref bq) (.ref bp) (.ref dq) (.ref dp) (.ref lv) (.ref sl) ds sd ul su)]) [0] rfl
        have hDc := hD.sub (ws' := [(oc8 x (.ref sh) (.ref lw) (.ref ro) (.ref bq) (.ref bp) (.ref dq) (.ref dp) (.ref lv) (.ref sl) ds sd ul su)]) [0] (by decide) rfl
        have hFc := va_free (wc := [(oc8 x (.ref sh) (.ref lw) (.ref ro) (.ref bq) (.ref bp) (.ref dq) (.ref dp) (.ref lv) (.ref sl) ds sd ul su)]) hD hS hA [0] rfl
        refine zcall (st1 := [.int (-1)]) (va_runV (As := [.int 4]) (rest := []) ⟨hx, hb, hml, hown, hts⟩ (k_refuse_4 l dC dI cI cZ cF H.size x sh lw ro bq bp dq dp lv sl sd ul su ds ) (cwV 1 hts (zz_gV mw_356 mw_358 mw_0 mw_99 mc_yX10_refuse) rfl rfl rfl (by decide +kernel) ⟨Nat.le_of_ble_eq_true rfl, Nat.le_of_ble_eq_true rfl⟩) (zPV2 (q0 := 0) (ci := 8) hPc hDc hK hXN rfl rfl) rfl rfl hl.1 rfl (lv_room (Nat.le_of_ble_eq_true rfl)) dX10_corner_48 ⟨Nat.le_of_ble_eq_true rfl, Nat.le_of_ble_eq_true rfl⟩) hS hFc hFc rfl (fun t H1 locs ht hB hk1 hS => ?_)
        obtain ⟨hP1, hD1⟩ := hB
        rw [ht] at hP1
        obtain ⟨hP, hD⟩ := va_joinQ (wr := [(oc7 sh (.ref fa) (nI ft)), (oq fa cF 200 FA), (oc1 fe2 rk2 wd2 tw2 pa2 pb2 (.ref lo2) (.ref lk2) fm2), (oc4 lk2 (kd f0) (st f0) .null gb2 jt2 we2)]) (w1 := [(oc8 x (.ref sh) (.ref lw) (.ref ro) (.ref bq) (.ref bp) (.ref dq) (.ref dp) (.ref lv) (.ref sl) ds sd ul 4)]) hP hD [0] [1, 2, 3, 4] rfl rfl (by decide) (by decide) hk1 hFc hP1 hD1
        clear hk1 hPc hDc hFc hP1 hD1 ht
        generalize H1 = H at hP hS ⊢
        have hP := hP.part (cx := [(oc8 x (.ref sh) (.ref lw) (.ref ro) (.ref bq) (.ref bp) (.ref dq) (.ref dp) (.ref lv) (.ref sl) ds sd ul 4), (oc7 sh (.ref fa) (nI ft)), (oq fa cF 200 FA), (oc1 fe2 rk2 wd2 tw2 pa2 pb2 (.ref lo2) (.ref lk2) fm2), (oc4 lk2 (kd f0) (st f0) .null gb2 jt2 we2)]) [4, 0, 1, 2, 3] rfl
        have hD := hD.part (cx := [(oc8 x (.ref sh) (.ref lw) (.ref ro) (.ref bq) (.ref bp) (.ref dq) (.ref dp) (.ref lv) (.ref sl) ds sd ul 4), (oc7 sh (.ref fa) (nI ft)), (oq fa cF 200 FA), (oc1 fe2 rk2 wd2 tw2 pa2 pb2 (.ref lo2) (.ref lk2) fm2), (oc4 lk2 (kd f0) (st f0) .null gb2 jt2 we2)]) [4, 0, 1, 2, 3] (by decide) rfl
        have hP : va_P (dC, dI) classes ([(oc8 x (.ref sh) (.ref lw) (.ref ro) (.ref bq) (.ref bp) (.ref dq) (.ref dp) (.ref lv) (.ref sl) ds sd ul 4), (oc7 sh (.ref fa) (nI ft)), (oq fa cF 200 FA), (oc1 fe2 rk2 wd2 tw2 pa2 pb2 (.ref lo2) (.ref lk2) fm2), (oc4 lk2 (kd f0) (st f0) .null gb2 jt2 we2)] ++ va_pl T_1 f) H := hP
        have hD : va_D A ([(oc8 x (.ref sh) (.ref lw) (.ref ro) (.ref bq) (.ref bp) (.ref dq) (.ref dp) (.ref lv) (.ref sl) ds sd ul 4), (oc7 sh (.ref fa) (nI ft)), (oq fa cF 200 FA), (oc1 fe2 rk2 wd2 tw2 pa2 pb2 (.ref lo2) (.ref lk2) fm2), (oc4 lk2 (kd f0) (st f0) .null gb2 jt2 we2)] ++ va_pl T_1 f) := hD
        have hP := pl_back (cs := [(oc1 fe2 rk2 wd2 tw2 pa2 pb2 (.ref lo2) (.ref lk2) fm2), (oc4 lk2 (kd f0) (st f0) .null gb2 jt2 we2)]) (L := L) (f := f) (X := [(oc8 x (.ref sh) (.ref lw) (.ref ro) (.ref bq) (.ref bp) (.ref dq) (.ref dp) (.ref lv) (.ref sl) ds sd ul 4), (oc7 sh (.ref fa) (nI ft)), (oq fa cF 200 FA)]) (by rw [hT_1]; exact (show va_P (dC, dI) classes (([(oc8 x (.ref sh) (.ref lw) (.ref ro) (.ref bq) (.ref bp) (.ref dq) (.ref dp) (.ref lv) (.ref sl) ds sd ul 4), (oc7 sh (.ref fa) (nI ft)), (oq fa cF 200 FA)] ++ [(oc1 fe2 rk2 wd2 tw2 pa2 pb2 (.ref lo2) (.ref lk2) fm2), (oc4 lk2 (kd f0) (st f0) .null gb2 jt2 we2)]) ++ va_pl T_1 f) H from hP)) hc9_1
        have hD : va_D A ([(oc8 x (.ref sh) (.ref lw) (.ref ro) (.ref bq) (.ref bp) (.ref dq) (.ref dp) (.ref lv) (.ref sl) ds sd ul 4), (oc7 sh (.ref fa) (nI ft)), (oq fa cF 200 FA)] ++ va_pl L f) := vaD_ae hD0_1 rfl
        have hP9 := hP.part (cx := [(oc8 x (.ref sh) (.ref lw) (.ref ro) (.ref bq) (.ref bp) (.ref dq) (.ref dp) (.ref lv) (.ref sl) ds sd ul 4), (oc7 sh (.ref fa) (nI ft)), (oq fa cF 200 FA)]) [0, 1, 2] rfl
        have hD9 := hD.part (cx := [(oc8 x (.ref sh) (.ref lw) (.ref ro) (.ref bq) (.ref bp) (.ref dq) (.ref dp) (.ref lv) (.ref sl) ds sd ul 4), (oc7 sh (.ref fa) (nI ft)), (oq fa cF 200 FA)]) [0, 1, 2] (by decide) rfl
        rw [hQ9]
        exact W.iret (v := (-1)) hx hb hr (fun t ht hW => ⟨⟨rfl, ul, 4, by rw [ht]; exact hP9, hD9⟩, hS.F ht⟩) hS.2.2 dX10_corner_51
    · have c_1 : ¬ (st f0).toInt = 0 := zc_ne rfl (by decide) c_1
      refine lv_aload_n hx hb dX10_corner_32 rfl (lv_at hl 1 rfl) ?_
      refine lv_iconst (v := 2) hx hb dX10_corner_33 (by decide) ?_
      have hPc := hP.sub (ws' := [(oc8 x (.ref sh) (.ref lw) (.ref ro) (.ref bq) (.ref bp) (.ref dq) (.ref dp) (.ref lv) (.ref sl) ds sd ul su)]) [0] rfl
      have hDc := hD.sub (ws' := [(oc8 x (.ref sh) (.ref lw) (.ref ro) (.ref bq) (.ref bp) (.ref dq) (.ref dp) (.ref lv) (.ref sl) ds sd ul su)]) [0] (by decide) rfl
      have hFc := va_free (wc := [(oc8 x (.ref sh) (.ref lw) (.ref ro) (.ref bq) (.ref bp) (.ref dq) (.ref dp) (.ref lv) (.ref sl) ds sd ul su)]) hD hS hA [0] rfl
      refine zcall (st1 := [.int (-1)]) (va_runV (As := [.int 2]) (rest := []) ⟨hx, hb, hml, hown, hts⟩ (k_refuse_2 l dC dI cI cZ cF H.size x sh lw ro bq bp dq dp lv sl sd ul su ds ) (cwV 1 hts (zz_gV mw_356 mw_358 mw_0 mw_99 mc_yX10_refuse) rfl rfl rfl (by decide +kernel) ⟨Nat.le_of_ble_eq_true rfl, Nat.le_of_ble_eq_true rfl⟩) (zPV2 (q0 := 0) (ci := 8) hPc hDc hK hXN rfl rfl) rfl rfl hl.1 rfl (lv_room (Nat.le_of_ble_eq_true rfl)) dX10_corner_34 ⟨Nat.le_of_ble_eq_true rfl, Nat.le_of_ble_eq_true rfl⟩) hS hFc hFc rfl (fun t H1 locs ht hB hk1 hS => ?_)
      obtain ⟨hP1, hD1⟩ := hB
      rw [ht] at hP1
      obtain ⟨hP, hD⟩ := va_joinQ (wr := [(oc7 sh (.ref fa) (nI ft)), (oq fa cF 200 FA), (oc1 fe2 rk2 wd2 tw2 pa2 pb2 (.ref lo2) (.ref lk2) fm2), (oc4 lk2 (kd f0) (st f0) .null gb2 jt2 we2)]) (w1 := [(oc8 x (.ref sh) (.ref lw) (.ref ro) (.ref bq) (.ref bp) (.ref dq) (.ref dp) (.ref lv) (.ref sl) ds sd ul 2)]) hP hD [0] [1, 2, 3, 4] rfl rfl (by decide) (by decide) hk1 hFc hP1 hD1
      clear hk1 hPc hDc hFc hP1 hD1 ht
      generalize H1 = H at hP hS ⊢
      have hP := hP.part (cx := [(oc8 x (.ref sh) (.ref lw) (.ref ro) (.ref bq) (.ref bp) (.ref dq) (.ref dp) (.ref lv) (.ref sl) ds sd ul 2), (oc7 sh (.ref fa) (nI ft)), (oq fa cF 200 FA), (oc1 fe2 rk2 wd2 tw2 pa2 pb2 (.ref lo2) (.ref lk2) fm2), (oc4 lk2 (kd f0) (st f0) .null gb2 jt2 we2)]) [4, 0, 1, 2, 3] rfl
      have hD := hD.part (cx := [(oc8 x (.ref sh) (.ref lw) (.ref ro) (.ref bq) (.ref bp) (.ref dq) (.ref dp) (.ref lv) (.ref sl) ds sd ul 2), (oc7 sh (.ref fa) (nI ft)), (oq fa cF 200 FA), (oc1 fe2 rk2 wd2 tw2 pa2 pb2 (.ref lo2) (.ref lk2) fm2), (oc4 lk2 (kd f0) (st f0) .null gb2 jt2 we2)]) [4, 0, 1, 2, 3] (by decide) rfl
      have hP : va_P (dC, dI) classes ([(oc8 x (.ref sh) (.ref lw) (.ref ro) (.ref bq) (.ref bp) (.ref dq) (.ref dp) (.ref lv) (.ref sl) ds sd ul 2), (oc7 sh (.ref fa) (nI ft)), (oq fa cF 200 FA), (oc1 fe2 rk2 wd2 tw2 pa2 pb2 (.ref lo2) (.ref lk2) fm2), (oc4 lk2 (kd f0) (st f0) .null gb2 jt2 we2)] ++ va_pl T_1 f) H := hP
      have hD : va_D A ([(oc8 x (.ref sh) (.ref lw) (.ref ro) (.ref bq) (.ref bp) (.ref dq) (.ref dp) (.ref lv) (.ref sl) ds sd ul 2), (oc7 sh (.ref fa) (nI ft)), (oq fa cF 200 FA), (oc1 fe2 rk2 wd2 tw2 pa2 pb2 (.ref lo2) (.ref lk2) fm2), (oc4 lk2 (kd f0) (st f0) .null gb2 jt2 we2)] ++ va_pl T_1 f) := hD
      have hP := pl_back (cs := [(oc1 fe2 rk2 wd2 tw2 pa2 pb2 (.ref lo2) (.ref lk2) fm2), (oc4 lk2 (kd f0) (st f0) .null gb2 jt2 we2)]) (L := L) (f := f) (X := [(oc8 x (.ref sh) (.ref lw) (.ref ro) (.ref bq) (.ref bp) (.ref dq) (.ref dp) (.ref lv) (.ref sl) ds sd ul 2), (oc7 sh (.ref fa) (nI ft)), (oq fa cF 200 FA)]) (by rw [hT_1]; exact (show va_P (dC, dI) classes (([(oc8 x (.ref sh) (.ref lw) (.ref ro) (.ref bq) (.ref bp) (.ref dq) (.ref dp) (.ref lv) (.ref sl) ds sd ul 2), (oc7 sh (.ref fa) (nI ft)), (oq fa cF 200 FA)] ++ [(oc1 fe2 rk2 wd2 tw2 pa2 pb2 (.ref lo2) (.ref lk2) fm2), (oc4 lk2 (kd f0) (st f0) .null gb2 jt2 we2)]) ++ va_pl T_1 f) H from hP)) hc9_1
      have hD : va_D A ([(oc8 x (.ref sh) (.ref lw) (.ref ro) (.ref bq) (.ref bp) (.ref dq) (.ref dp) (.ref lv) (.ref sl) ds sd ul 2), (oc7 sh (.ref fa) (nI ft)), (oq fa cF 200 FA)] ++ va_pl L f) := vaD_ae hD0_1 rfl
      have hP9 := hP.part (cx := [(oc8 x (.ref sh) (.ref lw) (.ref ro) (.ref bq) (.ref bp) (.ref dq) (.ref dp) (.ref lv) (.ref sl) ds sd ul 2), (oc7 sh (.ref fa) (nI ft)), (oq fa cF 200 FA)]) [0, 1, 2] rfl
      have hD9 := hD.part (cx := [(oc8 x (.ref sh) (.ref lw) (.ref ro) (.ref bq) (.ref bp) (.ref dq) (.ref dp) (.ref lv) (.ref sl) ds sd ul 2), (oc7 sh (.ref fa) (nI ft)), (oq fa cF 200 FA)]) [0, 1, 2] (by decide) rfl
      rw [hQ9]
      exact W.iret (v := (-1)) hx hb hr (fun t ht hW => ⟨⟨rfl, ul, 2, by rw [ht]; exact hP9, hD9⟩, hS.F ht⟩) hS.2.2 dX10_corner_37
  · skip
    have hcap2 := hrr2.1
    have hcap3 := hrr2.2.1
    have hc9_1 : inPl L f [(oc1 fe2 rk2 wd2 tw2 pa2 pb2 (.ref lo2) (.ref lk2) fm2), (oc4 lk2 (kd f0) (st f0) (.ref r2) gb2 jt2 we2), (oc6 r2 (.ref rx2) (.ref ry2) (nI (nN (mn f0))) rg2), (oa rx2 cI cap2 U2), (oa ry2 cI cap2 V2)] := ⟨hfe2, hlk2, hr2, hrx2, hry2, trivial⟩
    have hD0_1 := hD
    obtain ⟨hP, hD⟩ := pl_out hP hD [(oc1 fe2 rk2 wd2 tw2 pa2 pb2 (.ref lo2) (.ref lk2) fm2), (oc4 lk2 (kd f0) (st f0) (.ref r2) gb2 jt2 we2), (oc6 r2 (.ref rx2) (.ref ry2) (nI (nN (mn f0))) rg2), (oa rx2 cI cap2 U2), (oa ry2 cI cap2 V2)] hc9_1 (pwR hfe2.2 hlk2.2 hr2.2 hrx2.2 hry2.2 hne2)
    generalize hT_1 : outPl L [(oc1 fe2 rk2 wd2 tw2 pa2 pb2 (.ref lo2) (.ref lk2) fm2), (oc4 lk2 (kd f0) (st f0) (.ref r2) gb2 jt2 we2), (oc6 r2 (.ref rx2) (.ref ry2) (nI (nN (mn f0))) rg2), (oa rx2 cI cap2 U2), (oa ry2 cI cap2 V2)] = T_1 at hP hD
    have hP : va_P (dC, dI) classes ([(oc8 x (.ref sh) (.ref lw) (.ref ro) (.ref bq) (.ref bp) (.ref dq) (.ref dp) (.ref lv) (.ref sl) ds sd ul su), (oc7 sh (.ref fa) (nI ft)), (oq fa cF 200 FA), (oc1 fe2 rk2 wd2 tw2 pa2 pb2 (.ref lo2) (.ref lk2) fm2), (oc4 lk2 (kd f0) (st f0) (.ref r2) gb2 jt2 we2), (oc6 r2 (.ref rx2) (.ref ry2) (nI (nN (mn f0))) rg2), (oa rx2 cI cap2 U2), (oa ry2 cI cap2 V2)] ++ va_pl T_1 f) s.heap := hP
    have hD : va_D A ([(oc8 x (.ref sh) (.ref lw) (.ref ro) (.ref bq) (.ref bp) (.ref dq) (.ref dp) (.ref lv) (.ref sl) ds sd ul su), (oc7 sh (.ref fa) (nI ft)), (oq fa cF 200 FA), (oc1 fe2 rk2 wd2 tw2 pa2 pb2 (.ref lo2) (.ref lk2) fm2), (oc4 lk2 (kd f0) (st f0) (.ref r2) gb2 jt2 we2), (oc6 r2 (.ref rx2) (.ref ry2) (nI (nN (mn f0))) rg2), (oa rx2 cI cap2 U2), (oa ry2 cI cap2 V2)] ++ va_pl T_1 f) := hD
    refine lv_aload_n hx hb dX10_corner_0 rfl (lv_at hl 0 rfl) ?_
    refine va_get (D := (dC, dI)) (ci := 8) (v := .ref sh) (C := RX10) (T := TX10) (N := 13) hx hb hts inX10 hown hK hP 0 rfl rfl 0 (by decide) (hts _ mw_309) (fun _ h9 => h9) rfl dX10_corner_1 ?_
    refine lv_iload_n hx hb dX10_corner_4 rfl (lv_at hl 1 rfl) ?_
    have hPc := hP.sub (ws' := [(oc7 sh (.ref fa) (nI ft)), (oq fa cF 200 FA)]) [1, 2] rfl
    have hDc := hD.sub (ws' := [(oc7 sh (.ref fa) (nI ft)), (oq fa cF 200 FA)]) [1, 2] (by decide) rfl
    have hFc := va_free (wc := [(oc7 sh (.ref fa) (nI ft)), (oq fa cF 200 FA)]) hD hS hA [1, 2] rfl
    refine zcall (st1 := [.ref fe2]) (va_runV (As := [.int (nI f0)]) (rest := []) ⟨hx, hb, hml, hown, hts⟩ (k_Sheet_find l dC dI cI cZ cF s.heap.size sh fa ft FA f0 fe2 (by omega) (by omega) (hFA2)) (cwV 1 hts (zz_gV mw_498 mw_499 mw_500 mw_100 mc_yX8_find) rfl rfl rfl (by decide +kernel) ⟨Nat.le_of_ble_eq_true rfl, Nat.le_of_ble_eq_true rfl⟩) (zPV2 (q0 := 0) (ci := 7) hPc hDc hK hXN rfl rfl) rfl rfl hl.1 rfl (lv_room (Nat.le_of_ble_eq_true rfl)) dX10_corner_5 ⟨Nat.le_of_ble_eq_true rfl, Nat.le_of_ble_eq_true rfl⟩) hS hFc hFc rfl (fun t H1 locs ht hB hk1 hS => ?_)
    obtain ⟨hP1, hD1⟩ := hB
    rw [ht] at hP1
    obtain ⟨hP, hD⟩ := va_joinQ (wr := [(oc8 x (.ref sh) (.ref lw) (.ref ro) (.ref bq) (.ref bp) (.ref dq) (.ref dp) (.ref lv) (.ref sl) ds sd ul su), (oc1 fe2 rk2 wd2 tw2 pa2 pb2 (.ref lo2) (.ref lk2) fm2), (oc4 lk2 (kd f0) (st f0) (.ref r2) gb2 jt2 we2), (oc6 r2 (.ref rx2) (.ref ry2) (nI (nN (mn f0))) rg2), (oa rx2 cI cap2 U2), (oa ry2 cI cap2 V2)]) (w1 := [(oc7 sh (.ref fa) (nI ft)), (oq fa cF 200 FA)]) hP hD [1, 2] [0, 3, 4, 5, 6, 7] rfl rfl (by decide) (by decide) hk1 hFc hP1 hD1
    clear hk1 hPc hDc hFc hP1 hD1 ht
    generalize H1 = H at hP hS ⊢
    have hP := hP.part (cx := [(oc8 x (.ref sh) (.ref lw) (.ref ro) (.ref bq) (.ref bp) (.ref dq) (.ref dp) (.ref lv) (.ref sl) ds sd ul su), (oc7 sh (.ref fa) (nI ft)), (oq fa cF 200 FA), (oc1 fe2 rk2 wd2 tw2 pa2 pb2 (.ref lo2) (.ref lk2) fm2), (oc4 lk2 (kd f0) (st f0) (.ref r2) gb2 jt2 we2), (oc6 r2 (.ref rx2) (.ref ry2) (nI (nN (mn f0))) rg2), (oa rx2 cI cap2 U2), (oa ry2 cI cap2 V2)]) [0, 6, 7, 1, 2, 3, 4, 5] rfl
    have hD := hD.part (cx := [(oc8 x (.ref sh) (.ref lw) (.ref ro) (.ref bq) (.ref bp) (.ref dq) (.ref dp) (.ref lv) (.ref sl) ds sd ul su), (oc7 sh (.ref fa) (nI ft)), (oq fa cF 200 FA), (oc1 fe2 rk2 wd2 tw2 pa2 pb2 (.ref lo2) (.ref lk2) fm2), (oc4 lk2 (kd f0) (st f0) (.ref r2) gb2 jt2 we2), (oc6 r2 (.ref rx2) (.ref ry2) (nI (nN (mn f0))) rg2), (oa rx2 cI cap2 U2), (oa ry2 cI cap2 V2)]) [0, 6, 7, 1, 2, 3, 4, 5] (by decide) rfl
    have hP : va_P (dC, dI) classes ([(oc8 x (.ref sh) (.ref lw) (.ref ro) (.ref bq) (.ref bp) (.ref dq) (.ref dp) (.ref lv) (.ref sl) ds sd ul su), (oc7 sh (.ref fa) (nI ft)), (oq fa cF 200 FA), (oc1 fe2 rk2 wd2 tw2 pa2 pb2 (.ref lo2) (.ref lk2) fm2), (oc4 lk2 (kd f0) (st f0) (.ref r2) gb2 jt2 we2), (oc6 r2 (.ref rx2) (.ref ry2) (nI (nN (mn f0))) rg2), (oa rx2 cI cap2 U2), (oa ry2 cI cap2 V2)] ++ va_pl T_1 f) H := hP
    have hD : va_D A ([(oc8 x (.ref sh) (.ref lw) (.ref ro) (.ref bq) (.ref bp) (.ref dq) (.ref dp) (.ref lv) (.ref sl) ds sd ul su), (oc7 sh (.ref fa) (nI ft)), (oq fa cF 200 FA), (oc1 fe2 rk2 wd2 tw2 pa2 pb2 (.ref lo2) (.ref lk2) fm2), (oc4 lk2 (kd f0) (st f0) (.ref r2) gb2 jt2 we2), (oc6 r2 (.ref rx2) (.ref ry2) (nI (nN (mn f0))) rg2), (oa rx2 cI cap2 U2), (oa ry2 cI cap2 V2)] ++ va_pl T_1 f) := hD
    refine lv_astore (lv' := [(4, .ref fe2), (0, .ref x), (1, .int (nI f0)), (2, .int px), (3, .int py)]) hx hb dX10_corner_8 hl (by decide) rfl (fun ls hl => ?_)
    refine lv_aload hx hb dX10_corner_10 (lv_at hl 0 rfl) ?_
    refine lv_ifnonnull (tgt := 21) hx hb dX10_corner_12 (by decide) ?_
    refine lv_aload hx hb dX10_corner_21 (lv_at hl 0 rfl) ?_
    refine va_get (D := (dC, dI)) (ci := 1) (v := .ref lk2) (C := RX2) (T := TX2) (N := 8) hx hb hts inX2 hown hK hP 3 rfl rfl 6 (by decide) (hts _ mw_433) (fun _ h9 => h9) rfl dX10_corner_23 ?_
    refine va_get (D := (dC, dI)) (ci := 4) (v := .int (st f0)) (C := RX5) (T := TX5) (N := 6) hx hb hts inX5 hown hK hP 4 rfl rfl 1 (by decide) (hts _ mw_385) (fun _ h9 => h9) rfl dX10_corner_26 ?_
    refine lv_if_eq (tgt := 38) hx hb dX10_corner_29 (by decide) (fun c_3 => ?_) (fun c_3 => ?_)
    · have c_3 : (st f0).toInt = 0 := zc_eq rfl (by decide) c_3
      refine lv_iload_n hx hb dX10_corner_38 rfl (lv_at hl 3 rfl) ?_
      refine lv_iload_n hx hb dX10_corner_39 rfl (lv_at hl 4 rfl) ?_
      have hPc := hP.sub (ws' := []) [] rfl
      have hDc := hD.sub (ws' := []) [] (by decide) rfl
      have hFc := va_free (wc := []) hD hS hA [] rfl
      refine zcall (st1 := [.int (pI (pl px ∧ pl py))]) (va_runS (As := [.int px, .int py]) (rest := []) ⟨hx, hb, hml, hown, hts⟩ (k_isPlace l dC dI cI cZ cF H.size px py ) (va_cwS 2 hts (zz_gS mw_502 mw_503 mw_99 mc_yX10_isPlace) rfl rfl rfl (by decide +kernel) ⟨Nat.le_of_ble_eq_true rfl, Nat.le_of_ble_eq_true rfl⟩) (zPS2 hPc hDc hK hXN) rfl rfl hl.1 rfl (lv_room (Nat.le_of_ble_eq_true rfl)) dX10_corner_40 ⟨Nat.le_of_ble_eq_true rfl, Nat.le_of_ble_eq_true rfl⟩) hS hFc hFc rfl (fun t H1 locs ht hB hk1 hS => ?_)
      obtain ⟨hP1, hD1⟩ := hB
      rw [ht] at hP1
      obtain ⟨hP, hD⟩ := va_joinQ (wr := [(oc8 x (.ref sh) (.ref lw) (.ref ro) (.ref bq) (.ref bp) (.ref dq) (.ref dp) (.ref lv) (.ref sl) ds sd ul su), (oc7 sh (.ref fa) (nI ft)), (oq fa cF 200 FA), (oc1 fe2 rk2 wd2 tw2 pa2 pb2 (.ref lo2) (.ref lk2) fm2), (oc4 lk2 (kd f0) (st f0) (.ref r2) gb2 jt2 we2), (oc6 r2 (.ref rx2) (.ref ry2) (nI (nN (mn f0))) rg2), (oa rx2 cI cap2 U2), (oa ry2 cI cap2 V2)]) (w1 := []) hP hD [] [0, 1, 2, 3, 4, 5, 6, 7] rfl rfl (by decide) (by decide) hk1 hFc hP1 hD1
      clear hk1 hPc hDc hFc hP1 hD1 ht
      generalize H1 = H at hP hS ⊢
      have hP : va_P (dC, dI) classes ([(oc8 x (.ref sh) (.ref lw) (.ref ro) (.ref bq) (.ref bp) (.ref dq) (.ref dp) (.ref lv) (.ref sl) ds sd ul su), (oc7 sh (.ref fa) (nI ft)), (oq fa cF 200 FA), (oc1 fe2 rk2 wd2 tw2 pa2 pb2 (.ref lo2) (.ref lk2) fm2), (oc4 lk2 (kd f0) (st f0) (.ref r2) gb2 jt2 we2), (oc6 r2 (.ref rx2) (.ref ry2) (nI (nN (mn f0))) rg2), (oa rx2 cI cap2 U2), (oa ry2 cI cap2 V2)] ++ va_pl T_1 f) H := hP
      have hD : va_D A ([(oc8 x (.ref sh) (.ref lw) (.ref ro) (.ref bq) (.ref bp) (.ref dq) (.ref dp) (.ref lv) (.ref sl) ds sd ul su), (oc7 sh (.ref fa) (nI ft)), (oq fa cF 200 FA), (oc1 fe2 rk2 wd2 tw2 pa2 pb2 (.ref lo2) (.ref lk2) fm2), (oc4 lk2 (kd f0) (st f0) (.ref r2) gb2 jt2 we2), (oc6 r2 (.ref rx2) (.ref ry2) (nI (nN (mn f0))) rg2), (oa rx2 cI cap2 U2), (oa ry2 cI cap2 V2)] ++ va_pl T_1 f) := hD
      refine lv_if_ne (tgt := 52) hx hb dX10_corner_43 (by decide) (fun c_4 => ?_) (fun c_4 => ?_)
      · have c_4 : pl px ∧ pl py := zp_1 c_4
        refine lv_aload hx hb dX10_corner_52 (lv_at hl 0 rfl) ?_
        refine va_get (D := (dC, dI)) (ci := 1) (v := .ref lk2) (C := RX2) (T := TX2) (N := 8) hx hb hts inX2 hown hK hP 3 rfl rfl 6 (by decide) (hts _ mw_433) (fun _ h9 => h9) rfl dX10_corner_54 ?_
        refine va_get (D := (dC, dI)) (ci := 4) (v := .ref r2) (C := RX5) (T := TX5) (N := 6) hx hb hts inX5 hown hK hP 4 rfl rfl 2 (by decide) (hts _ mw_391) (fun _ h9 => h9) rfl dX10_corner_57 ?_
        refine lv_astore (lv' := [(5, .ref r2), (4, .ref fe2), (0, .ref x), (1, .int (nI f0)), (2, .int px), (3, .int py)]) hx hb dX10_corner_60 hl (by decide) rfl (fun ls hl => ?_)
        refine lv_aload hx hb dX10_corner_62 (lv_at hl 0 rfl) ?_
        refine lv_ifnonnull (tgt := 73) hx hb dX10_corner_64 (by decide) ?_
        refine lv_aload hx hb dX10_corner_73 (lv_at hl 0 rfl) ?_
        refine va_get (D := (dC, dI)) (ci := 6) (v := .int (nI (nN (mn f0)))) (C := RX7) (T := TX7) (N := 4) hx hb hts inX7 hown hK hP 5 rfl rfl 2 (by decide) (hts _ mw_179) (fun _ h9 => h9) rfl dX10_corner_75 ?_
        refine lv_aload hx hb dX10_corner_78 (lv_at hl 1 rfl) ?_
        refine va_get (D := (dC, dI)) (ci := 1) (v := .ref lk2) (C := RX2) (T := TX2) (N := 8) hx hb hts inX2 hown hK hP 3 rfl rfl 6 (by decide) (hts _ mw_433) (fun _ h9 => h9) rfl dX10_corner_80 ?_
        refine va_get (D := (dC, dI)) (ci := 4) (v := .int (kd f0)) (C := RX5) (T := TX5) (N := 6) hx hb hts inX5 hown hK hP 4 rfl rfl 0 (by decide) (hts _ mw_381) (fun _ h9 => h9) rfl dX10_corner_83 ?_
        have hPc := hP.sub (ws' := []) [] rfl
        have hDc := hD.sub (ws' := []) [] (by decide) rfl
        have hFc := va_free (wc := []) hD hS hA [] rfl
        refine zcall (st1 := [.int (nI (if (kd f0).toInt = 0 then 1 else 40)), .int (nI (nN (mn f0)))]) (va_runS (As := [.int (kd f0)]) (rest := [.int (nI (nN (mn f0)))]) ⟨hx, hb, hml, hown, hts⟩ (k_mostCorners l dC dI cI cZ cF H.size (kd f0) ) (va_cwS 1 hts (zz_gS mw_456 mw_457 mw_99 mc_yX10_mostCorners) rfl rfl rfl (by decide +kernel) ⟨Nat.le_of_ble_eq_true rfl, Nat.le_of_ble_eq_true rfl⟩) (zPS2 hPc hDc hK hXN) rfl rfl hl.1 rfl (lv_room (Nat.le_of_ble_eq_true rfl)) dX10_corner_86 ⟨Nat.le_of_ble_eq_true rfl, Nat.le_of_ble_eq_true rfl⟩) hS hFc hFc rfl (fun t H1 locs ht hB hk1 hS => ?_)
        obtain ⟨hP1, hD1⟩ := hB
        rw [ht] at hP1
        obtain ⟨hP, hD⟩ := va_joinQ (wr := [(oc8 x (.ref sh) (.ref lw) (.ref ro) (.ref bq) (.ref bp) (.ref dq) (.ref dp) (.ref lv) (.ref sl) ds sd ul su), (oc7 sh (.ref fa) (nI ft)), (oq fa cF 200 FA), (oc1 fe2 rk2 wd2 tw2 pa2 pb2 (.ref lo2) (.ref lk2) fm2), (oc4 lk2 (kd f0) (st f0) (.ref r2) gb2 jt2 we2), (oc6 r2 (.ref rx2) (.ref ry2) (nI (nN (mn f0))) rg2), (oa rx2 cI cap2 U2), (oa ry2 cI cap2 V2)]) (w1 := []) hP hD [] [0, 1, 2, 3, 4, 5, 6, 7] rfl rfl (by decide) (by decide) hk1 hFc hP1 hD1
        clear hk1 hPc hDc hFc hP1 hD1 ht
        generalize H1 = H at hP hS ⊢
        have hP : va_P (dC, dI) classes ([(oc8 x (.ref sh) (.ref lw) (.ref ro) (.ref bq) (.ref bp) (.ref dq) (.ref dp) (.ref lv) (.ref sl) ds sd ul su), (oc7 sh (.ref fa) (nI ft)), (oq fa cF 200 FA), (oc1 fe2 rk2 wd2 tw2 pa2 pb2 (.ref lo2) (.ref lk2) fm2), (oc4 lk2 (kd f0) (st f0) (.ref r2) gb2 jt2 we2), (oc6 r2 (.ref rx2) (.ref ry2) (nI (nN (mn f0))) rg2), (oa rx2 cI cap2 U2), (oa ry2 cI cap2 V2)] ++ va_pl T_1 f) H := hP
        have hD : va_D A ([(oc8 x (.ref sh) (.ref lw) (.ref ro) (.ref bq) (.ref bp) (.ref dq) (.ref dp) (.ref lv) (.ref sl) ds sd ul su), (oc7 sh (.ref fa) (nI ft)), (oq fa cF 200 FA), (oc1 fe2 rk2 wd2 tw2 pa2 pb2 (.ref lo2) (.ref lk2) fm2), (oc4 lk2 (kd f0) (st f0) (.ref r2) gb2 jt2 we2), (oc6 r2 (.ref rx2) (.ref ry2) (nI (nN (mn f0))) rg2), (oa rx2 cI cap2 U2), (oa ry2 cI cap2 V2)] ++ va_pl T_1 f) := hD
        refine lv_icmp_lt (tgt := 99) hx hb dX10_corner_89 (by decide) (fun c_5 => ?_) (fun c_5 => ?_)
        · have c_5 : ((nN (mn f0) : Nat) : Int) < ((if (kd f0).toInt = 0 then 1 else 40 : Nat) : Int) := zc_lt (nI_toInt (by omega)) (nI_toInt (by omega)) c_5
          exact absurd ⟨by omega, by assumption, by omega, by omega⟩ hbad
        · have c_5 : ((if (kd f0).toInt = 0 then 1 else 40 : Nat) : Int) ≤ ((nN (mn f0) : Nat) : Int) := zc_nlt (nI_toInt (by omega)) (nI_toInt (by omega)) c_5
          refine lv_aload_n hx hb dX10_corner_92 rfl (lv_at hl 2 rfl) ?_
          refine lv_bipush (v := 6) hx hb dX10_corner_93 (by decide) ?_
          have hPc := hP.sub (ws' := [(oc8 x (.ref sh) (.ref lw) (.ref ro) (.ref bq) (.ref bp) (.ref dq) (.ref dp) (.ref lv) (.ref sl) ds sd ul su)]) [0] rfl
          have hDc := hD.sub (ws' := [(oc8 x (.ref sh) (.ref lw) (.ref ro) (.ref bq) (.ref bp) (.ref dq) (.ref dp) (.ref lv) (.ref sl) ds sd ul su)]) [0] (by decide) rfl
          have hFc := va_free (wc := [(oc8 x (.ref sh) (.ref lw) (.ref ro) (.ref bq) (.ref bp) (.ref dq) (.ref dp) (.ref lv) (.ref sl) ds sd ul su)]) hD hS hA [0] rfl
          refine zcall (st1 := [.int (-1)]) (va_runV (As := [.int 6]) (rest := []) ⟨hx, hb, hml, hown, hts⟩ (k_refuse_6 l dC dI cI cZ cF H.size x sh lw ro bq bp dq dp lv sl sd ul su ds ) (cwV 1 hts (zz_gV mw_356 mw_358 mw_0 mw_99 mc_yX10_refuse) rfl rfl rfl (by decide +kernel) ⟨Nat.le_of_ble_eq_true rfl, Nat.le_of_ble_eq_true rfl⟩) (zPV2 (q0 := 0) (ci := 8) hPc hDc hK hXN rfl rfl) rfl rfl hl.1 rfl (lv_room (Nat.le_of_ble_eq_true rfl)) dX10_corner_95 ⟨Nat.le_of_ble_eq_true rfl, Nat.le_of_ble_eq_true rfl⟩) hS hFc hFc rfl (fun t H1 locs ht hB hk1 hS => ?_)
          obtain ⟨hP1, hD1⟩ := hB
          rw [ht] at hP1
          obtain ⟨hP, hD⟩ := va_joinQ (wr := [(oc7 sh (.ref fa) (nI ft)), (oq fa cF 200 FA), (oc1 fe2 rk2 wd2 tw2 pa2 pb2 (.ref lo2) (.ref lk2) fm2), (oc4 lk2 (kd f0) (st f0) (.ref r2) gb2 jt2 we2), (oc6 r2 (.ref rx2) (.ref ry2) (nI (nN (mn f0))) rg2), (oa rx2 cI cap2 U2), (oa ry2 cI cap2 V2)]) (w1 := [(oc8 x (.ref sh) (.ref lw) (.ref ro) (.ref bq) (.ref bp) (.ref dq) (.ref dp) (.ref lv) (.ref sl) ds sd ul 6)]) hP hD [0] [1, 2, 3, 4, 5, 6, 7] rfl rfl (by decide) (by decide) hk1 hFc hP1 hD1
          clear hk1 hPc hDc hFc hP1 hD1 ht
          generalize H1 = H at hP hS ⊢
          have hP := hP.part (cx := [(oc8 x (.ref sh) (.ref lw) (.ref ro) (.ref bq) (.ref bp) (.ref dq) (.ref dp) (.ref lv) (.ref sl) ds sd ul 6), (oc7 sh (.ref fa) (nI ft)), (oq fa cF 200 FA), (oc1 fe2 rk2 wd2 tw2 pa2 pb2 (.ref lo2) (.ref lk2) fm2), (oc4 lk2 (kd f0) (st f0) (.ref r2) gb2 jt2 we2), (oc6 r2 (.ref rx2) (.ref ry2) (nI (nN (mn f0))) rg2), (oa rx2 cI cap2 U2), (oa ry2 cI cap2 V2)]) [7, 0, 1, 2, 3, 4, 5, 6] rfl
          have hD := hD.part (cx := [(oc8 x (.ref sh) (.ref lw) (.ref ro) (.ref bq) (.ref bp) (.ref dq) (.ref dp) (.ref lv) (.ref sl) ds sd ul 6), (oc7 sh (.ref fa) (nI ft)), (oq fa cF 200 FA), (oc1 fe2 rk2 wd2 tw2 pa2 pb2 (.ref lo2) (.ref lk2) fm2), (oc4 lk2 (kd f0) (st f0) (.ref r2) gb2 jt2 we2), (oc6 r2 (.ref rx2) (.ref ry2) (nI (nN (mn f0))) rg2), (oa rx2 cI cap2 U2), (oa ry2 cI cap2 V2)]) [7, 0, 1, 2, 3, 4, 5, 6] (by decide) rfl
          have hP : va_P (dC, dI) classes ([(oc8 x (.ref sh) (.ref lw) (.ref ro) (.ref bq) (.ref bp) (.ref dq) (.ref dp) (.ref lv) (.ref sl) ds sd ul 6), (oc7 sh (.ref fa) (nI ft)), (oq fa cF 200 FA), (oc1 fe2 rk2 wd2 tw2 pa2 pb2 (.ref lo2) (.ref lk2) fm2), (oc4 lk2 (kd f0) (st f0) (.ref r2) gb2 jt2 we2), (oc6 r2 (.ref rx2) (.ref ry2) (nI (nN (mn f0))) rg2), (oa rx2 cI cap2 U2), (oa ry2 cI cap2 V2)] ++ va_pl T_1 f) H := hP
          have hD : va_D A ([(oc8 x (.ref sh) (.ref lw) (.ref ro) (.ref bq) (.ref bp) (.ref dq) (.ref dp) (.ref lv) (.ref sl) ds sd ul 6), (oc7 sh (.ref fa) (nI ft)), (oq fa cF 200 FA), (oc1 fe2 rk2 wd2 tw2 pa2 pb2 (.ref lo2) (.ref lk2) fm2), (oc4 lk2 (kd f0) (st f0) (.ref r2) gb2 jt2 we2), (oc6 r2 (.ref rx2) (.ref ry2) (nI (nN (mn f0))) rg2), (oa rx2 cI cap2 U2), (oa ry2 cI cap2 V2)] ++ va_pl T_1 f) := hD
          have hP := pl_back (cs := [(oc1 fe2 rk2 wd2 tw2 pa2 pb2 (.ref lo2) (.ref lk2) fm2), (oc4 lk2 (kd f0) (st f0) (.ref r2) gb2 jt2 we2), (oc6 r2 (.ref rx2) (.ref ry2) (nI (nN (mn f0))) rg2), (oa rx2 cI cap2 U2), (oa ry2 cI cap2 V2)]) (L := L) (f := f) (X := [(oc8 x (.ref sh) (.ref lw) (.ref ro) (.ref bq) (.ref bp) (.ref dq) (.ref dp) (.ref lv) (.ref sl) ds sd ul 6), (oc7 sh (.ref fa) (nI ft)), (oq fa cF 200 FA)]) (by rw [hT_1]; exact (show va_P (dC, dI) classes (([(oc8 x (.ref sh) (.ref lw) (.ref ro) (.ref bq) (.ref bp) (.ref dq) (.ref dp) (.ref lv) (.ref sl) ds sd ul 6), (oc7 sh (.ref fa) (nI ft)), (oq fa cF 200 FA)] ++ [(oc1 fe2 rk2 wd2 tw2 pa2 pb2 (.ref lo2) (.ref lk2) fm2), (oc4 lk2 (kd f0) (st f0) (.ref r2) gb2 jt2 we2), (oc6 r2 (.ref rx2) (.ref ry2) (nI (nN (mn f0))) rg2), (oa rx2 cI cap2 U2), (oa ry2 cI cap2 V2)]) ++ va_pl T_1 f) H from hP)) hc9_1
          have hD : va_D A ([(oc8 x (.ref sh) (.ref lw) (.ref ro) (.ref bq) (.ref bp) (.ref dq) (.ref dp) (.ref lv) (.ref sl) ds sd ul 6), (oc7 sh (.ref fa) (nI ft)), (oq fa cF 200 FA)] ++ va_pl L f) := vaD_ae hD0_1 rfl
          have hP9 := hP.part (cx := [(oc8 x (.ref sh) (.ref lw) (.ref ro) (.ref bq) (.ref bp) (.ref dq) (.ref dp) (.ref lv) (.ref sl) ds sd ul 6), (oc7 sh (.ref fa) (nI ft)), (oq fa cF 200 FA)]) [0, 1, 2] rfl
          have hD9 := hD.part (cx := [(oc8 x (.ref sh) (.ref lw) (.ref ro) (.ref bq) (.ref bp) (.ref dq) (.ref dp) (.ref lv) (.ref sl) ds sd ul 6), (oc7 sh (.ref fa) (nI ft)), (oq fa cF 200 FA)]) [0, 1, 2] (by decide) rfl
          rw [hQ9]
          exact W.iret (v := (-1)) hx hb hr (fun t ht hW => ⟨⟨rfl, ul, 6, by rw [ht]; exact hP9, hD9⟩, hS.F ht⟩) hS.2.2 dX10_corner_98
      · have c_4 : ¬ (pl px ∧ pl py) := zp_0 c_4
        refine lv_aload_n hx hb dX10_corner_46 rfl (lv_at hl 1 rfl) ?_
        refine lv_iconst (v := 4) hx hb dX10_corner_47 (by decide) ?_
        have hPc := hP.sub (ws' := [(oc8 x (.ref sh) (.ref lw) (.ref ro) (.ref bq) (.ref bp) (.ref dq) (.ref dp) (.ref lv) (.ref sl) ds sd ul su)]) [0] rfl
        have hDc := hD.sub (ws' := [(oc8 x (.ref sh) (.ref lw) (.ref ro) (.ref bq) (.ref bp) (.ref dq) (.ref dp) (.ref lv) (.ref sl) ds sd ul su)]) [0] (by decide) rfl
        have hFc := va_free (wc := [(oc8 x (.ref sh) (.ref lw) (.ref ro) (.ref bq) (.ref bp) (.ref dq) (.ref dp) (.ref lv) (.ref sl) ds sd ul su)]) hD hS hA [0] rfl
        refine zcall (st1 := [.int (-1)]) (va_runV (As := [.int 4]) (rest := []) ⟨hx, hb, hml, hown, hts⟩ (k_refuse_4 l dC dI cI cZ cF H.size x sh lw ro bq bp dq dp lv sl sd ul su ds ) (cwV 1 hts (zz_gV mw_356 mw_358 mw_0 mw_99 mc_yX10_refuse) rfl rfl rfl (by decide +kernel) ⟨Nat.le_of_ble_eq_true rfl, Nat.le_of_ble_eq_true rfl⟩) (zPV2 (q0 := 0) (ci := 8) hPc hDc hK hXN rfl rfl) rfl rfl hl.1 rfl (lv_room (Nat.le_of_ble_eq_true rfl)) dX10_corner_48 ⟨Nat.le_of_ble_eq_true rfl, Nat.le_of_ble_eq_true rfl⟩) hS hFc hFc rfl (fun t H1 locs ht hB hk1 hS => ?_)
        obtain ⟨hP1, hD1⟩ := hB
        rw [ht] at hP1
        obtain ⟨hP, hD⟩ := va_joinQ (wr := [(oc7 sh (.ref fa) (nI ft)), (oq fa cF 200 FA), (oc1 fe2 rk2 wd2 tw2 pa2 pb2 (.ref lo2) (.ref lk2) fm2), (oc4 lk2 (kd f0) (st f0) (.ref r2) gb2 jt2 we2), (oc6 r2 (.ref rx2) (.ref ry2) (nI (nN (mn f0))) rg2), (oa rx2 cI cap2 U2), (oa ry2 cI cap2 V2)]) (w1 := [(oc8 x (.ref sh) (.ref lw) (.ref ro) (.ref bq) (.ref bp) (.ref dq) (.ref dp) (.ref lv) (.ref sl) ds sd ul 4)]) hP hD [0] [1, 2, 3, 4, 5, 6, 7] rfl rfl (by decide) (by decide) hk1 hFc hP1 hD1
        clear hk1 hPc hDc hFc hP1 hD1 ht
        generalize H1 = H at hP hS ⊢
        have hP := hP.part (cx := [(oc8 x (.ref sh) (.ref lw) (.ref ro) (.ref bq) (.ref bp) (.ref dq) (.ref dp) (.ref lv) (.ref sl) ds sd ul 4), (oc7 sh (.ref fa) (nI ft)), (oq fa cF 200 FA), (oc1 fe2 rk2 wd2 tw2 pa2 pb2 (.ref lo2) (.ref lk2) fm2), (oc4 lk2 (kd f0) (st f0) (.ref r2) gb2 jt2 we2), (oc6 r2 (.ref rx2) (.ref ry2) (nI (nN (mn f0))) rg2), (oa rx2 cI cap2 U2), (oa ry2 cI cap2 V2)]) [7, 0, 1, 2, 3, 4, 5, 6] rfl
        have hD := hD.part (cx := [(oc8 x (.ref sh) (.ref lw) (.ref ro) (.ref bq) (.ref bp) (.ref dq) (.ref dp) (.ref lv) (.ref sl) ds sd ul 4), (oc7 sh (.ref fa) (nI ft)), (oq fa cF 200 FA), (oc1 fe2 rk2 wd2 tw2 pa2 pb2 (.ref lo2) (.ref lk2) fm2), (oc4 lk2 (kd f0) (st f0) (.ref r2) gb2 jt2 we2), (oc6 r2 (.ref rx2) (.ref ry2) (nI (nN (mn f0))) rg2), (oa rx2 cI cap2 U2), (oa ry2 cI cap2 V2)]) [7, 0, 1, 2, 3, 4, 5, 6] (by decide) rfl
        have hP : va_P (dC, dI) classes ([(oc8 x (.ref sh) (.ref lw) (.ref ro) (.ref bq) (.ref bp) (.ref dq) (.ref dp) (.ref lv) (.ref sl) ds sd ul 4), (oc7 sh (.ref fa) (nI ft)), (oq fa cF 200 FA), (oc1 fe2 rk2 wd2 tw2 pa2 pb2 (.ref lo2) (.ref lk2) fm2), (oc4 lk2 (kd f0) (st f0) (.ref r2) gb2 jt2 we2), (oc6 r2 (.ref rx2) (.ref ry2) (nI (nN (mn f0))) rg2), (oa rx2 cI cap2 U2), (oa ry2 cI cap2 V2)] ++ va_pl T_1 f) H := hP
        have hD : va_D A ([(oc8 x (.ref sh) (.ref lw) (.ref ro) (.ref bq) (.ref bp) (.ref dq) (.ref dp) (.ref lv) (.ref sl) ds sd ul 4), (oc7 sh (.ref fa) (nI ft)), (oq fa cF 200 FA), (oc1 fe2 rk2 wd2 tw2 pa2 pb2 (.ref lo2) (.ref lk2) fm2), (oc4 lk2 (kd f0) (st f0) (.ref r2) gb2 jt2 we2), (oc6 r2 (.ref rx2) (.ref ry2) (nI (nN (mn f0))) rg2), (oa rx2 cI cap2 U2), (oa ry2 cI cap2 V2)] ++ va_pl T_1 f) := hD
        have hP := pl_back (cs := [(oc1 fe2 rk2 wd2 tw2 pa2 pb2 (.ref lo2) (.ref lk2) fm2), (oc4 lk2 (kd f0) (st f0) (.ref r2) gb2 jt2 we2), (oc6 r2 (.ref rx2) (.ref ry2) (nI (nN (mn f0))) rg2), (oa rx2 cI cap2 U2), (oa ry2 cI cap2 V2)]) (L := L) (f := f) (X := [(oc8 x (.ref sh) (.ref lw) (.ref ro) (.ref bq) (.ref bp) (.ref dq) (.ref dp) (.ref lv) (.ref sl) ds sd ul 4), (oc7 sh (.ref fa) (nI ft)), (oq fa cF 200 FA)]) (by rw [hT_1]; exact (show va_P (dC, dI) classes (([(oc8 x (.ref sh) (.ref lw) (.ref ro) (.ref bq) (.ref bp) (.ref dq) (.ref dp) (.ref lv) (.ref sl) ds sd ul 4), (oc7 sh (.ref fa) (nI ft)), (oq fa cF 200 FA)] ++ [(oc1 fe2 rk2 wd2 tw2 pa2 pb2 (.ref lo2) (.ref lk2) fm2), (oc4 lk2 (kd f0) (st f0) (.ref r2) gb2 jt2 we2), (oc6 r2 (.ref rx2) (.ref ry2) (nI (nN (mn f0))) rg2), (oa rx2 cI cap2 U2), (oa ry2 cI cap2 V2)]) ++ va_pl T_1 f) H from hP)) hc9_1
        have hD : va_D A ([(oc8 x (.ref sh) (.ref lw) (.ref ro) (.ref bq) (.ref bp) (.ref dq) (.ref dp) (.ref lv) (.ref sl) ds sd ul 4), (oc7 sh (.ref fa) (nI ft)), (oq fa cF 200 FA)] ++ va_pl L f) := vaD_ae hD0_1 rfl
        have hP9 := hP.part (cx := [(oc8 x (.ref sh) (.ref lw) (.ref ro) (.ref bq) (.ref bp) (.ref dq) (.ref dp) (.ref lv) (.ref sl) ds sd ul 4), (oc7 sh (.ref fa) (nI ft)), (oq fa cF 200 FA)]) [0, 1, 2] rfl
        have hD9 := hD.part (cx := [(oc8 x (.ref sh) (.ref lw) (.ref ro) (.ref bq) (.ref bp) (.ref dq) (.ref dp) (.ref lv) (.ref sl) ds sd ul 4), (oc7 sh (.ref fa) (nI ft)), (oq fa cF 200 FA)]) [0, 1, 2] (by decide) rfl
        rw [hQ9]
        exact W.iret (v := (-1)) hx hb hr (fun t ht hW => ⟨⟨rfl, ul, 4, by rw [ht]; exact hP9, hD9⟩, hS.F ht⟩) hS.2.2 dX10_corner_51
    · have c_3 : ¬ (st f0).toInt = 0 := zc_ne rfl (by decide) c_3
      refine lv_aload_n hx hb dX10_corner_32 rfl (lv_at hl 1 rfl) ?_
      refine lv_iconst (v := 2) hx hb dX10_corner_33 (by decide) ?_
      have hPc := hP.sub (ws' := [(oc8 x (.ref sh) (.ref lw) (.ref ro) (.ref bq) (.ref bp) (.ref dq) (.ref dp) (.ref lv) (.ref sl) ds sd ul su)]) [0] rfl
      have hDc := hD.sub (ws' := [(oc8 x (.ref sh) (.ref lw) (.ref ro) (.ref bq) (.ref bp) (.ref dq) (.ref dp) (.ref lv) (.ref sl) ds sd ul su)]) [0] (by decide) rfl
      have hFc := va_free (wc := [(oc8 x (.ref sh) (.ref lw) (.ref ro) (.ref bq) (.ref bp) (.ref dq) (.ref dp) (.ref lv) (.ref sl) ds sd ul su)]) hD hS hA [0] rfl
      refine zcall (st1 := [.int (-1)]) (va_runV (As := [.int 2]) (rest := []) ⟨hx, hb, hml, hown, hts⟩ (k_refuse_2 l dC dI cI cZ cF H.size x sh lw ro bq bp dq dp lv sl sd ul su ds ) (cwV 1 hts (zz_gV mw_356 mw_358 mw_0 mw_99 mc_yX10_refuse) rfl rfl rfl (by decide +kernel) ⟨Nat.le_of_ble_eq_true rfl, Nat.le_of_ble_eq_true rfl⟩) (zPV2 (q0 := 0) (ci := 8) hPc hDc hK hXN rfl rfl) rfl rfl hl.1 rfl (lv_room (Nat.le_of_ble_eq_true rfl)) dX10_corner_34 ⟨Nat.le_of_ble_eq_true rfl, Nat.le_of_ble_eq_true rfl⟩) hS hFc hFc rfl (fun t H1 locs ht hB hk1 hS => ?_)
      obtain ⟨hP1, hD1⟩ := hB
      rw [ht] at hP1
      obtain ⟨hP, hD⟩ := va_joinQ (wr := [(oc7 sh (.ref fa) (nI ft)), (oq fa cF 200 FA), (oc1 fe2 rk2 wd2 tw2 pa2 pb2 (.ref lo2) (.ref lk2) fm2), (oc4 lk2 (kd f0) (st f0) (.ref r2) gb2 jt2 we2), (oc6 r2 (.ref rx2) (.ref ry2) (nI (nN (mn f0))) rg2), (oa rx2 cI cap2 U2), (oa ry2 cI cap2 V2)]) (w1 := [(oc8 x (.ref sh) (.ref lw) (.ref ro) (.ref bq) (.ref bp) (.ref dq) (.ref dp) (.ref lv) (.ref sl) ds sd ul 2)]) hP hD [0] [1, 2, 3, 4, 5, 6, 7] rfl rfl (by decide) (by decide) hk1 hFc hP1 hD1
      clear hk1 hPc hDc hFc hP1 hD1 ht
      generalize H1 = H at hP hS ⊢
      have hP := hP.part (cx := [(oc8 x (.ref sh) (.ref lw) (.ref ro) (.ref bq) (.ref bp) (.ref dq) (.ref dp) (.ref lv) (.ref sl) ds sd ul 2), (oc7 sh (.ref fa) (nI ft)), (oq fa cF 200 FA), (oc1 fe2 rk2 wd2 tw2 pa2 pb2 (.ref lo2) (.ref lk2) fm2), (oc4 lk2 (kd f0) (st f0) (.ref r2) gb2 jt2 we2), (oc6 r2 (.ref rx2) (.ref ry2) (nI (nN (mn f0))) rg2), (oa rx2 cI cap2 U2), (oa ry2 cI cap2 V2)]) [7, 0, 1, 2, 3, 4, 5, 6] rfl
      have hD := hD.part (cx := [(oc8 x (.ref sh) (.ref lw) (.ref ro) (.ref bq) (.ref bp) (.ref dq) (.ref dp) (.ref lv) (.ref sl) ds sd ul 2), (oc7 sh (.ref fa) (nI ft)), (oq fa cF 200 FA), (oc1 fe2 rk2 wd2 tw2 pa2 pb2 (.ref lo2) (.ref lk2) fm2), (oc4 lk2 (kd f0) (st f0) (.ref r2) gb2 jt2 we2), (oc6 r2 (.ref rx2) (.ref ry2) (nI (nN (mn f0))) rg2), (oa rx2 cI cap2 U2), (oa ry2 cI cap2 V2)]) [7, 0, 1, 2, 3, 4, 5, 6] (by decide) rfl
      have hP : va_P (dC, dI) classes ([(oc8 x (.ref sh) (.ref lw) (.ref ro) (.ref bq) (.ref bp) (.ref dq) (.ref dp) (.ref lv) (.ref sl) ds sd ul 2), (oc7 sh (.ref fa) (nI ft)), (oq fa cF 200 FA), (oc1 fe2 rk2 wd2 tw2 pa2 pb2 (.ref lo2) (.ref lk2) fm2), (oc4 lk2 (kd f0) (st f0) (.ref r2) gb2 jt2 we2), (oc6 r2 (.ref rx2) (.ref ry2) (nI (nN (mn f0))) rg2), (oa rx2 cI cap2 U2), (oa ry2 cI cap2 V2)] ++ va_pl T_1 f) H := hP
      have hD : va_D A ([(oc8 x (.ref sh) (.ref lw) (.ref ro) (.ref bq) (.ref bp) (.ref dq) (.ref dp) (.ref lv) (.ref sl) ds sd ul 2), (oc7 sh (.ref fa) (nI ft)), (oq fa cF 200 FA), (oc1 fe2 rk2 wd2 tw2 pa2 pb2 (.ref lo2) (.ref lk2) fm2), (oc4 lk2 (kd f0) (st f0) (.ref r2) gb2 jt2 we2), (oc6 r2 (.ref rx2) (.ref ry2) (nI (nN (mn f0))) rg2), (oa rx2 cI cap2 U2), (oa ry2 cI cap2 V2)] ++ va_pl T_1 f) := hD
      have hP := pl_back (cs := [(oc1 fe2 rk2 wd2 tw2 pa2 pb2 (.ref lo2) (.ref lk2) fm2), (oc4 lk2 (kd f0) (st f0) (.ref r2) gb2 jt2 we2), (oc6 r2 (.ref rx2) (.ref ry2) (nI (nN (mn f0))) rg2), (oa rx2 cI cap2 U2), (oa ry2 cI cap2 V2)]) (L := L) (f := f) (X := [(oc8 x (.ref sh) (.ref lw) (.ref ro) (.ref bq) (.ref bp) (.ref dq) (.ref dp) (.ref lv) (.ref sl) ds sd ul 2), (oc7 sh (.ref fa) (nI ft)), (oq fa cF 200 FA)]) (by rw [hT_1]; exact (show va_P (dC, dI) classes (([(oc8 x (.ref sh) (.ref lw) (.ref ro) (.ref bq) (.ref bp) (.ref dq) (.ref dp) (.ref lv) (.ref sl) ds sd ul 2), (oc7 sh (.ref fa) (nI ft)), (oq fa cF 200 FA)] ++ [(oc1 fe2 rk2 wd2 tw2 pa2 pb2 (.ref lo2) (.ref lk2) fm2), (oc4 lk2 (kd f0) (st f0) (.ref r2) gb2 jt2 we2), (oc6 r2 (.ref rx2) (.ref ry2) (nI (nN (mn f0))) rg2), (oa rx2 cI cap2 U2), (oa ry2 cI cap2 V2)]) ++ va_pl T_1 f) H from hP)) hc9_1
      have hD : va_D A ([(oc8 x (.ref sh) (.ref lw) (.ref ro) (.ref bq) (.ref bp) (.ref dq) (.ref dp) (.ref lv) (.ref sl) ds sd ul 2), (oc7 sh (.ref fa) (nI ft)), (oq fa cF 200 FA)] ++ va_pl L f) := vaD_ae hD0_1 rfl
      have hP9 := hP.part (cx := [(oc8 x (.ref sh) (.ref lw) (.ref ro) (.ref bq) (.ref bp) (.ref dq) (.ref dp) (.ref lv) (.ref sl) ds sd ul 2), (oc7 sh (.ref fa) (nI ft)), (oq fa cF 200 FA)]) [0, 1, 2] rfl
      have hD9 := hD.part (cx := [(oc8 x (.ref sh) (.ref lw) (.ref ro) (.ref bq) (.ref bp) (.ref dq) (.ref dp) (.ref lv) (.ref sl) ds sd ul 2), (oc7 sh (.ref fa) (nI ft)), (oq fa cF 200 FA)]) [0, 1, 2] (by decide) rfl
      rw [hQ9]
      exact W.iret (v := (-1)) hx hb hr (fun t ht hW => ⟨⟨rfl, ul, 2, by rw [ht]; exact hP9, hD9⟩, hS.F ht⟩) hS.2.2 dX10_corner_37
