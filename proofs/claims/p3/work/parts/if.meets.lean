section
set_option maxHeartbeats 4000000 in
set_option maxRecDepth 100000 in
theorem k_meets_z (l : Launch) (dC : Nat → ClassId) (dI : Nat → Nat → Nat) (cI cZ cF : ClassId) (sz : Nat) (x : Nat) (sh : Nat) (lw : Nat) (ro : Nat) (bq : Nat) (bp : Nat) (dq : Nat) (dp : Nat) (lv : Nat) (sl : Nat) (sd : Int32) (ul : Int32) (su : Int32) (ds : Int32) (fa : Nat) (ft : Nat) (FA : Nat → Option Nat) (L : List Nat) (f : Nat → va_E) (kd : Nat → Int32) (st : Nat → Int32) (tn : Nat → Int32) (mn : Nat → Int32) (cx : Nat → Int32) (cy : Nat → Int32) (rk : Nat → Int32) (wd : Nat → Int32) (tw : Nat → Int32) (pa : Nat → Int32) (pb : Nat → Int32) (gb : Nat → Int32) (it : Nat → Int32) (v : Int32) (w : Int32) (h200 : ft ≤ 200) (hva : ∀ q, q < ft → vwA cI L f FA rk wd tw pa pb kd st gb it tn mn cx cy q) (hbad : ¬ ((∃ f, v = nI f ∧ lvF ft st tn f) ∧ ∃ g, w = nI g ∧ lvF ft st tn g)) : Met l yX10_meets (.code yX10_meets cX10_meets 5 (some .boolean) :: ws0) ({ frames := 2, cells := 0, slots := 0, locals := 43 } : Room) (va_Pc [.ref x, .int v, .int w] (zPre (dC, dI) classes (zTy cI cZ cF) ([(oc8 x (.ref sh) (.ref lw) (.ref ro) (.ref bq) (.ref bp) (.ref dq) (.ref dp) (.ref lv) (.ref sl) ds sd ul su), (oc7 sh (.ref fa) (nI ft)), (oq fa cF 200 FA)] ++ va_pl L f) sz zXN)) (zQ (some (.int 0)) (fun t => va_P (dC, dI) classes ([(oc8 x (.ref sh) (.ref lw) (.ref ro) (.ref bq) (.ref bp) (.ref dq) (.ref dp) (.ref lv) (.ref sl) ds sd ul su), (oc7 sh (.ref fa) (nI ft)), (oq fa cF 200 FA)] ++ va_pl L f) t.heap ∧ va_D (va_A ([(oc8 x (.ref sh) (.ref lw) (.ref ro) (.ref bq) (.ref bp) (.ref dq) (.ref dp) (.ref lv) (.ref sl) ds sd ul su), (oc7 sh (.ref fa) (nI ft)), (oq fa cF 200 FA)] ++ va_pl L f) sz) ([(oc8 x (.ref sh) (.ref lw) (.ref ro) (.ref bq) (.ref bp) (.ref dq) (.ref dp) (.ref lv) (.ref sl) ds sd ul su), (oc7 sh (.ref fa) (nI ft)), (oq fa cF 200 FA)] ++ va_pl L f)) (va_A ([(oc8 x (.ref sh) (.ref lw) (.ref ro) (.ref bq) (.ref bp) (.ref dq) (.ref dp) (.ref lv) (.ref sl) ds sd ul su), (oc7 sh (.ref fa) (nI ft)), (oq fa cF 200 FA)] ++ va_pl L f) sz)) 0 0 (va_A ([(oc8 x (.ref sh) (.ref lw) (.ref ro) (.ref bq) (.ref bp) (.ref dq) (.ref dp) (.ref lv) (.ref sl) ds sd ul su), (oc7 sh (.ref fa) (nI ft)), (oq fa cF 200 FA)] ++ va_pl L f) sz) := by
  refine Met.ofW (cc := cX10_meets) (maxL := 5) (ret := (some .boolean)) rfl rfl ?_
  intro p e s m args below meth c s₁ B hml hv
  obtain ⟨rfl, hsz, hP, hK, hD0, hXN⟩ := hv
  have hx := B.exec
  have hb := B.bytes
  have hr := B.returns
  have hts0 := atoms_spec (ws := .code yX10_meets cX10_meets 5 (some .boolean) :: ws0) B.pre
  have hts : ∀ w9 ∈ ws0, w9.before ([.ref x, .int v, .int w] : List Value).toArray s = true := fun w9 h => hts0 w9 (List.mem_cons_of_mem _ h)
  have hown : s.vm.findClass "ScaleShop" = some m.cls := findClass_of_methodNamed B.named
  have hlocks := B.notSynchronized
  subst hsz
  have hD := hD0.self (sz := s.heap.size)
  clear hD0
  generalize hAe : va_A ([(oc8 x (.ref sh) (.ref lw) (.ref ro) (.ref bq) (.ref bp) (.ref dq) (.ref dp) (.ref lv) (.ref sl) ds sd ul su), (oc7 sh (.ref fa) (nI ft)), (oq fa cF 200 FA)] ++ va_pl L f) s.heap.size = A at hD ⊢
  have hA : ∀ q : Nat, s.heap.size ≤ q → A q := fun q h => by rw [← hAe]; exact Or.inr h
  clear hAe
  have hS : va_S A s.heap s.heap [] := va_S.rf
  have hP : va_P (dC, dI) classes ([(oc8 x (.ref sh) (.ref lw) (.ref ro) (.ref bq) (.ref bp) (.ref dq) (.ref dp) (.ref lv) (.ref sl) ds sd ul su), (oc7 sh (.ref fa) (nI ft)), (oq fa cF 200 FA)] ++ va_pl L f) s.heap := hP
  obtain ⟨Q9, hQ9⟩ : ∃ Q9 : State → Prop, Q9 = MQ below (zQ (some (.int 0)) (fun t => va_P (dC, dI) classes ([(oc8 x (.ref sh) (.ref lw) (.ref ro) (.ref bq) (.ref bp) (.ref dq) (.ref dp) (.ref lv) (.ref sl) ds sd ul su), (oc7 sh (.ref fa) (nI ft)), (oq fa cF 200 FA)] ++ va_pl L f) t.heap ∧ va_D A ([(oc8 x (.ref sh) (.ref lw) (.ref ro) (.ref bq) (.ref bp) (.ref dq) (.ref dp) (.ref lv) (.ref sl) ds sd ul su), (oc7 sh (.ref fa) (nI ft)), (oq fa cF 200 FA)] ++ va_pl L f)) A) ([.ref x, .int v, .int w] : List Value).toArray s 0 0 A := ⟨_, rfl⟩
  rw [← hQ9]
  have hl := lv_entry ([.ref x, .int v, .int w]) (n := 5) (Nat.le_of_ble_eq_true rfl)
  rw [lg_entry_eq]
  generalize (lg_sl ([.ref x, .int v, .int w]) ++ List.replicate (5 - (lg_sl ([.ref x, .int v, .int w])).length) Slot.unset).toArray = ls at hl ⊢
  have hl : lv_has ls 5 [(0, .ref x), (1, .int v), (2, .int w)] := hl
  rcases v_c (v := v) (ft := ft) h200 with hb2 | ⟨f0, hq2, rfl⟩
  · skip
    refine lv_aload_n hx hb dX10_meets_0 rfl (lv_at hl 0 rfl) ?_
    refine va_get (D := (dC, dI)) (ci := 8) (v := .ref sh) (C := RX10) (T := TX10) (N := 13) hx hb hts inX10 hown hK hP 0 rfl rfl 0 (Nat.le_of_ble_eq_true rfl) (hts _ mw_309) (fun _ h9 => h9) rfl dX10_meets_1 ?_
    refine lv_iload_n hx hb dX10_meets_4 rfl (lv_at hl 1 rfl) ?_
    obtain ⟨hPc, hDc, hFc⟩ := zc_sub (wc := [(oc7 sh (.ref fa) (nI ft)), (oq fa cF 200 FA)]) hP hD hS hA [1, 2] rfl rfl
    refine zcall (st1 := [.null]) (va_runV (As := [.int v]) (rest := []) ⟨hx, hb, hml, hown, hts⟩ (k_Sheet_rowThere_x l dC dI cI cZ cF s.heap.size sh fa ft FA v (h200) (hb2)) (csV_144 hts rfl rfl ⟨Nat.le_of_ble_eq_true rfl, Nat.le_of_ble_eq_true rfl⟩) (zPV2 (q0 := 0) (ci := 7) hPc hDc hK hXN rfl rfl) rfl rfl hl.1 rfl (lv_room (Nat.le_of_ble_eq_true rfl)) dX10_meets_5 ⟨Nat.le_of_ble_eq_true rfl, Nat.le_of_ble_eq_true rfl⟩) hS hFc hFc rfl (fun t H locs ht hB hk1 hS => ?_)
    obtain ⟨hP1, hD1⟩ := hB
    rw [ht] at hP1
    obtain ⟨hP, hD⟩ := zkQ (W2 := [(oc8 x (.ref sh) (.ref lw) (.ref ro) (.ref bq) (.ref bp) (.ref dq) (.ref dp) (.ref lv) (.ref sl) ds sd ul su), (oc7 sh (.ref fa) (nI ft)), (oq fa cF 200 FA)]) hP hD [1, 2] [0] [0] [1, 2] [0, 1, 2] 3 rfl rfl rfl rfl rfl rfl rfl rfl rfl hk1 hFc hP1 hD1
    clear hk1 hPc hDc hFc hP1 hD1 ht
    refine lv_astore_nN (lv' := [(3, .null), (0, .ref x), (1, .int v), (2, .int w)]) hx hb dX10_meets_8 rfl hl (Nat.le_of_ble_eq_true rfl) rfl (fun ls hl => ?_)
    rcases v_c (v := w) (ft := ft) h200 with hb3 | ⟨g0, hq3, rfl⟩
    · skip
      refine lv_aload_n hx hb dX10_meets_9 rfl (lv_at hl 1 rfl) ?_
      refine va_get (D := (dC, dI)) (ci := 8) (v := .ref sh) (C := RX10) (T := TX10) (N := 13) hx hb hts inX10 hown hK hP 0 rfl rfl 0 (Nat.le_of_ble_eq_true rfl) (hts _ mw_309) (fun _ h9 => h9) rfl dX10_meets_10 ?_
      refine lv_iload_n hx hb dX10_meets_13 rfl (lv_at hl 3 rfl) ?_
      obtain ⟨hPc, hDc, hFc⟩ := zc_sub (wc := [(oc7 sh (.ref fa) (nI ft)), (oq fa cF 200 FA)]) hP hD hS hA [1, 2] rfl rfl
      refine zcall (st1 := [.null]) (va_runV (As := [.int w]) (rest := []) ⟨hx, hb, hml, hown, hts⟩ (k_Sheet_rowThere_x l dC dI cI cZ cF H.size sh fa ft FA w (h200) (hb3)) (csV_144 hts rfl rfl ⟨Nat.le_of_ble_eq_true rfl, Nat.le_of_ble_eq_true rfl⟩) (zPV2 (q0 := 0) (ci := 7) hPc hDc hK hXN rfl rfl) rfl rfl hl.1 rfl (lv_room (Nat.le_of_ble_eq_true rfl)) dX10_meets_14 ⟨Nat.le_of_ble_eq_true rfl, Nat.le_of_ble_eq_true rfl⟩) hS hFc hFc rfl (fun t H locs ht hB hk1 hS => ?_)
      obtain ⟨hP1, hD1⟩ := hB
      rw [ht] at hP1
      obtain ⟨hP, hD⟩ := zkQ (W2 := [(oc8 x (.ref sh) (.ref lw) (.ref ro) (.ref bq) (.ref bp) (.ref dq) (.ref dp) (.ref lv) (.ref sl) ds sd ul su), (oc7 sh (.ref fa) (nI ft)), (oq fa cF 200 FA)]) hP hD [1, 2] [0] [0] [1, 2] [0, 1, 2] 3 rfl rfl rfl rfl rfl rfl rfl rfl rfl hk1 hFc hP1 hD1
      clear hk1 hPc hDc hFc hP1 hD1 ht
      refine lv_astoreN (lv' := [(4, .null), (3, .null), (0, .ref x), (1, .int v), (2, .int w)]) hx hb dX10_meets_17 hl (Nat.le_of_ble_eq_true rfl) rfl (fun ls hl => ?_)
      refine lv_aload_nN hx hb dX10_meets_19 rfl (lv_at hl 1 rfl) ?_
      refine lv_ifnullN (tgt := 41) hx hb dX10_meets_20 rfl ?_
      refine lv_iconst (v := 0) hx hb dX10_meets_41 rfl ?_
      obtain ⟨hP9, hD9⟩ := zq_part (cx := [(oc8 x (.ref sh) (.ref lw) (.ref ro) (.ref bq) (.ref bp) (.ref dq) (.ref dp) (.ref lv) (.ref sl) ds sd ul su), (oc7 sh (.ref fa) (nI ft)), (oq fa cF 200 FA)]) hP hD [0, 1, 2] rfl rfl
      rw [hQ9]
      exact W.zret (ty := .boolean) (v := 0) hx hb hr (rfl) (fun t ht hW => ⟨⟨rfl, by rw [ht]; exact hP9, hD9⟩, hS.F ht⟩) hS.2.2 dX10_meets_42
    · skip
      refine lv_aload_n hx hb dX10_meets_9 rfl (lv_at hl 1 rfl) ?_
      rcases vwA_3 (P9 := ((st g0).toInt = 1)) (hva g0 (by omega)) with ⟨ht3, fe3, lk3, lo3, we3, fm3, hFA3, hfe3, hlk3⟩ | ⟨ht3, hA3, fe3, lk3, lo3, we3, fm3, r3, rx3, ry3, cap3, U3, V3, rg3, hFA3, hfe3, hlk3, ⟨hr3, hrx3, hry3, hne3⟩, hrr3⟩ | ⟨ht3, hA3, fe3, lk3, lo3, we3, fm3, r3, rx3, ry3, cap3, U3, V3, rg3, hFA3, hfe3, hlk3, ⟨hr3, hrx3, hry3, hne3⟩, hrr3⟩
      · skip
        refine va_get (D := (dC, dI)) (ci := 8) (v := .ref sh) (C := RX10) (T := TX10) (N := 13) hx hb hts inX10 hown hK hP 0 rfl rfl 0 (Nat.le_of_ble_eq_true rfl) (hts _ mw_309) (fun _ h9 => h9) rfl dX10_meets_10 ?_
        have hc9_1 : inPl L f [(oc1 fe3 (rk g0) (wd g0) (tw g0) (pa g0) (pb g0) (.ref lo3) (.ref lk3) fm3), (oc4 lk3 (kd g0) (st g0) .null (gb g0) (it g0) we3)] := ⟨hfe3, hlk3, trivial⟩
        have hD0_1 := hD
        obtain ⟨hP, hD⟩ := pl_out hP hD [(oc1 fe3 (rk g0) (wd g0) (tw g0) (pa g0) (pb g0) (.ref lo3) (.ref lk3) fm3), (oc4 lk3 (kd g0) (st g0) .null (gb g0) (it g0) we3)] hc9_1 (pwF hfe3.2 hlk3.2)
        generalize hT_1 : outPl L [(oc1 fe3 (rk g0) (wd g0) (tw g0) (pa g0) (pb g0) (.ref lo3) (.ref lk3) fm3), (oc4 lk3 (kd g0) (st g0) .null (gb g0) (it g0) we3)] = T_1 at hP hD
        obtain ⟨hP, hD⟩ : zPD (dC, dI) classes A ([(oc8 x (.ref sh) (.ref lw) (.ref ro) (.ref bq) (.ref bp) (.ref dq) (.ref dp) (.ref lv) (.ref sl) ds sd ul su), (oc7 sh (.ref fa) (nI ft)), (oq fa cF 200 FA), (oc1 fe3 (rk g0) (wd g0) (tw g0) (pa g0) (pb g0) (.ref lo3) (.ref lk3) fm3), (oc4 lk3 (kd g0) (st g0) .null (gb g0) (it g0) we3)] ++ va_pl T_1 f) H := ⟨hP, hD⟩
        refine lv_iload_n hx hb dX10_meets_13 rfl (lv_at hl 3 rfl) ?_
        obtain ⟨hPc, hDc, hFc⟩ := zc_sub (wc := [(oc7 sh (.ref fa) (nI ft)), (oq fa cF 200 FA), (oc1 fe3 (rk g0) (wd g0) (tw g0) (pa g0) (pb g0) (.ref lo3) (.ref lk3) fm3), (oc4 lk3 (kd g0) (st g0) .null (gb g0) (it g0) we3)]) hP hD hS hA [1, 2, 3, 4] rfl rfl
        refine zcall (st1 := [.null]) (va_runV (As := [.int (nI g0)]) (rest := []) ⟨hx, hb, hml, hown, hts⟩ (k_Sheet_rowThere_tv l dC dI cI cZ cF H.size sh fa ft FA g0 fe3 lo3 (rk g0) (wd g0) (tw g0) (pa g0) (pb g0) lk3 (kd g0) (st g0) (gb g0) (it g0) we3 fm3 (h200) (by first | with_reducible assumption | omega) (hFA3)) (csV_144 hts rfl rfl ⟨Nat.le_of_ble_eq_true rfl, Nat.le_of_ble_eq_true rfl⟩) (zPV2 (q0 := 0) (ci := 7) hPc hDc hK hXN rfl rfl) rfl rfl hl.1 rfl (lv_room (Nat.le_of_ble_eq_true rfl)) dX10_meets_14 ⟨Nat.le_of_ble_eq_true rfl, Nat.le_of_ble_eq_true rfl⟩) hS hFc hFc rfl (fun t H locs ht hB hk1 hS => ?_)
        obtain ⟨hP1, hD1⟩ := hB
        rw [ht] at hP1
        obtain ⟨hP, hD⟩ := zkQ (W2 := [(oc8 x (.ref sh) (.ref lw) (.ref ro) (.ref bq) (.ref bp) (.ref dq) (.ref dp) (.ref lv) (.ref sl) ds sd ul su), (oc7 sh (.ref fa) (nI ft)), (oq fa cF 200 FA), (oc1 fe3 (rk g0) (wd g0) (tw g0) (pa g0) (pb g0) (.ref lo3) (.ref lk3) fm3), (oc4 lk3 (kd g0) (st g0) .null (gb g0) (it g0) we3)]) hP hD [1, 2, 3, 4] [0] [0] [1, 2, 3, 4] [0, 1, 2, 3, 4] 5 rfl rfl rfl rfl rfl rfl rfl rfl rfl hk1 hFc hP1 hD1
        clear hk1 hPc hDc hFc hP1 hD1 ht
        have hP := pl_back (cs := [(oc1 fe3 (rk g0) (wd g0) (tw g0) (pa g0) (pb g0) (.ref lo3) (.ref lk3) fm3), (oc4 lk3 (kd g0) (st g0) .null (gb g0) (it g0) we3)]) (L := L) (f := f) (X := [(oc8 x (.ref sh) (.ref lw) (.ref ro) (.ref bq) (.ref bp) (.ref dq) (.ref dp) (.ref lv) (.ref sl) ds sd ul su), (oc7 sh (.ref fa) (nI ft)), (oq fa cF 200 FA)]) (by rw [hT_1]; exact (show va_P (dC, dI) classes (([(oc8 x (.ref sh) (.ref lw) (.ref ro) (.ref bq) (.ref bp) (.ref dq) (.ref dp) (.ref lv) (.ref sl) ds sd ul su), (oc7 sh (.ref fa) (nI ft)), (oq fa cF 200 FA)] ++ [(oc1 fe3 (rk g0) (wd g0) (tw g0) (pa g0) (pb g0) (.ref lo3) (.ref lk3) fm3), (oc4 lk3 (kd g0) (st g0) .null (gb g0) (it g0) we3)]) ++ va_pl T_1 f) H from hP)) hc9_1
        have hD : va_D A ([(oc8 x (.ref sh) (.ref lw) (.ref ro) (.ref bq) (.ref bp) (.ref dq) (.ref dp) (.ref lv) (.ref sl) ds sd ul su), (oc7 sh (.ref fa) (nI ft)), (oq fa cF 200 FA)] ++ va_pl L f) := vaD_ae hD0_1 rfl
        refine lv_astoreN (lv' := [(4, .null), (3, .null), (0, .ref x), (1, .int v), (2, .int (nI g0))]) hx hb dX10_meets_17 hl (Nat.le_of_ble_eq_true rfl) rfl (fun ls hl => ?_)
        refine lv_aload_nN hx hb dX10_meets_19 rfl (lv_at hl 1 rfl) ?_
        refine lv_ifnullN (tgt := 41) hx hb dX10_meets_20 rfl ?_
        refine lv_iconst (v := 0) hx hb dX10_meets_41 rfl ?_
        obtain ⟨hP9, hD9⟩ := zq_part (cx := [(oc8 x (.ref sh) (.ref lw) (.ref ro) (.ref bq) (.ref bp) (.ref dq) (.ref dp) (.ref lv) (.ref sl) ds sd ul su), (oc7 sh (.ref fa) (nI ft)), (oq fa cF 200 FA)]) hP hD [0, 1, 2] rfl rfl
        rw [hQ9]
        exact W.zret (ty := .boolean) (v := 0) hx hb hr (rfl) (fun t ht hW => ⟨⟨rfl, by rw [ht]; exact hP9, hD9⟩, hS.F ht⟩) hS.2.2 dX10_meets_42
      · skip
        refine va_get (D := (dC, dI)) (ci := 8) (v := .ref sh) (C := RX10) (T := TX10) (N := 13) hx hb hts inX10 hown hK hP 0 rfl rfl 0 (Nat.le_of_ble_eq_true rfl) (hts _ mw_309) (fun _ h9 => h9) rfl dX10_meets_10 ?_
        have hc9_1 : inPl L f [(oc1 fe3 (rk g0) (wd g0) (tw g0) (pa g0) (pb g0) (.ref lo3) (.ref lk3) fm3), (oc4 lk3 (kd g0) (st g0) (.ref r3) (gb g0) (it g0) we3)] := ⟨hfe3, hlk3, trivial⟩
        have hD0_1 := hD
        obtain ⟨hP, hD⟩ := pl_out hP hD [(oc1 fe3 (rk g0) (wd g0) (tw g0) (pa g0) (pb g0) (.ref lo3) (.ref lk3) fm3), (oc4 lk3 (kd g0) (st g0) (.ref r3) (gb g0) (it g0) we3)] hc9_1 (pwF hfe3.2 hlk3.2)
        generalize hT_1 : outPl L [(oc1 fe3 (rk g0) (wd g0) (tw g0) (pa g0) (pb g0) (.ref lo3) (.ref lk3) fm3), (oc4 lk3 (kd g0) (st g0) (.ref r3) (gb g0) (it g0) we3)] = T_1 at hP hD
        obtain ⟨hP, hD⟩ : zPD (dC, dI) classes A ([(oc8 x (.ref sh) (.ref lw) (.ref ro) (.ref bq) (.ref bp) (.ref dq) (.ref dp) (.ref lv) (.ref sl) ds sd ul su), (oc7 sh (.ref fa) (nI ft)), (oq fa cF 200 FA), (oc1 fe3 (rk g0) (wd g0) (tw g0) (pa g0) (pb g0) (.ref lo3) (.ref lk3) fm3), (oc4 lk3 (kd g0) (st g0) (.ref r3) (gb g0) (it g0) we3)] ++ va_pl T_1 f) H := ⟨hP, hD⟩
        refine lv_iload_n hx hb dX10_meets_13 rfl (lv_at hl 3 rfl) ?_
        obtain ⟨hPc, hDc, hFc⟩ := zc_sub (wc := [(oc7 sh (.ref fa) (nI ft)), (oq fa cF 200 FA), (oc1 fe3 (rk g0) (wd g0) (tw g0) (pa g0) (pb g0) (.ref lo3) (.ref lk3) fm3), (oc4 lk3 (kd g0) (st g0) (.ref r3) (gb g0) (it g0) we3)]) hP hD hS hA [1, 2, 3, 4] rfl rfl
        refine zcall (st1 := [.ref r3]) (va_runV (As := [.int (nI g0)]) (rest := []) ⟨hx, hb, hml, hown, hts⟩ (k_Sheet_rowThere_yv l dC dI cI cZ cF H.size sh fa ft FA g0 fe3 lo3 (rk g0) (wd g0) (tw g0) (pa g0) (pb g0) lk3 (kd g0) (st g0) (gb g0) (it g0) we3 r3 fm3 (h200) (by first | with_reducible assumption | omega) (hFA3) (by first | exact hA3 | omega)) (csV_144 hts rfl rfl ⟨Nat.le_of_ble_eq_true rfl, Nat.le_of_ble_eq_true rfl⟩) (zPV2 (q0 := 0) (ci := 7) hPc hDc hK hXN rfl rfl) rfl rfl hl.1 rfl (lv_room (Nat.le_of_ble_eq_true rfl)) dX10_meets_14 ⟨Nat.le_of_ble_eq_true rfl, Nat.le_of_ble_eq_true rfl⟩) hS hFc hFc rfl (fun t H locs ht hB hk1 hS => ?_)
        obtain ⟨hP1, hD1⟩ := hB
        rw [ht] at hP1
        obtain ⟨hP, hD⟩ := zkQ (W2 := [(oc8 x (.ref sh) (.ref lw) (.ref ro) (.ref bq) (.ref bp) (.ref dq) (.ref dp) (.ref lv) (.ref sl) ds sd ul su), (oc7 sh (.ref fa) (nI ft)), (oq fa cF 200 FA), (oc1 fe3 (rk g0) (wd g0) (tw g0) (pa g0) (pb g0) (.ref lo3) (.ref lk3) fm3), (oc4 lk3 (kd g0) (st g0) (.ref r3) (gb g0) (it g0) we3)]) hP hD [1, 2, 3, 4] [0] [0] [1, 2, 3, 4] [0, 1, 2, 3, 4] 5 rfl rfl rfl rfl rfl rfl rfl rfl rfl hk1 hFc hP1 hD1
        clear hk1 hPc hDc hFc hP1 hD1 ht
        have hP := pl_back (cs := [(oc1 fe3 (rk g0) (wd g0) (tw g0) (pa g0) (pb g0) (.ref lo3) (.ref lk3) fm3), (oc4 lk3 (kd g0) (st g0) (.ref r3) (gb g0) (it g0) we3)]) (L := L) (f := f) (X := [(oc8 x (.ref sh) (.ref lw) (.ref ro) (.ref bq) (.ref bp) (.ref dq) (.ref dp) (.ref lv) (.ref sl) ds sd ul su), (oc7 sh (.ref fa) (nI ft)), (oq fa cF 200 FA)]) (by rw [hT_1]; exact (show va_P (dC, dI) classes (([(oc8 x (.ref sh) (.ref lw) (.ref ro) (.ref bq) (.ref bp) (.ref dq) (.ref dp) (.ref lv) (.ref sl) ds sd ul su), (oc7 sh (.ref fa) (nI ft)), (oq fa cF 200 FA)] ++ [(oc1 fe3 (rk g0) (wd g0) (tw g0) (pa g0) (pb g0) (.ref lo3) (.ref lk3) fm3), (oc4 lk3 (kd g0) (st g0) (.ref r3) (gb g0) (it g0) we3)]) ++ va_pl T_1 f) H from hP)) hc9_1
        have hD : va_D A ([(oc8 x (.ref sh) (.ref lw) (.ref ro) (.ref bq) (.ref bp) (.ref dq) (.ref dp) (.ref lv) (.ref sl) ds sd ul su), (oc7 sh (.ref fa) (nI ft)), (oq fa cF 200 FA)] ++ va_pl L f) := vaD_ae hD0_1 rfl
        refine lv_astore (lv' := [(4, .ref r3), (3, .null), (0, .ref x), (1, .int v), (2, .int (nI g0))]) hx hb dX10_meets_17 hl (Nat.le_of_ble_eq_true rfl) rfl (fun ls hl => ?_)
        refine lv_aload_nN hx hb dX10_meets_19 rfl (lv_at hl 1 rfl) ?_
        refine lv_ifnullN (tgt := 41) hx hb dX10_meets_20 rfl ?_
        refine lv_iconst (v := 0) hx hb dX10_meets_41 rfl ?_
        obtain ⟨hP9, hD9⟩ := zq_part (cx := [(oc8 x (.ref sh) (.ref lw) (.ref ro) (.ref bq) (.ref bp) (.ref dq) (.ref dp) (.ref lv) (.ref sl) ds sd ul su), (oc7 sh (.ref fa) (nI ft)), (oq fa cF 200 FA)]) hP hD [0, 1, 2] rfl rfl
        rw [hQ9]
        exact W.zret (ty := .boolean) (v := 0) hx hb hr (rfl) (fun t ht hW => ⟨⟨rfl, by rw [ht]; exact hP9, hD9⟩, hS.F ht⟩) hS.2.2 dX10_meets_42
      · skip
        refine va_get (D := (dC, dI)) (ci := 8) (v := .ref sh) (C := RX10) (T := TX10) (N := 13) hx hb hts inX10 hown hK hP 0 rfl rfl 0 (Nat.le_of_ble_eq_true rfl) (hts _ mw_309) (fun _ h9 => h9) rfl dX10_meets_10 ?_
        have hc9_1 : inPl L f [(oc1 fe3 (rk g0) (wd g0) (tw g0) (pa g0) (pb g0) (.ref lo3) (.ref lk3) fm3), (oc4 lk3 (kd g0) (st g0) (.ref r3) (gb g0) (it g0) we3)] := ⟨hfe3, hlk3, trivial⟩
        have hD0_1 := hD
        obtain ⟨hP, hD⟩ := pl_out hP hD [(oc1 fe3 (rk g0) (wd g0) (tw g0) (pa g0) (pb g0) (.ref lo3) (.ref lk3) fm3), (oc4 lk3 (kd g0) (st g0) (.ref r3) (gb g0) (it g0) we3)] hc9_1 (pwF hfe3.2 hlk3.2)
        generalize hT_1 : outPl L [(oc1 fe3 (rk g0) (wd g0) (tw g0) (pa g0) (pb g0) (.ref lo3) (.ref lk3) fm3), (oc4 lk3 (kd g0) (st g0) (.ref r3) (gb g0) (it g0) we3)] = T_1 at hP hD
        obtain ⟨hP, hD⟩ : zPD (dC, dI) classes A ([(oc8 x (.ref sh) (.ref lw) (.ref ro) (.ref bq) (.ref bp) (.ref dq) (.ref dp) (.ref lv) (.ref sl) ds sd ul su), (oc7 sh (.ref fa) (nI ft)), (oq fa cF 200 FA), (oc1 fe3 (rk g0) (wd g0) (tw g0) (pa g0) (pb g0) (.ref lo3) (.ref lk3) fm3), (oc4 lk3 (kd g0) (st g0) (.ref r3) (gb g0) (it g0) we3)] ++ va_pl T_1 f) H := ⟨hP, hD⟩
        refine lv_iload_n hx hb dX10_meets_13 rfl (lv_at hl 3 rfl) ?_
        obtain ⟨hPc, hDc, hFc⟩ := zc_sub (wc := [(oc7 sh (.ref fa) (nI ft)), (oq fa cF 200 FA), (oc1 fe3 (rk g0) (wd g0) (tw g0) (pa g0) (pb g0) (.ref lo3) (.ref lk3) fm3), (oc4 lk3 (kd g0) (st g0) (.ref r3) (gb g0) (it g0) we3)]) hP hD hS hA [1, 2, 3, 4] rfl rfl
        refine zcall (st1 := [.null]) (va_runV (As := [.int (nI g0)]) (rest := []) ⟨hx, hb, hml, hown, hts⟩ (k_Sheet_rowThere_sv l dC dI cI cZ cF H.size sh fa ft FA g0 fe3 lo3 (rk g0) (wd g0) (tw g0) (pa g0) (pb g0) lk3 (kd g0) (st g0) (gb g0) (it g0) we3 fm3 (.ref r3) (h200) (by first | with_reducible assumption | omega) (hFA3) (by first | exact hA3 | omega)) (csV_144 hts rfl rfl ⟨Nat.le_of_ble_eq_true rfl, Nat.le_of_ble_eq_true rfl⟩) (zPV2 (q0 := 0) (ci := 7) hPc hDc hK hXN rfl rfl) rfl rfl hl.1 rfl (lv_room (Nat.le_of_ble_eq_true rfl)) dX10_meets_14 ⟨Nat.le_of_ble_eq_true rfl, Nat.le_of_ble_eq_true rfl⟩) hS hFc hFc rfl (fun t H locs ht hB hk1 hS => ?_)
        obtain ⟨hP1, hD1⟩ := hB
        rw [ht] at hP1
        obtain ⟨hP, hD⟩ := zkQ (W2 := [(oc8 x (.ref sh) (.ref lw) (.ref ro) (.ref bq) (.ref bp) (.ref dq) (.ref dp) (.ref lv) (.ref sl) ds sd ul su), (oc7 sh (.ref fa) (nI ft)), (oq fa cF 200 FA), (oc1 fe3 (rk g0) (wd g0) (tw g0) (pa g0) (pb g0) (.ref lo3) (.ref lk3) fm3), (oc4 lk3 (kd g0) (st g0) (.ref r3) (gb g0) (it g0) we3)]) hP hD [1, 2, 3, 4] [0] [0] [1, 2, 3, 4] [0, 1, 2, 3, 4] 5 rfl rfl rfl rfl rfl rfl rfl rfl rfl hk1 hFc hP1 hD1
        clear hk1 hPc hDc hFc hP1 hD1 ht
        have hP := pl_back (cs := [(oc1 fe3 (rk g0) (wd g0) (tw g0) (pa g0) (pb g0) (.ref lo3) (.ref lk3) fm3), (oc4 lk3 (kd g0) (st g0) (.ref r3) (gb g0) (it g0) we3)]) (L := L) (f := f) (X := [(oc8 x (.ref sh) (.ref lw) (.ref ro) (.ref bq) (.ref bp) (.ref dq) (.ref dp) (.ref lv) (.ref sl) ds sd ul su), (oc7 sh (.ref fa) (nI ft)), (oq fa cF 200 FA)]) (by rw [hT_1]; exact (show va_P (dC, dI) classes (([(oc8 x (.ref sh) (.ref lw) (.ref ro) (.ref bq) (.ref bp) (.ref dq) (.ref dp) (.ref lv) (.ref sl) ds sd ul su), (oc7 sh (.ref fa) (nI ft)), (oq fa cF 200 FA)] ++ [(oc1 fe3 (rk g0) (wd g0) (tw g0) (pa g0) (pb g0) (.ref lo3) (.ref lk3) fm3), (oc4 lk3 (kd g0) (st g0) (.ref r3) (gb g0) (it g0) we3)]) ++ va_pl T_1 f) H from hP)) hc9_1
        have hD : va_D A ([(oc8 x (.ref sh) (.ref lw) (.ref ro) (.ref bq) (.ref bp) (.ref dq) (.ref dp) (.ref lv) (.ref sl) ds sd ul su), (oc7 sh (.ref fa) (nI ft)), (oq fa cF 200 FA)] ++ va_pl L f) := vaD_ae hD0_1 rfl
        refine lv_astoreN (lv' := [(4, .null), (3, .null), (0, .ref x), (1, .int v), (2, .int (nI g0))]) hx hb dX10_meets_17 hl (Nat.le_of_ble_eq_true rfl) rfl (fun ls hl => ?_)
        refine lv_aload_nN hx hb dX10_meets_19 rfl (lv_at hl 1 rfl) ?_
        refine lv_ifnullN (tgt := 41) hx hb dX10_meets_20 rfl ?_
        refine lv_iconst (v := 0) hx hb dX10_meets_41 rfl ?_
        obtain ⟨hP9, hD9⟩ := zq_part (cx := [(oc8 x (.ref sh) (.ref lw) (.ref ro) (.ref bq) (.ref bp) (.ref dq) (.ref dp) (.ref lv) (.ref sl) ds sd ul su), (oc7 sh (.ref fa) (nI ft)), (oq fa cF 200 FA)]) hP hD [0, 1, 2] rfl rfl
        rw [hQ9]
        exact W.zret (ty := .boolean) (v := 0) hx hb hr (rfl) (fun t ht hW => ⟨⟨rfl, by rw [ht]; exact hP9, hD9⟩, hS.F ht⟩) hS.2.2 dX10_meets_42
  · skip
    refine lv_aload_n hx hb dX10_meets_0 rfl (lv_at hl 0 rfl) ?_
    rcases vwA_3 (P9 := ((st f0).toInt = 1)) (hva f0 (by omega)) with ⟨ht2, fe2, lk2, lo2, we2, fm2, hFA2, hfe2, hlk2⟩ | ⟨ht2, hA2, fe2, lk2, lo2, we2, fm2, r2, rx2, ry2, cap2, U2, V2, rg2, hFA2, hfe2, hlk2, ⟨hr2, hrx2, hry2, hne2⟩, hrr2⟩ | ⟨ht2, hA2, fe2, lk2, lo2, we2, fm2, r2, rx2, ry2, cap2, U2, V2, rg2, hFA2, hfe2, hlk2, ⟨hr2, hrx2, hry2, hne2⟩, hrr2⟩
    · skip
      refine va_get (D := (dC, dI)) (ci := 8) (v := .ref sh) (C := RX10) (T := TX10) (N := 13) hx hb hts inX10 hown hK hP 0 rfl rfl 0 (Nat.le_of_ble_eq_true rfl) (hts _ mw_309) (fun _ h9 => h9) rfl dX10_meets_1 ?_
      have hc9_1 : inPl L f [(oc1 fe2 (rk f0) (wd f0) (tw f0) (pa f0) (pb f0) (.ref lo2) (.ref lk2) fm2), (oc4 lk2 (kd f0) (st f0) .null (gb f0) (it f0) we2)] := ⟨hfe2, hlk2, trivial⟩
      have hD0_1 := hD
      obtain ⟨hP, hD⟩ := pl_out hP hD [(oc1 fe2 (rk f0) (wd f0) (tw f0) (pa f0) (pb f0) (.ref lo2) (.ref lk2) fm2), (oc4 lk2 (kd f0) (st f0) .null (gb f0) (it f0) we2)] hc9_1 (pwF hfe2.2 hlk2.2)
      generalize hT_1 : outPl L [(oc1 fe2 (rk f0) (wd f0) (tw f0) (pa f0) (pb f0) (.ref lo2) (.ref lk2) fm2), (oc4 lk2 (kd f0) (st f0) .null (gb f0) (it f0) we2)] = T_1 at hP hD
      obtain ⟨hP, hD⟩ : zPD (dC, dI) classes A ([(oc8 x (.ref sh) (.ref lw) (.ref ro) (.ref bq) (.ref bp) (.ref dq) (.ref dp) (.ref lv) (.ref sl) ds sd ul su), (oc7 sh (.ref fa) (nI ft)), (oq fa cF 200 FA), (oc1 fe2 (rk f0) (wd f0) (tw f0) (pa f0) (pb f0) (.ref lo2) (.ref lk2) fm2), (oc4 lk2 (kd f0) (st f0) .null (gb f0) (it f0) we2)] ++ va_pl T_1 f) s.heap := ⟨hP, hD⟩
      refine lv_iload_n hx hb dX10_meets_4 rfl (lv_at hl 1 rfl) ?_
      obtain ⟨hPc, hDc, hFc⟩ := zc_sub (wc := [(oc7 sh (.ref fa) (nI ft)), (oq fa cF 200 FA), (oc1 fe2 (rk f0) (wd f0) (tw f0) (pa f0) (pb f0) (.ref lo2) (.ref lk2) fm2), (oc4 lk2 (kd f0) (st f0) .null (gb f0) (it f0) we2)]) hP hD hS hA [1, 2, 3, 4] rfl rfl
      refine zcall (st1 := [.null]) (va_runV (As := [.int (nI f0)]) (rest := []) ⟨hx, hb, hml, hown, hts⟩ (k_Sheet_rowThere_tv l dC dI cI cZ cF s.heap.size sh fa ft FA f0 fe2 lo2 (rk f0) (wd f0) (tw f0) (pa f0) (pb f0) lk2 (kd f0) (st f0) (gb f0) (it f0) we2 fm2 (h200) (by first | with_reducible assumption | omega) (hFA2)) (csV_144 hts rfl rfl ⟨Nat.le_of_ble_eq_true rfl, Nat.le_of_ble_eq_true rfl⟩) (zPV2 (q0 := 0) (ci := 7) hPc hDc hK hXN rfl rfl) rfl rfl hl.1 rfl (lv_room (Nat.le_of_ble_eq_true rfl)) dX10_meets_5 ⟨Nat.le_of_ble_eq_true rfl, Nat.le_of_ble_eq_true rfl⟩) hS hFc hFc rfl (fun t H locs ht hB hk1 hS => ?_)
      obtain ⟨hP1, hD1⟩ := hB
      rw [ht] at hP1
      obtain ⟨hP, hD⟩ := zkQ (W2 := [(oc8 x (.ref sh) (.ref lw) (.ref ro) (.ref bq) (.ref bp) (.ref dq) (.ref dp) (.ref lv) (.ref sl) ds sd ul su), (oc7 sh (.ref fa) (nI ft)), (oq fa cF 200 FA), (oc1 fe2 (rk f0) (wd f0) (tw f0) (pa f0) (pb f0) (.ref lo2) (.ref lk2) fm2), (oc4 lk2 (kd f0) (st f0) .null (gb f0) (it f0) we2)]) hP hD [1, 2, 3, 4] [0] [0] [1, 2, 3, 4] [0, 1, 2, 3, 4] 5 rfl rfl rfl rfl rfl rfl rfl rfl rfl hk1 hFc hP1 hD1
      clear hk1 hPc hDc hFc hP1 hD1 ht
      have hP := pl_back (cs := [(oc1 fe2 (rk f0) (wd f0) (tw f0) (pa f0) (pb f0) (.ref lo2) (.ref lk2) fm2), (oc4 lk2 (kd f0) (st f0) .null (gb f0) (it f0) we2)]) (L := L) (f := f) (X := [(oc8 x (.ref sh) (.ref lw) (.ref ro) (.ref bq) (.ref bp) (.ref dq) (.ref dp) (.ref lv) (.ref sl) ds sd ul su), (oc7 sh (.ref fa) (nI ft)), (oq fa cF 200 FA)]) (by rw [hT_1]; exact (show va_P (dC, dI) classes (([(oc8 x (.ref sh) (.ref lw) (.ref ro) (.ref bq) (.ref bp) (.ref dq) (.ref dp) (.ref lv) (.ref sl) ds sd ul su), (oc7 sh (.ref fa) (nI ft)), (oq fa cF 200 FA)] ++ [(oc1 fe2 (rk f0) (wd f0) (tw f0) (pa f0) (pb f0) (.ref lo2) (.ref lk2) fm2), (oc4 lk2 (kd f0) (st f0) .null (gb f0) (it f0) we2)]) ++ va_pl T_1 f) H from hP)) hc9_1
      have hD : va_D A ([(oc8 x (.ref sh) (.ref lw) (.ref ro) (.ref bq) (.ref bp) (.ref dq) (.ref dp) (.ref lv) (.ref sl) ds sd ul su), (oc7 sh (.ref fa) (nI ft)), (oq fa cF 200 FA)] ++ va_pl L f) := vaD_ae hD0_1 rfl
      refine lv_astore_nN (lv' := [(3, .null), (0, .ref x), (1, .int (nI f0)), (2, .int w)]) hx hb dX10_meets_8 rfl hl (Nat.le_of_ble_eq_true rfl) rfl (fun ls hl => ?_)
      rcases v_c (v := w) (ft := ft) h200 with hb3 | ⟨g0, hq3, rfl⟩
      · skip
        refine lv_aload_n hx hb dX10_meets_9 rfl (lv_at hl 1 rfl) ?_
        refine va_get (D := (dC, dI)) (ci := 8) (v := .ref sh) (C := RX10) (T := TX10) (N := 13) hx hb hts inX10 hown hK hP 0 rfl rfl 0 (Nat.le_of_ble_eq_true rfl) (hts _ mw_309) (fun _ h9 => h9) rfl dX10_meets_10 ?_
        refine lv_iload_n hx hb dX10_meets_13 rfl (lv_at hl 3 rfl) ?_
        obtain ⟨hPc, hDc, hFc⟩ := zc_sub (wc := [(oc7 sh (.ref fa) (nI ft)), (oq fa cF 200 FA)]) hP hD hS hA [1, 2] rfl rfl
        refine zcall (st1 := [.null]) (va_runV (As := [.int w]) (rest := []) ⟨hx, hb, hml, hown, hts⟩ (k_Sheet_rowThere_x l dC dI cI cZ cF H.size sh fa ft FA w (h200) (hb3)) (csV_144 hts rfl rfl ⟨Nat.le_of_ble_eq_true rfl, Nat.le_of_ble_eq_true rfl⟩) (zPV2 (q0 := 0) (ci := 7) hPc hDc hK hXN rfl rfl) rfl rfl hl.1 rfl (lv_room (Nat.le_of_ble_eq_true rfl)) dX10_meets_14 ⟨Nat.le_of_ble_eq_true rfl, Nat.le_of_ble_eq_true rfl⟩) hS hFc hFc rfl (fun t H locs ht hB hk1 hS => ?_)
        obtain ⟨hP1, hD1⟩ := hB
        rw [ht] at hP1
        obtain ⟨hP, hD⟩ := zkQ (W2 := [(oc8 x (.ref sh) (.ref lw) (.ref ro) (.ref bq) (.ref bp) (.ref dq) (.ref dp) (.ref lv) (.ref sl) ds sd ul su), (oc7 sh (.ref fa) (nI ft)), (oq fa cF 200 FA)]) hP hD [1, 2] [0] [0] [1, 2] [0, 1, 2] 3 rfl rfl rfl rfl rfl rfl rfl rfl rfl hk1 hFc hP1 hD1
        clear hk1 hPc hDc hFc hP1 hD1 ht
        refine lv_astoreN (lv' := [(4, .null), (3, .null), (0, .ref x), (1, .int (nI f0)), (2, .int w)]) hx hb dX10_meets_17 hl (Nat.le_of_ble_eq_true rfl) rfl (fun ls hl => ?_)
        refine lv_aload_nN hx hb dX10_meets_19 rfl (lv_at hl 1 rfl) ?_
        refine lv_ifnullN (tgt := 41) hx hb dX10_meets_20 rfl ?_
        refine lv_iconst (v := 0) hx hb dX10_meets_41 rfl ?_
        obtain ⟨hP9, hD9⟩ := zq_part (cx := [(oc8 x (.ref sh) (.ref lw) (.ref ro) (.ref bq) (.ref bp) (.ref dq) (.ref dp) (.ref lv) (.ref sl) ds sd ul su), (oc7 sh (.ref fa) (nI ft)), (oq fa cF 200 FA)]) hP hD [0, 1, 2] rfl rfl
        rw [hQ9]
        exact W.zret (ty := .boolean) (v := 0) hx hb hr (rfl) (fun t ht hW => ⟨⟨rfl, by rw [ht]; exact hP9, hD9⟩, hS.F ht⟩) hS.2.2 dX10_meets_42
      · skip
        refine lv_aload_n hx hb dX10_meets_9 rfl (lv_at hl 1 rfl) ?_
        rcases vwA_3 (P9 := ((st g0).toInt = 1)) (hva g0 (by omega)) with ⟨ht3, fe3, lk3, lo3, we3, fm3, hFA3, hfe3, hlk3⟩ | ⟨ht3, hA3, fe3, lk3, lo3, we3, fm3, r3, rx3, ry3, cap3, U3, V3, rg3, hFA3, hfe3, hlk3, ⟨hr3, hrx3, hry3, hne3⟩, hrr3⟩ | ⟨ht3, hA3, fe3, lk3, lo3, we3, fm3, r3, rx3, ry3, cap3, U3, V3, rg3, hFA3, hfe3, hlk3, ⟨hr3, hrx3, hry3, hne3⟩, hrr3⟩
        · skip
          refine va_get (D := (dC, dI)) (ci := 8) (v := .ref sh) (C := RX10) (T := TX10) (N := 13) hx hb hts inX10 hown hK hP 0 rfl rfl 0 (Nat.le_of_ble_eq_true rfl) (hts _ mw_309) (fun _ h9 => h9) rfl dX10_meets_10 ?_
          have hc9_2 : inPl L f [(oc1 fe3 (rk g0) (wd g0) (tw g0) (pa g0) (pb g0) (.ref lo3) (.ref lk3) fm3), (oc4 lk3 (kd g0) (st g0) .null (gb g0) (it g0) we3)] := ⟨hfe3, hlk3, trivial⟩
          have hD0_2 := hD
          obtain ⟨hP, hD⟩ := pl_out hP hD [(oc1 fe3 (rk g0) (wd g0) (tw g0) (pa g0) (pb g0) (.ref lo3) (.ref lk3) fm3), (oc4 lk3 (kd g0) (st g0) .null (gb g0) (it g0) we3)] hc9_2 (pwF hfe3.2 hlk3.2)
          generalize hT_2 : outPl L [(oc1 fe3 (rk g0) (wd g0) (tw g0) (pa g0) (pb g0) (.ref lo3) (.ref lk3) fm3), (oc4 lk3 (kd g0) (st g0) .null (gb g0) (it g0) we3)] = T_2 at hP hD
          obtain ⟨hP, hD⟩ : zPD (dC, dI) classes A ([(oc8 x (.ref sh) (.ref lw) (.ref ro) (.ref bq) (.ref bp) (.ref dq) (.ref dp) (.ref lv) (.ref sl) ds sd ul su), (oc7 sh (.ref fa) (nI ft)), (oq fa cF 200 FA), (oc1 fe3 (rk g0) (wd g0) (tw g0) (pa g0) (pb g0) (.ref lo3) (.ref lk3) fm3), (oc4 lk3 (kd g0) (st g0) .null (gb g0) (it g0) we3)] ++ va_pl T_2 f) H := ⟨hP, hD⟩
          refine lv_iload_n hx hb dX10_meets_13 rfl (lv_at hl 3 rfl) ?_
          obtain ⟨hPc, hDc, hFc⟩ := zc_sub (wc := [(oc7 sh (.ref fa) (nI ft)), (oq fa cF 200 FA), (oc1 fe3 (rk g0) (wd g0) (tw g0) (pa g0) (pb g0) (.ref lo3) (.ref lk3) fm3), (oc4 lk3 (kd g0) (st g0) .null (gb g0) (it g0) we3)]) hP hD hS hA [1, 2, 3, 4] rfl rfl
          refine zcall (st1 := [.null]) (va_runV (As := [.int (nI g0)]) (rest := []) ⟨hx, hb, hml, hown, hts⟩ (k_Sheet_rowThere_tv l dC dI cI cZ cF H.size sh fa ft FA g0 fe3 lo3 (rk g0) (wd g0) (tw g0) (pa g0) (pb g0) lk3 (kd g0) (st g0) (gb g0) (it g0) we3 fm3 (h200) (by first | with_reducible assumption | omega) (hFA3)) (csV_144 hts rfl rfl ⟨Nat.le_of_ble_eq_true rfl, Nat.le_of_ble_eq_true rfl⟩) (zPV2 (q0 := 0) (ci := 7) hPc hDc hK hXN rfl rfl) rfl rfl hl.1 rfl (lv_room (Nat.le_of_ble_eq_true rfl)) dX10_meets_14 ⟨Nat.le_of_ble_eq_true rfl, Nat.le_of_ble_eq_true rfl⟩) hS hFc hFc rfl (fun t H locs ht hB hk1 hS => ?_)
          obtain ⟨hP1, hD1⟩ := hB
          rw [ht] at hP1
          obtain ⟨hP, hD⟩ := zkQ (W2 := [(oc8 x (.ref sh) (.ref lw) (.ref ro) (.ref bq) (.ref bp) (.ref dq) (.ref dp) (.ref lv) (.ref sl) ds sd ul su), (oc7 sh (.ref fa) (nI ft)), (oq fa cF 200 FA), (oc1 fe3 (rk g0) (wd g0) (tw g0) (pa g0) (pb g0) (.ref lo3) (.ref lk3) fm3), (oc4 lk3 (kd g0) (st g0) .null (gb g0) (it g0) we3)]) hP hD [1, 2, 3, 4] [0] [0] [1, 2, 3, 4] [0, 1, 2, 3, 4] 5 rfl rfl rfl rfl rfl rfl rfl rfl rfl hk1 hFc hP1 hD1
          clear hk1 hPc hDc hFc hP1 hD1 ht
          have hP := pl_back (cs := [(oc1 fe3 (rk g0) (wd g0) (tw g0) (pa g0) (pb g0) (.ref lo3) (.ref lk3) fm3), (oc4 lk3 (kd g0) (st g0) .null (gb g0) (it g0) we3)]) (L := L) (f := f) (X := [(oc8 x (.ref sh) (.ref lw) (.ref ro) (.ref bq) (.ref bp) (.ref dq) (.ref dp) (.ref lv) (.ref sl) ds sd ul su), (oc7 sh (.ref fa) (nI ft)), (oq fa cF 200 FA)]) (by rw [hT_2]; exact (show va_P (dC, dI) classes (([(oc8 x (.ref sh) (.ref lw) (.ref ro) (.ref bq) (.ref bp) (.ref dq) (.ref dp) (.ref lv) (.ref sl) ds sd ul su), (oc7 sh (.ref fa) (nI ft)), (oq fa cF 200 FA)] ++ [(oc1 fe3 (rk g0) (wd g0) (tw g0) (pa g0) (pb g0) (.ref lo3) (.ref lk3) fm3), (oc4 lk3 (kd g0) (st g0) .null (gb g0) (it g0) we3)]) ++ va_pl T_2 f) H from hP)) hc9_2
          have hD : va_D A ([(oc8 x (.ref sh) (.ref lw) (.ref ro) (.ref bq) (.ref bp) (.ref dq) (.ref dp) (.ref lv) (.ref sl) ds sd ul su), (oc7 sh (.ref fa) (nI ft)), (oq fa cF 200 FA)] ++ va_pl L f) := vaD_ae hD0_2 rfl
          refine lv_astoreN (lv' := [(4, .null), (3, .null), (0, .ref x), (1, .int (nI f0)), (2, .int (nI g0))]) hx hb dX10_meets_17 hl (Nat.le_of_ble_eq_true rfl) rfl (fun ls hl => ?_)
          refine lv_aload_nN hx hb dX10_meets_19 rfl (lv_at hl 1 rfl) ?_
          refine lv_ifnullN (tgt := 41) hx hb dX10_meets_20 rfl ?_
          refine lv_iconst (v := 0) hx hb dX10_meets_41 rfl ?_
          obtain ⟨hP9, hD9⟩ := zq_part (cx := [(oc8 x (.ref sh) (.ref lw) (.ref ro) (.ref bq) (.ref bp) (.ref dq) (.ref dp) (.ref lv) (.ref sl) ds sd ul su), (oc7 sh (.ref fa) (nI ft)), (oq fa cF 200 FA)]) hP hD [0, 1, 2] rfl rfl
          rw [hQ9]
          exact W.zret (ty := .boolean) (v := 0) hx hb hr (rfl) (fun t ht hW => ⟨⟨rfl, by rw [ht]; exact hP9, hD9⟩, hS.F ht⟩) hS.2.2 dX10_meets_42
        · skip
          refine va_get (D := (dC, dI)) (ci := 8) (v := .ref sh) (C := RX10) (T := TX10) (N := 13) hx hb hts inX10 hown hK hP 0 rfl rfl 0 (Nat.le_of_ble_eq_true rfl) (hts _ mw_309) (fun _ h9 => h9) rfl dX10_meets_10 ?_
          have hc9_2 : inPl L f [(oc1 fe3 (rk g0) (wd g0) (tw g0) (pa g0) (pb g0) (.ref lo3) (.ref lk3) fm3), (oc4 lk3 (kd g0) (st g0) (.ref r3) (gb g0) (it g0) we3)] := ⟨hfe3, hlk3, trivial⟩
          have hD0_2 := hD
          obtain ⟨hP, hD⟩ := pl_out hP hD [(oc1 fe3 (rk g0) (wd g0) (tw g0) (pa g0) (pb g0) (.ref lo3) (.ref lk3) fm3), (oc4 lk3 (kd g0) (st g0) (.ref r3) (gb g0) (it g0) we3)] hc9_2 (pwF hfe3.2 hlk3.2)
          generalize hT_2 : outPl L [(oc1 fe3 (rk g0) (wd g0) (tw g0) (pa g0) (pb g0) (.ref lo3) (.ref lk3) fm3), (oc4 lk3 (kd g0) (st g0) (.ref r3) (gb g0) (it g0) we3)] = T_2 at hP hD
          obtain ⟨hP, hD⟩ : zPD (dC, dI) classes A ([(oc8 x (.ref sh) (.ref lw) (.ref ro) (.ref bq) (.ref bp) (.ref dq) (.ref dp) (.ref lv) (.ref sl) ds sd ul su), (oc7 sh (.ref fa) (nI ft)), (oq fa cF 200 FA), (oc1 fe3 (rk g0) (wd g0) (tw g0) (pa g0) (pb g0) (.ref lo3) (.ref lk3) fm3), (oc4 lk3 (kd g0) (st g0) (.ref r3) (gb g0) (it g0) we3)] ++ va_pl T_2 f) H := ⟨hP, hD⟩
          refine lv_iload_n hx hb dX10_meets_13 rfl (lv_at hl 3 rfl) ?_
          obtain ⟨hPc, hDc, hFc⟩ := zc_sub (wc := [(oc7 sh (.ref fa) (nI ft)), (oq fa cF 200 FA), (oc1 fe3 (rk g0) (wd g0) (tw g0) (pa g0) (pb g0) (.ref lo3) (.ref lk3) fm3), (oc4 lk3 (kd g0) (st g0) (.ref r3) (gb g0) (it g0) we3)]) hP hD hS hA [1, 2, 3, 4] rfl rfl
          refine zcall (st1 := [.ref r3]) (va_runV (As := [.int (nI g0)]) (rest := []) ⟨hx, hb, hml, hown, hts⟩ (k_Sheet_rowThere_yv l dC dI cI cZ cF H.size sh fa ft FA g0 fe3 lo3 (rk g0) (wd g0) (tw g0) (pa g0) (pb g0) lk3 (kd g0) (st g0) (gb g0) (it g0) we3 r3 fm3 (h200) (by first | with_reducible assumption | omega) (hFA3) (by first | exact hA3 | omega)) (csV_144 hts rfl rfl ⟨Nat.le_of_ble_eq_true rfl, Nat.le_of_ble_eq_true rfl⟩) (zPV2 (q0 := 0) (ci := 7) hPc hDc hK hXN rfl rfl) rfl rfl hl.1 rfl (lv_room (Nat.le_of_ble_eq_true rfl)) dX10_meets_14 ⟨Nat.le_of_ble_eq_true rfl, Nat.le_of_ble_eq_true rfl⟩) hS hFc hFc rfl (fun t H locs ht hB hk1 hS => ?_)
          obtain ⟨hP1, hD1⟩ := hB
          rw [ht] at hP1
          obtain ⟨hP, hD⟩ := zkQ (W2 := [(oc8 x (.ref sh) (.ref lw) (.ref ro) (.ref bq) (.ref bp) (.ref dq) (.ref dp) (.ref lv) (.ref sl) ds sd ul su), (oc7 sh (.ref fa) (nI ft)), (oq fa cF 200 FA), (oc1 fe3 (rk g0) (wd g0) (tw g0) (pa g0) (pb g0) (.ref lo3) (.ref lk3) fm3), (oc4 lk3 (kd g0) (st g0) (.ref r3) (gb g0) (it g0) we3)]) hP hD [1, 2, 3, 4] [0] [0] [1, 2, 3, 4] [0, 1, 2, 3, 4] 5 rfl rfl rfl rfl rfl rfl rfl rfl rfl hk1 hFc hP1 hD1
          clear hk1 hPc hDc hFc hP1 hD1 ht
          have hP := pl_back (cs := [(oc1 fe3 (rk g0) (wd g0) (tw g0) (pa g0) (pb g0) (.ref lo3) (.ref lk3) fm3), (oc4 lk3 (kd g0) (st g0) (.ref r3) (gb g0) (it g0) we3)]) (L := L) (f := f) (X := [(oc8 x (.ref sh) (.ref lw) (.ref ro) (.ref bq) (.ref bp) (.ref dq) (.ref dp) (.ref lv) (.ref sl) ds sd ul su), (oc7 sh (.ref fa) (nI ft)), (oq fa cF 200 FA)]) (by rw [hT_2]; exact (show va_P (dC, dI) classes (([(oc8 x (.ref sh) (.ref lw) (.ref ro) (.ref bq) (.ref bp) (.ref dq) (.ref dp) (.ref lv) (.ref sl) ds sd ul su), (oc7 sh (.ref fa) (nI ft)), (oq fa cF 200 FA)] ++ [(oc1 fe3 (rk g0) (wd g0) (tw g0) (pa g0) (pb g0) (.ref lo3) (.ref lk3) fm3), (oc4 lk3 (kd g0) (st g0) (.ref r3) (gb g0) (it g0) we3)]) ++ va_pl T_2 f) H from hP)) hc9_2
          have hD : va_D A ([(oc8 x (.ref sh) (.ref lw) (.ref ro) (.ref bq) (.ref bp) (.ref dq) (.ref dp) (.ref lv) (.ref sl) ds sd ul su), (oc7 sh (.ref fa) (nI ft)), (oq fa cF 200 FA)] ++ va_pl L f) := vaD_ae hD0_2 rfl
          refine lv_astore (lv' := [(4, .ref r3), (3, .null), (0, .ref x), (1, .int (nI f0)), (2, .int (nI g0))]) hx hb dX10_meets_17 hl (Nat.le_of_ble_eq_true rfl) rfl (fun ls hl => ?_)
          refine lv_aload_nN hx hb dX10_meets_19 rfl (lv_at hl 1 rfl) ?_
          refine lv_ifnullN (tgt := 41) hx hb dX10_meets_20 rfl ?_
          refine lv_iconst (v := 0) hx hb dX10_meets_41 rfl ?_
          obtain ⟨hP9, hD9⟩ := zq_part (cx := [(oc8 x (.ref sh) (.ref lw) (.ref ro) (.ref bq) (.ref bp) (.ref dq) (.ref dp) (.ref lv) (.ref sl) ds sd ul su), (oc7 sh (.ref fa) (nI ft)), (oq fa cF 200 FA)]) hP hD [0, 1, 2] rfl rfl
          rw [hQ9]
          exact W.zret (ty := .boolean) (v := 0) hx hb hr (rfl) (fun t ht hW => ⟨⟨rfl, by rw [ht]; exact hP9, hD9⟩, hS.F ht⟩) hS.2.2 dX10_meets_42
        · skip
          refine va_get (D := (dC, dI)) (ci := 8) (v := .ref sh) (C := RX10) (T := TX10) (N := 13) hx hb hts inX10 hown hK hP 0 rfl rfl 0 (Nat.le_of_ble_eq_true rfl) (hts _ mw_309) (fun _ h9 => h9) rfl dX10_meets_10 ?_
          have hc9_2 : inPl L f [(oc1 fe3 (rk g0) (wd g0) (tw g0) (pa g0) (pb g0) (.ref lo3) (.ref lk3) fm3), (oc4 lk3 (kd g0) (st g0) (.ref r3) (gb g0) (it g0) we3)] := ⟨hfe3, hlk3, trivial⟩
          have hD0_2 := hD
          obtain ⟨hP, hD⟩ := pl_out hP hD [(oc1 fe3 (rk g0) (wd g0) (tw g0) (pa g0) (pb g0) (.ref lo3) (.ref lk3) fm3), (oc4 lk3 (kd g0) (st g0) (.ref r3) (gb g0) (it g0) we3)] hc9_2 (pwF hfe3.2 hlk3.2)
          generalize hT_2 : outPl L [(oc1 fe3 (rk g0) (wd g0) (tw g0) (pa g0) (pb g0) (.ref lo3) (.ref lk3) fm3), (oc4 lk3 (kd g0) (st g0) (.ref r3) (gb g0) (it g0) we3)] = T_2 at hP hD
          obtain ⟨hP, hD⟩ : zPD (dC, dI) classes A ([(oc8 x (.ref sh) (.ref lw) (.ref ro) (.ref bq) (.ref bp) (.ref dq) (.ref dp) (.ref lv) (.ref sl) ds sd ul su), (oc7 sh (.ref fa) (nI ft)), (oq fa cF 200 FA), (oc1 fe3 (rk g0) (wd g0) (tw g0) (pa g0) (pb g0) (.ref lo3) (.ref lk3) fm3), (oc4 lk3 (kd g0) (st g0) (.ref r3) (gb g0) (it g0) we3)] ++ va_pl T_2 f) H := ⟨hP, hD⟩
          refine lv_iload_n hx hb dX10_meets_13 rfl (lv_at hl 3 rfl) ?_
          obtain ⟨hPc, hDc, hFc⟩ := zc_sub (wc := [(oc7 sh (.ref fa) (nI ft)), (oq fa cF 200 FA), (oc1 fe3 (rk g0) (wd g0) (tw g0) (pa g0) (pb g0) (.ref lo3) (.ref lk3) fm3), (oc4 lk3 (kd g0) (st g0) (.ref r3) (gb g0) (it g0) we3)]) hP hD hS hA [1, 2, 3, 4] rfl rfl
          refine zcall (st1 := [.null]) (va_runV (As := [.int (nI g0)]) (rest := []) ⟨hx, hb, hml, hown, hts⟩ (k_Sheet_rowThere_sv l dC dI cI cZ cF H.size sh fa ft FA g0 fe3 lo3 (rk g0) (wd g0) (tw g0) (pa g0) (pb g0) lk3 (kd g0) (st g0) (gb g0) (it g0) we3 fm3 (.ref r3) (h200) (by first | with_reducible assumption | omega) (hFA3) (by first | exact hA3 | omega)) (csV_144 hts rfl rfl ⟨Nat.le_of_ble_eq_true rfl, Nat.le_of_ble_eq_true rfl⟩) (zPV2 (q0 := 0) (ci := 7) hPc hDc hK hXN rfl rfl) rfl rfl hl.1 rfl (lv_room (Nat.le_of_ble_eq_true rfl)) dX10_meets_14 ⟨Nat.le_of_ble_eq_true rfl, Nat.le_of_ble_eq_true rfl⟩) hS hFc hFc rfl (fun t H locs ht hB hk1 hS => ?_)
          obtain ⟨hP1, hD1⟩ := hB
          rw [ht] at hP1
          obtain ⟨hP, hD⟩ := zkQ (W2 := [(oc8 x (.ref sh) (.ref lw) (.ref ro) (.ref bq) (.ref bp) (.ref dq) (.ref dp) (.ref lv) (.ref sl) ds sd ul su), (oc7 sh (.ref fa) (nI ft)), (oq fa cF 200 FA), (oc1 fe3 (rk g0) (wd g0) (tw g0) (pa g0) (pb g0) (.ref lo3) (.ref lk3) fm3), (oc4 lk3 (kd g0) (st g0) (.ref r3) (gb g0) (it g0) we3)]) hP hD [1, 2, 3, 4] [0] [0] [1, 2, 3, 4] [0, 1, 2, 3, 4] 5 rfl rfl rfl rfl rfl rfl rfl rfl rfl hk1 hFc hP1 hD1
          clear hk1 hPc hDc hFc hP1 hD1 ht
          have hP := pl_back (cs := [(oc1 fe3 (rk g0) (wd g0) (tw g0) (pa g0) (pb g0) (.ref lo3) (.ref lk3) fm3), (oc4 lk3 (kd g0) (st g0) (.ref r3) (gb g0) (it g0) we3)]) (L := L) (f := f) (X := [(oc8 x (.ref sh) (.ref lw) (.ref ro) (.ref bq) (.ref bp) (.ref dq) (.ref dp) (.ref lv) (.ref sl) ds sd ul su), (oc7 sh (.ref fa) (nI ft)), (oq fa cF 200 FA)]) (by rw [hT_2]; exact (show va_P (dC, dI) classes (([(oc8 x (.ref sh) (.ref lw) (.ref ro) (.ref bq) (.ref bp) (.ref dq) (.ref dp) (.ref lv) (.ref sl) ds sd ul su), (oc7 sh (.ref fa) (nI ft)), (oq fa cF 200 FA)] ++ [(oc1 fe3 (rk g0) (wd g0) (tw g0) (pa g0) (pb g0) (.ref lo3) (.ref lk3) fm3), (oc4 lk3 (kd g0) (st g0) (.ref r3) (gb g0) (it g0) we3)]) ++ va_pl T_2 f) H from hP)) hc9_2
          have hD : va_D A ([(oc8 x (.ref sh) (.ref lw) (.ref ro) (.ref bq) (.ref bp) (.ref dq) (.ref dp) (.ref lv) (.ref sl) ds sd ul su), (oc7 sh (.ref fa) (nI ft)), (oq fa cF 200 FA)] ++ va_pl L f) := vaD_ae hD0_2 rfl
          refine lv_astoreN (lv' := [(4, .null), (3, .null), (0, .ref x), (1, .int (nI f0)), (2, .int (nI g0))]) hx hb dX10_meets_17 hl (Nat.le_of_ble_eq_true rfl) rfl (fun ls hl => ?_)
          refine lv_aload_nN hx hb dX10_meets_19 rfl (lv_at hl 1 rfl) ?_
          refine lv_ifnullN (tgt := 41) hx hb dX10_meets_20 rfl ?_
          refine lv_iconst (v := 0) hx hb dX10_meets_41 rfl ?_
          obtain ⟨hP9, hD9⟩ := zq_part (cx := [(oc8 x (.ref sh) (.ref lw) (.ref ro) (.ref bq) (.ref bp) (.ref dq) (.ref dp) (.ref lv) (.ref sl) ds sd ul su), (oc7 sh (.ref fa) (nI ft)), (oq fa cF 200 FA)]) hP hD [0, 1, 2] rfl rfl
          rw [hQ9]
          exact W.zret (ty := .boolean) (v := 0) hx hb hr (rfl) (fun t ht hW => ⟨⟨rfl, by rw [ht]; exact hP9, hD9⟩, hS.F ht⟩) hS.2.2 dX10_meets_42
    · skip
      refine va_get (D := (dC, dI)) (ci := 8) (v := .ref sh) (C := RX10) (T := TX10) (N := 13) hx hb hts inX10 hown hK hP 0 rfl rfl 0 (Nat.le_of_ble_eq_true rfl) (hts _ mw_309) (fun _ h9 => h9) rfl dX10_meets_1 ?_
      have hc9_1 : inPl L f [(oc1 fe2 (rk f0) (wd f0) (tw f0) (pa f0) (pb f0) (.ref lo2) (.ref lk2) fm2), (oc4 lk2 (kd f0) (st f0) (.ref r2) (gb f0) (it f0) we2)] := ⟨hfe2, hlk2, trivial⟩
      have hD0_1 := hD
      obtain ⟨hP, hD⟩ := pl_out hP hD [(oc1 fe2 (rk f0) (wd f0) (tw f0) (pa f0) (pb f0) (.ref lo2) (.ref lk2) fm2), (oc4 lk2 (kd f0) (st f0) (.ref r2) (gb f0) (it f0) we2)] hc9_1 (pwF hfe2.2 hlk2.2)
      generalize hT_1 : outPl L [(oc1 fe2 (rk f0) (wd f0) (tw f0) (pa f0) (pb f0) (.ref lo2) (.ref lk2) fm2), (oc4 lk2 (kd f0) (st f0) (.ref r2) (gb f0) (it f0) we2)] = T_1 at hP hD
      obtain ⟨hP, hD⟩ : zPD (dC, dI) classes A ([(oc8 x (.ref sh) (.ref lw) (.ref ro) (.ref bq) (.ref bp) (.ref dq) (.ref dp) (.ref lv) (.ref sl) ds sd ul su), (oc7 sh (.ref fa) (nI ft)), (oq fa cF 200 FA), (oc1 fe2 (rk f0) (wd f0) (tw f0) (pa f0) (pb f0) (.ref lo2) (.ref lk2) fm2), (oc4 lk2 (kd f0) (st f0) (.ref r2) (gb f0) (it f0) we2)] ++ va_pl T_1 f) s.heap := ⟨hP, hD⟩
      refine lv_iload_n hx hb dX10_meets_4 rfl (lv_at hl 1 rfl) ?_
      obtain ⟨hPc, hDc, hFc⟩ := zc_sub (wc := [(oc7 sh (.ref fa) (nI ft)), (oq fa cF 200 FA), (oc1 fe2 (rk f0) (wd f0) (tw f0) (pa f0) (pb f0) (.ref lo2) (.ref lk2) fm2), (oc4 lk2 (kd f0) (st f0) (.ref r2) (gb f0) (it f0) we2)]) hP hD hS hA [1, 2, 3, 4] rfl rfl
      refine zcall (st1 := [.ref r2]) (va_runV (As := [.int (nI f0)]) (rest := []) ⟨hx, hb, hml, hown, hts⟩ (k_Sheet_rowThere_yv l dC dI cI cZ cF s.heap.size sh fa ft FA f0 fe2 lo2 (rk f0) (wd f0) (tw f0) (pa f0) (pb f0) lk2 (kd f0) (st f0) (gb f0) (it f0) we2 r2 fm2 (h200) (by first | with_reducible assumption | omega) (hFA2) (by first | exact hA2 | omega)) (csV_144 hts rfl rfl ⟨Nat.le_of_ble_eq_true rfl, Nat.le_of_ble_eq_true rfl⟩) (zPV2 (q0 := 0) (ci := 7) hPc hDc hK hXN rfl rfl) rfl rfl hl.1 rfl (lv_room (Nat.le_of_ble_eq_true rfl)) dX10_meets_5 ⟨Nat.le_of_ble_eq_true rfl, Nat.le_of_ble_eq_true rfl⟩) hS hFc hFc rfl (fun t H locs ht hB hk1 hS => ?_)
      obtain ⟨hP1, hD1⟩ := hB
      rw [ht] at hP1
      obtain ⟨hP, hD⟩ := zkQ (W2 := [(oc8 x (.ref sh) (.ref lw) (.ref ro) (.ref bq) (.ref bp) (.ref dq) (.ref dp) (.ref lv) (.ref sl) ds sd ul su), (oc7 sh (.ref fa) (nI ft)), (oq fa cF 200 FA), (oc1 fe2 (rk f0) (wd f0) (tw f0) (pa f0) (pb f0) (.ref lo2) (.ref lk2) fm2), (oc4 lk2 (kd f0) (st f0) (.ref r2) (gb f0) (it f0) we2)]) hP hD [1, 2, 3, 4] [0] [0] [1, 2, 3, 4] [0, 1, 2, 3, 4] 5 rfl rfl rfl rfl rfl rfl rfl rfl rfl hk1 hFc hP1 hD1
      clear hk1 hPc hDc hFc hP1 hD1 ht
      have hP := pl_back (cs := [(oc1 fe2 (rk f0) (wd f0) (tw f0) (pa f0) (pb f0) (.ref lo2) (.ref lk2) fm2), (oc4 lk2 (kd f0) (st f0) (.ref r2) (gb f0) (it f0) we2)]) (L := L) (f := f) (X := [(oc8 x (.ref sh) (.ref lw) (.ref ro) (.ref bq) (.ref bp) (.ref dq) (.ref dp) (.ref lv) (.ref sl) ds sd ul su), (oc7 sh (.ref fa) (nI ft)), (oq fa cF 200 FA)]) (by rw [hT_1]; exact (show va_P (dC, dI) classes (([(oc8 x (.ref sh) (.ref lw) (.ref ro) (.ref bq) (.ref bp) (.ref dq) (.ref dp) (.ref lv) (.ref sl) ds sd ul su), (oc7 sh (.ref fa) (nI ft)), (oq fa cF 200 FA)] ++ [(oc1 fe2 (rk f0) (wd f0) (tw f0) (pa f0) (pb f0) (.ref lo2) (.ref lk2) fm2), (oc4 lk2 (kd f0) (st f0) (.ref r2) (gb f0) (it f0) we2)]) ++ va_pl T_1 f) H from hP)) hc9_1
      have hD : va_D A ([(oc8 x (.ref sh) (.ref lw) (.ref ro) (.ref bq) (.ref bp) (.ref dq) (.ref dp) (.ref lv) (.ref sl) ds sd ul su), (oc7 sh (.ref fa) (nI ft)), (oq fa cF 200 FA)] ++ va_pl L f) := vaD_ae hD0_1 rfl
      refine lv_astore_n (lv' := [(3, .ref r2), (0, .ref x), (1, .int (nI f0)), (2, .int w)]) hx hb dX10_meets_8 rfl hl (Nat.le_of_ble_eq_true rfl) rfl (fun ls hl => ?_)
      rcases v_c (v := w) (ft := ft) h200 with hb3 | ⟨g0, hq3, rfl⟩
      · skip
        refine lv_aload_n hx hb dX10_meets_9 rfl (lv_at hl 1 rfl) ?_
        refine va_get (D := (dC, dI)) (ci := 8) (v := .ref sh) (C := RX10) (T := TX10) (N := 13) hx hb hts inX10 hown hK hP 0 rfl rfl 0 (Nat.le_of_ble_eq_true rfl) (hts _ mw_309) (fun _ h9 => h9) rfl dX10_meets_10 ?_
        refine lv_iload_n hx hb dX10_meets_13 rfl (lv_at hl 3 rfl) ?_
        obtain ⟨hPc, hDc, hFc⟩ := zc_sub (wc := [(oc7 sh (.ref fa) (nI ft)), (oq fa cF 200 FA)]) hP hD hS hA [1, 2] rfl rfl
        refine zcall (st1 := [.null]) (va_runV (As := [.int w]) (rest := []) ⟨hx, hb, hml, hown, hts⟩ (k_Sheet_rowThere_x l dC dI cI cZ cF H.size sh fa ft FA w (h200) (hb3)) (csV_144 hts rfl rfl ⟨Nat.le_of_ble_eq_true rfl, Nat.le_of_ble_eq_true rfl⟩) (zPV2 (q0 := 0) (ci := 7) hPc hDc hK hXN rfl rfl) rfl rfl hl.1 rfl (lv_room (Nat.le_of_ble_eq_true rfl)) dX10_meets_14 ⟨Nat.le_of_ble_eq_true rfl, Nat.le_of_ble_eq_true rfl⟩) hS hFc hFc rfl (fun t H locs ht hB hk1 hS => ?_)
        obtain ⟨hP1, hD1⟩ := hB
        rw [ht] at hP1
        obtain ⟨hP, hD⟩ := zkQ (W2 := [(oc8 x (.ref sh) (.ref lw) (.ref ro) (.ref bq) (.ref bp) (.ref dq) (.ref dp) (.ref lv) (.ref sl) ds sd ul su), (oc7 sh (.ref fa) (nI ft)), (oq fa cF 200 FA)]) hP hD [1, 2] [0] [0] [1, 2] [0, 1, 2] 3 rfl rfl rfl rfl rfl rfl rfl rfl rfl hk1 hFc hP1 hD1
        clear hk1 hPc hDc hFc hP1 hD1 ht
        refine lv_astoreN (lv' := [(4, .null), (3, .ref r2), (0, .ref x), (1, .int (nI f0)), (2, .int w)]) hx hb dX10_meets_17 hl (Nat.le_of_ble_eq_true rfl) rfl (fun ls hl => ?_)
        refine lv_aload_n hx hb dX10_meets_19 rfl (lv_at hl 1 rfl) ?_
        refine lv_ifnull hx hb dX10_meets_20 ?_
        refine lv_aloadN hx hb dX10_meets_23 (lv_at hl 0 rfl) ?_
        refine lv_ifnullN (tgt := 41) hx hb dX10_meets_25 rfl ?_
        refine lv_iconst (v := 0) hx hb dX10_meets_41 rfl ?_
        obtain ⟨hP9, hD9⟩ := zq_part (cx := [(oc8 x (.ref sh) (.ref lw) (.ref ro) (.ref bq) (.ref bp) (.ref dq) (.ref dp) (.ref lv) (.ref sl) ds sd ul su), (oc7 sh (.ref fa) (nI ft)), (oq fa cF 200 FA)]) hP hD [0, 1, 2] rfl rfl
        rw [hQ9]
        exact W.zret (ty := .boolean) (v := 0) hx hb hr (rfl) (fun t ht hW => ⟨⟨rfl, by rw [ht]; exact hP9, hD9⟩, hS.F ht⟩) hS.2.2 dX10_meets_42
      · skip
        refine lv_aload_n hx hb dX10_meets_9 rfl (lv_at hl 1 rfl) ?_
        rcases vwA_3 (P9 := ((st g0).toInt = 1)) (hva g0 (by omega)) with ⟨ht3, fe3, lk3, lo3, we3, fm3, hFA3, hfe3, hlk3⟩ | ⟨ht3, hA3, fe3, lk3, lo3, we3, fm3, r3, rx3, ry3, cap3, U3, V3, rg3, hFA3, hfe3, hlk3, ⟨hr3, hrx3, hry3, hne3⟩, hrr3⟩ | ⟨ht3, hA3, fe3, lk3, lo3, we3, fm3, r3, rx3, ry3, cap3, U3, V3, rg3, hFA3, hfe3, hlk3, ⟨hr3, hrx3, hry3, hne3⟩, hrr3⟩
        · skip
          refine va_get (D := (dC, dI)) (ci := 8) (v := .ref sh) (C := RX10) (T := TX10) (N := 13) hx hb hts inX10 hown hK hP 0 rfl rfl 0 (Nat.le_of_ble_eq_true rfl) (hts _ mw_309) (fun _ h9 => h9) rfl dX10_meets_10 ?_
          have hc9_2 : inPl L f [(oc1 fe3 (rk g0) (wd g0) (tw g0) (pa g0) (pb g0) (.ref lo3) (.ref lk3) fm3), (oc4 lk3 (kd g0) (st g0) .null (gb g0) (it g0) we3)] := ⟨hfe3, hlk3, trivial⟩
          have hD0_2 := hD
          obtain ⟨hP, hD⟩ := pl_out hP hD [(oc1 fe3 (rk g0) (wd g0) (tw g0) (pa g0) (pb g0) (.ref lo3) (.ref lk3) fm3), (oc4 lk3 (kd g0) (st g0) .null (gb g0) (it g0) we3)] hc9_2 (pwF hfe3.2 hlk3.2)
          generalize hT_2 : outPl L [(oc1 fe3 (rk g0) (wd g0) (tw g0) (pa g0) (pb g0) (.ref lo3) (.ref lk3) fm3), (oc4 lk3 (kd g0) (st g0) .null (gb g0) (it g0) we3)] = T_2 at hP hD
          obtain ⟨hP, hD⟩ : zPD (dC, dI) classes A ([(oc8 x (.ref sh) (.ref lw) (.ref ro) (.ref bq) (.ref bp) (.ref dq) (.ref dp) (.ref lv) (.ref sl) ds sd ul su), (oc7 sh (.ref fa) (nI ft)), (oq fa cF 200 FA), (oc1 fe3 (rk g0) (wd g0) (tw g0) (pa g0) (pb g0) (.ref lo3) (.ref lk3) fm3), (oc4 lk3 (kd g0) (st g0) .null (gb g0) (it g0) we3)] ++ va_pl T_2 f) H := ⟨hP, hD⟩
          refine lv_iload_n hx hb dX10_meets_13 rfl (lv_at hl 3 rfl) ?_
          obtain ⟨hPc, hDc, hFc⟩ := zc_sub (wc := [(oc7 sh (.ref fa) (nI ft)), (oq fa cF 200 FA), (oc1 fe3 (rk g0) (wd g0) (tw g0) (pa g0) (pb g0) (.ref lo3) (.ref lk3) fm3), (oc4 lk3 (kd g0) (st g0) .null (gb g0) (it g0) we3)]) hP hD hS hA [1, 2, 3, 4] rfl rfl
          refine zcall (st1 := [.null]) (va_runV (As := [.int (nI g0)]) (rest := []) ⟨hx, hb, hml, hown, hts⟩ (k_Sheet_rowThere_tv l dC dI cI cZ cF H.size sh fa ft FA g0 fe3 lo3 (rk g0) (wd g0) (tw g0) (pa g0) (pb g0) lk3 (kd g0) (st g0) (gb g0) (it g0) we3 fm3 (h200) (by first | with_reducible assumption | omega) (hFA3)) (csV_144 hts rfl rfl ⟨Nat.le_of_ble_eq_true rfl, Nat.le_of_ble_eq_true rfl⟩) (zPV2 (q0 := 0) (ci := 7) hPc hDc hK hXN rfl rfl) rfl rfl hl.1 rfl (lv_room (Nat.le_of_ble_eq_true rfl)) dX10_meets_14 ⟨Nat.le_of_ble_eq_true rfl, Nat.le_of_ble_eq_true rfl⟩) hS hFc hFc rfl (fun t H locs ht hB hk1 hS => ?_)
          obtain ⟨hP1, hD1⟩ := hB
          rw [ht] at hP1
          obtain ⟨hP, hD⟩ := zkQ (W2 := [(oc8 x (.ref sh) (.ref lw) (.ref ro) (.ref bq) (.ref bp) (.ref dq) (.ref dp) (.ref lv) (.ref sl) ds sd ul su), (oc7 sh (.ref fa) (nI ft)), (oq fa cF 200 FA), (oc1 fe3 (rk g0) (wd g0) (tw g0) (pa g0) (pb g0) (.ref lo3) (.ref lk3) fm3), (oc4 lk3 (kd g0) (st g0) .null (gb g0) (it g0) we3)]) hP hD [1, 2, 3, 4] [0] [0] [1, 2, 3, 4] [0, 1, 2, 3, 4] 5 rfl rfl rfl rfl rfl rfl rfl rfl rfl hk1 hFc hP1 hD1
          clear hk1 hPc hDc hFc hP1 hD1 ht
          have hP := pl_back (cs := [(oc1 fe3 (rk g0) (wd g0) (tw g0) (pa g0) (pb g0) (.ref lo3) (.ref lk3) fm3), (oc4 lk3 (kd g0) (st g0) .null (gb g0) (it g0) we3)]) (L := L) (f := f) (X := [(oc8 x (.ref sh) (.ref lw) (.ref ro) (.ref bq) (.ref bp) (.ref dq) (.ref dp) (.ref lv) (.ref sl) ds sd ul su), (oc7 sh (.ref fa) (nI ft)), (oq fa cF 200 FA)]) (by rw [hT_2]; exact (show va_P (dC, dI) classes (([(oc8 x (.ref sh) (.ref lw) (.ref ro) (.ref bq) (.ref bp) (.ref dq) (.ref dp) (.ref lv) (.ref sl) ds sd ul su), (oc7 sh (.ref fa) (nI ft)), (oq fa cF 200 FA)] ++ [(oc1 fe3 (rk g0) (wd g0) (tw g0) (pa g0) (pb g0) (.ref lo3) (.ref lk3) fm3), (oc4 lk3 (kd g0) (st g0) .null (gb g0) (it g0) we3)]) ++ va_pl T_2 f) H from hP)) hc9_2
          have hD : va_D A ([(oc8 x (.ref sh) (.ref lw) (.ref ro) (.ref bq) (.ref bp) (.ref dq) (.ref dp) (.ref lv) (.ref sl) ds sd ul su), (oc7 sh (.ref fa) (nI ft)), (oq fa cF 200 FA)] ++ va_pl L f) := vaD_ae hD0_2 rfl
          refine lv_astoreN (lv' := [(4, .null), (3, .ref r2), (0, .ref x), (1, .int (nI f0)), (2, .int (nI g0))]) hx hb dX10_meets_17 hl (Nat.le_of_ble_eq_true rfl) rfl (fun ls hl => ?_)
          refine lv_aload_n hx hb dX10_meets_19 rfl (lv_at hl 1 rfl) ?_
          refine lv_ifnull hx hb dX10_meets_20 ?_
          refine lv_aloadN hx hb dX10_meets_23 (lv_at hl 0 rfl) ?_
          refine lv_ifnullN (tgt := 41) hx hb dX10_meets_25 rfl ?_
          refine lv_iconst (v := 0) hx hb dX10_meets_41 rfl ?_
          obtain ⟨hP9, hD9⟩ := zq_part (cx := [(oc8 x (.ref sh) (.ref lw) (.ref ro) (.ref bq) (.ref bp) (.ref dq) (.ref dp) (.ref lv) (.ref sl) ds sd ul su), (oc7 sh (.ref fa) (nI ft)), (oq fa cF 200 FA)]) hP hD [0, 1, 2] rfl rfl
          rw [hQ9]
          exact W.zret (ty := .boolean) (v := 0) hx hb hr (rfl) (fun t ht hW => ⟨⟨rfl, by rw [ht]; exact hP9, hD9⟩, hS.F ht⟩) hS.2.2 dX10_meets_42
        · skip
          refine va_get (D := (dC, dI)) (ci := 8) (v := .ref sh) (C := RX10) (T := TX10) (N := 13) hx hb hts inX10 hown hK hP 0 rfl rfl 0 (Nat.le_of_ble_eq_true rfl) (hts _ mw_309) (fun _ h9 => h9) rfl dX10_meets_10 ?_
          have hc9_2 : inPl L f [(oc1 fe3 (rk g0) (wd g0) (tw g0) (pa g0) (pb g0) (.ref lo3) (.ref lk3) fm3), (oc4 lk3 (kd g0) (st g0) (.ref r3) (gb g0) (it g0) we3)] := ⟨hfe3, hlk3, trivial⟩
          have hD0_2 := hD
          obtain ⟨hP, hD⟩ := pl_out hP hD [(oc1 fe3 (rk g0) (wd g0) (tw g0) (pa g0) (pb g0) (.ref lo3) (.ref lk3) fm3), (oc4 lk3 (kd g0) (st g0) (.ref r3) (gb g0) (it g0) we3)] hc9_2 (pwF hfe3.2 hlk3.2)
          generalize hT_2 : outPl L [(oc1 fe3 (rk g0) (wd g0) (tw g0) (pa g0) (pb g0) (.ref lo3) (.ref lk3) fm3), (oc4 lk3 (kd g0) (st g0) (.ref r3) (gb g0) (it g0) we3)] = T_2 at hP hD
          obtain ⟨hP, hD⟩ : zPD (dC, dI) classes A ([(oc8 x (.ref sh) (.ref lw) (.ref ro) (.ref bq) (.ref bp) (.ref dq) (.ref dp) (.ref lv) (.ref sl) ds sd ul su), (oc7 sh (.ref fa) (nI ft)), (oq fa cF 200 FA), (oc1 fe3 (rk g0) (wd g0) (tw g0) (pa g0) (pb g0) (.ref lo3) (.ref lk3) fm3), (oc4 lk3 (kd g0) (st g0) (.ref r3) (gb g0) (it g0) we3)] ++ va_pl T_2 f) H := ⟨hP, hD⟩
          refine lv_iload_n hx hb dX10_meets_13 rfl (lv_at hl 3 rfl) ?_
          obtain ⟨hPc, hDc, hFc⟩ := zc_sub (wc := [(oc7 sh (.ref fa) (nI ft)), (oq fa cF 200 FA), (oc1 fe3 (rk g0) (wd g0) (tw g0) (pa g0) (pb g0) (.ref lo3) (.ref lk3) fm3), (oc4 lk3 (kd g0) (st g0) (.ref r3) (gb g0) (it g0) we3)]) hP hD hS hA [1, 2, 3, 4] rfl rfl
          refine zcall (st1 := [.ref r3]) (va_runV (As := [.int (nI g0)]) (rest := []) ⟨hx, hb, hml, hown, hts⟩ (k_Sheet_rowThere_yv l dC dI cI cZ cF H.size sh fa ft FA g0 fe3 lo3 (rk g0) (wd g0) (tw g0) (pa g0) (pb g0) lk3 (kd g0) (st g0) (gb g0) (it g0) we3 r3 fm3 (h200) (by first | with_reducible assumption | omega) (hFA3) (by first | exact hA3 | omega)) (csV_144 hts rfl rfl ⟨Nat.le_of_ble_eq_true rfl, Nat.le_of_ble_eq_true rfl⟩) (zPV2 (q0 := 0) (ci := 7) hPc hDc hK hXN rfl rfl) rfl rfl hl.1 rfl (lv_room (Nat.le_of_ble_eq_true rfl)) dX10_meets_14 ⟨Nat.le_of_ble_eq_true rfl, Nat.le_of_ble_eq_true rfl⟩) hS hFc hFc rfl (fun t H locs ht hB hk1 hS => ?_)
          obtain ⟨hP1, hD1⟩ := hB
          rw [ht] at hP1
          obtain ⟨hP, hD⟩ := zkQ (W2 := [(oc8 x (.ref sh) (.ref lw) (.ref ro) (.ref bq) (.ref bp) (.ref dq) (.ref dp) (.ref lv) (.ref sl) ds sd ul su), (oc7 sh (.ref fa) (nI ft)), (oq fa cF 200 FA), (oc1 fe3 (rk g0) (wd g0) (tw g0) (pa g0) (pb g0) (.ref lo3) (.ref lk3) fm3), (oc4 lk3 (kd g0) (st g0) (.ref r3) (gb g0) (it g0) we3)]) hP hD [1, 2, 3, 4] [0] [0] [1, 2, 3, 4] [0, 1, 2, 3, 4] 5 rfl rfl rfl rfl rfl rfl rfl rfl rfl hk1 hFc hP1 hD1
          clear hk1 hPc hDc hFc hP1 hD1 ht
          have hP := pl_back (cs := [(oc1 fe3 (rk g0) (wd g0) (tw g0) (pa g0) (pb g0) (.ref lo3) (.ref lk3) fm3), (oc4 lk3 (kd g0) (st g0) (.ref r3) (gb g0) (it g0) we3)]) (L := L) (f := f) (X := [(oc8 x (.ref sh) (.ref lw) (.ref ro) (.ref bq) (.ref bp) (.ref dq) (.ref dp) (.ref lv) (.ref sl) ds sd ul su), (oc7 sh (.ref fa) (nI ft)), (oq fa cF 200 FA)]) (by rw [hT_2]; exact (show va_P (dC, dI) classes (([(oc8 x (.ref sh) (.ref lw) (.ref ro) (.ref bq) (.ref bp) (.ref dq) (.ref dp) (.ref lv) (.ref sl) ds sd ul su), (oc7 sh (.ref fa) (nI ft)), (oq fa cF 200 FA)] ++ [(oc1 fe3 (rk g0) (wd g0) (tw g0) (pa g0) (pb g0) (.ref lo3) (.ref lk3) fm3), (oc4 lk3 (kd g0) (st g0) (.ref r3) (gb g0) (it g0) we3)]) ++ va_pl T_2 f) H from hP)) hc9_2
          have hD : va_D A ([(oc8 x (.ref sh) (.ref lw) (.ref ro) (.ref bq) (.ref bp) (.ref dq) (.ref dp) (.ref lv) (.ref sl) ds sd ul su), (oc7 sh (.ref fa) (nI ft)), (oq fa cF 200 FA)] ++ va_pl L f) := vaD_ae hD0_2 rfl
          refine lv_astore (lv' := [(4, .ref r3), (3, .ref r2), (0, .ref x), (1, .int (nI f0)), (2, .int (nI g0))]) hx hb dX10_meets_17 hl (Nat.le_of_ble_eq_true rfl) rfl (fun ls hl => ?_)
          refine lv_aload_n hx hb dX10_meets_19 rfl (lv_at hl 1 rfl) ?_
          refine lv_ifnull hx hb dX10_meets_20 ?_
          refine lv_aload hx hb dX10_meets_23 (lv_at hl 0 rfl) ?_
          refine lv_ifnull hx hb dX10_meets_25 ?_
          exact absurd ⟨⟨f0, rfl, hq2, hA2, ht2⟩, g0, rfl, hq3, hA3, ht3⟩ hbad
        · skip
          refine va_get (D := (dC, dI)) (ci := 8) (v := .ref sh) (C := RX10) (T := TX10) (N := 13) hx hb hts inX10 hown hK hP 0 rfl rfl 0 (Nat.le_of_ble_eq_true rfl) (hts _ mw_309) (fun _ h9 => h9) rfl dX10_meets_10 ?_
          have hc9_2 : inPl L f [(oc1 fe3 (rk g0) (wd g0) (tw g0) (pa g0) (pb g0) (.ref lo3) (.ref lk3) fm3), (oc4 lk3 (kd g0) (st g0) (.ref r3) (gb g0) (it g0) we3)] := ⟨hfe3, hlk3, trivial⟩
          have hD0_2 := hD
          obtain ⟨hP, hD⟩ := pl_out hP hD [(oc1 fe3 (rk g0) (wd g0) (tw g0) (pa g0) (pb g0) (.ref lo3) (.ref lk3) fm3), (oc4 lk3 (kd g0) (st g0) (.ref r3) (gb g0) (it g0) we3)] hc9_2 (pwF hfe3.2 hlk3.2)
          generalize hT_2 : outPl L [(oc1 fe3 (rk g0) (wd g0) (tw g0) (pa g0) (pb g0) (.ref lo3) (.ref lk3) fm3), (oc4 lk3 (kd g0) (st g0) (.ref r3) (gb g0) (it g0) we3)] = T_2 at hP hD
          obtain ⟨hP, hD⟩ : zPD (dC, dI) classes A ([(oc8 x (.ref sh) (.ref lw) (.ref ro) (.ref bq) (.ref bp) (.ref dq) (.ref dp) (.ref lv) (.ref sl) ds sd ul su), (oc7 sh (.ref fa) (nI ft)), (oq fa cF 200 FA), (oc1 fe3 (rk g0) (wd g0) (tw g0) (pa g0) (pb g0) (.ref lo3) (.ref lk3) fm3), (oc4 lk3 (kd g0) (st g0) (.ref r3) (gb g0) (it g0) we3)] ++ va_pl T_2 f) H := ⟨hP, hD⟩
          refine lv_iload_n hx hb dX10_meets_13 rfl (lv_at hl 3 rfl) ?_
          obtain ⟨hPc, hDc, hFc⟩ := zc_sub (wc := [(oc7 sh (.ref fa) (nI ft)), (oq fa cF 200 FA), (oc1 fe3 (rk g0) (wd g0) (tw g0) (pa g0) (pb g0) (.ref lo3) (.ref lk3) fm3), (oc4 lk3 (kd g0) (st g0) (.ref r3) (gb g0) (it g0) we3)]) hP hD hS hA [1, 2, 3, 4] rfl rfl
          refine zcall (st1 := [.null]) (va_runV (As := [.int (nI g0)]) (rest := []) ⟨hx, hb, hml, hown, hts⟩ (k_Sheet_rowThere_sv l dC dI cI cZ cF H.size sh fa ft FA g0 fe3 lo3 (rk g0) (wd g0) (tw g0) (pa g0) (pb g0) lk3 (kd g0) (st g0) (gb g0) (it g0) we3 fm3 (.ref r3) (h200) (by first | with_reducible assumption | omega) (hFA3) (by first | exact hA3 | omega)) (csV_144 hts rfl rfl ⟨Nat.le_of_ble_eq_true rfl, Nat.le_of_ble_eq_true rfl⟩) (zPV2 (q0 := 0) (ci := 7) hPc hDc hK hXN rfl rfl) rfl rfl hl.1 rfl (lv_room (Nat.le_of_ble_eq_true rfl)) dX10_meets_14 ⟨Nat.le_of_ble_eq_true rfl, Nat.le_of_ble_eq_true rfl⟩) hS hFc hFc rfl (fun t H locs ht hB hk1 hS => ?_)
          obtain ⟨hP1, hD1⟩ := hB
          rw [ht] at hP1
          obtain ⟨hP, hD⟩ := zkQ (W2 := [(oc8 x (.ref sh) (.ref lw) (.ref ro) (.ref bq) (.ref bp) (.ref dq) (.ref dp) (.ref lv) (.ref sl) ds sd ul su), (oc7 sh (.ref fa) (nI ft)), (oq fa cF 200 FA), (oc1 fe3 (rk g0) (wd g0) (tw g0) (pa g0) (pb g0) (.ref lo3) (.ref lk3) fm3), (oc4 lk3 (kd g0) (st g0) (.ref r3) (gb g0) (it g0) we3)]) hP hD [1, 2, 3, 4] [0] [0] [1, 2, 3, 4] [0, 1, 2, 3, 4] 5 rfl rfl rfl rfl rfl rfl rfl rfl rfl hk1 hFc hP1 hD1
          clear hk1 hPc hDc hFc hP1 hD1 ht
          have hP := pl_back (cs := [(oc1 fe3 (rk g0) (wd g0) (tw g0) (pa g0) (pb g0) (.ref lo3) (.ref lk3) fm3), (oc4 lk3 (kd g0) (st g0) (.ref r3) (gb g0) (it g0) we3)]) (L := L) (f := f) (X := [(oc8 x (.ref sh) (.ref lw) (.ref ro) (.ref bq) (.ref bp) (.ref dq) (.ref dp) (.ref lv) (.ref sl) ds sd ul su), (oc7 sh (.ref fa) (nI ft)), (oq fa cF 200 FA)]) (by rw [hT_2]; exact (show va_P (dC, dI) classes (([(oc8 x (.ref sh) (.ref lw) (.ref ro) (.ref bq) (.ref bp) (.ref dq) (.ref dp) (.ref lv) (.ref sl) ds sd ul su), (oc7 sh (.ref fa) (nI ft)), (oq fa cF 200 FA)] ++ [(oc1 fe3 (rk g0) (wd g0) (tw g0) (pa g0) (pb g0) (.ref lo3) (.ref lk3) fm3), (oc4 lk3 (kd g0) (st g0) (.ref r3) (gb g0) (it g0) we3)]) ++ va_pl T_2 f) H from hP)) hc9_2
          have hD : va_D A ([(oc8 x (.ref sh) (.ref lw) (.ref ro) (.ref bq) (.ref bp) (.ref dq) (.ref dp) (.ref lv) (.ref sl) ds sd ul su), (oc7 sh (.ref fa) (nI ft)), (oq fa cF 200 FA)] ++ va_pl L f) := vaD_ae hD0_2 rfl
          refine lv_astoreN (lv' := [(4, .null), (3, .ref r2), (0, .ref x), (1, .int (nI f0)), (2, .int (nI g0))]) hx hb dX10_meets_17 hl (Nat.le_of_ble_eq_true rfl) rfl (fun ls hl => ?_)
          refine lv_aload_n hx hb dX10_meets_19 rfl (lv_at hl 1 rfl) ?_
          refine lv_ifnull hx hb dX10_meets_20 ?_
          refine lv_aloadN hx hb dX10_meets_23 (lv_at hl 0 rfl) ?_
          refine lv_ifnullN (tgt := 41) hx hb dX10_meets_25 rfl ?_
          refine lv_iconst (v := 0) hx hb dX10_meets_41 rfl ?_
          obtain ⟨hP9, hD9⟩ := zq_part (cx := [(oc8 x (.ref sh) (.ref lw) (.ref ro) (.ref bq) (.ref bp) (.ref dq) (.ref dp) (.ref lv) (.ref sl) ds sd ul su), (oc7 sh (.ref fa) (nI ft)), (oq fa cF 200 FA)]) hP hD [0, 1, 2] rfl rfl
          rw [hQ9]
          exact W.zret (ty := .boolean) (v := 0) hx hb hr (rfl) (fun t ht hW => ⟨⟨rfl, by rw [ht]; exact hP9, hD9⟩, hS.F ht⟩) hS.2.2 dX10_meets_42
    · skip
      refine va_get (D := (dC, dI)) (ci := 8) (v := .ref sh) (C := RX10) (T := TX10) (N := 13) hx hb hts inX10 hown hK hP 0 rfl rfl 0 (Nat.le_of_ble_eq_true rfl) (hts _ mw_309) (fun _ h9 => h9) rfl dX10_meets_1 ?_
      have hc9_1 : inPl L f [(oc1 fe2 (rk f0) (wd f0) (tw f0) (pa f0) (pb f0) (.ref lo2) (.ref lk2) fm2), (oc4 lk2 (kd f0) (st f0) (.ref r2) (gb f0) (it f0) we2)] := ⟨hfe2, hlk2, trivial⟩
      have hD0_1 := hD
      obtain ⟨hP, hD⟩ := pl_out hP hD [(oc1 fe2 (rk f0) (wd f0) (tw f0) (pa f0) (pb f0) (.ref lo2) (.ref lk2) fm2), (oc4 lk2 (kd f0) (st f0) (.ref r2) (gb f0) (it f0) we2)] hc9_1 (pwF hfe2.2 hlk2.2)
      generalize hT_1 : outPl L [(oc1 fe2 (rk f0) (wd f0) (tw f0) (pa f0) (pb f0) (.ref lo2) (.ref lk2) fm2), (oc4 lk2 (kd f0) (st f0) (.ref r2) (gb f0) (it f0) we2)] = T_1 at hP hD
      obtain ⟨hP, hD⟩ : zPD (dC, dI) classes A ([(oc8 x (.ref sh) (.ref lw) (.ref ro) (.ref bq) (.ref bp) (.ref dq) (.ref dp) (.ref lv) (.ref sl) ds sd ul su), (oc7 sh (.ref fa) (nI ft)), (oq fa cF 200 FA), (oc1 fe2 (rk f0) (wd f0) (tw f0) (pa f0) (pb f0) (.ref lo2) (.ref lk2) fm2), (oc4 lk2 (kd f0) (st f0) (.ref r2) (gb f0) (it f0) we2)] ++ va_pl T_1 f) s.heap := ⟨hP, hD⟩
      refine lv_iload_n hx hb dX10_meets_4 rfl (lv_at hl 1 rfl) ?_
      obtain ⟨hPc, hDc, hFc⟩ := zc_sub (wc := [(oc7 sh (.ref fa) (nI ft)), (oq fa cF 200 FA), (oc1 fe2 (rk f0) (wd f0) (tw f0) (pa f0) (pb f0) (.ref lo2) (.ref lk2) fm2), (oc4 lk2 (kd f0) (st f0) (.ref r2) (gb f0) (it f0) we2)]) hP hD hS hA [1, 2, 3, 4] rfl rfl
      refine zcall (st1 := [.null]) (va_runV (As := [.int (nI f0)]) (rest := []) ⟨hx, hb, hml, hown, hts⟩ (k_Sheet_rowThere_sv l dC dI cI cZ cF s.heap.size sh fa ft FA f0 fe2 lo2 (rk f0) (wd f0) (tw f0) (pa f0) (pb f0) lk2 (kd f0) (st f0) (gb f0) (it f0) we2 fm2 (.ref r2) (h200) (by first | with_reducible assumption | omega) (hFA2) (by first | exact hA2 | omega)) (csV_144 hts rfl rfl ⟨Nat.le_of_ble_eq_true rfl, Nat.le_of_ble_eq_true rfl⟩) (zPV2 (q0 := 0) (ci := 7) hPc hDc hK hXN rfl rfl) rfl rfl hl.1 rfl (lv_room (Nat.le_of_ble_eq_true rfl)) dX10_meets_5 ⟨Nat.le_of_ble_eq_true rfl, Nat.le_of_ble_eq_true rfl⟩) hS hFc hFc rfl (fun t H locs ht hB hk1 hS => ?_)
      obtain ⟨hP1, hD1⟩ := hB
      rw [ht] at hP1
      obtain ⟨hP, hD⟩ := zkQ (W2 := [(oc8 x (.ref sh) (.ref lw) (.ref ro) (.ref bq) (.ref bp) (.ref dq) (.ref dp) (.ref lv) (.ref sl) ds sd ul su), (oc7 sh (.ref fa) (nI ft)), (oq fa cF 200 FA), (oc1 fe2 (rk f0) (wd f0) (tw f0) (pa f0) (pb f0) (.ref lo2) (.ref lk2) fm2), (oc4 lk2 (kd f0) (st f0) (.ref r2) (gb f0) (it f0) we2)]) hP hD [1, 2, 3, 4] [0] [0] [1, 2, 3, 4] [0, 1, 2, 3, 4] 5 rfl rfl rfl rfl rfl rfl rfl rfl rfl hk1 hFc hP1 hD1
      clear hk1 hPc hDc hFc hP1 hD1 ht
      have hP := pl_back (cs := [(oc1 fe2 (rk f0) (wd f0) (tw f0) (pa f0) (pb f0) (.ref lo2) (.ref lk2) fm2), (oc4 lk2 (kd f0) (st f0) (.ref r2) (gb f0) (it f0) we2)]) (L := L) (f := f) (X := [(oc8 x (.ref sh) (.ref lw) (.ref ro) (.ref bq) (.ref bp) (.ref dq) (.ref dp) (.ref lv) (.ref sl) ds sd ul su), (oc7 sh (.ref fa) (nI ft)), (oq fa cF 200 FA)]) (by rw [hT_1]; exact (show va_P (dC, dI) classes (([(oc8 x (.ref sh) (.ref lw) (.ref ro) (.ref bq) (.ref bp) (.ref dq) (.ref dp) (.ref lv) (.ref sl) ds sd ul su), (oc7 sh (.ref fa) (nI ft)), (oq fa cF 200 FA)] ++ [(oc1 fe2 (rk f0) (wd f0) (tw f0) (pa f0) (pb f0) (.ref lo2) (.ref lk2) fm2), (oc4 lk2 (kd f0) (st f0) (.ref r2) (gb f0) (it f0) we2)]) ++ va_pl T_1 f) H from hP)) hc9_1
      have hD : va_D A ([(oc8 x (.ref sh) (.ref lw) (.ref ro) (.ref bq) (.ref bp) (.ref dq) (.ref dp) (.ref lv) (.ref sl) ds sd ul su), (oc7 sh (.ref fa) (nI ft)), (oq fa cF 200 FA)] ++ va_pl L f) := vaD_ae hD0_1 rfl
      refine lv_astore_nN (lv' := [(3, .null), (0, .ref x), (1, .int (nI f0)), (2, .int w)]) hx hb dX10_meets_8 rfl hl (Nat.le_of_ble_eq_true rfl) rfl (fun ls hl => ?_)
      rcases v_c (v := w) (ft := ft) h200 with hb3 | ⟨g0, hq3, rfl⟩
      · skip
        refine lv_aload_n hx hb dX10_meets_9 rfl (lv_at hl 1 rfl) ?_
        refine va_get (D := (dC, dI)) (ci := 8) (v := .ref sh) (C := RX10) (T := TX10) (N := 13) hx hb hts inX10 hown hK hP 0 rfl rfl 0 (Nat.le_of_ble_eq_true rfl) (hts _ mw_309) (fun _ h9 => h9) rfl dX10_meets_10 ?_
        refine lv_iload_n hx hb dX10_meets_13 rfl (lv_at hl 3 rfl) ?_
        obtain ⟨hPc, hDc, hFc⟩ := zc_sub (wc := [(oc7 sh (.ref fa) (nI ft)), (oq fa cF 200 FA)]) hP hD hS hA [1, 2] rfl rfl
        refine zcall (st1 := [.null]) (va_runV (As := [.int w]) (rest := []) ⟨hx, hb, hml, hown, hts⟩ (k_Sheet_rowThere_x l dC dI cI cZ cF H.size sh fa ft FA w (h200) (hb3)) (csV_144 hts rfl rfl ⟨Nat.le_of_ble_eq_true rfl, Nat.le_of_ble_eq_true rfl⟩) (zPV2 (q0 := 0) (ci := 7) hPc hDc hK hXN rfl rfl) rfl rfl hl.1 rfl (lv_room (Nat.le_of_ble_eq_true rfl)) dX10_meets_14 ⟨Nat.le_of_ble_eq_true rfl, Nat.le_of_ble_eq_true rfl⟩) hS hFc hFc rfl (fun t H locs ht hB hk1 hS => ?_)
        obtain ⟨hP1, hD1⟩ := hB
        rw [ht] at hP1
        obtain ⟨hP, hD⟩ := zkQ (W2 := [(oc8 x (.ref sh) (.ref lw) (.ref ro) (.ref bq) (.ref bp) (.ref dq) (.ref dp) (.ref lv) (.ref sl) ds sd ul su), (oc7 sh (.ref fa) (nI ft)), (oq fa cF 200 FA)]) hP hD [1, 2] [0] [0] [1, 2] [0, 1, 2] 3 rfl rfl rfl rfl rfl rfl rfl rfl rfl hk1 hFc hP1 hD1
        clear hk1 hPc hDc hFc hP1 hD1 ht
        refine lv_astoreN (lv' := [(4, .null), (3, .null), (0, .ref x), (1, .int (nI f0)), (2, .int w)]) hx hb dX10_meets_17 hl (Nat.le_of_ble_eq_true rfl) rfl (fun ls hl => ?_)
        refine lv_aload_nN hx hb dX10_meets_19 rfl (lv_at hl 1 rfl) ?_
        refine lv_ifnullN (tgt := 41) hx hb dX10_meets_20 rfl ?_
        refine lv_iconst (v := 0) hx hb dX10_meets_41 rfl ?_
        obtain ⟨hP9, hD9⟩ := zq_part (cx := [(oc8 x (.ref sh) (.ref lw) (.ref ro) (.ref bq) (.ref bp) (.ref dq) (.ref dp) (.ref lv) (.ref sl) ds sd ul su), (oc7 sh (.ref fa) (nI ft)), (oq fa cF 200 FA)]) hP hD [0, 1, 2] rfl rfl
        rw [hQ9]
        exact W.zret (ty := .boolean) (v := 0) hx hb hr (rfl) (fun t ht hW => ⟨⟨rfl, by rw [ht]; exact hP9, hD9⟩, hS.F ht⟩) hS.2.2 dX10_meets_42
      · skip
        refine lv_aload_n hx hb dX10_meets_9 rfl (lv_at hl 1 rfl) ?_
        rcases vwA_3 (P9 := ((st g0).toInt = 1)) (hva g0 (by omega)) with ⟨ht3, fe3, lk3, lo3, we3, fm3, hFA3, hfe3, hlk3⟩ | ⟨ht3, hA3, fe3, lk3, lo3, we3, fm3, r3, rx3, ry3, cap3, U3, V3, rg3, hFA3, hfe3, hlk3, ⟨hr3, hrx3, hry3, hne3⟩, hrr3⟩ | ⟨ht3, hA3, fe3, lk3, lo3, we3, fm3, r3, rx3, ry3, cap3, U3, V3, rg3, hFA3, hfe3, hlk3, ⟨hr3, hrx3, hry3, hne3⟩, hrr3⟩
        · skip
          refine va_get (D := (dC, dI)) (ci := 8) (v := .ref sh) (C := RX10) (T := TX10) (N := 13) hx hb hts inX10 hown hK hP 0 rfl rfl 0 (Nat.le_of_ble_eq_true rfl) (hts _ mw_309) (fun _ h9 => h9) rfl dX10_meets_10 ?_
          have hc9_2 : inPl L f [(oc1 fe3 (rk g0) (wd g0) (tw g0) (pa g0) (pb g0) (.ref lo3) (.ref lk3) fm3), (oc4 lk3 (kd g0) (st g0) .null (gb g0) (it g0) we3)] := ⟨hfe3, hlk3, trivial⟩
          have hD0_2 := hD
          obtain ⟨hP, hD⟩ := pl_out hP hD [(oc1 fe3 (rk g0) (wd g0) (tw g0) (pa g0) (pb g0) (.ref lo3) (.ref lk3) fm3), (oc4 lk3 (kd g0) (st g0) .null (gb g0) (it g0) we3)] hc9_2 (pwF hfe3.2 hlk3.2)
          generalize hT_2 : outPl L [(oc1 fe3 (rk g0) (wd g0) (tw g0) (pa g0) (pb g0) (.ref lo3) (.ref lk3) fm3), (oc4 lk3 (kd g0) (st g0) .null (gb g0) (it g0) we3)] = T_2 at hP hD
          obtain ⟨hP, hD⟩ : zPD (dC, dI) classes A ([(oc8 x (.ref sh) (.ref lw) (.ref ro) (.ref bq) (.ref bp) (.ref dq) (.ref dp) (.ref lv) (.ref sl) ds sd ul su), (oc7 sh (.ref fa) (nI ft)), (oq fa cF 200 FA), (oc1 fe3 (rk g0) (wd g0) (tw g0) (pa g0) (pb g0) (.ref lo3) (.ref lk3) fm3), (oc4 lk3 (kd g0) (st g0) .null (gb g0) (it g0) we3)] ++ va_pl T_2 f) H := ⟨hP, hD⟩
          refine lv_iload_n hx hb dX10_meets_13 rfl (lv_at hl 3 rfl) ?_
          obtain ⟨hPc, hDc, hFc⟩ := zc_sub (wc := [(oc7 sh (.ref fa) (nI ft)), (oq fa cF 200 FA), (oc1 fe3 (rk g0) (wd g0) (tw g0) (pa g0) (pb g0) (.ref lo3) (.ref lk3) fm3), (oc4 lk3 (kd g0) (st g0) .null (gb g0) (it g0) we3)]) hP hD hS hA [1, 2, 3, 4] rfl rfl
          refine zcall (st1 := [.null]) (va_runV (As := [.int (nI g0)]) (rest := []) ⟨hx, hb, hml, hown, hts⟩ (k_Sheet_rowThere_tv l dC dI cI cZ cF H.size sh fa ft FA g0 fe3 lo3 (rk g0) (wd g0) (tw g0) (pa g0) (pb g0) lk3 (kd g0) (st g0) (gb g0) (it g0) we3 fm3 (h200) (by first | with_reducible assumption | omega) (hFA3)) (csV_144 hts rfl rfl ⟨Nat.le_of_ble_eq_true rfl, Nat.le_of_ble_eq_true rfl⟩) (zPV2 (q0 := 0) (ci := 7) hPc hDc hK hXN rfl rfl) rfl rfl hl.1 rfl (lv_room (Nat.le_of_ble_eq_true rfl)) dX10_meets_14 ⟨Nat.le_of_ble_eq_true rfl, Nat.le_of_ble_eq_true rfl⟩) hS hFc hFc rfl (fun t H locs ht hB hk1 hS => ?_)
          obtain ⟨hP1, hD1⟩ := hB
          rw [ht] at hP1
          obtain ⟨hP, hD⟩ := zkQ (W2 := [(oc8 x (.ref sh) (.ref lw) (.ref ro) (.ref bq) (.ref bp) (.ref dq) (.ref dp) (.ref lv) (.ref sl) ds sd ul su), (oc7 sh (.ref fa) (nI ft)), (oq fa cF 200 FA), (oc1 fe3 (rk g0) (wd g0) (tw g0) (pa g0) (pb g0) (.ref lo3) (.ref lk3) fm3), (oc4 lk3 (kd g0) (st g0) .null (gb g0) (it g0) we3)]) hP hD [1, 2, 3, 4] [0] [0] [1, 2, 3, 4] [0, 1, 2, 3, 4] 5 rfl rfl rfl rfl rfl rfl rfl rfl rfl hk1 hFc hP1 hD1
          clear hk1 hPc hDc hFc hP1 hD1 ht
          have hP := pl_back (cs := [(oc1 fe3 (rk g0) (wd g0) (tw g0) (pa g0) (pb g0) (.ref lo3) (.ref lk3) fm3), (oc4 lk3 (kd g0) (st g0) .null (gb g0) (it g0) we3)]) (L := L) (f := f) (X := [(oc8 x (.ref sh) (.ref lw) (.ref ro) (.ref bq) (.ref bp) (.ref dq) (.ref dp) (.ref lv) (.ref sl) ds sd ul su), (oc7 sh (.ref fa) (nI ft)), (oq fa cF 200 FA)]) (by rw [hT_2]; exact (show va_P (dC, dI) classes (([(oc8 x (.ref sh) (.ref lw) (.ref ro) (.ref bq) (.ref bp) (.ref dq) (.ref dp) (.ref lv) (.ref sl) ds sd ul su), (oc7 sh (.ref fa) (nI ft)), (oq fa cF 200 FA)] ++ [(oc1 fe3 (rk g0) (wd g0) (tw g0) (pa g0) (pb g0) (.ref lo3) (.ref lk3) fm3), (oc4 lk3 (kd g0) (st g0) .null (gb g0) (it g0) we3)]) ++ va_pl T_2 f) H from hP)) hc9_2
          have hD : va_D A ([(oc8 x (.ref sh) (.ref lw) (.ref ro) (.ref bq) (.ref bp) (.ref dq) (.ref dp) (.ref lv) (.ref sl) ds sd ul su), (oc7 sh (.ref fa) (nI ft)), (oq fa cF 200 FA)] ++ va_pl L f) := vaD_ae hD0_2 rfl
          refine lv_astoreN (lv' := [(4, .null), (3, .null), (0, .ref x), (1, .int (nI f0)), (2, .int (nI g0))]) hx hb dX10_meets_17 hl (Nat.le_of_ble_eq_true rfl) rfl (fun ls hl => ?_)
          refine lv_aload_nN hx hb dX10_meets_19 rfl (lv_at hl 1 rfl) ?_
          refine lv_ifnullN (tgt := 41) hx hb dX10_meets_20 rfl ?_
          refine lv_iconst (v := 0) hx hb dX10_meets_41 rfl ?_
          obtain ⟨hP9, hD9⟩ := zq_part (cx := [(oc8 x (.ref sh) (.ref lw) (.ref ro) (.ref bq) (.ref bp) (.ref dq) (.ref dp) (.ref lv) (.ref sl) ds sd ul su), (oc7 sh (.ref fa) (nI ft)), (oq fa cF 200 FA)]) hP hD [0, 1, 2] rfl rfl
          rw [hQ9]
          exact W.zret (ty := .boolean) (v := 0) hx hb hr (rfl) (fun t ht hW => ⟨⟨rfl, by rw [ht]; exact hP9, hD9⟩, hS.F ht⟩) hS.2.2 dX10_meets_42
        · skip
          refine va_get (D := (dC, dI)) (ci := 8) (v := .ref sh) (C := RX10) (T := TX10) (N := 13) hx hb hts inX10 hown hK hP 0 rfl rfl 0 (Nat.le_of_ble_eq_true rfl) (hts _ mw_309) (fun _ h9 => h9) rfl dX10_meets_10 ?_
          have hc9_2 : inPl L f [(oc1 fe3 (rk g0) (wd g0) (tw g0) (pa g0) (pb g0) (.ref lo3) (.ref lk3) fm3), (oc4 lk3 (kd g0) (st g0) (.ref r3) (gb g0) (it g0) we3)] := ⟨hfe3, hlk3, trivial⟩
          have hD0_2 := hD
          obtain ⟨hP, hD⟩ := pl_out hP hD [(oc1 fe3 (rk g0) (wd g0) (tw g0) (pa g0) (pb g0) (.ref lo3) (.ref lk3) fm3), (oc4 lk3 (kd g0) (st g0) (.ref r3) (gb g0) (it g0) we3)] hc9_2 (pwF hfe3.2 hlk3.2)
          generalize hT_2 : outPl L [(oc1 fe3 (rk g0) (wd g0) (tw g0) (pa g0) (pb g0) (.ref lo3) (.ref lk3) fm3), (oc4 lk3 (kd g0) (st g0) (.ref r3) (gb g0) (it g0) we3)] = T_2 at hP hD
          obtain ⟨hP, hD⟩ : zPD (dC, dI) classes A ([(oc8 x (.ref sh) (.ref lw) (.ref ro) (.ref bq) (.ref bp) (.ref dq) (.ref dp) (.ref lv) (.ref sl) ds sd ul su), (oc7 sh (.ref fa) (nI ft)), (oq fa cF 200 FA), (oc1 fe3 (rk g0) (wd g0) (tw g0) (pa g0) (pb g0) (.ref lo3) (.ref lk3) fm3), (oc4 lk3 (kd g0) (st g0) (.ref r3) (gb g0) (it g0) we3)] ++ va_pl T_2 f) H := ⟨hP, hD⟩
          refine lv_iload_n hx hb dX10_meets_13 rfl (lv_at hl 3 rfl) ?_
          obtain ⟨hPc, hDc, hFc⟩ := zc_sub (wc := [(oc7 sh (.ref fa) (nI ft)), (oq fa cF 200 FA), (oc1 fe3 (rk g0) (wd g0) (tw g0) (pa g0) (pb g0) (.ref lo3) (.ref lk3) fm3), (oc4 lk3 (kd g0) (st g0) (.ref r3) (gb g0) (it g0) we3)]) hP hD hS hA [1, 2, 3, 4] rfl rfl
          refine zcall (st1 := [.ref r3]) (va_runV (As := [.int (nI g0)]) (rest := []) ⟨hx, hb, hml, hown, hts⟩ (k_Sheet_rowThere_yv l dC dI cI cZ cF H.size sh fa ft FA g0 fe3 lo3 (rk g0) (wd g0) (tw g0) (pa g0) (pb g0) lk3 (kd g0) (st g0) (gb g0) (it g0) we3 r3 fm3 (h200) (by first | with_reducible assumption | omega) (hFA3) (by first | exact hA3 | omega)) (csV_144 hts rfl rfl ⟨Nat.le_of_ble_eq_true rfl, Nat.le_of_ble_eq_true rfl⟩) (zPV2 (q0 := 0) (ci := 7) hPc hDc hK hXN rfl rfl) rfl rfl hl.1 rfl (lv_room (Nat.le_of_ble_eq_true rfl)) dX10_meets_14 ⟨Nat.le_of_ble_eq_true rfl, Nat.le_of_ble_eq_true rfl⟩) hS hFc hFc rfl (fun t H locs ht hB hk1 hS => ?_)
          obtain ⟨hP1, hD1⟩ := hB
          rw [ht] at hP1
          obtain ⟨hP, hD⟩ := zkQ (W2 := [(oc8 x (.ref sh) (.ref lw) (.ref ro) (.ref bq) (.ref bp) (.ref dq) (.ref dp) (.ref lv) (.ref sl) ds sd ul su), (oc7 sh (.ref fa) (nI ft)), (oq fa cF 200 FA), (oc1 fe3 (rk g0) (wd g0) (tw g0) (pa g0) (pb g0) (.ref lo3) (.ref lk3) fm3), (oc4 lk3 (kd g0) (st g0) (.ref r3) (gb g0) (it g0) we3)]) hP hD [1, 2, 3, 4] [0] [0] [1, 2, 3, 4] [0, 1, 2, 3, 4] 5 rfl rfl rfl rfl rfl rfl rfl rfl rfl hk1 hFc hP1 hD1
          clear hk1 hPc hDc hFc hP1 hD1 ht
          have hP := pl_back (cs := [(oc1 fe3 (rk g0) (wd g0) (tw g0) (pa g0) (pb g0) (.ref lo3) (.ref lk3) fm3), (oc4 lk3 (kd g0) (st g0) (.ref r3) (gb g0) (it g0) we3)]) (L := L) (f := f) (X := [(oc8 x (.ref sh) (.ref lw) (.ref ro) (.ref bq) (.ref bp) (.ref dq) (.ref dp) (.ref lv) (.ref sl) ds sd ul su), (oc7 sh (.ref fa) (nI ft)), (oq fa cF 200 FA)]) (by rw [hT_2]; exact (show va_P (dC, dI) classes (([(oc8 x (.ref sh) (.ref lw) (.ref ro) (.ref bq) (.ref bp) (.ref dq) (.ref dp) (.ref lv) (.ref sl) ds sd ul su), (oc7 sh (.ref fa) (nI ft)), (oq fa cF 200 FA)] ++ [(oc1 fe3 (rk g0) (wd g0) (tw g0) (pa g0) (pb g0) (.ref lo3) (.ref lk3) fm3), (oc4 lk3 (kd g0) (st g0) (.ref r3) (gb g0) (it g0) we3)]) ++ va_pl T_2 f) H from hP)) hc9_2
          have hD : va_D A ([(oc8 x (.ref sh) (.ref lw) (.ref ro) (.ref bq) (.ref bp) (.ref dq) (.ref dp) (.ref lv) (.ref sl) ds sd ul su), (oc7 sh (.ref fa) (nI ft)), (oq fa cF 200 FA)] ++ va_pl L f) := vaD_ae hD0_2 rfl
          refine lv_astore (lv' := [(4, .ref r3), (3, .null), (0, .ref x), (1, .int (nI f0)), (2, .int (nI g0))]) hx hb dX10_meets_17 hl (Nat.le_of_ble_eq_true rfl) rfl (fun ls hl => ?_)
          refine lv_aload_nN hx hb dX10_meets_19 rfl (lv_at hl 1 rfl) ?_
          refine lv_ifnullN (tgt := 41) hx hb dX10_meets_20 rfl ?_
          refine lv_iconst (v := 0) hx hb dX10_meets_41 rfl ?_
          obtain ⟨hP9, hD9⟩ := zq_part (cx := [(oc8 x (.ref sh) (.ref lw) (.ref ro) (.ref bq) (.ref bp) (.ref dq) (.ref dp) (.ref lv) (.ref sl) ds sd ul su), (oc7 sh (.ref fa) (nI ft)), (oq fa cF 200 FA)]) hP hD [0, 1, 2] rfl rfl
          rw [hQ9]
          exact W.zret (ty := .boolean) (v := 0) hx hb hr (rfl) (fun t ht hW => ⟨⟨rfl, by rw [ht]; exact hP9, hD9⟩, hS.F ht⟩) hS.2.2 dX10_meets_42
        · skip
          refine va_get (D := (dC, dI)) (ci := 8) (v := .ref sh) (C := RX10) (T := TX10) (N := 13) hx hb hts inX10 hown hK hP 0 rfl rfl 0 (Nat.le_of_ble_eq_true rfl) (hts _ mw_309) (fun _ h9 => h9) rfl dX10_meets_10 ?_
          have hc9_2 : inPl L f [(oc1 fe3 (rk g0) (wd g0) (tw g0) (pa g0) (pb g0) (.ref lo3) (.ref lk3) fm3), (oc4 lk3 (kd g0) (st g0) (.ref r3) (gb g0) (it g0) we3)] := ⟨hfe3, hlk3, trivial⟩
          have hD0_2 := hD
          obtain ⟨hP, hD⟩ := pl_out hP hD [(oc1 fe3 (rk g0) (wd g0) (tw g0) (pa g0) (pb g0) (.ref lo3) (.ref lk3) fm3), (oc4 lk3 (kd g0) (st g0) (.ref r3) (gb g0) (it g0) we3)] hc9_2 (pwF hfe3.2 hlk3.2)
          generalize hT_2 : outPl L [(oc1 fe3 (rk g0) (wd g0) (tw g0) (pa g0) (pb g0) (.ref lo3) (.ref lk3) fm3), (oc4 lk3 (kd g0) (st g0) (.ref r3) (gb g0) (it g0) we3)] = T_2 at hP hD
          obtain ⟨hP, hD⟩ : zPD (dC, dI) classes A ([(oc8 x (.ref sh) (.ref lw) (.ref ro) (.ref bq) (.ref bp) (.ref dq) (.ref dp) (.ref lv) (.ref sl) ds sd ul su), (oc7 sh (.ref fa) (nI ft)), (oq fa cF 200 FA), (oc1 fe3 (rk g0) (wd g0) (tw g0) (pa g0) (pb g0) (.ref lo3) (.ref lk3) fm3), (oc4 lk3 (kd g0) (st g0) (.ref r3) (gb g0) (it g0) we3)] ++ va_pl T_2 f) H := ⟨hP, hD⟩
          refine lv_iload_n hx hb dX10_meets_13 rfl (lv_at hl 3 rfl) ?_
          obtain ⟨hPc, hDc, hFc⟩ := zc_sub (wc := [(oc7 sh (.ref fa) (nI ft)), (oq fa cF 200 FA), (oc1 fe3 (rk g0) (wd g0) (tw g0) (pa g0) (pb g0) (.ref lo3) (.ref lk3) fm3), (oc4 lk3 (kd g0) (st g0) (.ref r3) (gb g0) (it g0) we3)]) hP hD hS hA [1, 2, 3, 4] rfl rfl
          refine zcall (st1 := [.null]) (va_runV (As := [.int (nI g0)]) (rest := []) ⟨hx, hb, hml, hown, hts⟩ (k_Sheet_rowThere_sv l dC dI cI cZ cF H.size sh fa ft FA g0 fe3 lo3 (rk g0) (wd g0) (tw g0) (pa g0) (pb g0) lk3 (kd g0) (st g0) (gb g0) (it g0) we3 fm3 (.ref r3) (h200) (by first | with_reducible assumption | omega) (hFA3) (by first | exact hA3 | omega)) (csV_144 hts rfl rfl ⟨Nat.le_of_ble_eq_true rfl, Nat.le_of_ble_eq_true rfl⟩) (zPV2 (q0 := 0) (ci := 7) hPc hDc hK hXN rfl rfl) rfl rfl hl.1 rfl (lv_room (Nat.le_of_ble_eq_true rfl)) dX10_meets_14 ⟨Nat.le_of_ble_eq_true rfl, Nat.le_of_ble_eq_true rfl⟩) hS hFc hFc rfl (fun t H locs ht hB hk1 hS => ?_)
          obtain ⟨hP1, hD1⟩ := hB
          rw [ht] at hP1
          obtain ⟨hP, hD⟩ := zkQ (W2 := [(oc8 x (.ref sh) (.ref lw) (.ref ro) (.ref bq) (.ref bp) (.ref dq) (.ref dp) (.ref lv) (.ref sl) ds sd ul su), (oc7 sh (.ref fa) (nI ft)), (oq fa cF 200 FA), (oc1 fe3 (rk g0) (wd g0) (tw g0) (pa g0) (pb g0) (.ref lo3) (.ref lk3) fm3), (oc4 lk3 (kd g0) (st g0) (.ref r3) (gb g0) (it g0) we3)]) hP hD [1, 2, 3, 4] [0] [0] [1, 2, 3, 4] [0, 1, 2, 3, 4] 5 rfl rfl rfl rfl rfl rfl rfl rfl rfl hk1 hFc hP1 hD1
          clear hk1 hPc hDc hFc hP1 hD1 ht
          have hP := pl_back (cs := [(oc1 fe3 (rk g0) (wd g0) (tw g0) (pa g0) (pb g0) (.ref lo3) (.ref lk3) fm3), (oc4 lk3 (kd g0) (st g0) (.ref r3) (gb g0) (it g0) we3)]) (L := L) (f := f) (X := [(oc8 x (.ref sh) (.ref lw) (.ref ro) (.ref bq) (.ref bp) (.ref dq) (.ref dp) (.ref lv) (.ref sl) ds sd ul su), (oc7 sh (.ref fa) (nI ft)), (oq fa cF 200 FA)]) (by rw [hT_2]; exact (show va_P (dC, dI) classes (([(oc8 x (.ref sh) (.ref lw) (.ref ro) (.ref bq) (.ref bp) (.ref dq) (.ref dp) (.ref lv) (.ref sl) ds sd ul su), (oc7 sh (.ref fa) (nI ft)), (oq fa cF 200 FA)] ++ [(oc1 fe3 (rk g0) (wd g0) (tw g0) (pa g0) (pb g0) (.ref lo3) (.ref lk3) fm3), (oc4 lk3 (kd g0) (st g0) (.ref r3) (gb g0) (it g0) we3)]) ++ va_pl T_2 f) H from hP)) hc9_2
          have hD : va_D A ([(oc8 x (.ref sh) (.ref lw) (.ref ro) (.ref bq) (.ref bp) (.ref dq) (.ref dp) (.ref lv) (.ref sl) ds sd ul su), (oc7 sh (.ref fa) (nI ft)), (oq fa cF 200 FA)] ++ va_pl L f) := vaD_ae hD0_2 rfl
          refine lv_astoreN (lv' := [(4, .null), (3, .null), (0, .ref x), (1, .int (nI f0)), (2, .int (nI g0))]) hx hb dX10_meets_17 hl (Nat.le_of_ble_eq_true rfl) rfl (fun ls hl => ?_)
          refine lv_aload_nN hx hb dX10_meets_19 rfl (lv_at hl 1 rfl) ?_
          refine lv_ifnullN (tgt := 41) hx hb dX10_meets_20 rfl ?_
          refine lv_iconst (v := 0) hx hb dX10_meets_41 rfl ?_
          obtain ⟨hP9, hD9⟩ := zq_part (cx := [(oc8 x (.ref sh) (.ref lw) (.ref ro) (.ref bq) (.ref bp) (.ref dq) (.ref dp) (.ref lv) (.ref sl) ds sd ul su), (oc7 sh (.ref fa) (nI ft)), (oq fa cF 200 FA)]) hP hD [0, 1, 2] rfl rfl
          rw [hQ9]
          exact W.zret (ty := .boolean) (v := 0) hx hb hr (rfl) (fun t ht hW => ⟨⟨rfl, by rw [ht]; exact hP9, hD9⟩, hS.F ht⟩) hS.2.2 dX10_meets_42
set_option maxHeartbeats 4000000 in
set_option maxRecDepth 100000 in
theorem k_meets_s (l : Launch) (dC : Nat → ClassId) (dI : Nat → Nat → Nat) (cI cZ cF : ClassId) (sz : Nat) (cO : ClassId) (e0 : Nat) (mi : Nat) (x : Nat) (sh : Nat) (lw : Nat) (ro : Nat) (bq : Nat) (bp : Nat) (dq : Nat) (dp : Nat) (lv : Nat) (sl : Nat) (sd : Int32) (ul : Int32) (su : Int32) (ea : Nat) (mc9 : Int32) (fa : Nat) (FA : Nat → Option Nat) (bs : Nat) (dn : Nat) (T : Nat) (ft : Nat) (FT : Nat → Nat) (V : Nat → Nat → Nat → Int32) (VX : Nat → Nat → Int32) (VY : Nat → Nat → Int32) (tn : Nat → Int32) (rk : Nat → Int32) (wd : Nat → Int32) (tw : Nat → Int32) (pa : Nat → Int32) (pb : Nat → Int32) (wh : Nat → Int32) (of9 : Nat → Int32) (we : Nat → Int32) (kd : Nat → Int32) (st : Nat → Int32) (gb : Nat → Int32) (it : Nat → Int32) (mn : Nat → Int32) (cx : Nat → Int32) (cy : Nat → Int32) (L : List Nat) (f : Nat → va_E) (f0 : Nat) (hB : shB cI cO L f e0 FA ea bs dn T ft FT V VX VY tn rk wd tw pa pb wh of9 we kd st gb it mn cx cy) (hf0 : f0 < ft) (htn : (tn f0).toInt = 0) (hst : (st f0).toInt = 1) (hwf : ∀ q, lvF ft st tn q → wfM mn cx cy q) (hkn : okN ft st tn kd mn) : Met l yX10_meets (.code yX10_meets cX10_meets 5 (some .boolean) :: ws0) ({ frames := 3, cells := 0, slots := 0, locals := 65 } : Room) (va_Pc [.ref x, .int (nI f0), .int (nI f0)] (zPre (dC, dI) classes (zTyO cI cZ cF cO) ([(oc8 x (.ref sh) (.ref lw) (.ref ro) (.ref bq) (.ref bp) (.ref dq) (.ref dp) (.ref lv) (.ref sl) (nI dn) sd ul su), (oc10 sl mc9 (.ref ea) (nI T)), (oc7 sh (.ref fa) (nI ft)), (oq fa cF 200 FA)] ++ va_pl L f) sz (zXL e0 mi (va_A ([(oc8 x (.ref sh) (.ref lw) (.ref ro) (.ref bq) (.ref bp) (.ref dq) (.ref dp) (.ref lv) (.ref sl) (nI dn) sd ul su), (oc10 sl mc9 (.ref ea) (nI T)), (oc7 sh (.ref fa) (nI ft)), (oq fa cF 200 FA)] ++ va_pl L f) sz)))) (zQ (some (.int 1)) (fun t => va_P (dC, dI) classes ([(oc8 x (.ref sh) (.ref lw) (.ref ro) (.ref bq) (.ref bp) (.ref dq) (.ref dp) (.ref lv) (.ref sl) (nI dn) sd ul su), (oc10 sl mc9 (.ref ea) (nI T)), (oc7 sh (.ref fa) (nI ft)), (oq fa cF 200 FA)] ++ va_pl L f) t.heap ∧ va_D (va_A ([(oc8 x (.ref sh) (.ref lw) (.ref ro) (.ref bq) (.ref bp) (.ref dq) (.ref dp) (.ref lv) (.ref sl) (nI dn) sd ul su), (oc10 sl mc9 (.ref ea) (nI T)), (oc7 sh (.ref fa) (nI ft)), (oq fa cF 200 FA)] ++ va_pl L f) sz) ([(oc8 x (.ref sh) (.ref lw) (.ref ro) (.ref bq) (.ref bp) (.ref dq) (.ref dp) (.ref lv) (.ref sl) (nI dn) sd ul su), (oc10 sl mc9 (.ref ea) (nI T)), (oc7 sh (.ref fa) (nI ft)), (oq fa cF 200 FA)] ++ va_pl L f)) (va_A ([(oc8 x (.ref sh) (.ref lw) (.ref ro) (.ref bq) (.ref bp) (.ref dq) (.ref dp) (.ref lv) (.ref sl) (nI dn) sd ul su), (oc10 sl mc9 (.ref ea) (nI T)), (oc7 sh (.ref fa) (nI ft)), (oq fa cF 200 FA)] ++ va_pl L f) sz)) 0 0 (va_A ([(oc8 x (.ref sh) (.ref lw) (.ref ro) (.ref bq) (.ref bp) (.ref dq) (.ref dp) (.ref lv) (.ref sl) (nI dn) sd ul su), (oc10 sl mc9 (.ref ea) (nI T)), (oc7 sh (.ref fa) (nI ft)), (oq fa cF 200 FA)] ++ va_pl L f) sz) := by
  refine Met.ofW (cc := cX10_meets) (maxL := 5) (ret := (some .boolean)) rfl rfl ?_
  intro p e s m args below meth c s₁ B hml hv
  obtain ⟨rfl, hsz, hP, hK, hD0, hXL⟩ := hv
  have hx := B.exec
  have hb := B.bytes
  have hr := B.returns
  have hts0 := atoms_spec (ws := .code yX10_meets cX10_meets 5 (some .boolean) :: ws0) B.pre
  have hts : ∀ w9 ∈ ws0, w9.before ([.ref x, .int (nI f0), .int (nI f0)] : List Value).toArray s = true := fun w9 h => hts0 w9 (List.mem_cons_of_mem _ h)
  have hown : s.vm.findClass "ScaleShop" = some m.cls := findClass_of_methodNamed B.named
  have hlocks := B.notSynchronized
  subst hsz
  have hD := hD0.self (sz := s.heap.size)
  clear hD0
  generalize hAe : va_A ([(oc8 x (.ref sh) (.ref lw) (.ref ro) (.ref bq) (.ref bp) (.ref dq) (.ref dp) (.ref lv) (.ref sl) (nI dn) sd ul su), (oc10 sl mc9 (.ref ea) (nI T)), (oc7 sh (.ref fa) (nI ft)), (oq fa cF 200 FA)] ++ va_pl L f) s.heap.size = A at hD hXL ⊢
  have hA : ∀ q : Nat, s.heap.size ≤ q → A q := fun q h => by rw [← hAe]; exact Or.inr h
  clear hAe
  have hS : va_S A s.heap s.heap [] := va_S.rf
  have hXN := hXL.1
  have hK3 := hK.sub [0, 1, 2] rfl
  have hP : va_P (dC, dI) classes ([(oc8 x (.ref sh) (.ref lw) (.ref ro) (.ref bq) (.ref bp) (.ref dq) (.ref dp) (.ref lv) (.ref sl) (nI dn) sd ul su), (oc10 sl mc9 (.ref ea) (nI T)), (oc7 sh (.ref fa) (nI ft)), (oq fa cF 200 FA)] ++ va_pl L f) s.heap := hP
  obtain ⟨Q9, hQ9⟩ : ∃ Q9 : State → Prop, Q9 = MQ below (zQ (some (.int 1)) (fun t => va_P (dC, dI) classes ([(oc8 x (.ref sh) (.ref lw) (.ref ro) (.ref bq) (.ref bp) (.ref dq) (.ref dp) (.ref lv) (.ref sl) (nI dn) sd ul su), (oc10 sl mc9 (.ref ea) (nI T)), (oc7 sh (.ref fa) (nI ft)), (oq fa cF 200 FA)] ++ va_pl L f) t.heap ∧ va_D A ([(oc8 x (.ref sh) (.ref lw) (.ref ro) (.ref bq) (.ref bp) (.ref dq) (.ref dp) (.ref lv) (.ref sl) (nI dn) sd ul su), (oc10 sl mc9 (.ref ea) (nI T)), (oc7 sh (.ref fa) (nI ft)), (oq fa cF 200 FA)] ++ va_pl L f)) A) ([.ref x, .int (nI f0), .int (nI f0)] : List Value).toArray s 0 0 A := ⟨_, rfl⟩
  rw [← hQ9]
  have hl := lv_entry ([.ref x, .int (nI f0), .int (nI f0)]) (n := 5) (Nat.le_of_ble_eq_true rfl)
  rw [lg_entry_eq]
  generalize (lg_sl ([.ref x, .int (nI f0), .int (nI f0)]) ++ List.replicate (5 - (lg_sl ([.ref x, .int (nI f0), .int (nI f0)])).length) Slot.unset).toArray = ls at hl ⊢
  have hl : lv_has ls 5 [(0, .ref x), (1, .int (nI f0)), (2, .int (nI f0))] := hl
  obtain ⟨own, fe, cl, la, sp, SA, hG9, hH9, hft9⟩ := hB
  obtain ⟨hG, hM, hdT, hT5⟩ := M_0 hG9 hH9 hft9
  have h200 : ft ≤ 200 := hG.2.2.2.2.2.1.2.2.2.2.2
  have hFA9 := hG.2.2.2.2.2.2
  obtain ⟨lo5, lx5, ly5, ln5, LX5, LY5, we5, r5, rx5, ry5, cap5, X5, Y5, hc5⟩ := sh_fc hG.1 hG.2.1 (Nat.le_refl _) hf0 htn
  have hc5 := fc_0 hc5
  have hb5 := hc5.2.2.1
  have hb6 := hc5.2.1
  have hlv : lvF ft st tn f0 := ⟨hf0, hst, htn⟩
  have hwf0 := hwf f0 hlv
  have hw1 := hwf0.2.1
  have hkn0 := hkn f0 hlv
  have hX5 := hc5.2.2.2.2.1
  have hp5 := (pls_cg hX5).mpr hwf0.2.2
  have hc9_1 : inPl L f [(oc1 (fe f0) (rk f0) (wd f0) (tw f0) (pa f0) (pb f0) (.ref lo5) (.ref (la dn f0)) .null), (oc4 (la dn f0) (kd f0) (st f0) (.ref r5) (gb f0) (it f0) (nI we5)), (oc6 r5 (.ref rx5) (.ref ry5) (nI (nN (mn f0))) (rgK (kd f0).toInt)), (oa rx5 cI cap5 X5), (oa ry5 cI cap5 Y5), (oc6 lo5 (.ref lx5) (.ref ly5) (nI ln5) 0), (oa lx5 cI (cl f0) LX5), (oa ly5 cI (cl f0) LY5)] := ⟨ce_pl hc5.1.1, ce_pl hc5.1.2.1, ce_pl hc5.1.2.2.1.1, ce_pl hc5.1.2.2.1.2.1, ce_pl hc5.1.2.2.1.2.2.1, ce_pl hc5.1.2.2.2.1, ce_pl hc5.1.2.2.2.2.1, ce_pl hc5.1.2.2.2.2.2.1, trivial⟩
  have hD0_1 := hD
  obtain ⟨hP, hD⟩ := pl_out hP hD [(oc1 (fe f0) (rk f0) (wd f0) (tw f0) (pa f0) (pb f0) (.ref lo5) (.ref (la dn f0)) .null), (oc4 (la dn f0) (kd f0) (st f0) (.ref r5) (gb f0) (it f0) (nI we5)), (oc6 r5 (.ref rx5) (.ref ry5) (nI (nN (mn f0))) (rgK (kd f0).toInt)), (oa rx5 cI cap5 X5), (oa ry5 cI cap5 Y5), (oc6 lo5 (.ref lx5) (.ref ly5) (nI ln5) 0), (oa lx5 cI (cl f0) LX5), (oa ly5 cI (cl f0) LY5)] hc9_1 (pw8 hc5 (by omega))
  generalize hT_1 : outPl L [(oc1 (fe f0) (rk f0) (wd f0) (tw f0) (pa f0) (pb f0) (.ref lo5) (.ref (la dn f0)) .null), (oc4 (la dn f0) (kd f0) (st f0) (.ref r5) (gb f0) (it f0) (nI we5)), (oc6 r5 (.ref rx5) (.ref ry5) (nI (nN (mn f0))) (rgK (kd f0).toInt)), (oa rx5 cI cap5 X5), (oa ry5 cI cap5 Y5), (oc6 lo5 (.ref lx5) (.ref ly5) (nI ln5) 0), (oa lx5 cI (cl f0) LX5), (oa ly5 cI (cl f0) LY5)] = T_1 at hP hD
  obtain ⟨hP, hD⟩ : zPD (dC, dI) classes A ([(oc8 x (.ref sh) (.ref lw) (.ref ro) (.ref bq) (.ref bp) (.ref dq) (.ref dp) (.ref lv) (.ref sl) (nI dn) sd ul su), (oc10 sl mc9 (.ref ea) (nI T)), (oc7 sh (.ref fa) (nI ft)), (oq fa cF 200 FA), (oc1 (fe f0) (rk f0) (wd f0) (tw f0) (pa f0) (pb f0) (.ref lo5) (.ref (la dn f0)) .null), (oc4 (la dn f0) (kd f0) (st f0) (.ref r5) (gb f0) (it f0) (nI we5)), (oc6 r5 (.ref rx5) (.ref ry5) (nI (nN (mn f0))) (rgK (kd f0).toInt)), (oa rx5 cI cap5 X5), (oa ry5 cI cap5 Y5), (oc6 lo5 (.ref lx5) (.ref ly5) (nI ln5) 0), (oa lx5 cI (cl f0) LX5), (oa ly5 cI (cl f0) LY5)] ++ va_pl T_1 f) s.heap := ⟨hP, hD⟩
  refine lv_aload_n hx hb dX10_meets_0 rfl (lv_at hl 0 rfl) ?_
  refine va_get (D := (dC, dI)) (ci := 8) (v := .ref sh) (C := RX10) (T := TX10) (N := 13) hx hb hts inX10 hown hK hP 0 rfl rfl 0 (Nat.le_of_ble_eq_true rfl) (hts _ mw_309) (fun _ h9 => h9) rfl dX10_meets_1 ?_
  refine lv_iload_n hx hb dX10_meets_4 rfl (lv_at hl 1 rfl) ?_
  obtain ⟨hPc, hDc, hFc⟩ := zc_sub (wc := [(oc7 sh (.ref fa) (nI ft)), (oq fa cF 200 FA), (oc1 (fe f0) (rk f0) (wd f0) (tw f0) (pa f0) (pb f0) (.ref lo5) (.ref (la dn f0)) .null), (oc4 (la dn f0) (kd f0) (st f0) (.ref r5) (gb f0) (it f0) (nI we5))]) hP hD hS hA [2, 3, 4, 5] rfl rfl
  refine zcall (st1 := [.ref r5]) (va_runV (As := [.int (nI f0)]) (rest := []) ⟨hx, hb, hml, hown, hts⟩ (k_Sheet_rowThere_yv l dC dI cI cZ cF s.heap.size sh fa ft FA f0 (fe f0) lo5 (rk f0) (wd f0) (tw f0) (pa f0) (pb f0) (la dn f0) (kd f0) (st f0) (gb f0) (it f0) (nI we5) r5 (.null) (by first | with_reducible assumption | omega) (by first | with_reducible assumption | omega) (hFA9 f0 (by first | with_reducible assumption | omega)) (hst)) (csV_144 hts rfl rfl ⟨Nat.le_of_ble_eq_true rfl, Nat.le_of_ble_eq_true rfl⟩) (zPV2 (q0 := 0) (ci := 7) hPc hDc hK3 hXN rfl rfl) rfl rfl hl.1 rfl (lv_room (Nat.le_of_ble_eq_true rfl)) dX10_meets_5 ⟨Nat.le_of_ble_eq_true rfl, Nat.le_of_ble_eq_true rfl⟩) hS hFc hFc rfl (fun t H locs ht hB hk1 hS => ?_)
  obtain ⟨hP1, hD1⟩ := hB
  rw [ht] at hP1
  obtain ⟨hP, hD⟩ := zkQ (W2 := [(oc8 x (.ref sh) (.ref lw) (.ref ro) (.ref bq) (.ref bp) (.ref dq) (.ref dp) (.ref lv) (.ref sl) (nI dn) sd ul su), (oc10 sl mc9 (.ref ea) (nI T)), (oc7 sh (.ref fa) (nI ft)), (oq fa cF 200 FA), (oc1 (fe f0) (rk f0) (wd f0) (tw f0) (pa f0) (pb f0) (.ref lo5) (.ref (la dn f0)) .null), (oc4 (la dn f0) (kd f0) (st f0) (.ref r5) (gb f0) (it f0) (nI we5)), (oc6 r5 (.ref rx5) (.ref ry5) (nI (nN (mn f0))) (rgK (kd f0).toInt)), (oa rx5 cI cap5 X5), (oa ry5 cI cap5 Y5), (oc6 lo5 (.ref lx5) (.ref ly5) (nI ln5) 0), (oa lx5 cI (cl f0) LX5), (oa ly5 cI (cl f0) LY5)]) hP hD [2, 3, 4, 5] [0, 1, 6, 7, 8, 9, 10, 11] [0, 1, 6, 7, 8, 9, 10, 11] [2, 3, 4, 5] [0, 1, 8, 9, 10, 11, 2, 3, 4, 5, 6, 7] 12 rfl rfl rfl rfl rfl rfl rfl rfl rfl hk1 hFc hP1 hD1
  clear hk1 hPc hDc hFc hP1 hD1 ht
  refine lv_astore_n (lv' := [(3, .ref r5), (0, .ref x), (1, .int (nI f0)), (2, .int (nI f0))]) hx hb dX10_meets_8 rfl hl (Nat.le_of_ble_eq_true rfl) rfl (fun ls hl => ?_)
  refine lv_aload_n hx hb dX10_meets_9 rfl (lv_at hl 1 rfl) ?_
  refine va_get (D := (dC, dI)) (ci := 8) (v := .ref sh) (C := RX10) (T := TX10) (N := 13) hx hb hts inX10 hown hK hP 0 rfl rfl 0 (Nat.le_of_ble_eq_true rfl) (hts _ mw_309) (fun _ h9 => h9) rfl dX10_meets_10 ?_
  refine lv_iload_n hx hb dX10_meets_13 rfl (lv_at hl 3 rfl) ?_
  obtain ⟨hPc, hDc, hFc⟩ := zc_sub (wc := [(oc7 sh (.ref fa) (nI ft)), (oq fa cF 200 FA), (oc1 (fe f0) (rk f0) (wd f0) (tw f0) (pa f0) (pb f0) (.ref lo5) (.ref (la dn f0)) .null), (oc4 (la dn f0) (kd f0) (st f0) (.ref r5) (gb f0) (it f0) (nI we5))]) hP hD hS hA [2, 3, 4, 5] rfl rfl
  refine zcall (st1 := [.ref r5]) (va_runV (As := [.int (nI f0)]) (rest := []) ⟨hx, hb, hml, hown, hts⟩ (k_Sheet_rowThere_yv l dC dI cI cZ cF H.size sh fa ft FA f0 (fe f0) lo5 (rk f0) (wd f0) (tw f0) (pa f0) (pb f0) (la dn f0) (kd f0) (st f0) (gb f0) (it f0) (nI we5) r5 (.null) (by first | with_reducible assumption | omega) (by first | with_reducible assumption | omega) (hFA9 f0 (by first | with_reducible assumption | omega)) (hst)) (csV_144 hts rfl rfl ⟨Nat.le_of_ble_eq_true rfl, Nat.le_of_ble_eq_true rfl⟩) (zPV2 (q0 := 0) (ci := 7) hPc hDc hK3 hXN rfl rfl) rfl rfl hl.1 rfl (lv_room (Nat.le_of_ble_eq_true rfl)) dX10_meets_14 ⟨Nat.le_of_ble_eq_true rfl, Nat.le_of_ble_eq_true rfl⟩) hS hFc hFc rfl (fun t H locs ht hB hk1 hS => ?_)
  obtain ⟨hP1, hD1⟩ := hB
  rw [ht] at hP1
  obtain ⟨hP, hD⟩ := zkQ (W2 := [(oc8 x (.ref sh) (.ref lw) (.ref ro) (.ref bq) (.ref bp) (.ref dq) (.ref dp) (.ref lv) (.ref sl) (nI dn) sd ul su), (oc10 sl mc9 (.ref ea) (nI T)), (oc7 sh (.ref fa) (nI ft)), (oq fa cF 200 FA), (oc1 (fe f0) (rk f0) (wd f0) (tw f0) (pa f0) (pb f0) (.ref lo5) (.ref (la dn f0)) .null), (oc4 (la dn f0) (kd f0) (st f0) (.ref r5) (gb f0) (it f0) (nI we5)), (oc6 r5 (.ref rx5) (.ref ry5) (nI (nN (mn f0))) (rgK (kd f0).toInt)), (oa rx5 cI cap5 X5), (oa ry5 cI cap5 Y5), (oc6 lo5 (.ref lx5) (.ref ly5) (nI ln5) 0), (oa lx5 cI (cl f0) LX5), (oa ly5 cI (cl f0) LY5)]) hP hD [2, 3, 4, 5] [0, 1, 6, 7, 8, 9, 10, 11] [0, 1, 6, 7, 8, 9, 10, 11] [2, 3, 4, 5] [0, 1, 8, 9, 10, 11, 2, 3, 4, 5, 6, 7] 12 rfl rfl rfl rfl rfl rfl rfl rfl rfl hk1 hFc hP1 hD1
  clear hk1 hPc hDc hFc hP1 hD1 ht
  refine lv_astore (lv' := [(4, .ref r5), (3, .ref r5), (0, .ref x), (1, .int (nI f0)), (2, .int (nI f0))]) hx hb dX10_meets_17 hl (Nat.le_of_ble_eq_true rfl) rfl (fun ls hl => ?_)
  refine lv_aload_n hx hb dX10_meets_19 rfl (lv_at hl 1 rfl) ?_
  refine lv_ifnull hx hb dX10_meets_20 ?_
  refine lv_aload hx hb dX10_meets_23 (lv_at hl 0 rfl) ?_
  refine lv_ifnull hx hb dX10_meets_25 ?_
  refine lv_aload_n hx hb dX10_meets_28 rfl (lv_at hl 1 rfl) ?_
  refine lv_aload hx hb dX10_meets_29 (lv_at hl 0 rfl) ?_
  obtain ⟨hPc, hDc, hFc⟩ := zc_sub (wc := [(oc6 r5 (.ref rx5) (.ref ry5) (nI (nN (mn f0))) (rgK (kd f0).toInt)), (oa rx5 cI cap5 X5), (oa ry5 cI cap5 Y5)]) hP hD hS hA [6, 7, 8] rfl rfl
  refine zcall (st1 := [.int 1]) (va_runV (As := [.ref r5]) (rest := []) ⟨hx, hb, hml, hown, hts⟩ (k_Row_touches_self l dC dI cI cZ cF H.size r5 rx5 ry5 (nN (mn f0)) cap5 X5 Y5 (rgK (kd f0).toInt) (by first | with_reducible assumption | omega) (by first | with_reducible assumption | omega) (hp5) (by rw [prt_eO (rgK_t _) hkn0]; unfold eO; split; omega; split <;> omega)) (csV_161 hts rfl rfl ⟨Nat.le_of_ble_eq_true rfl, Nat.le_of_ble_eq_true rfl⟩) (zPV2 (q0 := 0) (ci := 6) hPc hDc hK3 hXN rfl rfl) rfl rfl hl.1 rfl (lv_room (Nat.le_of_ble_eq_true rfl)) dX10_meets_31 ⟨Nat.le_of_ble_eq_true rfl, Nat.le_of_ble_eq_true rfl⟩) hS hFc hFc rfl (fun t H locs ht hB hk1 hS => ?_)
  obtain ⟨hP1, hD1⟩ := hB
  rw [ht] at hP1
  obtain ⟨hP, hD⟩ := zkQ (W2 := [(oc8 x (.ref sh) (.ref lw) (.ref ro) (.ref bq) (.ref bp) (.ref dq) (.ref dp) (.ref lv) (.ref sl) (nI dn) sd ul su), (oc10 sl mc9 (.ref ea) (nI T)), (oc7 sh (.ref fa) (nI ft)), (oq fa cF 200 FA), (oc1 (fe f0) (rk f0) (wd f0) (tw f0) (pa f0) (pb f0) (.ref lo5) (.ref (la dn f0)) .null), (oc4 (la dn f0) (kd f0) (st f0) (.ref r5) (gb f0) (it f0) (nI we5)), (oc6 r5 (.ref rx5) (.ref ry5) (nI (nN (mn f0))) (rgK (kd f0).toInt)), (oa rx5 cI cap5 X5), (oa ry5 cI cap5 Y5), (oc6 lo5 (.ref lx5) (.ref ly5) (nI ln5) 0), (oa lx5 cI (cl f0) LX5), (oa ly5 cI (cl f0) LY5)]) hP hD [6, 7, 8] [0, 1, 2, 3, 4, 5, 9, 10, 11] [0, 1, 2, 3, 4, 5, 9, 10, 11] [6, 7, 8] [0, 1, 2, 3, 4, 5, 9, 10, 11, 6, 7, 8] 12 rfl rfl rfl rfl rfl rfl rfl rfl rfl hk1 hFc hP1 hD1
  clear hk1 hPc hDc hFc hP1 hD1 ht
  refine lv_if_eq (tgt := 41) hx hb dX10_meets_34 rfl (fun c_1 => ?_) (fun c_1 => ?_)
  · exact absurd c_1 (by decide)
  · refine lv_iconst (v := 1) hx hb dX10_meets_37 rfl ?_
    refine lv_goto (tgt := 42) hx hb dX10_meets_38 rfl ?_
    have hP := pl_back (cs := [(oc1 (fe f0) (rk f0) (wd f0) (tw f0) (pa f0) (pb f0) (.ref lo5) (.ref (la dn f0)) .null), (oc4 (la dn f0) (kd f0) (st f0) (.ref r5) (gb f0) (it f0) (nI we5)), (oc6 r5 (.ref rx5) (.ref ry5) (nI (nN (mn f0))) (rgK (kd f0).toInt)), (oa rx5 cI cap5 X5), (oa ry5 cI cap5 Y5), (oc6 lo5 (.ref lx5) (.ref ly5) (nI ln5) 0), (oa lx5 cI (cl f0) LX5), (oa ly5 cI (cl f0) LY5)]) (L := L) (f := f) (X := [(oc8 x (.ref sh) (.ref lw) (.ref ro) (.ref bq) (.ref bp) (.ref dq) (.ref dp) (.ref lv) (.ref sl) (nI dn) sd ul su), (oc10 sl mc9 (.ref ea) (nI T)), (oc7 sh (.ref fa) (nI ft)), (oq fa cF 200 FA)]) (by rw [hT_1]; exact (show va_P (dC, dI) classes (([(oc8 x (.ref sh) (.ref lw) (.ref ro) (.ref bq) (.ref bp) (.ref dq) (.ref dp) (.ref lv) (.ref sl) (nI dn) sd ul su), (oc10 sl mc9 (.ref ea) (nI T)), (oc7 sh (.ref fa) (nI ft)), (oq fa cF 200 FA)] ++ [(oc1 (fe f0) (rk f0) (wd f0) (tw f0) (pa f0) (pb f0) (.ref lo5) (.ref (la dn f0)) .null), (oc4 (la dn f0) (kd f0) (st f0) (.ref r5) (gb f0) (it f0) (nI we5)), (oc6 r5 (.ref rx5) (.ref ry5) (nI (nN (mn f0))) (rgK (kd f0).toInt)), (oa rx5 cI cap5 X5), (oa ry5 cI cap5 Y5), (oc6 lo5 (.ref lx5) (.ref ly5) (nI ln5) 0), (oa lx5 cI (cl f0) LX5), (oa ly5 cI (cl f0) LY5)]) ++ va_pl T_1 f) H from hP)) hc9_1
    have hD : va_D A ([(oc8 x (.ref sh) (.ref lw) (.ref ro) (.ref bq) (.ref bp) (.ref dq) (.ref dp) (.ref lv) (.ref sl) (nI dn) sd ul su), (oc10 sl mc9 (.ref ea) (nI T)), (oc7 sh (.ref fa) (nI ft)), (oq fa cF 200 FA)] ++ va_pl L f) := vaD_ae hD0_1 rfl
    obtain ⟨hP9, hD9⟩ := zq_part (cx := [(oc8 x (.ref sh) (.ref lw) (.ref ro) (.ref bq) (.ref bp) (.ref dq) (.ref dp) (.ref lv) (.ref sl) (nI dn) sd ul su), (oc10 sl mc9 (.ref ea) (nI T)), (oc7 sh (.ref fa) (nI ft)), (oq fa cF 200 FA)]) hP hD [0, 1, 2, 3] rfl rfl
    rw [hQ9]
    exact W.zret (ty := .boolean) (v := 1) hx hb hr (rfl) (fun t ht hW => ⟨⟨rfl, by rw [ht]; exact hP9, hD9⟩, hS.F ht⟩) hS.2.2 dX10_meets_42
set_option maxHeartbeats 4000000 in
set_option maxRecDepth 100000 in
theorem k_meets_y (l : Launch) (dC : Nat → ClassId) (dI : Nat → Nat → Nat) (cI cZ cF : ClassId) (sz : Nat) (cO : ClassId) (e0 : Nat) (mi : Nat) (x : Nat) (sh : Nat) (lw : Nat) (ro : Nat) (bq : Nat) (bp : Nat) (dq : Nat) (dp : Nat) (lv : Nat) (sl : Nat) (sd : Int32) (ul : Int32) (su : Int32) (ea : Nat) (mc9 : Int32) (fa : Nat) (FA : Nat → Option Nat) (bs : Nat) (dn : Nat) (T : Nat) (ft : Nat) (FT : Nat → Nat) (V : Nat → Nat → Nat → Int32) (VX : Nat → Nat → Int32) (VY : Nat → Nat → Int32) (tn : Nat → Int32) (rk : Nat → Int32) (wd : Nat → Int32) (tw : Nat → Int32) (pa : Nat → Int32) (pb : Nat → Int32) (wh : Nat → Int32) (of9 : Nat → Int32) (we : Nat → Int32) (kd : Nat → Int32) (st : Nat → Int32) (gb : Nat → Int32) (it : Nat → Int32) (mn : Nat → Int32) (cx : Nat → Int32) (cy : Nat → Int32) (L : List Nat) (f : Nat → va_E) (f0 : Nat) (g0 : Nat) (hB : shB cI cO L f e0 FA ea bs dn T ft FT V VX VY tn rk wd tw pa pb wh of9 we kd st gb it mn cx cy) (hf0 : f0 < ft) (htn : (tn f0).toInt = 0) (hg0 : g0 < ft) (htg : (tn g0).toInt = 0) (hgf : g0 ≠ f0) (hst : (st f0).toInt = 1) (hsg : (st g0).toInt = 1) (hwf : ∀ q, lvF ft st tn q → wfM mn cx cy q) (hkn : okN ft st tn kd mn) : Met l yX10_meets (.code yX10_meets cX10_meets 5 (some .boolean) :: ws0) ({ frames := 3, cells := 0, slots := 0, locals := 65 } : Room) (va_Pc [.ref x, .int (nI f0), .int (nI g0)] (zPre (dC, dI) classes (zTyO cI cZ cF cO) ([(oc8 x (.ref sh) (.ref lw) (.ref ro) (.ref bq) (.ref bp) (.ref dq) (.ref dp) (.ref lv) (.ref sl) (nI dn) sd ul su), (oc10 sl mc9 (.ref ea) (nI T)), (oc7 sh (.ref fa) (nI ft)), (oq fa cF 200 FA)] ++ va_pl L f) sz (zXL e0 mi (va_A ([(oc8 x (.ref sh) (.ref lw) (.ref ro) (.ref bq) (.ref bp) (.ref dq) (.ref dp) (.ref lv) (.ref sl) (nI dn) sd ul su), (oc10 sl mc9 (.ref ea) (nI T)), (oc7 sh (.ref fa) (nI ft)), (oq fa cF 200 FA)] ++ va_pl L f) sz)))) (zQ (some (.int (pI (mtF (kd f0).toInt (nN (mn f0)) (cF40 cx f0) (cF40 cy f0) (kd g0).toInt (nN (mn g0)) (cF40 cx g0) (cF40 cy g0))))) (fun t => va_P (dC, dI) classes ([(oc8 x (.ref sh) (.ref lw) (.ref ro) (.ref bq) (.ref bp) (.ref dq) (.ref dp) (.ref lv) (.ref sl) (nI dn) sd ul su), (oc10 sl mc9 (.ref ea) (nI T)), (oc7 sh (.ref fa) (nI ft)), (oq fa cF 200 FA)] ++ va_pl L f) t.heap ∧ va_D (va_A ([(oc8 x (.ref sh) (.ref lw) (.ref ro) (.ref bq) (.ref bp) (.ref dq) (.ref dp) (.ref lv) (.ref sl) (nI dn) sd ul su), (oc10 sl mc9 (.ref ea) (nI T)), (oc7 sh (.ref fa) (nI ft)), (oq fa cF 200 FA)] ++ va_pl L f) sz) ([(oc8 x (.ref sh) (.ref lw) (.ref ro) (.ref bq) (.ref bp) (.ref dq) (.ref dp) (.ref lv) (.ref sl) (nI dn) sd ul su), (oc10 sl mc9 (.ref ea) (nI T)), (oc7 sh (.ref fa) (nI ft)), (oq fa cF 200 FA)] ++ va_pl L f)) (va_A ([(oc8 x (.ref sh) (.ref lw) (.ref ro) (.ref bq) (.ref bp) (.ref dq) (.ref dp) (.ref lv) (.ref sl) (nI dn) sd ul su), (oc10 sl mc9 (.ref ea) (nI T)), (oc7 sh (.ref fa) (nI ft)), (oq fa cF 200 FA)] ++ va_pl L f) sz)) 0 0 (va_A ([(oc8 x (.ref sh) (.ref lw) (.ref ro) (.ref bq) (.ref bp) (.ref dq) (.ref dp) (.ref lv) (.ref sl) (nI dn) sd ul su), (oc10 sl mc9 (.ref ea) (nI T)), (oc7 sh (.ref fa) (nI ft)), (oq fa cF 200 FA)] ++ va_pl L f) sz) := by
  refine Met.ofW (cc := cX10_meets) (maxL := 5) (ret := (some .boolean)) rfl rfl ?_
  intro p e s m args below meth c s₁ B hml hv
  obtain ⟨rfl, hsz, hP, hK, hD0, hXL⟩ := hv
  have hx := B.exec
  have hb := B.bytes
  have hr := B.returns
  have hts0 := atoms_spec (ws := .code yX10_meets cX10_meets 5 (some .boolean) :: ws0) B.pre
  have hts : ∀ w9 ∈ ws0, w9.before ([.ref x, .int (nI f0), .int (nI g0)] : List Value).toArray s = true := fun w9 h => hts0 w9 (List.mem_cons_of_mem _ h)
  have hown : s.vm.findClass "ScaleShop" = some m.cls := findClass_of_methodNamed B.named
  have hlocks := B.notSynchronized
  subst hsz
  have hD := hD0.self (sz := s.heap.size)
  clear hD0
  generalize hAe : va_A ([(oc8 x (.ref sh) (.ref lw) (.ref ro) (.ref bq) (.ref bp) (.ref dq) (.ref dp) (.ref lv) (.ref sl) (nI dn) sd ul su), (oc10 sl mc9 (.ref ea) (nI T)), (oc7 sh (.ref fa) (nI ft)), (oq fa cF 200 FA)] ++ va_pl L f) s.heap.size = A at hD hXL ⊢
  have hA : ∀ q : Nat, s.heap.size ≤ q → A q := fun q h => by rw [← hAe]; exact Or.inr h
  clear hAe
  have hS : va_S A s.heap s.heap [] := va_S.rf
  have hXN := hXL.1
  have hK3 := hK.sub [0, 1, 2] rfl
  have hP : va_P (dC, dI) classes ([(oc8 x (.ref sh) (.ref lw) (.ref ro) (.ref bq) (.ref bp) (.ref dq) (.ref dp) (.ref lv) (.ref sl) (nI dn) sd ul su), (oc10 sl mc9 (.ref ea) (nI T)), (oc7 sh (.ref fa) (nI ft)), (oq fa cF 200 FA)] ++ va_pl L f) s.heap := hP
  obtain ⟨Q9, hQ9⟩ : ∃ Q9 : State → Prop, Q9 = MQ below (zQ (some (.int (pI (mtF (kd f0).toInt (nN (mn f0)) (cF40 cx f0) (cF40 cy f0) (kd g0).toInt (nN (mn g0)) (cF40 cx g0) (cF40 cy g0))))) (fun t => va_P (dC, dI) classes ([(oc8 x (.ref sh) (.ref lw) (.ref ro) (.ref bq) (.ref bp) (.ref dq) (.ref dp) (.ref lv) (.ref sl) (nI dn) sd ul su), (oc10 sl mc9 (.ref ea) (nI T)), (oc7 sh (.ref fa) (nI ft)), (oq fa cF 200 FA)] ++ va_pl L f) t.heap ∧ va_D A ([(oc8 x (.ref sh) (.ref lw) (.ref ro) (.ref bq) (.ref bp) (.ref dq) (.ref dp) (.ref lv) (.ref sl) (nI dn) sd ul su), (oc10 sl mc9 (.ref ea) (nI T)), (oc7 sh (.ref fa) (nI ft)), (oq fa cF 200 FA)] ++ va_pl L f)) A) ([.ref x, .int (nI f0), .int (nI g0)] : List Value).toArray s 0 0 A := ⟨_, rfl⟩
  rw [← hQ9]
  have hl := lv_entry ([.ref x, .int (nI f0), .int (nI g0)]) (n := 5) (Nat.le_of_ble_eq_true rfl)
  rw [lg_entry_eq]
  generalize (lg_sl ([.ref x, .int (nI f0), .int (nI g0)]) ++ List.replicate (5 - (lg_sl ([.ref x, .int (nI f0), .int (nI g0)])).length) Slot.unset).toArray = ls at hl ⊢
  have hl : lv_has ls 5 [(0, .ref x), (1, .int (nI f0)), (2, .int (nI g0))] := hl
  obtain ⟨own, fe, cl, la, sp, SA, hG9, hH9, hft9⟩ := hB
  obtain ⟨hG, hM, hdT, hT5⟩ := M_0 hG9 hH9 hft9
  have h200 : ft ≤ 200 := hG.2.2.2.2.2.1.2.2.2.2.2
  have hFA9 := hG.2.2.2.2.2.2
  obtain ⟨lo5, lx5, ly5, ln5, LX5, LY5, we5, r5, rx5, ry5, cap5, X5, Y5, hc5⟩ := sh_fc hG.1 hG.2.1 (Nat.le_refl _) hf0 htn
  have hc5 := fc_0 hc5
  have hb5 := hc5.2.2.1
  have hb6 := hc5.2.1
  obtain ⟨lo6, lx6, ly6, ln6, LX6, LY6, we6, r6, rx6, ry6, cap6, X6, Y6, hc6⟩ := sh_fc hG.1 hG.2.1 (Nat.le_refl _) hg0 htg
  have hc6 := fc_0 hc6
  have hb7 := hc6.2.2.1
  have hb8 := hc6.2.1
  have hlv : lvF ft st tn f0 := ⟨hf0, hst, htn⟩
  have hlg : lvF ft st tn g0 := ⟨hg0, hsg, htg⟩
  have hwf0 := hwf f0 hlv
  have hwfg := hwf g0 hlg
  have hw1 := hwf0.2.1
  have hw2 := hwfg.2.1
  have hkn0 := hkn f0 hlv
  have hkng := hkn g0 hlg
  have hX5 := hc5.2.2.2.2.1
  have hX6 := hc6.2.2.2.2.1
  have hp5 := (pls_cg hX5).mpr hwf0.2.2
  have hp6 := (pls_cg hX6).mpr hwfg.2.2
  have hti := jtch_iff hw1.1 hw2.1 hX5 hX6 hkn0 hkng
  have hc9_1 : inPl L f [(oc1 (fe f0) (rk f0) (wd f0) (tw f0) (pa f0) (pb f0) (.ref lo5) (.ref (la dn f0)) .null), (oc4 (la dn f0) (kd f0) (st f0) (.ref r5) (gb f0) (it f0) (nI we5)), (oc6 r5 (.ref rx5) (.ref ry5) (nI (nN (mn f0))) (rgK (kd f0).toInt)), (oa rx5 cI cap5 X5), (oa ry5 cI cap5 Y5), (oc6 lo5 (.ref lx5) (.ref ly5) (nI ln5) 0), (oa lx5 cI (cl f0) LX5), (oa ly5 cI (cl f0) LY5), (oc1 (fe g0) (rk g0) (wd g0) (tw g0) (pa g0) (pb g0) (.ref lo6) (.ref (la dn g0)) .null), (oc4 (la dn g0) (kd g0) (st g0) (.ref r6) (gb g0) (it g0) (nI we6)), (oc6 r6 (.ref rx6) (.ref ry6) (nI (nN (mn g0))) (rgK (kd g0).toInt)), (oa rx6 cI cap6 X6), (oa ry6 cI cap6 Y6), (oc6 lo6 (.ref lx6) (.ref ly6) (nI ln6) 0), (oa lx6 cI (cl g0) LX6), (oa ly6 cI (cl g0) LY6)] := ⟨ce_pl hc5.1.1, ce_pl hc5.1.2.1, ce_pl hc5.1.2.2.1.1, ce_pl hc5.1.2.2.1.2.1, ce_pl hc5.1.2.2.1.2.2.1, ce_pl hc5.1.2.2.2.1, ce_pl hc5.1.2.2.2.2.1, ce_pl hc5.1.2.2.2.2.2.1, ce_pl hc6.1.1, ce_pl hc6.1.2.1, ce_pl hc6.1.2.2.1.1, ce_pl hc6.1.2.2.1.2.1, ce_pl hc6.1.2.2.1.2.2.1, ce_pl hc6.1.2.2.2.1, ce_pl hc6.1.2.2.2.2.1, ce_pl hc6.1.2.2.2.2.2.1, trivial⟩
  have hD0_1 := hD
  obtain ⟨hP, hD⟩ := pl_out hP hD [(oc1 (fe f0) (rk f0) (wd f0) (tw f0) (pa f0) (pb f0) (.ref lo5) (.ref (la dn f0)) .null), (oc4 (la dn f0) (kd f0) (st f0) (.ref r5) (gb f0) (it f0) (nI we5)), (oc6 r5 (.ref rx5) (.ref ry5) (nI (nN (mn f0))) (rgK (kd f0).toInt)), (oa rx5 cI cap5 X5), (oa ry5 cI cap5 Y5), (oc6 lo5 (.ref lx5) (.ref ly5) (nI ln5) 0), (oa lx5 cI (cl f0) LX5), (oa ly5 cI (cl f0) LY5), (oc1 (fe g0) (rk g0) (wd g0) (tw g0) (pa g0) (pb g0) (.ref lo6) (.ref (la dn g0)) .null), (oc4 (la dn g0) (kd g0) (st g0) (.ref r6) (gb g0) (it g0) (nI we6)), (oc6 r6 (.ref rx6) (.ref ry6) (nI (nN (mn g0))) (rgK (kd g0).toInt)), (oa rx6 cI cap6 X6), (oa ry6 cI cap6 Y6), (oc6 lo6 (.ref lx6) (.ref ly6) (nI ln6) 0), (oa lx6 cI (cl g0) LX6), (oa ly6 cI (cl g0) LY6)] hc9_1 (pw_ap (own := own) (p := g0) (A := [(oc1 (fe f0) (rk f0) (wd f0) (tw f0) (pa f0) (pb f0) (.ref lo5) (.ref (la dn f0)) .null), (oc4 (la dn f0) (kd f0) (st f0) (.ref r5) (gb f0) (it f0) (nI we5)), (oc6 r5 (.ref rx5) (.ref ry5) (nI (nN (mn f0))) (rgK (kd f0).toInt)), (oa rx5 cI cap5 X5), (oa ry5 cI cap5 Y5), (oc6 lo5 (.ref lx5) (.ref ly5) (nI ln5) 0), (oa lx5 cI (cl f0) LX5), (oa ly5 cI (cl f0) LY5)]) (B := [(oc1 (fe g0) (rk g0) (wd g0) (tw g0) (pa g0) (pb g0) (.ref lo6) (.ref (la dn g0)) .null), (oc4 (la dn g0) (kd g0) (st g0) (.ref r6) (gb g0) (it g0) (nI we6)), (oc6 r6 (.ref rx6) (.ref ry6) (nI (nN (mn g0))) (rgK (kd g0).toInt)), (oa rx6 cI cap6 X6), (oa ry6 cI cap6 Y6), (oc6 lo6 (.ref lx6) (.ref ly6) (nI ln6) 0), (oa lx6 cI (cl g0) LX6), (oa ly6 cI (cl g0) LY6)]) (pw8 hc5 (by omega)) (pw8 hc6 (by omega)) (fc_ne hc5 (by omega) (by omega) hgf) (fun r hr => fc_ne hc6 (by omega) (by omega) hr))
  generalize hT_1 : outPl L [(oc1 (fe f0) (rk f0) (wd f0) (tw f0) (pa f0) (pb f0) (.ref lo5) (.ref (la dn f0)) .null), (oc4 (la dn f0) (kd f0) (st f0) (.ref r5) (gb f0) (it f0) (nI we5)), (oc6 r5 (.ref rx5) (.ref ry5) (nI (nN (mn f0))) (rgK (kd f0).toInt)), (oa rx5 cI cap5 X5), (oa ry5 cI cap5 Y5), (oc6 lo5 (.ref lx5) (.ref ly5) (nI ln5) 0), (oa lx5 cI (cl f0) LX5), (oa ly5 cI (cl f0) LY5), (oc1 (fe g0) (rk g0) (wd g0) (tw g0) (pa g0) (pb g0) (.ref lo6) (.ref (la dn g0)) .null), (oc4 (la dn g0) (kd g0) (st g0) (.ref r6) (gb g0) (it g0) (nI we6)), (oc6 r6 (.ref rx6) (.ref ry6) (nI (nN (mn g0))) (rgK (kd g0).toInt)), (oa rx6 cI cap6 X6), (oa ry6 cI cap6 Y6), (oc6 lo6 (.ref lx6) (.ref ly6) (nI ln6) 0), (oa lx6 cI (cl g0) LX6), (oa ly6 cI (cl g0) LY6)] = T_1 at hP hD
  obtain ⟨hP, hD⟩ : zPD (dC, dI) classes A ([(oc8 x (.ref sh) (.ref lw) (.ref ro) (.ref bq) (.ref bp) (.ref dq) (.ref dp) (.ref lv) (.ref sl) (nI dn) sd ul su), (oc10 sl mc9 (.ref ea) (nI T)), (oc7 sh (.ref fa) (nI ft)), (oq fa cF 200 FA), (oc1 (fe f0) (rk f0) (wd f0) (tw f0) (pa f0) (pb f0) (.ref lo5) (.ref (la dn f0)) .null), (oc4 (la dn f0) (kd f0) (st f0) (.ref r5) (gb f0) (it f0) (nI we5)), (oc6 r5 (.ref rx5) (.ref ry5) (nI (nN (mn f0))) (rgK (kd f0).toInt)), (oa rx5 cI cap5 X5), (oa ry5 cI cap5 Y5), (oc6 lo5 (.ref lx5) (.ref ly5) (nI ln5) 0), (oa lx5 cI (cl f0) LX5), (oa ly5 cI (cl f0) LY5), (oc1 (fe g0) (rk g0) (wd g0) (tw g0) (pa g0) (pb g0) (.ref lo6) (.ref (la dn g0)) .null), (oc4 (la dn g0) (kd g0) (st g0) (.ref r6) (gb g0) (it g0) (nI we6)), (oc6 r6 (.ref rx6) (.ref ry6) (nI (nN (mn g0))) (rgK (kd g0).toInt)), (oa rx6 cI cap6 X6), (oa ry6 cI cap6 Y6), (oc6 lo6 (.ref lx6) (.ref ly6) (nI ln6) 0), (oa lx6 cI (cl g0) LX6), (oa ly6 cI (cl g0) LY6)] ++ va_pl T_1 f) s.heap := ⟨hP, hD⟩
  refine lv_aload_n hx hb dX10_meets_0 rfl (lv_at hl 0 rfl) ?_
  refine va_get (D := (dC, dI)) (ci := 8) (v := .ref sh) (C := RX10) (T := TX10) (N := 13) hx hb hts inX10 hown hK hP 0 rfl rfl 0 (Nat.le_of_ble_eq_true rfl) (hts _ mw_309) (fun _ h9 => h9) rfl dX10_meets_1 ?_
  refine lv_iload_n hx hb dX10_meets_4 rfl (lv_at hl 1 rfl) ?_
  obtain ⟨hPc, hDc, hFc⟩ := zc_sub (wc := [(oc7 sh (.ref fa) (nI ft)), (oq fa cF 200 FA), (oc1 (fe f0) (rk f0) (wd f0) (tw f0) (pa f0) (pb f0) (.ref lo5) (.ref (la dn f0)) .null), (oc4 (la dn f0) (kd f0) (st f0) (.ref r5) (gb f0) (it f0) (nI we5))]) hP hD hS hA [2, 3, 4, 5] rfl rfl
  refine zcall (st1 := [.ref r5]) (va_runV (As := [.int (nI f0)]) (rest := []) ⟨hx, hb, hml, hown, hts⟩ (k_Sheet_rowThere_yv l dC dI cI cZ cF s.heap.size sh fa ft FA f0 (fe f0) lo5 (rk f0) (wd f0) (tw f0) (pa f0) (pb f0) (la dn f0) (kd f0) (st f0) (gb f0) (it f0) (nI we5) r5 (.null) (by first | with_reducible assumption | omega) (by first | with_reducible assumption | omega) (hFA9 f0 (by first | with_reducible assumption | omega)) (hst)) (csV_144 hts rfl rfl ⟨Nat.le_of_ble_eq_true rfl, Nat.le_of_ble_eq_true rfl⟩) (zPV2 (q0 := 0) (ci := 7) hPc hDc hK3 hXN rfl rfl) rfl rfl hl.1 rfl (lv_room (Nat.le_of_ble_eq_true rfl)) dX10_meets_5 ⟨Nat.le_of_ble_eq_true rfl, Nat.le_of_ble_eq_true rfl⟩) hS hFc hFc rfl (fun t H locs ht hB hk1 hS => ?_)
  obtain ⟨hP1, hD1⟩ := hB
  rw [ht] at hP1
  obtain ⟨hP, hD⟩ := zkQ (W2 := [(oc8 x (.ref sh) (.ref lw) (.ref ro) (.ref bq) (.ref bp) (.ref dq) (.ref dp) (.ref lv) (.ref sl) (nI dn) sd ul su), (oc10 sl mc9 (.ref ea) (nI T)), (oc7 sh (.ref fa) (nI ft)), (oq fa cF 200 FA), (oc1 (fe f0) (rk f0) (wd f0) (tw f0) (pa f0) (pb f0) (.ref lo5) (.ref (la dn f0)) .null), (oc4 (la dn f0) (kd f0) (st f0) (.ref r5) (gb f0) (it f0) (nI we5)), (oc6 r5 (.ref rx5) (.ref ry5) (nI (nN (mn f0))) (rgK (kd f0).toInt)), (oa rx5 cI cap5 X5), (oa ry5 cI cap5 Y5), (oc6 lo5 (.ref lx5) (.ref ly5) (nI ln5) 0), (oa lx5 cI (cl f0) LX5), (oa ly5 cI (cl f0) LY5), (oc1 (fe g0) (rk g0) (wd g0) (tw g0) (pa g0) (pb g0) (.ref lo6) (.ref (la dn g0)) .null), (oc4 (la dn g0) (kd g0) (st g0) (.ref r6) (gb g0) (it g0) (nI we6)), (oc6 r6 (.ref rx6) (.ref ry6) (nI (nN (mn g0))) (rgK (kd g0).toInt)), (oa rx6 cI cap6 X6), (oa ry6 cI cap6 Y6), (oc6 lo6 (.ref lx6) (.ref ly6) (nI ln6) 0), (oa lx6 cI (cl g0) LX6), (oa ly6 cI (cl g0) LY6)]) hP hD [2, 3, 4, 5] [0, 1, 6, 7, 8, 9, 10, 11, 12, 13, 14, 15, 16, 17, 18, 19] [0, 1, 6, 7, 8, 9, 10, 11, 12, 13, 14, 15, 16, 17, 18, 19] [2, 3, 4, 5] [0, 1, 16, 17, 18, 19, 2, 3, 4, 5, 6, 7, 8, 9, 10, 11, 12, 13, 14, 15] 20 rfl rfl rfl rfl rfl rfl rfl rfl rfl hk1 hFc hP1 hD1
  clear hk1 hPc hDc hFc hP1 hD1 ht
  refine lv_astore_n (lv' := [(3, .ref r5), (0, .ref x), (1, .int (nI f0)), (2, .int (nI g0))]) hx hb dX10_meets_8 rfl hl (Nat.le_of_ble_eq_true rfl) rfl (fun ls hl => ?_)
  refine lv_aload_n hx hb dX10_meets_9 rfl (lv_at hl 1 rfl) ?_
  refine va_get (D := (dC, dI)) (ci := 8) (v := .ref sh) (C := RX10) (T := TX10) (N := 13) hx hb hts inX10 hown hK hP 0 rfl rfl 0 (Nat.le_of_ble_eq_true rfl) (hts _ mw_309) (fun _ h9 => h9) rfl dX10_meets_10 ?_
  refine lv_iload_n hx hb dX10_meets_13 rfl (lv_at hl 3 rfl) ?_
  obtain ⟨hPc, hDc, hFc⟩ := zc_sub (wc := [(oc7 sh (.ref fa) (nI ft)), (oq fa cF 200 FA), (oc1 (fe g0) (rk g0) (wd g0) (tw g0) (pa g0) (pb g0) (.ref lo6) (.ref (la dn g0)) .null), (oc4 (la dn g0) (kd g0) (st g0) (.ref r6) (gb g0) (it g0) (nI we6))]) hP hD hS hA [2, 3, 12, 13] rfl rfl
  refine zcall (st1 := [.ref r6]) (va_runV (As := [.int (nI g0)]) (rest := []) ⟨hx, hb, hml, hown, hts⟩ (k_Sheet_rowThere_yv l dC dI cI cZ cF H.size sh fa ft FA g0 (fe g0) lo6 (rk g0) (wd g0) (tw g0) (pa g0) (pb g0) (la dn g0) (kd g0) (st g0) (gb g0) (it g0) (nI we6) r6 (.null) (by first | with_reducible assumption | omega) (by first | with_reducible assumption | omega) (hFA9 g0 (by first | with_reducible assumption | omega)) (hsg)) (csV_144 hts rfl rfl ⟨Nat.le_of_ble_eq_true rfl, Nat.le_of_ble_eq_true rfl⟩) (zPV2 (q0 := 0) (ci := 7) hPc hDc hK3 hXN rfl rfl) rfl rfl hl.1 rfl (lv_room (Nat.le_of_ble_eq_true rfl)) dX10_meets_14 ⟨Nat.le_of_ble_eq_true rfl, Nat.le_of_ble_eq_true rfl⟩) hS hFc hFc rfl (fun t H locs ht hB hk1 hS => ?_)
  obtain ⟨hP1, hD1⟩ := hB
  rw [ht] at hP1
  obtain ⟨hP, hD⟩ := zkQ (W2 := [(oc8 x (.ref sh) (.ref lw) (.ref ro) (.ref bq) (.ref bp) (.ref dq) (.ref dp) (.ref lv) (.ref sl) (nI dn) sd ul su), (oc10 sl mc9 (.ref ea) (nI T)), (oc7 sh (.ref fa) (nI ft)), (oq fa cF 200 FA), (oc1 (fe f0) (rk f0) (wd f0) (tw f0) (pa f0) (pb f0) (.ref lo5) (.ref (la dn f0)) .null), (oc4 (la dn f0) (kd f0) (st f0) (.ref r5) (gb f0) (it f0) (nI we5)), (oc6 r5 (.ref rx5) (.ref ry5) (nI (nN (mn f0))) (rgK (kd f0).toInt)), (oa rx5 cI cap5 X5), (oa ry5 cI cap5 Y5), (oc6 lo5 (.ref lx5) (.ref ly5) (nI ln5) 0), (oa lx5 cI (cl f0) LX5), (oa ly5 cI (cl f0) LY5), (oc1 (fe g0) (rk g0) (wd g0) (tw g0) (pa g0) (pb g0) (.ref lo6) (.ref (la dn g0)) .null), (oc4 (la dn g0) (kd g0) (st g0) (.ref r6) (gb g0) (it g0) (nI we6)), (oc6 r6 (.ref rx6) (.ref ry6) (nI (nN (mn g0))) (rgK (kd g0).toInt)), (oa rx6 cI cap6 X6), (oa ry6 cI cap6 Y6), (oc6 lo6 (.ref lx6) (.ref ly6) (nI ln6) 0), (oa lx6 cI (cl g0) LX6), (oa ly6 cI (cl g0) LY6)]) hP hD [2, 3, 12, 13] [0, 1, 4, 5, 6, 7, 8, 9, 10, 11, 14, 15, 16, 17, 18, 19] [0, 1, 4, 5, 6, 7, 8, 9, 10, 11, 14, 15, 16, 17, 18, 19] [2, 3, 12, 13] [0, 1, 16, 17, 2, 3, 4, 5, 6, 7, 8, 9, 18, 19, 10, 11, 12, 13, 14, 15] 20 rfl rfl rfl rfl rfl rfl rfl rfl rfl hk1 hFc hP1 hD1
  clear hk1 hPc hDc hFc hP1 hD1 ht
  refine lv_astore (lv' := [(4, .ref r6), (3, .ref r5), (0, .ref x), (1, .int (nI f0)), (2, .int (nI g0))]) hx hb dX10_meets_17 hl (Nat.le_of_ble_eq_true rfl) rfl (fun ls hl => ?_)
  refine lv_aload_n hx hb dX10_meets_19 rfl (lv_at hl 1 rfl) ?_
  refine lv_ifnull hx hb dX10_meets_20 ?_
  refine lv_aload hx hb dX10_meets_23 (lv_at hl 0 rfl) ?_
  refine lv_ifnull hx hb dX10_meets_25 ?_
  refine lv_aload_n hx hb dX10_meets_28 rfl (lv_at hl 1 rfl) ?_
  refine lv_aload hx hb dX10_meets_29 (lv_at hl 0 rfl) ?_
  obtain ⟨hPc, hDc, hFc⟩ := zc_sub (wc := [(oc6 r5 (.ref rx5) (.ref ry5) (nI (nN (mn f0))) (rgK (kd f0).toInt)), (oa rx5 cI cap5 X5), (oa ry5 cI cap5 Y5), (oc6 r6 (.ref rx6) (.ref ry6) (nI (nN (mn g0))) (rgK (kd g0).toInt)), (oa rx6 cI cap6 X6), (oa ry6 cI cap6 Y6)]) hP hD hS hA [6, 7, 8, 14, 15, 16] rfl rfl
  refine zcall (st1 := [.int (pI (∃ i, i < prt (nN (mn f0)) (rgK (kd f0).toInt) ∧ ∃ j, j < prt (nN (mn g0)) (rgK (kd g0).toInt) ∧ eMt (nN (mn f0)) X5 Y5 i (nN (mn g0)) X6 Y6 j))]) (va_runV (As := [.ref r6]) (rest := []) ⟨hx, hb, hml, hown, hts⟩ (k_Row_touches l dC dI cI cZ cF H.size r5 rx5 ry5 (nN (mn f0)) cap5 X5 Y5 (rgK (kd f0).toInt) r6 rx6 ry6 (nN (mn g0)) cap6 X6 Y6 (rgK (kd g0).toInt) (by first | with_reducible assumption | omega) (by first | with_reducible assumption | omega) (hp5) (by first | with_reducible assumption | omega) (by first | with_reducible assumption | omega) (hp6)) (csV_161 hts rfl rfl ⟨Nat.le_of_ble_eq_true rfl, Nat.le_of_ble_eq_true rfl⟩) (zPV2 (q0 := 0) (ci := 6) hPc hDc hK3 hXN rfl rfl) rfl rfl hl.1 rfl (lv_room (Nat.le_of_ble_eq_true rfl)) dX10_meets_31 ⟨Nat.le_of_ble_eq_true rfl, Nat.le_of_ble_eq_true rfl⟩) hS hFc hFc rfl (fun t H locs ht hB hk1 hS => ?_)
  obtain ⟨hP1, hD1⟩ := hB
  rw [ht] at hP1
  obtain ⟨hP, hD⟩ := zkQ (W2 := [(oc8 x (.ref sh) (.ref lw) (.ref ro) (.ref bq) (.ref bp) (.ref dq) (.ref dp) (.ref lv) (.ref sl) (nI dn) sd ul su), (oc10 sl mc9 (.ref ea) (nI T)), (oc7 sh (.ref fa) (nI ft)), (oq fa cF 200 FA), (oc1 (fe f0) (rk f0) (wd f0) (tw f0) (pa f0) (pb f0) (.ref lo5) (.ref (la dn f0)) .null), (oc4 (la dn f0) (kd f0) (st f0) (.ref r5) (gb f0) (it f0) (nI we5)), (oc6 r5 (.ref rx5) (.ref ry5) (nI (nN (mn f0))) (rgK (kd f0).toInt)), (oa rx5 cI cap5 X5), (oa ry5 cI cap5 Y5), (oc6 lo5 (.ref lx5) (.ref ly5) (nI ln5) 0), (oa lx5 cI (cl f0) LX5), (oa ly5 cI (cl f0) LY5), (oc1 (fe g0) (rk g0) (wd g0) (tw g0) (pa g0) (pb g0) (.ref lo6) (.ref (la dn g0)) .null), (oc4 (la dn g0) (kd g0) (st g0) (.ref r6) (gb g0) (it g0) (nI we6)), (oc6 r6 (.ref rx6) (.ref ry6) (nI (nN (mn g0))) (rgK (kd g0).toInt)), (oa rx6 cI cap6 X6), (oa ry6 cI cap6 Y6), (oc6 lo6 (.ref lx6) (.ref ly6) (nI ln6) 0), (oa lx6 cI (cl g0) LX6), (oa ly6 cI (cl g0) LY6)]) hP hD [6, 7, 8, 14, 15, 16] [0, 1, 2, 3, 4, 5, 9, 10, 11, 12, 13, 17, 18, 19] [0, 1, 2, 3, 4, 5, 9, 10, 11, 12, 13, 17, 18, 19] [6, 7, 8, 14, 15, 16] [0, 1, 2, 3, 4, 5, 14, 15, 16, 6, 7, 8, 9, 10, 17, 18, 19, 11, 12, 13] 20 rfl rfl rfl rfl rfl rfl rfl rfl rfl hk1 hFc hP1 hD1
  clear hk1 hPc hDc hFc hP1 hD1 ht
  refine lv_if_eq (tgt := 41) hx hb dX10_meets_34 rfl (fun c_1 => ?_) (fun c_1 => ?_)
  · have c_1 : ¬ (∃ i, i < prt (nN (mn f0)) (rgK (kd f0).toInt) ∧ ∃ j, j < prt (nN (mn g0)) (rgK (kd g0).toInt) ∧ eMt (nN (mn f0)) X5 Y5 i (nN (mn g0)) X6 Y6 j) := zp_0 c_1
    refine lv_iconst (v := 0) hx hb dX10_meets_41 rfl ?_
    have hP := pl_back (cs := [(oc1 (fe f0) (rk f0) (wd f0) (tw f0) (pa f0) (pb f0) (.ref lo5) (.ref (la dn f0)) .null), (oc4 (la dn f0) (kd f0) (st f0) (.ref r5) (gb f0) (it f0) (nI we5)), (oc6 r5 (.ref rx5) (.ref ry5) (nI (nN (mn f0))) (rgK (kd f0).toInt)), (oa rx5 cI cap5 X5), (oa ry5 cI cap5 Y5), (oc6 lo5 (.ref lx5) (.ref ly5) (nI ln5) 0), (oa lx5 cI (cl f0) LX5), (oa ly5 cI (cl f0) LY5), (oc1 (fe g0) (rk g0) (wd g0) (tw g0) (pa g0) (pb g0) (.ref lo6) (.ref (la dn g0)) .null), (oc4 (la dn g0) (kd g0) (st g0) (.ref r6) (gb g0) (it g0) (nI we6)), (oc6 r6 (.ref rx6) (.ref ry6) (nI (nN (mn g0))) (rgK (kd g0).toInt)), (oa rx6 cI cap6 X6), (oa ry6 cI cap6 Y6), (oc6 lo6 (.ref lx6) (.ref ly6) (nI ln6) 0), (oa lx6 cI (cl g0) LX6), (oa ly6 cI (cl g0) LY6)]) (L := L) (f := f) (X := [(oc8 x (.ref sh) (.ref lw) (.ref ro) (.ref bq) (.ref bp) (.ref dq) (.ref dp) (.ref lv) (.ref sl) (nI dn) sd ul su), (oc10 sl mc9 (.ref ea) (nI T)), (oc7 sh (.ref fa) (nI ft)), (oq fa cF 200 FA)]) (by rw [hT_1]; exact (show va_P (dC, dI) classes (([(oc8 x (.ref sh) (.ref lw) (.ref ro) (.ref bq) (.ref bp) (.ref dq) (.ref dp) (.ref lv) (.ref sl) (nI dn) sd ul su), (oc10 sl mc9 (.ref ea) (nI T)), (oc7 sh (.ref fa) (nI ft)), (oq fa cF 200 FA)] ++ [(oc1 (fe f0) (rk f0) (wd f0) (tw f0) (pa f0) (pb f0) (.ref lo5) (.ref (la dn f0)) .null), (oc4 (la dn f0) (kd f0) (st f0) (.ref r5) (gb f0) (it f0) (nI we5)), (oc6 r5 (.ref rx5) (.ref ry5) (nI (nN (mn f0))) (rgK (kd f0).toInt)), (oa rx5 cI cap5 X5), (oa ry5 cI cap5 Y5), (oc6 lo5 (.ref lx5) (.ref ly5) (nI ln5) 0), (oa lx5 cI (cl f0) LX5), (oa ly5 cI (cl f0) LY5), (oc1 (fe g0) (rk g0) (wd g0) (tw g0) (pa g0) (pb g0) (.ref lo6) (.ref (la dn g0)) .null), (oc4 (la dn g0) (kd g0) (st g0) (.ref r6) (gb g0) (it g0) (nI we6)), (oc6 r6 (.ref rx6) (.ref ry6) (nI (nN (mn g0))) (rgK (kd g0).toInt)), (oa rx6 cI cap6 X6), (oa ry6 cI cap6 Y6), (oc6 lo6 (.ref lx6) (.ref ly6) (nI ln6) 0), (oa lx6 cI (cl g0) LX6), (oa ly6 cI (cl g0) LY6)]) ++ va_pl T_1 f) H from hP)) hc9_1
    have hD : va_D A ([(oc8 x (.ref sh) (.ref lw) (.ref ro) (.ref bq) (.ref bp) (.ref dq) (.ref dp) (.ref lv) (.ref sl) (nI dn) sd ul su), (oc10 sl mc9 (.ref ea) (nI T)), (oc7 sh (.ref fa) (nI ft)), (oq fa cF 200 FA)] ++ va_pl L f) := vaD_ae hD0_1 rfl
    obtain ⟨hP9, hD9⟩ := zq_part (cx := [(oc8 x (.ref sh) (.ref lw) (.ref ro) (.ref bq) (.ref bp) (.ref dq) (.ref dp) (.ref lv) (.ref sl) (nI dn) sd ul su), (oc10 sl mc9 (.ref ea) (nI T)), (oc7 sh (.ref fa) (nI ft)), (oq fa cF 200 FA)]) hP hD [0, 1, 2, 3] rfl rfl
    rw [hQ9]
    exact W.zret (ty := .boolean) (v := 0) hx hb hr (rfl) (fun t ht hW => ⟨⟨congrArg (fun z => Outcome.returned (some (Value.int z))) (show (0 : Int32) = pI (mtF (kd f0).toInt (nN (mn f0)) (cF40 cx f0) (cF40 cy f0) (kd g0).toInt (nN (mn g0)) (cF40 cx g0) (cF40 cy g0)) from (zp_f (by first | exact hti.mp (by first | with_reducible assumption | assumption) | exact fun h => absurd (hti.mpr h) (by first | with_reducible assumption | assumption))).symm), by rw [ht]; exact hP9, hD9⟩, hS.F ht⟩) hS.2.2 dX10_meets_42
  · have c_1 : ∃ i, i < prt (nN (mn f0)) (rgK (kd f0).toInt) ∧ ∃ j, j < prt (nN (mn g0)) (rgK (kd g0).toInt) ∧ eMt (nN (mn f0)) X5 Y5 i (nN (mn g0)) X6 Y6 j := zp_1 c_1
    refine lv_iconst (v := 1) hx hb dX10_meets_37 rfl ?_
    refine lv_goto (tgt := 42) hx hb dX10_meets_38 rfl ?_
    have hP := pl_back (cs := [(oc1 (fe f0) (rk f0) (wd f0) (tw f0) (pa f0) (pb f0) (.ref lo5) (.ref (la dn f0)) .null), (oc4 (la dn f0) (kd f0) (st f0) (.ref r5) (gb f0) (it f0) (nI we5)), (oc6 r5 (.ref rx5) (.ref ry5) (nI (nN (mn f0))) (rgK (kd f0).toInt)), (oa rx5 cI cap5 X5), (oa ry5 cI cap5 Y5), (oc6 lo5 (.ref lx5) (.ref ly5) (nI ln5) 0), (oa lx5 cI (cl f0) LX5), (oa ly5 cI (cl f0) LY5), (oc1 (fe g0) (rk g0) (wd g0) (tw g0) (pa g0) (pb g0) (.ref lo6) (.ref (la dn g0)) .null), (oc4 (la dn g0) (kd g0) (st g0) (.ref r6) (gb g0) (it g0) (nI we6)), (oc6 r6 (.ref rx6) (.ref ry6) (nI (nN (mn g0))) (rgK (kd g0).toInt)), (oa rx6 cI cap6 X6), (oa ry6 cI cap6 Y6), (oc6 lo6 (.ref lx6) (.ref ly6) (nI ln6) 0), (oa lx6 cI (cl g0) LX6), (oa ly6 cI (cl g0) LY6)]) (L := L) (f := f) (X := [(oc8 x (.ref sh) (.ref lw) (.ref ro) (.ref bq) (.ref bp) (.ref dq) (.ref dp) (.ref lv) (.ref sl) (nI dn) sd ul su), (oc10 sl mc9 (.ref ea) (nI T)), (oc7 sh (.ref fa) (nI ft)), (oq fa cF 200 FA)]) (by rw [hT_1]; exact (show va_P (dC, dI) classes (([(oc8 x (.ref sh) (.ref lw) (.ref ro) (.ref bq) (.ref bp) (.ref dq) (.ref dp) (.ref lv) (.ref sl) (nI dn) sd ul su), (oc10 sl mc9 (.ref ea) (nI T)), (oc7 sh (.ref fa) (nI ft)), (oq fa cF 200 FA)] ++ [(oc1 (fe f0) (rk f0) (wd f0) (tw f0) (pa f0) (pb f0) (.ref lo5) (.ref (la dn f0)) .null), (oc4 (la dn f0) (kd f0) (st f0) (.ref r5) (gb f0) (it f0) (nI we5)), (oc6 r5 (.ref rx5) (.ref ry5) (nI (nN (mn f0))) (rgK (kd f0).toInt)), (oa rx5 cI cap5 X5), (oa ry5 cI cap5 Y5), (oc6 lo5 (.ref lx5) (.ref ly5) (nI ln5) 0), (oa lx5 cI (cl f0) LX5), (oa ly5 cI (cl f0) LY5), (oc1 (fe g0) (rk g0) (wd g0) (tw g0) (pa g0) (pb g0) (.ref lo6) (.ref (la dn g0)) .null), (oc4 (la dn g0) (kd g0) (st g0) (.ref r6) (gb g0) (it g0) (nI we6)), (oc6 r6 (.ref rx6) (.ref ry6) (nI (nN (mn g0))) (rgK (kd g0).toInt)), (oa rx6 cI cap6 X6), (oa ry6 cI cap6 Y6), (oc6 lo6 (.ref lx6) (.ref ly6) (nI ln6) 0), (oa lx6 cI (cl g0) LX6), (oa ly6 cI (cl g0) LY6)]) ++ va_pl T_1 f) H from hP)) hc9_1
    have hD : va_D A ([(oc8 x (.ref sh) (.ref lw) (.ref ro) (.ref bq) (.ref bp) (.ref dq) (.ref dp) (.ref lv) (.ref sl) (nI dn) sd ul su), (oc10 sl mc9 (.ref ea) (nI T)), (oc7 sh (.ref fa) (nI ft)), (oq fa cF 200 FA)] ++ va_pl L f) := vaD_ae hD0_1 rfl
    obtain ⟨hP9, hD9⟩ := zq_part (cx := [(oc8 x (.ref sh) (.ref lw) (.ref ro) (.ref bq) (.ref bp) (.ref dq) (.ref dp) (.ref lv) (.ref sl) (nI dn) sd ul su), (oc10 sl mc9 (.ref ea) (nI T)), (oc7 sh (.ref fa) (nI ft)), (oq fa cF 200 FA)]) hP hD [0, 1, 2, 3] rfl rfl
    rw [hQ9]
    exact W.zret (ty := .boolean) (v := 1) hx hb hr (rfl) (fun t ht hW => ⟨⟨congrArg (fun z => Outcome.returned (some (Value.int z))) (show (1 : Int32) = pI (mtF (kd f0).toInt (nN (mn f0)) (cF40 cx f0) (cF40 cy f0) (kd g0).toInt (nN (mn g0)) (cF40 cx g0) (cF40 cy g0)) from (zp_t (by first | exact hti.mp (by first | with_reducible assumption | assumption) | exact fun h => absurd (hti.mpr h) (by first | with_reducible assumption | assumption))).symm), by rw [ht]; exact hP9, hD9⟩, hS.F ht⟩) hS.2.2 dX10_meets_42
end
section
/-! a row has an edge, or is a point -/
theorem prt_1 {k : Int} {n : Nat} (h : (k = 0 ∧ n = 1) ∨ (¬ k = 0 ∧ 2 ≤ n)) : 1 ≤ prt n (rgK k) := by
  rw [prt_eO (rgK_t _) h]
  unfold eO
  by_cases e : k = 0
  · rw [if_pos e]; exact Nat.le_refl _
  · rw [if_neg e]; split <;> omega
end
section
set_option maxHeartbeats 4000000 in
set_option maxRecDepth 100000 in
theorem k_near_z (l : Launch) (dC : Nat → ClassId) (dI : Nat → Nat → Nat) (cI cZ cF : ClassId) (sz : Nat) (x : Nat) (sh : Nat) (lw : Nat) (ro : Nat) (bq : Nat) (bp : Nat) (dq : Nat) (dp : Nat) (lv : Nat) (sl : Nat) (sd : Int32) (ul : Int32) (su : Int32) (ds : Int32) (fa : Nat) (ft : Nat) (FA : Nat → Option Nat) (L : List Nat) (f : Nat → va_E) (kd : Nat → Int32) (st : Nat → Int32) (tn : Nat → Int32) (mn : Nat → Int32) (cx : Nat → Int32) (cy : Nat → Int32) (rk : Nat → Int32) (wd : Nat → Int32) (tw : Nat → Int32) (pa : Nat → Int32) (pb : Nat → Int32) (gb : Nat → Int32) (it : Nat → Int32) (v : Int32) (w : Int32) (wv : Int32) (h200 : ft ≤ 200) (hva : ∀ q, q < ft → vwA cI L f FA rk wd tw pa pb kd st gb it tn mn cx cy q) (hbad : ¬ ((∃ f, v = nI f ∧ lvF ft st tn f) ∧ ∃ g, w = nI g ∧ lvF ft st tn g)) : Met l yX10_near (.code yX10_near cX10_near 6 (some .long) :: ws0) ({ frames := 2, cells := 0, slots := 0, locals := 43 } : Room) (va_Pc [.ref x, .int v, .int w, .int wv] (zPre (dC, dI) classes (zTy cI cZ cF) ([(oc8 x (.ref sh) (.ref lw) (.ref ro) (.ref bq) (.ref bp) (.ref dq) (.ref dp) (.ref lv) (.ref sl) ds sd ul su), (oc7 sh (.ref fa) (nI ft)), (oq fa cF 200 FA)] ++ va_pl L f) sz zXN)) (zQ (some (.long (-1))) (fun t => va_P (dC, dI) classes ([(oc8 x (.ref sh) (.ref lw) (.ref ro) (.ref bq) (.ref bp) (.ref dq) (.ref dp) (.ref lv) (.ref sl) ds sd ul su), (oc7 sh (.ref fa) (nI ft)), (oq fa cF 200 FA)] ++ va_pl L f) t.heap ∧ va_D (va_A ([(oc8 x (.ref sh) (.ref lw) (.ref ro) (.ref bq) (.ref bp) (.ref dq) (.ref dp) (.ref lv) (.ref sl) ds sd ul su), (oc7 sh (.ref fa) (nI ft)), (oq fa cF 200 FA)] ++ va_pl L f) sz) ([(oc8 x (.ref sh) (.ref lw) (.ref ro) (.ref bq) (.ref bp) (.ref dq) (.ref dp) (.ref lv) (.ref sl) ds sd ul su), (oc7 sh (.ref fa) (nI ft)), (oq fa cF 200 FA)] ++ va_pl L f)) (va_A ([(oc8 x (.ref sh) (.ref lw) (.ref ro) (.ref bq) (.ref bp) (.ref dq) (.ref dp) (.ref lv) (.ref sl) ds sd ul su), (oc7 sh (.ref fa) (nI ft)), (oq fa cF 200 FA)] ++ va_pl L f) sz)) 0 0 (va_A ([(oc8 x (.ref sh) (.ref lw) (.ref ro) (.ref bq) (.ref bp) (.ref dq) (.ref dp) (.ref lv) (.ref sl) ds sd ul su), (oc7 sh (.ref fa) (nI ft)), (oq fa cF 200 FA)] ++ va_pl L f) sz) := by
  refine Met.ofW (cc := cX10_near) (maxL := 6) (ret := (some .long)) rfl rfl ?_
  intro p e s m args below meth c s₁ B hml hv
  obtain ⟨rfl, hsz, hP, hK, hD0, hXN⟩ := hv
  have hx := B.exec
  have hb := B.bytes
  have hr := B.returns
  have hts0 := atoms_spec (ws := .code yX10_near cX10_near 6 (some .long) :: ws0) B.pre
  have hts : ∀ w9 ∈ ws0, w9.before ([.ref x, .int v, .int w, .int wv] : List Value).toArray s = true := fun w9 h => hts0 w9 (List.mem_cons_of_mem _ h)
  have hown : s.vm.findClass "ScaleShop" = some m.cls := findClass_of_methodNamed B.named
  have hlocks := B.notSynchronized
  subst hsz
  have hD := hD0.self (sz := s.heap.size)
  clear hD0
  generalize hAe : va_A ([(oc8 x (.ref sh) (.ref lw) (.ref ro) (.ref bq) (.ref bp) (.ref dq) (.ref dp) (.ref lv) (.ref sl) ds sd ul su), (oc7 sh (.ref fa) (nI ft)), (oq fa cF 200 FA)] ++ va_pl L f) s.heap.size = A at hD ⊢
  have hA : ∀ q : Nat, s.heap.size ≤ q → A q := fun q h => by rw [← hAe]; exact Or.inr h
  clear hAe
  have hS : va_S A s.heap s.heap [] := va_S.rf
  have hP : va_P (dC, dI) classes ([(oc8 x (.ref sh) (.ref lw) (.ref ro) (.ref bq) (.ref bp) (.ref dq) (.ref dp) (.ref lv) (.ref sl) ds sd ul su), (oc7 sh (.ref fa) (nI ft)), (oq fa cF 200 FA)] ++ va_pl L f) s.heap := hP
  obtain ⟨Q9, hQ9⟩ : ∃ Q9 : State → Prop, Q9 = MQ below (zQ (some (.long (-1))) (fun t => va_P (dC, dI) classes ([(oc8 x (.ref sh) (.ref lw) (.ref ro) (.ref bq) (.ref bp) (.ref dq) (.ref dp) (.ref lv) (.ref sl) ds sd ul su), (oc7 sh (.ref fa) (nI ft)), (oq fa cF 200 FA)] ++ va_pl L f) t.heap ∧ va_D A ([(oc8 x (.ref sh) (.ref lw) (.ref ro) (.ref bq) (.ref bp) (.ref dq) (.ref dp) (.ref lv) (.ref sl) ds sd ul su), (oc7 sh (.ref fa) (nI ft)), (oq fa cF 200 FA)] ++ va_pl L f)) A) ([.ref x, .int v, .int w, .int wv] : List Value).toArray s 0 0 A := ⟨_, rfl⟩
  rw [← hQ9]
  have hl := lv_entry ([.ref x, .int v, .int w, .int wv]) (n := 6) (Nat.le_of_ble_eq_true rfl)
  rw [lg_entry_eq]
  generalize (lg_sl ([.ref x, .int v, .int w, .int wv]) ++ List.replicate (6 - (lg_sl ([.ref x, .int v, .int w, .int wv])).length) Slot.unset).toArray = ls at hl ⊢
  have hl : lv_has ls 6 [(0, .ref x), (1, .int v), (2, .int w), (3, .int wv)] := hl
  rcases v_c (v := v) (ft := ft) h200 with hb2 | ⟨f0, hq2, rfl⟩
  · skip
    refine lv_aload_n hx hb dX10_near_0 rfl (lv_at hl 0 rfl) ?_
    refine va_get (D := (dC, dI)) (ci := 8) (v := .ref sh) (C := RX10) (T := TX10) (N := 13) hx hb hts inX10 hown hK hP 0 rfl rfl 0 (Nat.le_of_ble_eq_true rfl) (hts _ mw_309) (fun _ h9 => h9) rfl dX10_near_1 ?_
    refine lv_iload_n hx hb dX10_near_4 rfl (lv_at hl 1 rfl) ?_
    obtain ⟨hPc, hDc, hFc⟩ := zc_sub (wc := [(oc7 sh (.ref fa) (nI ft)), (oq fa cF 200 FA)]) hP hD hS hA [1, 2] rfl rfl
    refine zcall (st1 := [.null]) (va_runV (As := [.int v]) (rest := []) ⟨hx, hb, hml, hown, hts⟩ (k_Sheet_rowThere_x l dC dI cI cZ cF s.heap.size sh fa ft FA v (h200) (hb2)) (csV_144 hts rfl rfl ⟨Nat.le_of_ble_eq_true rfl, Nat.le_of_ble_eq_true rfl⟩) (zPV2 (q0 := 0) (ci := 7) hPc hDc hK hXN rfl rfl) rfl rfl hl.1 rfl (lv_room (Nat.le_of_ble_eq_true rfl)) dX10_near_5 ⟨Nat.le_of_ble_eq_true rfl, Nat.le_of_ble_eq_true rfl⟩) hS hFc hFc rfl (fun t H locs ht hB hk1 hS => ?_)
    obtain ⟨hP1, hD1⟩ := hB
    rw [ht] at hP1
    obtain ⟨hP, hD⟩ := zkQ (W2 := [(oc8 x (.ref sh) (.ref lw) (.ref ro) (.ref bq) (.ref bp) (.ref dq) (.ref dp) (.ref lv) (.ref sl) ds sd ul su), (oc7 sh (.ref fa) (nI ft)), (oq fa cF 200 FA)]) hP hD [1, 2] [0] [0] [1, 2] [0, 1, 2] 3 rfl rfl rfl rfl rfl rfl rfl rfl rfl hk1 hFc hP1 hD1
    clear hk1 hPc hDc hFc hP1 hD1 ht
    refine lv_astoreN (lv' := [(4, .null), (0, .ref x), (1, .int v), (2, .int w), (3, .int wv)]) hx hb dX10_near_8 hl (Nat.le_of_ble_eq_true rfl) rfl (fun ls hl => ?_)
    rcases v_c (v := w) (ft := ft) h200 with hb3 | ⟨g0, hq3, rfl⟩
    · skip
      refine lv_aload_n hx hb dX10_near_10 rfl (lv_at hl 1 rfl) ?_
      refine va_get (D := (dC, dI)) (ci := 8) (v := .ref sh) (C := RX10) (T := TX10) (N := 13) hx hb hts inX10 hown hK hP 0 rfl rfl 0 (Nat.le_of_ble_eq_true rfl) (hts _ mw_309) (fun _ h9 => h9) rfl dX10_near_11 ?_
      refine lv_iload_n hx hb dX10_near_14 rfl (lv_at hl 3 rfl) ?_
      obtain ⟨hPc, hDc, hFc⟩ := zc_sub (wc := [(oc7 sh (.ref fa) (nI ft)), (oq fa cF 200 FA)]) hP hD hS hA [1, 2] rfl rfl
      refine zcall (st1 := [.null]) (va_runV (As := [.int w]) (rest := []) ⟨hx, hb, hml, hown, hts⟩ (k_Sheet_rowThere_x l dC dI cI cZ cF H.size sh fa ft FA w (h200) (hb3)) (csV_144 hts rfl rfl ⟨Nat.le_of_ble_eq_true rfl, Nat.le_of_ble_eq_true rfl⟩) (zPV2 (q0 := 0) (ci := 7) hPc hDc hK hXN rfl rfl) rfl rfl hl.1 rfl (lv_room (Nat.le_of_ble_eq_true rfl)) dX10_near_15 ⟨Nat.le_of_ble_eq_true rfl, Nat.le_of_ble_eq_true rfl⟩) hS hFc hFc rfl (fun t H locs ht hB hk1 hS => ?_)
      obtain ⟨hP1, hD1⟩ := hB
      rw [ht] at hP1
      obtain ⟨hP, hD⟩ := zkQ (W2 := [(oc8 x (.ref sh) (.ref lw) (.ref ro) (.ref bq) (.ref bp) (.ref dq) (.ref dp) (.ref lv) (.ref sl) ds sd ul su), (oc7 sh (.ref fa) (nI ft)), (oq fa cF 200 FA)]) hP hD [1, 2] [0] [0] [1, 2] [0, 1, 2] 3 rfl rfl rfl rfl rfl rfl rfl rfl rfl hk1 hFc hP1 hD1
      clear hk1 hPc hDc hFc hP1 hD1 ht
      refine lv_astoreN (lv' := [(5, .null), (4, .null), (0, .ref x), (1, .int v), (2, .int w), (3, .int wv)]) hx hb dX10_near_18 hl (Nat.le_of_ble_eq_true rfl) rfl (fun ls hl => ?_)
      refine lv_aloadN hx hb dX10_near_20 (lv_at hl 1 rfl) ?_
      refine lv_ifnullN (tgt := 39) hx hb dX10_near_22 rfl ?_
      refine lv_ldc2 hx hb hown (hts _ mw_1077) dX10_near_39 ?_
      obtain ⟨hP9, hD9⟩ := zq_part (cx := [(oc8 x (.ref sh) (.ref lw) (.ref ro) (.ref bq) (.ref bp) (.ref dq) (.ref dp) (.ref lv) (.ref sl) ds sd ul su), (oc7 sh (.ref fa) (nI ft)), (oq fa cF 200 FA)]) hP hD [0, 1, 2] rfl rfl
      rw [hQ9]
      exact W.lret (v := (-1)) hx hb hr (fun t ht hW => ⟨⟨rfl, by rw [ht]; exact hP9, hD9⟩, hS.F ht⟩) hS.2.2 dX10_near_42
    · skip
      refine lv_aload_n hx hb dX10_near_10 rfl (lv_at hl 1 rfl) ?_
      rcases vwA_3 (P9 := ((st g0).toInt = 1)) (hva g0 (by omega)) with ⟨ht3, fe3, lk3, lo3, we3, fm3, hFA3, hfe3, hlk3⟩ | ⟨ht3, hA3, fe3, lk3, lo3, we3, fm3, r3, rx3, ry3, cap3, U3, V3, rg3, hFA3, hfe3, hlk3, ⟨hr3, hrx3, hry3, hne3⟩, hrr3⟩ | ⟨ht3, hA3, fe3, lk3, lo3, we3, fm3, r3, rx3, ry3, cap3, U3, V3, rg3, hFA3, hfe3, hlk3, ⟨hr3, hrx3, hry3, hne3⟩, hrr3⟩
      · skip
        refine va_get (D := (dC, dI)) (ci := 8) (v := .ref sh) (C := RX10) (T := TX10) (N := 13) hx hb hts inX10 hown hK hP 0 rfl rfl 0 (Nat.le_of_ble_eq_true rfl) (hts _ mw_309) (fun _ h9 => h9) rfl dX10_near_11 ?_
        have hc9_1 : inPl L f [(oc1 fe3 (rk g0) (wd g0) (tw g0) (pa g0) (pb g0) (.ref lo3) (.ref lk3) fm3), (oc4 lk3 (kd g0) (st g0) .null (gb g0) (it g0) we3)] := ⟨hfe3, hlk3, trivial⟩
        have hD0_1 := hD
        obtain ⟨hP, hD⟩ := pl_out hP hD [(oc1 fe3 (rk g0) (wd g0) (tw g0) (pa g0) (pb g0) (.ref lo3) (.ref lk3) fm3), (oc4 lk3 (kd g0) (st g0) .null (gb g0) (it g0) we3)] hc9_1 (pwF hfe3.2 hlk3.2)
        generalize hT_1 : outPl L [(oc1 fe3 (rk g0) (wd g0) (tw g0) (pa g0) (pb g0) (.ref lo3) (.ref lk3) fm3), (oc4 lk3 (kd g0) (st g0) .null (gb g0) (it g0) we3)] = T_1 at hP hD
        obtain ⟨hP, hD⟩ : zPD (dC, dI) classes A ([(oc8 x (.ref sh) (.ref lw) (.ref ro) (.ref bq) (.ref bp) (.ref dq) (.ref dp) (.ref lv) (.ref sl) ds sd ul su), (oc7 sh (.ref fa) (nI ft)), (oq fa cF 200 FA), (oc1 fe3 (rk g0) (wd g0) (tw g0) (pa g0) (pb g0) (.ref lo3) (.ref lk3) fm3), (oc4 lk3 (kd g0) (st g0) .null (gb g0) (it g0) we3)] ++ va_pl T_1 f) H := ⟨hP, hD⟩
        refine lv_iload_n hx hb dX10_near_14 rfl (lv_at hl 3 rfl) ?_
        obtain ⟨hPc, hDc, hFc⟩ := zc_sub (wc := [(oc7 sh (.ref fa) (nI ft)), (oq fa cF 200 FA), (oc1 fe3 (rk g0) (wd g0) (tw g0) (pa g0) (pb g0) (.ref lo3) (.ref lk3) fm3), (oc4 lk3 (kd g0) (st g0) .null (gb g0) (it g0) we3)]) hP hD hS hA [1, 2, 3, 4] rfl rfl
        refine zcall (st1 := [.null]) (va_runV (As := [.int (nI g0)]) (rest := []) ⟨hx, hb, hml, hown, hts⟩ (k_Sheet_rowThere_tv l dC dI cI cZ cF H.size sh fa ft FA g0 fe3 lo3 (rk g0) (wd g0) (tw g0) (pa g0) (pb g0) lk3 (kd g0) (st g0) (gb g0) (it g0) we3 fm3 (h200) (by first | with_reducible assumption | omega) (hFA3)) (csV_144 hts rfl rfl ⟨Nat.le_of_ble_eq_true rfl, Nat.le_of_ble_eq_true rfl⟩) (zPV2 (q0 := 0) (ci := 7) hPc hDc hK hXN rfl rfl) rfl rfl hl.1 rfl (lv_room (Nat.le_of_ble_eq_true rfl)) dX10_near_15 ⟨Nat.le_of_ble_eq_true rfl, Nat.le_of_ble_eq_true rfl⟩) hS hFc hFc rfl (fun t H locs ht hB hk1 hS => ?_)
        obtain ⟨hP1, hD1⟩ := hB
        rw [ht] at hP1
        obtain ⟨hP, hD⟩ := zkQ (W2 := [(oc8 x (.ref sh) (.ref lw) (.ref ro) (.ref bq) (.ref bp) (.ref dq) (.ref dp) (.ref lv) (.ref sl) ds sd ul su), (oc7 sh (.ref fa) (nI ft)), (oq fa cF 200 FA), (oc1 fe3 (rk g0) (wd g0) (tw g0) (pa g0) (pb g0) (.ref lo3) (.ref lk3) fm3), (oc4 lk3 (kd g0) (st g0) .null (gb g0) (it g0) we3)]) hP hD [1, 2, 3, 4] [0] [0] [1, 2, 3, 4] [0, 1, 2, 3, 4] 5 rfl rfl rfl rfl rfl rfl rfl rfl rfl hk1 hFc hP1 hD1
        clear hk1 hPc hDc hFc hP1 hD1 ht
        have hP := pl_back (cs := [(oc1 fe3 (rk g0) (wd g0) (tw g0) (pa g0) (pb g0) (.ref lo3) (.ref lk3) fm3), (oc4 lk3 (kd g0) (st g0) .null (gb g0) (it g0) we3)]) (L := L) (f := f) (X := [(oc8 x (.ref sh) (.ref lw) (.ref ro) (.ref bq) (.ref bp) (.ref dq) (.ref dp) (.ref lv) (.ref sl) ds sd ul su), (oc7 sh (.ref fa) (nI ft)), (oq fa cF 200 FA)]) (by rw [hT_1]; exact (show va_P (dC, dI) classes (([(oc8 x (.ref sh) (.ref lw) (.ref ro) (.ref bq) (.ref bp) (.ref dq) (.ref dp) (.ref lv) (.ref sl) ds sd ul su), (oc7 sh (.ref fa) (nI ft)), (oq fa cF 200 FA)] ++ [(oc1 fe3 (rk g0) (wd g0) (tw g0) (pa g0) (pb g0) (.ref lo3) (.ref lk3) fm3), (oc4 lk3 (kd g0) (st g0) .null (gb g0) (it g0) we3)]) ++ va_pl T_1 f) H from hP)) hc9_1
        have hD : va_D A ([(oc8 x (.ref sh) (.ref lw) (.ref ro) (.ref bq) (.ref bp) (.ref dq) (.ref dp) (.ref lv) (.ref sl) ds sd ul su), (oc7 sh (.ref fa) (nI ft)), (oq fa cF 200 FA)] ++ va_pl L f) := vaD_ae hD0_1 rfl
        refine lv_astoreN (lv' := [(5, .null), (4, .null), (0, .ref x), (1, .int v), (2, .int (nI g0)), (3, .int wv)]) hx hb dX10_near_18 hl (Nat.le_of_ble_eq_true rfl) rfl (fun ls hl => ?_)
        refine lv_aloadN hx hb dX10_near_20 (lv_at hl 1 rfl) ?_
        refine lv_ifnullN (tgt := 39) hx hb dX10_near_22 rfl ?_
        refine lv_ldc2 hx hb hown (hts _ mw_1077) dX10_near_39 ?_
        obtain ⟨hP9, hD9⟩ := zq_part (cx := [(oc8 x (.ref sh) (.ref lw) (.ref ro) (.ref bq) (.ref bp) (.ref dq) (.ref dp) (.ref lv) (.ref sl) ds sd ul su), (oc7 sh (.ref fa) (nI ft)), (oq fa cF 200 FA)]) hP hD [0, 1, 2] rfl rfl
        rw [hQ9]
        exact W.lret (v := (-1)) hx hb hr (fun t ht hW => ⟨⟨rfl, by rw [ht]; exact hP9, hD9⟩, hS.F ht⟩) hS.2.2 dX10_near_42
      · skip
        refine va_get (D := (dC, dI)) (ci := 8) (v := .ref sh) (C := RX10) (T := TX10) (N := 13) hx hb hts inX10 hown hK hP 0 rfl rfl 0 (Nat.le_of_ble_eq_true rfl) (hts _ mw_309) (fun _ h9 => h9) rfl dX10_near_11 ?_
        have hc9_1 : inPl L f [(oc1 fe3 (rk g0) (wd g0) (tw g0) (pa g0) (pb g0) (.ref lo3) (.ref lk3) fm3), (oc4 lk3 (kd g0) (st g0) (.ref r3) (gb g0) (it g0) we3)] := ⟨hfe3, hlk3, trivial⟩
        have hD0_1 := hD
        obtain ⟨hP, hD⟩ := pl_out hP hD [(oc1 fe3 (rk g0) (wd g0) (tw g0) (pa g0) (pb g0) (.ref lo3) (.ref lk3) fm3), (oc4 lk3 (kd g0) (st g0) (.ref r3) (gb g0) (it g0) we3)] hc9_1 (pwF hfe3.2 hlk3.2)
        generalize hT_1 : outPl L [(oc1 fe3 (rk g0) (wd g0) (tw g0) (pa g0) (pb g0) (.ref lo3) (.ref lk3) fm3), (oc4 lk3 (kd g0) (st g0) (.ref r3) (gb g0) (it g0) we3)] = T_1 at hP hD
        obtain ⟨hP, hD⟩ : zPD (dC, dI) classes A ([(oc8 x (.ref sh) (.ref lw) (.ref ro) (.ref bq) (.ref bp) (.ref dq) (.ref dp) (.ref lv) (.ref sl) ds sd ul su), (oc7 sh (.ref fa) (nI ft)), (oq fa cF 200 FA), (oc1 fe3 (rk g0) (wd g0) (tw g0) (pa g0) (pb g0) (.ref lo3) (.ref lk3) fm3), (oc4 lk3 (kd g0) (st g0) (.ref r3) (gb g0) (it g0) we3)] ++ va_pl T_1 f) H := ⟨hP, hD⟩
        refine lv_iload_n hx hb dX10_near_14 rfl (lv_at hl 3 rfl) ?_
        obtain ⟨hPc, hDc, hFc⟩ := zc_sub (wc := [(oc7 sh (.ref fa) (nI ft)), (oq fa cF 200 FA), (oc1 fe3 (rk g0) (wd g0) (tw g0) (pa g0) (pb g0) (.ref lo3) (.ref lk3) fm3), (oc4 lk3 (kd g0) (st g0) (.ref r3) (gb g0) (it g0) we3)]) hP hD hS hA [1, 2, 3, 4] rfl rfl
        refine zcall (st1 := [.ref r3]) (va_runV (As := [.int (nI g0)]) (rest := []) ⟨hx, hb, hml, hown, hts⟩ (k_Sheet_rowThere_yv l dC dI cI cZ cF H.size sh fa ft FA g0 fe3 lo3 (rk g0) (wd g0) (tw g0) (pa g0) (pb g0) lk3 (kd g0) (st g0) (gb g0) (it g0) we3 r3 fm3 (h200) (by first | with_reducible assumption | omega) (hFA3) (by first | exact hA3 | omega)) (csV_144 hts rfl rfl ⟨Nat.le_of_ble_eq_true rfl, Nat.le_of_ble_eq_true rfl⟩) (zPV2 (q0 := 0) (ci := 7) hPc hDc hK hXN rfl rfl) rfl rfl hl.1 rfl (lv_room (Nat.le_of_ble_eq_true rfl)) dX10_near_15 ⟨Nat.le_of_ble_eq_true rfl, Nat.le_of_ble_eq_true rfl⟩) hS hFc hFc rfl (fun t H locs ht hB hk1 hS => ?_)
        obtain ⟨hP1, hD1⟩ := hB
        rw [ht] at hP1
        obtain ⟨hP, hD⟩ := zkQ (W2 := [(oc8 x (.ref sh) (.ref lw) (.ref ro) (.ref bq) (.ref bp) (.ref dq) (.ref dp) (.ref lv) (.ref sl) ds sd ul su), (oc7 sh (.ref fa) (nI ft)), (oq fa cF 200 FA), (oc1 fe3 (rk g0) (wd g0) (tw g0) (pa g0) (pb g0) (.ref lo3) (.ref lk3) fm3), (oc4 lk3 (kd g0) (st g0) (.ref r3) (gb g0) (it g0) we3)]) hP hD [1, 2, 3, 4] [0] [0] [1, 2, 3, 4] [0, 1, 2, 3, 4] 5 rfl rfl rfl rfl rfl rfl rfl rfl rfl hk1 hFc hP1 hD1
        clear hk1 hPc hDc hFc hP1 hD1 ht
        have hP := pl_back (cs := [(oc1 fe3 (rk g0) (wd g0) (tw g0) (pa g0) (pb g0) (.ref lo3) (.ref lk3) fm3), (oc4 lk3 (kd g0) (st g0) (.ref r3) (gb g0) (it g0) we3)]) (L := L) (f := f) (X := [(oc8 x (.ref sh) (.ref lw) (.ref ro) (.ref bq) (.ref bp) (.ref dq) (.ref dp) (.ref lv) (.ref sl) ds sd ul su), (oc7 sh (.ref fa) (nI ft)), (oq fa cF 200 FA)]) (by rw [hT_1]; exact (show va_P (dC, dI) classes (([(oc8 x (.ref sh) (.ref lw) (.ref ro) (.ref bq) (.ref bp) (.ref dq) (.ref dp) (.ref lv) (.ref sl) ds sd ul su), (oc7 sh (.ref fa) (nI ft)), (oq fa cF 200 FA)] ++ [(oc1 fe3 (rk g0) (wd g0) (tw g0) (pa g0) (pb g0) (.ref lo3) (.ref lk3) fm3), (oc4 lk3 (kd g0) (st g0) (.ref r3) (gb g0) (it g0) we3)]) ++ va_pl T_1 f) H from hP)) hc9_1
        have hD : va_D A ([(oc8 x (.ref sh) (.ref lw) (.ref ro) (.ref bq) (.ref bp) (.ref dq) (.ref dp) (.ref lv) (.ref sl) ds sd ul su), (oc7 sh (.ref fa) (nI ft)), (oq fa cF 200 FA)] ++ va_pl L f) := vaD_ae hD0_1 rfl
        refine lv_astore (lv' := [(5, .ref r3), (4, .null), (0, .ref x), (1, .int v), (2, .int (nI g0)), (3, .int wv)]) hx hb dX10_near_18 hl (Nat.le_of_ble_eq_true rfl) rfl (fun ls hl => ?_)
        refine lv_aloadN hx hb dX10_near_20 (lv_at hl 1 rfl) ?_
        refine lv_ifnullN (tgt := 39) hx hb dX10_near_22 rfl ?_
        refine lv_ldc2 hx hb hown (hts _ mw_1077) dX10_near_39 ?_
        obtain ⟨hP9, hD9⟩ := zq_part (cx := [(oc8 x (.ref sh) (.ref lw) (.ref ro) (.ref bq) (.ref bp) (.ref dq) (.ref dp) (.ref lv) (.ref sl) ds sd ul su), (oc7 sh (.ref fa) (nI ft)), (oq fa cF 200 FA)]) hP hD [0, 1, 2] rfl rfl
        rw [hQ9]
        exact W.lret (v := (-1)) hx hb hr (fun t ht hW => ⟨⟨rfl, by rw [ht]; exact hP9, hD9⟩, hS.F ht⟩) hS.2.2 dX10_near_42
      · skip
        refine va_get (D := (dC, dI)) (ci := 8) (v := .ref sh) (C := RX10) (T := TX10) (N := 13) hx hb hts inX10 hown hK hP 0 rfl rfl 0 (Nat.le_of_ble_eq_true rfl) (hts _ mw_309) (fun _ h9 => h9) rfl dX10_near_11 ?_
        have hc9_1 : inPl L f [(oc1 fe3 (rk g0) (wd g0) (tw g0) (pa g0) (pb g0) (.ref lo3) (.ref lk3) fm3), (oc4 lk3 (kd g0) (st g0) (.ref r3) (gb g0) (it g0) we3)] := ⟨hfe3, hlk3, trivial⟩
        have hD0_1 := hD
        obtain ⟨hP, hD⟩ := pl_out hP hD [(oc1 fe3 (rk g0) (wd g0) (tw g0) (pa g0) (pb g0) (.ref lo3) (.ref lk3) fm3), (oc4 lk3 (kd g0) (st g0) (.ref r3) (gb g0) (it g0) we3)] hc9_1 (pwF hfe3.2 hlk3.2)
        generalize hT_1 : outPl L [(oc1 fe3 (rk g0) (wd g0) (tw g0) (pa g0) (pb g0) (.ref lo3) (.ref lk3) fm3), (oc4 lk3 (kd g0) (st g0) (.ref r3) (gb g0) (it g0) we3)] = T_1 at hP hD
        obtain ⟨hP, hD⟩ : zPD (dC, dI) classes A ([(oc8 x (.ref sh) (.ref lw) (.ref ro) (.ref bq) (.ref bp) (.ref dq) (.ref dp) (.ref lv) (.ref sl) ds sd ul su), (oc7 sh (.ref fa) (nI ft)), (oq fa cF 200 FA), (oc1 fe3 (rk g0) (wd g0) (tw g0) (pa g0) (pb g0) (.ref lo3) (.ref lk3) fm3), (oc4 lk3 (kd g0) (st g0) (.ref r3) (gb g0) (it g0) we3)] ++ va_pl T_1 f) H := ⟨hP, hD⟩
        refine lv_iload_n hx hb dX10_near_14 rfl (lv_at hl 3 rfl) ?_
        obtain ⟨hPc, hDc, hFc⟩ := zc_sub (wc := [(oc7 sh (.ref fa) (nI ft)), (oq fa cF 200 FA), (oc1 fe3 (rk g0) (wd g0) (tw g0) (pa g0) (pb g0) (.ref lo3) (.ref lk3) fm3), (oc4 lk3 (kd g0) (st g0) (.ref r3) (gb g0) (it g0) we3)]) hP hD hS hA [1, 2, 3, 4] rfl rfl
        refine zcall (st1 := [.null]) (va_runV (As := [.int (nI g0)]) (rest := []) ⟨hx, hb, hml, hown, hts⟩ (k_Sheet_rowThere_sv l dC dI cI cZ cF H.size sh fa ft FA g0 fe3 lo3 (rk g0) (wd g0) (tw g0) (pa g0) (pb g0) lk3 (kd g0) (st g0) (gb g0) (it g0) we3 fm3 (.ref r3) (h200) (by first | with_reducible assumption | omega) (hFA3) (by first | exact hA3 | omega)) (csV_144 hts rfl rfl ⟨Nat.le_of_ble_eq_true rfl, Nat.le_of_ble_eq_true rfl⟩) (zPV2 (q0 := 0) (ci := 7) hPc hDc hK hXN rfl rfl) rfl rfl hl.1 rfl (lv_room (Nat.le_of_ble_eq_true rfl)) dX10_near_15 ⟨Nat.le_of_ble_eq_true rfl, Nat.le_of_ble_eq_true rfl⟩) hS hFc hFc rfl (fun t H locs ht hB hk1 hS => ?_)
        obtain ⟨hP1, hD1⟩ := hB
        rw [ht] at hP1
        obtain ⟨hP, hD⟩ := zkQ (W2 := [(oc8 x (.ref sh) (.ref lw) (.ref ro) (.ref bq) (.ref bp) (.ref dq) (.ref dp) (.ref lv) (.ref sl) ds sd ul su), (oc7 sh (.ref fa) (nI ft)), (oq fa cF 200 FA), (oc1 fe3 (rk g0) (wd g0) (tw g0) (pa g0) (pb g0) (.ref lo3) (.ref lk3) fm3), (oc4 lk3 (kd g0) (st g0) (.ref r3) (gb g0) (it g0) we3)]) hP hD [1, 2, 3, 4] [0] [0] [1, 2, 3, 4] [0, 1, 2, 3, 4] 5 rfl rfl rfl rfl rfl rfl rfl rfl rfl hk1 hFc hP1 hD1
        clear hk1 hPc hDc hFc hP1 hD1 ht
        have hP := pl_back (cs := [(oc1 fe3 (rk g0) (wd g0) (tw g0) (pa g0) (pb g0) (.ref lo3) (.ref lk3) fm3), (oc4 lk3 (kd g0) (st g0) (.ref r3) (gb g0) (it g0) we3)]) (L := L) (f := f) (X := [(oc8 x (.ref sh) (.ref lw) (.ref ro) (.ref bq) (.ref bp) (.ref dq) (.ref dp) (.ref lv) (.ref sl) ds sd ul su), (oc7 sh (.ref fa) (nI ft)), (oq fa cF 200 FA)]) (by rw [hT_1]; exact (show va_P (dC, dI) classes (([(oc8 x (.ref sh) (.ref lw) (.ref ro) (.ref bq) (.ref bp) (.ref dq) (.ref dp) (.ref lv) (.ref sl) ds sd ul su), (oc7 sh (.ref fa) (nI ft)), (oq fa cF 200 FA)] ++ [(oc1 fe3 (rk g0) (wd g0) (tw g0) (pa g0) (pb g0) (.ref lo3) (.ref lk3) fm3), (oc4 lk3 (kd g0) (st g0) (.ref r3) (gb g0) (it g0) we3)]) ++ va_pl T_1 f) H from hP)) hc9_1
        have hD : va_D A ([(oc8 x (.ref sh) (.ref lw) (.ref ro) (.ref bq) (.ref bp) (.ref dq) (.ref dp) (.ref lv) (.ref sl) ds sd ul su), (oc7 sh (.ref fa) (nI ft)), (oq fa cF 200 FA)] ++ va_pl L f) := vaD_ae hD0_1 rfl
        refine lv_astoreN (lv' := [(5, .null), (4, .null), (0, .ref x), (1, .int v), (2, .int (nI g0)), (3, .int wv)]) hx hb dX10_near_18 hl (Nat.le_of_ble_eq_true rfl) rfl (fun ls hl => ?_)
        refine lv_aloadN hx hb dX10_near_20 (lv_at hl 1 rfl) ?_
        refine lv_ifnullN (tgt := 39) hx hb dX10_near_22 rfl ?_
        refine lv_ldc2 hx hb hown (hts _ mw_1077) dX10_near_39 ?_
        obtain ⟨hP9, hD9⟩ := zq_part (cx := [(oc8 x (.ref sh) (.ref lw) (.ref ro) (.ref bq) (.ref bp) (.ref dq) (.ref dp) (.ref lv) (.ref sl) ds sd ul su), (oc7 sh (.ref fa) (nI ft)), (oq fa cF 200 FA)]) hP hD [0, 1, 2] rfl rfl
        rw [hQ9]
        exact W.lret (v := (-1)) hx hb hr (fun t ht hW => ⟨⟨rfl, by rw [ht]; exact hP9, hD9⟩, hS.F ht⟩) hS.2.2 dX10_near_42
  · skip
    refine lv_aload_n hx hb dX10_near_0 rfl (lv_at hl 0 rfl) ?_
    rcases vwA_3 (P9 := ((st f0).toInt = 1)) (hva f0 (by omega)) with ⟨ht2, fe2, lk2, lo2, we2, fm2, hFA2, hfe2, hlk2⟩ | ⟨ht2, hA2, fe2, lk2, lo2, we2, fm2, r2, rx2, ry2, cap2, U2, V2, rg2, hFA2, hfe2, hlk2, ⟨hr2, hrx2, hry2, hne2⟩, hrr2⟩ | ⟨ht2, hA2, fe2, lk2, lo2, we2, fm2, r2, rx2, ry2, cap2, U2, V2, rg2, hFA2, hfe2, hlk2, ⟨hr2, hrx2, hry2, hne2⟩, hrr2⟩
    · skip
      refine va_get (D := (dC, dI)) (ci := 8) (v := .ref sh) (C := RX10) (T := TX10) (N := 13) hx hb hts inX10 hown hK hP 0 rfl rfl 0 (Nat.le_of_ble_eq_true rfl) (hts _ mw_309) (fun _ h9 => h9) rfl dX10_near_1 ?_
      have hc9_1 : inPl L f [(oc1 fe2 (rk f0) (wd f0) (tw f0) (pa f0) (pb f0) (.ref lo2) (.ref lk2) fm2), (oc4 lk2 (kd f0) (st f0) .null (gb f0) (it f0) we2)] := ⟨hfe2, hlk2, trivial⟩
      have hD0_1 := hD
      obtain ⟨hP, hD⟩ := pl_out hP hD [(oc1 fe2 (rk f0) (wd f0) (tw f0) (pa f0) (pb f0) (.ref lo2) (.ref lk2) fm2), (oc4 lk2 (kd f0) (st f0) .null (gb f0) (it f0) we2)] hc9_1 (pwF hfe2.2 hlk2.2)
      generalize hT_1 : outPl L [(oc1 fe2 (rk f0) (wd f0) (tw f0) (pa f0) (pb f0) (.ref lo2) (.ref lk2) fm2), (oc4 lk2 (kd f0) (st f0) .null (gb f0) (it f0) we2)] = T_1 at hP hD
      obtain ⟨hP, hD⟩ : zPD (dC, dI) classes A ([(oc8 x (.ref sh) (.ref lw) (.ref ro) (.ref bq) (.ref bp) (.ref dq) (.ref dp) (.ref lv) (.ref sl) ds sd ul su), (oc7 sh (.ref fa) (nI ft)), (oq fa cF 200 FA), (oc1 fe2 (rk f0) (wd f0) (tw f0) (pa f0) (pb f0) (.ref lo2) (.ref lk2) fm2), (oc4 lk2 (kd f0) (st f0) .null (gb f0) (it f0) we2)] ++ va_pl T_1 f) s.heap := ⟨hP, hD⟩
      refine lv_iload_n hx hb dX10_near_4 rfl (lv_at hl 1 rfl) ?_
      obtain ⟨hPc, hDc, hFc⟩ := zc_sub (wc := [(oc7 sh (.ref fa) (nI ft)), (oq fa cF 200 FA), (oc1 fe2 (rk f0) (wd f0) (tw f0) (pa f0) (pb f0) (.ref lo2) (.ref lk2) fm2), (oc4 lk2 (kd f0) (st f0) .null (gb f0) (it f0) we2)]) hP hD hS hA [1, 2, 3, 4] rfl rfl
      refine zcall (st1 := [.null]) (va_runV (As := [.int (nI f0)]) (rest := []) ⟨hx, hb, hml, hown, hts⟩ (k_Sheet_rowThere_tv l dC dI cI cZ cF s.heap.size sh fa ft FA f0 fe2 lo2 (rk f0) (wd f0) (tw f0) (pa f0) (pb f0) lk2 (kd f0) (st f0) (gb f0) (it f0) we2 fm2 (h200) (by first | with_reducible assumption | omega) (hFA2)) (csV_144 hts rfl rfl ⟨Nat.le_of_ble_eq_true rfl, Nat.le_of_ble_eq_true rfl⟩) (zPV2 (q0 := 0) (ci := 7) hPc hDc hK hXN rfl rfl) rfl rfl hl.1 rfl (lv_room (Nat.le_of_ble_eq_true rfl)) dX10_near_5 ⟨Nat.le_of_ble_eq_true rfl, Nat.le_of_ble_eq_true rfl⟩) hS hFc hFc rfl (fun t H locs ht hB hk1 hS => ?_)
      obtain ⟨hP1, hD1⟩ := hB
      rw [ht] at hP1
      obtain ⟨hP, hD⟩ := zkQ (W2 := [(oc8 x (.ref sh) (.ref lw) (.ref ro) (.ref bq) (.ref bp) (.ref dq) (.ref dp) (.ref lv) (.ref sl) ds sd ul su), (oc7 sh (.ref fa) (nI ft)), (oq fa cF 200 FA), (oc1 fe2 (rk f0) (wd f0) (tw f0) (pa f0) (pb f0) (.ref lo2) (.ref lk2) fm2), (oc4 lk2 (kd f0) (st f0) .null (gb f0) (it f0) we2)]) hP hD [1, 2, 3, 4] [0] [0] [1, 2, 3, 4] [0, 1, 2, 3, 4] 5 rfl rfl rfl rfl rfl rfl rfl rfl rfl hk1 hFc hP1 hD1
      clear hk1 hPc hDc hFc hP1 hD1 ht
      have hP := pl_back (cs := [(oc1 fe2 (rk f0) (wd f0) (tw f0) (pa f0) (pb f0) (.ref lo2) (.ref lk2) fm2), (oc4 lk2 (kd f0) (st f0) .null (gb f0) (it f0) we2)]) (L := L) (f := f) (X := [(oc8 x (.ref sh) (.ref lw) (.ref ro) (.ref bq) (.ref bp) (.ref dq) (.ref dp) (.ref lv) (.ref sl) ds sd ul su), (oc7 sh (.ref fa) (nI ft)), (oq fa cF 200 FA)]) (by rw [hT_1]; exact (show va_P (dC, dI) classes (([(oc8 x (.ref sh) (.ref lw) (.ref ro) (.ref bq) (.ref bp) (.ref dq) (.ref dp) (.ref lv) (.ref sl) ds sd ul su), (oc7 sh (.ref fa) (nI ft)), (oq fa cF 200 FA)] ++ [(oc1 fe2 (rk f0) (wd f0) (tw f0) (pa f0) (pb f0) (.ref lo2) (.ref lk2) fm2), (oc4 lk2 (kd f0) (st f0) .null (gb f0) (it f0) we2)]) ++ va_pl T_1 f) H from hP)) hc9_1
      have hD : va_D A ([(oc8 x (.ref sh) (.ref lw) (.ref ro) (.ref bq) (.ref bp) (.ref dq) (.ref dp) (.ref lv) (.ref sl) ds sd ul su), (oc7 sh (.ref fa) (nI ft)), (oq fa cF 200 FA)] ++ va_pl L f) := vaD_ae hD0_1 rfl
      refine lv_astoreN (lv' := [(4, .null), (0, .ref x), (1, .int (nI f0)), (2, .int w), (3, .int wv)]) hx hb dX10_near_8 hl (Nat.le_of_ble_eq_true rfl) rfl (fun ls hl => ?_)
      rcases v_c (v := w) (ft := ft) h200 with hb3 | ⟨g0, hq3, rfl⟩
      · skip
        refine lv_aload_n hx hb dX10_near_10 rfl (lv_at hl 1 rfl) ?_
        refine va_get (D := (dC, dI)) (ci := 8) (v := .ref sh) (C := RX10) (T := TX10) (N := 13) hx hb hts inX10 hown hK hP 0 rfl rfl 0 (Nat.le_of_ble_eq_true rfl) (hts _ mw_309) (fun _ h9 => h9) rfl dX10_near_11 ?_
        refine lv_iload_n hx hb dX10_near_14 rfl (lv_at hl 3 rfl) ?_
        obtain ⟨hPc, hDc, hFc⟩ := zc_sub (wc := [(oc7 sh (.ref fa) (nI ft)), (oq fa cF 200 FA)]) hP hD hS hA [1, 2] rfl rfl
        refine zcall (st1 := [.null]) (va_runV (As := [.int w]) (rest := []) ⟨hx, hb, hml, hown, hts⟩ (k_Sheet_rowThere_x l dC dI cI cZ cF H.size sh fa ft FA w (h200) (hb3)) (csV_144 hts rfl rfl ⟨Nat.le_of_ble_eq_true rfl, Nat.le_of_ble_eq_true rfl⟩) (zPV2 (q0 := 0) (ci := 7) hPc hDc hK hXN rfl rfl) rfl rfl hl.1 rfl (lv_room (Nat.le_of_ble_eq_true rfl)) dX10_near_15 ⟨Nat.le_of_ble_eq_true rfl, Nat.le_of_ble_eq_true rfl⟩) hS hFc hFc rfl (fun t H locs ht hB hk1 hS => ?_)
        obtain ⟨hP1, hD1⟩ := hB
        rw [ht] at hP1
        obtain ⟨hP, hD⟩ := zkQ (W2 := [(oc8 x (.ref sh) (.ref lw) (.ref ro) (.ref bq) (.ref bp) (.ref dq) (.ref dp) (.ref lv) (.ref sl) ds sd ul su), (oc7 sh (.ref fa) (nI ft)), (oq fa cF 200 FA)]) hP hD [1, 2] [0] [0] [1, 2] [0, 1, 2] 3 rfl rfl rfl rfl rfl rfl rfl rfl rfl hk1 hFc hP1 hD1
        clear hk1 hPc hDc hFc hP1 hD1 ht
        refine lv_astoreN (lv' := [(5, .null), (4, .null), (0, .ref x), (1, .int (nI f0)), (2, .int w), (3, .int wv)]) hx hb dX10_near_18 hl (Nat.le_of_ble_eq_true rfl) rfl (fun ls hl => ?_)
        refine lv_aloadN hx hb dX10_near_20 (lv_at hl 1 rfl) ?_
        refine lv_ifnullN (tgt := 39) hx hb dX10_near_22 rfl ?_
        refine lv_ldc2 hx hb hown (hts _ mw_1077) dX10_near_39 ?_
        obtain ⟨hP9, hD9⟩ := zq_part (cx := [(oc8 x (.ref sh) (.ref lw) (.ref ro) (.ref bq) (.ref bp) (.ref dq) (.ref dp) (.ref lv) (.ref sl) ds sd ul su), (oc7 sh (.ref fa) (nI ft)), (oq fa cF 200 FA)]) hP hD [0, 1, 2] rfl rfl
        rw [hQ9]
        exact W.lret (v := (-1)) hx hb hr (fun t ht hW => ⟨⟨rfl, by rw [ht]; exact hP9, hD9⟩, hS.F ht⟩) hS.2.2 dX10_near_42
      · skip
        refine lv_aload_n hx hb dX10_near_10 rfl (lv_at hl 1 rfl) ?_
        rcases vwA_3 (P9 := ((st g0).toInt = 1)) (hva g0 (by omega)) with ⟨ht3, fe3, lk3, lo3, we3, fm3, hFA3, hfe3, hlk3⟩ | ⟨ht3, hA3, fe3, lk3, lo3, we3, fm3, r3, rx3, ry3, cap3, U3, V3, rg3, hFA3, hfe3, hlk3, ⟨hr3, hrx3, hry3, hne3⟩, hrr3⟩ | ⟨ht3, hA3, fe3, lk3, lo3, we3, fm3, r3, rx3, ry3, cap3, U3, V3, rg3, hFA3, hfe3, hlk3, ⟨hr3, hrx3, hry3, hne3⟩, hrr3⟩
        · skip
          refine va_get (D := (dC, dI)) (ci := 8) (v := .ref sh) (C := RX10) (T := TX10) (N := 13) hx hb hts inX10 hown hK hP 0 rfl rfl 0 (Nat.le_of_ble_eq_true rfl) (hts _ mw_309) (fun _ h9 => h9) rfl dX10_near_11 ?_
          have hc9_2 : inPl L f [(oc1 fe3 (rk g0) (wd g0) (tw g0) (pa g0) (pb g0) (.ref lo3) (.ref lk3) fm3), (oc4 lk3 (kd g0) (st g0) .null (gb g0) (it g0) we3)] := ⟨hfe3, hlk3, trivial⟩
          have hD0_2 := hD
          obtain ⟨hP, hD⟩ := pl_out hP hD [(oc1 fe3 (rk g0) (wd g0) (tw g0) (pa g0) (pb g0) (.ref lo3) (.ref lk3) fm3), (oc4 lk3 (kd g0) (st g0) .null (gb g0) (it g0) we3)] hc9_2 (pwF hfe3.2 hlk3.2)
          generalize hT_2 : outPl L [(oc1 fe3 (rk g0) (wd g0) (tw g0) (pa g0) (pb g0) (.ref lo3) (.ref lk3) fm3), (oc4 lk3 (kd g0) (st g0) .null (gb g0) (it g0) we3)] = T_2 at hP hD
          obtain ⟨hP, hD⟩ : zPD (dC, dI) classes A ([(oc8 x (.ref sh) (.ref lw) (.ref ro) (.ref bq) (.ref bp) (.ref dq) (.ref dp) (.ref lv) (.ref sl) ds sd ul su), (oc7 sh (.ref fa) (nI ft)), (oq fa cF 200 FA), (oc1 fe3 (rk g0) (wd g0) (tw g0) (pa g0) (pb g0) (.ref lo3) (.ref lk3) fm3), (oc4 lk3 (kd g0) (st g0) .null (gb g0) (it g0) we3)] ++ va_pl T_2 f) H := ⟨hP, hD⟩
          refine lv_iload_n hx hb dX10_near_14 rfl (lv_at hl 3 rfl) ?_
          obtain ⟨hPc, hDc, hFc⟩ := zc_sub (wc := [(oc7 sh (.ref fa) (nI ft)), (oq fa cF 200 FA), (oc1 fe3 (rk g0) (wd g0) (tw g0) (pa g0) (pb g0) (.ref lo3) (.ref lk3) fm3), (oc4 lk3 (kd g0) (st g0) .null (gb g0) (it g0) we3)]) hP hD hS hA [1, 2, 3, 4] rfl rfl
          refine zcall (st1 := [.null]) (va_runV (As := [.int (nI g0)]) (rest := []) ⟨hx, hb, hml, hown, hts⟩ (k_Sheet_rowThere_tv l dC dI cI cZ cF H.size sh fa ft FA g0 fe3 lo3 (rk g0) (wd g0) (tw g0) (pa g0) (pb g0) lk3 (kd g0) (st g0) (gb g0) (it g0) we3 fm3 (h200) (by first | with_reducible assumption | omega) (hFA3)) (csV_144 hts rfl rfl ⟨Nat.le_of_ble_eq_true rfl, Nat.le_of_ble_eq_true rfl⟩) (zPV2 (q0 := 0) (ci := 7) hPc hDc hK hXN rfl rfl) rfl rfl hl.1 rfl (lv_room (Nat.le_of_ble_eq_true rfl)) dX10_near_15 ⟨Nat.le_of_ble_eq_true rfl, Nat.le_of_ble_eq_true rfl⟩) hS hFc hFc rfl (fun t H locs ht hB hk1 hS => ?_)
          obtain ⟨hP1, hD1⟩ := hB
          rw [ht] at hP1
          obtain ⟨hP, hD⟩ := zkQ (W2 := [(oc8 x (.ref sh) (.ref lw) (.ref ro) (.ref bq) (.ref bp) (.ref dq) (.ref dp) (.ref lv) (.ref sl) ds sd ul su), (oc7 sh (.ref fa) (nI ft)), (oq fa cF 200 FA), (oc1 fe3 (rk g0) (wd g0) (tw g0) (pa g0) (pb g0) (.ref lo3) (.ref lk3) fm3), (oc4 lk3 (kd g0) (st g0) .null (gb g0) (it g0) we3)]) hP hD [1, 2, 3, 4] [0] [0] [1, 2, 3, 4] [0, 1, 2, 3, 4] 5 rfl rfl rfl rfl rfl rfl rfl rfl rfl hk1 hFc hP1 hD1
          clear hk1 hPc hDc hFc hP1 hD1 ht
          have hP := pl_back (cs := [(oc1 fe3 (rk g0) (wd g0) (tw g0) (pa g0) (pb g0) (.ref lo3) (.ref lk3) fm3), (oc4 lk3 (kd g0) (st g0) .null (gb g0) (it g0) we3)]) (L := L) (f := f) (X := [(oc8 x (.ref sh) (.ref lw) (.ref ro) (.ref bq) (.ref bp) (.ref dq) (.ref dp) (.ref lv) (.ref sl) ds sd ul su), (oc7 sh (.ref fa) (nI ft)), (oq fa cF 200 FA)]) (by rw [hT_2]; exact (show va_P (dC, dI) classes (([(oc8 x (.ref sh) (.ref lw) (.ref ro) (.ref bq) (.ref bp) (.ref dq) (.ref dp) (.ref lv) (.ref sl) ds sd ul su), (oc7 sh (.ref fa) (nI ft)), (oq fa cF 200 FA)] ++ [(oc1 fe3 (rk g0) (wd g0) (tw g0) (pa g0) (pb g0) (.ref lo3) (.ref lk3) fm3), (oc4 lk3 (kd g0) (st g0) .null (gb g0) (it g0) we3)]) ++ va_pl T_2 f) H from hP)) hc9_2
          have hD : va_D A ([(oc8 x (.ref sh) (.ref lw) (.ref ro) (.ref bq) (.ref bp) (.ref dq) (.ref dp) (.ref lv) (.ref sl) ds sd ul su), (oc7 sh (.ref fa) (nI ft)), (oq fa cF 200 FA)] ++ va_pl L f) := vaD_ae hD0_2 rfl
          refine lv_astoreN (lv' := [(5, .null), (4, .null), (0, .ref x), (1, .int (nI f0)), (2, .int (nI g0)), (3, .int wv)]) hx hb dX10_near_18 hl (Nat.le_of_ble_eq_true rfl) rfl (fun ls hl => ?_)
          refine lv_aloadN hx hb dX10_near_20 (lv_at hl 1 rfl) ?_
          refine lv_ifnullN (tgt := 39) hx hb dX10_near_22 rfl ?_
          refine lv_ldc2 hx hb hown (hts _ mw_1077) dX10_near_39 ?_
          obtain ⟨hP9, hD9⟩ := zq_part (cx := [(oc8 x (.ref sh) (.ref lw) (.ref ro) (.ref bq) (.ref bp) (.ref dq) (.ref dp) (.ref lv) (.ref sl) ds sd ul su), (oc7 sh (.ref fa) (nI ft)), (oq fa cF 200 FA)]) hP hD [0, 1, 2] rfl rfl
          rw [hQ9]
          exact W.lret (v := (-1)) hx hb hr (fun t ht hW => ⟨⟨rfl, by rw [ht]; exact hP9, hD9⟩, hS.F ht⟩) hS.2.2 dX10_near_42
        · skip
          refine va_get (D := (dC, dI)) (ci := 8) (v := .ref sh) (C := RX10) (T := TX10) (N := 13) hx hb hts inX10 hown hK hP 0 rfl rfl 0 (Nat.le_of_ble_eq_true rfl) (hts _ mw_309) (fun _ h9 => h9) rfl dX10_near_11 ?_
          have hc9_2 : inPl L f [(oc1 fe3 (rk g0) (wd g0) (tw g0) (pa g0) (pb g0) (.ref lo3) (.ref lk3) fm3), (oc4 lk3 (kd g0) (st g0) (.ref r3) (gb g0) (it g0) we3)] := ⟨hfe3, hlk3, trivial⟩
          have hD0_2 := hD
          obtain ⟨hP, hD⟩ := pl_out hP hD [(oc1 fe3 (rk g0) (wd g0) (tw g0) (pa g0) (pb g0) (.ref lo3) (.ref lk3) fm3), (oc4 lk3 (kd g0) (st g0) (.ref r3) (gb g0) (it g0) we3)] hc9_2 (pwF hfe3.2 hlk3.2)
          generalize hT_2 : outPl L [(oc1 fe3 (rk g0) (wd g0) (tw g0) (pa g0) (pb g0) (.ref lo3) (.ref lk3) fm3), (oc4 lk3 (kd g0) (st g0) (.ref r3) (gb g0) (it g0) we3)] = T_2 at hP hD
          obtain ⟨hP, hD⟩ : zPD (dC, dI) classes A ([(oc8 x (.ref sh) (.ref lw) (.ref ro) (.ref bq) (.ref bp) (.ref dq) (.ref dp) (.ref lv) (.ref sl) ds sd ul su), (oc7 sh (.ref fa) (nI ft)), (oq fa cF 200 FA), (oc1 fe3 (rk g0) (wd g0) (tw g0) (pa g0) (pb g0) (.ref lo3) (.ref lk3) fm3), (oc4 lk3 (kd g0) (st g0) (.ref r3) (gb g0) (it g0) we3)] ++ va_pl T_2 f) H := ⟨hP, hD⟩
          refine lv_iload_n hx hb dX10_near_14 rfl (lv_at hl 3 rfl) ?_
          obtain ⟨hPc, hDc, hFc⟩ := zc_sub (wc := [(oc7 sh (.ref fa) (nI ft)), (oq fa cF 200 FA), (oc1 fe3 (rk g0) (wd g0) (tw g0) (pa g0) (pb g0) (.ref lo3) (.ref lk3) fm3), (oc4 lk3 (kd g0) (st g0) (.ref r3) (gb g0) (it g0) we3)]) hP hD hS hA [1, 2, 3, 4] rfl rfl
          refine zcall (st1 := [.ref r3]) (va_runV (As := [.int (nI g0)]) (rest := []) ⟨hx, hb, hml, hown, hts⟩ (k_Sheet_rowThere_yv l dC dI cI cZ cF H.size sh fa ft FA g0 fe3 lo3 (rk g0) (wd g0) (tw g0) (pa g0) (pb g0) lk3 (kd g0) (st g0) (gb g0) (it g0) we3 r3 fm3 (h200) (by first | with_reducible assumption | omega) (hFA3) (by first | exact hA3 | omega)) (csV_144 hts rfl rfl ⟨Nat.le_of_ble_eq_true rfl, Nat.le_of_ble_eq_true rfl⟩) (zPV2 (q0 := 0) (ci := 7) hPc hDc hK hXN rfl rfl) rfl rfl hl.1 rfl (lv_room (Nat.le_of_ble_eq_true rfl)) dX10_near_15 ⟨Nat.le_of_ble_eq_true rfl, Nat.le_of_ble_eq_true rfl⟩) hS hFc hFc rfl (fun t H locs ht hB hk1 hS => ?_)
          obtain ⟨hP1, hD1⟩ := hB
          rw [ht] at hP1
          obtain ⟨hP, hD⟩ := zkQ (W2 := [(oc8 x (.ref sh) (.ref lw) (.ref ro) (.ref bq) (.ref bp) (.ref dq) (.ref dp) (.ref lv) (.ref sl) ds sd ul su), (oc7 sh (.ref fa) (nI ft)), (oq fa cF 200 FA), (oc1 fe3 (rk g0) (wd g0) (tw g0) (pa g0) (pb g0) (.ref lo3) (.ref lk3) fm3), (oc4 lk3 (kd g0) (st g0) (.ref r3) (gb g0) (it g0) we3)]) hP hD [1, 2, 3, 4] [0] [0] [1, 2, 3, 4] [0, 1, 2, 3, 4] 5 rfl rfl rfl rfl rfl rfl rfl rfl rfl hk1 hFc hP1 hD1
          clear hk1 hPc hDc hFc hP1 hD1 ht
          have hP := pl_back (cs := [(oc1 fe3 (rk g0) (wd g0) (tw g0) (pa g0) (pb g0) (.ref lo3) (.ref lk3) fm3), (oc4 lk3 (kd g0) (st g0) (.ref r3) (gb g0) (it g0) we3)]) (L := L) (f := f) (X := [(oc8 x (.ref sh) (.ref lw) (.ref ro) (.ref bq) (.ref bp) (.ref dq) (.ref dp) (.ref lv) (.ref sl) ds sd ul su), (oc7 sh (.ref fa) (nI ft)), (oq fa cF 200 FA)]) (by rw [hT_2]; exact (show va_P (dC, dI) classes (([(oc8 x (.ref sh) (.ref lw) (.ref ro) (.ref bq) (.ref bp) (.ref dq) (.ref dp) (.ref lv) (.ref sl) ds sd ul su), (oc7 sh (.ref fa) (nI ft)), (oq fa cF 200 FA)] ++ [(oc1 fe3 (rk g0) (wd g0) (tw g0) (pa g0) (pb g0) (.ref lo3) (.ref lk3) fm3), (oc4 lk3 (kd g0) (st g0) (.ref r3) (gb g0) (it g0) we3)]) ++ va_pl T_2 f) H from hP)) hc9_2
          have hD : va_D A ([(oc8 x (.ref sh) (.ref lw) (.ref ro) (.ref bq) (.ref bp) (.ref dq) (.ref dp) (.ref lv) (.ref sl) ds sd ul su), (oc7 sh (.ref fa) (nI ft)), (oq fa cF 200 FA)] ++ va_pl L f) := vaD_ae hD0_2 rfl
          refine lv_astore (lv' := [(5, .ref r3), (4, .null), (0, .ref x), (1, .int (nI f0)), (2, .int (nI g0)), (3, .int wv)]) hx hb dX10_near_18 hl (Nat.le_of_ble_eq_true rfl) rfl (fun ls hl => ?_)
          refine lv_aloadN hx hb dX10_near_20 (lv_at hl 1 rfl) ?_
          refine lv_ifnullN (tgt := 39) hx hb dX10_near_22 rfl ?_
          refine lv_ldc2 hx hb hown (hts _ mw_1077) dX10_near_39 ?_
          obtain ⟨hP9, hD9⟩ := zq_part (cx := [(oc8 x (.ref sh) (.ref lw) (.ref ro) (.ref bq) (.ref bp) (.ref dq) (.ref dp) (.ref lv) (.ref sl) ds sd ul su), (oc7 sh (.ref fa) (nI ft)), (oq fa cF 200 FA)]) hP hD [0, 1, 2] rfl rfl
          rw [hQ9]
          exact W.lret (v := (-1)) hx hb hr (fun t ht hW => ⟨⟨rfl, by rw [ht]; exact hP9, hD9⟩, hS.F ht⟩) hS.2.2 dX10_near_42
        · skip
          refine va_get (D := (dC, dI)) (ci := 8) (v := .ref sh) (C := RX10) (T := TX10) (N := 13) hx hb hts inX10 hown hK hP 0 rfl rfl 0 (Nat.le_of_ble_eq_true rfl) (hts _ mw_309) (fun _ h9 => h9) rfl dX10_near_11 ?_
          have hc9_2 : inPl L f [(oc1 fe3 (rk g0) (wd g0) (tw g0) (pa g0) (pb g0) (.ref lo3) (.ref lk3) fm3), (oc4 lk3 (kd g0) (st g0) (.ref r3) (gb g0) (it g0) we3)] := ⟨hfe3, hlk3, trivial⟩
          have hD0_2 := hD
          obtain ⟨hP, hD⟩ := pl_out hP hD [(oc1 fe3 (rk g0) (wd g0) (tw g0) (pa g0) (pb g0) (.ref lo3) (.ref lk3) fm3), (oc4 lk3 (kd g0) (st g0) (.ref r3) (gb g0) (it g0) we3)] hc9_2 (pwF hfe3.2 hlk3.2)
          generalize hT_2 : outPl L [(oc1 fe3 (rk g0) (wd g0) (tw g0) (pa g0) (pb g0) (.ref lo3) (.ref lk3) fm3), (oc4 lk3 (kd g0) (st g0) (.ref r3) (gb g0) (it g0) we3)] = T_2 at hP hD
          obtain ⟨hP, hD⟩ : zPD (dC, dI) classes A ([(oc8 x (.ref sh) (.ref lw) (.ref ro) (.ref bq) (.ref bp) (.ref dq) (.ref dp) (.ref lv) (.ref sl) ds sd ul su), (oc7 sh (.ref fa) (nI ft)), (oq fa cF 200 FA), (oc1 fe3 (rk g0) (wd g0) (tw g0) (pa g0) (pb g0) (.ref lo3) (.ref lk3) fm3), (oc4 lk3 (kd g0) (st g0) (.ref r3) (gb g0) (it g0) we3)] ++ va_pl T_2 f) H := ⟨hP, hD⟩
          refine lv_iload_n hx hb dX10_near_14 rfl (lv_at hl 3 rfl) ?_
          obtain ⟨hPc, hDc, hFc⟩ := zc_sub (wc := [(oc7 sh (.ref fa) (nI ft)), (oq fa cF 200 FA), (oc1 fe3 (rk g0) (wd g0) (tw g0) (pa g0) (pb g0) (.ref lo3) (.ref lk3) fm3), (oc4 lk3 (kd g0) (st g0) (.ref r3) (gb g0) (it g0) we3)]) hP hD hS hA [1, 2, 3, 4] rfl rfl
          refine zcall (st1 := [.null]) (va_runV (As := [.int (nI g0)]) (rest := []) ⟨hx, hb, hml, hown, hts⟩ (k_Sheet_rowThere_sv l dC dI cI cZ cF H.size sh fa ft FA g0 fe3 lo3 (rk g0) (wd g0) (tw g0) (pa g0) (pb g0) lk3 (kd g0) (st g0) (gb g0) (it g0) we3 fm3 (.ref r3) (h200) (by first | with_reducible assumption | omega) (hFA3) (by first | exact hA3 | omega)) (csV_144 hts rfl rfl ⟨Nat.le_of_ble_eq_true rfl, Nat.le_of_ble_eq_true rfl⟩) (zPV2 (q0 := 0) (ci := 7) hPc hDc hK hXN rfl rfl) rfl rfl hl.1 rfl (lv_room (Nat.le_of_ble_eq_true rfl)) dX10_near_15 ⟨Nat.le_of_ble_eq_true rfl, Nat.le_of_ble_eq_true rfl⟩) hS hFc hFc rfl (fun t H locs ht hB hk1 hS => ?_)
          obtain ⟨hP1, hD1⟩ := hB
          rw [ht] at hP1
          obtain ⟨hP, hD⟩ := zkQ (W2 := [(oc8 x (.ref sh) (.ref lw) (.ref ro) (.ref bq) (.ref bp) (.ref dq) (.ref dp) (.ref lv) (.ref sl) ds sd ul su), (oc7 sh (.ref fa) (nI ft)), (oq fa cF 200 FA), (oc1 fe3 (rk g0) (wd g0) (tw g0) (pa g0) (pb g0) (.ref lo3) (.ref lk3) fm3), (oc4 lk3 (kd g0) (st g0) (.ref r3) (gb g0) (it g0) we3)]) hP hD [1, 2, 3, 4] [0] [0] [1, 2, 3, 4] [0, 1, 2, 3, 4] 5 rfl rfl rfl rfl rfl rfl rfl rfl rfl hk1 hFc hP1 hD1
          clear hk1 hPc hDc hFc hP1 hD1 ht
          have hP := pl_back (cs := [(oc1 fe3 (rk g0) (wd g0) (tw g0) (pa g0) (pb g0) (.ref lo3) (.ref lk3) fm3), (oc4 lk3 (kd g0) (st g0) (.ref r3) (gb g0) (it g0) we3)]) (L := L) (f := f) (X := [(oc8 x (.ref sh) (.ref lw) (.ref ro) (.ref bq) (.ref bp) (.ref dq) (.ref dp) (.ref lv) (.ref sl) ds sd ul su), (oc7 sh (.ref fa) (nI ft)), (oq fa cF 200 FA)]) (by rw [hT_2]; exact (show va_P (dC, dI) classes (([(oc8 x (.ref sh) (.ref lw) (.ref ro) (.ref bq) (.ref bp) (.ref dq) (.ref dp) (.ref lv) (.ref sl) ds sd ul su), (oc7 sh (.ref fa) (nI ft)), (oq fa cF 200 FA)] ++ [(oc1 fe3 (rk g0) (wd g0) (tw g0) (pa g0) (pb g0) (.ref lo3) (.ref lk3) fm3), (oc4 lk3 (kd g0) (st g0) (.ref r3) (gb g0) (it g0) we3)]) ++ va_pl T_2 f) H from hP)) hc9_2
          have hD : va_D A ([(oc8 x (.ref sh) (.ref lw) (.ref ro) (.ref bq) (.ref bp) (.ref dq) (.ref dp) (.ref lv) (.ref sl) ds sd ul su), (oc7 sh (.ref fa) (nI ft)), (oq fa cF 200 FA)] ++ va_pl L f) := vaD_ae hD0_2 rfl
          refine lv_astoreN (lv' := [(5, .null), (4, .null), (0, .ref x), (1, .int (nI f0)), (2, .int (nI g0)), (3, .int wv)]) hx hb dX10_near_18 hl (Nat.le_of_ble_eq_true rfl) rfl (fun ls hl => ?_)
          refine lv_aloadN hx hb dX10_near_20 (lv_at hl 1 rfl) ?_
          refine lv_ifnullN (tgt := 39) hx hb dX10_near_22 rfl ?_
          refine lv_ldc2 hx hb hown (hts _ mw_1077) dX10_near_39 ?_
          obtain ⟨hP9, hD9⟩ := zq_part (cx := [(oc8 x (.ref sh) (.ref lw) (.ref ro) (.ref bq) (.ref bp) (.ref dq) (.ref dp) (.ref lv) (.ref sl) ds sd ul su), (oc7 sh (.ref fa) (nI ft)), (oq fa cF 200 FA)]) hP hD [0, 1, 2] rfl rfl
          rw [hQ9]
          exact W.lret (v := (-1)) hx hb hr (fun t ht hW => ⟨⟨rfl, by rw [ht]; exact hP9, hD9⟩, hS.F ht⟩) hS.2.2 dX10_near_42
    · skip
      refine va_get (D := (dC, dI)) (ci := 8) (v := .ref sh) (C := RX10) (T := TX10) (N := 13) hx hb hts inX10 hown hK hP 0 rfl rfl 0 (Nat.le_of_ble_eq_true rfl) (hts _ mw_309) (fun _ h9 => h9) rfl dX10_near_1 ?_
      have hc9_1 : inPl L f [(oc1 fe2 (rk f0) (wd f0) (tw f0) (pa f0) (pb f0) (.ref lo2) (.ref lk2) fm2), (oc4 lk2 (kd f0) (st f0) (.ref r2) (gb f0) (it f0) we2)] := ⟨hfe2, hlk2, trivial⟩
      have hD0_1 := hD
      obtain ⟨hP, hD⟩ := pl_out hP hD [(oc1 fe2 (rk f0) (wd f0) (tw f0) (pa f0) (pb f0) (.ref lo2) (.ref lk2) fm2), (oc4 lk2 (kd f0) (st f0) (.ref r2) (gb f0) (it f0) we2)] hc9_1 (pwF hfe2.2 hlk2.2)
      generalize hT_1 : outPl L [(oc1 fe2 (rk f0) (wd f0) (tw f0) (pa f0) (pb f0) (.ref lo2) (.ref lk2) fm2), (oc4 lk2 (kd f0) (st f0) (.ref r2) (gb f0) (it f0) we2)] = T_1 at hP hD
      obtain ⟨hP, hD⟩ : zPD (dC, dI) classes A ([(oc8 x (.ref sh) (.ref lw) (.ref ro) (.ref bq) (.ref bp) (.ref dq) (.ref dp) (.ref lv) (.ref sl) ds sd ul su), (oc7 sh (.ref fa) (nI ft)), (oq fa cF 200 FA), (oc1 fe2 (rk f0) (wd f0) (tw f0) (pa f0) (pb f0) (.ref lo2) (.ref lk2) fm2), (oc4 lk2 (kd f0) (st f0) (.ref r2) (gb f0) (it f0) we2)] ++ va_pl T_1 f) s.heap := ⟨hP, hD⟩
      refine lv_iload_n hx hb dX10_near_4 rfl (lv_at hl 1 rfl) ?_
      obtain ⟨hPc, hDc, hFc⟩ := zc_sub (wc := [(oc7 sh (.ref fa) (nI ft)), (oq fa cF 200 FA), (oc1 fe2 (rk f0) (wd f0) (tw f0) (pa f0) (pb f0) (.ref lo2) (.ref lk2) fm2), (oc4 lk2 (kd f0) (st f0) (.ref r2) (gb f0) (it f0) we2)]) hP hD hS hA [1, 2, 3, 4] rfl rfl
      refine zcall (st1 := [.ref r2]) (va_runV (As := [.int (nI f0)]) (rest := []) ⟨hx, hb, hml, hown, hts⟩ (k_Sheet_rowThere_yv l dC dI cI cZ cF s.heap.size sh fa ft FA f0 fe2 lo2 (rk f0) (wd f0) (tw f0) (pa f0) (pb f0) lk2 (kd f0) (st f0) (gb f0) (it f0) we2 r2 fm2 (h200) (by first | with_reducible assumption | omega) (hFA2) (by first | exact hA2 | omega)) (csV_144 hts rfl rfl ⟨Nat.le_of_ble_eq_true rfl, Nat.le_of_ble_eq_true rfl⟩) (zPV2 (q0 := 0) (ci := 7) hPc hDc hK hXN rfl rfl) rfl rfl hl.1 rfl (lv_room (Nat.le_of_ble_eq_true rfl)) dX10_near_5 ⟨Nat.le_of_ble_eq_true rfl, Nat.le_of_ble_eq_true rfl⟩) hS hFc hFc rfl (fun t H locs ht hB hk1 hS => ?_)
      obtain ⟨hP1, hD1⟩ := hB
      rw [ht] at hP1
      obtain ⟨hP, hD⟩ := zkQ (W2 := [(oc8 x (.ref sh) (.ref lw) (.ref ro) (.ref bq) (.ref bp) (.ref dq) (.ref dp) (.ref lv) (.ref sl) ds sd ul su), (oc7 sh (.ref fa) (nI ft)), (oq fa cF 200 FA), (oc1 fe2 (rk f0) (wd f0) (tw f0) (pa f0) (pb f0) (.ref lo2) (.ref lk2) fm2), (oc4 lk2 (kd f0) (st f0) (.ref r2) (gb f0) (it f0) we2)]) hP hD [1, 2, 3, 4] [0] [0] [1, 2, 3, 4] [0, 1, 2, 3, 4] 5 rfl rfl rfl rfl rfl rfl rfl rfl rfl hk1 hFc hP1 hD1
      clear hk1 hPc hDc hFc hP1 hD1 ht
      have hP := pl_back (cs := [(oc1 fe2 (rk f0) (wd f0) (tw f0) (pa f0) (pb f0) (.ref lo2) (.ref lk2) fm2), (oc4 lk2 (kd f0) (st f0) (.ref r2) (gb f0) (it f0) we2)]) (L := L) (f := f) (X := [(oc8 x (.ref sh) (.ref lw) (.ref ro) (.ref bq) (.ref bp) (.ref dq) (.ref dp) (.ref lv) (.ref sl) ds sd ul su), (oc7 sh (.ref fa) (nI ft)), (oq fa cF 200 FA)]) (by rw [hT_1]; exact (show va_P (dC, dI) classes (([(oc8 x (.ref sh) (.ref lw) (.ref ro) (.ref bq) (.ref bp) (.ref dq) (.ref dp) (.ref lv) (.ref sl) ds sd ul su), (oc7 sh (.ref fa) (nI ft)), (oq fa cF 200 FA)] ++ [(oc1 fe2 (rk f0) (wd f0) (tw f0) (pa f0) (pb f0) (.ref lo2) (.ref lk2) fm2), (oc4 lk2 (kd f0) (st f0) (.ref r2) (gb f0) (it f0) we2)]) ++ va_pl T_1 f) H from hP)) hc9_1
      have hD : va_D A ([(oc8 x (.ref sh) (.ref lw) (.ref ro) (.ref bq) (.ref bp) (.ref dq) (.ref dp) (.ref lv) (.ref sl) ds sd ul su), (oc7 sh (.ref fa) (nI ft)), (oq fa cF 200 FA)] ++ va_pl L f) := vaD_ae hD0_1 rfl
      refine lv_astore (lv' := [(4, .ref r2), (0, .ref x), (1, .int (nI f0)), (2, .int w), (3, .int wv)]) hx hb dX10_near_8 hl (Nat.le_of_ble_eq_true rfl) rfl (fun ls hl => ?_)
      rcases v_c (v := w) (ft := ft) h200 with hb3 | ⟨g0, hq3, rfl⟩
      · skip
        refine lv_aload_n hx hb dX10_near_10 rfl (lv_at hl 1 rfl) ?_
        refine va_get (D := (dC, dI)) (ci := 8) (v := .ref sh) (C := RX10) (T := TX10) (N := 13) hx hb hts inX10 hown hK hP 0 rfl rfl 0 (Nat.le_of_ble_eq_true rfl) (hts _ mw_309) (fun _ h9 => h9) rfl dX10_near_11 ?_
        refine lv_iload_n hx hb dX10_near_14 rfl (lv_at hl 3 rfl) ?_
        obtain ⟨hPc, hDc, hFc⟩ := zc_sub (wc := [(oc7 sh (.ref fa) (nI ft)), (oq fa cF 200 FA)]) hP hD hS hA [1, 2] rfl rfl
        refine zcall (st1 := [.null]) (va_runV (As := [.int w]) (rest := []) ⟨hx, hb, hml, hown, hts⟩ (k_Sheet_rowThere_x l dC dI cI cZ cF H.size sh fa ft FA w (h200) (hb3)) (csV_144 hts rfl rfl ⟨Nat.le_of_ble_eq_true rfl, Nat.le_of_ble_eq_true rfl⟩) (zPV2 (q0 := 0) (ci := 7) hPc hDc hK hXN rfl rfl) rfl rfl hl.1 rfl (lv_room (Nat.le_of_ble_eq_true rfl)) dX10_near_15 ⟨Nat.le_of_ble_eq_true rfl, Nat.le_of_ble_eq_true rfl⟩) hS hFc hFc rfl (fun t H locs ht hB hk1 hS => ?_)
        obtain ⟨hP1, hD1⟩ := hB
        rw [ht] at hP1
        obtain ⟨hP, hD⟩ := zkQ (W2 := [(oc8 x (.ref sh) (.ref lw) (.ref ro) (.ref bq) (.ref bp) (.ref dq) (.ref dp) (.ref lv) (.ref sl) ds sd ul su), (oc7 sh (.ref fa) (nI ft)), (oq fa cF 200 FA)]) hP hD [1, 2] [0] [0] [1, 2] [0, 1, 2] 3 rfl rfl rfl rfl rfl rfl rfl rfl rfl hk1 hFc hP1 hD1
        clear hk1 hPc hDc hFc hP1 hD1 ht
        refine lv_astoreN (lv' := [(5, .null), (4, .ref r2), (0, .ref x), (1, .int (nI f0)), (2, .int w), (3, .int wv)]) hx hb dX10_near_18 hl (Nat.le_of_ble_eq_true rfl) rfl (fun ls hl => ?_)
        refine lv_aload hx hb dX10_near_20 (lv_at hl 1 rfl) ?_
        refine lv_ifnull hx hb dX10_near_22 ?_
        refine lv_aloadN hx hb dX10_near_25 (lv_at hl 0 rfl) ?_
        refine lv_ifnullN (tgt := 39) hx hb dX10_near_27 rfl ?_
        refine lv_ldc2 hx hb hown (hts _ mw_1077) dX10_near_39 ?_
        obtain ⟨hP9, hD9⟩ := zq_part (cx := [(oc8 x (.ref sh) (.ref lw) (.ref ro) (.ref bq) (.ref bp) (.ref dq) (.ref dp) (.ref lv) (.ref sl) ds sd ul su), (oc7 sh (.ref fa) (nI ft)), (oq fa cF 200 FA)]) hP hD [0, 1, 2] rfl rfl
        rw [hQ9]
        exact W.lret (v := (-1)) hx hb hr (fun t ht hW => ⟨⟨rfl, by rw [ht]; exact hP9, hD9⟩, hS.F ht⟩) hS.2.2 dX10_near_42
      · skip
        refine lv_aload_n hx hb dX10_near_10 rfl (lv_at hl 1 rfl) ?_
        rcases vwA_3 (P9 := ((st g0).toInt = 1)) (hva g0 (by omega)) with ⟨ht3, fe3, lk3, lo3, we3, fm3, hFA3, hfe3, hlk3⟩ | ⟨ht3, hA3, fe3, lk3, lo3, we3, fm3, r3, rx3, ry3, cap3, U3, V3, rg3, hFA3, hfe3, hlk3, ⟨hr3, hrx3, hry3, hne3⟩, hrr3⟩ | ⟨ht3, hA3, fe3, lk3, lo3, we3, fm3, r3, rx3, ry3, cap3, U3, V3, rg3, hFA3, hfe3, hlk3, ⟨hr3, hrx3, hry3, hne3⟩, hrr3⟩
        · skip
          refine va_get (D := (dC, dI)) (ci := 8) (v := .ref sh) (C := RX10) (T := TX10) (N := 13) hx hb hts inX10 hown hK hP 0 rfl rfl 0 (Nat.le_of_ble_eq_true rfl) (hts _ mw_309) (fun _ h9 => h9) rfl dX10_near_11 ?_
          have hc9_2 : inPl L f [(oc1 fe3 (rk g0) (wd g0) (tw g0) (pa g0) (pb g0) (.ref lo3) (.ref lk3) fm3), (oc4 lk3 (kd g0) (st g0) .null (gb g0) (it g0) we3)] := ⟨hfe3, hlk3, trivial⟩
          have hD0_2 := hD
          obtain ⟨hP, hD⟩ := pl_out hP hD [(oc1 fe3 (rk g0) (wd g0) (tw g0) (pa g0) (pb g0) (.ref lo3) (.ref lk3) fm3), (oc4 lk3 (kd g0) (st g0) .null (gb g0) (it g0) we3)] hc9_2 (pwF hfe3.2 hlk3.2)
          generalize hT_2 : outPl L [(oc1 fe3 (rk g0) (wd g0) (tw g0) (pa g0) (pb g0) (.ref lo3) (.ref lk3) fm3), (oc4 lk3 (kd g0) (st g0) .null (gb g0) (it g0) we3)] = T_2 at hP hD
          obtain ⟨hP, hD⟩ : zPD (dC, dI) classes A ([(oc8 x (.ref sh) (.ref lw) (.ref ro) (.ref bq) (.ref bp) (.ref dq) (.ref dp) (.ref lv) (.ref sl) ds sd ul su), (oc7 sh (.ref fa) (nI ft)), (oq fa cF 200 FA), (oc1 fe3 (rk g0) (wd g0) (tw g0) (pa g0) (pb g0) (.ref lo3) (.ref lk3) fm3), (oc4 lk3 (kd g0) (st g0) .null (gb g0) (it g0) we3)] ++ va_pl T_2 f) H := ⟨hP, hD⟩
          refine lv_iload_n hx hb dX10_near_14 rfl (lv_at hl 3 rfl) ?_
          obtain ⟨hPc, hDc, hFc⟩ := zc_sub (wc := [(oc7 sh (.ref fa) (nI ft)), (oq fa cF 200 FA), (oc1 fe3 (rk g0) (wd g0) (tw g0) (pa g0) (pb g0) (.ref lo3) (.ref lk3) fm3), (oc4 lk3 (kd g0) (st g0) .null (gb g0) (it g0) we3)]) hP hD hS hA [1, 2, 3, 4] rfl rfl
          refine zcall (st1 := [.null]) (va_runV (As := [.int (nI g0)]) (rest := []) ⟨hx, hb, hml, hown, hts⟩ (k_Sheet_rowThere_tv l dC dI cI cZ cF H.size sh fa ft FA g0 fe3 lo3 (rk g0) (wd g0) (tw g0) (pa g0) (pb g0) lk3 (kd g0) (st g0) (gb g0) (it g0) we3 fm3 (h200) (by first | with_reducible assumption | omega) (hFA3)) (csV_144 hts rfl rfl ⟨Nat.le_of_ble_eq_true rfl, Nat.le_of_ble_eq_true rfl⟩) (zPV2 (q0 := 0) (ci := 7) hPc hDc hK hXN rfl rfl) rfl rfl hl.1 rfl (lv_room (Nat.le_of_ble_eq_true rfl)) dX10_near_15 ⟨Nat.le_of_ble_eq_true rfl, Nat.le_of_ble_eq_true rfl⟩) hS hFc hFc rfl (fun t H locs ht hB hk1 hS => ?_)
          obtain ⟨hP1, hD1⟩ := hB
          rw [ht] at hP1
          obtain ⟨hP, hD⟩ := zkQ (W2 := [(oc8 x (.ref sh) (.ref lw) (.ref ro) (.ref bq) (.ref bp) (.ref dq) (.ref dp) (.ref lv) (.ref sl) ds sd ul su), (oc7 sh (.ref fa) (nI ft)), (oq fa cF 200 FA), (oc1 fe3 (rk g0) (wd g0) (tw g0) (pa g0) (pb g0) (.ref lo3) (.ref lk3) fm3), (oc4 lk3 (kd g0) (st g0) .null (gb g0) (it g0) we3)]) hP hD [1, 2, 3, 4] [0] [0] [1, 2, 3, 4] [0, 1, 2, 3, 4] 5 rfl rfl rfl rfl rfl rfl rfl rfl rfl hk1 hFc hP1 hD1
          clear hk1 hPc hDc hFc hP1 hD1 ht
          have hP := pl_back (cs := [(oc1 fe3 (rk g0) (wd g0) (tw g0) (pa g0) (pb g0) (.ref lo3) (.ref lk3) fm3), (oc4 lk3 (kd g0) (st g0) .null (gb g0) (it g0) we3)]) (L := L) (f := f) (X := [(oc8 x (.ref sh) (.ref lw) (.ref ro) (.ref bq) (.ref bp) (.ref dq) (.ref dp) (.ref lv) (.ref sl) ds sd ul su), (oc7 sh (.ref fa) (nI ft)), (oq fa cF 200 FA)]) (by rw [hT_2]; exact (show va_P (dC, dI) classes (([(oc8 x (.ref sh) (.ref lw) (.ref ro) (.ref bq) (.ref bp) (.ref dq) (.ref dp) (.ref lv) (.ref sl) ds sd ul su), (oc7 sh (.ref fa) (nI ft)), (oq fa cF 200 FA)] ++ [(oc1 fe3 (rk g0) (wd g0) (tw g0) (pa g0) (pb g0) (.ref lo3) (.ref lk3) fm3), (oc4 lk3 (kd g0) (st g0) .null (gb g0) (it g0) we3)]) ++ va_pl T_2 f) H from hP)) hc9_2
          have hD : va_D A ([(oc8 x (.ref sh) (.ref lw) (.ref ro) (.ref bq) (.ref bp) (.ref dq) (.ref dp) (.ref lv) (.ref sl) ds sd ul su), (oc7 sh (.ref fa) (nI ft)), (oq fa cF 200 FA)] ++ va_pl L f) := vaD_ae hD0_2 rfl
          refine lv_astoreN (lv' := [(5, .null), (4, .ref r2), (0, .ref x), (1, .int (nI f0)), (2, .int (nI g0)), (3, .int wv)]) hx hb dX10_near_18 hl (Nat.le_of_ble_eq_true rfl) rfl (fun ls hl => ?_)
          refine lv_aload hx hb dX10_near_20 (lv_at hl 1 rfl) ?_
          refine lv_ifnull hx hb dX10_near_22 ?_
          refine lv_aloadN hx hb dX10_near_25 (lv_at hl 0 rfl) ?_
          refine lv_ifnullN (tgt := 39) hx hb dX10_near_27 rfl ?_
          refine lv_ldc2 hx hb hown (hts _ mw_1077) dX10_near_39 ?_
          obtain ⟨hP9, hD9⟩ := zq_part (cx := [(oc8 x (.ref sh) (.ref lw) (.ref ro) (.ref bq) (.ref bp) (.ref dq) (.ref dp) (.ref lv) (.ref sl) ds sd ul su), (oc7 sh (.ref fa) (nI ft)), (oq fa cF 200 FA)]) hP hD [0, 1, 2] rfl rfl
          rw [hQ9]
          exact W.lret (v := (-1)) hx hb hr (fun t ht hW => ⟨⟨rfl, by rw [ht]; exact hP9, hD9⟩, hS.F ht⟩) hS.2.2 dX10_near_42
        · skip
          refine va_get (D := (dC, dI)) (ci := 8) (v := .ref sh) (C := RX10) (T := TX10) (N := 13) hx hb hts inX10 hown hK hP 0 rfl rfl 0 (Nat.le_of_ble_eq_true rfl) (hts _ mw_309) (fun _ h9 => h9) rfl dX10_near_11 ?_
          have hc9_2 : inPl L f [(oc1 fe3 (rk g0) (wd g0) (tw g0) (pa g0) (pb g0) (.ref lo3) (.ref lk3) fm3), (oc4 lk3 (kd g0) (st g0) (.ref r3) (gb g0) (it g0) we3)] := ⟨hfe3, hlk3, trivial⟩
          have hD0_2 := hD
          obtain ⟨hP, hD⟩ := pl_out hP hD [(oc1 fe3 (rk g0) (wd g0) (tw g0) (pa g0) (pb g0) (.ref lo3) (.ref lk3) fm3), (oc4 lk3 (kd g0) (st g0) (.ref r3) (gb g0) (it g0) we3)] hc9_2 (pwF hfe3.2 hlk3.2)
          generalize hT_2 : outPl L [(oc1 fe3 (rk g0) (wd g0) (tw g0) (pa g0) (pb g0) (.ref lo3) (.ref lk3) fm3), (oc4 lk3 (kd g0) (st g0) (.ref r3) (gb g0) (it g0) we3)] = T_2 at hP hD
          obtain ⟨hP, hD⟩ : zPD (dC, dI) classes A ([(oc8 x (.ref sh) (.ref lw) (.ref ro) (.ref bq) (.ref bp) (.ref dq) (.ref dp) (.ref lv) (.ref sl) ds sd ul su), (oc7 sh (.ref fa) (nI ft)), (oq fa cF 200 FA), (oc1 fe3 (rk g0) (wd g0) (tw g0) (pa g0) (pb g0) (.ref lo3) (.ref lk3) fm3), (oc4 lk3 (kd g0) (st g0) (.ref r3) (gb g0) (it g0) we3)] ++ va_pl T_2 f) H := ⟨hP, hD⟩
          refine lv_iload_n hx hb dX10_near_14 rfl (lv_at hl 3 rfl) ?_
          obtain ⟨hPc, hDc, hFc⟩ := zc_sub (wc := [(oc7 sh (.ref fa) (nI ft)), (oq fa cF 200 FA), (oc1 fe3 (rk g0) (wd g0) (tw g0) (pa g0) (pb g0) (.ref lo3) (.ref lk3) fm3), (oc4 lk3 (kd g0) (st g0) (.ref r3) (gb g0) (it g0) we3)]) hP hD hS hA [1, 2, 3, 4] rfl rfl
          refine zcall (st1 := [.ref r3]) (va_runV (As := [.int (nI g0)]) (rest := []) ⟨hx, hb, hml, hown, hts⟩ (k_Sheet_rowThere_yv l dC dI cI cZ cF H.size sh fa ft FA g0 fe3 lo3 (rk g0) (wd g0) (tw g0) (pa g0) (pb g0) lk3 (kd g0) (st g0) (gb g0) (it g0) we3 r3 fm3 (h200) (by first | with_reducible assumption | omega) (hFA3) (by first | exact hA3 | omega)) (csV_144 hts rfl rfl ⟨Nat.le_of_ble_eq_true rfl, Nat.le_of_ble_eq_true rfl⟩) (zPV2 (q0 := 0) (ci := 7) hPc hDc hK hXN rfl rfl) rfl rfl hl.1 rfl (lv_room (Nat.le_of_ble_eq_true rfl)) dX10_near_15 ⟨Nat.le_of_ble_eq_true rfl, Nat.le_of_ble_eq_true rfl⟩) hS hFc hFc rfl (fun t H locs ht hB hk1 hS => ?_)
          obtain ⟨hP1, hD1⟩ := hB
          rw [ht] at hP1
          obtain ⟨hP, hD⟩ := zkQ (W2 := [(oc8 x (.ref sh) (.ref lw) (.ref ro) (.ref bq) (.ref bp) (.ref dq) (.ref dp) (.ref lv) (.ref sl) ds sd ul su), (oc7 sh (.ref fa) (nI ft)), (oq fa cF 200 FA), (oc1 fe3 (rk g0) (wd g0) (tw g0) (pa g0) (pb g0) (.ref lo3) (.ref lk3) fm3), (oc4 lk3 (kd g0) (st g0) (.ref r3) (gb g0) (it g0) we3)]) hP hD [1, 2, 3, 4] [0] [0] [1, 2, 3, 4] [0, 1, 2, 3, 4] 5 rfl rfl rfl rfl rfl rfl rfl rfl rfl hk1 hFc hP1 hD1
          clear hk1 hPc hDc hFc hP1 hD1 ht
          have hP := pl_back (cs := [(oc1 fe3 (rk g0) (wd g0) (tw g0) (pa g0) (pb g0) (.ref lo3) (.ref lk3) fm3), (oc4 lk3 (kd g0) (st g0) (.ref r3) (gb g0) (it g0) we3)]) (L := L) (f := f) (X := [(oc8 x (.ref sh) (.ref lw) (.ref ro) (.ref bq) (.ref bp) (.ref dq) (.ref dp) (.ref lv) (.ref sl) ds sd ul su), (oc7 sh (.ref fa) (nI ft)), (oq fa cF 200 FA)]) (by rw [hT_2]; exact (show va_P (dC, dI) classes (([(oc8 x (.ref sh) (.ref lw) (.ref ro) (.ref bq) (.ref bp) (.ref dq) (.ref dp) (.ref lv) (.ref sl) ds sd ul su), (oc7 sh (.ref fa) (nI ft)), (oq fa cF 200 FA)] ++ [(oc1 fe3 (rk g0) (wd g0) (tw g0) (pa g0) (pb g0) (.ref lo3) (.ref lk3) fm3), (oc4 lk3 (kd g0) (st g0) (.ref r3) (gb g0) (it g0) we3)]) ++ va_pl T_2 f) H from hP)) hc9_2
          have hD : va_D A ([(oc8 x (.ref sh) (.ref lw) (.ref ro) (.ref bq) (.ref bp) (.ref dq) (.ref dp) (.ref lv) (.ref sl) ds sd ul su), (oc7 sh (.ref fa) (nI ft)), (oq fa cF 200 FA)] ++ va_pl L f) := vaD_ae hD0_2 rfl
          refine lv_astore (lv' := [(5, .ref r3), (4, .ref r2), (0, .ref x), (1, .int (nI f0)), (2, .int (nI g0)), (3, .int wv)]) hx hb dX10_near_18 hl (Nat.le_of_ble_eq_true rfl) rfl (fun ls hl => ?_)
          refine lv_aload hx hb dX10_near_20 (lv_at hl 1 rfl) ?_
          refine lv_ifnull hx hb dX10_near_22 ?_
          refine lv_aload hx hb dX10_near_25 (lv_at hl 0 rfl) ?_
          refine lv_ifnull hx hb dX10_near_27 ?_
          exact absurd ⟨⟨f0, rfl, hq2, hA2, ht2⟩, g0, rfl, hq3, hA3, ht3⟩ hbad
        · skip
          refine va_get (D := (dC, dI)) (ci := 8) (v := .ref sh) (C := RX10) (T := TX10) (N := 13) hx hb hts inX10 hown hK hP 0 rfl rfl 0 (Nat.le_of_ble_eq_true rfl) (hts _ mw_309) (fun _ h9 => h9) rfl dX10_near_11 ?_
          have hc9_2 : inPl L f [(oc1 fe3 (rk g0) (wd g0) (tw g0) (pa g0) (pb g0) (.ref lo3) (.ref lk3) fm3), (oc4 lk3 (kd g0) (st g0) (.ref r3) (gb g0) (it g0) we3)] := ⟨hfe3, hlk3, trivial⟩
          have hD0_2 := hD
          obtain ⟨hP, hD⟩ := pl_out hP hD [(oc1 fe3 (rk g0) (wd g0) (tw g0) (pa g0) (pb g0) (.ref lo3) (.ref lk3) fm3), (oc4 lk3 (kd g0) (st g0) (.ref r3) (gb g0) (it g0) we3)] hc9_2 (pwF hfe3.2 hlk3.2)
          generalize hT_2 : outPl L [(oc1 fe3 (rk g0) (wd g0) (tw g0) (pa g0) (pb g0) (.ref lo3) (.ref lk3) fm3), (oc4 lk3 (kd g0) (st g0) (.ref r3) (gb g0) (it g0) we3)] = T_2 at hP hD
          obtain ⟨hP, hD⟩ : zPD (dC, dI) classes A ([(oc8 x (.ref sh) (.ref lw) (.ref ro) (.ref bq) (.ref bp) (.ref dq) (.ref dp) (.ref lv) (.ref sl) ds sd ul su), (oc7 sh (.ref fa) (nI ft)), (oq fa cF 200 FA), (oc1 fe3 (rk g0) (wd g0) (tw g0) (pa g0) (pb g0) (.ref lo3) (.ref lk3) fm3), (oc4 lk3 (kd g0) (st g0) (.ref r3) (gb g0) (it g0) we3)] ++ va_pl T_2 f) H := ⟨hP, hD⟩
          refine lv_iload_n hx hb dX10_near_14 rfl (lv_at hl 3 rfl) ?_
          obtain ⟨hPc, hDc, hFc⟩ := zc_sub (wc := [(oc7 sh (.ref fa) (nI ft)), (oq fa cF 200 FA), (oc1 fe3 (rk g0) (wd g0) (tw g0) (pa g0) (pb g0) (.ref lo3) (.ref lk3) fm3), (oc4 lk3 (kd g0) (st g0) (.ref r3) (gb g0) (it g0) we3)]) hP hD hS hA [1, 2, 3, 4] rfl rfl
          refine zcall (st1 := [.null]) (va_runV (As := [.int (nI g0)]) (rest := []) ⟨hx, hb, hml, hown, hts⟩ (k_Sheet_rowThere_sv l dC dI cI cZ cF H.size sh fa ft FA g0 fe3 lo3 (rk g0) (wd g0) (tw g0) (pa g0) (pb g0) lk3 (kd g0) (st g0) (gb g0) (it g0) we3 fm3 (.ref r3) (h200) (by first | with_reducible assumption | omega) (hFA3) (by first | exact hA3 | omega)) (csV_144 hts rfl rfl ⟨Nat.le_of_ble_eq_true rfl, Nat.le_of_ble_eq_true rfl⟩) (zPV2 (q0 := 0) (ci := 7) hPc hDc hK hXN rfl rfl) rfl rfl hl.1 rfl (lv_room (Nat.le_of_ble_eq_true rfl)) dX10_near_15 ⟨Nat.le_of_ble_eq_true rfl, Nat.le_of_ble_eq_true rfl⟩) hS hFc hFc rfl (fun t H locs ht hB hk1 hS => ?_)
          obtain ⟨hP1, hD1⟩ := hB
          rw [ht] at hP1
          obtain ⟨hP, hD⟩ := zkQ (W2 := [(oc8 x (.ref sh) (.ref lw) (.ref ro) (.ref bq) (.ref bp) (.ref dq) (.ref dp) (.ref lv) (.ref sl) ds sd ul su), (oc7 sh (.ref fa) (nI ft)), (oq fa cF 200 FA), (oc1 fe3 (rk g0) (wd g0) (tw g0) (pa g0) (pb g0) (.ref lo3) (.ref lk3) fm3), (oc4 lk3 (kd g0) (st g0) (.ref r3) (gb g0) (it g0) we3)]) hP hD [1, 2, 3, 4] [0] [0] [1, 2, 3, 4] [0, 1, 2, 3, 4] 5 rfl rfl rfl rfl rfl rfl rfl rfl rfl hk1 hFc hP1 hD1
          clear hk1 hPc hDc hFc hP1 hD1 ht
          have hP := pl_back (cs := [(oc1 fe3 (rk g0) (wd g0) (tw g0) (pa g0) (pb g0) (.ref lo3) (.ref lk3) fm3), (oc4 lk3 (kd g0) (st g0) (.ref r3) (gb g0) (it g0) we3)]) (L := L) (f := f) (X := [(oc8 x (.ref sh) (.ref lw) (.ref ro) (.ref bq) (.ref bp) (.ref dq) (.ref dp) (.ref lv) (.ref sl) ds sd ul su), (oc7 sh (.ref fa) (nI ft)), (oq fa cF 200 FA)]) (by rw [hT_2]; exact (show va_P (dC, dI) classes (([(oc8 x (.ref sh) (.ref lw) (.ref ro) (.ref bq) (.ref bp) (.ref dq) (.ref dp) (.ref lv) (.ref sl) ds sd ul su), (oc7 sh (.ref fa) (nI ft)), (oq fa cF 200 FA)] ++ [(oc1 fe3 (rk g0) (wd g0) (tw g0) (pa g0) (pb g0) (.ref lo3) (.ref lk3) fm3), (oc4 lk3 (kd g0) (st g0) (.ref r3) (gb g0) (it g0) we3)]) ++ va_pl T_2 f) H from hP)) hc9_2
          have hD : va_D A ([(oc8 x (.ref sh) (.ref lw) (.ref ro) (.ref bq) (.ref bp) (.ref dq) (.ref dp) (.ref lv) (.ref sl) ds sd ul su), (oc7 sh (.ref fa) (nI ft)), (oq fa cF 200 FA)] ++ va_pl L f) := vaD_ae hD0_2 rfl
          refine lv_astoreN (lv' := [(5, .null), (4, .ref r2), (0, .ref x), (1, .int (nI f0)), (2, .int (nI g0)), (3, .int wv)]) hx hb dX10_near_18 hl (Nat.le_of_ble_eq_true rfl) rfl (fun ls hl => ?_)
          refine lv_aload hx hb dX10_near_20 (lv_at hl 1 rfl) ?_
          refine lv_ifnull hx hb dX10_near_22 ?_
          refine lv_aloadN hx hb dX10_near_25 (lv_at hl 0 rfl) ?_
          refine lv_ifnullN (tgt := 39) hx hb dX10_near_27 rfl ?_
          refine lv_ldc2 hx hb hown (hts _ mw_1077) dX10_near_39 ?_
          obtain ⟨hP9, hD9⟩ := zq_part (cx := [(oc8 x (.ref sh) (.ref lw) (.ref ro) (.ref bq) (.ref bp) (.ref dq) (.ref dp) (.ref lv) (.ref sl) ds sd ul su), (oc7 sh (.ref fa) (nI ft)), (oq fa cF 200 FA)]) hP hD [0, 1, 2] rfl rfl
          rw [hQ9]
          exact W.lret (v := (-1)) hx hb hr (fun t ht hW => ⟨⟨rfl, by rw [ht]; exact hP9, hD9⟩, hS.F ht⟩) hS.2.2 dX10_near_42
    · skip
      refine va_get (D := (dC, dI)) (ci := 8) (v := .ref sh) (C := RX10) (T := TX10) (N := 13) hx hb hts inX10 hown hK hP 0 rfl rfl 0 (Nat.le_of_ble_eq_true rfl) (hts _ mw_309) (fun _ h9 => h9) rfl dX10_near_1 ?_
      have hc9_1 : inPl L f [(oc1 fe2 (rk f0) (wd f0) (tw f0) (pa f0) (pb f0) (.ref lo2) (.ref lk2) fm2), (oc4 lk2 (kd f0) (st f0) (.ref r2) (gb f0) (it f0) we2)] := ⟨hfe2, hlk2, trivial⟩
      have hD0_1 := hD
      obtain ⟨hP, hD⟩ := pl_out hP hD [(oc1 fe2 (rk f0) (wd f0) (tw f0) (pa f0) (pb f0) (.ref lo2) (.ref lk2) fm2), (oc4 lk2 (kd f0) (st f0) (.ref r2) (gb f0) (it f0) we2)] hc9_1 (pwF hfe2.2 hlk2.2)
      generalize hT_1 : outPl L [(oc1 fe2 (rk f0) (wd f0) (tw f0) (pa f0) (pb f0) (.ref lo2) (.ref lk2) fm2), (oc4 lk2 (kd f0) (st f0) (.ref r2) (gb f0) (it f0) we2)] = T_1 at hP hD
      obtain ⟨hP, hD⟩ : zPD (dC, dI) classes A ([(oc8 x (.ref sh) (.ref lw) (.ref ro) (.ref bq) (.ref bp) (.ref dq) (.ref dp) (.ref lv) (.ref sl) ds sd ul su), (oc7 sh (.ref fa) (nI ft)), (oq fa cF 200 FA), (oc1 fe2 (rk f0) (wd f0) (tw f0) (pa f0) (pb f0) (.ref lo2) (.ref lk2) fm2), (oc4 lk2 (kd f0) (st f0) (.ref r2) (gb f0) (it f0) we2)] ++ va_pl T_1 f) s.heap := ⟨hP, hD⟩
      refine lv_iload_n hx hb dX10_near_4 rfl (lv_at hl 1 rfl) ?_
      obtain ⟨hPc, hDc, hFc⟩ := zc_sub (wc := [(oc7 sh (.ref fa) (nI ft)), (oq fa cF 200 FA), (oc1 fe2 (rk f0) (wd f0) (tw f0) (pa f0) (pb f0) (.ref lo2) (.ref lk2) fm2), (oc4 lk2 (kd f0) (st f0) (.ref r2) (gb f0) (it f0) we2)]) hP hD hS hA [1, 2, 3, 4] rfl rfl
      refine zcall (st1 := [.null]) (va_runV (As := [.int (nI f0)]) (rest := []) ⟨hx, hb, hml, hown, hts⟩ (k_Sheet_rowThere_sv l dC dI cI cZ cF s.heap.size sh fa ft FA f0 fe2 lo2 (rk f0) (wd f0) (tw f0) (pa f0) (pb f0) lk2 (kd f0) (st f0) (gb f0) (it f0) we2 fm2 (.ref r2) (h200) (by first | with_reducible assumption | omega) (hFA2) (by first | exact hA2 | omega)) (csV_144 hts rfl rfl ⟨Nat.le_of_ble_eq_true rfl, Nat.le_of_ble_eq_true rfl⟩) (zPV2 (q0 := 0) (ci := 7) hPc hDc hK hXN rfl rfl) rfl rfl hl.1 rfl (lv_room (Nat.le_of_ble_eq_true rfl)) dX10_near_5 ⟨Nat.le_of_ble_eq_true rfl, Nat.le_of_ble_eq_true rfl⟩) hS hFc hFc rfl (fun t H locs ht hB hk1 hS => ?_)
      obtain ⟨hP1, hD1⟩ := hB
      rw [ht] at hP1
      obtain ⟨hP, hD⟩ := zkQ (W2 := [(oc8 x (.ref sh) (.ref lw) (.ref ro) (.ref bq) (.ref bp) (.ref dq) (.ref dp) (.ref lv) (.ref sl) ds sd ul su), (oc7 sh (.ref fa) (nI ft)), (oq fa cF 200 FA), (oc1 fe2 (rk f0) (wd f0) (tw f0) (pa f0) (pb f0) (.ref lo2) (.ref lk2) fm2), (oc4 lk2 (kd f0) (st f0) (.ref r2) (gb f0) (it f0) we2)]) hP hD [1, 2, 3, 4] [0] [0] [1, 2, 3, 4] [0, 1, 2, 3, 4] 5 rfl rfl rfl rfl rfl rfl rfl rfl rfl hk1 hFc hP1 hD1
      clear hk1 hPc hDc hFc hP1 hD1 ht
      have hP := pl_back (cs := [(oc1 fe2 (rk f0) (wd f0) (tw f0) (pa f0) (pb f0) (.ref lo2) (.ref lk2) fm2), (oc4 lk2 (kd f0) (st f0) (.ref r2) (gb f0) (it f0) we2)]) (L := L) (f := f) (X := [(oc8 x (.ref sh) (.ref lw) (.ref ro) (.ref bq) (.ref bp) (.ref dq) (.ref dp) (.ref lv) (.ref sl) ds sd ul su), (oc7 sh (.ref fa) (nI ft)), (oq fa cF 200 FA)]) (by rw [hT_1]; exact (show va_P (dC, dI) classes (([(oc8 x (.ref sh) (.ref lw) (.ref ro) (.ref bq) (.ref bp) (.ref dq) (.ref dp) (.ref lv) (.ref sl) ds sd ul su), (oc7 sh (.ref fa) (nI ft)), (oq fa cF 200 FA)] ++ [(oc1 fe2 (rk f0) (wd f0) (tw f0) (pa f0) (pb f0) (.ref lo2) (.ref lk2) fm2), (oc4 lk2 (kd f0) (st f0) (.ref r2) (gb f0) (it f0) we2)]) ++ va_pl T_1 f) H from hP)) hc9_1
      have hD : va_D A ([(oc8 x (.ref sh) (.ref lw) (.ref ro) (.ref bq) (.ref bp) (.ref dq) (.ref dp) (.ref lv) (.ref sl) ds sd ul su), (oc7 sh (.ref fa) (nI ft)), (oq fa cF 200 FA)] ++ va_pl L f) := vaD_ae hD0_1 rfl
      refine lv_astoreN (lv' := [(4, .null), (0, .ref x), (1, .int (nI f0)), (2, .int w), (3, .int wv)]) hx hb dX10_near_8 hl (Nat.le_of_ble_eq_true rfl) rfl (fun ls hl => ?_)
      rcases v_c (v := w) (ft := ft) h200 with hb3 | ⟨g0, hq3, rfl⟩
      · skip
        refine lv_aload_n hx hb dX10_near_10 rfl (lv_at hl 1 rfl) ?_
        refine va_get (D := (dC, dI)) (ci := 8) (v := .ref sh) (C := RX10) (T := TX10) (N := 13) hx hb hts inX10 hown hK hP 0 rfl rfl 0 (Nat.le_of_ble_eq_true rfl) (hts _ mw_309) (fun _ h9 => h9) rfl dX10_near_11 ?_
        refine lv_iload_n hx hb dX10_near_14 rfl (lv_at hl 3 rfl) ?_
        obtain ⟨hPc, hDc, hFc⟩ := zc_sub (wc := [(oc7 sh (.ref fa) (nI ft)), (oq fa cF 200 FA)]) hP hD hS hA [1, 2] rfl rfl
        refine zcall (st1 := [.null]) (va_runV (As := [.int w]) (rest := []) ⟨hx, hb, hml, hown, hts⟩ (k_Sheet_rowThere_x l dC dI cI cZ cF H.size sh fa ft FA w (h200) (hb3)) (csV_144 hts rfl rfl ⟨Nat.le_of_ble_eq_true rfl, Nat.le_of_ble_eq_true rfl⟩) (zPV2 (q0 := 0) (ci := 7) hPc hDc hK hXN rfl rfl) rfl rfl hl.1 rfl (lv_room (Nat.le_of_ble_eq_true rfl)) dX10_near_15 ⟨Nat.le_of_ble_eq_true rfl, Nat.le_of_ble_eq_true rfl⟩) hS hFc hFc rfl (fun t H locs ht hB hk1 hS => ?_)
        obtain ⟨hP1, hD1⟩ := hB
        rw [ht] at hP1
        obtain ⟨hP, hD⟩ := zkQ (W2 := [(oc8 x (.ref sh) (.ref lw) (.ref ro) (.ref bq) (.ref bp) (.ref dq) (.ref dp) (.ref lv) (.ref sl) ds sd ul su), (oc7 sh (.ref fa) (nI ft)), (oq fa cF 200 FA)]) hP hD [1, 2] [0] [0] [1, 2] [0, 1, 2] 3 rfl rfl rfl rfl rfl rfl rfl rfl rfl hk1 hFc hP1 hD1
        clear hk1 hPc hDc hFc hP1 hD1 ht
        refine lv_astoreN (lv' := [(5, .null), (4, .null), (0, .ref x), (1, .int (nI f0)), (2, .int w), (3, .int wv)]) hx hb dX10_near_18 hl (Nat.le_of_ble_eq_true rfl) rfl (fun ls hl => ?_)
        refine lv_aloadN hx hb dX10_near_20 (lv_at hl 1 rfl) ?_
        refine lv_ifnullN (tgt := 39) hx hb dX10_near_22 rfl ?_
        refine lv_ldc2 hx hb hown (hts _ mw_1077) dX10_near_39 ?_
        obtain ⟨hP9, hD9⟩ := zq_part (cx := [(oc8 x (.ref sh) (.ref lw) (.ref ro) (.ref bq) (.ref bp) (.ref dq) (.ref dp) (.ref lv) (.ref sl) ds sd ul su), (oc7 sh (.ref fa) (nI ft)), (oq fa cF 200 FA)]) hP hD [0, 1, 2] rfl rfl
        rw [hQ9]
        exact W.lret (v := (-1)) hx hb hr (fun t ht hW => ⟨⟨rfl, by rw [ht]; exact hP9, hD9⟩, hS.F ht⟩) hS.2.2 dX10_near_42
      · skip
        refine lv_aload_n hx hb dX10_near_10 rfl (lv_at hl 1 rfl) ?_
        rcases vwA_3 (P9 := ((st g0).toInt = 1)) (hva g0 (by omega)) with ⟨ht3, fe3, lk3, lo3, we3, fm3, hFA3, hfe3, hlk3⟩ | ⟨ht3, hA3, fe3, lk3, lo3, we3, fm3, r3, rx3, ry3, cap3, U3, V3, rg3, hFA3, hfe3, hlk3, ⟨hr3, hrx3, hry3, hne3⟩, hrr3⟩ | ⟨ht3, hA3, fe3, lk3, lo3, we3, fm3, r3, rx3, ry3, cap3, U3, V3, rg3, hFA3, hfe3, hlk3, ⟨hr3, hrx3, hry3, hne3⟩, hrr3⟩
        · skip
          refine va_get (D := (dC, dI)) (ci := 8) (v := .ref sh) (C := RX10) (T := TX10) (N := 13) hx hb hts inX10 hown hK hP 0 rfl rfl 0 (Nat.le_of_ble_eq_true rfl) (hts _ mw_309) (fun _ h9 => h9) rfl dX10_near_11 ?_
          have hc9_2 : inPl L f [(oc1 fe3 (rk g0) (wd g0) (tw g0) (pa g0) (pb g0) (.ref lo3) (.ref lk3) fm3), (oc4 lk3 (kd g0) (st g0) .null (gb g0) (it g0) we3)] := ⟨hfe3, hlk3, trivial⟩
          have hD0_2 := hD
          obtain ⟨hP, hD⟩ := pl_out hP hD [(oc1 fe3 (rk g0) (wd g0) (tw g0) (pa g0) (pb g0) (.ref lo3) (.ref lk3) fm3), (oc4 lk3 (kd g0) (st g0) .null (gb g0) (it g0) we3)] hc9_2 (pwF hfe3.2 hlk3.2)
          generalize hT_2 : outPl L [(oc1 fe3 (rk g0) (wd g0) (tw g0) (pa g0) (pb g0) (.ref lo3) (.ref lk3) fm3), (oc4 lk3 (kd g0) (st g0) .null (gb g0) (it g0) we3)] = T_2 at hP hD
          obtain ⟨hP, hD⟩ : zPD (dC, dI) classes A ([(oc8 x (.ref sh) (.ref lw) (.ref ro) (.ref bq) (.ref bp) (.ref dq) (.ref dp) (.ref lv) (.ref sl) ds sd ul su), (oc7 sh (.ref fa) (nI ft)), (oq fa cF 200 FA), (oc1 fe3 (rk g0) (wd g0) (tw g0) (pa g0) (pb g0) (.ref lo3) (.ref lk3) fm3), (oc4 lk3 (kd g0) (st g0) .null (gb g0) (it g0) we3)] ++ va_pl T_2 f) H := ⟨hP, hD⟩
          refine lv_iload_n hx hb dX10_near_14 rfl (lv_at hl 3 rfl) ?_
          obtain ⟨hPc, hDc, hFc⟩ := zc_sub (wc := [(oc7 sh (.ref fa) (nI ft)), (oq fa cF 200 FA), (oc1 fe3 (rk g0) (wd g0) (tw g0) (pa g0) (pb g0) (.ref lo3) (.ref lk3) fm3), (oc4 lk3 (kd g0) (st g0) .null (gb g0) (it g0) we3)]) hP hD hS hA [1, 2, 3, 4] rfl rfl
          refine zcall (st1 := [.null]) (va_runV (As := [.int (nI g0)]) (rest := []) ⟨hx, hb, hml, hown, hts⟩ (k_Sheet_rowThere_tv l dC dI cI cZ cF H.size sh fa ft FA g0 fe3 lo3 (rk g0) (wd g0) (tw g0) (pa g0) (pb g0) lk3 (kd g0) (st g0) (gb g0) (it g0) we3 fm3 (h200) (by first | with_reducible assumption | omega) (hFA3)) (csV_144 hts rfl rfl ⟨Nat.le_of_ble_eq_true rfl, Nat.le_of_ble_eq_true rfl⟩) (zPV2 (q0 := 0) (ci := 7) hPc hDc hK hXN rfl rfl) rfl rfl hl.1 rfl (lv_room (Nat.le_of_ble_eq_true rfl)) dX10_near_15 ⟨Nat.le_of_ble_eq_true rfl, Nat.le_of_ble_eq_true rfl⟩) hS hFc hFc rfl (fun t H locs ht hB hk1 hS => ?_)
          obtain ⟨hP1, hD1⟩ := hB
          rw [ht] at hP1
          obtain ⟨hP, hD⟩ := zkQ (W2 := [(oc8 x (.ref sh) (.ref lw) (.ref ro) (.ref bq) (.ref bp) (.ref dq) (.ref dp) (.ref lv) (.ref sl) ds sd ul su), (oc7 sh (.ref fa) (nI ft)), (oq fa cF 200 FA), (oc1 fe3 (rk g0) (wd g0) (tw g0) (pa g0) (pb g0) (.ref lo3) (.ref lk3) fm3), (oc4 lk3 (kd g0) (st g0) .null (gb g0) (it g0) we3)]) hP hD [1, 2, 3, 4] [0] [0] [1, 2, 3, 4] [0, 1, 2, 3, 4] 5 rfl rfl rfl rfl rfl rfl rfl rfl rfl hk1 hFc hP1 hD1
          clear hk1 hPc hDc hFc hP1 hD1 ht
          have hP := pl_back (cs := [(oc1 fe3 (rk g0) (wd g0) (tw g0) (pa g0) (pb g0) (.ref lo3) (.ref lk3) fm3), (oc4 lk3 (kd g0) (st g0) .null (gb g0) (it g0) we3)]) (L := L) (f := f) (X := [(oc8 x (.ref sh) (.ref lw) (.ref ro) (.ref bq) (.ref bp) (.ref dq) (.ref dp) (.ref lv) (.ref sl) ds sd ul su), (oc7 sh (.ref fa) (nI ft)), (oq fa cF 200 FA)]) (by rw [hT_2]; exact (show va_P (dC, dI) classes (([(oc8 x (.ref sh) (.ref lw) (.ref ro) (.ref bq) (.ref bp) (.ref dq) (.ref dp) (.ref lv) (.ref sl) ds sd ul su), (oc7 sh (.ref fa) (nI ft)), (oq fa cF 200 FA)] ++ [(oc1 fe3 (rk g0) (wd g0) (tw g0) (pa g0) (pb g0) (.ref lo3) (.ref lk3) fm3), (oc4 lk3 (kd g0) (st g0) .null (gb g0) (it g0) we3)]) ++ va_pl T_2 f) H from hP)) hc9_2
          have hD : va_D A ([(oc8 x (.ref sh) (.ref lw) (.ref ro) (.ref bq) (.ref bp) (.ref dq) (.ref dp) (.ref lv) (.ref sl) ds sd ul su), (oc7 sh (.ref fa) (nI ft)), (oq fa cF 200 FA)] ++ va_pl L f) := vaD_ae hD0_2 rfl
          refine lv_astoreN (lv' := [(5, .null), (4, .null), (0, .ref x), (1, .int (nI f0)), (2, .int (nI g0)), (3, .int wv)]) hx hb dX10_near_18 hl (Nat.le_of_ble_eq_true rfl) rfl (fun ls hl => ?_)
          refine lv_aloadN hx hb dX10_near_20 (lv_at hl 1 rfl) ?_
          refine lv_ifnullN (tgt := 39) hx hb dX10_near_22 rfl ?_
          refine lv_ldc2 hx hb hown (hts _ mw_1077) dX10_near_39 ?_
          obtain ⟨hP9, hD9⟩ := zq_part (cx := [(oc8 x (.ref sh) (.ref lw) (.ref ro) (.ref bq) (.ref bp) (.ref dq) (.ref dp) (.ref lv) (.ref sl) ds sd ul su), (oc7 sh (.ref fa) (nI ft)), (oq fa cF 200 FA)]) hP hD [0, 1, 2] rfl rfl
          rw [hQ9]
          exact W.lret (v := (-1)) hx hb hr (fun t ht hW => ⟨⟨rfl, by rw [ht]; exact hP9, hD9⟩, hS.F ht⟩) hS.2.2 dX10_near_42
        · skip
          refine va_get (D := (dC, dI)) (ci := 8) (v := .ref sh) (C := RX10) (T := TX10) (N := 13) hx hb hts inX10 hown hK hP 0 rfl rfl 0 (Nat.le_of_ble_eq_true rfl) (hts _ mw_309) (fun _ h9 => h9) rfl dX10_near_11 ?_
          have hc9_2 : inPl L f [(oc1 fe3 (rk g0) (wd g0) (tw g0) (pa g0) (pb g0) (.ref lo3) (.ref lk3) fm3), (oc4 lk3 (kd g0) (st g0) (.ref r3) (gb g0) (it g0) we3)] := ⟨hfe3, hlk3, trivial⟩
          have hD0_2 := hD
          obtain ⟨hP, hD⟩ := pl_out hP hD [(oc1 fe3 (rk g0) (wd g0) (tw g0) (pa g0) (pb g0) (.ref lo3) (.ref lk3) fm3), (oc4 lk3 (kd g0) (st g0) (.ref r3) (gb g0) (it g0) we3)] hc9_2 (pwF hfe3.2 hlk3.2)
          generalize hT_2 : outPl L [(oc1 fe3 (rk g0) (wd g0) (tw g0) (pa g0) (pb g0) (.ref lo3) (.ref lk3) fm3), (oc4 lk3 (kd g0) (st g0) (.ref r3) (gb g0) (it g0) we3)] = T_2 at hP hD
          obtain ⟨hP, hD⟩ : zPD (dC, dI) classes A ([(oc8 x (.ref sh) (.ref lw) (.ref ro) (.ref bq) (.ref bp) (.ref dq) (.ref dp) (.ref lv) (.ref sl) ds sd ul su), (oc7 sh (.ref fa) (nI ft)), (oq fa cF 200 FA), (oc1 fe3 (rk g0) (wd g0) (tw g0) (pa g0) (pb g0) (.ref lo3) (.ref lk3) fm3), (oc4 lk3 (kd g0) (st g0) (.ref r3) (gb g0) (it g0) we3)] ++ va_pl T_2 f) H := ⟨hP, hD⟩
          refine lv_iload_n hx hb dX10_near_14 rfl (lv_at hl 3 rfl) ?_
          obtain ⟨hPc, hDc, hFc⟩ := zc_sub (wc := [(oc7 sh (.ref fa) (nI ft)), (oq fa cF 200 FA), (oc1 fe3 (rk g0) (wd g0) (tw g0) (pa g0) (pb g0) (.ref lo3) (.ref lk3) fm3), (oc4 lk3 (kd g0) (st g0) (.ref r3) (gb g0) (it g0) we3)]) hP hD hS hA [1, 2, 3, 4] rfl rfl
          refine zcall (st1 := [.ref r3]) (va_runV (As := [.int (nI g0)]) (rest := []) ⟨hx, hb, hml, hown, hts⟩ (k_Sheet_rowThere_yv l dC dI cI cZ cF H.size sh fa ft FA g0 fe3 lo3 (rk g0) (wd g0) (tw g0) (pa g0) (pb g0) lk3 (kd g0) (st g0) (gb g0) (it g0) we3 r3 fm3 (h200) (by first | with_reducible assumption | omega) (hFA3) (by first | exact hA3 | omega)) (csV_144 hts rfl rfl ⟨Nat.le_of_ble_eq_true rfl, Nat.le_of_ble_eq_true rfl⟩) (zPV2 (q0 := 0) (ci := 7) hPc hDc hK hXN rfl rfl) rfl rfl hl.1 rfl (lv_room (Nat.le_of_ble_eq_true rfl)) dX10_near_15 ⟨Nat.le_of_ble_eq_true rfl, Nat.le_of_ble_eq_true rfl⟩) hS hFc hFc rfl (fun t H locs ht hB hk1 hS => ?_)
          obtain ⟨hP1, hD1⟩ := hB
          rw [ht] at hP1
          obtain ⟨hP, hD⟩ := zkQ (W2 := [(oc8 x (.ref sh) (.ref lw) (.ref ro) (.ref bq) (.ref bp) (.ref dq) (.ref dp) (.ref lv) (.ref sl) ds sd ul su), (oc7 sh (.ref fa) (nI ft)), (oq fa cF 200 FA), (oc1 fe3 (rk g0) (wd g0) (tw g0) (pa g0) (pb g0) (.ref lo3) (.ref lk3) fm3), (oc4 lk3 (kd g0) (st g0) (.ref r3) (gb g0) (it g0) we3)]) hP hD [1, 2, 3, 4] [0] [0] [1, 2, 3, 4] [0, 1, 2, 3, 4] 5 rfl rfl rfl rfl rfl rfl rfl rfl rfl hk1 hFc hP1 hD1
          clear hk1 hPc hDc hFc hP1 hD1 ht
          have hP := pl_back (cs := [(oc1 fe3 (rk g0) (wd g0) (tw g0) (pa g0) (pb g0) (.ref lo3) (.ref lk3) fm3), (oc4 lk3 (kd g0) (st g0) (.ref r3) (gb g0) (it g0) we3)]) (L := L) (f := f) (X := [(oc8 x (.ref sh) (.ref lw) (.ref ro) (.ref bq) (.ref bp) (.ref dq) (.ref dp) (.ref lv) (.ref sl) ds sd ul su), (oc7 sh (.ref fa) (nI ft)), (oq fa cF 200 FA)]) (by rw [hT_2]; exact (show va_P (dC, dI) classes (([(oc8 x (.ref sh) (.ref lw) (.ref ro) (.ref bq) (.ref bp) (.ref dq) (.ref dp) (.ref lv) (.ref sl) ds sd ul su), (oc7 sh (.ref fa) (nI ft)), (oq fa cF 200 FA)] ++ [(oc1 fe3 (rk g0) (wd g0) (tw g0) (pa g0) (pb g0) (.ref lo3) (.ref lk3) fm3), (oc4 lk3 (kd g0) (st g0) (.ref r3) (gb g0) (it g0) we3)]) ++ va_pl T_2 f) H from hP)) hc9_2
          have hD : va_D A ([(oc8 x (.ref sh) (.ref lw) (.ref ro) (.ref bq) (.ref bp) (.ref dq) (.ref dp) (.ref lv) (.ref sl) ds sd ul su), (oc7 sh (.ref fa) (nI ft)), (oq fa cF 200 FA)] ++ va_pl L f) := vaD_ae hD0_2 rfl
          refine lv_astore (lv' := [(5, .ref r3), (4, .null), (0, .ref x), (1, .int (nI f0)), (2, .int (nI g0)), (3, .int wv)]) hx hb dX10_near_18 hl (Nat.le_of_ble_eq_true rfl) rfl (fun ls hl => ?_)
          refine lv_aloadN hx hb dX10_near_20 (lv_at hl 1 rfl) ?_
          refine lv_ifnullN (tgt := 39) hx hb dX10_near_22 rfl ?_
          refine lv_ldc2 hx hb hown (hts _ mw_1077) dX10_near_39 ?_
          obtain ⟨hP9, hD9⟩ := zq_part (cx := [(oc8 x (.ref sh) (.ref lw) (.ref ro) (.ref bq) (.ref bp) (.ref dq) (.ref dp) (.ref lv) (.ref sl) ds sd ul su), (oc7 sh (.ref fa) (nI ft)), (oq fa cF 200 FA)]) hP hD [0, 1, 2] rfl rfl
          rw [hQ9]
          exact W.lret (v := (-1)) hx hb hr (fun t ht hW => ⟨⟨rfl, by rw [ht]; exact hP9, hD9⟩, hS.F ht⟩) hS.2.2 dX10_near_42
        · skip
          refine va_get (D := (dC, dI)) (ci := 8) (v := .ref sh) (C := RX10) (T := TX10) (N := 13) hx hb hts inX10 hown hK hP 0 rfl rfl 0 (Nat.le_of_ble_eq_true rfl) (hts _ mw_309) (fun _ h9 => h9) rfl dX10_near_11 ?_
          have hc9_2 : inPl L f [(oc1 fe3 (rk g0) (wd g0) (tw g0) (pa g0) (pb g0) (.ref lo3) (.ref lk3) fm3), (oc4 lk3 (kd g0) (st g0) (.ref r3) (gb g0) (it g0) we3)] := ⟨hfe3, hlk3, trivial⟩
          have hD0_2 := hD
          obtain ⟨hP, hD⟩ := pl_out hP hD [(oc1 fe3 (rk g0) (wd g0) (tw g0) (pa g0) (pb g0) (.ref lo3) (.ref lk3) fm3), (oc4 lk3 (kd g0) (st g0) (.ref r3) (gb g0) (it g0) we3)] hc9_2 (pwF hfe3.2 hlk3.2)
          generalize hT_2 : outPl L [(oc1 fe3 (rk g0) (wd g0) (tw g0) (pa g0) (pb g0) (.ref lo3) (.ref lk3) fm3), (oc4 lk3 (kd g0) (st g0) (.ref r3) (gb g0) (it g0) we3)] = T_2 at hP hD
          obtain ⟨hP, hD⟩ : zPD (dC, dI) classes A ([(oc8 x (.ref sh) (.ref lw) (.ref ro) (.ref bq) (.ref bp) (.ref dq) (.ref dp) (.ref lv) (.ref sl) ds sd ul su), (oc7 sh (.ref fa) (nI ft)), (oq fa cF 200 FA), (oc1 fe3 (rk g0) (wd g0) (tw g0) (pa g0) (pb g0) (.ref lo3) (.ref lk3) fm3), (oc4 lk3 (kd g0) (st g0) (.ref r3) (gb g0) (it g0) we3)] ++ va_pl T_2 f) H := ⟨hP, hD⟩
          refine lv_iload_n hx hb dX10_near_14 rfl (lv_at hl 3 rfl) ?_
          obtain ⟨hPc, hDc, hFc⟩ := zc_sub (wc := [(oc7 sh (.ref fa) (nI ft)), (oq fa cF 200 FA), (oc1 fe3 (rk g0) (wd g0) (tw g0) (pa g0) (pb g0) (.ref lo3) (.ref lk3) fm3), (oc4 lk3 (kd g0) (st g0) (.ref r3) (gb g0) (it g0) we3)]) hP hD hS hA [1, 2, 3, 4] rfl rfl
          refine zcall (st1 := [.null]) (va_runV (As := [.int (nI g0)]) (rest := []) ⟨hx, hb, hml, hown, hts⟩ (k_Sheet_rowThere_sv l dC dI cI cZ cF H.size sh fa ft FA g0 fe3 lo3 (rk g0) (wd g0) (tw g0) (pa g0) (pb g0) lk3 (kd g0) (st g0) (gb g0) (it g0) we3 fm3 (.ref r3) (h200) (by first | with_reducible assumption | omega) (hFA3) (by first | exact hA3 | omega)) (csV_144 hts rfl rfl ⟨Nat.le_of_ble_eq_true rfl, Nat.le_of_ble_eq_true rfl⟩) (zPV2 (q0 := 0) (ci := 7) hPc hDc hK hXN rfl rfl) rfl rfl hl.1 rfl (lv_room (Nat.le_of_ble_eq_true rfl)) dX10_near_15 ⟨Nat.le_of_ble_eq_true rfl, Nat.le_of_ble_eq_true rfl⟩) hS hFc hFc rfl (fun t H locs ht hB hk1 hS => ?_)
          obtain ⟨hP1, hD1⟩ := hB
          rw [ht] at hP1
          obtain ⟨hP, hD⟩ := zkQ (W2 := [(oc8 x (.ref sh) (.ref lw) (.ref ro) (.ref bq) (.ref bp) (.ref dq) (.ref dp) (.ref lv) (.ref sl) ds sd ul su), (oc7 sh (.ref fa) (nI ft)), (oq fa cF 200 FA), (oc1 fe3 (rk g0) (wd g0) (tw g0) (pa g0) (pb g0) (.ref lo3) (.ref lk3) fm3), (oc4 lk3 (kd g0) (st g0) (.ref r3) (gb g0) (it g0) we3)]) hP hD [1, 2, 3, 4] [0] [0] [1, 2, 3, 4] [0, 1, 2, 3, 4] 5 rfl rfl rfl rfl rfl rfl rfl rfl rfl hk1 hFc hP1 hD1
          clear hk1 hPc hDc hFc hP1 hD1 ht
          have hP := pl_back (cs := [(oc1 fe3 (rk g0) (wd g0) (tw g0) (pa g0) (pb g0) (.ref lo3) (.ref lk3) fm3), (oc4 lk3 (kd g0) (st g0) (.ref r3) (gb g0) (it g0) we3)]) (L := L) (f := f) (X := [(oc8 x (.ref sh) (.ref lw) (.ref ro) (.ref bq) (.ref bp) (.ref dq) (.ref dp) (.ref lv) (.ref sl) ds sd ul su), (oc7 sh (.ref fa) (nI ft)), (oq fa cF 200 FA)]) (by rw [hT_2]; exact (show va_P (dC, dI) classes (([(oc8 x (.ref sh) (.ref lw) (.ref ro) (.ref bq) (.ref bp) (.ref dq) (.ref dp) (.ref lv) (.ref sl) ds sd ul su), (oc7 sh (.ref fa) (nI ft)), (oq fa cF 200 FA)] ++ [(oc1 fe3 (rk g0) (wd g0) (tw g0) (pa g0) (pb g0) (.ref lo3) (.ref lk3) fm3), (oc4 lk3 (kd g0) (st g0) (.ref r3) (gb g0) (it g0) we3)]) ++ va_pl T_2 f) H from hP)) hc9_2
          have hD : va_D A ([(oc8 x (.ref sh) (.ref lw) (.ref ro) (.ref bq) (.ref bp) (.ref dq) (.ref dp) (.ref lv) (.ref sl) ds sd ul su), (oc7 sh (.ref fa) (nI ft)), (oq fa cF 200 FA)] ++ va_pl L f) := vaD_ae hD0_2 rfl
          refine lv_astoreN (lv' := [(5, .null), (4, .null), (0, .ref x), (1, .int (nI f0)), (2, .int (nI g0)), (3, .int wv)]) hx hb dX10_near_18 hl (Nat.le_of_ble_eq_true rfl) rfl (fun ls hl => ?_)
          refine lv_aloadN hx hb dX10_near_20 (lv_at hl 1 rfl) ?_
          refine lv_ifnullN (tgt := 39) hx hb dX10_near_22 rfl ?_
          refine lv_ldc2 hx hb hown (hts _ mw_1077) dX10_near_39 ?_
          obtain ⟨hP9, hD9⟩ := zq_part (cx := [(oc8 x (.ref sh) (.ref lw) (.ref ro) (.ref bq) (.ref bp) (.ref dq) (.ref dp) (.ref lv) (.ref sl) ds sd ul su), (oc7 sh (.ref fa) (nI ft)), (oq fa cF 200 FA)]) hP hD [0, 1, 2] rfl rfl
          rw [hQ9]
          exact W.lret (v := (-1)) hx hb hr (fun t ht hW => ⟨⟨rfl, by rw [ht]; exact hP9, hD9⟩, hS.F ht⟩) hS.2.2 dX10_near_42
set_option maxHeartbeats 4000000 in
set_option maxRecDepth 100000 in
theorem k_near_w (l : Launch) (dC : Nat → ClassId) (dI : Nat → Nat → Nat) (cI cZ cF : ClassId) (sz : Nat) (x : Nat) (sh : Nat) (lw : Nat) (ro : Nat) (bq : Nat) (bp : Nat) (dq : Nat) (dp : Nat) (lv : Nat) (sl : Nat) (sd : Int32) (ul : Int32) (su : Int32) (ds : Int32) (fa : Nat) (ft : Nat) (FA : Nat → Option Nat) (L : List Nat) (f : Nat → va_E) (kd : Nat → Int32) (st : Nat → Int32) (tn : Nat → Int32) (mn : Nat → Int32) (cx : Nat → Int32) (cy : Nat → Int32) (rk : Nat → Int32) (wd : Nat → Int32) (tw : Nat → Int32) (pa : Nat → Int32) (pb : Nat → Int32) (gb : Nat → Int32) (it : Nat → Int32) (v : Int32) (w : Int32) (wv : Int32) (h200 : ft ≤ 200) (hva : ∀ q, q < ft → vwA cI L f FA rk wd tw pa pb kd st gb it tn mn cx cy q) (hbad : ¬ (0 ≤ wv.toInt ∧ wv.toInt ≤ 1)) : Met l yX10_near (.code yX10_near cX10_near 6 (some .long) :: ws0) ({ frames := 2, cells := 0, slots := 0, locals := 43 } : Room) (va_Pc [.ref x, .int v, .int w, .int wv] (zPre (dC, dI) classes (zTy cI cZ cF) ([(oc8 x (.ref sh) (.ref lw) (.ref ro) (.ref bq) (.ref bp) (.ref dq) (.ref dp) (.ref lv) (.ref sl) ds sd ul su), (oc7 sh (.ref fa) (nI ft)), (oq fa cF 200 FA)] ++ va_pl L f) sz zXN)) (zQ (some (.long (-1))) (fun t => va_P (dC, dI) classes ([(oc8 x (.ref sh) (.ref lw) (.ref ro) (.ref bq) (.ref bp) (.ref dq) (.ref dp) (.ref lv) (.ref sl) ds sd ul su), (oc7 sh (.ref fa) (nI ft)), (oq fa cF 200 FA)] ++ va_pl L f) t.heap ∧ va_D (va_A ([(oc8 x (.ref sh) (.ref lw) (.ref ro) (.ref bq) (.ref bp) (.ref dq) (.ref dp) (.ref lv) (.ref sl) ds sd ul su), (oc7 sh (.ref fa) (nI ft)), (oq fa cF 200 FA)] ++ va_pl L f) sz) ([(oc8 x (.ref sh) (.ref lw) (.ref ro) (.ref bq) (.ref bp) (.ref dq) (.ref dp) (.ref lv) (.ref sl) ds sd ul su), (oc7 sh (.ref fa) (nI ft)), (oq fa cF 200 FA)] ++ va_pl L f)) (va_A ([(oc8 x (.ref sh) (.ref lw) (.ref ro) (.ref bq) (.ref bp) (.ref dq) (.ref dp) (.ref lv) (.ref sl) ds sd ul su), (oc7 sh (.ref fa) (nI ft)), (oq fa cF 200 FA)] ++ va_pl L f) sz)) 0 0 (va_A ([(oc8 x (.ref sh) (.ref lw) (.ref ro) (.ref bq) (.ref bp) (.ref dq) (.ref dp) (.ref lv) (.ref sl) ds sd ul su), (oc7 sh (.ref fa) (nI ft)), (oq fa cF 200 FA)] ++ va_pl L f) sz) := by
  refine Met.ofW (cc := cX10_near) (maxL := 6) (ret := (some .long)) rfl rfl ?_
  intro p e s m args below meth c s₁ B hml hv
  obtain ⟨rfl, hsz, hP, hK, hD0, hXN⟩ := hv
  have hx := B.exec
  have hb := B.bytes
  have hr := B.returns
  have hts0 := atoms_spec (ws := .code yX10_near cX10_near 6 (some .long) :: ws0) B.pre
  have hts : ∀ w9 ∈ ws0, w9.before ([.ref x, .int v, .int w, .int wv] : List Value).toArray s = true := fun w9 h => hts0 w9 (List.mem_cons_of_mem _ h)
  have hown : s.vm.findClass "ScaleShop" = some m.cls := findClass_of_methodNamed B.named
  have hlocks := B.notSynchronized
  subst hsz
  have hD := hD0.self (sz := s.heap.size)
  clear hD0
  generalize hAe : va_A ([(oc8 x (.ref sh) (.ref lw) (.ref ro) (.ref bq) (.ref bp) (.ref dq) (.ref dp) (.ref lv) (.ref sl) ds sd ul su), (oc7 sh (.ref fa) (nI ft)), (oq fa cF 200 FA)] ++ va_pl L f) s.heap.size = A at hD ⊢
  have hA : ∀ q : Nat, s.heap.size ≤ q → A q := fun q h => by rw [← hAe]; exact Or.inr h
  clear hAe
  have hS : va_S A s.heap s.heap [] := va_S.rf
  have hP : va_P (dC, dI) classes ([(oc8 x (.ref sh) (.ref lw) (.ref ro) (.ref bq) (.ref bp) (.ref dq) (.ref dp) (.ref lv) (.ref sl) ds sd ul su), (oc7 sh (.ref fa) (nI ft)), (oq fa cF 200 FA)] ++ va_pl L f) s.heap := hP
  obtain ⟨Q9, hQ9⟩ : ∃ Q9 : State → Prop, Q9 = MQ below (zQ (some (.long (-1))) (fun t => va_P (dC, dI) classes ([(oc8 x (.ref sh) (.ref lw) (.ref ro) (.ref bq) (.ref bp) (.ref dq) (.ref dp) (.ref lv) (.ref sl) ds sd ul su), (oc7 sh (.ref fa) (nI ft)), (oq fa cF 200 FA)] ++ va_pl L f) t.heap ∧ va_D A ([(oc8 x (.ref sh) (.ref lw) (.ref ro) (.ref bq) (.ref bp) (.ref dq) (.ref dp) (.ref lv) (.ref sl) ds sd ul su), (oc7 sh (.ref fa) (nI ft)), (oq fa cF 200 FA)] ++ va_pl L f)) A) ([.ref x, .int v, .int w, .int wv] : List Value).toArray s 0 0 A := ⟨_, rfl⟩
  rw [← hQ9]
  have hl := lv_entry ([.ref x, .int v, .int w, .int wv]) (n := 6) (Nat.le_of_ble_eq_true rfl)
  rw [lg_entry_eq]
  generalize (lg_sl ([.ref x, .int v, .int w, .int wv]) ++ List.replicate (6 - (lg_sl ([.ref x, .int v, .int w, .int wv])).length) Slot.unset).toArray = ls at hl ⊢
  have hl : lv_has ls 6 [(0, .ref x), (1, .int v), (2, .int w), (3, .int wv)] := hl
  have e_0 : (0 : Int32).toInt = 0 := (by decide)
  have e_1 : (1 : Int32).toInt = 1 := (by decide)
  rcases v_c (v := v) (ft := ft) h200 with hb2 | ⟨f0, hq2, rfl⟩
  · skip
    refine lv_aload_n hx hb dX10_near_0 rfl (lv_at hl 0 rfl) ?_
    refine va_get (D := (dC, dI)) (ci := 8) (v := .ref sh) (C := RX10) (T := TX10) (N := 13) hx hb hts inX10 hown hK hP 0 rfl rfl 0 (Nat.le_of_ble_eq_true rfl) (hts _ mw_309) (fun _ h9 => h9) rfl dX10_near_1 ?_
    refine lv_iload_n hx hb dX10_near_4 rfl (lv_at hl 1 rfl) ?_
    obtain ⟨hPc, hDc, hFc⟩ := zc_sub (wc := [(oc7 sh (.ref fa) (nI ft)), (oq fa cF 200 FA)]) hP hD hS hA [1, 2] rfl rfl
    refine zcall (st1 := [.null]) (va_runV (As := [.int v]) (rest := []) ⟨hx, hb, hml, hown, hts⟩ (k_Sheet_rowThere_x l dC dI cI cZ cF s.heap.size sh fa ft FA v (h200) (hb2)) (csV_144 hts rfl rfl ⟨Nat.le_of_ble_eq_true rfl, Nat.le_of_ble_eq_true rfl⟩) (zPV2 (q0 := 0) (ci := 7) hPc hDc hK hXN rfl rfl) rfl rfl hl.1 rfl (lv_room (Nat.le_of_ble_eq_true rfl)) dX10_near_5 ⟨Nat.le_of_ble_eq_true rfl, Nat.le_of_ble_eq_true rfl⟩) hS hFc hFc rfl (fun t H locs ht hB hk1 hS => ?_)
    obtain ⟨hP1, hD1⟩ := hB
    rw [ht] at hP1
    obtain ⟨hP, hD⟩ := zkQ (W2 := [(oc8 x (.ref sh) (.ref lw) (.ref ro) (.ref bq) (.ref bp) (.ref dq) (.ref dp) (.ref lv) (.ref sl) ds sd ul su), (oc7 sh (.ref fa) (nI ft)), (oq fa cF 200 FA)]) hP hD [1, 2] [0] [0] [1, 2] [0, 1, 2] 3 rfl rfl rfl rfl rfl rfl rfl rfl rfl hk1 hFc hP1 hD1
    clear hk1 hPc hDc hFc hP1 hD1 ht
    refine lv_astoreN (lv' := [(4, .null), (0, .ref x), (1, .int v), (2, .int w), (3, .int wv)]) hx hb dX10_near_8 hl (Nat.le_of_ble_eq_true rfl) rfl (fun ls hl => ?_)
    rcases v_c (v := w) (ft := ft) h200 with hb3 | ⟨g0, hq3, rfl⟩
    · skip
      refine lv_aload_n hx hb dX10_near_10 rfl (lv_at hl 1 rfl) ?_
      refine va_get (D := (dC, dI)) (ci := 8) (v := .ref sh) (C := RX10) (T := TX10) (N := 13) hx hb hts inX10 hown hK hP 0 rfl rfl 0 (Nat.le_of_ble_eq_true rfl) (hts _ mw_309) (fun _ h9 => h9) rfl dX10_near_11 ?_
      refine lv_iload_n hx hb dX10_near_14 rfl (lv_at hl 3 rfl) ?_
      obtain ⟨hPc, hDc, hFc⟩ := zc_sub (wc := [(oc7 sh (.ref fa) (nI ft)), (oq fa cF 200 FA)]) hP hD hS hA [1, 2] rfl rfl
      refine zcall (st1 := [.null]) (va_runV (As := [.int w]) (rest := []) ⟨hx, hb, hml, hown, hts⟩ (k_Sheet_rowThere_x l dC dI cI cZ cF H.size sh fa ft FA w (h200) (hb3)) (csV_144 hts rfl rfl ⟨Nat.le_of_ble_eq_true rfl, Nat.le_of_ble_eq_true rfl⟩) (zPV2 (q0 := 0) (ci := 7) hPc hDc hK hXN rfl rfl) rfl rfl hl.1 rfl (lv_room (Nat.le_of_ble_eq_true rfl)) dX10_near_15 ⟨Nat.le_of_ble_eq_true rfl, Nat.le_of_ble_eq_true rfl⟩) hS hFc hFc rfl (fun t H locs ht hB hk1 hS => ?_)
      obtain ⟨hP1, hD1⟩ := hB
      rw [ht] at hP1
      obtain ⟨hP, hD⟩ := zkQ (W2 := [(oc8 x (.ref sh) (.ref lw) (.ref ro) (.ref bq) (.ref bp) (.ref dq) (.ref dp) (.ref lv) (.ref sl) ds sd ul su), (oc7 sh (.ref fa) (nI ft)), (oq fa cF 200 FA)]) hP hD [1, 2] [0] [0] [1, 2] [0, 1, 2] 3 rfl rfl rfl rfl rfl rfl rfl rfl rfl hk1 hFc hP1 hD1
      clear hk1 hPc hDc hFc hP1 hD1 ht
      refine lv_astoreN (lv' := [(5, .null), (4, .null), (0, .ref x), (1, .int v), (2, .int w), (3, .int wv)]) hx hb dX10_near_18 hl (Nat.le_of_ble_eq_true rfl) rfl (fun ls hl => ?_)
      refine lv_aloadN hx hb dX10_near_20 (lv_at hl 1 rfl) ?_
      refine lv_ifnullN (tgt := 39) hx hb dX10_near_22 rfl ?_
      refine lv_ldc2 hx hb hown (hts _ mw_1077) dX10_near_39 ?_
      obtain ⟨hP9, hD9⟩ := zq_part (cx := [(oc8 x (.ref sh) (.ref lw) (.ref ro) (.ref bq) (.ref bp) (.ref dq) (.ref dp) (.ref lv) (.ref sl) ds sd ul su), (oc7 sh (.ref fa) (nI ft)), (oq fa cF 200 FA)]) hP hD [0, 1, 2] rfl rfl
      rw [hQ9]
      exact W.lret (v := (-1)) hx hb hr (fun t ht hW => ⟨⟨rfl, by rw [ht]; exact hP9, hD9⟩, hS.F ht⟩) hS.2.2 dX10_near_42
    · skip
      refine lv_aload_n hx hb dX10_near_10 rfl (lv_at hl 1 rfl) ?_
      rcases vwA_3 (P9 := ((st g0).toInt = 1)) (hva g0 (by omega)) with ⟨ht3, fe3, lk3, lo3, we3, fm3, hFA3, hfe3, hlk3⟩ | ⟨ht3, hA3, fe3, lk3, lo3, we3, fm3, r3, rx3, ry3, cap3, U3, V3, rg3, hFA3, hfe3, hlk3, ⟨hr3, hrx3, hry3, hne3⟩, hrr3⟩ | ⟨ht3, hA3, fe3, lk3, lo3, we3, fm3, r3, rx3, ry3, cap3, U3, V3, rg3, hFA3, hfe3, hlk3, ⟨hr3, hrx3, hry3, hne3⟩, hrr3⟩
      · skip
        refine va_get (D := (dC, dI)) (ci := 8) (v := .ref sh) (C := RX10) (T := TX10) (N := 13) hx hb hts inX10 hown hK hP 0 rfl rfl 0 (Nat.le_of_ble_eq_true rfl) (hts _ mw_309) (fun _ h9 => h9) rfl dX10_near_11 ?_
        have hc9_1 : inPl L f [(oc1 fe3 (rk g0) (wd g0) (tw g0) (pa g0) (pb g0) (.ref lo3) (.ref lk3) fm3), (oc4 lk3 (kd g0) (st g0) .null (gb g0) (it g0) we3)] := ⟨hfe3, hlk3, trivial⟩
        have hD0_1 := hD
        obtain ⟨hP, hD⟩ := pl_out hP hD [(oc1 fe3 (rk g0) (wd g0) (tw g0) (pa g0) (pb g0) (.ref lo3) (.ref lk3) fm3), (oc4 lk3 (kd g0) (st g0) .null (gb g0) (it g0) we3)] hc9_1 (pwF hfe3.2 hlk3.2)
        generalize hT_1 : outPl L [(oc1 fe3 (rk g0) (wd g0) (tw g0) (pa g0) (pb g0) (.ref lo3) (.ref lk3) fm3), (oc4 lk3 (kd g0) (st g0) .null (gb g0) (it g0) we3)] = T_1 at hP hD
        obtain ⟨hP, hD⟩ : zPD (dC, dI) classes A ([(oc8 x (.ref sh) (.ref lw) (.ref ro) (.ref bq) (.ref bp) (.ref dq) (.ref dp) (.ref lv) (.ref sl) ds sd ul su), (oc7 sh (.ref fa) (nI ft)), (oq fa cF 200 FA), (oc1 fe3 (rk g0) (wd g0) (tw g0) (pa g0) (pb g0) (.ref lo3) (.ref lk3) fm3), (oc4 lk3 (kd g0) (st g0) .null (gb g0) (it g0) we3)] ++ va_pl T_1 f) H := ⟨hP, hD⟩
        refine lv_iload_n hx hb dX10_near_14 rfl (lv_at hl 3 rfl) ?_
        obtain ⟨hPc, hDc, hFc⟩ := zc_sub (wc := [(oc7 sh (.ref fa) (nI ft)), (oq fa cF 200 FA), (oc1 fe3 (rk g0) (wd g0) (tw g0) (pa g0) (pb g0) (.ref lo3) (.ref lk3) fm3), (oc4 lk3 (kd g0) (st g0) .null (gb g0) (it g0) we3)]) hP hD hS hA [1, 2, 3, 4] rfl rfl
        refine zcall (st1 := [.null]) (va_runV (As := [.int (nI g0)]) (rest := []) ⟨hx, hb, hml, hown, hts⟩ (k_Sheet_rowThere_tv l dC dI cI cZ cF H.size sh fa ft FA g0 fe3 lo3 (rk g0) (wd g0) (tw g0) (pa g0) (pb g0) lk3 (kd g0) (st g0) (gb g0) (it g0) we3 fm3 (h200) (by first | with_reducible assumption | omega) (hFA3)) (csV_144 hts rfl rfl ⟨Nat.le_of_ble_eq_true rfl, Nat.le_of_ble_eq_true rfl⟩) (zPV2 (q0 := 0) (ci := 7) hPc hDc hK hXN rfl rfl) rfl rfl hl.1 rfl (lv_room (Nat.le_of_ble_eq_true rfl)) dX10_near_15 ⟨Nat.le_of_ble_eq_true rfl, Nat.le_of_ble_eq_true rfl⟩) hS hFc hFc rfl (fun t H locs ht hB hk1 hS => ?_)
        obtain ⟨hP1, hD1⟩ := hB
        rw [ht] at hP1
        obtain ⟨hP, hD⟩ := zkQ (W2 := [(oc8 x (.ref sh) (.ref lw) (.ref ro) (.ref bq) (.ref bp) (.ref dq) (.ref dp) (.ref lv) (.ref sl) ds sd ul su), (oc7 sh (.ref fa) (nI ft)), (oq fa cF 200 FA), (oc1 fe3 (rk g0) (wd g0) (tw g0) (pa g0) (pb g0) (.ref lo3) (.ref lk3) fm3), (oc4 lk3 (kd g0) (st g0) .null (gb g0) (it g0) we3)]) hP hD [1, 2, 3, 4] [0] [0] [1, 2, 3, 4] [0, 1, 2, 3, 4] 5 rfl rfl rfl rfl rfl rfl rfl rfl rfl hk1 hFc hP1 hD1
        clear hk1 hPc hDc hFc hP1 hD1 ht
        have hP := pl_back (cs := [(oc1 fe3 (rk g0) (wd g0) (tw g0) (pa g0) (pb g0) (.ref lo3) (.ref lk3) fm3), (oc4 lk3 (kd g0) (st g0) .null (gb g0) (it g0) we3)]) (L := L) (f := f) (X := [(oc8 x (.ref sh) (.ref lw) (.ref ro) (.ref bq) (.ref bp) (.ref dq) (.ref dp) (.ref lv) (.ref sl) ds sd ul su), (oc7 sh (.ref fa) (nI ft)), (oq fa cF 200 FA)]) (by rw [hT_1]; exact (show va_P (dC, dI) classes (([(oc8 x (.ref sh) (.ref lw) (.ref ro) (.ref bq) (.ref bp) (.ref dq) (.ref dp) (.ref lv) (.ref sl) ds sd ul su), (oc7 sh (.ref fa) (nI ft)), (oq fa cF 200 FA)] ++ [(oc1 fe3 (rk g0) (wd g0) (tw g0) (pa g0) (pb g0) (.ref lo3) (.ref lk3) fm3), (oc4 lk3 (kd g0) (st g0) .null (gb g0) (it g0) we3)]) ++ va_pl T_1 f) H from hP)) hc9_1
        have hD : va_D A ([(oc8 x (.ref sh) (.ref lw) (.ref ro) (.ref bq) (.ref bp) (.ref dq) (.ref dp) (.ref lv) (.ref sl) ds sd ul su), (oc7 sh (.ref fa) (nI ft)), (oq fa cF 200 FA)] ++ va_pl L f) := vaD_ae hD0_1 rfl
        refine lv_astoreN (lv' := [(5, .null), (4, .null), (0, .ref x), (1, .int v), (2, .int (nI g0)), (3, .int wv)]) hx hb dX10_near_18 hl (Nat.le_of_ble_eq_true rfl) rfl (fun ls hl => ?_)
        refine lv_aloadN hx hb dX10_near_20 (lv_at hl 1 rfl) ?_
        refine lv_ifnullN (tgt := 39) hx hb dX10_near_22 rfl ?_
        refine lv_ldc2 hx hb hown (hts _ mw_1077) dX10_near_39 ?_
        obtain ⟨hP9, hD9⟩ := zq_part (cx := [(oc8 x (.ref sh) (.ref lw) (.ref ro) (.ref bq) (.ref bp) (.ref dq) (.ref dp) (.ref lv) (.ref sl) ds sd ul su), (oc7 sh (.ref fa) (nI ft)), (oq fa cF 200 FA)]) hP hD [0, 1, 2] rfl rfl
        rw [hQ9]
        exact W.lret (v := (-1)) hx hb hr (fun t ht hW => ⟨⟨rfl, by rw [ht]; exact hP9, hD9⟩, hS.F ht⟩) hS.2.2 dX10_near_42
      · skip
        refine va_get (D := (dC, dI)) (ci := 8) (v := .ref sh) (C := RX10) (T := TX10) (N := 13) hx hb hts inX10 hown hK hP 0 rfl rfl 0 (Nat.le_of_ble_eq_true rfl) (hts _ mw_309) (fun _ h9 => h9) rfl dX10_near_11 ?_
        have hc9_1 : inPl L f [(oc1 fe3 (rk g0) (wd g0) (tw g0) (pa g0) (pb g0) (.ref lo3) (.ref lk3) fm3), (oc4 lk3 (kd g0) (st g0) (.ref r3) (gb g0) (it g0) we3)] := ⟨hfe3, hlk3, trivial⟩
        have hD0_1 := hD
        obtain ⟨hP, hD⟩ := pl_out hP hD [(oc1 fe3 (rk g0) (wd g0) (tw g0) (pa g0) (pb g0) (.ref lo3) (.ref lk3) fm3), (oc4 lk3 (kd g0) (st g0) (.ref r3) (gb g0) (it g0) we3)] hc9_1 (pwF hfe3.2 hlk3.2)
        generalize hT_1 : outPl L [(oc1 fe3 (rk g0) (wd g0) (tw g0) (pa g0) (pb g0) (.ref lo3) (.ref lk3) fm3), (oc4 lk3 (kd g0) (st g0) (.ref r3) (gb g0) (it g0) we3)] = T_1 at hP hD
        obtain ⟨hP, hD⟩ : zPD (dC, dI) classes A ([(oc8 x (.ref sh) (.ref lw) (.ref ro) (.ref bq) (.ref bp) (.ref dq) (.ref dp) (.ref lv) (.ref sl) ds sd ul su), (oc7 sh (.ref fa) (nI ft)), (oq fa cF 200 FA), (oc1 fe3 (rk g0) (wd g0) (tw g0) (pa g0) (pb g0) (.ref lo3) (.ref lk3) fm3), (oc4 lk3 (kd g0) (st g0) (.ref r3) (gb g0) (it g0) we3)] ++ va_pl T_1 f) H := ⟨hP, hD⟩
        refine lv_iload_n hx hb dX10_near_14 rfl (lv_at hl 3 rfl) ?_
        obtain ⟨hPc, hDc, hFc⟩ := zc_sub (wc := [(oc7 sh (.ref fa) (nI ft)), (oq fa cF 200 FA), (oc1 fe3 (rk g0) (wd g0) (tw g0) (pa g0) (pb g0) (.ref lo3) (.ref lk3) fm3), (oc4 lk3 (kd g0) (st g0) (.ref r3) (gb g0) (it g0) we3)]) hP hD hS hA [1, 2, 3, 4] rfl rfl
        refine zcall (st1 := [.ref r3]) (va_runV (As := [.int (nI g0)]) (rest := []) ⟨hx, hb, hml, hown, hts⟩ (k_Sheet_rowThere_yv l dC dI cI cZ cF H.size sh fa ft FA g0 fe3 lo3 (rk g0) (wd g0) (tw g0) (pa g0) (pb g0) lk3 (kd g0) (st g0) (gb g0) (it g0) we3 r3 fm3 (h200) (by first | with_reducible assumption | omega) (hFA3) (by first | exact hA3 | omega)) (csV_144 hts rfl rfl ⟨Nat.le_of_ble_eq_true rfl, Nat.le_of_ble_eq_true rfl⟩) (zPV2 (q0 := 0) (ci := 7) hPc hDc hK hXN rfl rfl) rfl rfl hl.1 rfl (lv_room (Nat.le_of_ble_eq_true rfl)) dX10_near_15 ⟨Nat.le_of_ble_eq_true rfl, Nat.le_of_ble_eq_true rfl⟩) hS hFc hFc rfl (fun t H locs ht hB hk1 hS => ?_)
        obtain ⟨hP1, hD1⟩ := hB
        rw [ht] at hP1
        obtain ⟨hP, hD⟩ := zkQ (W2 := [(oc8 x (.ref sh) (.ref lw) (.ref ro) (.ref bq) (.ref bp) (.ref dq) (.ref dp) (.ref lv) (.ref sl) ds sd ul su), (oc7 sh (.ref fa) (nI ft)), (oq fa cF 200 FA), (oc1 fe3 (rk g0) (wd g0) (tw g0) (pa g0) (pb g0) (.ref lo3) (.ref lk3) fm3), (oc4 lk3 (kd g0) (st g0) (.ref r3) (gb g0) (it g0) we3)]) hP hD [1, 2, 3, 4] [0] [0] [1, 2, 3, 4] [0, 1, 2, 3, 4] 5 rfl rfl rfl rfl rfl rfl rfl rfl rfl hk1 hFc hP1 hD1
        clear hk1 hPc hDc hFc hP1 hD1 ht
        have hP := pl_back (cs := [(oc1 fe3 (rk g0) (wd g0) (tw g0) (pa g0) (pb g0) (.ref lo3) (.ref lk3) fm3), (oc4 lk3 (kd g0) (st g0) (.ref r3) (gb g0) (it g0) we3)]) (L := L) (f := f) (X := [(oc8 x (.ref sh) (.ref lw) (.ref ro) (.ref bq) (.ref bp) (.ref dq) (.ref dp) (.ref lv) (.ref sl) ds sd ul su), (oc7 sh (.ref fa) (nI ft)), (oq fa cF 200 FA)]) (by rw [hT_1]; exact (show va_P (dC, dI) classes (([(oc8 x (.ref sh) (.ref lw) (.ref ro) (.ref bq) (.ref bp) (.ref dq) (.ref dp) (.ref lv) (.ref sl) ds sd ul su), (oc7 sh (.ref fa) (nI ft)), (oq fa cF 200 FA)] ++ [(oc1 fe3 (rk g0) (wd g0) (tw g0) (pa g0) (pb g0) (.ref lo3) (.ref lk3) fm3), (oc4 lk3 (kd g0) (st g0) (.ref r3) (gb g0) (it g0) we3)]) ++ va_pl T_1 f) H from hP)) hc9_1
        have hD : va_D A ([(oc8 x (.ref sh) (.ref lw) (.ref ro) (.ref bq) (.ref bp) (.ref dq) (.ref dp) (.ref lv) (.ref sl) ds sd ul su), (oc7 sh (.ref fa) (nI ft)), (oq fa cF 200 FA)] ++ va_pl L f) := vaD_ae hD0_1 rfl
        refine lv_astore (lv' := [(5, .ref r3), (4, .null), (0, .ref x), (1, .int v), (2, .int (nI g0)), (3, .int wv)]) hx hb dX10_near_18 hl (Nat.le_of_ble_eq_true rfl) rfl (fun ls hl => ?_)
        refine lv_aloadN hx hb dX10_near_20 (lv_at hl 1 rfl) ?_
        refine lv_ifnullN (tgt := 39) hx hb dX10_near_22 rfl ?_
        refine lv_ldc2 hx hb hown (hts _ mw_1077) dX10_near_39 ?_
        obtain ⟨hP9, hD9⟩ := zq_part (cx := [(oc8 x (.ref sh) (.ref lw) (.ref ro) (.ref bq) (.ref bp) (.ref dq) (.ref dp) (.ref lv) (.ref sl) ds sd ul su), (oc7 sh (.ref fa) (nI ft)), (oq fa cF 200 FA)]) hP hD [0, 1, 2] rfl rfl
        rw [hQ9]
        exact W.lret (v := (-1)) hx hb hr (fun t ht hW => ⟨⟨rfl, by rw [ht]; exact hP9, hD9⟩, hS.F ht⟩) hS.2.2 dX10_near_42
      · skip
        refine va_get (D := (dC, dI)) (ci := 8) (v := .ref sh) (C := RX10) (T := TX10) (N := 13) hx hb hts inX10 hown hK hP 0 rfl rfl 0 (Nat.le_of_ble_eq_true rfl) (hts _ mw_309) (fun _ h9 => h9) rfl dX10_near_11 ?_
        have hc9_1 : inPl L f [(oc1 fe3 (rk g0) (wd g0) (tw g0) (pa g0) (pb g0) (.ref lo3) (.ref lk3) fm3), (oc4 lk3 (kd g0) (st g0) (.ref r3) (gb g0) (it g0) we3)] := ⟨hfe3, hlk3, trivial⟩
        have hD0_1 := hD
        obtain ⟨hP, hD⟩ := pl_out hP hD [(oc1 fe3 (rk g0) (wd g0) (tw g0) (pa g0) (pb g0) (.ref lo3) (.ref lk3) fm3), (oc4 lk3 (kd g0) (st g0) (.ref r3) (gb g0) (it g0) we3)] hc9_1 (pwF hfe3.2 hlk3.2)
        generalize hT_1 : outPl L [(oc1 fe3 (rk g0) (wd g0) (tw g0) (pa g0) (pb g0) (.ref lo3) (.ref lk3) fm3), (oc4 lk3 (kd g0) (st g0) (.ref r3) (gb g0) (it g0) we3)] = T_1 at hP hD
        obtain ⟨hP, hD⟩ : zPD (dC, dI) classes A ([(oc8 x (.ref sh) (.ref lw) (.ref ro) (.ref bq) (.ref bp) (.ref dq) (.ref dp) (.ref lv) (.ref sl) ds sd ul su), (oc7 sh (.ref fa) (nI ft)), (oq fa cF 200 FA), (oc1 fe3 (rk g0) (wd g0) (tw g0) (pa g0) (pb g0) (.ref lo3) (.ref lk3) fm3), (oc4 lk3 (kd g0) (st g0) (.ref r3) (gb g0) (it g0) we3)] ++ va_pl T_1 f) H := ⟨hP, hD⟩
        refine lv_iload_n hx hb dX10_near_14 rfl (lv_at hl 3 rfl) ?_
        obtain ⟨hPc, hDc, hFc⟩ := zc_sub (wc := [(oc7 sh (.ref fa) (nI ft)), (oq fa cF 200 FA), (oc1 fe3 (rk g0) (wd g0) (tw g0) (pa g0) (pb g0) (.ref lo3) (.ref lk3) fm3), (oc4 lk3 (kd g0) (st g0) (.ref r3) (gb g0) (it g0) we3)]) hP hD hS hA [1, 2, 3, 4] rfl rfl
        refine zcall (st1 := [.null]) (va_runV (As := [.int (nI g0)]) (rest := []) ⟨hx, hb, hml, hown, hts⟩ (k_Sheet_rowThere_sv l dC dI cI cZ cF H.size sh fa ft FA g0 fe3 lo3 (rk g0) (wd g0) (tw g0) (pa g0) (pb g0) lk3 (kd g0) (st g0) (gb g0) (it g0) we3 fm3 (.ref r3) (h200) (by first | with_reducible assumption | omega) (hFA3) (by first | exact hA3 | omega)) (csV_144 hts rfl rfl ⟨Nat.le_of_ble_eq_true rfl, Nat.le_of_ble_eq_true rfl⟩) (zPV2 (q0 := 0) (ci := 7) hPc hDc hK hXN rfl rfl) rfl rfl hl.1 rfl (lv_room (Nat.le_of_ble_eq_true rfl)) dX10_near_15 ⟨Nat.le_of_ble_eq_true rfl, Nat.le_of_ble_eq_true rfl⟩) hS hFc hFc rfl (fun t H locs ht hB hk1 hS => ?_)
        obtain ⟨hP1, hD1⟩ := hB
        rw [ht] at hP1
        obtain ⟨hP, hD⟩ := zkQ (W2 := [(oc8 x (.ref sh) (.ref lw) (.ref ro) (.ref bq) (.ref bp) (.ref dq) (.ref dp) (.ref lv) (.ref sl) ds sd ul su), (oc7 sh (.ref fa) (nI ft)), (oq fa cF 200 FA), (oc1 fe3 (rk g0) (wd g0) (tw g0) (pa g0) (pb g0) (.ref lo3) (.ref lk3) fm3), (oc4 lk3 (kd g0) (st g0) (.ref r3) (gb g0) (it g0) we3)]) hP hD [1, 2, 3, 4] [0] [0] [1, 2, 3, 4] [0, 1, 2, 3, 4] 5 rfl rfl rfl rfl rfl rfl rfl rfl rfl hk1 hFc hP1 hD1
        clear hk1 hPc hDc hFc hP1 hD1 ht
        have hP := pl_back (cs := [(oc1 fe3 (rk g0) (wd g0) (tw g0) (pa g0) (pb g0) (.ref lo3) (.ref lk3) fm3), (oc4 lk3 (kd g0) (st g0) (.ref r3) (gb g0) (it g0) we3)]) (L := L) (f := f) (X := [(oc8 x (.ref sh) (.ref lw) (.ref ro) (.ref bq) (.ref bp) (.ref dq) (.ref dp) (.ref lv) (.ref sl) ds sd ul su), (oc7 sh (.ref fa) (nI ft)), (oq fa cF 200 FA)]) (by rw [hT_1]; exact (show va_P (dC, dI) classes (([(oc8 x (.ref sh) (.ref lw) (.ref ro) (.ref bq) (.ref bp) (.ref dq) (.ref dp) (.ref lv) (.ref sl) ds sd ul su), (oc7 sh (.ref fa) (nI ft)), (oq fa cF 200 FA)] ++ [(oc1 fe3 (rk g0) (wd g0) (tw g0) (pa g0) (pb g0) (.ref lo3) (.ref lk3) fm3), (oc4 lk3 (kd g0) (st g0) (.ref r3) (gb g0) (it g0) we3)]) ++ va_pl T_1 f) H from hP)) hc9_1
        have hD : va_D A ([(oc8 x (.ref sh) (.ref lw) (.ref ro) (.ref bq) (.ref bp) (.ref dq) (.ref dp) (.ref lv) (.ref sl) ds sd ul su), (oc7 sh (.ref fa) (nI ft)), (oq fa cF 200 FA)] ++ va_pl L f) := vaD_ae hD0_1 rfl
        refine lv_astoreN (lv' := [(5, .null), (4, .null), (0, .ref x), (1, .int v), (2, .int (nI g0)), (3, .int wv)]) hx hb dX10_near_18 hl (Nat.le_of_ble_eq_true rfl) rfl (fun ls hl => ?_)
        refine lv_aloadN hx hb dX10_near_20 (lv_at hl 1 rfl) ?_
        refine lv_ifnullN (tgt := 39) hx hb dX10_near_22 rfl ?_
        refine lv_ldc2 hx hb hown (hts _ mw_1077) dX10_near_39 ?_
        obtain ⟨hP9, hD9⟩ := zq_part (cx := [(oc8 x (.ref sh) (.ref lw) (.ref ro) (.ref bq) (.ref bp) (.ref dq) (.ref dp) (.ref lv) (.ref sl) ds sd ul su), (oc7 sh (.ref fa) (nI ft)), (oq fa cF 200 FA)]) hP hD [0, 1, 2] rfl rfl
        rw [hQ9]
        exact W.lret (v := (-1)) hx hb hr (fun t ht hW => ⟨⟨rfl, by rw [ht]; exact hP9, hD9⟩, hS.F ht⟩) hS.2.2 dX10_near_42
  · skip
    refine lv_aload_n hx hb dX10_near_0 rfl (lv_at hl 0 rfl) ?_
    rcases vwA_3 (P9 := ((st f0).toInt = 1)) (hva f0 (by omega)) with ⟨ht2, fe2, lk2, lo2, we2, fm2, hFA2, hfe2, hlk2⟩ | ⟨ht2, hA2, fe2, lk2, lo2, we2, fm2, r2, rx2, ry2, cap2, U2, V2, rg2, hFA2, hfe2, hlk2, ⟨hr2, hrx2, hry2, hne2⟩, hrr2⟩ | ⟨ht2, hA2, fe2, lk2, lo2, we2, fm2, r2, rx2, ry2, cap2, U2, V2, rg2, hFA2, hfe2, hlk2, ⟨hr2, hrx2, hry2, hne2⟩, hrr2⟩
    · skip
      refine va_get (D := (dC, dI)) (ci := 8) (v := .ref sh) (C := RX10) (T := TX10) (N := 13) hx hb hts inX10 hown hK hP 0 rfl rfl 0 (Nat.le_of_ble_eq_true rfl) (hts _ mw_309) (fun _ h9 => h9) rfl dX10_near_1 ?_
      have hc9_1 : inPl L f [(oc1 fe2 (rk f0) (wd f0) (tw f0) (pa f0) (pb f0) (.ref lo2) (.ref lk2) fm2), (oc4 lk2 (kd f0) (st f0) .null (gb f0) (it f0) we2)] := ⟨hfe2, hlk2, trivial⟩
      have hD0_1 := hD
      obtain ⟨hP, hD⟩ := pl_out hP hD [(oc1 fe2 (rk f0) (wd f0) (tw f0) (pa f0) (pb f0) (.ref lo2) (.ref lk2) fm2), (oc4 lk2 (kd f0) (st f0) .null (gb f0) (it f0) we2)] hc9_1 (pwF hfe2.2 hlk2.2)
      generalize hT_1 : outPl L [(oc1 fe2 (rk f0) (wd f0) (tw f0) (pa f0) (pb f0) (.ref lo2) (.ref lk2) fm2), (oc4 lk2 (kd f0) (st f0) .null (gb f0) (it f0) we2)] = T_1 at hP hD
      obtain ⟨hP, hD⟩ : zPD (dC, dI) classes A ([(oc8 x (.ref sh) (.ref lw) (.ref ro) (.ref bq) (.ref bp) (.ref dq) (.ref dp) (.ref lv) (.ref sl) ds sd ul su), (oc7 sh (.ref fa) (nI ft)), (oq fa cF 200 FA), (oc1 fe2 (rk f0) (wd f0) (tw f0) (pa f0) (pb f0) (.ref lo2) (.ref lk2) fm2), (oc4 lk2 (kd f0) (st f0) .null (gb f0) (it f0) we2)] ++ va_pl T_1 f) s.heap := ⟨hP, hD⟩
      refine lv_iload_n hx hb dX10_near_4 rfl (lv_at hl 1 rfl) ?_
      obtain ⟨hPc, hDc, hFc⟩ := zc_sub (wc := [(oc7 sh (.ref fa) (nI ft)), (oq fa cF 200 FA), (oc1 fe2 (rk f0) (wd f0) (tw f0) (pa f0) (pb f0) (.ref lo2) (.ref lk2) fm2), (oc4 lk2 (kd f0) (st f0) .null (gb f0) (it f0) we2)]) hP hD hS hA [1, 2, 3, 4] rfl rfl
      refine zcall (st1 := [.null]) (va_runV (As := [.int (nI f0)]) (rest := []) ⟨hx, hb, hml, hown, hts⟩ (k_Sheet_rowThere_tv l dC dI cI cZ cF s.heap.size sh fa ft FA f0 fe2 lo2 (rk f0) (wd f0) (tw f0) (pa f0) (pb f0) lk2 (kd f0) (st f0) (gb f0) (it f0) we2 fm2 (h200) (by first | with_reducible assumption | omega) (hFA2)) (csV_144 hts rfl rfl ⟨Nat.le_of_ble_eq_true rfl, Nat.le_of_ble_eq_true rfl⟩) (zPV2 (q0 := 0) (ci := 7) hPc hDc hK hXN rfl rfl) rfl rfl hl.1 rfl (lv_room (Nat.le_of_ble_eq_true rfl)) dX10_near_5 ⟨Nat.le_of_ble_eq_true rfl, Nat.le_of_ble_eq_true rfl⟩) hS hFc hFc rfl (fun t H locs ht hB hk1 hS => ?_)
      obtain ⟨hP1, hD1⟩ := hB
      rw [ht] at hP1
      obtain ⟨hP, hD⟩ := zkQ (W2 := [(oc8 x (.ref sh) (.ref lw) (.ref ro) (.ref bq) (.ref bp) (.ref dq) (.ref dp) (.ref lv) (.ref sl) ds sd ul su), (oc7 sh (.ref fa) (nI ft)), (oq fa cF 200 FA), (oc1 fe2 (rk f0) (wd f0) (tw f0) (pa f0) (pb f0) (.ref lo2) (.ref lk2) fm2), (oc4 lk2 (kd f0) (st f0) .null (gb f0) (it f0) we2)]) hP hD [1, 2, 3, 4] [0] [0] [1, 2, 3, 4] [0, 1, 2, 3, 4] 5 rfl rfl rfl rfl rfl rfl rfl rfl rfl hk1 hFc hP1 hD1
      clear hk1 hPc hDc hFc hP1 hD1 ht
      have hP := pl_back (cs := [(oc1 fe2 (rk f0) (wd f0) (tw f0) (pa f0) (pb f0) (.ref lo2) (.ref lk2) fm2), (oc4 lk2 (kd f0) (st f0) .null (gb f0) (it f0) we2)]) (L := L) (f := f) (X := [(oc8 x (.ref sh) (.ref lw) (.ref ro) (.ref bq) (.ref bp) (.ref dq) (.ref dp) (.ref lv) (.ref sl) ds sd ul su), (oc7 sh (.ref fa) (nI ft)), (oq fa cF 200 FA)]) (by rw [hT_1]; exact (show va_P (dC, dI) classes (([(oc8 x (.ref sh) (.ref lw) (.ref ro) (.ref bq) (.ref bp) (.ref dq) (.ref dp) (.ref lv) (.ref sl) ds sd ul su), (oc7 sh (.ref fa) (nI ft)), (oq fa cF 200 FA)] ++ [(oc1 fe2 (rk f0) (wd f0) (tw f0) (pa f0) (pb f0) (.ref lo2) (.ref lk2) fm2), (oc4 lk2 (kd f0) (st f0) .null (gb f0) (it f0) we2)]) ++ va_pl T_1 f) H from hP)) hc9_1
      have hD : va_D A ([(oc8 x (.ref sh) (.ref lw) (.ref ro) (.ref bq) (.ref bp) (.ref dq) (.ref dp) (.ref lv) (.ref sl) ds sd ul su), (oc7 sh (.ref fa) (nI ft)), (oq fa cF 200 FA)] ++ va_pl L f) := vaD_ae hD0_1 rfl
      refine lv_astoreN (lv' := [(4, .null), (0, .ref x), (1, .int (nI f0)), (2, .int w), (3, .int wv)]) hx hb dX10_near_8 hl (Nat.le_of_ble_eq_true rfl) rfl (fun ls hl => ?_)
      rcases v_c (v := w) (ft := ft) h200 with hb3 | ⟨g0, hq3, rfl⟩
      · skip
        refine lv_aload_n hx hb dX10_near_10 rfl (lv_at hl 1 rfl) ?_
        refine va_get (D := (dC, dI)) (ci := 8) (v := .ref sh) (C := RX10) (T := TX10) (N := 13) hx hb hts inX10 hown hK hP 0 rfl rfl 0 (Nat.le_of_ble_eq_true rfl) (hts _ mw_309) (fun _ h9 => h9) rfl dX10_near_11 ?_
        refine lv_iload_n hx hb dX10_near_14 rfl (lv_at hl 3 rfl) ?_
        obtain ⟨hPc, hDc, hFc⟩ := zc_sub (wc := [(oc7 sh (.ref fa) (nI ft)), (oq fa cF 200 FA)]) hP hD hS hA [1, 2] rfl rfl
        refine zcall (st1 := [.null]) (va_runV (As := [.int w]) (rest := []) ⟨hx, hb, hml, hown, hts⟩ (k_Sheet_rowThere_x l dC dI cI cZ cF H.size sh fa ft FA w (h200) (hb3)) (csV_144 hts rfl rfl ⟨Nat.le_of_ble_eq_true rfl, Nat.le_of_ble_eq_true rfl⟩) (zPV2 (q0 := 0) (ci := 7) hPc hDc hK hXN rfl rfl) rfl rfl hl.1 rfl (lv_room (Nat.le_of_ble_eq_true rfl)) dX10_near_15 ⟨Nat.le_of_ble_eq_true rfl, Nat.le_of_ble_eq_true rfl⟩) hS hFc hFc rfl (fun t H locs ht hB hk1 hS => ?_)
        obtain ⟨hP1, hD1⟩ := hB
        rw [ht] at hP1
        obtain ⟨hP, hD⟩ := zkQ (W2 := [(oc8 x (.ref sh) (.ref lw) (.ref ro) (.ref bq) (.ref bp) (.ref dq) (.ref dp) (.ref lv) (.ref sl) ds sd ul su), (oc7 sh (.ref fa) (nI ft)), (oq fa cF 200 FA)]) hP hD [1, 2] [0] [0] [1, 2] [0, 1, 2] 3 rfl rfl rfl rfl rfl rfl rfl rfl rfl hk1 hFc hP1 hD1
        clear hk1 hPc hDc hFc hP1 hD1 ht
        refine lv_astoreN (lv' := [(5, .null), (4, .null), (0, .ref x), (1, .int (nI f0)), (2, .int w), (3, .int wv)]) hx hb dX10_near_18 hl (Nat.le_of_ble_eq_true rfl) rfl (fun ls hl => ?_)
        refine lv_aloadN hx hb dX10_near_20 (lv_at hl 1 rfl) ?_
        refine lv_ifnullN (tgt := 39) hx hb dX10_near_22 rfl ?_
        refine lv_ldc2 hx hb hown (hts _ mw_1077) dX10_near_39 ?_
        obtain ⟨hP9, hD9⟩ := zq_part (cx := [(oc8 x (.ref sh) (.ref lw) (.ref ro) (.ref bq) (.ref bp) (.ref dq) (.ref dp) (.ref lv) (.ref sl) ds sd ul su), (oc7 sh (.ref fa) (nI ft)), (oq fa cF 200 FA)]) hP hD [0, 1, 2] rfl rfl
        rw [hQ9]
        exact W.lret (v := (-1)) hx hb hr (fun t ht hW => ⟨⟨rfl, by rw [ht]; exact hP9, hD9⟩, hS.F ht⟩) hS.2.2 dX10_near_42
      · skip
        refine lv_aload_n hx hb dX10_near_10 rfl (lv_at hl 1 rfl) ?_
        rcases vwA_3 (P9 := ((st g0).toInt = 1)) (hva g0 (by omega)) with ⟨ht3, fe3, lk3, lo3, we3, fm3, hFA3, hfe3, hlk3⟩ | ⟨ht3, hA3, fe3, lk3, lo3, we3, fm3, r3, rx3, ry3, cap3, U3, V3, rg3, hFA3, hfe3, hlk3, ⟨hr3, hrx3, hry3, hne3⟩, hrr3⟩ | ⟨ht3, hA3, fe3, lk3, lo3, we3, fm3, r3, rx3, ry3, cap3, U3, V3, rg3, hFA3, hfe3, hlk3, ⟨hr3, hrx3, hry3, hne3⟩, hrr3⟩
        · skip
          refine va_get (D := (dC, dI)) (ci := 8) (v := .ref sh) (C := RX10) (T := TX10) (N := 13) hx hb hts inX10 hown hK hP 0 rfl rfl 0 (Nat.le_of_ble_eq_true rfl) (hts _ mw_309) (fun _ h9 => h9) rfl dX10_near_11 ?_
          have hc9_2 : inPl L f [(oc1 fe3 (rk g0) (wd g0) (tw g0) (pa g0) (pb g0) (.ref lo3) (.ref lk3) fm3), (oc4 lk3 (kd g0) (st g0) .null (gb g0) (it g0) we3)] := ⟨hfe3, hlk3, trivial⟩
          have hD0_2 := hD
          obtain ⟨hP, hD⟩ := pl_out hP hD [(oc1 fe3 (rk g0) (wd g0) (tw g0) (pa g0) (pb g0) (.ref lo3) (.ref lk3) fm3), (oc4 lk3 (kd g0) (st g0) .null (gb g0) (it g0) we3)] hc9_2 (pwF hfe3.2 hlk3.2)
          generalize hT_2 : outPl L [(oc1 fe3 (rk g0) (wd g0) (tw g0) (pa g0) (pb g0) (.ref lo3) (.ref lk3) fm3), (oc4 lk3 (kd g0) (st g0) .null (gb g0) (it g0) we3)] = T_2 at hP hD
          obtain ⟨hP, hD⟩ : zPD (dC, dI) classes A ([(oc8 x (.ref sh) (.ref lw) (.ref ro) (.ref bq) (.ref bp) (.ref dq) (.ref dp) (.ref lv) (.ref sl) ds sd ul su), (oc7 sh (.ref fa) (nI ft)), (oq fa cF 200 FA), (oc1 fe3 (rk g0) (wd g0) (tw g0) (pa g0) (pb g0) (.ref lo3) (.ref lk3) fm3), (oc4 lk3 (kd g0) (st g0) .null (gb g0) (it g0) we3)] ++ va_pl T_2 f) H := ⟨hP, hD⟩
          refine lv_iload_n hx hb dX10_near_14 rfl (lv_at hl 3 rfl) ?_
          obtain ⟨hPc, hDc, hFc⟩ := zc_sub (wc := [(oc7 sh (.ref fa) (nI ft)), (oq fa cF 200 FA), (oc1 fe3 (rk g0) (wd g0) (tw g0) (pa g0) (pb g0) (.ref lo3) (.ref lk3) fm3), (oc4 lk3 (kd g0) (st g0) .null (gb g0) (it g0) we3)]) hP hD hS hA [1, 2, 3, 4] rfl rfl
          refine zcall (st1 := [.null]) (va_runV (As := [.int (nI g0)]) (rest := []) ⟨hx, hb, hml, hown, hts⟩ (k_Sheet_rowThere_tv l dC dI cI cZ cF H.size sh fa ft FA g0 fe3 lo3 (rk g0) (wd g0) (tw g0) (pa g0) (pb g0) lk3 (kd g0) (st g0) (gb g0) (it g0) we3 fm3 (h200) (by first | with_reducible assumption | omega) (hFA3)) (csV_144 hts rfl rfl ⟨Nat.le_of_ble_eq_true rfl, Nat.le_of_ble_eq_true rfl⟩) (zPV2 (q0 := 0) (ci := 7) hPc hDc hK hXN rfl rfl) rfl rfl hl.1 rfl (lv_room (Nat.le_of_ble_eq_true rfl)) dX10_near_15 ⟨Nat.le_of_ble_eq_true rfl, Nat.le_of_ble_eq_true rfl⟩) hS hFc hFc rfl (fun t H locs ht hB hk1 hS => ?_)
          obtain ⟨hP1, hD1⟩ := hB
          rw [ht] at hP1
          obtain ⟨hP, hD⟩ := zkQ (W2 := [(oc8 x (.ref sh) (.ref lw) (.ref ro) (.ref bq) (.ref bp) (.ref dq) (.ref dp) (.ref lv) (.ref sl) ds sd ul su), (oc7 sh (.ref fa) (nI ft)), (oq fa cF 200 FA), (oc1 fe3 (rk g0) (wd g0) (tw g0) (pa g0) (pb g0) (.ref lo3) (.ref lk3) fm3), (oc4 lk3 (kd g0) (st g0) .null (gb g0) (it g0) we3)]) hP hD [1, 2, 3, 4] [0] [0] [1, 2, 3, 4] [0, 1, 2, 3, 4] 5 rfl rfl rfl rfl rfl rfl rfl rfl rfl hk1 hFc hP1 hD1
          clear hk1 hPc hDc hFc hP1 hD1 ht
          have hP := pl_back (cs := [(oc1 fe3 (rk g0) (wd g0) (tw g0) (pa g0) (pb g0) (.ref lo3) (.ref lk3) fm3), (oc4 lk3 (kd g0) (st g0) .null (gb g0) (it g0) we3)]) (L := L) (f := f) (X := [(oc8 x (.ref sh) (.ref lw) (.ref ro) (.ref bq) (.ref bp) (.ref dq) (.ref dp) (.ref lv) (.ref sl) ds sd ul su), (oc7 sh (.ref fa) (nI ft)), (oq fa cF 200 FA)]) (by rw [hT_2]; exact (show va_P (dC, dI) classes (([(oc8 x (.ref sh) (.ref lw) (.ref ro) (.ref bq) (.ref bp) (.ref dq) (.ref dp) (.ref lv) (.ref sl) ds sd ul su), (oc7 sh (.ref fa) (nI ft)), (oq fa cF 200 FA)] ++ [(oc1 fe3 (rk g0) (wd g0) (tw g0) (pa g0) (pb g0) (.ref lo3) (.ref lk3) fm3), (oc4 lk3 (kd g0) (st g0) .null (gb g0) (it g0) we3)]) ++ va_pl T_2 f) H from hP)) hc9_2
          have hD : va_D A ([(oc8 x (.ref sh) (.ref lw) (.ref ro) (.ref bq) (.ref bp) (.ref dq) (.ref dp) (.ref lv) (.ref sl) ds sd ul su), (oc7 sh (.ref fa) (nI ft)), (oq fa cF 200 FA)] ++ va_pl L f) := vaD_ae hD0_2 rfl
          refine lv_astoreN (lv' := [(5, .null), (4, .null), (0, .ref x), (1, .int (nI f0)), (2, .int (nI g0)), (3, .int wv)]) hx hb dX10_near_18 hl (Nat.le_of_ble_eq_true rfl) rfl (fun ls hl => ?_)
          refine lv_aloadN hx hb dX10_near_20 (lv_at hl 1 rfl) ?_
          refine lv_ifnullN (tgt := 39) hx hb dX10_near_22 rfl ?_
          refine lv_ldc2 hx hb hown (hts _ mw_1077) dX10_near_39 ?_
          obtain ⟨hP9, hD9⟩ := zq_part (cx := [(oc8 x (.ref sh) (.ref lw) (.ref ro) (.ref bq) (.ref bp) (.ref dq) (.ref dp) (.ref lv) (.ref sl) ds sd ul su), (oc7 sh (.ref fa) (nI ft)), (oq fa cF 200 FA)]) hP hD [0, 1, 2] rfl rfl
          rw [hQ9]
          exact W.lret (v := (-1)) hx hb hr (fun t ht hW => ⟨⟨rfl, by rw [ht]; exact hP9, hD9⟩, hS.F ht⟩) hS.2.2 dX10_near_42
        · skip
          refine va_get (D := (dC, dI)) (ci := 8) (v := .ref sh) (C := RX10) (T := TX10) (N := 13) hx hb hts inX10 hown hK hP 0 rfl rfl 0 (Nat.le_of_ble_eq_true rfl) (hts _ mw_309) (fun _ h9 => h9) rfl dX10_near_11 ?_
          have hc9_2 : inPl L f [(oc1 fe3 (rk g0) (wd g0) (tw g0) (pa g0) (pb g0) (.ref lo3) (.ref lk3) fm3), (oc4 lk3 (kd g0) (st g0) (.ref r3) (gb g0) (it g0) we3)] := ⟨hfe3, hlk3, trivial⟩
          have hD0_2 := hD
          obtain ⟨hP, hD⟩ := pl_out hP hD [(oc1 fe3 (rk g0) (wd g0) (tw g0) (pa g0) (pb g0) (.ref lo3) (.ref lk3) fm3), (oc4 lk3 (kd g0) (st g0) (.ref r3) (gb g0) (it g0) we3)] hc9_2 (pwF hfe3.2 hlk3.2)
          generalize hT_2 : outPl L [(oc1 fe3 (rk g0) (wd g0) (tw g0) (pa g0) (pb g0) (.ref lo3) (.ref lk3) fm3), (oc4 lk3 (kd g0) (st g0) (.ref r3) (gb g0) (it g0) we3)] = T_2 at hP hD
          obtain ⟨hP, hD⟩ : zPD (dC, dI) classes A ([(oc8 x (.ref sh) (.ref lw) (.ref ro) (.ref bq) (.ref bp) (.ref dq) (.ref dp) (.ref lv) (.ref sl) ds sd ul su), (oc7 sh (.ref fa) (nI ft)), (oq fa cF 200 FA), (oc1 fe3 (rk g0) (wd g0) (tw g0) (pa g0) (pb g0) (.ref lo3) (.ref lk3) fm3), (oc4 lk3 (kd g0) (st g0) (.ref r3) (gb g0) (it g0) we3)] ++ va_pl T_2 f) H := ⟨hP, hD⟩
          refine lv_iload_n hx hb dX10_near_14 rfl (lv_at hl 3 rfl) ?_
          obtain ⟨hPc, hDc, hFc⟩ := zc_sub (wc := [(oc7 sh (.ref fa) (nI ft)), (oq fa cF 200 FA), (oc1 fe3 (rk g0) (wd g0) (tw g0) (pa g0) (pb g0) (.ref lo3) (.ref lk3) fm3), (oc4 lk3 (kd g0) (st g0) (.ref r3) (gb g0) (it g0) we3)]) hP hD hS hA [1, 2, 3, 4] rfl rfl
          refine zcall (st1 := [.ref r3]) (va_runV (As := [.int (nI g0)]) (rest := []) ⟨hx, hb, hml, hown, hts⟩ (k_Sheet_rowThere_yv l dC dI cI cZ cF H.size sh fa ft FA g0 fe3 lo3 (rk g0) (wd g0) (tw g0) (pa g0) (pb g0) lk3 (kd g0) (st g0) (gb g0) (it g0) we3 r3 fm3 (h200) (by first | with_reducible assumption | omega) (hFA3) (by first | exact hA3 | omega)) (csV_144 hts rfl rfl ⟨Nat.le_of_ble_eq_true rfl, Nat.le_of_ble_eq_true rfl⟩) (zPV2 (q0 := 0) (ci := 7) hPc hDc hK hXN rfl rfl) rfl rfl hl.1 rfl (lv_room (Nat.le_of_ble_eq_true rfl)) dX10_near_15 ⟨Nat.le_of_ble_eq_true rfl, Nat.le_of_ble_eq_true rfl⟩) hS hFc hFc rfl (fun t H locs ht hB hk1 hS => ?_)
          obtain ⟨hP1, hD1⟩ := hB
          rw [ht] at hP1
          obtain ⟨hP, hD⟩ := zkQ (W2 := [(oc8 x (.ref sh) (.ref lw) (.ref ro) (.ref bq) (.ref bp) (.ref dq) (.ref dp) (.ref lv) (.ref sl) ds sd ul su), (oc7 sh (.ref fa) (nI ft)), (oq fa cF 200 FA), (oc1 fe3 (rk g0) (wd g0) (tw g0) (pa g0) (pb g0) (.ref lo3) (.ref lk3) fm3), (oc4 lk3 (kd g0) (st g0) (.ref r3) (gb g0) (it g0) we3)]) hP hD [1, 2, 3, 4] [0] [0] [1, 2, 3, 4] [0, 1, 2, 3, 4] 5 rfl rfl rfl rfl rfl rfl rfl rfl rfl hk1 hFc hP1 hD1
          clear hk1 hPc hDc hFc hP1 hD1 ht
          have hP := pl_back (cs := [(oc1 fe3 (rk g0) (wd g0) (tw g0) (pa g0) (pb g0) (.ref lo3) (.ref lk3) fm3), (oc4 lk3 (kd g0) (st g0) (.ref r3) (gb g0) (it g0) we3)]) (L := L) (f := f) (X := [(oc8 x (.ref sh) (.ref lw) (.ref ro) (.ref bq) (.ref bp) (.ref dq) (.ref dp) (.ref lv) (.ref sl) ds sd ul su), (oc7 sh (.ref fa) (nI ft)), (oq fa cF 200 FA)]) (by rw [hT_2]; exact (show va_P (dC, dI) classes (([(oc8 x (.ref sh) (.ref lw) (.ref ro) (.ref bq) (.ref bp) (.ref dq) (.ref dp) (.ref lv) (.ref sl) ds sd ul su), (oc7 sh (.ref fa) (nI ft)), (oq fa cF 200 FA)] ++ [(oc1 fe3 (rk g0) (wd g0) (tw g0) (pa g0) (pb g0) (.ref lo3) (.ref lk3) fm3), (oc4 lk3 (kd g0) (st g0) (.ref r3) (gb g0) (it g0) we3)]) ++ va_pl T_2 f) H from hP)) hc9_2
          have hD : va_D A ([(oc8 x (.ref sh) (.ref lw) (.ref ro) (.ref bq) (.ref bp) (.ref dq) (.ref dp) (.ref lv) (.ref sl) ds sd ul su), (oc7 sh (.ref fa) (nI ft)), (oq fa cF 200 FA)] ++ va_pl L f) := vaD_ae hD0_2 rfl
          refine lv_astore (lv' := [(5, .ref r3), (4, .null), (0, .ref x), (1, .int (nI f0)), (2, .int (nI g0)), (3, .int wv)]) hx hb dX10_near_18 hl (Nat.le_of_ble_eq_true rfl) rfl (fun ls hl => ?_)
          refine lv_aloadN hx hb dX10_near_20 (lv_at hl 1 rfl) ?_
          refine lv_ifnullN (tgt := 39) hx hb dX10_near_22 rfl ?_
          refine lv_ldc2 hx hb hown (hts _ mw_1077) dX10_near_39 ?_
          obtain ⟨hP9, hD9⟩ := zq_part (cx := [(oc8 x (.ref sh) (.ref lw) (.ref ro) (.ref bq) (.ref bp) (.ref dq) (.ref dp) (.ref lv) (.ref sl) ds sd ul su), (oc7 sh (.ref fa) (nI ft)), (oq fa cF 200 FA)]) hP hD [0, 1, 2] rfl rfl
          rw [hQ9]
          exact W.lret (v := (-1)) hx hb hr (fun t ht hW => ⟨⟨rfl, by rw [ht]; exact hP9, hD9⟩, hS.F ht⟩) hS.2.2 dX10_near_42
        · skip
          refine va_get (D := (dC, dI)) (ci := 8) (v := .ref sh) (C := RX10) (T := TX10) (N := 13) hx hb hts inX10 hown hK hP 0 rfl rfl 0 (Nat.le_of_ble_eq_true rfl) (hts _ mw_309) (fun _ h9 => h9) rfl dX10_near_11 ?_
          have hc9_2 : inPl L f [(oc1 fe3 (rk g0) (wd g0) (tw g0) (pa g0) (pb g0) (.ref lo3) (.ref lk3) fm3), (oc4 lk3 (kd g0) (st g0) (.ref r3) (gb g0) (it g0) we3)] := ⟨hfe3, hlk3, trivial⟩
          have hD0_2 := hD
          obtain ⟨hP, hD⟩ := pl_out hP hD [(oc1 fe3 (rk g0) (wd g0) (tw g0) (pa g0) (pb g0) (.ref lo3) (.ref lk3) fm3), (oc4 lk3 (kd g0) (st g0) (.ref r3) (gb g0) (it g0) we3)] hc9_2 (pwF hfe3.2 hlk3.2)
          generalize hT_2 : outPl L [(oc1 fe3 (rk g0) (wd g0) (tw g0) (pa g0) (pb g0) (.ref lo3) (.ref lk3) fm3), (oc4 lk3 (kd g0) (st g0) (.ref r3) (gb g0) (it g0) we3)] = T_2 at hP hD
          obtain ⟨hP, hD⟩ : zPD (dC, dI) classes A ([(oc8 x (.ref sh) (.ref lw) (.ref ro) (.ref bq) (.ref bp) (.ref dq) (.ref dp) (.ref lv) (.ref sl) ds sd ul su), (oc7 sh (.ref fa) (nI ft)), (oq fa cF 200 FA), (oc1 fe3 (rk g0) (wd g0) (tw g0) (pa g0) (pb g0) (.ref lo3) (.ref lk3) fm3), (oc4 lk3 (kd g0) (st g0) (.ref r3) (gb g0) (it g0) we3)] ++ va_pl T_2 f) H := ⟨hP, hD⟩
          refine lv_iload_n hx hb dX10_near_14 rfl (lv_at hl 3 rfl) ?_
          obtain ⟨hPc, hDc, hFc⟩ := zc_sub (wc := [(oc7 sh (.ref fa) (nI ft)), (oq fa cF 200 FA), (oc1 fe3 (rk g0) (wd g0) (tw g0) (pa g0) (pb g0) (.ref lo3) (.ref lk3) fm3), (oc4 lk3 (kd g0) (st g0) (.ref r3) (gb g0) (it g0) we3)]) hP hD hS hA [1, 2, 3, 4] rfl rfl
          refine zcall (st1 := [.null]) (va_runV (As := [.int (nI g0)]) (rest := []) ⟨hx, hb, hml, hown, hts⟩ (k_Sheet_rowThere_sv l dC dI cI cZ cF H.size sh fa ft FA g0 fe3 lo3 (rk g0) (wd g0) (tw g0) (pa g0) (pb g0) lk3 (kd g0) (st g0) (gb g0) (it g0) we3 fm3 (.ref r3) (h200) (by first | with_reducible assumption | omega) (hFA3) (by first | exact hA3 | omega)) (csV_144 hts rfl rfl ⟨Nat.le_of_ble_eq_true rfl, Nat.le_of_ble_eq_true rfl⟩) (zPV2 (q0 := 0) (ci := 7) hPc hDc hK hXN rfl rfl) rfl rfl hl.1 rfl (lv_room (Nat.le_of_ble_eq_true rfl)) dX10_near_15 ⟨Nat.le_of_ble_eq_true rfl, Nat.le_of_ble_eq_true rfl⟩) hS hFc hFc rfl (fun t H locs ht hB hk1 hS => ?_)
          obtain ⟨hP1, hD1⟩ := hB
          rw [ht] at hP1
          obtain ⟨hP, hD⟩ := zkQ (W2 := [(oc8 x (.ref sh) (.ref lw) (.ref ro) (.ref bq) (.ref bp) (.ref dq) (.ref dp) (.ref lv) (.ref sl) ds sd ul su), (oc7 sh (.ref fa) (nI ft)), (oq fa cF 200 FA), (oc1 fe3 (rk g0) (wd g0) (tw g0) (pa g0) (pb g0) (.ref lo3) (.ref lk3) fm3), (oc4 lk3 (kd g0) (st g0) (.ref r3) (gb g0) (it g0) we3)]) hP hD [1, 2, 3, 4] [0] [0] [1, 2, 3, 4] [0, 1, 2, 3, 4] 5 rfl rfl rfl rfl rfl rfl rfl rfl rfl hk1 hFc hP1 hD1
          clear hk1 hPc hDc hFc hP1 hD1 ht
          have hP := pl_back (cs := [(oc1 fe3 (rk g0) (wd g0) (tw g0) (pa g0) (pb g0) (.ref lo3) (.ref lk3) fm3), (oc4 lk3 (kd g0) (st g0) (.ref r3) (gb g0) (it g0) we3)]) (L := L) (f := f) (X := [(oc8 x (.ref sh) (.ref lw) (.ref ro) (.ref bq) (.ref bp) (.ref dq) (.ref dp) (.ref lv) (.ref sl) ds sd ul su), (oc7 sh (.ref fa) (nI ft)), (oq fa cF 200 FA)]) (by rw [hT_2]; exact (show va_P (dC, dI) classes (([(oc8 x (.ref sh) (.ref lw) (.ref ro) (.ref bq) (.ref bp) (.ref dq) (.ref dp) (.ref lv) (.ref sl) ds sd ul su), (oc7 sh (.ref fa) (nI ft)), (oq fa cF 200 FA)] ++ [(oc1 fe3 (rk g0) (wd g0) (tw g0) (pa g0) (pb g0) (.ref lo3) (.ref lk3) fm3), (oc4 lk3 (kd g0) (st g0) (.ref r3) (gb g0) (it g0) we3)]) ++ va_pl T_2 f) H from hP)) hc9_2
          have hD : va_D A ([(oc8 x (.ref sh) (.ref lw) (.ref ro) (.ref bq) (.ref bp) (.ref dq) (.ref dp) (.ref lv) (.ref sl) ds sd ul su), (oc7 sh (.ref fa) (nI ft)), (oq fa cF 200 FA)] ++ va_pl L f) := vaD_ae hD0_2 rfl
          refine lv_astoreN (lv' := [(5, .null), (4, .null), (0, .ref x), (1, .int (nI f0)), (2, .int (nI g0)), (3, .int wv)]) hx hb dX10_near_18 hl (Nat.le_of_ble_eq_true rfl) rfl (fun ls hl => ?_)
          refine lv_aloadN hx hb dX10_near_20 (lv_at hl 1 rfl) ?_
          refine lv_ifnullN (tgt := 39) hx hb dX10_near_22 rfl ?_
          refine lv_ldc2 hx hb hown (hts _ mw_1077) dX10_near_39 ?_
          obtain ⟨hP9, hD9⟩ := zq_part (cx := [(oc8 x (.ref sh) (.ref lw) (.ref ro) (.ref bq) (.ref bp) (.ref dq) (.ref dp) (.ref lv) (.ref sl) ds sd ul su), (oc7 sh (.ref fa) (nI ft)), (oq fa cF 200 FA)]) hP hD [0, 1, 2] rfl rfl
          rw [hQ9]
          exact W.lret (v := (-1)) hx hb hr (fun t ht hW => ⟨⟨rfl, by rw [ht]; exact hP9, hD9⟩, hS.F ht⟩) hS.2.2 dX10_near_42
    · skip
      refine va_get (D := (dC, dI)) (ci := 8) (v := .ref sh) (C := RX10) (T := TX10) (N := 13) hx hb hts inX10 hown hK hP 0 rfl rfl 0 (Nat.le_of_ble_eq_true rfl) (hts _ mw_309) (fun _ h9 => h9) rfl dX10_near_1 ?_
      have hc9_1 : inPl L f [(oc1 fe2 (rk f0) (wd f0) (tw f0) (pa f0) (pb f0) (.ref lo2) (.ref lk2) fm2), (oc4 lk2 (kd f0) (st f0) (.ref r2) (gb f0) (it f0) we2)] := ⟨hfe2, hlk2, trivial⟩
      have hD0_1 := hD
      obtain ⟨hP, hD⟩ := pl_out hP hD [(oc1 fe2 (rk f0) (wd f0) (tw f0) (pa f0) (pb f0) (.ref lo2) (.ref lk2) fm2), (oc4 lk2 (kd f0) (st f0) (.ref r2) (gb f0) (it f0) we2)] hc9_1 (pwF hfe2.2 hlk2.2)
      generalize hT_1 : outPl L [(oc1 fe2 (rk f0) (wd f0) (tw f0) (pa f0) (pb f0) (.ref lo2) (.ref lk2) fm2), (oc4 lk2 (kd f0) (st f0) (.ref r2) (gb f0) (it f0) we2)] = T_1 at hP hD
      obtain ⟨hP, hD⟩ : zPD (dC, dI) classes A ([(oc8 x (.ref sh) (.ref lw) (.ref ro) (.ref bq) (.ref bp) (.ref dq) (.ref dp) (.ref lv) (.ref sl) ds sd ul su), (oc7 sh (.ref fa) (nI ft)), (oq fa cF 200 FA), (oc1 fe2 (rk f0) (wd f0) (tw f0) (pa f0) (pb f0) (.ref lo2) (.ref lk2) fm2), (oc4 lk2 (kd f0) (st f0) (.ref r2) (gb f0) (it f0) we2)] ++ va_pl T_1 f) s.heap := ⟨hP, hD⟩
      refine lv_iload_n hx hb dX10_near_4 rfl (lv_at hl 1 rfl) ?_
      obtain ⟨hPc, hDc, hFc⟩ := zc_sub (wc := [(oc7 sh (.ref fa) (nI ft)), (oq fa cF 200 FA), (oc1 fe2 (rk f0) (wd f0) (tw f0) (pa f0) (pb f0) (.ref lo2) (.ref lk2) fm2), (oc4 lk2 (kd f0) (st f0) (.ref r2) (gb f0) (it f0) we2)]) hP hD hS hA [1, 2, 3, 4] rfl rfl
      refine zcall (st1 := [.ref r2]) (va_runV (As := [.int (nI f0)]) (rest := []) ⟨hx, hb, hml, hown, hts⟩ (k_Sheet_rowThere_yv l dC dI cI cZ cF s.heap.size sh fa ft FA f0 fe2 lo2 (rk f0) (wd f0) (tw f0) (pa f0) (pb f0) lk2 (kd f0) (st f0) (gb f0) (it f0) we2 r2 fm2 (h200) (by first | with_reducible assumption | omega) (hFA2) (by first | exact hA2 | omega)) (csV_144 hts rfl rfl ⟨Nat.le_of_ble_eq_true rfl, Nat.le_of_ble_eq_true rfl⟩) (zPV2 (q0 := 0) (ci := 7) hPc hDc hK hXN rfl rfl) rfl rfl hl.1 rfl (lv_room (Nat.le_of_ble_eq_true rfl)) dX10_near_5 ⟨Nat.le_of_ble_eq_true rfl, Nat.le_of_ble_eq_true rfl⟩) hS hFc hFc rfl (fun t H locs ht hB hk1 hS => ?_)
      obtain ⟨hP1, hD1⟩ := hB
      rw [ht] at hP1
      obtain ⟨hP, hD⟩ := zkQ (W2 := [(oc8 x (.ref sh) (.ref lw) (.ref ro) (.ref bq) (.ref bp) (.ref dq) (.ref dp) (.ref lv) (.ref sl) ds sd ul su), (oc7 sh (.ref fa) (nI ft)), (oq fa cF 200 FA), (oc1 fe2 (rk f0) (wd f0) (tw f0) (pa f0) (pb f0) (.ref lo2) (.ref lk2) fm2), (oc4 lk2 (kd f0) (st f0) (.ref r2) (gb f0) (it f0) we2)]) hP hD [1, 2, 3, 4] [0] [0] [1, 2, 3, 4] [0, 1, 2, 3, 4] 5 rfl rfl rfl rfl rfl rfl rfl rfl rfl hk1 hFc hP1 hD1
      clear hk1 hPc hDc hFc hP1 hD1 ht
      have hP := pl_back (cs := [(oc1 fe2 (rk f0) (wd f0) (tw f0) (pa f0) (pb f0) (.ref lo2) (.ref lk2) fm2), (oc4 lk2 (kd f0) (st f0) (.ref r2) (gb f0) (it f0) we2)]) (L := L) (f := f) (X := [(oc8 x (.ref sh) (.ref lw) (.ref ro) (.ref bq) (.ref bp) (.ref dq) (.ref dp) (.ref lv) (.ref sl) ds sd ul su), (oc7 sh (.ref fa) (nI ft)), (oq fa cF 200 FA)]) (by rw [hT_1]; exact (show va_P (dC, dI) classes (([(oc8 x (.ref sh) (.ref lw) (.ref ro) (.ref bq) (.ref bp) (.ref dq) (.ref dp) (.ref lv) (.ref sl) ds sd ul su), (oc7 sh (.ref fa) (nI ft)), (oq fa cF 200 FA)] ++ [(oc1 fe2 (rk f0) (wd f0) (tw f0) (pa f0) (pb f0) (.ref lo2) (.ref lk2) fm2), (oc4 lk2 (kd f0) (st f0) (.ref r2) (gb f0) (it f0) we2)]) ++ va_pl T_1 f) H from hP)) hc9_1
      have hD : va_D A ([(oc8 x (.ref sh) (.ref lw) (.ref ro) (.ref bq) (.ref bp) (.ref dq) (.ref dp) (.ref lv) (.ref sl) ds sd ul su), (oc7 sh (.ref fa) (nI ft)), (oq fa cF 200 FA)] ++ va_pl L f) := vaD_ae hD0_1 rfl
      refine lv_astore (lv' := [(4, .ref r2), (0, .ref x), (1, .int (nI f0)), (2, .int w), (3, .int wv)]) hx hb dX10_near_8 hl (Nat.le_of_ble_eq_true rfl) rfl (fun ls hl => ?_)
      rcases v_c (v := w) (ft := ft) h200 with hb3 | ⟨g0, hq3, rfl⟩
      · skip
        refine lv_aload_n hx hb dX10_near_10 rfl (lv_at hl 1 rfl) ?_
        refine va_get (D := (dC, dI)) (ci := 8) (v := .ref sh) (C := RX10) (T := TX10) (N := 13) hx hb hts inX10 hown hK hP 0 rfl rfl 0 (Nat.le_of_ble_eq_true rfl) (hts _ mw_309) (fun _ h9 => h9) rfl dX10_near_11 ?_
        refine lv_iload_n hx hb dX10_near_14 rfl (lv_at hl 3 rfl) ?_
        obtain ⟨hPc, hDc, hFc⟩ := zc_sub (wc := [(oc7 sh (.ref fa) (nI ft)), (oq fa cF 200 FA)]) hP hD hS hA [1, 2] rfl rfl
        refine zcall (st1 := [.null]) (va_runV (As := [.int w]) (rest := []) ⟨hx, hb, hml, hown, hts⟩ (k_Sheet_rowThere_x l dC dI cI cZ cF H.size sh fa ft FA w (h200) (hb3)) (csV_144 hts rfl rfl ⟨Nat.le_of_ble_eq_true rfl, Nat.le_of_ble_eq_true rfl⟩) (zPV2 (q0 := 0) (ci := 7) hPc hDc hK hXN rfl rfl) rfl rfl hl.1 rfl (lv_room (Nat.le_of_ble_eq_true rfl)) dX10_near_15 ⟨Nat.le_of_ble_eq_true rfl, Nat.le_of_ble_eq_true rfl⟩) hS hFc hFc rfl (fun t H locs ht hB hk1 hS => ?_)
        obtain ⟨hP1, hD1⟩ := hB
        rw [ht] at hP1
        obtain ⟨hP, hD⟩ := zkQ (W2 := [(oc8 x (.ref sh) (.ref lw) (.ref ro) (.ref bq) (.ref bp) (.ref dq) (.ref dp) (.ref lv) (.ref sl) ds sd ul su), (oc7 sh (.ref fa) (nI ft)), (oq fa cF 200 FA)]) hP hD [1, 2] [0] [0] [1, 2] [0, 1, 2] 3 rfl rfl rfl rfl rfl rfl rfl rfl rfl hk1 hFc hP1 hD1
        clear hk1 hPc hDc hFc hP1 hD1 ht
        refine lv_astoreN (lv' := [(5, .null), (4, .ref r2), (0, .ref x), (1, .int (nI f0)), (2, .int w), (3, .int wv)]) hx hb dX10_near_18 hl (Nat.le_of_ble_eq_true rfl) rfl (fun ls hl => ?_)
        refine lv_aload hx hb dX10_near_20 (lv_at hl 1 rfl) ?_
        refine lv_ifnull hx hb dX10_near_22 ?_
        refine lv_aloadN hx hb dX10_near_25 (lv_at hl 0 rfl) ?_
        refine lv_ifnullN (tgt := 39) hx hb dX10_near_27 rfl ?_
        refine lv_ldc2 hx hb hown (hts _ mw_1077) dX10_near_39 ?_
        obtain ⟨hP9, hD9⟩ := zq_part (cx := [(oc8 x (.ref sh) (.ref lw) (.ref ro) (.ref bq) (.ref bp) (.ref dq) (.ref dp) (.ref lv) (.ref sl) ds sd ul su), (oc7 sh (.ref fa) (nI ft)), (oq fa cF 200 FA)]) hP hD [0, 1, 2] rfl rfl
        rw [hQ9]
        exact W.lret (v := (-1)) hx hb hr (fun t ht hW => ⟨⟨rfl, by rw [ht]; exact hP9, hD9⟩, hS.F ht⟩) hS.2.2 dX10_near_42
      · skip
        refine lv_aload_n hx hb dX10_near_10 rfl (lv_at hl 1 rfl) ?_
        rcases vwA_3 (P9 := ((st g0).toInt = 1)) (hva g0 (by omega)) with ⟨ht3, fe3, lk3, lo3, we3, fm3, hFA3, hfe3, hlk3⟩ | ⟨ht3, hA3, fe3, lk3, lo3, we3, fm3, r3, rx3, ry3, cap3, U3, V3, rg3, hFA3, hfe3, hlk3, ⟨hr3, hrx3, hry3, hne3⟩, hrr3⟩ | ⟨ht3, hA3, fe3, lk3, lo3, we3, fm3, r3, rx3, ry3, cap3, U3, V3, rg3, hFA3, hfe3, hlk3, ⟨hr3, hrx3, hry3, hne3⟩, hrr3⟩
        · skip
          refine va_get (D := (dC, dI)) (ci := 8) (v := .ref sh) (C := RX10) (T := TX10) (N := 13) hx hb hts inX10 hown hK hP 0 rfl rfl 0 (Nat.le_of_ble_eq_true rfl) (hts _ mw_309) (fun _ h9 => h9) rfl dX10_near_11 ?_
          have hc9_2 : inPl L f [(oc1 fe3 (rk g0) (wd g0) (tw g0) (pa g0) (pb g0) (.ref lo3) (.ref lk3) fm3), (oc4 lk3 (kd g0) (st g0) .null (gb g0) (it g0) we3)] := ⟨hfe3, hlk3, trivial⟩
          have hD0_2 := hD
          obtain ⟨hP, hD⟩ := pl_out hP hD [(oc1 fe3 (rk g0) (wd g0) (tw g0) (pa g0) (pb g0) (.ref lo3) (.ref lk3) fm3), (oc4 lk3 (kd g0) (st g0) .null (gb g0) (it g0) we3)] hc9_2 (pwF hfe3.2 hlk3.2)
          generalize hT_2 : outPl L [(oc1 fe3 (rk g0) (wd g0) (tw g0) (pa g0) (pb g0) (.ref lo3) (.ref lk3) fm3), (oc4 lk3 (kd g0) (st g0) .null (gb g0) (it g0) we3)] = T_2 at hP hD
          obtain ⟨hP, hD⟩ : zPD (dC, dI) classes A ([(oc8 x (.ref sh) (.ref lw) (.ref ro) (.ref bq) (.ref bp) (.ref dq) (.ref dp) (.ref lv) (.ref sl) ds sd ul su), (oc7 sh (.ref fa) (nI ft)), (oq fa cF 200 FA), (oc1 fe3 (rk g0) (wd g0) (tw g0) (pa g0) (pb g0) (.ref lo3) (.ref lk3) fm3), (oc4 lk3 (kd g0) (st g0) .null (gb g0) (it g0) we3)] ++ va_pl T_2 f) H := ⟨hP, hD⟩
          refine lv_iload_n hx hb dX10_near_14 rfl (lv_at hl 3 rfl) ?_
          obtain ⟨hPc, hDc, hFc⟩ := zc_sub (wc := [(oc7 sh (.ref fa) (nI ft)), (oq fa cF 200 FA), (oc1 fe3 (rk g0) (wd g0) (tw g0) (pa g0) (pb g0) (.ref lo3) (.ref lk3) fm3), (oc4 lk3 (kd g0) (st g0) .null (gb g0) (it g0) we3)]) hP hD hS hA [1, 2, 3, 4] rfl rfl
          refine zcall (st1 := [.null]) (va_runV (As := [.int (nI g0)]) (rest := []) ⟨hx, hb, hml, hown, hts⟩ (k_Sheet_rowThere_tv l dC dI cI cZ cF H.size sh fa ft FA g0 fe3 lo3 (rk g0) (wd g0) (tw g0) (pa g0) (pb g0) lk3 (kd g0) (st g0) (gb g0) (it g0) we3 fm3 (h200) (by first | with_reducible assumption | omega) (hFA3)) (csV_144 hts rfl rfl ⟨Nat.le_of_ble_eq_true rfl, Nat.le_of_ble_eq_true rfl⟩) (zPV2 (q0 := 0) (ci := 7) hPc hDc hK hXN rfl rfl) rfl rfl hl.1 rfl (lv_room (Nat.le_of_ble_eq_true rfl)) dX10_near_15 ⟨Nat.le_of_ble_eq_true rfl, Nat.le_of_ble_eq_true rfl⟩) hS hFc hFc rfl (fun t H locs ht hB hk1 hS => ?_)
          obtain ⟨hP1, hD1⟩ := hB
          rw [ht] at hP1
          obtain ⟨hP, hD⟩ := zkQ (W2 := [(oc8 x (.ref sh) (.ref lw) (.ref ro) (.ref bq) (.ref bp) (.ref dq) (.ref dp) (.ref lv) (.ref sl) ds sd ul su), (oc7 sh (.ref fa) (nI ft)), (oq fa cF 200 FA), (oc1 fe3 (rk g0) (wd g0) (tw g0) (pa g0) (pb g0) (.ref lo3) (.ref lk3) fm3), (oc4 lk3 (kd g0) (st g0) .null (gb g0) (it g0) we3)]) hP hD [1, 2, 3, 4] [0] [0] [1, 2, 3, 4] [0, 1, 2, 3, 4] 5 rfl rfl rfl rfl rfl rfl rfl rfl rfl hk1 hFc hP1 hD1
          clear hk1 hPc hDc hFc hP1 hD1 ht
          have hP := pl_back (cs := [(oc1 fe3 (rk g0) (wd g0) (tw g0) (pa g0) (pb g0) (.ref lo3) (.ref lk3) fm3), (oc4 lk3 (kd g0) (st g0) .null (gb g0) (it g0) we3)]) (L := L) (f := f) (X := [(oc8 x (.ref sh) (.ref lw) (.ref ro) (.ref bq) (.ref bp) (.ref dq) (.ref dp) (.ref lv) (.ref sl) ds sd ul su), (oc7 sh (.ref fa) (nI ft)), (oq fa cF 200 FA)]) (by rw [hT_2]; exact (show va_P (dC, dI) classes (([(oc8 x (.ref sh) (.ref lw) (.ref ro) (.ref bq) (.ref bp) (.ref dq) (.ref dp) (.ref lv) (.ref sl) ds sd ul su), (oc7 sh (.ref fa) (nI ft)), (oq fa cF 200 FA)] ++ [(oc1 fe3 (rk g0) (wd g0) (tw g0) (pa g0) (pb g0) (.ref lo3) (.ref lk3) fm3), (oc4 lk3 (kd g0) (st g0) .null (gb g0) (it g0) we3)]) ++ va_pl T_2 f) H from hP)) hc9_2
          have hD : va_D A ([(oc8 x (.ref sh) (.ref lw) (.ref ro) (.ref bq) (.ref bp) (.ref dq) (.ref dp) (.ref lv) (.ref sl) ds sd ul su), (oc7 sh (.ref fa) (nI ft)), (oq fa cF 200 FA)] ++ va_pl L f) := vaD_ae hD0_2 rfl
          refine lv_astoreN (lv' := [(5, .null), (4, .ref r2), (0, .ref x), (1, .int (nI f0)), (2, .int (nI g0)), (3, .int wv)]) hx hb dX10_near_18 hl (Nat.le_of_ble_eq_true rfl) rfl (fun ls hl => ?_)
          refine lv_aload hx hb dX10_near_20 (lv_at hl 1 rfl) ?_
          refine lv_ifnull hx hb dX10_near_22 ?_
          refine lv_aloadN hx hb dX10_near_25 (lv_at hl 0 rfl) ?_
          refine lv_ifnullN (tgt := 39) hx hb dX10_near_27 rfl ?_
          refine lv_ldc2 hx hb hown (hts _ mw_1077) dX10_near_39 ?_
          obtain ⟨hP9, hD9⟩ := zq_part (cx := [(oc8 x (.ref sh) (.ref lw) (.ref ro) (.ref bq) (.ref bp) (.ref dq) (.ref dp) (.ref lv) (.ref sl) ds sd ul su), (oc7 sh (.ref fa) (nI ft)), (oq fa cF 200 FA)]) hP hD [0, 1, 2] rfl rfl
          rw [hQ9]
          exact W.lret (v := (-1)) hx hb hr (fun t ht hW => ⟨⟨rfl, by rw [ht]; exact hP9, hD9⟩, hS.F ht⟩) hS.2.2 dX10_near_42
        · skip
          refine va_get (D := (dC, dI)) (ci := 8) (v := .ref sh) (C := RX10) (T := TX10) (N := 13) hx hb hts inX10 hown hK hP 0 rfl rfl 0 (Nat.le_of_ble_eq_true rfl) (hts _ mw_309) (fun _ h9 => h9) rfl dX10_near_11 ?_
          have hc9_2 : inPl L f [(oc1 fe3 (rk g0) (wd g0) (tw g0) (pa g0) (pb g0) (.ref lo3) (.ref lk3) fm3), (oc4 lk3 (kd g0) (st g0) (.ref r3) (gb g0) (it g0) we3)] := ⟨hfe3, hlk3, trivial⟩
          have hD0_2 := hD
          obtain ⟨hP, hD⟩ := pl_out hP hD [(oc1 fe3 (rk g0) (wd g0) (tw g0) (pa g0) (pb g0) (.ref lo3) (.ref lk3) fm3), (oc4 lk3 (kd g0) (st g0) (.ref r3) (gb g0) (it g0) we3)] hc9_2 (pwF hfe3.2 hlk3.2)
          generalize hT_2 : outPl L [(oc1 fe3 (rk g0) (wd g0) (tw g0) (pa g0) (pb g0) (.ref lo3) (.ref lk3) fm3), (oc4 lk3 (kd g0) (st g0) (.ref r3) (gb g0) (it g0) we3)] = T_2 at hP hD
          obtain ⟨hP, hD⟩ : zPD (dC, dI) classes A ([(oc8 x (.ref sh) (.ref lw) (.ref ro) (.ref bq) (.ref bp) (.ref dq) (.ref dp) (.ref lv) (.ref sl) ds sd ul su), (oc7 sh (.ref fa) (nI ft)), (oq fa cF 200 FA), (oc1 fe3 (rk g0) (wd g0) (tw g0) (pa g0) (pb g0) (.ref lo3) (.ref lk3) fm3), (oc4 lk3 (kd g0) (st g0) (.ref r3) (gb g0) (it g0) we3)] ++ va_pl T_2 f) H := ⟨hP, hD⟩
          refine lv_iload_n hx hb dX10_near_14 rfl (lv_at hl 3 rfl) ?_
          obtain ⟨hPc, hDc, hFc⟩ := zc_sub (wc := [(oc7 sh (.ref fa) (nI ft)), (oq fa cF 200 FA), (oc1 fe3 (rk g0) (wd g0) (tw g0) (pa g0) (pb g0) (.ref lo3) (.ref lk3) fm3), (oc4 lk3 (kd g0) (st g0) (.ref r3) (gb g0) (it g0) we3)]) hP hD hS hA [1, 2, 3, 4] rfl rfl
          refine zcall (st1 := [.ref r3]) (va_runV (As := [.int (nI g0)]) (rest := []) ⟨hx, hb, hml, hown, hts⟩ (k_Sheet_rowThere_yv l dC dI cI cZ cF H.size sh fa ft FA g0 fe3 lo3 (rk g0) (wd g0) (tw g0) (pa g0) (pb g0) lk3 (kd g0) (st g0) (gb g0) (it g0) we3 r3 fm3 (h200) (by first | with_reducible assumption | omega) (hFA3) (by first | exact hA3 | omega)) (csV_144 hts rfl rfl ⟨Nat.le_of_ble_eq_true rfl, Nat.le_of_ble_eq_true rfl⟩) (zPV2 (q0 := 0) (ci := 7) hPc hDc hK hXN rfl rfl) rfl rfl hl.1 rfl (lv_room (Nat.le_of_ble_eq_true rfl)) dX10_near_15 ⟨Nat.le_of_ble_eq_true rfl, Nat.le_of_ble_eq_true rfl⟩) hS hFc hFc rfl (fun t H locs ht hB hk1 hS => ?_)
          obtain ⟨hP1, hD1⟩ := hB
          rw [ht] at hP1
          obtain ⟨hP, hD⟩ := zkQ (W2 := [(oc8 x (.ref sh) (.ref lw) (.ref ro) (.ref bq) (.ref bp) (.ref dq) (.ref dp) (.ref lv) (.ref sl) ds sd ul su), (oc7 sh (.ref fa) (nI ft)), (oq fa cF 200 FA), (oc1 fe3 (rk g0) (wd g0) (tw g0) (pa g0) (pb g0) (.ref lo3) (.ref lk3) fm3), (oc4 lk3 (kd g0) (st g0) (.ref r3) (gb g0) (it g0) we3)]) hP hD [1, 2, 3, 4] [0] [0] [1, 2, 3, 4] [0, 1, 2, 3, 4] 5 rfl rfl rfl rfl rfl rfl rfl rfl rfl hk1 hFc hP1 hD1
          clear hk1 hPc hDc hFc hP1 hD1 ht
          have hP := pl_back (cs := [(oc1 fe3 (rk g0) (wd g0) (tw g0) (pa g0) (pb g0) (.ref lo3) (.ref lk3) fm3), (oc4 lk3 (kd g0) (st g0) (.ref r3) (gb g0) (it g0) we3)]) (L := L) (f := f) (X := [(oc8 x (.ref sh) (.ref lw) (.ref ro) (.ref bq) (.ref bp) (.ref dq) (.ref dp) (.ref lv) (.ref sl) ds sd ul su), (oc7 sh (.ref fa) (nI ft)), (oq fa cF 200 FA)]) (by rw [hT_2]; exact (show va_P (dC, dI) classes (([(oc8 x (.ref sh) (.ref lw) (.ref ro) (.ref bq) (.ref bp) (.ref dq) (.ref dp) (.ref lv) (.ref sl) ds sd ul su), (oc7 sh (.ref fa) (nI ft)), (oq fa cF 200 FA)] ++ [(oc1 fe3 (rk g0) (wd g0) (tw g0) (pa g0) (pb g0) (.ref lo3) (.ref lk3) fm3), (oc4 lk3 (kd g0) (st g0) (.ref r3) (gb g0) (it g0) we3)]) ++ va_pl T_2 f) H from hP)) hc9_2
          have hD : va_D A ([(oc8 x (.ref sh) (.ref lw) (.ref ro) (.ref bq) (.ref bp) (.ref dq) (.ref dp) (.ref lv) (.ref sl) ds sd ul su), (oc7 sh (.ref fa) (nI ft)), (oq fa cF 200 FA)] ++ va_pl L f) := vaD_ae hD0_2 rfl
          refine lv_astore (lv' := [(5, .ref r3), (4, .ref r2), (0, .ref x), (1, .int (nI f0)), (2, .int (nI g0)), (3, .int wv)]) hx hb dX10_near_18 hl (Nat.le_of_ble_eq_true rfl) rfl (fun ls hl => ?_)
          refine lv_aload hx hb dX10_near_20 (lv_at hl 1 rfl) ?_
          refine lv_ifnull hx hb dX10_near_22 ?_
          refine lv_aload hx hb dX10_near_25 (lv_at hl 0 rfl) ?_
          refine lv_ifnull hx hb dX10_near_27 ?_
          refine lv_iload_n hx hb dX10_near_30 rfl (lv_at hl 5 rfl) ?_
          refine lv_iconst (v := 0) hx hb dX10_near_31 rfl ?_
          refine lv_iconst (v := 1) hx hb dX10_near_32 rfl ?_
          obtain ⟨hPc, hDc, hFc⟩ := zc_sub (wc := []) hP hD hS hA [] rfl rfl
          refine zcall (st1 := [.int (pI ((0 : Int32).toInt ≤ wv.toInt ∧ wv.toInt ≤ (1 : Int32).toInt))]) (va_runS (As := [.int wv, .int 0, .int 1]) (rest := []) ⟨hx, hb, hml, hown, hts⟩ (k_isWithin l dC dI cI cZ cF H.size wv 0 1 ) (csS_14 hts rfl rfl ⟨Nat.le_of_ble_eq_true rfl, Nat.le_of_ble_eq_true rfl⟩) (zPS2 hPc hDc hK hXN) rfl rfl hl.1 rfl (lv_room (Nat.le_of_ble_eq_true rfl)) dX10_near_33 ⟨Nat.le_of_ble_eq_true rfl, Nat.le_of_ble_eq_true rfl⟩) hS hFc hFc rfl (fun t H locs ht hB hk1 hS => ?_)
          obtain ⟨hP1, hD1⟩ := hB
          rw [ht] at hP1
          obtain ⟨hP, hD⟩ := zkQ (W2 := [(oc8 x (.ref sh) (.ref lw) (.ref ro) (.ref bq) (.ref bp) (.ref dq) (.ref dp) (.ref lv) (.ref sl) ds sd ul su), (oc7 sh (.ref fa) (nI ft)), (oq fa cF 200 FA)]) hP hD [] [0, 1, 2] [0, 1, 2] [] [0, 1, 2] 3 rfl rfl rfl rfl rfl rfl rfl rfl rfl hk1 hFc hP1 hD1
          clear hk1 hPc hDc hFc hP1 hD1 ht
          refine lv_if_ne (tgt := 43) hx hb dX10_near_36 rfl (fun c_1 => ?_) (fun c_1 => ?_)
          · have c_1 : (0 : Int32).toInt ≤ wv.toInt ∧ wv.toInt ≤ (1 : Int32).toInt := zp_1 c_1
            exfalso; omega
          · have c_1 : ¬ ((0 : Int32).toInt ≤ wv.toInt ∧ wv.toInt ≤ (1 : Int32).toInt) := zp_0 c_1
            refine lv_ldc2 hx hb hown (hts _ mw_1077) dX10_near_39 ?_
            obtain ⟨hP9, hD9⟩ := zq_part (cx := [(oc8 x (.ref sh) (.ref lw) (.ref ro) (.ref bq) (.ref bp) (.ref dq) (.ref dp) (.ref lv) (.ref sl) ds sd ul su), (oc7 sh (.ref fa) (nI ft)), (oq fa cF 200 FA)]) hP hD [0, 1, 2] rfl rfl
            rw [hQ9]
            exact W.lret (v := (-1)) hx hb hr (fun t ht hW => ⟨⟨rfl, by rw [ht]; exact hP9, hD9⟩, hS.F ht⟩) hS.2.2 dX10_near_42
        · skip
          refine va_get (D := (dC, dI)) (ci := 8) (v := .ref sh) (C := RX10) (T := TX10) (N := 13) hx hb hts inX10 hown hK hP 0 rfl rfl 0 (Nat.le_of_ble_eq_true rfl) (hts _ mw_309) (fun _ h9 => h9) rfl dX10_near_11 ?_
          have hc9_2 : inPl L f [(oc1 fe3 (rk g0) (wd g0) (tw g0) (pa g0) (pb g0) (.ref lo3) (.ref lk3) fm3), (oc4 lk3 (kd g0) (st g0) (.ref r3) (gb g0) (it g0) we3)] := ⟨hfe3, hlk3, trivial⟩
          have hD0_2 := hD
          obtain ⟨hP, hD⟩ := pl_out hP hD [(oc1 fe3 (rk g0) (wd g0) (tw g0) (pa g0) (pb g0) (.ref lo3) (.ref lk3) fm3), (oc4 lk3 (kd g0) (st g0) (.ref r3) (gb g0) (it g0) we3)] hc9_2 (pwF hfe3.2 hlk3.2)
          generalize hT_2 : outPl L [(oc1 fe3 (rk g0) (wd g0) (tw g0) (pa g0) (pb g0) (.ref lo3) (.ref lk3) fm3), (oc4 lk3 (kd g0) (st g0) (.ref r3) (gb g0) (it g0) we3)] = T_2 at hP hD
          obtain ⟨hP, hD⟩ : zPD (dC, dI) classes A ([(oc8 x (.ref sh) (.ref lw) (.ref ro) (.ref bq) (.ref bp) (.ref dq) (.ref dp) (.ref lv) (.ref sl) ds sd ul su), (oc7 sh (.ref fa) (nI ft)), (oq fa cF 200 FA), (oc1 fe3 (rk g0) (wd g0) (tw g0) (pa g0) (pb g0) (.ref lo3) (.ref lk3) fm3), (oc4 lk3 (kd g0) (st g0) (.ref r3) (gb g0) (it g0) we3)] ++ va_pl T_2 f) H := ⟨hP, hD⟩
          refine lv_iload_n hx hb dX10_near_14 rfl (lv_at hl 3 rfl) ?_
          obtain ⟨hPc, hDc, hFc⟩ := zc_sub (wc := [(oc7 sh (.ref fa) (nI ft)), (oq fa cF 200 FA), (oc1 fe3 (rk g0) (wd g0) (tw g0) (pa g0) (pb g0) (.ref lo3) (.ref lk3) fm3), (oc4 lk3 (kd g0) (st g0) (.ref r3) (gb g0) (it g0) we3)]) hP hD hS hA [1, 2, 3, 4] rfl rfl
          refine zcall (st1 := [.null]) (va_runV (As := [.int (nI g0)]) (rest := []) ⟨hx, hb, hml, hown, hts⟩ (k_Sheet_rowThere_sv l dC dI cI cZ cF H.size sh fa ft FA g0 fe3 lo3 (rk g0) (wd g0) (tw g0) (pa g0) (pb g0) lk3 (kd g0) (st g0) (gb g0) (it g0) we3 fm3 (.ref r3) (h200) (by first | with_reducible assumption | omega) (hFA3) (by first | exact hA3 | omega)) (csV_144 hts rfl rfl ⟨Nat.le_of_ble_eq_true rfl, Nat.le_of_ble_eq_true rfl⟩) (zPV2 (q0 := 0) (ci := 7) hPc hDc hK hXN rfl rfl) rfl rfl hl.1 rfl (lv_room (Nat.le_of_ble_eq_true rfl)) dX10_near_15 ⟨Nat.le_of_ble_eq_true rfl, Nat.le_of_ble_eq_true rfl⟩) hS hFc hFc rfl (fun t H locs ht hB hk1 hS => ?_)
          obtain ⟨hP1, hD1⟩ := hB
          rw [ht] at hP1
          obtain ⟨hP, hD⟩ := zkQ (W2 := [(oc8 x (.ref sh) (.ref lw) (.ref ro) (.ref bq) (.ref bp) (.ref dq) (.ref dp) (.ref lv) (.ref sl) ds sd ul su), (oc7 sh (.ref fa) (nI ft)), (oq fa cF 200 FA), (oc1 fe3 (rk g0) (wd g0) (tw g0) (pa g0) (pb g0) (.ref lo3) (.ref lk3) fm3), (oc4 lk3 (kd g0) (st g0) (.ref r3) (gb g0) (it g0) we3)]) hP hD [1, 2, 3, 4] [0] [0] [1, 2, 3, 4] [0, 1, 2, 3, 4] 5 rfl rfl rfl rfl rfl rfl rfl rfl rfl hk1 hFc hP1 hD1
          clear hk1 hPc hDc hFc hP1 hD1 ht
          have hP := pl_back (cs := [(oc1 fe3 (rk g0) (wd g0) (tw g0) (pa g0) (pb g0) (.ref lo3) (.ref lk3) fm3), (oc4 lk3 (kd g0) (st g0) (.ref r3) (gb g0) (it g0) we3)]) (L := L) (f := f) (X := [(oc8 x (.ref sh) (.ref lw) (.ref ro) (.ref bq) (.ref bp) (.ref dq) (.ref dp) (.ref lv) (.ref sl) ds sd ul su), (oc7 sh (.ref fa) (nI ft)), (oq fa cF 200 FA)]) (by rw [hT_2]; exact (show va_P (dC, dI) classes (([(oc8 x (.ref sh) (.ref lw) (.ref ro) (.ref bq) (.ref bp) (.ref dq) (.ref dp) (.ref lv) (.ref sl) ds sd ul su), (oc7 sh (.ref fa) (nI ft)), (oq fa cF 200 FA)] ++ [(oc1 fe3 (rk g0) (wd g0) (tw g0) (pa g0) (pb g0) (.ref lo3) (.ref lk3) fm3), (oc4 lk3 (kd g0) (st g0) (.ref r3) (gb g0) (it g0) we3)]) ++ va_pl T_2 f) H from hP)) hc9_2
          have hD : va_D A ([(oc8 x (.ref sh) (.ref lw) (.ref ro) (.ref bq) (.ref bp) (.ref dq) (.ref dp) (.ref lv) (.ref sl) ds sd ul su), (oc7 sh (.ref fa) (nI ft)), (oq fa cF 200 FA)] ++ va_pl L f) := vaD_ae hD0_2 rfl
          refine lv_astoreN (lv' := [(5, .null), (4, .ref r2), (0, .ref x), (1, .int (nI f0)), (2, .int (nI g0)), (3, .int wv)]) hx hb dX10_near_18 hl (Nat.le_of_ble_eq_true rfl) rfl (fun ls hl => ?_)
          refine lv_aload hx hb dX10_near_20 (lv_at hl 1 rfl) ?_
          refine lv_ifnull hx hb dX10_near_22 ?_
          refine lv_aloadN hx hb dX10_near_25 (lv_at hl 0 rfl) ?_
          refine lv_ifnullN (tgt := 39) hx hb dX10_near_27 rfl ?_
          refine lv_ldc2 hx hb hown (hts _ mw_1077) dX10_near_39 ?_
          obtain ⟨hP9, hD9⟩ := zq_part (cx := [(oc8 x (.ref sh) (.ref lw) (.ref ro) (.ref bq) (.ref bp) (.ref dq) (.ref dp) (.ref lv) (.ref sl) ds sd ul su), (oc7 sh (.ref fa) (nI ft)), (oq fa cF 200 FA)]) hP hD [0, 1, 2] rfl rfl
          rw [hQ9]
          exact W.lret (v := (-1)) hx hb hr (fun t ht hW => ⟨⟨rfl, by rw [ht]; exact hP9, hD9⟩, hS.F ht⟩) hS.2.2 dX10_near_42
    · skip
      refine va_get (D := (dC, dI)) (ci := 8) (v := .ref sh) (C := RX10) (T := TX10) (N := 13) hx hb hts inX10 hown hK hP 0 rfl rfl 0 (Nat.le_of_ble_eq_true rfl) (hts _ mw_309) (fun _ h9 => h9) rfl dX10_near_1 ?_
      have hc9_1 : inPl L f [(oc1 fe2 (rk f0) (wd f0) (tw f0) (pa f0) (pb f0) (.ref lo2) (.ref lk2) fm2), (oc4 lk2 (kd f0) (st f0) (.ref r2) (gb f0) (it f0) we2)] := ⟨hfe2, hlk2, trivial⟩
      have hD0_1 := hD
      obtain ⟨hP, hD⟩ := pl_out hP hD [(oc1 fe2 (rk f0) (wd f0) (tw f0) (pa f0) (pb f0) (.ref lo2) (.ref lk2) fm2), (oc4 lk2 (kd f0) (st f0) (.ref r2) (gb f0) (it f0) we2)] hc9_1 (pwF hfe2.2 hlk2.2)
      generalize hT_1 : outPl L [(oc1 fe2 (rk f0) (wd f0) (tw f0) (pa f0) (pb f0) (.ref lo2) (.ref lk2) fm2), (oc4 lk2 (kd f0) (st f0) (.ref r2) (gb f0) (it f0) we2)] = T_1 at hP hD
      obtain ⟨hP, hD⟩ : zPD (dC, dI) classes A ([(oc8 x (.ref sh) (.ref lw) (.ref ro) (.ref bq) (.ref bp) (.ref dq) (.ref dp) (.ref lv) (.ref sl) ds sd ul su), (oc7 sh (.ref fa) (nI ft)), (oq fa cF 200 FA), (oc1 fe2 (rk f0) (wd f0) (tw f0) (pa f0) (pb f0) (.ref lo2) (.ref lk2) fm2), (oc4 lk2 (kd f0) (st f0) (.ref r2) (gb f0) (it f0) we2)] ++ va_pl T_1 f) s.heap := ⟨hP, hD⟩
      refine lv_iload_n hx hb dX10_near_4 rfl (lv_at hl 1 rfl) ?_
      obtain ⟨hPc, hDc, hFc⟩ := zc_sub (wc := [(oc7 sh (.ref fa) (nI ft)), (oq fa cF 200 FA), (oc1 fe2 (rk f0) (wd f0) (tw f0) (pa f0) (pb f0) (.ref lo2) (.ref lk2) fm2), (oc4 lk2 (kd f0) (st f0) (.ref r2) (gb f0) (it f0) we2)]) hP hD hS hA [1, 2, 3, 4] rfl rfl
      refine zcall (st1 := [.null]) (va_runV (As := [.int (nI f0)]) (rest := []) ⟨hx, hb, hml, hown, hts⟩ (k_Sheet_rowThere_sv l dC dI cI cZ cF s.heap.size sh fa ft FA f0 fe2 lo2 (rk f0) (wd f0) (tw f0) (pa f0) (pb f0) lk2 (kd f0) (st f0) (gb f0) (it f0) we2 fm2 (.ref r2) (h200) (by first | with_reducible assumption | omega) (hFA2) (by first | exact hA2 | omega)) (csV_144 hts rfl rfl ⟨Nat.le_of_ble_eq_true rfl, Nat.le_of_ble_eq_true rfl⟩) (zPV2 (q0 := 0) (ci := 7) hPc hDc hK hXN rfl rfl) rfl rfl hl.1 rfl (lv_room (Nat.le_of_ble_eq_true rfl)) dX10_near_5 ⟨Nat.le_of_ble_eq_true rfl, Nat.le_of_ble_eq_true rfl⟩) hS hFc hFc rfl (fun t H locs ht hB hk1 hS => ?_)
      obtain ⟨hP1, hD1⟩ := hB
      rw [ht] at hP1
      obtain ⟨hP, hD⟩ := zkQ (W2 := [(oc8 x (.ref sh) (.ref lw) (.ref ro) (.ref bq) (.ref bp) (.ref dq) (.ref dp) (.ref lv) (.ref sl) ds sd ul su), (oc7 sh (.ref fa) (nI ft)), (oq fa cF 200 FA), (oc1 fe2 (rk f0) (wd f0) (tw f0) (pa f0) (pb f0) (.ref lo2) (.ref lk2) fm2), (oc4 lk2 (kd f0) (st f0) (.ref r2) (gb f0) (it f0) we2)]) hP hD [1, 2, 3, 4] [0] [0] [1, 2, 3, 4] [0, 1, 2, 3, 4] 5 rfl rfl rfl rfl rfl rfl rfl rfl rfl hk1 hFc hP1 hD1
      clear hk1 hPc hDc hFc hP1 hD1 ht
      have hP := pl_back (cs := [(oc1 fe2 (rk f0) (wd f0) (tw f0) (pa f0) (pb f0) (.ref lo2) (.ref lk2) fm2), (oc4 lk2 (kd f0) (st f0) (.ref r2) (gb f0) (it f0) we2)]) (L := L) (f := f) (X := [(oc8 x (.ref sh) (.ref lw) (.ref ro) (.ref bq) (.ref bp) (.ref dq) (.ref dp) (.ref lv) (.ref sl) ds sd ul su), (oc7 sh (.ref fa) (nI ft)), (oq fa cF 200 FA)]) (by rw [hT_1]; exact (show va_P (dC, dI) classes (([(oc8 x (.ref sh) (.ref lw) (.ref ro) (.ref bq) (.ref bp) (.ref dq) (.ref dp) (.ref lv) (.ref sl) ds sd ul su), (oc7 sh (.ref fa) (nI ft)), (oq fa cF 200 FA)] ++ [(oc1 fe2 (rk f0) (wd f0) (tw f0) (pa f0) (pb f0) (.ref lo2) (.ref lk2) fm2), (oc4 lk2 (kd f0) (st f0) (.ref r2) (gb f0) (it f0) we2)]) ++ va_pl T_1 f) H from hP)) hc9_1
      have hD : va_D A ([(oc8 x (.ref sh) (.ref lw) (.ref ro) (.ref bq) (.ref bp) (.ref dq) (.ref dp) (.ref lv) (.ref sl) ds sd ul su), (oc7 sh (.ref fa) (nI ft)), (oq fa cF 200 FA)] ++ va_pl L f) := vaD_ae hD0_1 rfl
      refine lv_astoreN (lv' := [(4, .null), (0, .ref x), (1, .int (nI f0)), (2, .int w), (3, .int wv)]) hx hb dX10_near_8 hl (Nat.le_of_ble_eq_true rfl) rfl (fun ls hl => ?_)
      rcases v_c (v := w) (ft := ft) h200 with hb3 | ⟨g0, hq3, rfl⟩
      · skip
        refine lv_aload_n hx hb dX10_near_10 rfl (lv_at hl 1 rfl) ?_
        refine va_get (D := (dC, dI)) (ci := 8) (v := .ref sh) (C := RX10) (T := TX10) (N := 13) hx hb hts inX10 hown hK hP 0 rfl rfl 0 (Nat.le_of_ble_eq_true rfl) (hts _ mw_309) (fun _ h9 => h9) rfl dX10_near_11 ?_
        refine lv_iload_n hx hb dX10_near_14 rfl (lv_at hl 3 rfl) ?_
        obtain ⟨hPc, hDc, hFc⟩ := zc_sub (wc := [(oc7 sh (.ref fa) (nI ft)), (oq fa cF 200 FA)]) hP hD hS hA [1, 2] rfl rfl
        refine zcall (st1 := [.null]) (va_runV (As := [.int w]) (rest := []) ⟨hx, hb, hml, hown, hts⟩ (k_Sheet_rowThere_x l dC dI cI cZ cF H.size sh fa ft FA w (h200) (hb3)) (csV_144 hts rfl rfl ⟨Nat.le_of_ble_eq_true rfl, Nat.le_of_ble_eq_true rfl⟩) (zPV2 (q0 := 0) (ci := 7) hPc hDc hK hXN rfl rfl) rfl rfl hl.1 rfl (lv_room (Nat.le_of_ble_eq_true rfl)) dX10_near_15 ⟨Nat.le_of_ble_eq_true rfl, Nat.le_of_ble_eq_true rfl⟩) hS hFc hFc rfl (fun t H locs ht hB hk1 hS => ?_)
        obtain ⟨hP1, hD1⟩ := hB
        rw [ht] at hP1
        obtain ⟨hP, hD⟩ := zkQ (W2 := [(oc8 x (.ref sh) (.ref lw) (.ref ro) (.ref bq) (.ref bp) (.ref dq) (.ref dp) (.ref lv) (.ref sl) ds sd ul su), (oc7 sh (.ref fa) (nI ft)), (oq fa cF 200 FA)]) hP hD [1, 2] [0] [0] [1, 2] [0, 1, 2] 3 rfl rfl rfl rfl rfl rfl rfl rfl rfl hk1 hFc hP1 hD1
        clear hk1 hPc hDc hFc hP1 hD1 ht
        refine lv_astoreN (lv' := [(5, .null), (4, .null), (0, .ref x), (1, .int (nI f0)), (2, .int w), (3, .int wv)]) hx hb dX10_near_18 hl (Nat.le_of_ble_eq_true rfl) rfl (fun ls hl => ?_)
        refine lv_aloadN hx hb dX10_near_20 (lv_at hl 1 rfl) ?_
        refine lv_ifnullN (tgt := 39) hx hb dX10_near_22 rfl ?_
        refine lv_ldc2 hx hb hown (hts _ mw_1077) dX10_near_39 ?_
        obtain ⟨hP9, hD9⟩ := zq_part (cx := [(oc8 x (.ref sh) (.ref lw) (.ref ro) (.ref bq) (.ref bp) (.ref dq) (.ref dp) (.ref lv) (.ref sl) ds sd ul su), (oc7 sh (.ref fa) (nI ft)), (oq fa cF 200 FA)]) hP hD [0, 1, 2] rfl rfl
        rw [hQ9]
        exact W.lret (v := (-1)) hx hb hr (fun t ht hW => ⟨⟨rfl, by rw [ht]; exact hP9, hD9⟩, hS.F ht⟩) hS.2.2 dX10_near_42
      · skip
        refine lv_aload_n hx hb dX10_near_10 rfl (lv_at hl 1 rfl) ?_
        rcases vwA_3 (P9 := ((st g0).toInt = 1)) (hva g0 (by omega)) with ⟨ht3, fe3, lk3, lo3, we3, fm3, hFA3, hfe3, hlk3⟩ | ⟨ht3, hA3, fe3, lk3, lo3, we3, fm3, r3, rx3, ry3, cap3, U3, V3, rg3, hFA3, hfe3, hlk3, ⟨hr3, hrx3, hry3, hne3⟩, hrr3⟩ | ⟨ht3, hA3, fe3, lk3, lo3, we3, fm3, r3, rx3, ry3, cap3, U3, V3, rg3, hFA3, hfe3, hlk3, ⟨hr3, hrx3, hry3, hne3⟩, hrr3⟩
        · skip
          refine va_get (D := (dC, dI)) (ci := 8) (v := .ref sh) (C := RX10) (T := TX10) (N := 13) hx hb hts inX10 hown hK hP 0 rfl rfl 0 (Nat.le_of_ble_eq_true rfl) (hts _ mw_309) (fun _ h9 => h9) rfl dX10_near_11 ?_
          have hc9_2 : inPl L f [(oc1 fe3 (rk g0) (wd g0) (tw g0) (pa g0) (pb g0) (.ref lo3) (.ref lk3) fm3), (oc4 lk3 (kd g0) (st g0) .null (gb g0) (it g0) we3)] := ⟨hfe3, hlk3, trivial⟩
          have hD0_2 := hD
          obtain ⟨hP, hD⟩ := pl_out hP hD [(oc1 fe3 (rk g0) (wd g0) (tw g0) (pa g0) (pb g0) (.ref lo3) (.ref lk3) fm3), (oc4 lk3 (kd g0) (st g0) .null (gb g0) (it g0) we3)] hc9_2 (pwF hfe3.2 hlk3.2)
          generalize hT_2 : outPl L [(oc1 fe3 (rk g0) (wd g0) (tw g0) (pa g0) (pb g0) (.ref lo3) (.ref lk3) fm3), (oc4 lk3 (kd g0) (st g0) .null (gb g0) (it g0) we3)] = T_2 at hP hD
          obtain ⟨hP, hD⟩ : zPD (dC, dI) classes A ([(oc8 x (.ref sh) (.ref lw) (.ref ro) (.ref bq) (.ref bp) (.ref dq) (.ref dp) (.ref lv) (.ref sl) ds sd ul su), (oc7 sh (.ref fa) (nI ft)), (oq fa cF 200 FA), (oc1 fe3 (rk g0) (wd g0) (tw g0) (pa g0) (pb g0) (.ref lo3) (.ref lk3) fm3), (oc4 lk3 (kd g0) (st g0) .null (gb g0) (it g0) we3)] ++ va_pl T_2 f) H := ⟨hP, hD⟩
          refine lv_iload_n hx hb dX10_near_14 rfl (lv_at hl 3 rfl) ?_
          obtain ⟨hPc, hDc, hFc⟩ := zc_sub (wc := [(oc7 sh (.ref fa) (nI ft)), (oq fa cF 200 FA), (oc1 fe3 (rk g0) (wd g0) (tw g0) (pa g0) (pb g0) (.ref lo3) (.ref lk3) fm3), (oc4 lk3 (kd g0) (st g0) .null (gb g0) (it g0) we3)]) hP hD hS hA [1, 2, 3, 4] rfl rfl
          refine zcall (st1 := [.null]) (va_runV (As := [.int (nI g0)]) (rest := []) ⟨hx, hb, hml, hown, hts⟩ (k_Sheet_rowThere_tv l dC dI cI cZ cF H.size sh fa ft FA g0 fe3 lo3 (rk g0) (wd g0) (tw g0) (pa g0) (pb g0) lk3 (kd g0) (st g0) (gb g0) (it g0) we3 fm3 (h200) (by first | with_reducible assumption | omega) (hFA3)) (csV_144 hts rfl rfl ⟨Nat.le_of_ble_eq_true rfl, Nat.le_of_ble_eq_true rfl⟩) (zPV2 (q0 := 0) (ci := 7) hPc hDc hK hXN rfl rfl) rfl rfl hl.1 rfl (lv_room (Nat.le_of_ble_eq_true rfl)) dX10_near_15 ⟨Nat.le_of_ble_eq_true rfl, Nat.le_of_ble_eq_true rfl⟩) hS hFc hFc rfl (fun t H locs ht hB hk1 hS => ?_)
          obtain ⟨hP1, hD1⟩ := hB
          rw [ht] at hP1
          obtain ⟨hP, hD⟩ := zkQ (W2 := [(oc8 x (.ref sh) (.ref lw) (.ref ro) (.ref bq) (.ref bp) (.ref dq) (.ref dp) (.ref lv) (.ref sl) ds sd ul su), (oc7 sh (.ref fa) (nI ft)), (oq fa cF 200 FA), (oc1 fe3 (rk g0) (wd g0) (tw g0) (pa g0) (pb g0) (.ref lo3) (.ref lk3) fm3), (oc4 lk3 (kd g0) (st g0) .null (gb g0) (it g0) we3)]) hP hD [1, 2, 3, 4] [0] [0] [1, 2, 3, 4] [0, 1, 2, 3, 4] 5 rfl rfl rfl rfl rfl rfl rfl rfl rfl hk1 hFc hP1 hD1
          clear hk1 hPc hDc hFc hP1 hD1 ht
          have hP := pl_back (cs := [(oc1 fe3 (rk g0) (wd g0) (tw g0) (pa g0) (pb g0) (.ref lo3) (.ref lk3) fm3), (oc4 lk3 (kd g0) (st g0) .null (gb g0) (it g0) we3)]) (L := L) (f := f) (X := [(oc8 x (.ref sh) (.ref lw) (.ref ro) (.ref bq) (.ref bp) (.ref dq) (.ref dp) (.ref lv) (.ref sl) ds sd ul su), (oc7 sh (.ref fa) (nI ft)), (oq fa cF 200 FA)]) (by rw [hT_2]; exact (show va_P (dC, dI) classes (([(oc8 x (.ref sh) (.ref lw) (.ref ro) (.ref bq) (.ref bp) (.ref dq) (.ref dp) (.ref lv) (.ref sl) ds sd ul su), (oc7 sh (.ref fa) (nI ft)), (oq fa cF 200 FA)] ++ [(oc1 fe3 (rk g0) (wd g0) (tw g0) (pa g0) (pb g0) (.ref lo3) (.ref lk3) fm3), (oc4 lk3 (kd g0) (st g0) .null (gb g0) (it g0) we3)]) ++ va_pl T_2 f) H from hP)) hc9_2
          have hD : va_D A ([(oc8 x (.ref sh) (.ref lw) (.ref ro) (.ref bq) (.ref bp) (.ref dq) (.ref dp) (.ref lv) (.ref sl) ds sd ul su), (oc7 sh (.ref fa) (nI ft)), (oq fa cF 200 FA)] ++ va_pl L f) := vaD_ae hD0_2 rfl
          refine lv_astoreN (lv' := [(5, .null), (4, .null), (0, .ref x), (1, .int (nI f0)), (2, .int (nI g0)), (3, .int wv)]) hx hb dX10_near_18 hl (Nat.le_of_ble_eq_true rfl) rfl (fun ls hl => ?_)
          refine lv_aloadN hx hb dX10_near_20 (lv_at hl 1 rfl) ?_
          refine lv_ifnullN (tgt := 39) hx hb dX10_near_22 rfl ?_
          refine lv_ldc2 hx hb hown (hts _ mw_1077) dX10_near_39 ?_
          obtain ⟨hP9, hD9⟩ := zq_part (cx := [(oc8 x (.ref sh) (.ref lw) (.ref ro) (.ref bq) (.ref bp) (.ref dq) (.ref dp) (.ref lv) (.ref sl) ds sd ul su), (oc7 sh (.ref fa) (nI ft)), (oq fa cF 200 FA)]) hP hD [0, 1, 2] rfl rfl
          rw [hQ9]
          exact W.lret (v := (-1)) hx hb hr (fun t ht hW => ⟨⟨rfl, by rw [ht]; exact hP9, hD9⟩, hS.F ht⟩) hS.2.2 dX10_near_42
        · skip
          refine va_get (D := (dC, dI)) (ci := 8) (v := .ref sh) (C := RX10) (T := TX10) (N := 13) hx hb hts inX10 hown hK hP 0 rfl rfl 0 (Nat.le_of_ble_eq_true rfl) (hts _ mw_309) (fun _ h9 => h9) rfl dX10_near_11 ?_
          have hc9_2 : inPl L f [(oc1 fe3 (rk g0) (wd g0) (tw g0) (pa g0) (pb g0) (.ref lo3) (.ref lk3) fm3), (oc4 lk3 (kd g0) (st g0) (.ref r3) (gb g0) (it g0) we3)] := ⟨hfe3, hlk3, trivial⟩
          have hD0_2 := hD
          obtain ⟨hP, hD⟩ := pl_out hP hD [(oc1 fe3 (rk g0) (wd g0) (tw g0) (pa g0) (pb g0) (.ref lo3) (.ref lk3) fm3), (oc4 lk3 (kd g0) (st g0) (.ref r3) (gb g0) (it g0) we3)] hc9_2 (pwF hfe3.2 hlk3.2)
          generalize hT_2 : outPl L [(oc1 fe3 (rk g0) (wd g0) (tw g0) (pa g0) (pb g0) (.ref lo3) (.ref lk3) fm3), (oc4 lk3 (kd g0) (st g0) (.ref r3) (gb g0) (it g0) we3)] = T_2 at hP hD
          obtain ⟨hP, hD⟩ : zPD (dC, dI) classes A ([(oc8 x (.ref sh) (.ref lw) (.ref ro) (.ref bq) (.ref bp) (.ref dq) (.ref dp) (.ref lv) (.ref sl) ds sd ul su), (oc7 sh (.ref fa) (nI ft)), (oq fa cF 200 FA), (oc1 fe3 (rk g0) (wd g0) (tw g0) (pa g0) (pb g0) (.ref lo3) (.ref lk3) fm3), (oc4 lk3 (kd g0) (st g0) (.ref r3) (gb g0) (it g0) we3)] ++ va_pl T_2 f) H := ⟨hP, hD⟩
          refine lv_iload_n hx hb dX10_near_14 rfl (lv_at hl 3 rfl) ?_
          obtain ⟨hPc, hDc, hFc⟩ := zc_sub (wc := [(oc7 sh (.ref fa) (nI ft)), (oq fa cF 200 FA), (oc1 fe3 (rk g0) (wd g0) (tw g0) (pa g0) (pb g0) (.ref lo3) (.ref lk3) fm3), (oc4 lk3 (kd g0) (st g0) (.ref r3) (gb g0) (it g0) we3)]) hP hD hS hA [1, 2, 3, 4] rfl rfl
          refine zcall (st1 := [.ref r3]) (va_runV (As := [.int (nI g0)]) (rest := []) ⟨hx, hb, hml, hown, hts⟩ (k_Sheet_rowThere_yv l dC dI cI cZ cF H.size sh fa ft FA g0 fe3 lo3 (rk g0) (wd g0) (tw g0) (pa g0) (pb g0) lk3 (kd g0) (st g0) (gb g0) (it g0) we3 r3 fm3 (h200) (by first | with_reducible assumption | omega) (hFA3) (by first | exact hA3 | omega)) (csV_144 hts rfl rfl ⟨Nat.le_of_ble_eq_true rfl, Nat.le_of_ble_eq_true rfl⟩) (zPV2 (q0 := 0) (ci := 7) hPc hDc hK hXN rfl rfl) rfl rfl hl.1 rfl (lv_room (Nat.le_of_ble_eq_true rfl)) dX10_near_15 ⟨Nat.le_of_ble_eq_true rfl, Nat.le_of_ble_eq_true rfl⟩) hS hFc hFc rfl (fun t H locs ht hB hk1 hS => ?_)
          obtain ⟨hP1, hD1⟩ := hB
          rw [ht] at hP1
          obtain ⟨hP, hD⟩ := zkQ (W2 := [(oc8 x (.ref sh) (.ref lw) (.ref ro) (.ref bq) (.ref bp) (.ref dq) (.ref dp) (.ref lv) (.ref sl) ds sd ul su), (oc7 sh (.ref fa) (nI ft)), (oq fa cF 200 FA), (oc1 fe3 (rk g0) (wd g0) (tw g0) (pa g0) (pb g0) (.ref lo3) (.ref lk3) fm3), (oc4 lk3 (kd g0) (st g0) (.ref r3) (gb g0) (it g0) we3)]) hP hD [1, 2, 3, 4] [0] [0] [1, 2, 3, 4] [0, 1, 2, 3, 4] 5 rfl rfl rfl rfl rfl rfl rfl rfl rfl hk1 hFc hP1 hD1
          clear hk1 hPc hDc hFc hP1 hD1 ht
          have hP := pl_back (cs := [(oc1 fe3 (rk g0) (wd g0) (tw g0) (pa g0) (pb g0) (.ref lo3) (.ref lk3) fm3), (oc4 lk3 (kd g0) (st g0) (.ref r3) (gb g0) (it g0) we3)]) (L := L) (f := f) (X := [(oc8 x (.ref sh) (.ref lw) (.ref ro) (.ref bq) (.ref bp) (.ref dq) (.ref dp) (.ref lv) (.ref sl) ds sd ul su), (oc7 sh (.ref fa) (nI ft)), (oq fa cF 200 FA)]) (by rw [hT_2]; exact (show va_P (dC, dI) classes (([(oc8 x (.ref sh) (.ref lw) (.ref ro) (.ref bq) (.ref bp) (.ref dq) (.ref dp) (.ref lv) (.ref sl) ds sd ul su), (oc7 sh (.ref fa) (nI ft)), (oq fa cF 200 FA)] ++ [(oc1 fe3 (rk g0) (wd g0) (tw g0) (pa g0) (pb g0) (.ref lo3) (.ref lk3) fm3), (oc4 lk3 (kd g0) (st g0) (.ref r3) (gb g0) (it g0) we3)]) ++ va_pl T_2 f) H from hP)) hc9_2
          have hD : va_D A ([(oc8 x (.ref sh) (.ref lw) (.ref ro) (.ref bq) (.ref bp) (.ref dq) (.ref dp) (.ref lv) (.ref sl) ds sd ul su), (oc7 sh (.ref fa) (nI ft)), (oq fa cF 200 FA)] ++ va_pl L f) := vaD_ae hD0_2 rfl
          refine lv_astore (lv' := [(5, .ref r3), (4, .null), (0, .ref x), (1, .int (nI f0)), (2, .int (nI g0)), (3, .int wv)]) hx hb dX10_near_18 hl (Nat.le_of_ble_eq_true rfl) rfl (fun ls hl => ?_)
          refine lv_aloadN hx hb dX10_near_20 (lv_at hl 1 rfl) ?_
          refine lv_ifnullN (tgt := 39) hx hb dX10_near_22 rfl ?_
          refine lv_ldc2 hx hb hown (hts _ mw_1077) dX10_near_39 ?_
          obtain ⟨hP9, hD9⟩ := zq_part (cx := [(oc8 x (.ref sh) (.ref lw) (.ref ro) (.ref bq) (.ref bp) (.ref dq) (.ref dp) (.ref lv) (.ref sl) ds sd ul su), (oc7 sh (.ref fa) (nI ft)), (oq fa cF 200 FA)]) hP hD [0, 1, 2] rfl rfl
          rw [hQ9]
          exact W.lret (v := (-1)) hx hb hr (fun t ht hW => ⟨⟨rfl, by rw [ht]; exact hP9, hD9⟩, hS.F ht⟩) hS.2.2 dX10_near_42
        · skip
          refine va_get (D := (dC, dI)) (ci := 8) (v := .ref sh) (C := RX10) (T := TX10) (N := 13) hx hb hts inX10 hown hK hP 0 rfl rfl 0 (Nat.le_of_ble_eq_true rfl) (hts _ mw_309) (fun _ h9 => h9) rfl dX10_near_11 ?_
          have hc9_2 : inPl L f [(oc1 fe3 (rk g0) (wd g0) (tw g0) (pa g0) (pb g0) (.ref lo3) (.ref lk3) fm3), (oc4 lk3 (kd g0) (st g0) (.ref r3) (gb g0) (it g0) we3)] := ⟨hfe3, hlk3, trivial⟩
          have hD0_2 := hD
          obtain ⟨hP, hD⟩ := pl_out hP hD [(oc1 fe3 (rk g0) (wd g0) (tw g0) (pa g0) (pb g0) (.ref lo3) (.ref lk3) fm3), (oc4 lk3 (kd g0) (st g0) (.ref r3) (gb g0) (it g0) we3)] hc9_2 (pwF hfe3.2 hlk3.2)
          generalize hT_2 : outPl L [(oc1 fe3 (rk g0) (wd g0) (tw g0) (pa g0) (pb g0) (.ref lo3) (.ref lk3) fm3), (oc4 lk3 (kd g0) (st g0) (.ref r3) (gb g0) (it g0) we3)] = T_2 at hP hD
          obtain ⟨hP, hD⟩ : zPD (dC, dI) classes A ([(oc8 x (.ref sh) (.ref lw) (.ref ro) (.ref bq) (.ref bp) (.ref dq) (.ref dp) (.ref lv) (.ref sl) ds sd ul su), (oc7 sh (.ref fa) (nI ft)), (oq fa cF 200 FA), (oc1 fe3 (rk g0) (wd g0) (tw g0) (pa g0) (pb g0) (.ref lo3) (.ref lk3) fm3), (oc4 lk3 (kd g0) (st g0) (.ref r3) (gb g0) (it g0) we3)] ++ va_pl T_2 f) H := ⟨hP, hD⟩
          refine lv_iload_n hx hb dX10_near_14 rfl (lv_at hl 3 rfl) ?_
          obtain ⟨hPc, hDc, hFc⟩ := zc_sub (wc := [(oc7 sh (.ref fa) (nI ft)), (oq fa cF 200 FA), (oc1 fe3 (rk g0) (wd g0) (tw g0) (pa g0) (pb g0) (.ref lo3) (.ref lk3) fm3), (oc4 lk3 (kd g0) (st g0) (.ref r3) (gb g0) (it g0) we3)]) hP hD hS hA [1, 2, 3, 4] rfl rfl
          refine zcall (st1 := [.null]) (va_runV (As := [.int (nI g0)]) (rest := []) ⟨hx, hb, hml, hown, hts⟩ (k_Sheet_rowThere_sv l dC dI cI cZ cF H.size sh fa ft FA g0 fe3 lo3 (rk g0) (wd g0) (tw g0) (pa g0) (pb g0) lk3 (kd g0) (st g0) (gb g0) (it g0) we3 fm3 (.ref r3) (h200) (by first | with_reducible assumption | omega) (hFA3) (by first | exact hA3 | omega)) (csV_144 hts rfl rfl ⟨Nat.le_of_ble_eq_true rfl, Nat.le_of_ble_eq_true rfl⟩) (zPV2 (q0 := 0) (ci := 7) hPc hDc hK hXN rfl rfl) rfl rfl hl.1 rfl (lv_room (Nat.le_of_ble_eq_true rfl)) dX10_near_15 ⟨Nat.le_of_ble_eq_true rfl, Nat.le_of_ble_eq_true rfl⟩) hS hFc hFc rfl (fun t H locs ht hB hk1 hS => ?_)
          obtain ⟨hP1, hD1⟩ := hB
          rw [ht] at hP1
          obtain ⟨hP, hD⟩ := zkQ (W2 := [(oc8 x (.ref sh) (.ref lw) (.ref ro) (.ref bq) (.ref bp) (.ref dq) (.ref dp) (.ref lv) (.ref sl) ds sd ul su), (oc7 sh (.ref fa) (nI ft)), (oq fa cF 200 FA), (oc1 fe3 (rk g0) (wd g0) (tw g0) (pa g0) (pb g0) (.ref lo3) (.ref lk3) fm3), (oc4 lk3 (kd g0) (st g0) (.ref r3) (gb g0) (it g0) we3)]) hP hD [1, 2, 3, 4] [0] [0] [1, 2, 3, 4] [0, 1, 2, 3, 4] 5 rfl rfl rfl rfl rfl rfl rfl rfl rfl hk1 hFc hP1 hD1
          clear hk1 hPc hDc hFc hP1 hD1 ht
          have hP := pl_back (cs := [(oc1 fe3 (rk g0) (wd g0) (tw g0) (pa g0) (pb g0) (.ref lo3) (.ref lk3) fm3), (oc4 lk3 (kd g0) (st g0) (.ref r3) (gb g0) (it g0) we3)]) (L := L) (f := f) (X := [(oc8 x (.ref sh) (.ref lw) (.ref ro) (.ref bq) (.ref bp) (.ref dq) (.ref dp) (.ref lv) (.ref sl) ds sd ul su), (oc7 sh (.ref fa) (nI ft)), (oq fa cF 200 FA)]) (by rw [hT_2]; exact (show va_P (dC, dI) classes (([(oc8 x (.ref sh) (.ref lw) (.ref ro) (.ref bq) (.ref bp) (.ref dq) (.ref dp) (.ref lv) (.ref sl) ds sd ul su), (oc7 sh (.ref fa) (nI ft)), (oq fa cF 200 FA)] ++ [(oc1 fe3 (rk g0) (wd g0) (tw g0) (pa g0) (pb g0) (.ref lo3) (.ref lk3) fm3), (oc4 lk3 (kd g0) (st g0) (.ref r3) (gb g0) (it g0) we3)]) ++ va_pl T_2 f) H from hP)) hc9_2
          have hD : va_D A ([(oc8 x (.ref sh) (.ref lw) (.ref ro) (.ref bq) (.ref bp) (.ref dq) (.ref dp) (.ref lv) (.ref sl) ds sd ul su), (oc7 sh (.ref fa) (nI ft)), (oq fa cF 200 FA)] ++ va_pl L f) := vaD_ae hD0_2 rfl
          refine lv_astoreN (lv' := [(5, .null), (4, .null), (0, .ref x), (1, .int (nI f0)), (2, .int (nI g0)), (3, .int wv)]) hx hb dX10_near_18 hl (Nat.le_of_ble_eq_true rfl) rfl (fun ls hl => ?_)
          refine lv_aloadN hx hb dX10_near_20 (lv_at hl 1 rfl) ?_
          refine lv_ifnullN (tgt := 39) hx hb dX10_near_22 rfl ?_
          refine lv_ldc2 hx hb hown (hts _ mw_1077) dX10_near_39 ?_
          obtain ⟨hP9, hD9⟩ := zq_part (cx := [(oc8 x (.ref sh) (.ref lw) (.ref ro) (.ref bq) (.ref bp) (.ref dq) (.ref dp) (.ref lv) (.ref sl) ds sd ul su), (oc7 sh (.ref fa) (nI ft)), (oq fa cF 200 FA)]) hP hD [0, 1, 2] rfl rfl
          rw [hQ9]
          exact W.lret (v := (-1)) hx hb hr (fun t ht hW => ⟨⟨rfl, by rw [ht]; exact hP9, hD9⟩, hS.F ht⟩) hS.2.2 dX10_near_42
end
