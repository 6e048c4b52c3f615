section
set_option maxHeartbeats 4000000 in
set_option maxRecDepth 100000 in
theorem k_told_a (l : Launch) (dC : Nat → ClassId) (dI : Nat → Nat → Nat) (cI cZ cF : ClassId) (sz : Nat) (x : Nat) (sh : Nat) (lw : Nat) (ro : Nat) (bq : Nat) (bp : Nat) (dq : Nat) (dp : Nat) (lv : Nat) (sl : Nat) (sd : Int32) (ul : Int32) (su : Int32) (ds : Int32) (fa : Nat) (ft : Nat) (FA : Nat → Option Nat) (f0 : Nat) (L : List Nat) (f : Nat → va_E) (kd : Nat → Int32) (st : Nat → Int32) (tn : Nat → Int32) (mn : Nat → Int32) (cx : Nat → Int32) (cy : Nat → Int32) (rk : Nat → Int32) (wd : Nat → Int32) (tw : Nat → Int32) (pa : Nat → Int32) (pb : Nat → Int32) (gb : Nat → Int32) (it : Nat → Int32) (w : Int32) (h200 : ft ≤ 200) (hf0 : f0 < ft) (hva : ∀ q, q < ft → vwA cI L f FA rk wd tw pa pb kd st gb it tn mn cx cy q) : Met l yX10_told (.code yX10_told cX10_told 4 (some .int) :: ws0) ({ frames := 1, cells := 0, slots := 0, locals := 21 } : Room) (va_Pc [.ref x, .int (nI f0), .int w] (zPre (dC, dI) classes (zTy cI cZ cF) ([(oc8 x (.ref sh) (.ref lw) (.ref ro) (.ref bq) (.ref bp) (.ref dq) (.ref dp) (.ref lv) (.ref sl) ds sd ul su), (oc7 sh (.ref fa) (nI ft)), (oq fa cF 200 FA)] ++ va_pl L f) sz zXN)) (zQe (fun v9 t => ∃ (b9 : Int32), v9 = (some (.int b9)) ∧ va_P (dC, dI) classes ([(oc8 x (.ref sh) (.ref lw) (.ref ro) (.ref bq) (.ref bp) (.ref dq) (.ref dp) (.ref lv) (.ref sl) ds sd ul su), (oc7 sh (.ref fa) (nI ft)), (oq fa cF 200 FA)] ++ va_pl L f) t.heap ∧ va_D (va_A ([(oc8 x (.ref sh) (.ref lw) (.ref ro) (.ref bq) (.ref bp) (.ref dq) (.ref dp) (.ref lv) (.ref sl) ds sd ul su), (oc7 sh (.ref fa) (nI ft)), (oq fa cF 200 FA)] ++ va_pl L f) sz) ([(oc8 x (.ref sh) (.ref lw) (.ref ro) (.ref bq) (.ref bp) (.ref dq) (.ref dp) (.ref lv) (.ref sl) ds sd ul su), (oc7 sh (.ref fa) (nI ft)), (oq fa cF 200 FA)] ++ va_pl L f)) (va_A ([(oc8 x (.ref sh) (.ref lw) (.ref ro) (.ref bq) (.ref bp) (.ref dq) (.ref dp) (.ref lv) (.ref sl) ds sd ul su), (oc7 sh (.ref fa) (nI ft)), (oq fa cF 200 FA)] ++ va_pl L f) sz)) 0 0 (va_A ([(oc8 x (.ref sh) (.ref lw) (.ref ro) (.ref bq) (.ref bp) (.ref dq) (.ref dp) (.ref lv) (.ref sl) ds sd ul su), (oc7 sh (.ref fa) (nI ft)), (oq fa cF 200 FA)] ++ va_pl L f) sz) := by
  refine Met.ofW (cc := cX10_told) (maxL := 4) (ret := (some .int)) rfl rfl ?_
  intro p e s m args below meth c s₁ B hml hv
  obtain ⟨rfl, hsz, hP, hK, hD0, hXN⟩ := hv
  have hx := B.exec
  have hb := B.bytes
  have hr := B.returns
  have hts0 := atoms_spec (ws := .code yX10_told cX10_told 4 (some .int) :: ws0) B.pre
  have hts : ∀ w9 ∈ ws0, w9.before ([.ref x, .int (nI f0), .int w] : List Value).toArray s = true := fun w9 h => hts0 w9 (List.mem_cons_of_mem _ h)
  have hown : s.vm.findClass "ScaleShop" = some m.cls := findClass_of_methodNamed B.named
  have hlocks := B.notSynchronized
  subst hsz
  have hD := hD0.self (sz := s.heap.size)
  clear hD0
  generalize hAe : va_A ([(oc8 x (.ref sh) (.ref lw) (.ref ro) (.ref bq) (.ref bp) (.ref dq) (.ref dp) (.ref lv) (.ref sl) ds sd ul su), (oc7 sh (.ref fa) (nI ft)), (oq fa cF 200 FA)] ++ va_pl L f) s.heap.size = A at hD ⊢
  have hA : ∀ q : Nat, s.heap.size ≤ q → A q := fun q h => by rw [← hAe]; exact Or.inr h
  clear hAe
  have hS : va_S A s.heap s.heap [] := va_S.rf
  have hP : va_P (dC, dI) classes ([(oc8 x (.ref sh) (.ref lw) (.ref ro) (.ref bq) (.ref bp) (.ref dq) (.ref dp) (.ref lv) (.ref sl) ds sd ul su), (oc7 sh (.ref fa) (nI ft)), (oq fa cF 200 FA)] ++ va_pl L f) s.heap := hP
  obtain ⟨Q9, hQ9⟩ : ∃ Q9 : State → Prop, Q9 = MQ below (zQe (fun v9 t => ∃ (b9 : Int32), v9 = (some (.int b9)) ∧ va_P (dC, dI) classes ([(oc8 x (.ref sh) (.ref lw) (.ref ro) (.ref bq) (.ref bp) (.ref dq) (.ref dp) (.ref lv) (.ref sl) ds sd ul su), (oc7 sh (.ref fa) (nI ft)), (oq fa cF 200 FA)] ++ va_pl L f) t.heap ∧ va_D A ([(oc8 x (.ref sh) (.ref lw) (.ref ro) (.ref bq) (.ref bp) (.ref dq) (.ref dp) (.ref lv) (.ref sl) ds sd ul su), (oc7 sh (.ref fa) (nI ft)), (oq fa cF 200 FA)] ++ va_pl L f)) A) ([.ref x, .int (nI f0), .int w] : List Value).toArray s 0 0 A := ⟨_, rfl⟩
  rw [← hQ9]
  have hl := lv_entry ([.ref x, .int (nI f0), .int w]) (n := 4) (Nat.le_of_ble_eq_true rfl)
  rw [lg_entry_eq]
  generalize (lg_sl ([.ref x, .int (nI f0), .int w]) ++ List.replicate (4 - (lg_sl ([.ref x, .int (nI f0), .int w])).length) Slot.unset).toArray = ls at hl ⊢
  have hl : lv_has ls 4 [(0, .ref x), (1, .int (nI f0)), (2, .int w)] := hl
  rcases vwA_2 (hva f0 (by omega)) with ⟨ht2, fe2, lk2, lo2, we2, fm2, hFA2, hfe2, hlk2⟩ | ⟨ht2, fe2, lk2, lo2, we2, fm2, r2, rx2, ry2, cap2, U2, V2, rg2, hFA2, hfe2, hlk2, ⟨hr2, hrx2, hry2, hne2⟩, hrr2⟩
  · skip
    have hc9_1 : inPl L f [(oc1 fe2 (rk f0) (wd f0) (tw f0) (pa f0) (pb f0) (.ref lo2) (.ref lk2) fm2), (oc4 lk2 (kd f0) (st f0) .null (gb f0) (it f0) we2)] := ⟨hfe2, hlk2, trivial⟩
    have hD0_1 := hD
    obtain ⟨T_1, hT_1, hP, hD⟩ := pl_oT hP hD hc9_1 (pwF hfe2.2 hlk2.2)
    obtain ⟨hP, hD⟩ := zre (W2 := ([_, _, _, _, _] ++ va_pl T_1 f)) hP hD rfl
    refine lv_aload_n hx hb dX10_told_0 rfl (lv_at hl 0 rfl) ?_
    refine va_get (D := (dC, dI)) (ci := 8) (v := .ref sh) (C := RX10) (T := TX10) (N := 13) hx hb hts inX10 hown hK hP 0 rfl rfl 0 (Nat.le_of_ble_eq_true rfl) (hts _ mw_309) (fun _ h9 => h9) rfl dX10_told_1 ?_
    refine lv_iload_n hx hb dX10_told_4 rfl (lv_at hl 1 rfl) ?_
    obtain ⟨hPc, hDc, hFc, hI1⟩ := zi_sub (wc := [_, _]) hP hD hS hA [1, 2] rfl rfl
    refine zcall (st1 := [.ref fe2]) (va_runV (As := [.int (nI f0)]) (rest := []) ⟨hx, hb, hml, hown, hts⟩ (k_Sheet_find l dC dI cI cZ cF s.heap.size sh fa ft FA f0 fe2 (by first | with_reducible assumption | omega) (by first | with_reducible assumption | omega) (hFA2)) (csV_94 hts rfl rfl ⟨Nat.le_of_ble_eq_true rfl, Nat.le_of_ble_eq_true rfl⟩) (zPV2 (q0 := 0) (ci := 7) hPc hDc hK hXN rfl rfl) rfl rfl hl.1 rfl (lv_room (Nat.le_of_ble_eq_true rfl)) dX10_told_5 ⟨Nat.le_of_ble_eq_true rfl, Nat.le_of_ble_eq_true rfl⟩) hS hFc hFc rfl (fun t H locs ht hB hk1 hS => ?_)
    obtain ⟨hP1, hD1⟩ := hB
    rw [ht] at hP1
    replace hP := z0 hP hD hk1 hP1 hI1
    clear hk1 hPc hDc hFc hP1 hD1 ht hI1
    refine lv_astore_n (lv' := [(3, .ref fe2), (0, .ref x), (1, .int (nI f0)), (2, .int w)]) hx hb dX10_told_8 rfl hl (Nat.le_of_ble_eq_true rfl) rfl (fun ls hl => ?_)
    refine lv_aload_n hx hb dX10_told_9 rfl (lv_at hl 0 rfl) ?_
    refine lv_ifnonnull (tgt := 15) hx hb dX10_told_10 rfl ?_
    refine lv_iload_n hx hb dX10_told_15 rfl (lv_at hl 3 rfl) ?_
    rcases zz_sw (lo := 0) (hi := 10) rfl with c_1 | c_1
    · refine lv_tableOut (tgt := 174) hx hb dX10_told_16 c_1.1 (by decide) ?_
      refine lv_iconst (v := (-1)) hx hb dX10_told_174 rfl ?_
      obtain ⟨hP, hD⟩ := pl_bk (X := [_, _, _]) hT_1 hP rfl hc9_1 hD0_1 rfl
      obtain ⟨hP9, hD9⟩ := zu_part (cx := [_, _, _]) hP hD [true, true, true] rfl rfl
      rw [hQ9]
      exact W.iret (v := (-1)) hx hb hr (fun t ht hW => ⟨⟨_, rfl, (-1), rfl, by rw [ht]; exact hP9, hD9⟩, hS.F ht⟩) hS.2.2 dX10_told_175
    · by_cases c_2 : w.toInt = 0
      · refine lv_tableIn (tgt := 76) (off := 60) hx hb dX10_told_16 c_1.2.1 c_1.2.2 (by rw [show (w).toInt = 0 from (rfl).trans c_2]; rfl) (by decide) ?_
        refine lv_aload_n hx hb dX10_told_76 rfl (lv_at hl 0 rfl) ?_
        refine va_get (D := (dC, dI)) (ci := 1) (v := .ref lk2) (C := RX2) (T := TX2) (N := 8) hx hb hts inX2 hown hK hP 3 rfl rfl 6 (Nat.le_of_ble_eq_true rfl) (hts _ mw_433) (fun _ h9 => h9) rfl dX10_told_77 ?_
        refine va_get (D := (dC, dI)) (ci := 4) (v := .int (kd f0)) (C := RX5) (T := TX5) (N := 6) hx hb hts inX5 hown hK hP 4 rfl rfl 0 (Nat.le_of_ble_eq_true rfl) (hts _ mw_381) (fun _ h9 => h9) rfl dX10_told_80 ?_
        obtain ⟨hP, hD⟩ := pl_bk (X := [_, _, _]) hT_1 hP rfl hc9_1 hD0_1 rfl
        obtain ⟨hP9, hD9⟩ := zu_part (cx := [_, _, _]) hP hD [true, true, true] rfl rfl
        rw [hQ9]
        exact W.iret (v := kd f0) hx hb hr (fun t ht hW => ⟨⟨_, rfl, (kd f0), rfl, by rw [ht]; exact hP9, hD9⟩, hS.F ht⟩) hS.2.2 dX10_told_83
      by_cases c_3 : w.toInt = 1
      · refine lv_tableIn (tgt := 84) (off := 68) hx hb dX10_told_16 c_1.2.1 c_1.2.2 (by rw [show (w).toInt = 1 from (rfl).trans c_3]; rfl) (by decide) ?_
        refine lv_aload_n hx hb dX10_told_84 rfl (lv_at hl 0 rfl) ?_
        refine va_get (D := (dC, dI)) (ci := 1) (v := .int (rk f0)) (C := RX2) (T := TX2) (N := 8) hx hb hts inX2 hown hK hP 3 rfl rfl 0 (Nat.le_of_ble_eq_true rfl) (hts _ mw_417) (fun _ h9 => h9) rfl dX10_told_85 ?_
        obtain ⟨hP, hD⟩ := pl_bk (X := [_, _, _]) hT_1 hP rfl hc9_1 hD0_1 rfl
        obtain ⟨hP9, hD9⟩ := zu_part (cx := [_, _, _]) hP hD [true, true, true] rfl rfl
        rw [hQ9]
        exact W.iret (v := rk f0) hx hb hr (fun t ht hW => ⟨⟨_, rfl, (rk f0), rfl, by rw [ht]; exact hP9, hD9⟩, hS.F ht⟩) hS.2.2 dX10_told_88
      by_cases c_4 : w.toInt = 2
      · refine lv_tableIn (tgt := 89) (off := 73) hx hb dX10_told_16 c_1.2.1 c_1.2.2 (by rw [show (w).toInt = 2 from (rfl).trans c_4]; rfl) (by decide) ?_
        refine lv_aload_n hx hb dX10_told_89 rfl (lv_at hl 0 rfl) ?_
        refine va_get (D := (dC, dI)) (ci := 1) (v := .int (wd f0)) (C := RX2) (T := TX2) (N := 8) hx hb hts inX2 hown hK hP 3 rfl rfl 1 (Nat.le_of_ble_eq_true rfl) (hts _ mw_419) (fun _ h9 => h9) rfl dX10_told_90 ?_
        obtain ⟨hP, hD⟩ := pl_bk (X := [_, _, _]) hT_1 hP rfl hc9_1 hD0_1 rfl
        obtain ⟨hP9, hD9⟩ := zu_part (cx := [_, _, _]) hP hD [true, true, true] rfl rfl
        rw [hQ9]
        exact W.iret (v := wd f0) hx hb hr (fun t ht hW => ⟨⟨_, rfl, (wd f0), rfl, by rw [ht]; exact hP9, hD9⟩, hS.F ht⟩) hS.2.2 dX10_told_93
      by_cases c_5 : w.toInt = 3
      · refine lv_tableIn (tgt := 94) (off := 78) hx hb dX10_told_16 c_1.2.1 c_1.2.2 (by rw [show (w).toInt = 3 from (rfl).trans c_5]; rfl) (by decide) ?_
        refine lv_aload_n hx hb dX10_told_94 rfl (lv_at hl 0 rfl) ?_
        refine va_get (D := (dC, dI)) (ci := 1) (v := .int (tw f0)) (C := RX2) (T := TX2) (N := 8) hx hb hts inX2 hown hK hP 3 rfl rfl 2 (Nat.le_of_ble_eq_true rfl) (hts _ mw_421) (fun _ h9 => h9) rfl dX10_told_95 ?_
        obtain ⟨hP, hD⟩ := pl_bk (X := [_, _, _]) hT_1 hP rfl hc9_1 hD0_1 rfl
        obtain ⟨hP9, hD9⟩ := zu_part (cx := [_, _, _]) hP hD [true, true, true] rfl rfl
        rw [hQ9]
        exact W.iret (v := tw f0) hx hb hr (fun t ht hW => ⟨⟨_, rfl, (tw f0), rfl, by rw [ht]; exact hP9, hD9⟩, hS.F ht⟩) hS.2.2 dX10_told_98
      by_cases c_6 : w.toInt = 4
      · refine lv_tableIn (tgt := 99) (off := 83) hx hb dX10_told_16 c_1.2.1 c_1.2.2 (by rw [show (w).toInt = 4 from (rfl).trans c_6]; rfl) (by decide) ?_
        refine lv_aload_n hx hb dX10_told_99 rfl (lv_at hl 0 rfl) ?_
        refine va_get (D := (dC, dI)) (ci := 1) (v := .ref lk2) (C := RX2) (T := TX2) (N := 8) hx hb hts inX2 hown hK hP 3 rfl rfl 6 (Nat.le_of_ble_eq_true rfl) (hts _ mw_433) (fun _ h9 => h9) rfl dX10_told_100 ?_
        refine va_get (D := (dC, dI)) (ci := 4) (v := .null) (C := RX5) (T := TX5) (N := 6) hx hb hts inX5 hown hK hP 4 rfl rfl 2 (Nat.le_of_ble_eq_true rfl) (hts _ mw_391) (fun _ h9 => h9) rfl dX10_told_103 ?_
        refine lv_ifnonnullN hx hb dX10_told_106 ?_
        refine lv_iconst (v := 0) hx hb dX10_told_109 rfl ?_
        refine lv_goto (tgt := 123) hx hb dX10_told_110 rfl ?_
        obtain ⟨hP, hD⟩ := pl_bk (X := [_, _, _]) hT_1 hP rfl hc9_1 hD0_1 rfl
        obtain ⟨hP9, hD9⟩ := zu_part (cx := [_, _, _]) hP hD [true, true, true] rfl rfl
        rw [hQ9]
        exact W.iret (v := 0) hx hb hr (fun t ht hW => ⟨⟨_, rfl, 0, rfl, by rw [ht]; exact hP9, hD9⟩, hS.F ht⟩) hS.2.2 dX10_told_123
      by_cases c_7 : w.toInt = 5
      · refine lv_tableIn (tgt := 124) (off := 108) hx hb dX10_told_16 c_1.2.1 c_1.2.2 (by rw [show (w).toInt = 5 from (rfl).trans c_7]; rfl) (by decide) ?_
        refine lv_aload_n hx hb dX10_told_124 rfl (lv_at hl 0 rfl) ?_
        refine va_get (D := (dC, dI)) (ci := 1) (v := .ref lk2) (C := RX2) (T := TX2) (N := 8) hx hb hts inX2 hown hK hP 3 rfl rfl 6 (Nat.le_of_ble_eq_true rfl) (hts _ mw_433) (fun _ h9 => h9) rfl dX10_told_125 ?_
        refine va_get (D := (dC, dI)) (ci := 4) (v := .int (st f0)) (C := RX5) (T := TX5) (N := 6) hx hb hts inX5 hown hK hP 4 rfl rfl 1 (Nat.le_of_ble_eq_true rfl) (hts _ mw_385) (fun _ h9 => h9) rfl dX10_told_128 ?_
        obtain ⟨hP, hD⟩ := pl_bk (X := [_, _, _]) hT_1 hP rfl hc9_1 hD0_1 rfl
        obtain ⟨hP9, hD9⟩ := zu_part (cx := [_, _, _]) hP hD [true, true, true] rfl rfl
        rw [hQ9]
        exact W.iret (v := st f0) hx hb hr (fun t ht hW => ⟨⟨_, rfl, (st f0), rfl, by rw [ht]; exact hP9, hD9⟩, hS.F ht⟩) hS.2.2 dX10_told_131
      by_cases c_8 : w.toInt = 6
      · refine lv_tableIn (tgt := 132) (off := 116) hx hb dX10_told_16 c_1.2.1 c_1.2.2 (by rw [show (w).toInt = 6 from (rfl).trans c_8]; rfl) (by decide) ?_
        refine lv_aload_n hx hb dX10_told_132 rfl (lv_at hl 0 rfl) ?_
        refine va_get (D := (dC, dI)) (ci := 1) (v := .ref lk2) (C := RX2) (T := TX2) (N := 8) hx hb hts inX2 hown hK hP 3 rfl rfl 6 (Nat.le_of_ble_eq_true rfl) (hts _ mw_433) (fun _ h9 => h9) rfl dX10_told_133 ?_
        refine va_get (D := (dC, dI)) (ci := 4) (v := .null) (C := RX5) (T := TX5) (N := 6) hx hb hts inX5 hown hK hP 4 rfl rfl 2 (Nat.le_of_ble_eq_true rfl) (hts _ mw_391) (fun _ h9 => h9) rfl dX10_told_136 ?_
        refine lv_ifnonnullN hx hb dX10_told_139 ?_
        refine lv_iconst (v := 1) hx hb dX10_told_142 rfl ?_
        refine lv_goto (tgt := 147) hx hb dX10_told_143 rfl ?_
        obtain ⟨hP, hD⟩ := pl_bk (X := [_, _, _]) hT_1 hP rfl hc9_1 hD0_1 rfl
        obtain ⟨hP9, hD9⟩ := zu_part (cx := [_, _, _]) hP hD [true, true, true] rfl rfl
        rw [hQ9]
        exact W.iret (v := 1) hx hb hr (fun t ht hW => ⟨⟨_, rfl, 1, rfl, by rw [ht]; exact hP9, hD9⟩, hS.F ht⟩) hS.2.2 dX10_told_147
      by_cases c_9 : w.toInt = 7
      · refine lv_tableIn (tgt := 148) (off := 132) hx hb dX10_told_16 c_1.2.1 c_1.2.2 (by rw [show (w).toInt = 7 from (rfl).trans c_9]; rfl) (by decide) ?_
        refine lv_aload_n hx hb dX10_told_148 rfl (lv_at hl 0 rfl) ?_
        refine va_get (D := (dC, dI)) (ci := 1) (v := .ref lk2) (C := RX2) (T := TX2) (N := 8) hx hb hts inX2 hown hK hP 3 rfl rfl 6 (Nat.le_of_ble_eq_true rfl) (hts _ mw_433) (fun _ h9 => h9) rfl dX10_told_149 ?_
        refine va_get (D := (dC, dI)) (ci := 4) (v := .int (gb f0)) (C := RX5) (T := TX5) (N := 6) hx hb hts inX5 hown hK hP 4 rfl rfl 3 (Nat.le_of_ble_eq_true rfl) (hts _ mw_396) (fun _ h9 => h9) rfl dX10_told_152 ?_
        obtain ⟨hP, hD⟩ := pl_bk (X := [_, _, _]) hT_1 hP rfl hc9_1 hD0_1 rfl
        obtain ⟨hP9, hD9⟩ := zu_part (cx := [_, _, _]) hP hD [true, true, true] rfl rfl
        rw [hQ9]
        exact W.iret (v := gb f0) hx hb hr (fun t ht hW => ⟨⟨_, rfl, (gb f0), rfl, by rw [ht]; exact hP9, hD9⟩, hS.F ht⟩) hS.2.2 dX10_told_155
      by_cases c_10 : w.toInt = 8
      · refine lv_tableIn (tgt := 156) (off := 140) hx hb dX10_told_16 c_1.2.1 c_1.2.2 (by rw [show (w).toInt = 8 from (rfl).trans c_10]; rfl) (by decide) ?_
        refine lv_aload_n hx hb dX10_told_156 rfl (lv_at hl 0 rfl) ?_
        refine va_get (D := (dC, dI)) (ci := 1) (v := .int (pa f0)) (C := RX2) (T := TX2) (N := 8) hx hb hts inX2 hown hK hP 3 rfl rfl 3 (Nat.le_of_ble_eq_true rfl) (hts _ mw_423) (fun _ h9 => h9) rfl dX10_told_157 ?_
        obtain ⟨hP, hD⟩ := pl_bk (X := [_, _, _]) hT_1 hP rfl hc9_1 hD0_1 rfl
        obtain ⟨hP9, hD9⟩ := zu_part (cx := [_, _, _]) hP hD [true, true, true] rfl rfl
        rw [hQ9]
        exact W.iret (v := pa f0) hx hb hr (fun t ht hW => ⟨⟨_, rfl, (pa f0), rfl, by rw [ht]; exact hP9, hD9⟩, hS.F ht⟩) hS.2.2 dX10_told_160
      by_cases c_11 : w.toInt = 9
      · refine lv_tableIn (tgt := 161) (off := 145) hx hb dX10_told_16 c_1.2.1 c_1.2.2 (by rw [show (w).toInt = 9 from (rfl).trans c_11]; rfl) (by decide) ?_
        refine lv_aload_n hx hb dX10_told_161 rfl (lv_at hl 0 rfl) ?_
        refine va_get (D := (dC, dI)) (ci := 1) (v := .int (pb f0)) (C := RX2) (T := TX2) (N := 8) hx hb hts inX2 hown hK hP 3 rfl rfl 4 (Nat.le_of_ble_eq_true rfl) (hts _ mw_425) (fun _ h9 => h9) rfl dX10_told_162 ?_
        obtain ⟨hP, hD⟩ := pl_bk (X := [_, _, _]) hT_1 hP rfl hc9_1 hD0_1 rfl
        obtain ⟨hP9, hD9⟩ := zu_part (cx := [_, _, _]) hP hD [true, true, true] rfl rfl
        rw [hQ9]
        exact W.iret (v := pb f0) hx hb hr (fun t ht hW => ⟨⟨_, rfl, (pb f0), rfl, by rw [ht]; exact hP9, hD9⟩, hS.F ht⟩) hS.2.2 dX10_told_165
      by_cases c_12 : w.toInt = 10
      · refine lv_tableIn (tgt := 166) (off := 150) hx hb dX10_told_16 c_1.2.1 c_1.2.2 (by rw [show (w).toInt = 10 from (rfl).trans c_12]; rfl) (by decide) ?_
        refine lv_aload_n hx hb dX10_told_166 rfl (lv_at hl 0 rfl) ?_
        refine va_get (D := (dC, dI)) (ci := 1) (v := .ref lk2) (C := RX2) (T := TX2) (N := 8) hx hb hts inX2 hown hK hP 3 rfl rfl 6 (Nat.le_of_ble_eq_true rfl) (hts _ mw_433) (fun _ h9 => h9) rfl dX10_told_167 ?_
        refine va_get (D := (dC, dI)) (ci := 4) (v := .int (it f0)) (C := RX5) (T := TX5) (N := 6) hx hb hts inX5 hown hK hP 4 rfl rfl 4 (Nat.le_of_ble_eq_true rfl) (hts _ mw_398) (fun _ h9 => h9) rfl dX10_told_170 ?_
        obtain ⟨hP, hD⟩ := pl_bk (X := [_, _, _]) hT_1 hP rfl hc9_1 hD0_1 rfl
        obtain ⟨hP9, hD9⟩ := zu_part (cx := [_, _, _]) hP hD [true, true, true] rfl rfl
        rw [hQ9]
        exact W.iret (v := it f0) hx hb hr (fun t ht hW => ⟨⟨_, rfl, (it f0), rfl, by rw [ht]; exact hP9, hD9⟩, hS.F ht⟩) hS.2.2 dX10_told_173
      exfalso; omega
  · skip
    have hcap2 := hrr2.1
    have hcap3 := hrr2.2.1
    have hc9_1 : inPl L f [(oc1 fe2 (rk f0) (wd f0) (tw f0) (pa f0) (pb f0) (.ref lo2) (.ref lk2) fm2), (oc4 lk2 (kd f0) (st f0) (.ref r2) (gb f0) (it f0) we2), (oc6 r2 (.ref rx2) (.ref ry2) (nI (nN (mn f0))) rg2), (oa rx2 cI cap2 U2), (oa ry2 cI cap2 V2)] := ⟨hfe2, hlk2, hr2, hrx2, hry2, trivial⟩
    have hD0_1 := hD
    obtain ⟨T_1, hT_1, hP, hD⟩ := pl_oT hP hD hc9_1 (pwR hfe2.2 hlk2.2 hr2.2 hrx2.2 hry2.2 hne2)
    obtain ⟨hP, hD⟩ := zre (W2 := ([_, _, _, _, _, _, _, _] ++ va_pl T_1 f)) hP hD rfl
    refine lv_aload_n hx hb dX10_told_0 rfl (lv_at hl 0 rfl) ?_
    refine va_get (D := (dC, dI)) (ci := 8) (v := .ref sh) (C := RX10) (T := TX10) (N := 13) hx hb hts inX10 hown hK hP 0 rfl rfl 0 (Nat.le_of_ble_eq_true rfl) (hts _ mw_309) (fun _ h9 => h9) rfl dX10_told_1 ?_
    refine lv_iload_n hx hb dX10_told_4 rfl (lv_at hl 1 rfl) ?_
    obtain ⟨hPc, hDc, hFc, hI1⟩ := zi_sub (wc := [_, _]) hP hD hS hA [1, 2] rfl rfl
    refine zcall (st1 := [.ref fe2]) (va_runV (As := [.int (nI f0)]) (rest := []) ⟨hx, hb, hml, hown, hts⟩ (k_Sheet_find l dC dI cI cZ cF s.heap.size sh fa ft FA f0 fe2 (by first | with_reducible assumption | omega) (by first | with_reducible assumption | omega) (hFA2)) (csV_94 hts rfl rfl ⟨Nat.le_of_ble_eq_true rfl, Nat.le_of_ble_eq_true rfl⟩) (zPV2 (q0 := 0) (ci := 7) hPc hDc hK hXN rfl rfl) rfl rfl hl.1 rfl (lv_room (Nat.le_of_ble_eq_true rfl)) dX10_told_5 ⟨Nat.le_of_ble_eq_true rfl, Nat.le_of_ble_eq_true rfl⟩) hS hFc hFc rfl (fun t H locs ht hB hk1 hS => ?_)
    obtain ⟨hP1, hD1⟩ := hB
    rw [ht] at hP1
    replace hP := z0 hP hD hk1 hP1 hI1
    clear hk1 hPc hDc hFc hP1 hD1 ht hI1
    refine lv_astore_n (lv' := [(3, .ref fe2), (0, .ref x), (1, .int (nI f0)), (2, .int w)]) hx hb dX10_told_8 rfl hl (Nat.le_of_ble_eq_true rfl) rfl (fun ls hl => ?_)
    refine lv_aload_n hx hb dX10_told_9 rfl (lv_at hl 0 rfl) ?_
    refine lv_ifnonnull (tgt := 15) hx hb dX10_told_10 rfl ?_
    refine lv_iload_n hx hb dX10_told_15 rfl (lv_at hl 3 rfl) ?_
    rcases zz_sw (lo := 0) (hi := 10) rfl with c_13 | c_13
    · refine lv_tableOut (tgt := 174) hx hb dX10_told_16 c_13.1 (by decide) ?_
      refine lv_iconst (v := (-1)) hx hb dX10_told_174 rfl ?_
      obtain ⟨hP, hD⟩ := pl_bk (X := [_, _, _]) hT_1 hP rfl hc9_1 hD0_1 rfl
      obtain ⟨hP9, hD9⟩ := zu_part (cx := [_, _, _]) hP hD [true, true, true] rfl rfl
      rw [hQ9]
      exact W.iret (v := (-1)) hx hb hr (fun t ht hW => ⟨⟨_, rfl, (-1), rfl, by rw [ht]; exact hP9, hD9⟩, hS.F ht⟩) hS.2.2 dX10_told_175
    · by_cases c_14 : w.toInt = 0
      · refine lv_tableIn (tgt := 76) (off := 60) hx hb dX10_told_16 c_13.2.1 c_13.2.2 (by rw [show (w).toInt = 0 from (rfl).trans c_14]; rfl) (by decide) ?_
        refine lv_aload_n hx hb dX10_told_76 rfl (lv_at hl 0 rfl) ?_
        refine va_get (D := (dC, dI)) (ci := 1) (v := .ref lk2) (C := RX2) (T := TX2) (N := 8) hx hb hts inX2 hown hK hP 3 rfl rfl 6 (Nat.le_of_ble_eq_true rfl) (hts _ mw_433) (fun _ h9 => h9) rfl dX10_told_77 ?_
        refine va_get (D := (dC, dI)) (ci := 4) (v := .int (kd f0)) (C := RX5) (T := TX5) (N := 6) hx hb hts inX5 hown hK hP 4 rfl rfl 0 (Nat.le_of_ble_eq_true rfl) (hts _ mw_381) (fun _ h9 => h9) rfl dX10_told_80 ?_
        obtain ⟨hP, hD⟩ := pl_bk (X := [_, _, _]) hT_1 hP rfl hc9_1 hD0_1 rfl
        obtain ⟨hP9, hD9⟩ := zu_part (cx := [_, _, _]) hP hD [true, true, true] rfl rfl
        rw [hQ9]
        exact W.iret (v := kd f0) hx hb hr (fun t ht hW => ⟨⟨_, rfl, (kd f0), rfl, by rw [ht]; exact hP9, hD9⟩, hS.F ht⟩) hS.2.2 dX10_told_83
      by_cases c_15 : w.toInt = 1
      · refine lv_tableIn (tgt := 84) (off := 68) hx hb dX10_told_16 c_13.2.1 c_13.2.2 (by rw [show (w).toInt = 1 from (rfl).trans c_15]; rfl) (by decide) ?_
        refine lv_aload_n hx hb dX10_told_84 rfl (lv_at hl 0 rfl) ?_
        refine va_get (D := (dC, dI)) (ci := 1) (v := .int (rk f0)) (C := RX2) (T := TX2) (N := 8) hx hb hts inX2 hown hK hP 3 rfl rfl 0 (Nat.le_of_ble_eq_true rfl) (hts _ mw_417) (fun _ h9 => h9) rfl dX10_told_85 ?_
        obtain ⟨hP, hD⟩ := pl_bk (X := [_, _, _]) hT_1 hP rfl hc9_1 hD0_1 rfl
        obtain ⟨hP9, hD9⟩ := zu_part (cx := [_, _, _]) hP hD [true, true, true] rfl rfl
        rw [hQ9]
        exact W.iret (v := rk f0) hx hb hr (fun t ht hW => ⟨⟨_, rfl, (rk f0), rfl, by rw [ht]; exact hP9, hD9⟩, hS.F ht⟩) hS.2.2 dX10_told_88
      by_cases c_16 : w.toInt = 2
      · refine lv_tableIn (tgt := 89) (off := 73) hx hb dX10_told_16 c_13.2.1 c_13.2.2 (by rw [show (w).toInt = 2 from (rfl).trans c_16]; rfl) (by decide) ?_
        refine lv_aload_n hx hb dX10_told_89 rfl (lv_at hl 0 rfl) ?_
        refine va_get (D := (dC, dI)) (ci := 1) (v := .int (wd f0)) (C := RX2) (T := TX2) (N := 8) hx hb hts inX2 hown hK hP 3 rfl rfl 1 (Nat.le_of_ble_eq_true rfl) (hts _ mw_419) (fun _ h9 => h9) rfl dX10_told_90 ?_
        obtain ⟨hP, hD⟩ := pl_bk (X := [_, _, _]) hT_1 hP rfl hc9_1 hD0_1 rfl
        obtain ⟨hP9, hD9⟩ := zu_part (cx := [_, _, _]) hP hD [true, true, true] rfl rfl
        rw [hQ9]
        exact W.iret (v := wd f0) hx hb hr (fun t ht hW => ⟨⟨_, rfl, (wd f0), rfl, by rw [ht]; exact hP9, hD9⟩, hS.F ht⟩) hS.2.2 dX10_told_93
      by_cases c_17 : w.toInt = 3
      · refine lv_tableIn (tgt := 94) (off := 78) hx hb dX10_told_16 c_13.2.1 c_13.2.2 (by rw [show (w).toInt = 3 from (rfl).trans c_17]; rfl) (by decide) ?_
        refine lv_aload_n hx hb dX10_told_94 rfl (lv_at hl 0 rfl) ?_
        refine va_get (D := (dC, dI)) (ci := 1) (v := .int (tw f0)) (C := RX2) (T := TX2) (N := 8) hx hb hts inX2 hown hK hP 3 rfl rfl 2 (Nat.le_of_ble_eq_true rfl) (hts _ mw_421) (fun _ h9 => h9) rfl dX10_told_95 ?_
        obtain ⟨hP, hD⟩ := pl_bk (X := [_, _, _]) hT_1 hP rfl hc9_1 hD0_1 rfl
        obtain ⟨hP9, hD9⟩ := zu_part (cx := [_, _, _]) hP hD [true, true, true] rfl rfl
        rw [hQ9]
        exact W.iret (v := tw f0) hx hb hr (fun t ht hW => ⟨⟨_, rfl, (tw f0), rfl, by rw [ht]; exact hP9, hD9⟩, hS.F ht⟩) hS.2.2 dX10_told_98
      by_cases c_18 : w.toInt = 4
      · refine lv_tableIn (tgt := 99) (off := 83) hx hb dX10_told_16 c_13.2.1 c_13.2.2 (by rw [show (w).toInt = 4 from (rfl).trans c_18]; rfl) (by decide) ?_
        refine lv_aload_n hx hb dX10_told_99 rfl (lv_at hl 0 rfl) ?_
        refine va_get (D := (dC, dI)) (ci := 1) (v := .ref lk2) (C := RX2) (T := TX2) (N := 8) hx hb hts inX2 hown hK hP 3 rfl rfl 6 (Nat.le_of_ble_eq_true rfl) (hts _ mw_433) (fun _ h9 => h9) rfl dX10_told_100 ?_
        refine va_get (D := (dC, dI)) (ci := 4) (v := .ref r2) (C := RX5) (T := TX5) (N := 6) hx hb hts inX5 hown hK hP 4 rfl rfl 2 (Nat.le_of_ble_eq_true rfl) (hts _ mw_391) (fun _ h9 => h9) rfl dX10_told_103 ?_
        refine lv_ifnonnull (tgt := 113) hx hb dX10_told_106 rfl ?_
        refine lv_aload_n hx hb dX10_told_113 rfl (lv_at hl 0 rfl) ?_
        refine va_get (D := (dC, dI)) (ci := 1) (v := .ref lk2) (C := RX2) (T := TX2) (N := 8) hx hb hts inX2 hown hK hP 3 rfl rfl 6 (Nat.le_of_ble_eq_true rfl) (hts _ mw_433) (fun _ h9 => h9) rfl dX10_told_114 ?_
        refine va_get (D := (dC, dI)) (ci := 4) (v := .ref r2) (C := RX5) (T := TX5) (N := 6) hx hb hts inX5 hown hK hP 4 rfl rfl 2 (Nat.le_of_ble_eq_true rfl) (hts _ mw_391) (fun _ h9 => h9) rfl dX10_told_117 ?_
        refine va_get (D := (dC, dI)) (ci := 6) (v := .int (nI (nN (mn f0)))) (C := RX7) (T := TX7) (N := 4) hx hb hts inX7 hown hK hP 5 rfl rfl 2 (Nat.le_of_ble_eq_true rfl) (hts _ mw_179) (fun _ h9 => h9) rfl dX10_told_120 ?_
        obtain ⟨hP, hD⟩ := pl_bk (X := [_, _, _]) hT_1 hP rfl hc9_1 hD0_1 rfl
        obtain ⟨hP9, hD9⟩ := zu_part (cx := [_, _, _]) hP hD [true, true, true] rfl rfl
        rw [hQ9]
        exact W.iret (v := nI (nN (mn f0))) hx hb hr (fun t ht hW => ⟨⟨_, rfl, (nI (nN (mn f0))), rfl, by rw [ht]; exact hP9, hD9⟩, hS.F ht⟩) hS.2.2 dX10_told_123
      by_cases c_19 : w.toInt = 5
      · refine lv_tableIn (tgt := 124) (off := 108) hx hb dX10_told_16 c_13.2.1 c_13.2.2 (by rw [show (w).toInt = 5 from (rfl).trans c_19]; rfl) (by decide) ?_
        refine lv_aload_n hx hb dX10_told_124 rfl (lv_at hl 0 rfl) ?_
        refine va_get (D := (dC, dI)) (ci := 1) (v := .ref lk2) (C := RX2) (T := TX2) (N := 8) hx hb hts inX2 hown hK hP 3 rfl rfl 6 (Nat.le_of_ble_eq_true rfl) (hts _ mw_433) (fun _ h9 => h9) rfl dX10_told_125 ?_
        refine va_get (D := (dC, dI)) (ci := 4) (v := .int (st f0)) (C := RX5) (T := TX5) (N := 6) hx hb hts inX5 hown hK hP 4 rfl rfl 1 (Nat.le_of_ble_eq_true rfl) (hts _ mw_385) (fun _ h9 => h9) rfl dX10_told_128 ?_
        obtain ⟨hP, hD⟩ := pl_bk (X := [_, _, _]) hT_1 hP rfl hc9_1 hD0_1 rfl
        obtain ⟨hP9, hD9⟩ := zu_part (cx := [_, _, _]) hP hD [true, true, true] rfl rfl
        rw [hQ9]
        exact W.iret (v := st f0) hx hb hr (fun t ht hW => ⟨⟨_, rfl, (st f0), rfl, by rw [ht]; exact hP9, hD9⟩, hS.F ht⟩) hS.2.2 dX10_told_131
      by_cases c_20 : w.toInt = 6
      · refine lv_tableIn (tgt := 132) (off := 116) hx hb dX10_told_16 c_13.2.1 c_13.2.2 (by rw [show (w).toInt = 6 from (rfl).trans c_20]; rfl) (by decide) ?_
        refine lv_aload_n hx hb dX10_told_132 rfl (lv_at hl 0 rfl) ?_
        refine va_get (D := (dC, dI)) (ci := 1) (v := .ref lk2) (C := RX2) (T := TX2) (N := 8) hx hb hts inX2 hown hK hP 3 rfl rfl 6 (Nat.le_of_ble_eq_true rfl) (hts _ mw_433) (fun _ h9 => h9) rfl dX10_told_133 ?_
        refine va_get (D := (dC, dI)) (ci := 4) (v := .ref r2) (C := RX5) (T := TX5) (N := 6) hx hb hts inX5 hown hK hP 4 rfl rfl 2 (Nat.le_of_ble_eq_true rfl) (hts _ mw_391) (fun _ h9 => h9) rfl dX10_told_136 ?_
        refine lv_ifnonnull (tgt := 146) hx hb dX10_told_139 rfl ?_
        refine lv_iconst (v := 0) hx hb dX10_told_146 rfl ?_
        obtain ⟨hP, hD⟩ := pl_bk (X := [_, _, _]) hT_1 hP rfl hc9_1 hD0_1 rfl
        obtain ⟨hP9, hD9⟩ := zu_part (cx := [_, _, _]) hP hD [true, true, true] rfl rfl
        rw [hQ9]
        exact W.iret (v := 0) hx hb hr (fun t ht hW => ⟨⟨_, rfl, 0, rfl, by rw [ht]; exact hP9, hD9⟩, hS.F ht⟩) hS.2.2 dX10_told_147
      by_cases c_21 : w.toInt = 7
      · refine lv_tableIn (tgt := 148) (off := 132) hx hb dX10_told_16 c_13.2.1 c_13.2.2 (by rw [show (w).toInt = 7 from (rfl).trans c_21]; rfl) (by decide) ?_
        refine lv_aload_n hx hb dX10_told_148 rfl (lv_at hl 0 rfl) ?_
        refine va_get (D := (dC, dI)) (ci := 1) (v := .ref lk2) (C := RX2) (T := TX2) (N := 8) hx hb hts inX2 hown hK hP 3 rfl rfl 6 (Nat.le_of_ble_eq_true rfl) (hts _ mw_433) (fun _ h9 => h9) rfl dX10_told_149 ?_
        refine va_get (D := (dC, dI)) (ci := 4) (v := .int (gb f0)) (C := RX5) (T := TX5) (N := 6) hx hb hts inX5 hown hK hP 4 rfl rfl 3 (Nat.le_of_ble_eq_true rfl) (hts _ mw_396) (fun _ h9 => h9) rfl dX10_told_152 ?_
        obtain ⟨hP, hD⟩ := pl_bk (X := [_, _, _]) hT_1 hP rfl hc9_1 hD0_1 rfl
        obtain ⟨hP9, hD9⟩ := zu_part (cx := [_, _, _]) hP hD [true, true, true] rfl rfl
        rw [hQ9]
        exact W.iret (v := gb f0) hx hb hr (fun t ht hW => ⟨⟨_, rfl, (gb f0), rfl, by rw [ht]; exact hP9, hD9⟩, hS.F ht⟩) hS.2.2 dX10_told_155
      by_cases c_22 : w.toInt = 8
      · refine lv_tableIn (tgt := 156) (off := 140) hx hb dX10_told_16 c_13.2.1 c_13.2.2 (by rw [show (w).toInt = 8 from (rfl).trans c_22]; rfl) (by decide) ?_
        refine lv_aload_n hx hb dX10_told_156 rfl (lv_at hl 0 rfl) ?_
        refine va_get (D := (dC, dI)) (ci := 1) (v := .int (pa f0)) (C := RX2) (T := TX2) (N := 8) hx hb hts inX2 hown hK hP 3 rfl rfl 3 (Nat.le_of_ble_eq_true rfl) (hts _ mw_423) (fun _ h9 => h9) rfl dX10_told_157 ?_
        obtain ⟨hP, hD⟩ := pl_bk (X := [_, _, _]) hT_1 hP rfl hc9_1 hD0_1 rfl
        obtain ⟨hP9, hD9⟩ := zu_part (cx := [_, _, _]) hP hD [true, true, true] rfl rfl
        rw [hQ9]
        exact W.iret (v := pa f0) hx hb hr (fun t ht hW => ⟨⟨_, rfl, (pa f0), rfl, by rw [ht]; exact hP9, hD9⟩, hS.F ht⟩) hS.2.2 dX10_told_160
      by_cases c_23 : w.toInt = 9
      · refine lv_tableIn (tgt := 161) (off := 145) hx hb dX10_told_16 c_13.2.1 c_13.2.2 (by rw [show (w).toInt = 9 from (rfl).trans c_23]; rfl) (by decide) ?_
        refine lv_aload_n hx hb dX10_told_161 rfl (lv_at hl 0 rfl) ?_
        refine va_get (D := (dC, dI)) (ci := 1) (v := .int (pb f0)) (C := RX2) (T := TX2) (N := 8) hx hb hts inX2 hown hK hP 3 rfl rfl 4 (Nat.le_of_ble_eq_true rfl) (hts _ mw_425) (fun _ h9 => h9) rfl dX10_told_162 ?_
        obtain ⟨hP, hD⟩ := pl_bk (X := [_, _, _]) hT_1 hP rfl hc9_1 hD0_1 rfl
        obtain ⟨hP9, hD9⟩ := zu_part (cx := [_, _, _]) hP hD [true, true, true] rfl rfl
        rw [hQ9]
        exact W.iret (v := pb f0) hx hb hr (fun t ht hW => ⟨⟨_, rfl, (pb f0), rfl, by rw [ht]; exact hP9, hD9⟩, hS.F ht⟩) hS.2.2 dX10_told_165
      by_cases c_24 : w.toInt = 10
      · refine lv_tableIn (tgt := 166) (off := 150) hx hb dX10_told_16 c_13.2.1 c_13.2.2 (by rw [show (w).toInt = 10 from (rfl).trans c_24]; rfl) (by decide) ?_
        refine lv_aload_n hx hb dX10_told_166 rfl (lv_at hl 0 rfl) ?_
        refine va_get (D := (dC, dI)) (ci := 1) (v := .ref lk2) (C := RX2) (T := TX2) (N := 8) hx hb hts inX2 hown hK hP 3 rfl rfl 6 (Nat.le_of_ble_eq_true rfl) (hts _ mw_433) (fun _ h9 => h9) rfl dX10_told_167 ?_
        refine va_get (D := (dC, dI)) (ci := 4) (v := .int (it f0)) (C := RX5) (T := TX5) (N := 6) hx hb hts inX5 hown hK hP 4 rfl rfl 4 (Nat.le_of_ble_eq_true rfl) (hts _ mw_398) (fun _ h9 => h9) rfl dX10_told_170 ?_
        obtain ⟨hP, hD⟩ := pl_bk (X := [_, _, _]) hT_1 hP rfl hc9_1 hD0_1 rfl
        obtain ⟨hP9, hD9⟩ := zu_part (cx := [_, _, _]) hP hD [true, true, true] rfl rfl
        rw [hQ9]
        exact W.iret (v := it f0) hx hb hr (fun t ht hW => ⟨⟨_, rfl, (it f0), rfl, by rw [ht]; exact hP9, hD9⟩, hS.F ht⟩) hS.2.2 dX10_told_173
      exfalso; omega
set_option maxHeartbeats 4000000 in
set_option maxRecDepth 100000 in
theorem k_at_a (l : Launch) (dC : Nat → ClassId) (dI : Nat → Nat → Nat) (cI cZ cF : ClassId) (sz : Nat) (x : Nat) (sh : Nat) (lw : Nat) (ro : Nat) (bq : Nat) (bp : Nat) (dq : Nat) (dp : Nat) (lv : Nat) (sl : Nat) (sd : Int32) (ul : Int32) (su : Int32) (ds : Int32) (fa : Nat) (ft : Nat) (FA : Nat → Option Nat) (f0 : Nat) (L : List Nat) (f : Nat → va_E) (kd : Nat → Int32) (st : Nat → Int32) (tn : Nat → Int32) (mn : Nat → Int32) (cx : Nat → Int32) (cy : Nat → Int32) (rk : Nat → Int32) (wd : Nat → Int32) (tw : Nat → Int32) (pa : Nat → Int32) (pb : Nat → Int32) (gb : Nat → Int32) (it : Nat → Int32) (kv : Int32) (w : Int32) (h200 : ft ≤ 200) (hf0 : f0 < ft) (hva : ∀ q, q < ft → vwA cI L f FA rk wd tw pa pb kd st gb it tn mn cx cy q) : Met l yX10_at (.code yX10_at cX10_at 6 (some .int) :: ws0) ({ frames := 1, cells := 0, slots := 0, locals := 22 } : Room) (va_Pc [.ref x, .int (nI f0), .int kv, .int w] (zPre (dC, dI) classes (zTy cI cZ cF) ([(oc8 x (.ref sh) (.ref lw) (.ref ro) (.ref bq) (.ref bp) (.ref dq) (.ref dp) (.ref lv) (.ref sl) ds sd ul su), (oc7 sh (.ref fa) (nI ft)), (oq fa cF 200 FA)] ++ va_pl L f) sz zXN)) (zQe (fun v9 t => ∃ (b9 : Int32), v9 = (some (.int b9)) ∧ va_P (dC, dI) classes ([(oc8 x (.ref sh) (.ref lw) (.ref ro) (.ref bq) (.ref bp) (.ref dq) (.ref dp) (.ref lv) (.ref sl) ds sd ul su), (oc7 sh (.ref fa) (nI ft)), (oq fa cF 200 FA)] ++ va_pl L f) t.heap ∧ va_D (va_A ([(oc8 x (.ref sh) (.ref lw) (.ref ro) (.ref bq) (.ref bp) (.ref dq) (.ref dp) (.ref lv) (.ref sl) ds sd ul su), (oc7 sh (.ref fa) (nI ft)), (oq fa cF 200 FA)] ++ va_pl L f) sz) ([(oc8 x (.ref sh) (.ref lw) (.ref ro) (.ref bq) (.ref bp) (.ref dq) (.ref dp) (.ref lv) (.ref sl) ds sd ul su), (oc7 sh (.ref fa) (nI ft)), (oq fa cF 200 FA)] ++ va_pl L f)) (va_A ([(oc8 x (.ref sh) (.ref lw) (.ref ro) (.ref bq) (.ref bp) (.ref dq) (.ref dp) (.ref lv) (.ref sl) ds sd ul su), (oc7 sh (.ref fa) (nI ft)), (oq fa cF 200 FA)] ++ va_pl L f) sz)) 0 0 (va_A ([(oc8 x (.ref sh) (.ref lw) (.ref ro) (.ref bq) (.ref bp) (.ref dq) (.ref dp) (.ref lv) (.ref sl) ds sd ul su), (oc7 sh (.ref fa) (nI ft)), (oq fa cF 200 FA)] ++ va_pl L f) sz) := by
  refine Met.ofW (cc := cX10_at) (maxL := 6) (ret := (some .int)) rfl rfl ?_
  intro p e s m args below meth c s₁ B hml hv
  obtain ⟨rfl, hsz, hP, hK, hD0, hXN⟩ := hv
  have hx := B.exec
  have hb := B.bytes
  have hr := B.returns
  have hts0 := atoms_spec (ws := .code yX10_at cX10_at 6 (some .int) :: ws0) B.pre
  have hts : ∀ w9 ∈ ws0, w9.before ([.ref x, .int (nI f0), .int kv, .int w] : List Value).toArray s = true := fun w9 h => hts0 w9 (List.mem_cons_of_mem _ h)
  have hown : s.vm.findClass "ScaleShop" = some m.cls := findClass_of_methodNamed B.named
  have hlocks := B.notSynchronized
  subst hsz
  have hD := hD0.self (sz := s.heap.size)
  clear hD0
  generalize hAe : va_A ([(oc8 x (.ref sh) (.ref lw) (.ref ro) (.ref bq) (.ref bp) (.ref dq) (.ref dp) (.ref lv) (.ref sl) ds sd ul su), (oc7 sh (.ref fa) (nI ft)), (oq fa cF 200 FA)] ++ va_pl L f) s.heap.size = A at hD ⊢
  have hA : ∀ q : Nat, s.heap.size ≤ q → A q := fun q h => by rw [← hAe]; exact Or.inr h
  clear hAe
  have hS : va_S A s.heap s.heap [] := va_S.rf
  have hP : va_P (dC, dI) classes ([(oc8 x (.ref sh) (.ref lw) (.ref ro) (.ref bq) (.ref bp) (.ref dq) (.ref dp) (.ref lv) (.ref sl) ds sd ul su), (oc7 sh (.ref fa) (nI ft)), (oq fa cF 200 FA)] ++ va_pl L f) s.heap := hP
  obtain ⟨Q9, hQ9⟩ : ∃ Q9 : State → Prop, Q9 = MQ below (zQe (fun v9 t => ∃ (b9 : Int32), v9 = (some (.int b9)) ∧ va_P (dC, dI) classes ([(oc8 x (.ref sh) (.ref lw) (.ref ro) (.ref bq) (.ref bp) (.ref dq) (.ref dp) (.ref lv) (.ref sl) ds sd ul su), (oc7 sh (.ref fa) (nI ft)), (oq fa cF 200 FA)] ++ va_pl L f) t.heap ∧ va_D A ([(oc8 x (.ref sh) (.ref lw) (.ref ro) (.ref bq) (.ref bp) (.ref dq) (.ref dp) (.ref lv) (.ref sl) ds sd ul su), (oc7 sh (.ref fa) (nI ft)), (oq fa cF 200 FA)] ++ va_pl L f)) A) ([.ref x, .int (nI f0), .int kv, .int w] : List Value).toArray s 0 0 A := ⟨_, rfl⟩
  rw [← hQ9]
  have hl := lv_entry ([.ref x, .int (nI f0), .int kv, .int w]) (n := 6) (Nat.le_of_ble_eq_true rfl)
  rw [lg_entry_eq]
  generalize (lg_sl ([.ref x, .int (nI f0), .int kv, .int w]) ++ List.replicate (6 - (lg_sl ([.ref x, .int (nI f0), .int kv, .int w])).length) Slot.unset).toArray = ls at hl ⊢
  have hl : lv_has ls 6 [(0, .ref x), (1, .int (nI f0)), (2, .int kv), (3, .int w)] := hl
  have e_0 : (0 : Int32).toInt = 0 := (by decide)
  have e_1 : (1 : Int32).toInt = 1 := (by decide)
  rcases vwA_2 (hva f0 (by omega)) with ⟨ht2, fe2, lk2, lo2, we2, fm2, hFA2, hfe2, hlk2⟩ | ⟨ht2, fe2, lk2, lo2, we2, fm2, r2, rx2, ry2, cap2, U2, V2, rg2, hFA2, hfe2, hlk2, ⟨hr2, hrx2, hry2, hne2⟩, hrr2⟩
  · skip
    have hc9_1 : inPl L f [(oc1 fe2 (rk f0) (wd f0) (tw f0) (pa f0) (pb f0) (.ref lo2) (.ref lk2) fm2), (oc4 lk2 (kd f0) (st f0) .null (gb f0) (it f0) we2)] := ⟨hfe2, hlk2, trivial⟩
    have hD0_1 := hD
    obtain ⟨T_1, hT_1, hP, hD⟩ := pl_oT hP hD hc9_1 (pwF hfe2.2 hlk2.2)
    obtain ⟨hP, hD⟩ := zre (W2 := ([_, _, _, _, _] ++ va_pl T_1 f)) hP hD rfl
    refine lv_aload_n hx hb dX10_at_0 rfl (lv_at hl 0 rfl) ?_
    refine va_get (D := (dC, dI)) (ci := 8) (v := .ref sh) (C := RX10) (T := TX10) (N := 13) hx hb hts inX10 hown hK hP 0 rfl rfl 0 (Nat.le_of_ble_eq_true rfl) (hts _ mw_309) (fun _ h9 => h9) rfl dX10_at_1 ?_
    refine lv_iload_n hx hb dX10_at_4 rfl (lv_at hl 1 rfl) ?_
    obtain ⟨hPc, hDc, hFc, hI1⟩ := zi_sub (wc := [_, _]) hP hD hS hA [1, 2] rfl rfl
    refine zcall (st1 := [.ref fe2]) (va_runV (As := [.int (nI f0)]) (rest := []) ⟨hx, hb, hml, hown, hts⟩ (k_Sheet_find l dC dI cI cZ cF s.heap.size sh fa ft FA f0 fe2 (by first | with_reducible assumption | omega) (by first | with_reducible assumption | omega) (hFA2)) (csV_94 hts rfl rfl ⟨Nat.le_of_ble_eq_true rfl, Nat.le_of_ble_eq_true rfl⟩) (zPV2 (q0 := 0) (ci := 7) hPc hDc hK hXN rfl rfl) rfl rfl hl.1 rfl (lv_room (Nat.le_of_ble_eq_true rfl)) dX10_at_5 ⟨Nat.le_of_ble_eq_true rfl, Nat.le_of_ble_eq_true rfl⟩) hS hFc hFc rfl (fun t H locs ht hB hk1 hS => ?_)
    obtain ⟨hP1, hD1⟩ := hB
    rw [ht] at hP1
    replace hP := z0 hP hD hk1 hP1 hI1
    clear hk1 hPc hDc hFc hP1 hD1 ht hI1
    refine lv_astore (lv' := [(4, .ref fe2), (0, .ref x), (1, .int (nI f0)), (2, .int kv), (3, .int w)]) hx hb dX10_at_8 hl (Nat.le_of_ble_eq_true rfl) rfl (fun ls hl => ?_)
    refine lv_aload hx hb dX10_at_10 (lv_at hl 0 rfl) ?_
    refine lv_ifnull hx hb dX10_at_12 ?_
    refine lv_iload_n hx hb dX10_at_15 rfl (lv_at hl 4 rfl) ?_
    refine lv_iconst (v := 0) hx hb dX10_at_16 rfl ?_
    refine lv_iconst (v := 1) hx hb dX10_at_17 rfl ?_
    obtain ⟨hPc, hDc, hFc, hI1⟩ := zi_sub (wc := []) hP hD hS hA [] rfl rfl
    refine zcall (st1 := [.int (pI ((0 : Int32).toInt ≤ w.toInt ∧ w.toInt ≤ (1 : Int32).toInt))]) (va_runS (As := [.int w, .int 0, .int 1]) (rest := []) ⟨hx, hb, hml, hown, hts⟩ (k_isWithin l dC dI cI cZ cF H.size w 0 1 ) (csS_14 hts rfl rfl ⟨Nat.le_of_ble_eq_true rfl, Nat.le_of_ble_eq_true rfl⟩) (zPS2 hPc hDc hK hXN) rfl rfl hl.1 rfl (lv_room (Nat.le_of_ble_eq_true rfl)) dX10_at_18 ⟨Nat.le_of_ble_eq_true rfl, Nat.le_of_ble_eq_true rfl⟩) hS hFc hFc rfl (fun t H locs ht hB hk1 hS => ?_)
    obtain ⟨hP1, hD1⟩ := hB
    rw [ht] at hP1
    replace hP := z0 hP hD hk1 hP1 hI1
    clear hk1 hPc hDc hFc hP1 hD1 ht hI1
    refine lv_if_ne (tgt := 26) hx hb dX10_at_21 rfl (fun c_1 => ?_) (fun c_1 => ?_)
    · have c_1 : (0 : Int32).toInt ≤ w.toInt ∧ w.toInt ≤ (1 : Int32).toInt := zp_1 c_1
      refine lv_aload hx hb dX10_at_26 (lv_at hl 0 rfl) ?_
      refine va_get (D := (dC, dI)) (ci := 1) (v := .ref lk2) (C := RX2) (T := TX2) (N := 8) hx hb hts inX2 hown hK hP 3 rfl rfl 6 (Nat.le_of_ble_eq_true rfl) (hts _ mw_433) (fun _ h9 => h9) rfl dX10_at_28 ?_
      refine va_get (D := (dC, dI)) (ci := 4) (v := .null) (C := RX5) (T := TX5) (N := 6) hx hb hts inX5 hown hK hP 4 rfl rfl 2 (Nat.le_of_ble_eq_true rfl) (hts _ mw_391) (fun _ h9 => h9) rfl dX10_at_31 ?_
      refine lv_astoreN (lv' := [(5, .null), (4, .ref fe2), (0, .ref x), (1, .int (nI f0)), (2, .int kv), (3, .int w)]) hx hb dX10_at_34 hl (Nat.le_of_ble_eq_true rfl) rfl (fun ls hl => ?_)
      refine lv_aloadN hx hb dX10_at_36 (lv_at hl 0 rfl) ?_
      refine lv_ifnullN (tgt := 54) hx hb dX10_at_38 rfl ?_
      refine lv_iconst (v := (-1)) hx hb dX10_at_54 rfl ?_
      obtain ⟨hP, hD⟩ := pl_bk (X := [_, _, _]) hT_1 hP rfl hc9_1 hD0_1 rfl
      obtain ⟨hP9, hD9⟩ := zu_part (cx := [_, _, _]) hP hD [true, true, true] rfl rfl
      rw [hQ9]
      exact W.iret (v := (-1)) hx hb hr (fun t ht hW => ⟨⟨_, rfl, (-1), rfl, by rw [ht]; exact hP9, hD9⟩, hS.F ht⟩) hS.2.2 dX10_at_55
    · have c_1 : ¬ ((0 : Int32).toInt ≤ w.toInt ∧ w.toInt ≤ (1 : Int32).toInt) := zp_0 c_1
      refine lv_iconst (v := (-1)) hx hb dX10_at_24 rfl ?_
      obtain ⟨hP, hD⟩ := pl_bk (X := [_, _, _]) hT_1 hP rfl hc9_1 hD0_1 rfl
      obtain ⟨hP9, hD9⟩ := zu_part (cx := [_, _, _]) hP hD [true, true, true] rfl rfl
      rw [hQ9]
      exact W.iret (v := (-1)) hx hb hr (fun t ht hW => ⟨⟨_, rfl, (-1), rfl, by rw [ht]; exact hP9, hD9⟩, hS.F ht⟩) hS.2.2 dX10_at_25
  · skip
    have hcap2 := hrr2.1
    have hcap3 := hrr2.2.1
    have hc9_1 : inPl L f [(oc1 fe2 (rk f0) (wd f0) (tw f0) (pa f0) (pb f0) (.ref lo2) (.ref lk2) fm2), (oc4 lk2 (kd f0) (st f0) (.ref r2) (gb f0) (it f0) we2), (oc6 r2 (.ref rx2) (.ref ry2) (nI (nN (mn f0))) rg2), (oa rx2 cI cap2 U2), (oa ry2 cI cap2 V2)] := ⟨hfe2, hlk2, hr2, hrx2, hry2, trivial⟩
    have hD0_1 := hD
    obtain ⟨T_1, hT_1, hP, hD⟩ := pl_oT hP hD hc9_1 (pwR hfe2.2 hlk2.2 hr2.2 hrx2.2 hry2.2 hne2)
    obtain ⟨hP, hD⟩ := zre (W2 := ([_, _, _, _, _, _, _, _] ++ va_pl T_1 f)) hP hD rfl
    refine lv_aload_n hx hb dX10_at_0 rfl (lv_at hl 0 rfl) ?_
    refine va_get (D := (dC, dI)) (ci := 8) (v := .ref sh) (C := RX10) (T := TX10) (N := 13) hx hb hts inX10 hown hK hP 0 rfl rfl 0 (Nat.le_of_ble_eq_true rfl) (hts _ mw_309) (fun _ h9 => h9) rfl dX10_at_1 ?_
    refine lv_iload_n hx hb dX10_at_4 rfl (lv_at hl 1 rfl) ?_
    obtain ⟨hPc, hDc, hFc, hI1⟩ := zi_sub (wc := [_, _]) hP hD hS hA [1, 2] rfl rfl
    refine zcall (st1 := [.ref fe2]) (va_runV (As := [.int (nI f0)]) (rest := []) ⟨hx, hb, hml, hown, hts⟩ (k_Sheet_find l dC dI cI cZ cF s.heap.size sh fa ft FA f0 fe2 (by first | with_reducible assumption | omega) (by first | with_reducible assumption | omega) (hFA2)) (csV_94 hts rfl rfl ⟨Nat.le_of_ble_eq_true rfl, Nat.le_of_ble_eq_true rfl⟩) (zPV2 (q0 := 0) (ci := 7) hPc hDc hK hXN rfl rfl) rfl rfl hl.1 rfl (lv_room (Nat.le_of_ble_eq_true rfl)) dX10_at_5 ⟨Nat.le_of_ble_eq_true rfl, Nat.le_of_ble_eq_true rfl⟩) hS hFc hFc rfl (fun t H locs ht hB hk1 hS => ?_)
    obtain ⟨hP1, hD1⟩ := hB
    rw [ht] at hP1
    replace hP := z0 hP hD hk1 hP1 hI1
    clear hk1 hPc hDc hFc hP1 hD1 ht hI1
    refine lv_astore (lv' := [(4, .ref fe2), (0, .ref x), (1, .int (nI f0)), (2, .int kv), (3, .int w)]) hx hb dX10_at_8 hl (Nat.le_of_ble_eq_true rfl) rfl (fun ls hl => ?_)
    refine lv_aload hx hb dX10_at_10 (lv_at hl 0 rfl) ?_
    refine lv_ifnull hx hb dX10_at_12 ?_
    refine lv_iload_n hx hb dX10_at_15 rfl (lv_at hl 4 rfl) ?_
    refine lv_iconst (v := 0) hx hb dX10_at_16 rfl ?_
    refine lv_iconst (v := 1) hx hb dX10_at_17 rfl ?_
    obtain ⟨hPc, hDc, hFc, hI1⟩ := zi_sub (wc := []) hP hD hS hA [] rfl rfl
    refine zcall (st1 := [.int (pI ((0 : Int32).toInt ≤ w.toInt ∧ w.toInt ≤ (1 : Int32).toInt))]) (va_runS (As := [.int w, .int 0, .int 1]) (rest := []) ⟨hx, hb, hml, hown, hts⟩ (k_isWithin l dC dI cI cZ cF H.size w 0 1 ) (csS_14 hts rfl rfl ⟨Nat.le_of_ble_eq_true rfl, Nat.le_of_ble_eq_true rfl⟩) (zPS2 hPc hDc hK hXN) rfl rfl hl.1 rfl (lv_room (Nat.le_of_ble_eq_true rfl)) dX10_at_18 ⟨Nat.le_of_ble_eq_true rfl, Nat.le_of_ble_eq_true rfl⟩) hS hFc hFc rfl (fun t H locs ht hB hk1 hS => ?_)
    obtain ⟨hP1, hD1⟩ := hB
    rw [ht] at hP1
    replace hP := z0 hP hD hk1 hP1 hI1
    clear hk1 hPc hDc hFc hP1 hD1 ht hI1
    refine lv_if_ne (tgt := 26) hx hb dX10_at_21 rfl (fun c_2 => ?_) (fun c_2 => ?_)
    · have c_2 : (0 : Int32).toInt ≤ w.toInt ∧ w.toInt ≤ (1 : Int32).toInt := zp_1 c_2
      refine lv_aload hx hb dX10_at_26 (lv_at hl 0 rfl) ?_
      refine va_get (D := (dC, dI)) (ci := 1) (v := .ref lk2) (C := RX2) (T := TX2) (N := 8) hx hb hts inX2 hown hK hP 3 rfl rfl 6 (Nat.le_of_ble_eq_true rfl) (hts _ mw_433) (fun _ h9 => h9) rfl dX10_at_28 ?_
      refine va_get (D := (dC, dI)) (ci := 4) (v := .ref r2) (C := RX5) (T := TX5) (N := 6) hx hb hts inX5 hown hK hP 4 rfl rfl 2 (Nat.le_of_ble_eq_true rfl) (hts _ mw_391) (fun _ h9 => h9) rfl dX10_at_31 ?_
      refine lv_astore (lv' := [(5, .ref r2), (4, .ref fe2), (0, .ref x), (1, .int (nI f0)), (2, .int kv), (3, .int w)]) hx hb dX10_at_34 hl (Nat.le_of_ble_eq_true rfl) rfl (fun ls hl => ?_)
      refine lv_aload hx hb dX10_at_36 (lv_at hl 0 rfl) ?_
      refine lv_ifnull hx hb dX10_at_38 ?_
      refine lv_iload_n hx hb dX10_at_41 rfl (lv_at hl 4 rfl) ?_
      refine lv_if_lt (tgt := 54) hx hb dX10_at_42 rfl (fun c_3 => ?_) (fun c_3 => ?_)
      · have c_3 : kv.toInt < 0 := zc_lt rfl rfl c_3
        refine lv_iconst (v := (-1)) hx hb dX10_at_54 rfl ?_
        obtain ⟨hP, hD⟩ := pl_bk (X := [_, _, _]) hT_1 hP rfl hc9_1 hD0_1 rfl
        obtain ⟨hP9, hD9⟩ := zu_part (cx := [_, _, _]) hP hD [true, true, true] rfl rfl
        rw [hQ9]
        exact W.iret (v := (-1)) hx hb hr (fun t ht hW => ⟨⟨_, rfl, (-1), rfl, by rw [ht]; exact hP9, hD9⟩, hS.F ht⟩) hS.2.2 dX10_at_55
      · have c_3 : 0 ≤ kv.toInt := zc_nlt rfl rfl c_3
        refine lv_iload_n hx hb dX10_at_45 rfl (lv_at hl 4 rfl) ?_
        refine lv_aload hx hb dX10_at_46 (lv_at hl 0 rfl) ?_
        refine va_get (D := (dC, dI)) (ci := 6) (v := .int (nI (nN (mn f0)))) (C := RX7) (T := TX7) (N := 4) hx hb hts inX7 hown hK hP 5 rfl rfl 2 (Nat.le_of_ble_eq_true rfl) (hts _ mw_179) (fun _ h9 => h9) rfl dX10_at_48 ?_
        have b9_5 : zlt ((nN (mn f0))) := show (nN (mn f0)) < 2147483648 by omega
        refine lv_icmp_lt (tgt := 56) hx hb dX10_at_51 rfl (fun c_4 => ?_) (fun c_4 => ?_)
        · have c_4 : kv.toInt < ((nN (mn f0) : Nat) : Int) := zc_lt rfl (nI_toInt b9_5) c_4
          refine lv_iload_n hx hb dX10_at_56 rfl (lv_at hl 5 rfl) ?_
          refine lv_if_ne (tgt := 70) hx hb dX10_at_57 rfl (fun c_6 => ?_) (fun c_6 => ?_)
          · have c_6 : ¬ w.toInt = 0 := zc_ne rfl rfl c_6
            refine lv_aload hx hb dX10_at_70 (lv_at hl 0 rfl) ?_
            refine va_get (D := (dC, dI)) (ci := 6) (v := .ref ry2) (C := RX7) (T := TX7) (N := 4) hx hb hts inX7 hown hK hP 5 rfl rfl 1 (Nat.le_of_ble_eq_true rfl) (hts _ mw_174) (fun _ h9 => h9) rfl dX10_at_72 ?_
            refine lv_iload_n hx hb dX10_at_75 rfl (lv_at hl 4 rfl) ?_
            refine zz_i (v := nI kv.toInt.toNat) (Int32.toInt_inj.mp (by rw [nI_toInt (by omega)]; omega)) ?_
            have b9_7 : kv.toInt.toNat < cap2 := by omega
            have b9_8 : zlt (cap2) := show cap2 < 2147483648 by omega
            refine z_iald hx hb hK hP 7 0 rfl rfl (e := kv.toInt.toNat) rfl b9_7 b9_8 dX10_at_76 ?_
            obtain ⟨hP, hD⟩ := pl_bk (X := [_, _, _]) hT_1 hP rfl hc9_1 hD0_1 rfl
            obtain ⟨hP9, hD9⟩ := zu_part (cx := [_, _, _]) hP hD [true, true, true] rfl rfl
            rw [hQ9]
            exact W.iret (v := V2 kv.toInt.toNat) hx hb hr (fun t ht hW => ⟨⟨_, rfl, (V2 kv.toInt.toNat), rfl, by rw [ht]; exact hP9, hD9⟩, hS.F ht⟩) hS.2.2 dX10_at_77
          · have c_6 : w.toInt = 0 := zc_eq rfl rfl c_6
            refine lv_aload hx hb dX10_at_60 (lv_at hl 0 rfl) ?_
            refine va_get (D := (dC, dI)) (ci := 6) (v := .ref rx2) (C := RX7) (T := TX7) (N := 4) hx hb hts inX7 hown hK hP 5 rfl rfl 0 (Nat.le_of_ble_eq_true rfl) (hts _ mw_167) (fun _ h9 => h9) rfl dX10_at_62 ?_
            refine lv_iload_n hx hb dX10_at_65 rfl (lv_at hl 4 rfl) ?_
            refine zz_i (v := nI kv.toInt.toNat) (Int32.toInt_inj.mp (by rw [nI_toInt (by omega)]; omega)) ?_
            have b9_9 : kv.toInt.toNat < cap2 := by omega
            have b9_10 : zlt (cap2) := show cap2 < 2147483648 by omega
            refine z_iald hx hb hK hP 6 0 rfl rfl (e := kv.toInt.toNat) rfl b9_9 b9_10 dX10_at_66 ?_
            refine lv_goto (tgt := 77) hx hb dX10_at_67 rfl ?_
            obtain ⟨hP, hD⟩ := pl_bk (X := [_, _, _]) hT_1 hP rfl hc9_1 hD0_1 rfl
            obtain ⟨hP9, hD9⟩ := zu_part (cx := [_, _, _]) hP hD [true, true, true] rfl rfl
            rw [hQ9]
            exact W.iret (v := U2 kv.toInt.toNat) hx hb hr (fun t ht hW => ⟨⟨_, rfl, (U2 kv.toInt.toNat), rfl, by rw [ht]; exact hP9, hD9⟩, hS.F ht⟩) hS.2.2 dX10_at_77
        · have c_4 : ((nN (mn f0) : Nat) : Int) ≤ kv.toInt := zc_nlt rfl (nI_toInt b9_5) c_4
          refine lv_iconst (v := (-1)) hx hb dX10_at_54 rfl ?_
          obtain ⟨hP, hD⟩ := pl_bk (X := [_, _, _]) hT_1 hP rfl hc9_1 hD0_1 rfl
          obtain ⟨hP9, hD9⟩ := zu_part (cx := [_, _, _]) hP hD [true, true, true] rfl rfl
          rw [hQ9]
          exact W.iret (v := (-1)) hx hb hr (fun t ht hW => ⟨⟨_, rfl, (-1), rfl, by rw [ht]; exact hP9, hD9⟩, hS.F ht⟩) hS.2.2 dX10_at_55
    · have c_2 : ¬ ((0 : Int32).toInt ≤ w.toInt ∧ w.toInt ≤ (1 : Int32).toInt) := zp_0 c_2
      refine lv_iconst (v := (-1)) hx hb dX10_at_24 rfl ?_
      obtain ⟨hP, hD⟩ := pl_bk (X := [_, _, _]) hT_1 hP rfl hc9_1 hD0_1 rfl
      obtain ⟨hP9, hD9⟩ := zu_part (cx := [_, _, _]) hP hD [true, true, true] rfl rfl
      rw [hQ9]
      exact W.iret (v := (-1)) hx hb hr (fun t ht hW => ⟨⟨_, rfl, (-1), rfl, by rw [ht]; exact hP9, hD9⟩, hS.F ht⟩) hS.2.2 dX10_at_25
set_option maxHeartbeats 4000000 in
set_option maxRecDepth 100000 in
theorem k_size_z (l : Launch) (dC : Nat → ClassId) (dI : Nat → Nat → Nat) (cI cZ cF : ClassId) (sz : Nat) (x : Nat) (sh : Nat) (lw : Nat) (ro : Nat) (bq : Nat) (bp : Nat) (dq : Nat) (dp : Nat) (lv : Nat) (sl : Nat) (sd : Int32) (ul : Int32) (su : Int32) (ds : Int32) (fa : Nat) (ft : Nat) (FA : Nat → Option Nat) (L : List Nat) (f : Nat → va_E) (kd : Nat → Int32) (st : Nat → Int32) (tn : Nat → Int32) (mn : Nat → Int32) (cx : Nat → Int32) (cy : Nat → Int32) (rk : Nat → Int32) (wd : Nat → Int32) (tw : Nat → Int32) (pa : Nat → Int32) (pb : Nat → Int32) (gb : Nat → Int32) (it : Nat → Int32) (v : Int32) (h200 : ft ≤ 200) (hva : ∀ q, q < ft → vwA cI L f FA rk wd tw pa pb kd st gb it tn mn cx cy q) (hbad : ¬ ∃ f, v = nI f ∧ lvF ft st tn f) : zM l yX10_size cX10_size 3 (some .long) ({ frames := 2, cells := 0, slots := 0, locals := 43 } : Room) [.ref x, .int v] (dC, dI) (zTy cI cZ cF) ([(oc8 x (.ref sh) (.ref lw) (.ref ro) (.ref bq) (.ref bp) (.ref dq) (.ref dp) (.ref lv) (.ref sl) ds sd ul su), (oc7 sh (.ref fa) (nI ft)), (oq fa cF 200 FA)] ++ va_pl L f) sz (some (.long (-1))) (fun A t => zPD (dC, dI) classes A ([(oc8 x (.ref sh) (.ref lw) (.ref ro) (.ref bq) (.ref bp) (.ref dq) (.ref dp) (.ref lv) (.ref sl) ds sd ul su), (oc7 sh (.ref fa) (nI ft)), (oq fa cF 200 FA)] ++ va_pl L f) t.heap) 0 0 := by
  refine zIn (own := "ScaleShop") (loc := [(0, .ref x), (1, .int v)]) rfl rfl rfl rfl (fun p e s m below meth c hx hb hr hts hown hlocks hml hnm9 A hA hS hP hD hK hXN Q9 hQ9 ls hl => ?_)
  rcases v_c (v := v) (ft := ft) h200 with hb2 | ⟨f0, hq2, rfl⟩
  · skip
    refine lv_aload_n hx hb dX10_size_0 rfl (lv_at hl 0 rfl) ?_
    refine va_get (D := (dC, dI)) (ci := 8) (v := .ref sh) (C := RX10) (T := TX10) (N := 13) hx hb hts inX10 hown hK hP 0 rfl rfl 0 (Nat.le_of_ble_eq_true rfl) (hts _ mw_309) (fun _ h9 => h9) rfl dX10_size_1 ?_
    refine lv_iload_n hx hb dX10_size_4 rfl (lv_at hl 1 rfl) ?_
    obtain ⟨hPc, hDc, hFc, hI1⟩ := zi_sub (wc := [_, _]) hP hD hS hA [1, 2] rfl rfl
    refine zcall (st1 := [.null]) (va_runV (As := [.int v]) (rest := []) ⟨hx, hb, hml, hown, hts⟩ (k_Sheet_rowThere_x l dC dI cI cZ cF s.heap.size sh fa ft FA v (h200) (hb2)) (csV_144 hts rfl rfl ⟨Nat.le_of_ble_eq_true rfl, Nat.le_of_ble_eq_true rfl⟩) (zPV2 (q0 := 0) (ci := 7) hPc hDc hK hXN rfl rfl) rfl rfl hl.1 rfl (lv_room (Nat.le_of_ble_eq_true rfl)) dX10_size_5 ⟨Nat.le_of_ble_eq_true rfl, Nat.le_of_ble_eq_true rfl⟩) hS hFc hFc rfl (fun t H locs ht hB hk1 hS => ?_)
    obtain ⟨hP1, hD1⟩ := hB
    rw [ht] at hP1
    replace hP := z0 hP hD hk1 hP1 hI1
    clear hk1 hPc hDc hFc hP1 hD1 ht hI1
    refine lv_astore_nN (lv' := [(2, .null), (0, .ref x), (1, .int v)]) hx hb dX10_size_8 rfl hl (Nat.le_of_ble_eq_true rfl) rfl (fun ls hl => ?_)
    refine lv_aload_nN hx hb dX10_size_9 rfl (lv_at hl 0 rfl) ?_
    refine lv_ifnonnullN hx hb dX10_size_10 ?_
    refine lv_ldc2 hx hb hown (hts _ mw_1077) dX10_size_13 ?_
    obtain ⟨hP9, hD9⟩ := zu_part (cx := [_, _, _]) hP hD [true, true, true] rfl rfl
    rw [hQ9]
    exact W.lret (v := (-1)) hx hb hr (fun t ht hW => ⟨⟨rfl, by rw [ht]; exact hP9, hD9⟩, hS.F ht⟩) hS.2.2 dX10_size_16
  · skip
    refine lv_aload_n hx hb dX10_size_0 rfl (lv_at hl 0 rfl) ?_
    rcases vwA_3 (P9 := ((st f0).toInt = 1)) (hva f0 (by omega)) with ⟨ht2, fe2, lk2, lo2, we2, fm2, hFA2, hfe2, hlk2⟩ | ⟨ht2, hA2, fe2, lk2, lo2, we2, fm2, r2, rx2, ry2, cap2, U2, V2, rg2, hFA2, hfe2, hlk2, ⟨hr2, hrx2, hry2, hne2⟩, hrr2⟩ | ⟨ht2, hA2, fe2, lk2, lo2, we2, fm2, r2, rx2, ry2, cap2, U2, V2, rg2, hFA2, hfe2, hlk2, ⟨hr2, hrx2, hry2, hne2⟩, hrr2⟩
    · skip
      refine va_get (D := (dC, dI)) (ci := 8) (v := .ref sh) (C := RX10) (T := TX10) (N := 13) hx hb hts inX10 hown hK hP 0 rfl rfl 0 (Nat.le_of_ble_eq_true rfl) (hts _ mw_309) (fun _ h9 => h9) rfl dX10_size_1 ?_
      have hc9_1 : inPl L f [(oc1 fe2 (rk f0) (wd f0) (tw f0) (pa f0) (pb f0) (.ref lo2) (.ref lk2) fm2), (oc4 lk2 (kd f0) (st f0) .null (gb f0) (it f0) we2)] := ⟨hfe2, hlk2, trivial⟩
      have hD0_1 := hD
      obtain ⟨T_1, hT_1, hP, hD⟩ := pl_oT hP hD hc9_1 (pwF hfe2.2 hlk2.2)
      obtain ⟨hP, hD⟩ := zre (W2 := ([_, _, _, _, _] ++ va_pl T_1 f)) hP hD rfl
      refine lv_iload_n hx hb dX10_size_4 rfl (lv_at hl 1 rfl) ?_
      obtain ⟨hPc, hDc, hFc, hI1⟩ := zi_sub (wc := [_, _, _, _]) hP hD hS hA [1, 2, 3, 4] (by decide +kernel) rfl
      refine zcall (st1 := [.null]) (va_runV (As := [.int (nI f0)]) (rest := []) ⟨hx, hb, hml, hown, hts⟩ (k_Sheet_rowThere_tv l dC dI cI cZ cF s.heap.size sh fa ft FA f0 fe2 lo2 (rk f0) (wd f0) (tw f0) (pa f0) (pb f0) lk2 (kd f0) (st f0) (gb f0) (it f0) we2 fm2 (h200) (by first | with_reducible assumption | omega) (hFA2)) (csV_144 hts rfl rfl ⟨Nat.le_of_ble_eq_true rfl, Nat.le_of_ble_eq_true rfl⟩) (zPV2 (q0 := 0) (ci := 7) hPc hDc hK hXN rfl rfl) rfl rfl hl.1 rfl (lv_room (Nat.le_of_ble_eq_true rfl)) dX10_size_5 ⟨Nat.le_of_ble_eq_true rfl, Nat.le_of_ble_eq_true rfl⟩) hS hFc hFc rfl (fun t H locs ht hB hk1 hS => ?_)
      obtain ⟨hP1, hD1⟩ := hB
      rw [ht] at hP1
      replace hP := z0 hP hD hk1 hP1 hI1
      clear hk1 hPc hDc hFc hP1 hD1 ht hI1
      obtain ⟨hP, hD⟩ := pl_bk (X := [_, _, _]) hT_1 hP rfl hc9_1 hD0_1 rfl
      refine lv_astore_nN (lv' := [(2, .null), (0, .ref x), (1, .int (nI f0))]) hx hb dX10_size_8 rfl hl (Nat.le_of_ble_eq_true rfl) rfl (fun ls hl => ?_)
      refine lv_aload_nN hx hb dX10_size_9 rfl (lv_at hl 0 rfl) ?_
      refine lv_ifnonnullN hx hb dX10_size_10 ?_
      refine lv_ldc2 hx hb hown (hts _ mw_1077) dX10_size_13 ?_
      obtain ⟨hP9, hD9⟩ := zu_part (cx := [_, _, _]) hP hD [true, true, true] rfl rfl
      rw [hQ9]
      exact W.lret (v := (-1)) hx hb hr (fun t ht hW => ⟨⟨rfl, by rw [ht]; exact hP9, hD9⟩, hS.F ht⟩) hS.2.2 dX10_size_16
    · skip
      refine va_get (D := (dC, dI)) (ci := 8) (v := .ref sh) (C := RX10) (T := TX10) (N := 13) hx hb hts inX10 hown hK hP 0 rfl rfl 0 (Nat.le_of_ble_eq_true rfl) (hts _ mw_309) (fun _ h9 => h9) rfl dX10_size_1 ?_
      have hc9_1 : inPl L f [(oc1 fe2 (rk f0) (wd f0) (tw f0) (pa f0) (pb f0) (.ref lo2) (.ref lk2) fm2), (oc4 lk2 (kd f0) (st f0) (.ref r2) (gb f0) (it f0) we2)] := ⟨hfe2, hlk2, trivial⟩
      have hD0_1 := hD
      obtain ⟨T_1, hT_1, hP, hD⟩ := pl_oT hP hD hc9_1 (pwF hfe2.2 hlk2.2)
      obtain ⟨hP, hD⟩ := zre (W2 := ([_, _, _, _, _] ++ va_pl T_1 f)) hP hD rfl
      refine lv_iload_n hx hb dX10_size_4 rfl (lv_at hl 1 rfl) ?_
      obtain ⟨hPc, hDc, hFc, hI1⟩ := zi_sub (wc := [_, _, _, _]) hP hD hS hA [1, 2, 3, 4] (by decide +kernel) rfl
      refine zcall (st1 := [.ref r2]) (va_runV (As := [.int (nI f0)]) (rest := []) ⟨hx, hb, hml, hown, hts⟩ (k_Sheet_rowThere_yv l dC dI cI cZ cF s.heap.size sh fa ft FA f0 fe2 lo2 (rk f0) (wd f0) (tw f0) (pa f0) (pb f0) lk2 (kd f0) (st f0) (gb f0) (it f0) we2 r2 fm2 (h200) (by first | with_reducible assumption | omega) (hFA2) (by first | exact hA2 | omega)) (csV_144 hts rfl rfl ⟨Nat.le_of_ble_eq_true rfl, Nat.le_of_ble_eq_true rfl⟩) (zPV2 (q0 := 0) (ci := 7) hPc hDc hK hXN rfl rfl) rfl rfl hl.1 rfl (lv_room (Nat.le_of_ble_eq_true rfl)) dX10_size_5 ⟨Nat.le_of_ble_eq_true rfl, Nat.le_of_ble_eq_true rfl⟩) hS hFc hFc rfl (fun t H locs ht hB hk1 hS => ?_)
      obtain ⟨hP1, hD1⟩ := hB
      rw [ht] at hP1
      replace hP := z0 hP hD hk1 hP1 hI1
      clear hk1 hPc hDc hFc hP1 hD1 ht hI1
      obtain ⟨hP, hD⟩ := pl_bk (X := [_, _, _]) hT_1 hP rfl hc9_1 hD0_1 rfl
      refine lv_astore_n (lv' := [(2, .ref r2), (0, .ref x), (1, .int (nI f0))]) hx hb dX10_size_8 rfl hl (Nat.le_of_ble_eq_true rfl) rfl (fun ls hl => ?_)
      refine lv_aload_n hx hb dX10_size_9 rfl (lv_at hl 0 rfl) ?_
      refine lv_ifnonnull (tgt := 17) hx hb dX10_size_10 rfl ?_
      exact absurd ⟨f0, rfl, hq2, hA2, ht2⟩ hbad
    · skip
      refine va_get (D := (dC, dI)) (ci := 8) (v := .ref sh) (C := RX10) (T := TX10) (N := 13) hx hb hts inX10 hown hK hP 0 rfl rfl 0 (Nat.le_of_ble_eq_true rfl) (hts _ mw_309) (fun _ h9 => h9) rfl dX10_size_1 ?_
      have hc9_1 : inPl L f [(oc1 fe2 (rk f0) (wd f0) (tw f0) (pa f0) (pb f0) (.ref lo2) (.ref lk2) fm2), (oc4 lk2 (kd f0) (st f0) (.ref r2) (gb f0) (it f0) we2)] := ⟨hfe2, hlk2, trivial⟩
      have hD0_1 := hD
      obtain ⟨T_1, hT_1, hP, hD⟩ := pl_oT hP hD hc9_1 (pwF hfe2.2 hlk2.2)
      obtain ⟨hP, hD⟩ := zre (W2 := ([_, _, _, _, _] ++ va_pl T_1 f)) hP hD rfl
      refine lv_iload_n hx hb dX10_size_4 rfl (lv_at hl 1 rfl) ?_
      obtain ⟨hPc, hDc, hFc, hI1⟩ := zi_sub (wc := [_, _, _, _]) hP hD hS hA [1, 2, 3, 4] (by decide +kernel) rfl
      refine zcall (st1 := [.null]) (va_runV (As := [.int (nI f0)]) (rest := []) ⟨hx, hb, hml, hown, hts⟩ (k_Sheet_rowThere_sv l dC dI cI cZ cF s.heap.size sh fa ft FA f0 fe2 lo2 (rk f0) (wd f0) (tw f0) (pa f0) (pb f0) lk2 (kd f0) (st f0) (gb f0) (it f0) we2 fm2 (.ref r2) (h200) (by first | with_reducible assumption | omega) (hFA2) (by first | exact hA2 | omega)) (csV_144 hts rfl rfl ⟨Nat.le_of_ble_eq_true rfl, Nat.le_of_ble_eq_true rfl⟩) (zPV2 (q0 := 0) (ci := 7) hPc hDc hK hXN rfl rfl) rfl rfl hl.1 rfl (lv_room (Nat.le_of_ble_eq_true rfl)) dX10_size_5 ⟨Nat.le_of_ble_eq_true rfl, Nat.le_of_ble_eq_true rfl⟩) hS hFc hFc rfl (fun t H locs ht hB hk1 hS => ?_)
      obtain ⟨hP1, hD1⟩ := hB
      rw [ht] at hP1
      replace hP := z0 hP hD hk1 hP1 hI1
      clear hk1 hPc hDc hFc hP1 hD1 ht hI1
      obtain ⟨hP, hD⟩ := pl_bk (X := [_, _, _]) hT_1 hP rfl hc9_1 hD0_1 rfl
      refine lv_astore_nN (lv' := [(2, .null), (0, .ref x), (1, .int (nI f0))]) hx hb dX10_size_8 rfl hl (Nat.le_of_ble_eq_true rfl) rfl (fun ls hl => ?_)
      refine lv_aload_nN hx hb dX10_size_9 rfl (lv_at hl 0 rfl) ?_
      refine lv_ifnonnullN hx hb dX10_size_10 ?_
      refine lv_ldc2 hx hb hown (hts _ mw_1077) dX10_size_13 ?_
      obtain ⟨hP9, hD9⟩ := zu_part (cx := [_, _, _]) hP hD [true, true, true] rfl rfl
      rw [hQ9]
      exact W.lret (v := (-1)) hx hb hr (fun t ht hW => ⟨⟨rfl, by rw [ht]; exact hP9, hD9⟩, hS.F ht⟩) hS.2.2 dX10_size_16
set_option maxHeartbeats 4000000 in
set_option maxRecDepth 100000 in
theorem k_size_w (l : Launch) (dC : Nat → ClassId) (dI : Nat → Nat → Nat) (cI cZ cF : ClassId) (sz : Nat) (x : Nat) (sh : Nat) (lw : Nat) (ro : Nat) (bq : Nat) (bp : Nat) (dq : Nat) (dp : Nat) (lv : Nat) (sl : Nat) (sd : Int32) (ul : Int32) (su : Int32) (ds : Int32) (fa : Nat) (ft : Nat) (FA : Nat → Option Nat) (f0 : Nat) (L : List Nat) (f : Nat → va_E) (kd : Nat → Int32) (st : Nat → Int32) (tn : Nat → Int32) (mn : Nat → Int32) (cx : Nat → Int32) (cy : Nat → Int32) (rk : Nat → Int32) (wd : Nat → Int32) (tw : Nat → Int32) (pa : Nat → Int32) (pb : Nat → Int32) (gb : Nat → Int32) (it : Nat → Int32) (h200 : ft ≤ 200) (hf0 : f0 < ft) (hva : ∀ q, q < ft → vwA cI L f FA rk wd tw pa pb kd st gb it tn mn cx cy q) (hok : okA ft st tn kd mn cx cy) (hlv : lvF ft st tn f0) : Met l yX10_size (.code yX10_size cX10_size 3 (some .long) :: ws0) ({ frames := 2, cells := 0, slots := 0, locals := 44 } : Room) (va_Pc [.ref x, .int (nI f0)] (zPre (dC, dI) classes (zTy cI cZ cF) ([(oc8 x (.ref sh) (.ref lw) (.ref ro) (.ref bq) (.ref bp) (.ref dq) (.ref dp) (.ref lv) (.ref sl) ds sd ul su), (oc7 sh (.ref fa) (nI ft)), (oq fa cF 200 FA)] ++ va_pl L f) sz zXN)) (zQe (fun v9 t => ∃ (b9 : Int64), v9 = (some (.long b9)) ∧ va_P (dC, dI) classes ([(oc8 x (.ref sh) (.ref lw) (.ref ro) (.ref bq) (.ref bp) (.ref dq) (.ref dp) (.ref lv) (.ref sl) ds sd ul su), (oc7 sh (.ref fa) (nI ft)), (oq fa cF 200 FA)] ++ va_pl L f) t.heap ∧ va_D (va_A ([(oc8 x (.ref sh) (.ref lw) (.ref ro) (.ref bq) (.ref bp) (.ref dq) (.ref dp) (.ref lv) (.ref sl) ds sd ul su), (oc7 sh (.ref fa) (nI ft)), (oq fa cF 200 FA)] ++ va_pl L f) sz) ([(oc8 x (.ref sh) (.ref lw) (.ref ro) (.ref bq) (.ref bp) (.ref dq) (.ref dp) (.ref lv) (.ref sl) ds sd ul su), (oc7 sh (.ref fa) (nI ft)), (oq fa cF 200 FA)] ++ va_pl L f)) (va_A ([(oc8 x (.ref sh) (.ref lw) (.ref ro) (.ref bq) (.ref bp) (.ref dq) (.ref dp) (.ref lv) (.ref sl) ds sd ul su), (oc7 sh (.ref fa) (nI ft)), (oq fa cF 200 FA)] ++ va_pl L f) sz)) 0 0 (va_A ([(oc8 x (.ref sh) (.ref lw) (.ref ro) (.ref bq) (.ref bp) (.ref dq) (.ref dp) (.ref lv) (.ref sl) ds sd ul su), (oc7 sh (.ref fa) (nI ft)), (oq fa cF 200 FA)] ++ va_pl L f) sz) := by
  refine Met.ofW (cc := cX10_size) (maxL := 3) (ret := (some .long)) rfl rfl ?_
  intro p e s m args below meth c s₁ B hml hv
  obtain ⟨rfl, hsz, hP, hK, hD0, hXN⟩ := hv
  have hx := B.exec
  have hb := B.bytes
  have hr := B.returns
  have hts0 := atoms_spec (ws := .code yX10_size cX10_size 3 (some .long) :: ws0) B.pre
  have hts : ∀ w9 ∈ ws0, w9.before ([.ref x, .int (nI f0)] : List Value).toArray s = true := fun w9 h => hts0 w9 (List.mem_cons_of_mem _ h)
  have hown : s.vm.findClass "ScaleShop" = some m.cls := findClass_of_methodNamed B.named
  have hlocks := B.notSynchronized
  subst hsz
  have hD := hD0.self (sz := s.heap.size)
  clear hD0
  generalize hAe : va_A ([(oc8 x (.ref sh) (.ref lw) (.ref ro) (.ref bq) (.ref bp) (.ref dq) (.ref dp) (.ref lv) (.ref sl) ds sd ul su), (oc7 sh (.ref fa) (nI ft)), (oq fa cF 200 FA)] ++ va_pl L f) s.heap.size = A at hD ⊢
  have hA : ∀ q : Nat, s.heap.size ≤ q → A q := fun q h => by rw [← hAe]; exact Or.inr h
  clear hAe
  have hS : va_S A s.heap s.heap [] := va_S.rf
  have hP : va_P (dC, dI) classes ([(oc8 x (.ref sh) (.ref lw) (.ref ro) (.ref bq) (.ref bp) (.ref dq) (.ref dp) (.ref lv) (.ref sl) ds sd ul su), (oc7 sh (.ref fa) (nI ft)), (oq fa cF 200 FA)] ++ va_pl L f) s.heap := hP
  obtain ⟨Q9, hQ9⟩ : ∃ Q9 : State → Prop, Q9 = MQ below (zQe (fun v9 t => ∃ (b9 : Int64), v9 = (some (.long b9)) ∧ va_P (dC, dI) classes ([(oc8 x (.ref sh) (.ref lw) (.ref ro) (.ref bq) (.ref bp) (.ref dq) (.ref dp) (.ref lv) (.ref sl) ds sd ul su), (oc7 sh (.ref fa) (nI ft)), (oq fa cF 200 FA)] ++ va_pl L f) t.heap ∧ va_D A ([(oc8 x (.ref sh) (.ref lw) (.ref ro) (.ref bq) (.ref bp) (.ref dq) (.ref dp) (.ref lv) (.ref sl) ds sd ul su), (oc7 sh (.ref fa) (nI ft)), (oq fa cF 200 FA)] ++ va_pl L f)) A) ([.ref x, .int (nI f0)] : List Value).toArray s 0 0 A := ⟨_, rfl⟩
  rw [← hQ9]
  have hl := lv_entry ([.ref x, .int (nI f0)]) (n := 3) (Nat.le_of_ble_eq_true rfl)
  rw [lg_entry_eq]
  generalize (lg_sl ([.ref x, .int (nI f0)]) ++ List.replicate (3 - (lg_sl ([.ref x, .int (nI f0)])).length) Slot.unset).toArray = ls at hl ⊢
  have hl : lv_has ls 3 [(0, .ref x), (1, .int (nI f0))] := hl
  obtain ⟨fe2, lk2, lo2, we2, fm2, r2, rx2, ry2, cap2, U2, V2, rg2, hFA2, hfe2, hlk2, ⟨hr2, hrx2, hry2, hne2⟩, hrr2⟩ := vwA_l (hva f0 (by omega)) hlv.2.2
  · skip
    have hcap2 := hrr2.1
    have hcap3 := hrr2.2.1
    have hA2 := hlv.2.1
    have ht2 := hlv.2.2
    have hw2 := (hok f0 hlv).1
    have hq2 := rw_pls hrr2 hw2
    have hn2 := hw2.2.1
    have hrg2 := hrr2.2.2.2.1
    have hab2 := ar2B hq2 _ (Nat.le_refl _)
    have hlb2 := ln2B hq2 (nN (mn f0) - 1) (by omega)
    have hc9_1 : inPl L f [(oc1 fe2 (rk f0) (wd f0) (tw f0) (pa f0) (pb f0) (.ref lo2) (.ref lk2) fm2), (oc4 lk2 (kd f0) (st f0) (.ref r2) (gb f0) (it f0) we2), (oc6 r2 (.ref rx2) (.ref ry2) (nI (nN (mn f0))) rg2), (oa rx2 cI cap2 U2), (oa ry2 cI cap2 V2)] := ⟨hfe2, hlk2, hr2, hrx2, hry2, trivial⟩
    have hD0_1 := hD
    obtain ⟨T_1, hT_1, hP, hD⟩ := pl_oT hP hD hc9_1 (pwR hfe2.2 hlk2.2 hr2.2 hrx2.2 hry2.2 hne2)
    obtain ⟨hP, hD⟩ := zre (W2 := ([_, _, _, _, _, _, _, _] ++ va_pl T_1 f)) hP hD rfl
    refine lv_aload_n hx hb dX10_size_0 rfl (lv_at hl 0 rfl) ?_
    refine va_get (D := (dC, dI)) (ci := 8) (v := .ref sh) (C := RX10) (T := TX10) (N := 13) hx hb hts inX10 hown hK hP 0 rfl rfl 0 (Nat.le_of_ble_eq_true rfl) (hts _ mw_309) (fun _ h9 => h9) rfl dX10_size_1 ?_
    refine lv_iload_n hx hb dX10_size_4 rfl (lv_at hl 1 rfl) ?_
    obtain ⟨hPc, hDc, hFc, hI1⟩ := zi_sub (wc := [_, _, _, _]) hP hD hS hA [1, 2, 3, 4] (by decide +kernel) rfl
    refine zcall (st1 := [.ref r2]) (va_runV (As := [.int (nI f0)]) (rest := []) ⟨hx, hb, hml, hown, hts⟩ (k_Sheet_rowThere_yv l dC dI cI cZ cF s.heap.size sh fa ft FA f0 fe2 lo2 (rk f0) (wd f0) (tw f0) (pa f0) (pb f0) lk2 (kd f0) (st f0) (gb f0) (it f0) we2 r2 fm2 (by first | with_reducible assumption | omega) (by first | with_reducible assumption | omega) (hFA2) (by first | exact hA2 | omega)) (csV_144 hts rfl rfl ⟨Nat.le_of_ble_eq_true rfl, Nat.le_of_ble_eq_true rfl⟩) (zPV2 (q0 := 0) (ci := 7) hPc hDc hK hXN rfl rfl) rfl rfl hl.1 rfl (lv_room (Nat.le_of_ble_eq_true rfl)) dX10_size_5 ⟨Nat.le_of_ble_eq_true rfl, Nat.le_of_ble_eq_true rfl⟩) hS hFc hFc rfl (fun t H locs ht hB hk1 hS => ?_)
    obtain ⟨hP1, hD1⟩ := hB
    rw [ht] at hP1
    replace hP := z0 hP hD hk1 hP1 hI1
    clear hk1 hPc hDc hFc hP1 hD1 ht hI1
    refine lv_astore_n (lv' := [(2, .ref r2), (0, .ref x), (1, .int (nI f0))]) hx hb dX10_size_8 rfl hl (Nat.le_of_ble_eq_true rfl) rfl (fun ls hl => ?_)
    refine lv_aload_n hx hb dX10_size_9 rfl (lv_at hl 0 rfl) ?_
    refine lv_ifnonnull (tgt := 17) hx hb dX10_size_10 rfl ?_
    refine lv_aload_n hx hb dX10_size_17 rfl (lv_at hl 0 rfl) ?_
    refine va_get (D := (dC, dI)) (ci := 6) (v := .int rg2) (C := RX7) (T := TX7) (N := 4) hx hb hts inX7 hown hK hP 5 rfl rfl 3 (Nat.le_of_ble_eq_true rfl) (hts _ mw_185) (fun _ h9 => h9) rfl dX10_size_18 ?_
    refine lv_if_eq (tgt := 32) hx hb dX10_size_21 rfl (fun c_1 => ?_) (fun c_1 => ?_)
    · have c_1 : rg2.toInt = 0 := zc_eq rfl rfl c_1
      refine lv_aload_n hx hb dX10_size_32 rfl (lv_at hl 0 rfl) ?_
      obtain ⟨hPc, hDc, hFc, hI1⟩ := zi_sub (wc := [_, _, _]) hP hD hS hA [5, 6, 7] rfl rfl
      refine zcall (st1 := [.int (nI (ln2 U2 V2 ((nN (mn f0)) - 1)))]) (va_runV (As := []) (rest := []) ⟨hx, hb, hml, hown, hts⟩ (k_Row_length l dC dI cI cZ cF H.size r2 rx2 ry2 (nN (mn f0)) cap2 U2 V2 rg2 (by first | with_reducible assumption | omega) (by first | with_reducible assumption | omega) (hq2) (by first | with_reducible assumption | omega)) (csV_146 hts rfl rfl ⟨Nat.le_of_ble_eq_true rfl, Nat.le_of_ble_eq_true rfl⟩) (zPV2 (q0 := 0) (ci := 6) hPc hDc hK hXN rfl rfl) rfl rfl hl.1 rfl (lv_room (Nat.le_of_ble_eq_true rfl)) dX10_size_33 ⟨Nat.le_of_ble_eq_true rfl, Nat.le_of_ble_eq_true rfl⟩) hS hFc hFc rfl (fun t H locs ht hB hk1 hS => ?_)
      obtain ⟨hP1, hD1⟩ := hB
      rw [ht] at hP1
      replace hP := z0 hP hD hk1 hP1 hI1
      clear hk1 hPc hDc hFc hP1 hD1 ht hI1
      refine lv_i2l (v := (nI (ln2 U2 V2 ((nN (mn f0)) - 1))).toInt64) hx hb dX10_size_36 (rfl) ?_
      obtain ⟨hP, hD⟩ := pl_bk (X := [_, _, _]) hT_1 hP rfl hc9_1 hD0_1 rfl
      obtain ⟨hP9, hD9⟩ := zu_part (cx := [_, _, _]) hP hD [true, true, true] rfl rfl
      rw [hQ9]
      exact W.lret (v := (nI (ln2 U2 V2 ((nN (mn f0)) - 1))).toInt64) hx hb hr (fun t ht hW => ⟨⟨_, rfl, ((nI (ln2 U2 V2 ((nN (mn f0)) - 1))).toInt64), rfl, by rw [ht]; exact hP9, hD9⟩, hS.F ht⟩) hS.2.2 dX10_size_37
    · have c_1 : ¬ rg2.toInt = 0 := zc_ne rfl rfl c_1
      refine lv_aload_n hx hb dX10_size_24 rfl (lv_at hl 0 rfl) ?_
      obtain ⟨hPc, hDc, hFc, hI1⟩ := zi_sub (wc := [_, _, _]) hP hD hS hA [5, 6, 7] rfl rfl
      refine zcall (st1 := [.int (nI (Int.natAbs (ar2 (nN (mn f0)) U2 V2 (nN (mn f0)))))]) (va_runV (As := []) (rest := []) ⟨hx, hb, hml, hown, hts⟩ (k_Row_doubleArea l dC dI cI cZ cF H.size r2 rx2 ry2 (nN (mn f0)) cap2 U2 V2 rg2 (by first | with_reducible assumption | omega) (by first | with_reducible assumption | omega) (hq2)) (csV_123 hts rfl rfl ⟨Nat.le_of_ble_eq_true rfl, Nat.le_of_ble_eq_true rfl⟩) (zPV2 (q0 := 0) (ci := 6) hPc hDc hK hXN rfl rfl) rfl rfl hl.1 rfl (lv_room (Nat.le_of_ble_eq_true rfl)) dX10_size_25 ⟨Nat.le_of_ble_eq_true rfl, Nat.le_of_ble_eq_true rfl⟩) hS hFc hFc rfl (fun t H locs ht hB hk1 hS => ?_)
      obtain ⟨hP1, hD1⟩ := hB
      rw [ht] at hP1
      replace hP := z0 hP hD hk1 hP1 hI1
      clear hk1 hPc hDc hFc hP1 hD1 ht hI1
      refine lv_i2l (v := (nI (Int.natAbs (ar2 (nN (mn f0)) U2 V2 (nN (mn f0))))).toInt64) hx hb dX10_size_28 (rfl) ?_
      refine lv_goto (tgt := 37) hx hb dX10_size_29 rfl ?_
      obtain ⟨hP, hD⟩ := pl_bk (X := [_, _, _]) hT_1 hP rfl hc9_1 hD0_1 rfl
      obtain ⟨hP9, hD9⟩ := zu_part (cx := [_, _, _]) hP hD [true, true, true] rfl rfl
      rw [hQ9]
      exact W.lret (v := (nI (Int.natAbs (ar2 (nN (mn f0)) U2 V2 (nN (mn f0))))).toInt64) hx hb hr (fun t ht hW => ⟨⟨_, rfl, ((nI (Int.natAbs (ar2 (nN (mn f0)) U2 V2 (nN (mn f0))))).toInt64), rfl, by rw [ht]; exact hP9, hD9⟩, hS.F ht⟩) hS.2.2 dX10_size_37
set_option maxHeartbeats 4000000 in
set_option maxRecDepth 100000 in
theorem k_inside_z (l : Launch) (dC : Nat → ClassId) (dI : Nat → Nat → Nat) (cI cZ cF : ClassId) (sz : Nat) (x : Nat) (sh : Nat) (lw : Nat) (ro : Nat) (bq : Nat) (bp : Nat) (dq : Nat) (dp : Nat) (lv : Nat) (sl : Nat) (sd : Int32) (ul : Int32) (su : Int32) (ds : Int32) (fa : Nat) (ft : Nat) (FA : Nat → Option Nat) (L : List Nat) (f : Nat → va_E) (kd : Nat → Int32) (st : Nat → Int32) (tn : Nat → Int32) (mn : Nat → Int32) (cx : Nat → Int32) (cy : Nat → Int32) (rk : Nat → Int32) (wd : Nat → Int32) (tw : Nat → Int32) (pa : Nat → Int32) (pb : Nat → Int32) (gb : Nat → Int32) (it : Nat → Int32) (v : Int32) (px : Int32) (py : Int32) (h200 : ft ≤ 200) (hva : ∀ q, q < ft → vwA cI L f FA rk wd tw pa pb kd st gb it tn mn cx cy q) (hbad : ¬ ∃ f, v = nI f ∧ lvF ft st tn f) : zM l yX10_inside cX10_inside 5 (some .int) ({ frames := 2, cells := 0, slots := 0, locals := 43 } : Room) [.ref x, .int px, .int py, .int v] (dC, dI) (zTy cI cZ cF) ([(oc8 x (.ref sh) (.ref lw) (.ref ro) (.ref bq) (.ref bp) (.ref dq) (.ref dp) (.ref lv) (.ref sl) ds sd ul su), (oc7 sh (.ref fa) (nI ft)), (oq fa cF 200 FA)] ++ va_pl L f) sz (some (.int (-1))) (fun A t => zPD (dC, dI) classes A ([(oc8 x (.ref sh) (.ref lw) (.ref ro) (.ref bq) (.ref bp) (.ref dq) (.ref dp) (.ref lv) (.ref sl) ds sd ul su), (oc7 sh (.ref fa) (nI ft)), (oq fa cF 200 FA)] ++ va_pl L f) t.heap) 0 0 := by
  refine zIn (own := "ScaleShop") (loc := [(0, .ref x), (1, .int px), (2, .int py), (3, .int v)]) rfl rfl rfl rfl (fun p e s m below meth c hx hb hr hts hown hlocks hml hnm9 A hA hS hP hD hK hXN Q9 hQ9 ls hl => ?_)
  rcases v_c (v := v) (ft := ft) h200 with hb2 | ⟨f0, hq2, rfl⟩
  · skip
    refine lv_aload_n hx hb dX10_inside_0 rfl (lv_at hl 0 rfl) ?_
    refine va_get (D := (dC, dI)) (ci := 8) (v := .ref sh) (C := RX10) (T := TX10) (N := 13) hx hb hts inX10 hown hK hP 0 rfl rfl 0 (Nat.le_of_ble_eq_true rfl) (hts _ mw_309) (fun _ h9 => h9) rfl dX10_inside_1 ?_
    refine lv_iload_n hx hb dX10_inside_4 rfl (lv_at hl 3 rfl) ?_
    obtain ⟨hPc, hDc, hFc, hI1⟩ := zi_sub (wc := [_, _]) hP hD hS hA [1, 2] rfl rfl
    refine zcall (st1 := [.null]) (va_runV (As := [.int v]) (rest := []) ⟨hx, hb, hml, hown, hts⟩ (k_Sheet_rowThere_x l dC dI cI cZ cF s.heap.size sh fa ft FA v (h200) (hb2)) (csV_144 hts rfl rfl ⟨Nat.le_of_ble_eq_true rfl, Nat.le_of_ble_eq_true rfl⟩) (zPV2 (q0 := 0) (ci := 7) hPc hDc hK hXN rfl rfl) rfl rfl hl.1 rfl (lv_room (Nat.le_of_ble_eq_true rfl)) dX10_inside_5 ⟨Nat.le_of_ble_eq_true rfl, Nat.le_of_ble_eq_true rfl⟩) hS hFc hFc rfl (fun t H locs ht hB hk1 hS => ?_)
    obtain ⟨hP1, hD1⟩ := hB
    rw [ht] at hP1
    replace hP := z0 hP hD hk1 hP1 hI1
    clear hk1 hPc hDc hFc hP1 hD1 ht hI1
    refine lv_astoreN (lv' := [(4, .null), (0, .ref x), (1, .int px), (2, .int py), (3, .int v)]) hx hb dX10_inside_8 hl (Nat.le_of_ble_eq_true rfl) rfl (fun ls hl => ?_)
    refine lv_aloadN hx hb dX10_inside_10 (lv_at hl 0 rfl) ?_
    refine lv_ifnullN (tgt := 31) hx hb dX10_inside_12 rfl ?_
    refine lv_iconst (v := (-1)) hx hb dX10_inside_31 rfl ?_
    obtain ⟨hP9, hD9⟩ := zu_part (cx := [_, _, _]) hP hD [true, true, true] rfl rfl
    rw [hQ9]
    exact W.iret (v := (-1)) hx hb hr (fun t ht hW => ⟨⟨rfl, by rw [ht]; exact hP9, hD9⟩, hS.F ht⟩) hS.2.2 dX10_inside_32
  · skip
    refine lv_aload_n hx hb dX10_inside_0 rfl (lv_at hl 0 rfl) ?_
    rcases vwA_3 (P9 := ((st f0).toInt = 1)) (hva f0 (by omega)) with ⟨ht2, fe2, lk2, lo2, we2, fm2, hFA2, hfe2, hlk2⟩ | ⟨ht2, hA2, fe2, lk2, lo2, we2, fm2, r2, rx2, ry2, cap2, U2, V2, rg2, hFA2, hfe2, hlk2, ⟨hr2, hrx2, hry2, hne2⟩, hrr2⟩ | ⟨ht2, hA2, fe2, lk2, lo2, we2, fm2, r2, rx2, ry2, cap2, U2, V2, rg2, hFA2, hfe2, hlk2, ⟨hr2, hrx2, hry2, hne2⟩, hrr2⟩
    · skip
      refine va_get (D := (dC, dI)) (ci := 8) (v := .ref sh) (C := RX10) (T := TX10) (N := 13) hx hb hts inX10 hown hK hP 0 rfl rfl 0 (Nat.le_of_ble_eq_true rfl) (hts _ mw_309) (fun _ h9 => h9) rfl dX10_inside_1 ?_
      have hc9_1 : inPl L f [(oc1 fe2 (rk f0) (wd f0) (tw f0) (pa f0) (pb f0) (.ref lo2) (.ref lk2) fm2), (oc4 lk2 (kd f0) (st f0) .null (gb f0) (it f0) we2)] := ⟨hfe2, hlk2, trivial⟩
      have hD0_1 := hD
      obtain ⟨T_1, hT_1, hP, hD⟩ := pl_oT hP hD hc9_1 (pwF hfe2.2 hlk2.2)
      obtain ⟨hP, hD⟩ := zre (W2 := ([_, _, _, _, _] ++ va_pl T_1 f)) hP hD rfl
      refine lv_iload_n hx hb dX10_inside_4 rfl (lv_at hl 3 rfl) ?_
      obtain ⟨hPc, hDc, hFc, hI1⟩ := zi_sub (wc := [_, _, _, _]) hP hD hS hA [1, 2, 3, 4] (by decide +kernel) rfl
      refine zcall (st1 := [.null]) (va_runV (As := [.int (nI f0)]) (rest := []) ⟨hx, hb, hml, hown, hts⟩ (k_Sheet_rowThere_tv l dC dI cI cZ cF s.heap.size sh fa ft FA f0 fe2 lo2 (rk f0) (wd f0) (tw f0) (pa f0) (pb f0) lk2 (kd f0) (st f0) (gb f0) (it f0) we2 fm2 (h200) (by first | with_reducible assumption | omega) (hFA2)) (csV_144 hts rfl rfl ⟨Nat.le_of_ble_eq_true rfl, Nat.le_of_ble_eq_true rfl⟩) (zPV2 (q0 := 0) (ci := 7) hPc hDc hK hXN rfl rfl) rfl rfl hl.1 rfl (lv_room (Nat.le_of_ble_eq_true rfl)) dX10_inside_5 ⟨Nat.le_of_ble_eq_true rfl, Nat.le_of_ble_eq_true rfl⟩) hS hFc hFc rfl (fun t H locs ht hB hk1 hS => ?_)
      obtain ⟨hP1, hD1⟩ := hB
      rw [ht] at hP1
      replace hP := z0 hP hD hk1 hP1 hI1
      clear hk1 hPc hDc hFc hP1 hD1 ht hI1
      obtain ⟨hP, hD⟩ := pl_bk (X := [_, _, _]) hT_1 hP rfl hc9_1 hD0_1 rfl
      refine lv_astoreN (lv' := [(4, .null), (0, .ref x), (1, .int px), (2, .int py), (3, .int (nI f0))]) hx hb dX10_inside_8 hl (Nat.le_of_ble_eq_true rfl) rfl (fun ls hl => ?_)
      refine lv_aloadN hx hb dX10_inside_10 (lv_at hl 0 rfl) ?_
      refine lv_ifnullN (tgt := 31) hx hb dX10_inside_12 rfl ?_
      refine lv_iconst (v := (-1)) hx hb dX10_inside_31 rfl ?_
      obtain ⟨hP9, hD9⟩ := zu_part (cx := [_, _, _]) hP hD [true, true, true] rfl rfl
      rw [hQ9]
      exact W.iret (v := (-1)) hx hb hr (fun t ht hW => ⟨⟨rfl, by rw [ht]; exact hP9, hD9⟩, hS.F ht⟩) hS.2.2 dX10_inside_32
    · skip
      refine va_get (D := (dC, dI)) (ci := 8) (v := .ref sh) (C := RX10) (T := TX10) (N := 13) hx hb hts inX10 hown hK hP 0 rfl rfl 0 (Nat.le_of_ble_eq_true rfl) (hts _ mw_309) (fun _ h9 => h9) rfl dX10_inside_1 ?_
      have hc9_1 : inPl L f [(oc1 fe2 (rk f0) (wd f0) (tw f0) (pa f0) (pb f0) (.ref lo2) (.ref lk2) fm2), (oc4 lk2 (kd f0) (st f0) (.ref r2) (gb f0) (it f0) we2)] := ⟨hfe2, hlk2, trivial⟩
      have hD0_1 := hD
      obtain ⟨T_1, hT_1, hP, hD⟩ := pl_oT hP hD hc9_1 (pwF hfe2.2 hlk2.2)
      obtain ⟨hP, hD⟩ := zre (W2 := ([_, _, _, _, _] ++ va_pl T_1 f)) hP hD rfl
      refine lv_iload_n hx hb dX10_inside_4 rfl (lv_at hl 3 rfl) ?_
      obtain ⟨hPc, hDc, hFc, hI1⟩ := zi_sub (wc := [_, _, _, _]) hP hD hS hA [1, 2, 3, 4] (by decide +kernel) rfl
      refine zcall (st1 := [.ref r2]) (va_runV (As := [.int (nI f0)]) (rest := []) ⟨hx, hb, hml, hown, hts⟩ (k_Sheet_rowThere_yv l dC dI cI cZ cF s.heap.size sh fa ft FA f0 fe2 lo2 (rk f0) (wd f0) (tw f0) (pa f0) (pb f0) lk2 (kd f0) (st f0) (gb f0) (it f0) we2 r2 fm2 (h200) (by first | with_reducible assumption | omega) (hFA2) (by first | exact hA2 | omega)) (csV_144 hts rfl rfl ⟨Nat.le_of_ble_eq_true rfl, Nat.le_of_ble_eq_true rfl⟩) (zPV2 (q0 := 0) (ci := 7) hPc hDc hK hXN rfl rfl) rfl rfl hl.1 rfl (lv_room (Nat.le_of_ble_eq_true rfl)) dX10_inside_5 ⟨Nat.le_of_ble_eq_true rfl, Nat.le_of_ble_eq_true rfl⟩) hS hFc hFc rfl (fun t H locs ht hB hk1 hS => ?_)
      obtain ⟨hP1, hD1⟩ := hB
      rw [ht] at hP1
      replace hP := z0 hP hD hk1 hP1 hI1
      clear hk1 hPc hDc hFc hP1 hD1 ht hI1
      obtain ⟨hP, hD⟩ := pl_bk (X := [_, _, _]) hT_1 hP rfl hc9_1 hD0_1 rfl
      refine lv_astore (lv' := [(4, .ref r2), (0, .ref x), (1, .int px), (2, .int py), (3, .int (nI f0))]) hx hb dX10_inside_8 hl (Nat.le_of_ble_eq_true rfl) rfl (fun ls hl => ?_)
      refine lv_aload hx hb dX10_inside_10 (lv_at hl 0 rfl) ?_
      refine lv_ifnull hx hb dX10_inside_12 ?_
      exact absurd ⟨f0, rfl, hq2, hA2, ht2⟩ hbad
    · skip
      refine va_get (D := (dC, dI)) (ci := 8) (v := .ref sh) (C := RX10) (T := TX10) (N := 13) hx hb hts inX10 hown hK hP 0 rfl rfl 0 (Nat.le_of_ble_eq_true rfl) (hts _ mw_309) (fun _ h9 => h9) rfl dX10_inside_1 ?_
      have hc9_1 : inPl L f [(oc1 fe2 (rk f0) (wd f0) (tw f0) (pa f0) (pb f0) (.ref lo2) (.ref lk2) fm2), (oc4 lk2 (kd f0) (st f0) (.ref r2) (gb f0) (it f0) we2)] := ⟨hfe2, hlk2, trivial⟩
      have hD0_1 := hD
      obtain ⟨T_1, hT_1, hP, hD⟩ := pl_oT hP hD hc9_1 (pwF hfe2.2 hlk2.2)
      obtain ⟨hP, hD⟩ := zre (W2 := ([_, _, _, _, _] ++ va_pl T_1 f)) hP hD rfl
      refine lv_iload_n hx hb dX10_inside_4 rfl (lv_at hl 3 rfl) ?_
      obtain ⟨hPc, hDc, hFc, hI1⟩ := zi_sub (wc := [_, _, _, _]) hP hD hS hA [1, 2, 3, 4] (by decide +kernel) rfl
      refine zcall (st1 := [.null]) (va_runV (As := [.int (nI f0)]) (rest := []) ⟨hx, hb, hml, hown, hts⟩ (k_Sheet_rowThere_sv l dC dI cI cZ cF s.heap.size sh fa ft FA f0 fe2 lo2 (rk f0) (wd f0) (tw f0) (pa f0) (pb f0) lk2 (kd f0) (st f0) (gb f0) (it f0) we2 fm2 (.ref r2) (h200) (by first | with_reducible assumption | omega) (hFA2) (by first | exact hA2 | omega)) (csV_144 hts rfl rfl ⟨Nat.le_of_ble_eq_true rfl, Nat.le_of_ble_eq_true rfl⟩) (zPV2 (q0 := 0) (ci := 7) hPc hDc hK hXN rfl rfl) rfl rfl hl.1 rfl (lv_room (Nat.le_of_ble_eq_true rfl)) dX10_inside_5 ⟨Nat.le_of_ble_eq_true rfl, Nat.le_of_ble_eq_true rfl⟩) hS hFc hFc rfl (fun t H locs ht hB hk1 hS => ?_)
      obtain ⟨hP1, hD1⟩ := hB
      rw [ht] at hP1
      replace hP := z0 hP hD hk1 hP1 hI1
      clear hk1 hPc hDc hFc hP1 hD1 ht hI1
      obtain ⟨hP, hD⟩ := pl_bk (X := [_, _, _]) hT_1 hP rfl hc9_1 hD0_1 rfl
      refine lv_astoreN (lv' := [(4, .null), (0, .ref x), (1, .int px), (2, .int py), (3, .int (nI f0))]) hx hb dX10_inside_8 hl (Nat.le_of_ble_eq_true rfl) rfl (fun ls hl => ?_)
      refine lv_aloadN hx hb dX10_inside_10 (lv_at hl 0 rfl) ?_
      refine lv_ifnullN (tgt := 31) hx hb dX10_inside_12 rfl ?_
      refine lv_iconst (v := (-1)) hx hb dX10_inside_31 rfl ?_
      obtain ⟨hP9, hD9⟩ := zu_part (cx := [_, _, _]) hP hD [true, true, true] rfl rfl
      rw [hQ9]
      exact W.iret (v := (-1)) hx hb hr (fun t ht hW => ⟨⟨rfl, by rw [ht]; exact hP9, hD9⟩, hS.F ht⟩) hS.2.2 dX10_inside_32
set_option maxHeartbeats 4000000 in
set_option maxRecDepth 100000 in
theorem k_inside_w (l : Launch) (dC : Nat → ClassId) (dI : Nat → Nat → Nat) (cI cZ cF : ClassId) (sz : Nat) (x : Nat) (sh : Nat) (lw : Nat) (ro : Nat) (bq : Nat) (bp : Nat) (dq : Nat) (dp : Nat) (lv : Nat) (sl : Nat) (sd : Int32) (ul : Int32) (su : Int32) (ds : Int32) (fa : Nat) (ft : Nat) (FA : Nat → Option Nat) (f0 : Nat) (L : List Nat) (f : Nat → va_E) (kd : Nat → Int32) (st : Nat → Int32) (tn : Nat → Int32) (mn : Nat → Int32) (cx : Nat → Int32) (cy : Nat → Int32) (rk : Nat → Int32) (wd : Nat → Int32) (tw : Nat → Int32) (pa : Nat → Int32) (pb : Nat → Int32) (gb : Nat → Int32) (it : Nat → Int32) (px : Int32) (py : Int32) (h200 : ft ≤ 200) (hf0 : f0 < ft) (hva : ∀ q, q < ft → vwA cI L f FA rk wd tw pa pb kd st gb it tn mn cx cy q) (hok : okA ft st tn kd mn cx cy) (hlv : lvF ft st tn f0) : Met l yX10_inside (.code yX10_inside cX10_inside 5 (some .int) :: ws0) ({ frames := 2, cells := 0, slots := 0, locals := 43 } : Room) (va_Pc [.ref x, .int px, .int py, .int (nI f0)] (zPre (dC, dI) classes (zTy cI cZ cF) ([(oc8 x (.ref sh) (.ref lw) (.ref ro) (.ref bq) (.ref bp) (.ref dq) (.ref dp) (.ref lv) (.ref sl) ds sd ul su), (oc7 sh (.ref fa) (nI ft)), (oq fa cF 200 FA)] ++ va_pl L f) sz zXN)) (zQe (fun v9 t => ∃ (b9 : Int32), v9 = (some (.int b9)) ∧ va_P (dC, dI) classes ([(oc8 x (.ref sh) (.ref lw) (.ref ro) (.ref bq) (.ref bp) (.ref dq) (.ref dp) (.ref lv) (.ref sl) ds sd ul su), (oc7 sh (.ref fa) (nI ft)), (oq fa cF 200 FA)] ++ va_pl L f) t.heap ∧ va_D (va_A ([(oc8 x (.ref sh) (.ref lw) (.ref ro) (.ref bq) (.ref bp) (.ref dq) (.ref dp) (.ref lv) (.ref sl) ds sd ul su), (oc7 sh (.ref fa) (nI ft)), (oq fa cF 200 FA)] ++ va_pl L f) sz) ([(oc8 x (.ref sh) (.ref lw) (.ref ro) (.ref bq) (.ref bp) (.ref dq) (.ref dp) (.ref lv) (.ref sl) ds sd ul su), (oc7 sh (.ref fa) (nI ft)), (oq fa cF 200 FA)] ++ va_pl L f)) (va_A ([(oc8 x (.ref sh) (.ref lw) (.ref ro) (.ref bq) (.ref bp) (.ref dq) (.ref dp) (.ref lv) (.ref sl) ds sd ul su), (oc7 sh (.ref fa) (nI ft)), (oq fa cF 200 FA)] ++ va_pl L f) sz)) 0 0 (va_A ([(oc8 x (.ref sh) (.ref lw) (.ref ro) (.ref bq) (.ref bp) (.ref dq) (.ref dp) (.ref lv) (.ref sl) ds sd ul su), (oc7 sh (.ref fa) (nI ft)), (oq fa cF 200 FA)] ++ va_pl L f) sz) := by
  refine Met.ofW (cc := cX10_inside) (maxL := 5) (ret := (some .int)) rfl rfl ?_
  intro p e s m args below meth c s₁ B hml hv
  obtain ⟨rfl, hsz, hP, hK, hD0, hXN⟩ := hv
  have hx := B.exec
  have hb := B.bytes
  have hr := B.returns
  have hts0 := atoms_spec (ws := .code yX10_inside cX10_inside 5 (some .int) :: ws0) B.pre
  have hts : ∀ w9 ∈ ws0, w9.before ([.ref x, .int px, .int py, .int (nI f0)] : List Value).toArray s = true := fun w9 h => hts0 w9 (List.mem_cons_of_mem _ h)
  have hown : s.vm.findClass "ScaleShop" = some m.cls := findClass_of_methodNamed B.named
  have hlocks := B.notSynchronized
  subst hsz
  have hD := hD0.self (sz := s.heap.size)
  clear hD0
  generalize hAe : va_A ([(oc8 x (.ref sh) (.ref lw) (.ref ro) (.ref bq) (.ref bp) (.ref dq) (.ref dp) (.ref lv) (.ref sl) ds sd ul su), (oc7 sh (.ref fa) (nI ft)), (oq fa cF 200 FA)] ++ va_pl L f) s.heap.size = A at hD ⊢
  have hA : ∀ q : Nat, s.heap.size ≤ q → A q := fun q h => by rw [← hAe]; exact Or.inr h
  clear hAe
  have hS : va_S A s.heap s.heap [] := va_S.rf
  have hP : va_P (dC, dI) classes ([(oc8 x (.ref sh) (.ref lw) (.ref ro) (.ref bq) (.ref bp) (.ref dq) (.ref dp) (.ref lv) (.ref sl) ds sd ul su), (oc7 sh (.ref fa) (nI ft)), (oq fa cF 200 FA)] ++ va_pl L f) s.heap := hP
  obtain ⟨Q9, hQ9⟩ : ∃ Q9 : State → Prop, Q9 = MQ below (zQe (fun v9 t => ∃ (b9 : Int32), v9 = (some (.int b9)) ∧ va_P (dC, dI) classes ([(oc8 x (.ref sh) (.ref lw) (.ref ro) (.ref bq) (.ref bp) (.ref dq) (.ref dp) (.ref lv) (.ref sl) ds sd ul su), (oc7 sh (.ref fa) (nI ft)), (oq fa cF 200 FA)] ++ va_pl L f) t.heap ∧ va_D A ([(oc8 x (.ref sh) (.ref lw) (.ref ro) (.ref bq) (.ref bp) (.ref dq) (.ref dp) (.ref lv) (.ref sl) ds sd ul su), (oc7 sh (.ref fa) (nI ft)), (oq fa cF 200 FA)] ++ va_pl L f)) A) ([.ref x, .int px, .int py, .int (nI f0)] : List Value).toArray s 0 0 A := ⟨_, rfl⟩
  rw [← hQ9]
  have hl := lv_entry ([.ref x, .int px, .int py, .int (nI f0)]) (n := 5) (Nat.le_of_ble_eq_true rfl)
  rw [lg_entry_eq]
  generalize (lg_sl ([.ref x, .int px, .int py, .int (nI f0)]) ++ List.replicate (5 - (lg_sl ([.ref x, .int px, .int py, .int (nI f0)])).length) Slot.unset).toArray = ls at hl ⊢
  have hl : lv_has ls 5 [(0, .ref x), (1, .int px), (2, .int py), (3, .int (nI f0))] := hl
  obtain ⟨fe2, lk2, lo2, we2, fm2, r2, rx2, ry2, cap2, U2, V2, rg2, hFA2, hfe2, hlk2, ⟨hr2, hrx2, hry2, hne2⟩, hrr2⟩ := vwA_l (hva f0 (by omega)) hlv.2.2
  · skip
    have hcap2 := hrr2.1
    have hcap3 := hrr2.2.1
    have hA2 := hlv.2.1
    have ht2 := hlv.2.2
    have hw2 := (hok f0 hlv).1
    have hq2 := rw_pls hrr2 hw2
    have hn2 := hw2.2.1
    have hrg2 := hrr2.2.2.2.1
    have hab2 := ar2B hq2 _ (Nat.le_refl _)
    have hlb2 := ln2B hq2 (nN (mn f0) - 1) (by omega)
    have hc9_1 : inPl L f [(oc1 fe2 (rk f0) (wd f0) (tw f0) (pa f0) (pb f0) (.ref lo2) (.ref lk2) fm2), (oc4 lk2 (kd f0) (st f0) (.ref r2) (gb f0) (it f0) we2), (oc6 r2 (.ref rx2) (.ref ry2) (nI (nN (mn f0))) rg2), (oa rx2 cI cap2 U2), (oa ry2 cI cap2 V2)] := ⟨hfe2, hlk2, hr2, hrx2, hry2, trivial⟩
    have hD0_1 := hD
    obtain ⟨T_1, hT_1, hP, hD⟩ := pl_oT hP hD hc9_1 (pwR hfe2.2 hlk2.2 hr2.2 hrx2.2 hry2.2 hne2)
    obtain ⟨hP, hD⟩ := zre (W2 := ([_, _, _, _, _, _, _, _] ++ va_pl T_1 f)) hP hD rfl
    refine lv_aload_n hx hb dX10_inside_0 rfl (lv_at hl 0 rfl) ?_
    refine va_get (D := (dC, dI)) (ci := 8) (v := .ref sh) (C := RX10) (T := TX10) (N := 13) hx hb hts inX10 hown hK hP 0 rfl rfl 0 (Nat.le_of_ble_eq_true rfl) (hts _ mw_309) (fun _ h9 => h9) rfl dX10_inside_1 ?_
    refine lv_iload_n hx hb dX10_inside_4 rfl (lv_at hl 3 rfl) ?_
    obtain ⟨hPc, hDc, hFc, hI1⟩ := zi_sub (wc := [_, _, _, _]) hP hD hS hA [1, 2, 3, 4] (by decide +kernel) rfl
    refine zcall (st1 := [.ref r2]) (va_runV (As := [.int (nI f0)]) (rest := []) ⟨hx, hb, hml, hown, hts⟩ (k_Sheet_rowThere_yv l dC dI cI cZ cF s.heap.size sh fa ft FA f0 fe2 lo2 (rk f0) (wd f0) (tw f0) (pa f0) (pb f0) lk2 (kd f0) (st f0) (gb f0) (it f0) we2 r2 fm2 (by first | with_reducible assumption | omega) (by first | with_reducible assumption | omega) (hFA2) (by first | exact hA2 | omega)) (csV_144 hts rfl rfl ⟨Nat.le_of_ble_eq_true rfl, Nat.le_of_ble_eq_true rfl⟩) (zPV2 (q0 := 0) (ci := 7) hPc hDc hK hXN rfl rfl) rfl rfl hl.1 rfl (lv_room (Nat.le_of_ble_eq_true rfl)) dX10_inside_5 ⟨Nat.le_of_ble_eq_true rfl, Nat.le_of_ble_eq_true rfl⟩) hS hFc hFc rfl (fun t H locs ht hB hk1 hS => ?_)
    obtain ⟨hP1, hD1⟩ := hB
    rw [ht] at hP1
    replace hP := z0 hP hD hk1 hP1 hI1
    clear hk1 hPc hDc hFc hP1 hD1 ht hI1
    refine lv_astore (lv' := [(4, .ref r2), (0, .ref x), (1, .int px), (2, .int py), (3, .int (nI f0))]) hx hb dX10_inside_8 hl (Nat.le_of_ble_eq_true rfl) rfl (fun ls hl => ?_)
    refine lv_aload hx hb dX10_inside_10 (lv_at hl 0 rfl) ?_
    refine lv_ifnull hx hb dX10_inside_12 ?_
    refine lv_aload hx hb dX10_inside_15 (lv_at hl 0 rfl) ?_
    refine va_get (D := (dC, dI)) (ci := 6) (v := .int rg2) (C := RX7) (T := TX7) (N := 4) hx hb hts inX7 hown hK hP 5 rfl rfl 3 (Nat.le_of_ble_eq_true rfl) (hts _ mw_185) (fun _ h9 => h9) rfl dX10_inside_17 ?_
    refine lv_if_eq (tgt := 31) hx hb dX10_inside_20 rfl (fun c_1 => ?_) (fun c_1 => ?_)
    · have c_1 : rg2.toInt = 0 := zc_eq rfl rfl c_1
      refine lv_iconst (v := (-1)) hx hb dX10_inside_31 rfl ?_
      obtain ⟨hP, hD⟩ := pl_bk (X := [_, _, _]) hT_1 hP rfl hc9_1 hD0_1 rfl
      obtain ⟨hP9, hD9⟩ := zu_part (cx := [_, _, _]) hP hD [true, true, true] rfl rfl
      rw [hQ9]
      exact W.iret (v := (-1)) hx hb hr (fun t ht hW => ⟨⟨_, rfl, (-1), rfl, by rw [ht]; exact hP9, hD9⟩, hS.F ht⟩) hS.2.2 dX10_inside_32
    · have c_1 : ¬ rg2.toInt = 0 := zc_ne rfl rfl c_1
      refine lv_iload_n hx hb dX10_inside_23 rfl (lv_at hl 2 rfl) ?_
      refine lv_iload_n hx hb dX10_inside_24 rfl (lv_at hl 3 rfl) ?_
      obtain ⟨hPc, hDc, hFc, hI1⟩ := zi_sub (wc := []) hP hD hS hA [] rfl rfl
      refine zcall (st1 := [.int (pI (pl px ∧ pl py))]) (va_runS (As := [.int px, .int py]) (rest := []) ⟨hx, hb, hml, hown, hts⟩ (k_isPlace l dC dI cI cZ cF H.size px py ) (csS_98 hts rfl rfl ⟨Nat.le_of_ble_eq_true rfl, Nat.le_of_ble_eq_true rfl⟩) (zPS2 hPc hDc hK hXN) rfl rfl hl.1 rfl (lv_room (Nat.le_of_ble_eq_true rfl)) dX10_inside_25 ⟨Nat.le_of_ble_eq_true rfl, Nat.le_of_ble_eq_true rfl⟩) hS hFc hFc rfl (fun t H locs ht hB hk1 hS => ?_)
      obtain ⟨hP1, hD1⟩ := hB
      rw [ht] at hP1
      replace hP := z0 hP hD hk1 hP1 hI1
      clear hk1 hPc hDc hFc hP1 hD1 ht hI1
      refine lv_if_ne (tgt := 33) hx hb dX10_inside_28 rfl (fun c_2 => ?_) (fun c_2 => ?_)
      · have c_2 : pl px ∧ pl py := zp_1 c_2
        refine lv_aload hx hb dX10_inside_33 (lv_at hl 0 rfl) ?_
        refine lv_iload_n hx hb dX10_inside_35 rfl (lv_at hl 2 rfl) ?_
        refine lv_iload_n hx hb dX10_inside_36 rfl (lv_at hl 3 rfl) ?_
        obtain ⟨hPc, hDc, hFc, hI1⟩ := zi_sub (wc := [_, _, _]) hP hD hS hA [5, 6, 7] rfl rfl
        refine zcall (st1 := [.int (whr (nN (mn f0)) U2 V2 px.toInt py.toInt)]) (va_runV (As := [.int px, .int py]) (rest := []) ⟨hx, hb, hml, hown, hts⟩ (k_Row_where l dC dI cI cZ cF H.size r2 rx2 ry2 (nN (mn f0)) cap2 U2 V2 rg2 px py (by first | with_reducible assumption | omega) (by first | with_reducible assumption | omega) (hq2) ((show pl px ∧ pl py by assumption).1) ((show pl px ∧ pl py by assumption).2)) (csV_145 hts rfl rfl ⟨Nat.le_of_ble_eq_true rfl, Nat.le_of_ble_eq_true rfl⟩) (zPV2 (q0 := 0) (ci := 6) hPc hDc hK hXN rfl rfl) rfl rfl hl.1 rfl (lv_room (Nat.le_of_ble_eq_true rfl)) dX10_inside_37 ⟨Nat.le_of_ble_eq_true rfl, Nat.le_of_ble_eq_true rfl⟩) hS hFc hFc rfl (fun t H locs ht hB hk1 hS => ?_)
        obtain ⟨hP1, hD1⟩ := hB
        rw [ht] at hP1
        replace hP := z0 hP hD hk1 hP1 hI1
        clear hk1 hPc hDc hFc hP1 hD1 ht hI1
        obtain ⟨hP, hD⟩ := pl_bk (X := [_, _, _]) hT_1 hP rfl hc9_1 hD0_1 rfl
        obtain ⟨hP9, hD9⟩ := zu_part (cx := [_, _, _]) hP hD [true, true, true] rfl rfl
        rw [hQ9]
        exact W.iret (v := whr (nN (mn f0)) U2 V2 px.toInt py.toInt) hx hb hr (fun t ht hW => ⟨⟨_, rfl, (whr (nN (mn f0)) U2 V2 px.toInt py.toInt), rfl, by rw [ht]; exact hP9, hD9⟩, hS.F ht⟩) hS.2.2 dX10_inside_40
      · have c_2 : ¬ (pl px ∧ pl py) := zp_0 c_2
        refine lv_iconst (v := (-1)) hx hb dX10_inside_31 rfl ?_
        obtain ⟨hP, hD⟩ := pl_bk (X := [_, _, _]) hT_1 hP rfl hc9_1 hD0_1 rfl
        obtain ⟨hP9, hD9⟩ := zu_part (cx := [_, _, _]) hP hD [true, true, true] rfl rfl
        rw [hQ9]
        exact W.iret (v := (-1)) hx hb hr (fun t ht hW => ⟨⟨_, rfl, (-1), rfl, by rw [ht]; exact hP9, hD9⟩, hS.F ht⟩) hS.2.2 dX10_inside_32
set_option maxHeartbeats 4000000 in
set_option maxRecDepth 100000 in
theorem k_step_a (l : Launch) (dC : Nat → ClassId) (dI : Nat → Nat → Nat) (cI cZ cF : ClassId) (sz : Nat) (cO : ClassId) (e0 : Nat) (mi : Nat) (x : Nat) (sh : Nat) (lw : Nat) (ro : Nat) (bq : Nat) (bp : Nat) (dq : Nat) (dp : Nat) (lv : Nat) (sl : Nat) (sd : Int32) (ul : Int32) (su : Int32) (ea : Nat) (mc9 : Int32) (fa : Nat) (FA : Nat → Option Nat) (bs : Nat) (dn : Nat) (T : Nat) (ft : Nat) (FT : Nat → Nat) (V : Nat → Nat → Nat → Int32) (VX : Nat → Nat → Int32) (VY : Nat → Nat → Int32) (tn : Nat → Int32) (rk : Nat → Int32) (wd : Nat → Int32) (tw : Nat → Int32) (pa : Nat → Int32) (pb : Nat → Int32) (wh : Nat → Int32) (of9 : Nat → Int32) (we : Nat → Int32) (kd : Nat → Int32) (st : Nat → Int32) (gb : Nat → Int32) (it : Nat → Int32) (mn : Nat → Int32) (cx : Nat → Int32) (cy : Nat → Int32) (L : List Nat) (f : Nat → va_E) (i5 : Nat) (w : Int32) (hB : shB cI cO L f e0 FA ea bs dn T ft FT V VX VY tn rk wd tw pa pb wh of9 we kd st gb it mn cx cy) (hi5 : 1 ≤ i5 ∧ i5 ≤ T) : Met l yX10_step (.code yX10_step cX10_step 4 (some .int) :: ws0) ({ frames := 3, cells := 0, slots := 0, locals := 64 } : Room) (va_Pc [.ref x, .int (nI i5), .int w] (zPre (dC, dI) classes (zTyO cI cZ cF cO) ([(oc8 x (.ref sh) (.ref lw) (.ref ro) (.ref bq) (.ref bp) (.ref dq) (.ref dp) (.ref lv) (.ref sl) (nI dn) sd ul su), (oc10 sl mc9 (.ref ea) (nI T)), (oc7 sh (.ref fa) (nI ft)), (oq fa cF 200 FA)] ++ va_pl L f) sz (zXL e0 mi (va_A ([(oc8 x (.ref sh) (.ref lw) (.ref ro) (.ref bq) (.ref bp) (.ref dq) (.ref dp) (.ref lv) (.ref sl) (nI dn) sd ul su), (oc10 sl mc9 (.ref ea) (nI T)), (oc7 sh (.ref fa) (nI ft)), (oq fa cF 200 FA)] ++ va_pl L f) sz)))) (zQe (fun v9 t => ∃ (b9 : Int32), v9 = (some (.int b9)) ∧ va_P (dC, dI) classes ([(oc8 x (.ref sh) (.ref lw) (.ref ro) (.ref bq) (.ref bp) (.ref dq) (.ref dp) (.ref lv) (.ref sl) (nI dn) sd ul su), (oc10 sl mc9 (.ref ea) (nI T)), (oc7 sh (.ref fa) (nI ft)), (oq fa cF 200 FA)] ++ va_pl L f) t.heap ∧ va_D (va_A ([(oc8 x (.ref sh) (.ref lw) (.ref ro) (.ref bq) (.ref bp) (.ref dq) (.ref dp) (.ref lv) (.ref sl) (nI dn) sd ul su), (oc10 sl mc9 (.ref ea) (nI T)), (oc7 sh (.ref fa) (nI ft)), (oq fa cF 200 FA)] ++ va_pl L f) sz) ([(oc8 x (.ref sh) (.ref lw) (.ref ro) (.ref bq) (.ref bp) (.ref dq) (.ref dp) (.ref lv) (.ref sl) (nI dn) sd ul su), (oc10 sl mc9 (.ref ea) (nI T)), (oc7 sh (.ref fa) (nI ft)), (oq fa cF 200 FA)] ++ va_pl L f)) (va_A ([(oc8 x (.ref sh) (.ref lw) (.ref ro) (.ref bq) (.ref bp) (.ref dq) (.ref dp) (.ref lv) (.ref sl) (nI dn) sd ul su), (oc10 sl mc9 (.ref ea) (nI T)), (oc7 sh (.ref fa) (nI ft)), (oq fa cF 200 FA)] ++ va_pl L f) sz)) 0 0 (va_A ([(oc8 x (.ref sh) (.ref lw) (.ref ro) (.ref bq) (.ref bp) (.ref dq) (.ref dp) (.ref lv) (.ref sl) (nI dn) sd ul su), (oc10 sl mc9 (.ref ea) (nI T)), (oc7 sh (.ref fa) (nI ft)), (oq fa cF 200 FA)] ++ va_pl L f) sz) := by
  refine Met.ofW (cc := cX10_step) (maxL := 4) (ret := (some .int)) rfl rfl ?_
  intro p e s m args below meth c s₁ B hml hv
  obtain ⟨rfl, hsz, hP, hK, hD0, hXL⟩ := hv
  have hx := B.exec
  have hb := B.bytes
  have hr := B.returns
  have hts0 := atoms_spec (ws := .code yX10_step cX10_step 4 (some .int) :: ws0) B.pre
  have hts : ∀ w9 ∈ ws0, w9.before ([.ref x, .int (nI i5), .int w] : List Value).toArray s = true := fun w9 h => hts0 w9 (List.mem_cons_of_mem _ h)
  have hown : s.vm.findClass "ScaleShop" = some m.cls := findClass_of_methodNamed B.named
  have hlocks := B.notSynchronized
  subst hsz
  have hD := hD0.self (sz := s.heap.size)
  clear hD0
  generalize hAe : va_A ([(oc8 x (.ref sh) (.ref lw) (.ref ro) (.ref bq) (.ref bp) (.ref dq) (.ref dp) (.ref lv) (.ref sl) (nI dn) sd ul su), (oc10 sl mc9 (.ref ea) (nI T)), (oc7 sh (.ref fa) (nI ft)), (oq fa cF 200 FA)] ++ va_pl L f) s.heap.size = A at hD hXL ⊢
  have hA : ∀ q : Nat, s.heap.size ≤ q → A q := fun q h => by rw [← hAe]; exact Or.inr h
  clear hAe
  have hS : va_S A s.heap s.heap [] := va_S.rf
  have hXN := hXL.1
  have hK3 := hK.sub [0, 1, 2] rfl
  have hP : va_P (dC, dI) classes ([(oc8 x (.ref sh) (.ref lw) (.ref ro) (.ref bq) (.ref bp) (.ref dq) (.ref dp) (.ref lv) (.ref sl) (nI dn) sd ul su), (oc10 sl mc9 (.ref ea) (nI T)), (oc7 sh (.ref fa) (nI ft)), (oq fa cF 200 FA)] ++ va_pl L f) s.heap := hP
  obtain ⟨Q9, hQ9⟩ : ∃ Q9 : State → Prop, Q9 = MQ below (zQe (fun v9 t => ∃ (b9 : Int32), v9 = (some (.int b9)) ∧ va_P (dC, dI) classes ([(oc8 x (.ref sh) (.ref lw) (.ref ro) (.ref bq) (.ref bp) (.ref dq) (.ref dp) (.ref lv) (.ref sl) (nI dn) sd ul su), (oc10 sl mc9 (.ref ea) (nI T)), (oc7 sh (.ref fa) (nI ft)), (oq fa cF 200 FA)] ++ va_pl L f) t.heap ∧ va_D A ([(oc8 x (.ref sh) (.ref lw) (.ref ro) (.ref bq) (.ref bp) (.ref dq) (.ref dp) (.ref lv) (.ref sl) (nI dn) sd ul su), (oc10 sl mc9 (.ref ea) (nI T)), (oc7 sh (.ref fa) (nI ft)), (oq fa cF 200 FA)] ++ va_pl L f)) A) ([.ref x, .int (nI i5), .int w] : List Value).toArray s 0 0 A := ⟨_, rfl⟩
  rw [← hQ9]
  have hl := lv_entry ([.ref x, .int (nI i5), .int w]) (n := 4) (Nat.le_of_ble_eq_true rfl)
  rw [lg_entry_eq]
  generalize (lg_sl ([.ref x, .int (nI i5), .int w]) ++ List.replicate (4 - (lg_sl ([.ref x, .int (nI i5), .int w])).length) Slot.unset).toArray = ls at hl ⊢
  have hl : lv_has ls 4 [(0, .ref x), (1, .int (nI i5)), (2, .int w)] := hl
  obtain ⟨own, fe, cl, la, sp, SA, hG9, hH9, hft9⟩ := hB
  have hN9 := hG9.2.2.2.2.2.1
  have hdT := hN9.2.1
  have hT5 := hN9.2.2.1
  have hbd := hN9.1
  obtain ⟨hs1, mv5, ch5, hs2, hs3⟩ := hG9.2.2.2.1 i5 (by omega) (by omega)
  obtain ⟨cap5, hce5, hnc5, hc10, hc1k, hent⟩ : ∃ cap : Nat, ce L f own 8002 ea (.inl (cO, cap, .inr (.inr (.inr (.inr SA))))) ∧ T ≤ cap ∧ 10 ≤ cap ∧ cap ≤ 1000 ∧ ∀ i, i < T → ∃ (y : Nat) (vs : List Value), SA i = some y ∧ ce L f own 8001 y (.inr (11, vs)) := (hG9.2.2.2.2.1).resolve_left (fun g => by omega)
  have hc9_1 : inPl L f [(oq ea cO cap5 SA), (oc11 (sp i5) (wh i5) (of9 i5) (we i5) mv5 ch5)] := ⟨ce_pl hce5, ce_pl hs2, trivial⟩
  have hD0_1 := hD
  obtain ⟨T_1, hT_1, hP, hD⟩ := pl_oT hP hD hc9_1 (pw2 (ca_ne hs2.2.1 hce5.2.1).symm)
  obtain ⟨hP, hD⟩ := zre (W2 := ([_, _, _, _, _, _] ++ va_pl T_1 f)) hP hD rfl
  refine lv_iload_n hx hb dX10_step_0 rfl (lv_at hl 1 rfl) ?_
  refine lv_iconst (v := 1) hx hb dX10_step_1 rfl ?_
  have b9_2 : zlt (i5) := show i5 < 2147483648 by omega
  refine lv_icmp_lt (tgt := 16) hx hb dX10_step_2 rfl (fun c_1 => ?_) (fun c_1 => ?_)
  · have c_1 : ((i5 : Nat) : Int) < 1 := zc_lt (nI_toInt b9_2) rfl c_1
    exfalso; omega
  · have c_1 : 1 ≤ ((i5 : Nat) : Int) := zc_nlt (nI_toInt b9_2) rfl c_1
    refine lv_iload_n hx hb dX10_step_5 rfl (lv_at hl 1 rfl) ?_
    refine lv_aload_n hx hb dX10_step_6 rfl (lv_at hl 0 rfl) ?_
    refine va_get (D := (dC, dI)) (ci := 8) (v := .ref sl) (C := RX10) (T := TX10) (N := 13) hx hb hts inX10 hown hK hP 0 rfl rfl 8 (Nat.le_of_ble_eq_true rfl) (hts _ mw_317) (fun _ h9 => h9) rfl dX10_step_7 ?_
    obtain ⟨hPc, hDc, hFc, hI1⟩ := zi_sub (wc := [_]) hP hD hS hA [1] rfl rfl
    refine zcall (st1 := [.int (nI T), .int (nI i5)]) (va_runV (As := []) (rest := [.int (nI i5)]) ⟨hx, hb, hml, hown, hts⟩ (k_AL_size l dC dI cI cZ cF s.heap.size sl ea T mc9 ) (csV_90 hts rfl rfl ⟨Nat.le_of_ble_eq_true rfl, Nat.le_of_ble_eq_true rfl⟩) (zPV2 (q0 := 0) (ci := 10) hPc hDc hK3 hXN rfl rfl) rfl rfl hl.1 rfl (lv_room (Nat.le_of_ble_eq_true rfl)) dX10_step_10 ⟨Nat.le_of_ble_eq_true rfl, Nat.le_of_ble_eq_true rfl⟩) hS hFc hFc rfl (fun t H locs ht hB hk1 hS => ?_)
    obtain ⟨hP1, hD1⟩ := hB
    rw [ht] at hP1
    replace hP := z0 hP hD hk1 hP1 hI1
    clear hk1 hPc hDc hFc hP1 hD1 ht hI1
    have b9_4 : zlt (T) := show T < 2147483648 by omega
    refine lv_icmp_le (tgt := 18) hx hb dX10_step_13 rfl (fun c_3 => ?_) (fun c_3 => ?_)
    · have c_3 : ((i5 : Nat) : Int) ≤ ((T : Nat) : Int) := zc_le (nI_toInt b9_2) (nI_toInt b9_4) c_3
      refine lv_aload_n hx hb dX10_step_18 rfl (lv_at hl 0 rfl) ?_
      refine va_get (D := (dC, dI)) (ci := 8) (v := .ref sl) (C := RX10) (T := TX10) (N := 13) hx hb hts inX10 hown hK hP 0 rfl rfl 8 (Nat.le_of_ble_eq_true rfl) (hts _ mw_317) (fun _ h9 => h9) rfl dX10_step_19 ?_
      refine lv_iload_n hx hb dX10_step_22 rfl (lv_at hl 1 rfl) ?_
      refine lv_iconst (v := 1) hx hb dX10_step_23 rfl ?_
      refine lv_isub hx hb dX10_step_24 ?_
      refine zz_i (v := nI (i5 - 1)) (pk_sub (a := i5) (b := 1) (by omega)) ?_
      refine zz_i (v := nI (i5 - 1)) (zn_eq (by omega)) ?_
      obtain ⟨hPc, hDc, hFc, hI1⟩ := zi_sub (wc := [_, _]) hP hD hS hA [1, 4] rfl rfl
      refine zcall (st1 := [.ref (sp i5)]) (va_runV (As := [.int (nI (i5 - 1))]) (rest := []) ⟨hx, hb, hml, hown, hts⟩ (k_AL_get l dC dI cI cZ cF H.size cO e0 mi sl ea T mc9 (i5 - 1) cap5 (sp i5) SA (hs1) (by first | with_reducible assumption | omega) (by first | with_reducible assumption | omega) (by first | with_reducible assumption | omega) (by first | with_reducible assumption | omega)) (csV_112 hts rfl rfl ⟨Nat.le_of_ble_eq_true rfl, Nat.le_of_ble_eq_true rfl⟩) (zPVL (q0 := 0) (ci := 10) hPc hDc hK hXL hS hFc rfl rfl) rfl rfl hl.1 rfl (lv_room (Nat.le_of_ble_eq_true rfl)) dX10_step_25 ⟨Nat.le_of_ble_eq_true rfl, Nat.le_of_ble_eq_true rfl⟩) hS hFc hFc rfl (fun t H locs ht hB hk1 hS => ?_)
      obtain ⟨hP1, hD1⟩ := hB
      rw [ht] at hP1
      replace hP := z0 hP hD hk1 hP1 hI1
      clear hk1 hPc hDc hFc hP1 hD1 ht hI1
      refine va_castE hx hb hown (hts _ mw_757) (z_cellR (i := 0) hK (hP 5 _ rfl) rfl) dX10_step_28 ?_
      refine lv_astore_n (lv' := [(3, .ref (sp i5)), (0, .ref x), (1, .int (nI i5)), (2, .int w)]) hx hb dX10_step_31 rfl hl (Nat.le_of_ble_eq_true rfl) rfl (fun ls hl => ?_)
      refine lv_iload_n hx hb dX10_step_32 rfl (lv_at hl 3 rfl) ?_
      rcases zz_sw (lo := 0) (hi := 3) rfl with c_5 | c_5
      · refine lv_tableOut (tgt := 93) hx hb dX10_step_33 c_5.1 (by decide) ?_
        refine lv_iconst (v := (-1)) hx hb dX10_step_93 rfl ?_
        obtain ⟨hP, hD⟩ := pl_bk (X := [_, _, _, _]) hT_1 hP rfl hc9_1 hD0_1 rfl
        obtain ⟨hP9, hD9⟩ := zu_part (cx := [_, _, _, _]) hP hD [true, true, true, true] rfl rfl
        rw [hQ9]
        exact W.iret (v := (-1)) hx hb hr (fun t ht hW => ⟨⟨_, rfl, (-1), rfl, by rw [ht]; exact hP9, hD9⟩, hS.F ht⟩) hS.2.2 dX10_step_94
      · by_cases c_6 : w.toInt = 0
        · refine lv_tableIn (tgt := 64) (off := 31) hx hb dX10_step_33 c_5.2.1 c_5.2.2 (by rw [show (w).toInt = 0 from (rfl).trans c_6]; rfl) (by decide) ?_
          refine lv_aload_n hx hb dX10_step_64 rfl (lv_at hl 0 rfl) ?_
          refine va_get (D := (dC, dI)) (ci := 11) (v := .int (wh i5)) (C := RX9) (T := TX9) (N := 5) hx hb hts inX9 hown hK hP 5 rfl rfl 0 (Nat.le_of_ble_eq_true rfl) (hts _ mw_764) (fun _ h9 => h9) rfl dX10_step_65 ?_
          obtain ⟨hP, hD⟩ := pl_bk (X := [_, _, _, _]) hT_1 hP rfl hc9_1 hD0_1 rfl
          obtain ⟨hP9, hD9⟩ := zu_part (cx := [_, _, _, _]) hP hD [true, true, true, true] rfl rfl
          rw [hQ9]
          exact W.iret (v := wh i5) hx hb hr (fun t ht hW => ⟨⟨_, rfl, (wh i5), rfl, by rw [ht]; exact hP9, hD9⟩, hS.F ht⟩) hS.2.2 dX10_step_68
        by_cases c_7 : w.toInt = 1
        · refine lv_tableIn (tgt := 69) (off := 36) hx hb dX10_step_33 c_5.2.1 c_5.2.2 (by rw [show (w).toInt = 1 from (rfl).trans c_7]; rfl) (by decide) ?_
          refine lv_aload_n hx hb dX10_step_69 rfl (lv_at hl 0 rfl) ?_
          refine va_get (D := (dC, dI)) (ci := 11) (v := .int (of9 i5)) (C := RX9) (T := TX9) (N := 5) hx hb hts inX9 hown hK hP 5 rfl rfl 1 (Nat.le_of_ble_eq_true rfl) (hts _ mw_766) (fun _ h9 => h9) rfl dX10_step_70 ?_
          obtain ⟨hP, hD⟩ := pl_bk (X := [_, _, _, _]) hT_1 hP rfl hc9_1 hD0_1 rfl
          obtain ⟨hP9, hD9⟩ := zu_part (cx := [_, _, _, _]) hP hD [true, true, true, true] rfl rfl
          rw [hQ9]
          exact W.iret (v := of9 i5) hx hb hr (fun t ht hW => ⟨⟨_, rfl, (of9 i5), rfl, by rw [ht]; exact hP9, hD9⟩, hS.F ht⟩) hS.2.2 dX10_step_73
        by_cases c_8 : w.toInt = 2
        · refine lv_tableIn (tgt := 74) (off := 41) hx hb dX10_step_33 c_5.2.1 c_5.2.2 (by rw [show (w).toInt = 2 from (rfl).trans c_8]; rfl) (by decide) ?_
          refine lv_aload_n hx hb dX10_step_74 rfl (lv_at hl 0 rfl) ?_
          refine va_get (D := (dC, dI)) (ci := 11) (v := .int (we i5)) (C := RX9) (T := TX9) (N := 5) hx hb hts inX9 hown hK hP 5 rfl rfl 2 (Nat.le_of_ble_eq_true rfl) (hts _ mw_768) (fun _ h9 => h9) rfl dX10_step_75 ?_
          obtain ⟨hP, hD⟩ := pl_bk (X := [_, _, _, _]) hT_1 hP rfl hc9_1 hD0_1 rfl
          obtain ⟨hP9, hD9⟩ := zu_part (cx := [_, _, _, _]) hP hD [true, true, true, true] rfl rfl
          rw [hQ9]
          exact W.iret (v := we i5) hx hb hr (fun t ht hW => ⟨⟨_, rfl, (we i5), rfl, by rw [ht]; exact hP9, hD9⟩, hS.F ht⟩) hS.2.2 dX10_step_78
        by_cases c_9 : w.toInt = 3
        · refine lv_tableIn (tgt := 79) (off := 46) hx hb dX10_step_33 c_5.2.1 c_5.2.2 (by rw [show (w).toInt = 3 from (rfl).trans c_9]; rfl) (by decide) ?_
          refine lv_iload_n hx hb dX10_step_79 rfl (lv_at hl 2 rfl) ?_
          refine lv_aload_n hx hb dX10_step_80 rfl (lv_at hl 1 rfl) ?_
          refine va_get (D := (dC, dI)) (ci := 8) (v := .int (nI dn)) (C := RX10) (T := TX10) (N := 13) hx hb hts inX10 hown hK hP 0 rfl rfl 9 (Nat.le_of_ble_eq_true rfl) (hts _ mw_318) (fun _ h9 => h9) rfl dX10_step_81 ?_
          have b9_11 : zlt (dn) := show dn < 2147483648 by omega
          refine lv_icmp_gt (tgt := 91) hx hb dX10_step_84 rfl (fun c_10 => ?_) (fun c_10 => ?_)
          · have c_10 : ((dn : Nat) : Int) < ((i5 : Nat) : Int) := zc_lt (nI_toInt b9_11) (nI_toInt b9_2) c_10
            refine lv_iconst (v := 0) hx hb dX10_step_91 rfl ?_
            obtain ⟨hP, hD⟩ := pl_bk (X := [_, _, _, _]) hT_1 hP rfl hc9_1 hD0_1 rfl
            obtain ⟨hP9, hD9⟩ := zu_part (cx := [_, _, _, _]) hP hD [true, true, true, true] rfl rfl
            rw [hQ9]
            exact W.iret (v := 0) hx hb hr (fun t ht hW => ⟨⟨_, rfl, 0, rfl, by rw [ht]; exact hP9, hD9⟩, hS.F ht⟩) hS.2.2 dX10_step_92
          · have c_10 : ((i5 : Nat) : Int) ≤ ((dn : Nat) : Int) := zc_nlt (nI_toInt b9_11) (nI_toInt b9_2) c_10
            refine lv_iconst (v := 1) hx hb dX10_step_87 rfl ?_
            refine lv_goto (tgt := 92) hx hb dX10_step_88 rfl ?_
            obtain ⟨hP, hD⟩ := pl_bk (X := [_, _, _, _]) hT_1 hP rfl hc9_1 hD0_1 rfl
            obtain ⟨hP9, hD9⟩ := zu_part (cx := [_, _, _, _]) hP hD [true, true, true, true] rfl rfl
            rw [hQ9]
            exact W.iret (v := 1) hx hb hr (fun t ht hW => ⟨⟨_, rfl, 1, rfl, by rw [ht]; exact hP9, hD9⟩, hS.F ht⟩) hS.2.2 dX10_step_92
        exfalso; omega
    · have c_3 : ((T : Nat) : Int) < ((i5 : Nat) : Int) := zc_nle (nI_toInt b9_2) (nI_toInt b9_4) c_3
      exfalso; omega
set_option maxHeartbeats 4000000 in
set_option maxRecDepth 100000 in
theorem k_count_a (l : Launch) (dC : Nat → ClassId) (dI : Nat → Nat → Nat) (cI cZ cF : ClassId) (sz : Nat) (cO : ClassId) (e0 : Nat) (mi : Nat) (x : Nat) (sh : Nat) (lw : Nat) (ro : Nat) (bq : Nat) (bp : Nat) (dq : Nat) (dp : Nat) (lv : Nat) (sl : Nat) (sd : Int32) (ul : Int32) (su : Int32) (ea : Nat) (dn : Nat) (T : Nat) (mc9 : Int32) (fa : Nat) (ft : Nat) (FA : Nat → Option Nat) (L : List Nat) (f : Nat → va_E) (kd : Nat → Int32) (st : Nat → Int32) (tn : Nat → Int32) (mn : Nat → Int32) (cx : Nat → Int32) (cy : Nat → Int32) (rk : Nat → Int32) (wd : Nat → Int32) (tw : Nat → Int32) (pa : Nat → Int32) (pb : Nat → Int32) (gb : Nat → Int32) (it : Nat → Int32) (w : Int32) (h200 : ft ≤ 200) (hva : ∀ q, q < ft → vwA cI L f FA rk wd tw pa pb kd st gb it tn mn cx cy q) (hT5 : T ≤ 512) (hdT : dn ≤ T) : Met l yX10_count (.code yX10_count cX10_count 2 (some .int) :: ws0) ({ frames := 3, cells := 0, slots := 0, locals := 66 } : Room) (va_Pc [.ref x, .int w] (zPre (dC, dI) classes (zTyO cI cZ cF cO) ([(oc8 x (.ref sh) (.ref lw) (.ref ro) (.ref bq) (.ref bp) (.ref dq) (.ref dp) (.ref lv) (.ref sl) (nI dn) sd ul su), (oc10 sl mc9 (.ref ea) (nI T)), (oc7 sh (.ref fa) (nI ft)), (oq fa cF 200 FA)] ++ va_pl L f) sz (zXL e0 mi (va_A ([(oc8 x (.ref sh) (.ref lw) (.ref ro) (.ref bq) (.ref bp) (.ref dq) (.ref dp) (.ref lv) (.ref sl) (nI dn) sd ul su), (oc10 sl mc9 (.ref ea) (nI T)), (oc7 sh (.ref fa) (nI ft)), (oq fa cF 200 FA)] ++ va_pl L f) sz)))) (zQe (fun v9 t => ∃ (b9 : Int32), v9 = (some (.int b9)) ∧ va_P (dC, dI) classes ([(oc8 x (.ref sh) (.ref lw) (.ref ro) (.ref bq) (.ref bp) (.ref dq) (.ref dp) (.ref lv) (.ref sl) (nI dn) sd ul su), (oc10 sl mc9 (.ref ea) (nI T)), (oc7 sh (.ref fa) (nI ft)), (oq fa cF 200 FA)] ++ va_pl L f) t.heap ∧ va_D (va_A ([(oc8 x (.ref sh) (.ref lw) (.ref ro) (.ref bq) (.ref bp) (.ref dq) (.ref dp) (.ref lv) (.ref sl) (nI dn) sd ul su), (oc10 sl mc9 (.ref ea) (nI T)), (oc7 sh (.ref fa) (nI ft)), (oq fa cF 200 FA)] ++ va_pl L f) sz) ([(oc8 x (.ref sh) (.ref lw) (.ref ro) (.ref bq) (.ref bp) (.ref dq) (.ref dp) (.ref lv) (.ref sl) (nI dn) sd ul su), (oc10 sl mc9 (.ref ea) (nI T)), (oc7 sh (.ref fa) (nI ft)), (oq fa cF 200 FA)] ++ va_pl L f)) (va_A ([(oc8 x (.ref sh) (.ref lw) (.ref ro) (.ref bq) (.ref bp) (.ref dq) (.ref dp) (.ref lv) (.ref sl) (nI dn) sd ul su), (oc10 sl mc9 (.ref ea) (nI T)), (oc7 sh (.ref fa) (nI ft)), (oq fa cF 200 FA)] ++ va_pl L f) sz)) 0 0 (va_A ([(oc8 x (.ref sh) (.ref lw) (.ref ro) (.ref bq) (.ref bp) (.ref dq) (.ref dp) (.ref lv) (.ref sl) (nI dn) sd ul su), (oc10 sl mc9 (.ref ea) (nI T)), (oc7 sh (.ref fa) (nI ft)), (oq fa cF 200 FA)] ++ va_pl L f) sz) := by
  refine Met.ofW (cc := cX10_count) (maxL := 2) (ret := (some .int)) rfl rfl ?_
  intro p e s m args below meth c s₁ B hml hv
  obtain ⟨rfl, hsz, hP, hK, hD0, hXL⟩ := hv
  have hx := B.exec
  have hb := B.bytes
  have hr := B.returns
  have hts0 := atoms_spec (ws := .code yX10_count cX10_count 2 (some .int) :: ws0) B.pre
  have hts : ∀ w9 ∈ ws0, w9.before ([.ref x, .int w] : List Value).toArray s = true := fun w9 h => hts0 w9 (List.mem_cons_of_mem _ h)
  have hown : s.vm.findClass "ScaleShop" = some m.cls := findClass_of_methodNamed B.named
  have hlocks := B.notSynchronized
  subst hsz
  have hD := hD0.self (sz := s.heap.size)
  clear hD0
  generalize hAe : va_A ([(oc8 x (.ref sh) (.ref lw) (.ref ro) (.ref bq) (.ref bp) (.ref dq) (.ref dp) (.ref lv) (.ref sl) (nI dn) sd ul su), (oc10 sl mc9 (.ref ea) (nI T)), (oc7 sh (.ref fa) (nI ft)), (oq fa cF 200 FA)] ++ va_pl L f) s.heap.size = A at hD hXL ⊢
  have hA : ∀ q : Nat, s.heap.size ≤ q → A q := fun q h => by rw [← hAe]; exact Or.inr h
  clear hAe
  have hS : va_S A s.heap s.heap [] := va_S.rf
  have hXN := hXL.1
  have hK3 := hK.sub [0, 1, 2] rfl
  have hP : va_P (dC, dI) classes ([(oc8 x (.ref sh) (.ref lw) (.ref ro) (.ref bq) (.ref bp) (.ref dq) (.ref dp) (.ref lv) (.ref sl) (nI dn) sd ul su), (oc10 sl mc9 (.ref ea) (nI T)), (oc7 sh (.ref fa) (nI ft)), (oq fa cF 200 FA)] ++ va_pl L f) s.heap := hP
  obtain ⟨Q9, hQ9⟩ : ∃ Q9 : State → Prop, Q9 = MQ below (zQe (fun v9 t => ∃ (b9 : Int32), v9 = (some (.int b9)) ∧ va_P (dC, dI) classes ([(oc8 x (.ref sh) (.ref lw) (.ref ro) (.ref bq) (.ref bp) (.ref dq) (.ref dp) (.ref lv) (.ref sl) (nI dn) sd ul su), (oc10 sl mc9 (.ref ea) (nI T)), (oc7 sh (.ref fa) (nI ft)), (oq fa cF 200 FA)] ++ va_pl L f) t.heap ∧ va_D A ([(oc8 x (.ref sh) (.ref lw) (.ref ro) (.ref bq) (.ref bp) (.ref dq) (.ref dp) (.ref lv) (.ref sl) (nI dn) sd ul su), (oc10 sl mc9 (.ref ea) (nI T)), (oc7 sh (.ref fa) (nI ft)), (oq fa cF 200 FA)] ++ va_pl L f)) A) ([.ref x, .int w] : List Value).toArray s 0 0 A := ⟨_, rfl⟩
  rw [← hQ9]
  have hl := lv_entry ([.ref x, .int w]) (n := 2) (Nat.le_of_ble_eq_true rfl)
  rw [lg_entry_eq]
  generalize (lg_sl ([.ref x, .int w]) ++ List.replicate (2 - (lg_sl ([.ref x, .int w])).length) Slot.unset).toArray = ls at hl ⊢
  have hl : lv_has ls 2 [(0, .ref x), (1, .int w)] := hl
  refine lv_iload_n hx hb dX10_count_0 rfl (lv_at hl 1 rfl) ?_
  rcases zz_sw (lo := 0) (hi := 7) rfl with c_1 | c_1
  · refine lv_tableOut (tgt := 113) hx hb dX10_count_1 c_1.1 (by decide) ?_
    refine lv_iconst (v := (-1)) hx hb dX10_count_113 rfl ?_
    obtain ⟨hP9, hD9⟩ := zu_part (cx := [_, _, _, _]) hP hD [true, true, true, true] rfl rfl
    rw [hQ9]
    exact W.iret (v := (-1)) hx hb hr (fun t ht hW => ⟨⟨_, rfl, (-1), rfl, by rw [ht]; exact hP9, hD9⟩, hS.F ht⟩) hS.2.2 dX10_count_114
  · by_cases c_2 : w.toInt = 0
    · refine lv_tableIn (tgt := 48) (off := 47) hx hb dX10_count_1 c_1.2.1 c_1.2.2 (by rw [show (w).toInt = 0 from (rfl).trans c_2]; rfl) (by decide) ?_
      refine lv_aload_n hx hb dX10_count_48 rfl (lv_at hl 0 rfl) ?_
      refine va_get (D := (dC, dI)) (ci := 8) (v := .ref sh) (C := RX10) (T := TX10) (N := 13) hx hb hts inX10 hown hK hP 0 rfl rfl 0 (Nat.le_of_ble_eq_true rfl) (hts _ mw_309) (fun _ h9 => h9) rfl dX10_count_49 ?_
      refine va_get (D := (dC, dI)) (ci := 7) (v := .int (nI ft)) (C := RX8) (T := TX8) (N := 2) hx hb hts inX8 hown hK hP 2 rfl rfl 1 (Nat.le_of_ble_eq_true rfl) (hts _ mw_140) (fun _ h9 => h9) rfl dX10_count_52 ?_
      obtain ⟨hP9, hD9⟩ := zu_part (cx := [_, _, _, _]) hP hD [true, true, true, true] rfl rfl
      rw [hQ9]
      exact W.iret (v := nI ft) hx hb hr (fun t ht hW => ⟨⟨_, rfl, (nI ft), rfl, by rw [ht]; exact hP9, hD9⟩, hS.F ht⟩) hS.2.2 dX10_count_55
    by_cases c_3 : w.toInt = 1
    · refine lv_tableIn (tgt := 56) (off := 55) hx hb dX10_count_1 c_1.2.1 c_1.2.2 (by rw [show (w).toInt = 1 from (rfl).trans c_3]; rfl) (by decide) ?_
      refine lv_aload_n hx hb dX10_count_56 rfl (lv_at hl 0 rfl) ?_
      refine va_get (D := (dC, dI)) (ci := 8) (v := .ref sh) (C := RX10) (T := TX10) (N := 13) hx hb hts inX10 hown hK hP 0 rfl rfl 0 (Nat.le_of_ble_eq_true rfl) (hts _ mw_309) (fun _ h9 => h9) rfl dX10_count_57 ?_
      refine lv_iconst (v := 1) hx hb dX10_count_60 rfl ?_
      obtain ⟨hPc, hDc, hFc, hI1⟩ := zi_part (cx := [_, _]) hP hD hS hA [2, 3] rfl rfl
      refine zcall (st1 := [.int (nI (cntP (fun g => (st g).toInt = (1 : Int32).toInt) ft))]) (va_runV (As := [.int 1]) (rest := []) ⟨hx, hb, hml, hown, hts⟩ (k_Sheet_inState l dC dI cI cZ cF s.heap.size sh fa ft FA L f kd st tn mn cx cy rk wd tw pa pb gb it 1 (by first | with_reducible assumption | omega) (by first | with_reducible assumption | assumption)) (csV_147 hts rfl rfl ⟨Nat.le_of_ble_eq_true rfl, Nat.le_of_ble_eq_true rfl⟩) (zPV2 (q0 := 0) (ci := 7) hPc hDc hK3 hXN rfl rfl) rfl rfl hl.1 rfl (lv_room (Nat.le_of_ble_eq_true rfl)) dX10_count_61 ⟨Nat.le_of_ble_eq_true rfl, Nat.le_of_ble_eq_true rfl⟩) hS hFc hFc rfl (fun t H locs ht hB hk1 hS => ?_)
      obtain ⟨hP1, hD1⟩ := hB
      rw [ht] at hP1
      replace hP := z0 hP hD hk1 hP1 hI1
      clear hk1 hPc hDc hFc hP1 hD1 ht hI1
      obtain ⟨hP9, hD9⟩ := zu_part (cx := [_, _, _, _]) hP hD [true, true, true, true] rfl rfl
      rw [hQ9]
      exact W.iret (v := nI (cntP (fun g => (st g).toInt = (1 : Int32).toInt) ft)) hx hb hr (fun t ht hW => ⟨⟨_, rfl, (nI (cntP (fun g => (st g).toInt = (1 : Int32).toInt) ft)), rfl, by rw [ht]; exact hP9, hD9⟩, hS.F ht⟩) hS.2.2 dX10_count_64
    by_cases c_4 : w.toInt = 2
    · refine lv_tableIn (tgt := 65) (off := 64) hx hb dX10_count_1 c_1.2.1 c_1.2.2 (by rw [show (w).toInt = 2 from (rfl).trans c_4]; rfl) (by decide) ?_
      refine lv_aload_n hx hb dX10_count_65 rfl (lv_at hl 0 rfl) ?_
      refine va_get (D := (dC, dI)) (ci := 8) (v := .ref sh) (C := RX10) (T := TX10) (N := 13) hx hb hts inX10 hown hK hP 0 rfl rfl 0 (Nat.le_of_ble_eq_true rfl) (hts _ mw_309) (fun _ h9 => h9) rfl dX10_count_66 ?_
      refine lv_iconst (v := 2) hx hb dX10_count_69 rfl ?_
      obtain ⟨hPc, hDc, hFc, hI1⟩ := zi_part (cx := [_, _]) hP hD hS hA [2, 3] rfl rfl
      refine zcall (st1 := [.int (nI (cntP (fun g => (st g).toInt = (2 : Int32).toInt) ft))]) (va_runV (As := [.int 2]) (rest := []) ⟨hx, hb, hml, hown, hts⟩ (k_Sheet_inState l dC dI cI cZ cF s.heap.size sh fa ft FA L f kd st tn mn cx cy rk wd tw pa pb gb it 2 (by first | with_reducible assumption | omega) (by first | with_reducible assumption | assumption)) (csV_147 hts rfl rfl ⟨Nat.le_of_ble_eq_true rfl, Nat.le_of_ble_eq_true rfl⟩) (zPV2 (q0 := 0) (ci := 7) hPc hDc hK3 hXN rfl rfl) rfl rfl hl.1 rfl (lv_room (Nat.le_of_ble_eq_true rfl)) dX10_count_70 ⟨Nat.le_of_ble_eq_true rfl, Nat.le_of_ble_eq_true rfl⟩) hS hFc hFc rfl (fun t H locs ht hB hk1 hS => ?_)
      obtain ⟨hP1, hD1⟩ := hB
      rw [ht] at hP1
      replace hP := z0 hP hD hk1 hP1 hI1
      clear hk1 hPc hDc hFc hP1 hD1 ht hI1
      obtain ⟨hP9, hD9⟩ := zu_part (cx := [_, _, _, _]) hP hD [true, true, true, true] rfl rfl
      rw [hQ9]
      exact W.iret (v := nI (cntP (fun g => (st g).toInt = (2 : Int32).toInt) ft)) hx hb hr (fun t ht hW => ⟨⟨_, rfl, (nI (cntP (fun g => (st g).toInt = (2 : Int32).toInt) ft)), rfl, by rw [ht]; exact hP9, hD9⟩, hS.F ht⟩) hS.2.2 dX10_count_73
    by_cases c_5 : w.toInt = 3
    · refine lv_tableIn (tgt := 74) (off := 73) hx hb dX10_count_1 c_1.2.1 c_1.2.2 (by rw [show (w).toInt = 3 from (rfl).trans c_5]; rfl) (by decide) ?_
      refine lv_aload_n hx hb dX10_count_74 rfl (lv_at hl 0 rfl) ?_
      refine va_get (D := (dC, dI)) (ci := 8) (v := .ref sh) (C := RX10) (T := TX10) (N := 13) hx hb hts inX10 hown hK hP 0 rfl rfl 0 (Nat.le_of_ble_eq_true rfl) (hts _ mw_309) (fun _ h9 => h9) rfl dX10_count_75 ?_
      obtain ⟨hPc, hDc, hFc, hI1⟩ := zi_part (cx := [_, _]) hP hD hS hA [2, 3] rfl rfl
      refine zcall (st1 := [.int (nI (cntP (fun g => ¬ (tn g).toInt = 0) ft))]) (va_runV (As := []) (rest := []) ⟨hx, hb, hml, hown, hts⟩ (k_Sheet_torn l dC dI cI cZ cF s.heap.size sh fa ft FA L f kd st tn mn cx cy rk wd tw pa pb gb it (by first | with_reducible assumption | omega) (by first | with_reducible assumption | assumption)) (csV_148 hts rfl rfl ⟨Nat.le_of_ble_eq_true rfl, Nat.le_of_ble_eq_true rfl⟩) (zPV2 (q0 := 0) (ci := 7) hPc hDc hK3 hXN rfl rfl) rfl rfl hl.1 rfl (lv_room (Nat.le_of_ble_eq_true rfl)) dX10_count_78 ⟨Nat.le_of_ble_eq_true rfl, Nat.le_of_ble_eq_true rfl⟩) hS hFc hFc rfl (fun t H locs ht hB hk1 hS => ?_)
      obtain ⟨hP1, hD1⟩ := hB
      rw [ht] at hP1
      replace hP := z0 hP hD hk1 hP1 hI1
      clear hk1 hPc hDc hFc hP1 hD1 ht hI1
      obtain ⟨hP9, hD9⟩ := zu_part (cx := [_, _, _, _]) hP hD [true, true, true, true] rfl rfl
      rw [hQ9]
      exact W.iret (v := nI (cntP (fun g => ¬ (tn g).toInt = 0) ft)) hx hb hr (fun t ht hW => ⟨⟨_, rfl, (nI (cntP (fun g => ¬ (tn g).toInt = 0) ft)), rfl, by rw [ht]; exact hP9, hD9⟩, hS.F ht⟩) hS.2.2 dX10_count_81
    by_cases c_6 : w.toInt = 4
    · refine lv_tableIn (tgt := 82) (off := 81) hx hb dX10_count_1 c_1.2.1 c_1.2.2 (by rw [show (w).toInt = 4 from (rfl).trans c_6]; rfl) (by decide) ?_
      refine lv_aload_n hx hb dX10_count_82 rfl (lv_at hl 0 rfl) ?_
      refine va_get (D := (dC, dI)) (ci := 8) (v := .ref sh) (C := RX10) (T := TX10) (N := 13) hx hb hts inX10 hown hK hP 0 rfl rfl 0 (Nat.le_of_ble_eq_true rfl) (hts _ mw_309) (fun _ h9 => h9) rfl dX10_count_83 ?_
      obtain ⟨hPc, hDc, hFc, hI1⟩ := zi_part (cx := [_, _]) hP hD hS hA [2, 3] rfl rfl
      refine zcall (st1 := [.int (nI (smP (lvF ft st tn) (fun g => nN (mn g)) ft))]) (va_runV (As := []) (rest := []) ⟨hx, hb, hml, hown, hts⟩ (k_Sheet_cornersThere l dC dI cI cZ cF s.heap.size sh fa ft FA L f kd st tn mn cx cy rk wd tw pa pb gb it (by first | with_reducible assumption | omega) (by first | with_reducible assumption | assumption)) (csV_149 hts rfl rfl ⟨Nat.le_of_ble_eq_true rfl, Nat.le_of_ble_eq_true rfl⟩) (zPV2 (q0 := 0) (ci := 7) hPc hDc hK3 hXN rfl rfl) rfl rfl hl.1 rfl (lv_room (Nat.le_of_ble_eq_true rfl)) dX10_count_86 ⟨Nat.le_of_ble_eq_true rfl, Nat.le_of_ble_eq_true rfl⟩) hS hFc hFc rfl (fun t H locs ht hB hk1 hS => ?_)
      obtain ⟨hP1, hD1⟩ := hB
      rw [ht] at hP1
      replace hP := z0 hP hD hk1 hP1 hI1
      clear hk1 hPc hDc hFc hP1 hD1 ht hI1
      obtain ⟨hP9, hD9⟩ := zu_part (cx := [_, _, _, _]) hP hD [true, true, true, true] rfl rfl
      rw [hQ9]
      exact W.iret (v := nI (smP (lvF ft st tn) (fun g => nN (mn g)) ft)) hx hb hr (fun t ht hW => ⟨⟨_, rfl, (nI (smP (lvF ft st tn) (fun g => nN (mn g)) ft)), rfl, by rw [ht]; exact hP9, hD9⟩, hS.F ht⟩) hS.2.2 dX10_count_89
    by_cases c_7 : w.toInt = 5
    · refine lv_tableIn (tgt := 90) (off := 89) hx hb dX10_count_1 c_1.2.1 c_1.2.2 (by rw [show (w).toInt = 5 from (rfl).trans c_7]; rfl) (by decide) ?_
      refine lv_aload_n hx hb dX10_count_90 rfl (lv_at hl 0 rfl) ?_
      refine va_get (D := (dC, dI)) (ci := 8) (v := .int (nI dn)) (C := RX10) (T := TX10) (N := 13) hx hb hts inX10 hown hK hP 0 rfl rfl 9 (Nat.le_of_ble_eq_true rfl) (hts _ mw_318) (fun _ h9 => h9) rfl dX10_count_91 ?_
      obtain ⟨hP9, hD9⟩ := zu_part (cx := [_, _, _, _]) hP hD [true, true, true, true] rfl rfl
      rw [hQ9]
      exact W.iret (v := nI dn) hx hb hr (fun t ht hW => ⟨⟨_, rfl, (nI dn), rfl, by rw [ht]; exact hP9, hD9⟩, hS.F ht⟩) hS.2.2 dX10_count_94
    by_cases c_8 : w.toInt = 6
    · refine lv_tableIn (tgt := 95) (off := 94) hx hb dX10_count_1 c_1.2.1 c_1.2.2 (by rw [show (w).toInt = 6 from (rfl).trans c_8]; rfl) (by decide) ?_
      refine lv_aload_n hx hb dX10_count_95 rfl (lv_at hl 0 rfl) ?_
      refine va_get (D := (dC, dI)) (ci := 8) (v := .ref sl) (C := RX10) (T := TX10) (N := 13) hx hb hts inX10 hown hK hP 0 rfl rfl 8 (Nat.le_of_ble_eq_true rfl) (hts _ mw_317) (fun _ h9 => h9) rfl dX10_count_96 ?_
      obtain ⟨hPc, hDc, hFc, hI1⟩ := zi_sub (wc := [_]) hP hD hS hA [1] rfl rfl
      refine zcall (st1 := [.int (nI T)]) (va_runV (As := []) (rest := []) ⟨hx, hb, hml, hown, hts⟩ (k_AL_size l dC dI cI cZ cF s.heap.size sl ea T mc9 ) (csV_90 hts rfl rfl ⟨Nat.le_of_ble_eq_true rfl, Nat.le_of_ble_eq_true rfl⟩) (zPV2 (q0 := 0) (ci := 10) hPc hDc hK3 hXN rfl rfl) rfl rfl hl.1 rfl (lv_room (Nat.le_of_ble_eq_true rfl)) dX10_count_99 ⟨Nat.le_of_ble_eq_true rfl, Nat.le_of_ble_eq_true rfl⟩) hS hFc hFc rfl (fun t H locs ht hB hk1 hS => ?_)
      obtain ⟨hP1, hD1⟩ := hB
      rw [ht] at hP1
      replace hP := z0 hP hD hk1 hP1 hI1
      clear hk1 hPc hDc hFc hP1 hD1 ht hI1
      refine lv_aload_n hx hb dX10_count_102 rfl (lv_at hl 0 rfl) ?_
      refine va_get (D := (dC, dI)) (ci := 8) (v := .int (nI dn)) (C := RX10) (T := TX10) (N := 13) hx hb hts inX10 hown hK hP 0 rfl rfl 9 (Nat.le_of_ble_eq_true rfl) (hts _ mw_318) (fun _ h9 => h9) rfl dX10_count_103 ?_
      refine lv_isub hx hb dX10_count_106 ?_
      refine zz_i (v := nI (T - dn)) (pk_sub (a := T) (b := dn) (by omega)) ?_
      obtain ⟨hP9, hD9⟩ := zu_part (cx := [_, _, _, _]) hP hD [true, true, true, true] rfl rfl
      rw [hQ9]
      exact W.iret (v := nI (T - dn)) hx hb hr (fun t ht hW => ⟨⟨_, rfl, (nI (T - dn)), rfl, by rw [ht]; exact hP9, hD9⟩, hS.F ht⟩) hS.2.2 dX10_count_107
    by_cases c_9 : w.toInt = 7
    · refine lv_tableIn (tgt := 108) (off := 107) hx hb dX10_count_1 c_1.2.1 c_1.2.2 (by rw [show (w).toInt = 7 from (rfl).trans c_9]; rfl) (by decide) ?_
      refine lv_aload_n hx hb dX10_count_108 rfl (lv_at hl 0 rfl) ?_
      refine va_get (D := (dC, dI)) (ci := 8) (v := .int ul) (C := RX10) (T := TX10) (N := 13) hx hb hts inX10 hown hK hP 0 rfl rfl 11 (Nat.le_of_ble_eq_true rfl) (hts _ mw_320) (fun _ h9 => h9) rfl dX10_count_109 ?_
      obtain ⟨hP9, hD9⟩ := zu_part (cx := [_, _, _, _]) hP hD [true, true, true, true] rfl rfl
      rw [hQ9]
      exact W.iret (v := ul) hx hb hr (fun t ht hW => ⟨⟨_, rfl, ul, rfl, by rw [ht]; exact hP9, hD9⟩, hS.F ht⟩) hS.2.2 dX10_count_112
    exfalso; omega
set_option maxHeartbeats 4000000 in
set_option maxRecDepth 100000 in
theorem k_near_a1 (l : Launch) (dC : Nat → ClassId) (dI : Nat → Nat → Nat) (cI cZ cF : ClassId) (sz : Nat) (cO : ClassId) (e0 : Nat) (mi : Nat) (x : Nat) (sh : Nat) (lw : Nat) (ro : Nat) (bq : Nat) (bp : Nat) (dq : Nat) (dp : Nat) (lv : Nat) (sl : Nat) (sd : Int32) (ul : Int32) (su : Int32) (ea : Nat) (mc9 : Int32) (fa : Nat) (FA : Nat → Option Nat) (bs : Nat) (dn : Nat) (T : Nat) (ft : Nat) (FT : Nat → Nat) (V : Nat → Nat → Nat → Int32) (VX : Nat → Nat → Int32) (VY : Nat → Nat → Int32) (tn : Nat → Int32) (rk : Nat → Int32) (wd : Nat → Int32) (tw : Nat → Int32) (pa : Nat → Int32) (pb : Nat → Int32) (wh : Nat → Int32) (of9 : Nat → Int32) (we : Nat → Int32) (kd : Nat → Int32) (st : Nat → Int32) (gb : Nat → Int32) (it : Nat → Int32) (mn : Nat → Int32) (cx : Nat → Int32) (cy : Nat → Int32) (L : List Nat) (f : Nat → va_E) (f0 : Nat) (y1 : Int64) (y2 : Int64) (wv : Int32) (hB : shB cI cO L f e0 FA ea bs dn T ft FT V VX VY tn rk wd tw pa pb wh of9 we kd st gb it mn cx cy) (hf0 : f0 < ft) (htn : (tn f0).toInt = 0) (hst : (st f0).toInt = 1) (hwf : ∀ q, lvF ft st tn q → wfM mn cx cy q) (hkn : okN ft st tn kd mn) : Met l yX10_near (.code yX10_near cX10_near 6 (some .long) :: ws0) ({ frames := 4, cells := 0, slots := 0, locals := 88 } : Room) (va_Pc [.ref x, .int (nI f0), .int (nI f0), .int wv] (zPre (dC, dI) classes (zTyO cI cZ cF cO) ([(oc8 x (.ref sh) (.ref lw) (.ref ro) (.ref bq) (.ref bp) (.ref dq) (.ref dp) (.ref lv) (.ref sl) (nI dn) sd ul su), (oc10 sl mc9 (.ref ea) (nI T)), (oc2 dq y1 y2), (oc7 sh (.ref fa) (nI ft)), (oq fa cF 200 FA)] ++ va_pl L f) sz (zXL e0 mi (va_A ([(oc8 x (.ref sh) (.ref lw) (.ref ro) (.ref bq) (.ref bp) (.ref dq) (.ref dp) (.ref lv) (.ref sl) (nI dn) sd ul su), (oc10 sl mc9 (.ref ea) (nI T)), (oc2 dq y1 y2), (oc7 sh (.ref fa) (nI ft)), (oq fa cF 200 FA)] ++ va_pl L f) sz)))) (zQe (fun v9 t => ∃ (b9 : Int64), ∃ (y5 : Int64), ∃ (y6 : Int64), v9 = (some (.long b9)) ∧ va_P (dC, dI) classes ([(oc8 x (.ref sh) (.ref lw) (.ref ro) (.ref bq) (.ref bp) (.ref dq) (.ref dp) (.ref lv) (.ref sl) (nI dn) sd ul su), (oc10 sl mc9 (.ref ea) (nI T)), (oc2 dq y5 y6), (oc7 sh (.ref fa) (nI ft)), (oq fa cF 200 FA)] ++ va_pl L f) t.heap ∧ va_D (va_A ([(oc8 x (.ref sh) (.ref lw) (.ref ro) (.ref bq) (.ref bp) (.ref dq) (.ref dp) (.ref lv) (.ref sl) (nI dn) sd ul su), (oc10 sl mc9 (.ref ea) (nI T)), (oc2 dq y1 y2), (oc7 sh (.ref fa) (nI ft)), (oq fa cF 200 FA)] ++ va_pl L f) sz) ([(oc8 x (.ref sh) (.ref lw) (.ref ro) (.ref bq) (.ref bp) (.ref dq) (.ref dp) (.ref lv) (.ref sl) (nI dn) sd ul su), (oc10 sl mc9 (.ref ea) (nI T)), (oc2 dq y5 y6), (oc7 sh (.ref fa) (nI ft)), (oq fa cF 200 FA)] ++ va_pl L f)) (va_A ([(oc8 x (.ref sh) (.ref lw) (.ref ro) (.ref bq) (.ref bp) (.ref dq) (.ref dp) (.ref lv) (.ref sl) (nI dn) sd ul su), (oc10 sl mc9 (.ref ea) (nI T)), (oc2 dq y1 y2), (oc7 sh (.ref fa) (nI ft)), (oq fa cF 200 FA)] ++ va_pl L f) sz)) 0 0 (va_A ([(oc8 x (.ref sh) (.ref lw) (.ref ro) (.ref bq) (.ref bp) (.ref dq) (.ref dp) (.ref lv) (.ref sl) (nI dn) sd ul su), (oc10 sl mc9 (.ref ea) (nI T)), (oc2 dq y1 y2), (oc7 sh (.ref fa) (nI ft)), (oq fa cF 200 FA)] ++ va_pl L f) sz) := by
  refine Met.ofW (cc := cX10_near) (maxL := 6) (ret := (some .long)) rfl rfl ?_
  intro p e s m args below meth c s₁ B hml hv
  obtain ⟨rfl, hsz, hP, hK, hD0, hXL⟩ := hv
  have hx := B.exec
  have hb := B.bytes
  have hr := B.returns
  have hts0 := atoms_spec (ws := .code yX10_near cX10_near 6 (some .long) :: ws0) B.pre
  have hts : ∀ w9 ∈ ws0, w9.before ([.ref x, .int (nI f0), .int (nI f0), .int wv] : List Value).toArray s = true := fun w9 h => hts0 w9 (List.mem_cons_of_mem _ h)
  have hown : s.vm.findClass "ScaleShop" = some m.cls := findClass_of_methodNamed B.named
  have hlocks := B.notSynchronized
  subst hsz
  have hD := hD0.self (sz := s.heap.size)
  clear hD0
  generalize hAe : va_A ([(oc8 x (.ref sh) (.ref lw) (.ref ro) (.ref bq) (.ref bp) (.ref dq) (.ref dp) (.ref lv) (.ref sl) (nI dn) sd ul su), (oc10 sl mc9 (.ref ea) (nI T)), (oc2 dq y1 y2), (oc7 sh (.ref fa) (nI ft)), (oq fa cF 200 FA)] ++ va_pl L f) s.heap.size = A at hD hXL ⊢
  have hA : ∀ q : Nat, s.heap.size ≤ q → A q := fun q h => by rw [← hAe]; exact Or.inr h
  clear hAe
  have hS : va_S A s.heap s.heap [] := va_S.rf
  have hXN := hXL.1
  have hK3 := hK.sub [0, 1, 2] rfl
  have hP : va_P (dC, dI) classes ([(oc8 x (.ref sh) (.ref lw) (.ref ro) (.ref bq) (.ref bp) (.ref dq) (.ref dp) (.ref lv) (.ref sl) (nI dn) sd ul su), (oc10 sl mc9 (.ref ea) (nI T)), (oc2 dq y1 y2), (oc7 sh (.ref fa) (nI ft)), (oq fa cF 200 FA)] ++ va_pl L f) s.heap := hP
  obtain ⟨Q9, hQ9⟩ : ∃ Q9 : State → Prop, Q9 = MQ below (zQe (fun v9 t => ∃ (b9 : Int64), ∃ (y5 : Int64), ∃ (y6 : Int64), v9 = (some (.long b9)) ∧ va_P (dC, dI) classes ([(oc8 x (.ref sh) (.ref lw) (.ref ro) (.ref bq) (.ref bp) (.ref dq) (.ref dp) (.ref lv) (.ref sl) (nI dn) sd ul su), (oc10 sl mc9 (.ref ea) (nI T)), (oc2 dq y5 y6), (oc7 sh (.ref fa) (nI ft)), (oq fa cF 200 FA)] ++ va_pl L f) t.heap ∧ va_D A ([(oc8 x (.ref sh) (.ref lw) (.ref ro) (.ref bq) (.ref bp) (.ref dq) (.ref dp) (.ref lv) (.ref sl) (nI dn) sd ul su), (oc10 sl mc9 (.ref ea) (nI T)), (oc2 dq y5 y6), (oc7 sh (.ref fa) (nI ft)), (oq fa cF 200 FA)] ++ va_pl L f)) A) ([.ref x, .int (nI f0), .int (nI f0), .int wv] : List Value).toArray s 0 0 A := ⟨_, rfl⟩
  rw [← hQ9]
  have hl := lv_entry ([.ref x, .int (nI f0), .int (nI f0), .int wv]) (n := 6) (Nat.le_of_ble_eq_true rfl)
  rw [lg_entry_eq]
  generalize (lg_sl ([.ref x, .int (nI f0), .int (nI f0), .int wv]) ++ List.replicate (6 - (lg_sl ([.ref x, .int (nI f0), .int (nI f0), .int wv])).length) Slot.unset).toArray = ls at hl ⊢
  have hl : lv_has ls 6 [(0, .ref x), (1, .int (nI f0)), (2, .int (nI f0)), (3, .int wv)] := hl
  obtain ⟨own, fe, cl, la, sp, SA, hG9, hH9, hft9⟩ := hB
  obtain ⟨hG, hM, hdT, hT5⟩ := M_0 hG9 hH9 hft9
  have h200 : ft ≤ 200 := hG.2.2.2.2.2.1.2.2.2.2.2
  have hFA9 := hG.2.2.2.2.2.2
  refine ex13 (sh_fc hG.1 hG.2.1 (Nat.le_refl _) hf0 htn) (fun lo5 lx5 ly5 ln5 LX5 LY5 we5 r5 rx5 ry5 cap5 X5 Y5 hc5 => ?_)
  have hc5 := fc_0 hc5
  have hb5 := hc5.2.2.1
  have hb6 := hc5.2.1
  have hlv : lvF ft st tn f0 := ⟨hf0, hst, htn⟩
  have hwf0 := hwf f0 hlv
  have hw1 := hwf0.2.1
  have hkn0 := hkn f0 hlv
  have hX5 := hc5.2.2.2.2.1
  have hp5 := (pls_cg hX5).mpr hwf0.2.2
  have e_0 : (0 : Int32).toInt = 0 := (by decide)
  have e_1 : (1 : Int32).toInt = 1 := (by decide)
  have hc9_1 : inPl L f [(oc1 (fe f0) (rk f0) (wd f0) (tw f0) (pa f0) (pb f0) (.ref lo5) (.ref (la dn f0)) .null), (oc4 (la dn f0) (kd f0) (st f0) (.ref r5) (gb f0) (it f0) (nI we5)), (oc6 r5 (.ref rx5) (.ref ry5) (nI (nN (mn f0))) (rgK (kd f0).toInt)), (oa rx5 cI cap5 X5), (oa ry5 cI cap5 Y5), (oc6 lo5 (.ref lx5) (.ref ly5) (nI ln5) 0), (oa lx5 cI (cl f0) LX5), (oa ly5 cI (cl f0) LY5)] := ⟨ce_pl hc5.1.1, ce_pl hc5.1.2.1, ce_pl hc5.1.2.2.1.1, ce_pl hc5.1.2.2.1.2.1, ce_pl hc5.1.2.2.1.2.2.1, ce_pl hc5.1.2.2.2.1, ce_pl hc5.1.2.2.2.2.1, ce_pl hc5.1.2.2.2.2.2.1, trivial⟩
  have hD0_1 := hD
  obtain ⟨T_1, hT_1, hP, hD⟩ := pl_oT hP hD hc9_1 (pw8 hc5 (by omega))
  obtain ⟨hP, hD⟩ := zre (W2 := ([_, _, _, _, _, _, _, _, _, _, _, _, _] ++ va_pl T_1 f)) hP hD rfl
  refine lv_aload_n hx hb dX10_near_0 rfl (lv_at hl 0 rfl) ?_
  refine va_get (D := (dC, dI)) (ci := 8) (v := .ref sh) (C := RX10) (T := TX10) (N := 13) hx hb hts inX10 hown hK hP 0 rfl rfl 0 (Nat.le_of_ble_eq_true rfl) (hts _ mw_309) (fun _ h9 => h9) rfl dX10_near_1 ?_
  refine lv_iload_n hx hb dX10_near_4 rfl (lv_at hl 1 rfl) ?_
  obtain ⟨hPc, hDc, hFc, hI1⟩ := zi_sub (wc := [_, _, _, _]) hP hD hS hA [3, 4, 5, 6] (by decide +kernel) rfl
  refine zcall (st1 := [.ref r5]) (va_runV (As := [.int (nI f0)]) (rest := []) ⟨hx, hb, hml, hown, hts⟩ (k_Sheet_rowThere_yv l dC dI cI cZ cF s.heap.size sh fa ft FA f0 (fe f0) lo5 (rk f0) (wd f0) (tw f0) (pa f0) (pb f0) (la dn f0) (kd f0) (st f0) (gb f0) (it f0) (nI we5) r5 (.null) (by first | with_reducible assumption | omega) (by first | with_reducible assumption | omega) (hFA9 f0 (by first | with_reducible assumption | omega)) (hst)) (csV_144 hts rfl rfl ⟨Nat.le_of_ble_eq_true rfl, Nat.le_of_ble_eq_true rfl⟩) (zPV2 (q0 := 0) (ci := 7) hPc hDc hK3 hXN rfl rfl) rfl rfl hl.1 rfl (lv_room (Nat.le_of_ble_eq_true rfl)) dX10_near_5 ⟨Nat.le_of_ble_eq_true rfl, Nat.le_of_ble_eq_true rfl⟩) hS hFc hFc rfl (fun t H locs ht hB hk1 hS => ?_)
  obtain ⟨hP1, hD1⟩ := hB
  rw [ht] at hP1
  replace hP := z0 hP hD hk1 hP1 hI1
  clear hk1 hPc hDc hFc hP1 hD1 ht hI1
  refine lv_astore (lv' := [(4, .ref r5), (0, .ref x), (1, .int (nI f0)), (2, .int (nI f0)), (3, .int wv)]) hx hb dX10_near_8 hl (Nat.le_of_ble_eq_true rfl) rfl (fun ls hl => ?_)
  refine lv_aload_n hx hb dX10_near_10 rfl (lv_at hl 1 rfl) ?_
  refine va_get (D := (dC, dI)) (ci := 8) (v := .ref sh) (C := RX10) (T := TX10) (N := 13) hx hb hts inX10 hown hK hP 0 rfl rfl 0 (Nat.le_of_ble_eq_true rfl) (hts _ mw_309) (fun _ h9 => h9) rfl dX10_near_11 ?_
  refine lv_iload_n hx hb dX10_near_14 rfl (lv_at hl 3 rfl) ?_
  obtain ⟨hPc, hDc, hFc, hI1⟩ := zi_sub (wc := [_, _, _, _]) hP hD hS hA [3, 4, 5, 6] (by decide +kernel) rfl
  refine zcall (st1 := [.ref r5]) (va_runV (As := [.int (nI f0)]) (rest := []) ⟨hx, hb, hml, hown, hts⟩ (k_Sheet_rowThere_yv l dC dI cI cZ cF H.size sh fa ft FA f0 (fe f0) lo5 (rk f0) (wd f0) (tw f0) (pa f0) (pb f0) (la dn f0) (kd f0) (st f0) (gb f0) (it f0) (nI we5) r5 (.null) (by first | with_reducible assumption | omega) (by first | with_reducible assumption | omega) (hFA9 f0 (by first | with_reducible assumption | omega)) (hst)) (csV_144 hts rfl rfl ⟨Nat.le_of_ble_eq_true rfl, Nat.le_of_ble_eq_true rfl⟩) (zPV2 (q0 := 0) (ci := 7) hPc hDc hK3 hXN rfl rfl) rfl rfl hl.1 rfl (lv_room (Nat.le_of_ble_eq_true rfl)) dX10_near_15 ⟨Nat.le_of_ble_eq_true rfl, Nat.le_of_ble_eq_true rfl⟩) hS hFc hFc rfl (fun t H locs ht hB hk1 hS => ?_)
  obtain ⟨hP1, hD1⟩ := hB
  rw [ht] at hP1
  replace hP := z0 hP hD hk1 hP1 hI1
  clear hk1 hPc hDc hFc hP1 hD1 ht hI1
  refine lv_astore (lv' := [(5, .ref r5), (4, .ref r5), (0, .ref x), (1, .int (nI f0)), (2, .int (nI f0)), (3, .int wv)]) hx hb dX10_near_18 hl (Nat.le_of_ble_eq_true rfl) rfl (fun ls hl => ?_)
  refine lv_aload hx hb dX10_near_20 (lv_at hl 1 rfl) ?_
  refine lv_ifnull hx hb dX10_near_22 ?_
  refine lv_aload hx hb dX10_near_25 (lv_at hl 0 rfl) ?_
  refine lv_ifnull hx hb dX10_near_27 ?_
  refine lv_iload_n hx hb dX10_near_30 rfl (lv_at hl 5 rfl) ?_
  refine lv_iconst (v := 0) hx hb dX10_near_31 rfl ?_
  refine lv_iconst (v := 1) hx hb dX10_near_32 rfl ?_
  obtain ⟨hPc, hDc, hFc, hI1⟩ := zi_sub (wc := []) hP hD hS hA [] rfl rfl
  refine zcall (st1 := [.int (pI ((0 : Int32).toInt ≤ wv.toInt ∧ wv.toInt ≤ (1 : Int32).toInt))]) (va_runS (As := [.int wv, .int 0, .int 1]) (rest := []) ⟨hx, hb, hml, hown, hts⟩ (k_isWithin l dC dI cI cZ cF H.size wv 0 1 ) (csS_14 hts rfl rfl ⟨Nat.le_of_ble_eq_true rfl, Nat.le_of_ble_eq_true rfl⟩) (zPS2 hPc hDc hK3 hXN) rfl rfl hl.1 rfl (lv_room (Nat.le_of_ble_eq_true rfl)) dX10_near_33 ⟨Nat.le_of_ble_eq_true rfl, Nat.le_of_ble_eq_true rfl⟩) hS hFc hFc rfl (fun t H locs ht hB hk1 hS => ?_)
  obtain ⟨hP1, hD1⟩ := hB
  rw [ht] at hP1
  replace hP := z0 hP hD hk1 hP1 hI1
  clear hk1 hPc hDc hFc hP1 hD1 ht hI1
  refine lv_if_ne (tgt := 43) hx hb dX10_near_36 rfl (fun c_1 => ?_) (fun c_1 => ?_)
  · have c_1 : (0 : Int32).toInt ≤ wv.toInt ∧ wv.toInt ≤ (1 : Int32).toInt := zp_1 c_1
    refine lv_aload_n hx hb dX10_near_43 rfl (lv_at hl 2 rfl) ?_
    refine va_get (D := (dC, dI)) (ci := 8) (v := .ref dq) (C := RX10) (T := TX10) (N := 13) hx hb hts inX10 hown hK hP 0 rfl rfl 5 (Nat.le_of_ble_eq_true rfl) (hts _ mw_314) (fun _ h9 => h9) rfl dX10_near_44 ?_
    refine lv_aload hx hb dX10_near_47 (lv_at hl 1 rfl) ?_
    refine lv_aload hx hb dX10_near_49 (lv_at hl 0 rfl) ?_
    obtain ⟨hPc, hDc, hFc⟩ := zo_sub (wc := [_, _, _, _]) hP hD hS hA [2, 7, 8, 9] (by decide +kernel) rfl
    refine zcall (st1 := []) (va_runV (As := [.ref r5, .ref r5]) (rest := []) ⟨hx, hb, hml, hown, hts⟩ (k_Fr_between_self l dC dI cI cZ cF H.size dq y1 y2 r5 rx5 ry5 (nN (mn f0)) cap5 X5 Y5 (rgK (kd f0).toInt) (by first | with_reducible assumption | omega) (by first | with_reducible assumption | omega) (hp5) (prt_1 hkn0)) (csV_127 hts rfl rfl ⟨Nat.le_of_ble_eq_true rfl, Nat.le_of_ble_eq_true rfl⟩) (zPV2 (q0 := 0) (ci := 2) hPc hDc hK3 hXN rfl rfl) rfl rfl hl.1 rfl (lv_room (Nat.le_of_ble_eq_true rfl)) dX10_near_51 ⟨Nat.le_of_ble_eq_true rfl, Nat.le_of_ble_eq_true rfl⟩) hS hFc hFc rfl (fun t H locs ht hB hk1 hS => ?_)
    obtain ⟨hP1, hD1⟩ := hB
    rw [ht] at hP1
    obtain ⟨hP, hD⟩ := znQ (W2 := [_, _, (oc2 dq (jI 0) (jI 1)), _, _, _, _, _, _, _, _, _, _]) hP hD hk1 hFc hP1 hD1 [2, 7, 8, 9] zl_133 zl_133 [2, 7, 8, 9] (by decide +kernel) rfl rfl rfl rfl rfl
    clear hk1 hPc hDc hFc hP1 hD1 ht
    refine lv_aload_n hx hb dX10_near_54 rfl (lv_at hl 2 rfl) ?_
    refine va_get (D := (dC, dI)) (ci := 8) (v := .ref dq) (C := RX10) (T := TX10) (N := 13) hx hb hts inX10 hown hK hP 0 rfl rfl 5 (Nat.le_of_ble_eq_true rfl) (hts _ mw_314) (fun _ h9 => h9) rfl dX10_near_55 ?_
    refine lv_iload_n hx hb dX10_near_58 rfl (lv_at hl 5 rfl) ?_
    obtain ⟨hPc, hDc, hFc⟩ := zo_sub (wc := [_]) hP hD hS hA [2] rfl rfl
    refine zcalle (va_runV (As := [.int wv]) (rest := []) ⟨hx, hb, hml, hown, hts⟩ (k_Fr_reduced_a l dC dI cI cZ cF H.size dq (jI 0) (jI 1) wv ) (csV_153 hts rfl rfl ⟨Nat.le_of_ble_eq_true rfl, Nat.le_of_ble_eq_true rfl⟩) (zPV2 (q0 := 0) (ci := 2) hPc hDc hK3 hXN rfl rfl) rfl rfl hl.1 rfl (lv_room (Nat.le_of_ble_eq_true rfl)) dX10_near_59 ⟨Nat.le_of_ble_eq_true rfl, Nat.le_of_ble_eq_true rfl⟩) hS hFc hFc (fun v9 t H locs ht hB hk1 hS => ?_)
    obtain ⟨d9, rfl, hP1, hD1⟩ := hB
    refine W.eq (g2 := F0 m 62 ls [.long d9]) rfl ?_
    rw [ht] at hP1
    obtain ⟨hP, hD⟩ := znQ (W2 := [_, _, _, _, _, _, _, _, _, _, _, _, _]) hP hD hk1 hFc hP1 hD1 [2] zl_135 zl_135 [2] (by decide +kernel) rfl rfl rfl rfl rfl
    clear hk1 hPc hDc hFc hP1 hD1 ht
    obtain ⟨hP, hD⟩ := pl_bk (X := [_, _, _, _, _]) hT_1 hP rfl hc9_1 hD0_1 rfl
    obtain ⟨hP9, hD9⟩ := zu_part (cx := [_, _, _, _, _]) hP hD [true, true, true, true, true] rfl rfl
    rw [hQ9]
    exact W.lret (v := d9) hx hb hr (fun t ht hW => ⟨⟨_, rfl, d9, (jI 0), (jI 1), rfl, by rw [ht]; exact hP9, hD9⟩, hS.F ht⟩) hS.2.2 dX10_near_62
  · have c_1 : ¬ ((0 : Int32).toInt ≤ wv.toInt ∧ wv.toInt ≤ (1 : Int32).toInt) := zp_0 c_1
    refine lv_ldc2 hx hb hown (hts _ mw_1077) dX10_near_39 ?_
    obtain ⟨hP, hD⟩ := pl_bk (X := [_, _, _, _, _]) hT_1 hP rfl hc9_1 hD0_1 rfl
    obtain ⟨hP9, hD9⟩ := zu_part (cx := [_, _, _, _, _]) hP hD [true, true, true, true, true] rfl rfl
    rw [hQ9]
    exact W.lret (v := (-1)) hx hb hr (fun t ht hW => ⟨⟨_, rfl, (-1), y1, y2, rfl, by rw [ht]; exact hP9, hD9⟩, hS.F ht⟩) hS.2.2 dX10_near_42
set_option maxHeartbeats 4000000 in
set_option maxRecDepth 100000 in
theorem k_near_a2 (l : Launch) (dC : Nat → ClassId) (dI : Nat → Nat → Nat) (cI cZ cF : ClassId) (sz : Nat) (cO : ClassId) (e0 : Nat) (mi : Nat) (x : Nat) (sh : Nat) (lw : Nat) (ro : Nat) (bq : Nat) (bp : Nat) (dq : Nat) (dp : Nat) (lv : Nat) (sl : Nat) (sd : Int32) (ul : Int32) (su : Int32) (ea : Nat) (mc9 : Int32) (fa : Nat) (FA : Nat → Option Nat) (bs : Nat) (dn : Nat) (T : Nat) (ft : Nat) (FT : Nat → Nat) (V : Nat → Nat → Nat → Int32) (VX : Nat → Nat → Int32) (VY : Nat → Nat → Int32) (tn : Nat → Int32) (rk : Nat → Int32) (wd : Nat → Int32) (tw : Nat → Int32) (pa : Nat → Int32) (pb : Nat → Int32) (wh : Nat → Int32) (of9 : Nat → Int32) (we : Nat → Int32) (kd : Nat → Int32) (st : Nat → Int32) (gb : Nat → Int32) (it : Nat → Int32) (mn : Nat → Int32) (cx : Nat → Int32) (cy : Nat → Int32) (L : List Nat) (f : Nat → va_E) (f0 : Nat) (g0 : Nat) (y1 : Int64) (y2 : Int64) (wv : Int32) (hB : shB cI cO L f e0 FA ea bs dn T ft FT V VX VY tn rk wd tw pa pb wh of9 we kd st gb it mn cx cy) (hf0 : f0 < ft) (htn : (tn f0).toInt = 0) (hg0 : g0 < ft) (htg : (tn g0).toInt = 0) (hgf : g0 ≠ f0) (hst : (st f0).toInt = 1) (hsg : (st g0).toInt = 1) (hwf : ∀ q, lvF ft st tn q → wfM mn cx cy q) (hkn : okN ft st tn kd mn) : Met l yX10_near (.code yX10_near cX10_near 6 (some .long) :: ws0) ({ frames := 4, cells := 0, slots := 0, locals := 104 } : Room) (va_Pc [.ref x, .int (nI f0), .int (nI g0), .int wv] (zPre (dC, dI) classes (zTyO cI cZ cF cO) ([(oc8 x (.ref sh) (.ref lw) (.ref ro) (.ref bq) (.ref bp) (.ref dq) (.ref dp) (.ref lv) (.ref sl) (nI dn) sd ul su), (oc10 sl mc9 (.ref ea) (nI T)), (oc2 dq y1 y2), (oc7 sh (.ref fa) (nI ft)), (oq fa cF 200 FA)] ++ va_pl L f) sz (zXL e0 mi (va_A ([(oc8 x (.ref sh) (.ref lw) (.ref ro) (.ref bq) (.ref bp) (.ref dq) (.ref dp) (.ref lv) (.ref sl) (nI dn) sd ul su), (oc10 sl mc9 (.ref ea) (nI T)), (oc2 dq y1 y2), (oc7 sh (.ref fa) (nI ft)), (oq fa cF 200 FA)] ++ va_pl L f) sz)))) (zQe (fun v9 t => ∃ (b9 : Int64), ∃ (y5 : Int64), ∃ (y6 : Int64), v9 = (some (.long b9)) ∧ va_P (dC, dI) classes ([(oc8 x (.ref sh) (.ref lw) (.ref ro) (.ref bq) (.ref bp) (.ref dq) (.ref dp) (.ref lv) (.ref sl) (nI dn) sd ul su), (oc10 sl mc9 (.ref ea) (nI T)), (oc2 dq y5 y6), (oc7 sh (.ref fa) (nI ft)), (oq fa cF 200 FA)] ++ va_pl L f) t.heap ∧ va_D (va_A ([(oc8 x (.ref sh) (.ref lw) (.ref ro) (.ref bq) (.ref bp) (.ref dq) (.ref dp) (.ref lv) (.ref sl) (nI dn) sd ul su), (oc10 sl mc9 (.ref ea) (nI T)), (oc2 dq y1 y2), (oc7 sh (.ref fa) (nI ft)), (oq fa cF 200 FA)] ++ va_pl L f) sz) ([(oc8 x (.ref sh) (.ref lw) (.ref ro) (.ref bq) (.ref bp) (.ref dq) (.ref dp) (.ref lv) (.ref sl) (nI dn) sd ul su), (oc10 sl mc9 (.ref ea) (nI T)), (oc2 dq y5 y6), (oc7 sh (.ref fa) (nI ft)), (oq fa cF 200 FA)] ++ va_pl L f)) (va_A ([(oc8 x (.ref sh) (.ref lw) (.ref ro) (.ref bq) (.ref bp) (.ref dq) (.ref dp) (.ref lv) (.ref sl) (nI dn) sd ul su), (oc10 sl mc9 (.ref ea) (nI T)), (oc2 dq y1 y2), (oc7 sh (.ref fa) (nI ft)), (oq fa cF 200 FA)] ++ va_pl L f) sz)) 0 0 (va_A ([(oc8 x (.ref sh) (.ref lw) (.ref ro) (.ref bq) (.ref bp) (.ref dq) (.ref dp) (.ref lv) (.ref sl) (nI dn) sd ul su), (oc10 sl mc9 (.ref ea) (nI T)), (oc2 dq y1 y2), (oc7 sh (.ref fa) (nI ft)), (oq fa cF 200 FA)] ++ va_pl L f) sz) := by
  refine Met.ofW (cc := cX10_near) (maxL := 6) (ret := (some .long)) rfl rfl ?_
  intro p e s m args below meth c s₁ B hml hv
  obtain ⟨rfl, hsz, hP, hK, hD0, hXL⟩ := hv
  have hx := B.exec
  have hb := B.bytes
  have hr := B.returns
  have hts0 := atoms_spec (ws := .code yX10_near cX10_near 6 (some .long) :: ws0) B.pre
  have hts : ∀ w9 ∈ ws0, w9.before ([.ref x, .int (nI f0), .int (nI g0), .int wv] : List Value).toArray s = true := fun w9 h => hts0 w9 (List.mem_cons_of_mem _ h)
  have hown : s.vm.findClass "ScaleShop" = some m.cls := findClass_of_methodNamed B.named
  have hlocks := B.notSynchronized
  subst hsz
  have hD := hD0.self (sz := s.heap.size)
  clear hD0
  generalize hAe : va_A ([(oc8 x (.ref sh) (.ref lw) (.ref ro) (.ref bq) (.ref bp) (.ref dq) (.ref dp) (.ref lv) (.ref sl) (nI dn) sd ul su), (oc10 sl mc9 (.ref ea) (nI T)), (oc2 dq y1 y2), (oc7 sh (.ref fa) (nI ft)), (oq fa cF 200 FA)] ++ va_pl L f) s.heap.size = A at hD hXL ⊢
  have hA : ∀ q : Nat, s.heap.size ≤ q → A q := fun q h => by rw [← hAe]; exact Or.inr h
  clear hAe
  have hS : va_S A s.heap s.heap [] := va_S.rf
  have hXN := hXL.1
  have hK3 := hK.sub [0, 1, 2] rfl
  have hP : va_P (dC, dI) classes ([(oc8 x (.ref sh) (.ref lw) (.ref ro) (.ref bq) (.ref bp) (.ref dq) (.ref dp) (.ref lv) (.ref sl) (nI dn) sd ul su), (oc10 sl mc9 (.ref ea) (nI T)), (oc2 dq y1 y2), (oc7 sh (.ref fa) (nI ft)), (oq fa cF 200 FA)] ++ va_pl L f) s.heap := hP
  obtain ⟨Q9, hQ9⟩ : ∃ Q9 : State → Prop, Q9 = MQ below (zQe (fun v9 t => ∃ (b9 : Int64), ∃ (y5 : Int64), ∃ (y6 : Int64), v9 = (some (.long b9)) ∧ va_P (dC, dI) classes ([(oc8 x (.ref sh) (.ref lw) (.ref ro) (.ref bq) (.ref bp) (.ref dq) (.ref dp) (.ref lv) (.ref sl) (nI dn) sd ul su), (oc10 sl mc9 (.ref ea) (nI T)), (oc2 dq y5 y6), (oc7 sh (.ref fa) (nI ft)), (oq fa cF 200 FA)] ++ va_pl L f) t.heap ∧ va_D A ([(oc8 x (.ref sh) (.ref lw) (.ref ro) (.ref bq) (.ref bp) (.ref dq) (.ref dp) (.ref lv) (.ref sl) (nI dn) sd ul su), (oc10 sl mc9 (.ref ea) (nI T)), (oc2 dq y5 y6), (oc7 sh (.ref fa) (nI ft)), (oq fa cF 200 FA)] ++ va_pl L f)) A) ([.ref x, .int (nI f0), .int (nI g0), .int wv] : List Value).toArray s 0 0 A := ⟨_, rfl⟩
  rw [← hQ9]
  have hl := lv_entry ([.ref x, .int (nI f0), .int (nI g0), .int wv]) (n := 6) (Nat.le_of_ble_eq_true rfl)
  rw [lg_entry_eq]
  generalize (lg_sl ([.ref x, .int (nI f0), .int (nI g0), .int wv]) ++ List.replicate (6 - (lg_sl ([.ref x, .int (nI f0), .int (nI g0), .int wv])).length) Slot.unset).toArray = ls at hl ⊢
  have hl : lv_has ls 6 [(0, .ref x), (1, .int (nI f0)), (2, .int (nI g0)), (3, .int wv)] := hl
  obtain ⟨own, fe, cl, la, sp, SA, hG9, hH9, hft9⟩ := hB
  obtain ⟨hG, hM, hdT, hT5⟩ := M_0 hG9 hH9 hft9
  have h200 : ft ≤ 200 := hG.2.2.2.2.2.1.2.2.2.2.2
  have hFA9 := hG.2.2.2.2.2.2
  refine ex13 (sh_fc hG.1 hG.2.1 (Nat.le_refl _) hf0 htn) (fun lo5 lx5 ly5 ln5 LX5 LY5 we5 r5 rx5 ry5 cap5 X5 Y5 hc5 => ?_)
  have hc5 := fc_0 hc5
  have hb5 := hc5.2.2.1
  have hb6 := hc5.2.1
  refine ex13 (sh_fc hG.1 hG.2.1 (Nat.le_refl _) hg0 htg) (fun lo6 lx6 ly6 ln6 LX6 LY6 we6 r6 rx6 ry6 cap6 X6 Y6 hc6 => ?_)
  have hc6 := fc_0 hc6
  have hb7 := hc6.2.2.1
  have hb8 := hc6.2.1
  have hlv : lvF ft st tn f0 := ⟨hf0, hst, htn⟩
  have hlg : lvF ft st tn g0 := ⟨hg0, hsg, htg⟩
  have hwf0 := hwf f0 hlv
  have hwfg := hwf g0 hlg
  have hw1 := hwf0.2.1
  have hw2 := hwfg.2.1
  have hkn0 := hkn f0 hlv
  have hkng := hkn g0 hlg
  have hX5 := hc5.2.2.2.2.1
  have hX6 := hc6.2.2.2.2.1
  have hp5 := (pls_cg hX5).mpr hwf0.2.2
  have hp6 := (pls_cg hX6).mpr hwfg.2.2
  have hti := jtch_iff hw1.1 hw2.1 hX5 hX6 hkn0 hkng
  have e_0 : (0 : Int32).toInt = 0 := (by decide)
  have e_1 : (1 : Int32).toInt = 1 := (by decide)
  have hc9_1 : inPl L f [(oc1 (fe f0) (rk f0) (wd f0) (tw f0) (pa f0) (pb f0) (.ref lo5) (.ref (la dn f0)) .null), (oc4 (la dn f0) (kd f0) (st f0) (.ref r5) (gb f0) (it f0) (nI we5)), (oc6 r5 (.ref rx5) (.ref ry5) (nI (nN (mn f0))) (rgK (kd f0).toInt)), (oa rx5 cI cap5 X5), (oa ry5 cI cap5 Y5), (oc6 lo5 (.ref lx5) (.ref ly5) (nI ln5) 0), (oa lx5 cI (cl f0) LX5), (oa ly5 cI (cl f0) LY5), (oc1 (fe g0) (rk g0) (wd g0) (tw g0) (pa g0) (pb g0) (.ref lo6) (.ref (la dn g0)) .null), (oc4 (la dn g0) (kd g0) (st g0) (.ref r6) (gb g0) (it g0) (nI we6)), (oc6 r6 (.ref rx6) (.ref ry6) (nI (nN (mn g0))) (rgK (kd g0).toInt)), (oa rx6 cI cap6 X6), (oa ry6 cI cap6 Y6), (oc6 lo6 (.ref lx6) (.ref ly6) (nI ln6) 0), (oa lx6 cI (cl g0) LX6), (oa ly6 cI (cl g0) LY6)] := ⟨ce_pl hc5.1.1, ce_pl hc5.1.2.1, ce_pl hc5.1.2.2.1.1, ce_pl hc5.1.2.2.1.2.1, ce_pl hc5.1.2.2.1.2.2.1, ce_pl hc5.1.2.2.2.1, ce_pl hc5.1.2.2.2.2.1, ce_pl hc5.1.2.2.2.2.2.1, ce_pl hc6.1.1, ce_pl hc6.1.2.1, ce_pl hc6.1.2.2.1.1, ce_pl hc6.1.2.2.1.2.1, ce_pl hc6.1.2.2.1.2.2.1, ce_pl hc6.1.2.2.2.1, ce_pl hc6.1.2.2.2.2.1, ce_pl hc6.1.2.2.2.2.2.1, trivial⟩
  have hD0_1 := hD
  obtain ⟨T_1, hT_1, hP, hD⟩ := pl_oT hP hD hc9_1 (pw_ap (own := own) (p := g0) (A := [(oc1 (fe f0) (rk f0) (wd f0) (tw f0) (pa f0) (pb f0) (.ref lo5) (.ref (la dn f0)) .null), (oc4 (la dn f0) (kd f0) (st f0) (.ref r5) (gb f0) (it f0) (nI we5)), (oc6 r5 (.ref rx5) (.ref ry5) (nI (nN (mn f0))) (rgK (kd f0).toInt)), (oa rx5 cI cap5 X5), (oa ry5 cI cap5 Y5), (oc6 lo5 (.ref lx5) (.ref ly5) (nI ln5) 0), (oa lx5 cI (cl f0) LX5), (oa ly5 cI (cl f0) LY5)]) (B := [(oc1 (fe g0) (rk g0) (wd g0) (tw g0) (pa g0) (pb g0) (.ref lo6) (.ref (la dn g0)) .null), (oc4 (la dn g0) (kd g0) (st g0) (.ref r6) (gb g0) (it g0) (nI we6)), (oc6 r6 (.ref rx6) (.ref ry6) (nI (nN (mn g0))) (rgK (kd g0).toInt)), (oa rx6 cI cap6 X6), (oa ry6 cI cap6 Y6), (oc6 lo6 (.ref lx6) (.ref ly6) (nI ln6) 0), (oa lx6 cI (cl g0) LX6), (oa ly6 cI (cl g0) LY6)]) (pw8 hc5 (by omega)) (pw8 hc6 (by omega)) (fc_ne hc5 (by omega) (by omega) hgf) (fun r hr => fc_ne hc6 (by omega) (by omega) hr))
  obtain ⟨hP, hD⟩ := zre (W2 := ([_, _, _, _, _, _, _, _, _, _, _, _, _, _, _, _, _, _, _, _, _] ++ va_pl T_1 f)) hP hD rfl
  refine lv_aload_n hx hb dX10_near_0 rfl (lv_at hl 0 rfl) ?_
  refine va_get (D := (dC, dI)) (ci := 8) (v := .ref sh) (C := RX10) (T := TX10) (N := 13) hx hb hts inX10 hown hK hP 0 rfl rfl 0 (Nat.le_of_ble_eq_true rfl) (hts _ mw_309) (fun _ h9 => h9) rfl dX10_near_1 ?_
  refine lv_iload_n hx hb dX10_near_4 rfl (lv_at hl 1 rfl) ?_
  obtain ⟨hPc, hDc, hFc, hI1⟩ := zi_sub (wc := [_, _, _, _]) hP hD hS hA [3, 4, 5, 6] (by decide +kernel) rfl
  refine zcall (st1 := [.ref r5]) (va_runV (As := [.int (nI f0)]) (rest := []) ⟨hx, hb, hml, hown, hts⟩ (k_Sheet_rowThere_yv l dC dI cI cZ cF s.heap.size sh fa ft FA f0 (fe f0) lo5 (rk f0) (wd f0) (tw f0) (pa f0) (pb f0) (la dn f0) (kd f0) (st f0) (gb f0) (it f0) (nI we5) r5 (.null) (by first | with_reducible assumption | omega) (by first | with_reducible assumption | omega) (hFA9 f0 (by first | with_reducible assumption | omega)) (hst)) (csV_144 hts rfl rfl ⟨Nat.le_of_ble_eq_true rfl, Nat.le_of_ble_eq_true rfl⟩) (zPV2 (q0 := 0) (ci := 7) hPc hDc hK3 hXN rfl rfl) rfl rfl hl.1 rfl (lv_room (Nat.le_of_ble_eq_true rfl)) dX10_near_5 ⟨Nat.le_of_ble_eq_true rfl, Nat.le_of_ble_eq_true rfl⟩) hS hFc hFc rfl (fun t H locs ht hB hk1 hS => ?_)
  obtain ⟨hP1, hD1⟩ := hB
  rw [ht] at hP1
  replace hP := z0 hP hD hk1 hP1 hI1
  clear hk1 hPc hDc hFc hP1 hD1 ht hI1
  refine lv_astore (lv' := [(4, .ref r5), (0, .ref x), (1, .int (nI f0)), (2, .int (nI g0)), (3, .int wv)]) hx hb dX10_near_8 hl (Nat.le_of_ble_eq_true rfl) rfl (fun ls hl => ?_)
  refine lv_aload_n hx hb dX10_near_10 rfl (lv_at hl 1 rfl) ?_
  refine va_get (D := (dC, dI)) (ci := 8) (v := .ref sh) (C := RX10) (T := TX10) (N := 13) hx hb hts inX10 hown hK hP 0 rfl rfl 0 (Nat.le_of_ble_eq_true rfl) (hts _ mw_309) (fun _ h9 => h9) rfl dX10_near_11 ?_
  refine lv_iload_n hx hb dX10_near_14 rfl (lv_at hl 3 rfl) ?_
  obtain ⟨hPc, hDc, hFc, hI1⟩ := zi_sub (wc := [_, _, _, _]) hP hD hS hA [3, 4, 13, 14] (by decide +kernel) rfl
  refine zcall (st1 := [.ref r6]) (va_runV (As := [.int (nI g0)]) (rest := []) ⟨hx, hb, hml, hown, hts⟩ (k_Sheet_rowThere_yv l dC dI cI cZ cF H.size sh fa ft FA g0 (fe g0) lo6 (rk g0) (wd g0) (tw g0) (pa g0) (pb g0) (la dn g0) (kd g0) (st g0) (gb g0) (it g0) (nI we6) r6 (.null) (by first | with_reducible assumption | omega) (by first | with_reducible assumption | omega) (hFA9 g0 (by first | with_reducible assumption | omega)) (hsg)) (csV_144 hts rfl rfl ⟨Nat.le_of_ble_eq_true rfl, Nat.le_of_ble_eq_true rfl⟩) (zPV2 (q0 := 0) (ci := 7) hPc hDc hK3 hXN rfl rfl) rfl rfl hl.1 rfl (lv_room (Nat.le_of_ble_eq_true rfl)) dX10_near_15 ⟨Nat.le_of_ble_eq_true rfl, Nat.le_of_ble_eq_true rfl⟩) hS hFc hFc rfl (fun t H locs ht hB hk1 hS => ?_)
  obtain ⟨hP1, hD1⟩ := hB
  rw [ht] at hP1
  replace hP := z0 hP hD hk1 hP1 hI1
  clear hk1 hPc hDc hFc hP1 hD1 ht hI1
  refine lv_astore (lv' := [(5, .ref r6), (4, .ref r5), (0, .ref x), (1, .int (nI f0)), (2, .int (nI g0)), (3, .int wv)]) hx hb dX10_near_18 hl (Nat.le_of_ble_eq_true rfl) rfl (fun ls hl => ?_)
  refine lv_aload hx hb dX10_near_20 (lv_at hl 1 rfl) ?_
  refine lv_ifnull hx hb dX10_near_22 ?_
  refine lv_aload hx hb dX10_near_25 (lv_at hl 0 rfl) ?_
  refine lv_ifnull hx hb dX10_near_27 ?_
  refine lv_iload_n hx hb dX10_near_30 rfl (lv_at hl 5 rfl) ?_
  refine lv_iconst (v := 0) hx hb dX10_near_31 rfl ?_
  refine lv_iconst (v := 1) hx hb dX10_near_32 rfl ?_
  obtain ⟨hPc, hDc, hFc, hI1⟩ := zi_sub (wc := []) hP hD hS hA [] rfl rfl
  refine zcall (st1 := [.int (pI ((0 : Int32).toInt ≤ wv.toInt ∧ wv.toInt ≤ (1 : Int32).toInt))]) (va_runS (As := [.int wv, .int 0, .int 1]) (rest := []) ⟨hx, hb, hml, hown, hts⟩ (k_isWithin l dC dI cI cZ cF H.size wv 0 1 ) (csS_14 hts rfl rfl ⟨Nat.le_of_ble_eq_true rfl, Nat.le_of_ble_eq_true rfl⟩) (zPS2 hPc hDc hK3 hXN) rfl rfl hl.1 rfl (lv_room (Nat.le_of_ble_eq_true rfl)) dX10_near_33 ⟨Nat.le_of_ble_eq_true rfl, Nat.le_of_ble_eq_true rfl⟩) hS hFc hFc rfl (fun t H locs ht hB hk1 hS => ?_)
  obtain ⟨hP1, hD1⟩ := hB
  rw [ht] at hP1
  replace hP := z0 hP hD hk1 hP1 hI1
  clear hk1 hPc hDc hFc hP1 hD1 ht hI1
  refine lv_if_ne (tgt := 43) hx hb dX10_near_36 rfl (fun c_1 => ?_) (fun c_1 => ?_)
  · have c_1 : (0 : Int32).toInt ≤ wv.toInt ∧ wv.toInt ≤ (1 : Int32).toInt := zp_1 c_1
    by_cases htc : ∃ i, i < prt (nN (mn f0)) (rgK (kd f0).toInt) ∧ ∃ j, j < prt (nN (mn g0)) (rgK (kd g0).toInt) ∧ eMt (nN (mn f0)) X5 Y5 i (nN (mn g0)) X6 Y6 j
    · skip
      refine lv_aload_n hx hb dX10_near_43 rfl (lv_at hl 2 rfl) ?_
      refine va_get (D := (dC, dI)) (ci := 8) (v := .ref dq) (C := RX10) (T := TX10) (N := 13) hx hb hts inX10 hown hK hP 0 rfl rfl 5 (Nat.le_of_ble_eq_true rfl) (hts _ mw_314) (fun _ h9 => h9) rfl dX10_near_44 ?_
      refine lv_aload hx hb dX10_near_47 (lv_at hl 1 rfl) ?_
      refine lv_aload hx hb dX10_near_49 (lv_at hl 0 rfl) ?_
      obtain ⟨hPc, hDc, hFc⟩ := zo_sub (wc := [_, _, _, _, _, _, _]) hP hD hS hA [2, 7, 8, 9, 15, 16, 17] (by decide +kernel) rfl
      refine zcall (st1 := []) (va_runV (As := [.ref r5, .ref r6]) (rest := []) ⟨hx, hb, hml, hown, hts⟩ (k_Fr_between_m l dC dI cI cZ cF H.size dq y1 y2 r5 rx5 ry5 (nN (mn f0)) cap5 X5 Y5 (rgK (kd f0).toInt) r6 rx6 ry6 (nN (mn g0)) cap6 X6 Y6 (rgK (kd g0).toInt) (by first | with_reducible assumption | omega) (by first | with_reducible assumption | omega) (hp5) (by first | with_reducible assumption | omega) (by first | with_reducible assumption | omega) (hp6) (htc)) (csV_127 hts rfl rfl ⟨Nat.le_of_ble_eq_true rfl, Nat.le_of_ble_eq_true rfl⟩) (zPV2 (q0 := 0) (ci := 2) hPc hDc hK3 hXN rfl rfl) rfl rfl hl.1 rfl (lv_room (Nat.le_of_ble_eq_true rfl)) dX10_near_51 ⟨Nat.le_of_ble_eq_true rfl, Nat.le_of_ble_eq_true rfl⟩) hS hFc hFc rfl (fun t H locs ht hB hk1 hS => ?_)
      obtain ⟨hP1, hD1⟩ := hB
      rw [ht] at hP1
      obtain ⟨hP, hD⟩ := znQ (W2 := [_, _, (oc2 dq (jI 0) (jI 1)), _, _, _, _, _, _, _, _, _, _, _, _, _, _, _, _, _, _]) hP hD hk1 hFc hP1 hD1 [2, 7, 8, 9, 15, 16, 17] zl_134 zl_134 [2, 7, 8, 9, 15, 16, 17] (by decide +kernel) rfl rfl rfl rfl rfl
      clear hk1 hPc hDc hFc hP1 hD1 ht
      refine lv_aload_n hx hb dX10_near_54 rfl (lv_at hl 2 rfl) ?_
      refine va_get (D := (dC, dI)) (ci := 8) (v := .ref dq) (C := RX10) (T := TX10) (N := 13) hx hb hts inX10 hown hK hP 0 rfl rfl 5 (Nat.le_of_ble_eq_true rfl) (hts _ mw_314) (fun _ h9 => h9) rfl dX10_near_55 ?_
      refine lv_iload_n hx hb dX10_near_58 rfl (lv_at hl 5 rfl) ?_
      obtain ⟨hPc, hDc, hFc⟩ := zo_sub (wc := [_]) hP hD hS hA [2] rfl rfl
      refine zcalle (va_runV (As := [.int wv]) (rest := []) ⟨hx, hb, hml, hown, hts⟩ (k_Fr_reduced_a l dC dI cI cZ cF H.size dq (jI 0) (jI 1) wv ) (csV_153 hts rfl rfl ⟨Nat.le_of_ble_eq_true rfl, Nat.le_of_ble_eq_true rfl⟩) (zPV2 (q0 := 0) (ci := 2) hPc hDc hK3 hXN rfl rfl) rfl rfl hl.1 rfl (lv_room (Nat.le_of_ble_eq_true rfl)) dX10_near_59 ⟨Nat.le_of_ble_eq_true rfl, Nat.le_of_ble_eq_true rfl⟩) hS hFc hFc (fun v9 t H locs ht hB hk1 hS => ?_)
      obtain ⟨d9, rfl, hP1, hD1⟩ := hB
      refine W.eq (g2 := F0 m 62 ls [.long d9]) rfl ?_
      rw [ht] at hP1
      obtain ⟨hP, hD⟩ := znQ (W2 := [_, _, _, _, _, _, _, _, _, _, _, _, _, _, _, _, _, _, _, _, _]) hP hD hk1 hFc hP1 hD1 [2] zl_136 zl_136 [2] (by decide +kernel) rfl rfl rfl rfl rfl
      clear hk1 hPc hDc hFc hP1 hD1 ht
      obtain ⟨hP, hD⟩ := pl_bk (X := [_, _, _, _, _]) hT_1 hP rfl hc9_1 hD0_1 rfl
      obtain ⟨hP9, hD9⟩ := zu_part (cx := [_, _, _, _, _]) hP hD [true, true, true, true, true] rfl rfl
      rw [hQ9]
      exact W.lret (v := d9) hx hb hr (fun t ht hW => ⟨⟨_, rfl, d9, (jI 0), (jI 1), rfl, by rw [ht]; exact hP9, hD9⟩, hS.F ht⟩) hS.2.2 dX10_near_62
    · skip
      refine lv_aload_n hx hb dX10_near_43 rfl (lv_at hl 2 rfl) ?_
      refine va_get (D := (dC, dI)) (ci := 8) (v := .ref dq) (C := RX10) (T := TX10) (N := 13) hx hb hts inX10 hown hK hP 0 rfl rfl 5 (Nat.le_of_ble_eq_true rfl) (hts _ mw_314) (fun _ h9 => h9) rfl dX10_near_44 ?_
      refine lv_aload hx hb dX10_near_47 (lv_at hl 1 rfl) ?_
      refine lv_aload hx hb dX10_near_49 (lv_at hl 0 rfl) ?_
      obtain ⟨hPc, hDc, hFc⟩ := zo_sub (wc := [_, _, _, _, _, _, _]) hP hD hS hA [2, 7, 8, 9, 15, 16, 17] (by decide +kernel) rfl
      refine zcall (st1 := []) (va_runV (As := [.ref r5, .ref r6]) (rest := []) ⟨hx, hb, hml, hown, hts⟩ (k_Fr_between_n l dC dI cI cZ cF H.size dq y1 y2 r5 rx5 ry5 (nN (mn f0)) cap5 X5 Y5 (rgK (kd f0).toInt) r6 rx6 ry6 (nN (mn g0)) cap6 X6 Y6 (rgK (kd g0).toInt) (by first | with_reducible assumption | omega) (by first | with_reducible assumption | omega) (hp5) (by first | with_reducible assumption | omega) (by first | with_reducible assumption | omega) (hp6) (htc) (by first | with_reducible assumption | omega) (by first | with_reducible assumption | omega) (prt_1 hkn0) (prt_1 hkng)) (csV_127 hts rfl rfl ⟨Nat.le_of_ble_eq_true rfl, Nat.le_of_ble_eq_true rfl⟩) (zPV2 (q0 := 0) (ci := 2) hPc hDc hK3 hXN rfl rfl) rfl rfl hl.1 rfl (lv_room (Nat.le_of_ble_eq_true rfl)) dX10_near_51 ⟨Nat.le_of_ble_eq_true rfl, Nat.le_of_ble_eq_true rfl⟩) hS hFc hFc rfl (fun t H locs ht hB hk1 hS => ?_)
      obtain ⟨zu7, zd7, him7, hzb7, hP1, hD1⟩ := hB
      rw [ht] at hP1
      obtain ⟨hP, hD⟩ := znQ (W2 := [_, _, (oc2 dq (jI zu7) (jI zd7)), _, _, _, _, _, _, _, _, _, _, _, _, _, _, _, _, _, _]) hP hD hk1 hFc hP1 hD1 [2, 7, 8, 9, 15, 16, 17] zl_134 zl_134 [2, 7, 8, 9, 15, 16, 17] (by decide +kernel) rfl rfl rfl rfl rfl
      clear hk1 hPc hDc hFc hP1 hD1 ht
      refine lv_aload_n hx hb dX10_near_54 rfl (lv_at hl 2 rfl) ?_
      refine va_get (D := (dC, dI)) (ci := 8) (v := .ref dq) (C := RX10) (T := TX10) (N := 13) hx hb hts inX10 hown hK hP 0 rfl rfl 5 (Nat.le_of_ble_eq_true rfl) (hts _ mw_314) (fun _ h9 => h9) rfl dX10_near_55 ?_
      refine lv_iload_n hx hb dX10_near_58 rfl (lv_at hl 5 rfl) ?_
      obtain ⟨hPc, hDc, hFc⟩ := zo_sub (wc := [_]) hP hD hS hA [2] rfl rfl
      refine zcalle (va_runV (As := [.int wv]) (rest := []) ⟨hx, hb, hml, hown, hts⟩ (k_Fr_reduced_a l dC dI cI cZ cF H.size dq (jI zu7) (jI zd7) wv ) (csV_153 hts rfl rfl ⟨Nat.le_of_ble_eq_true rfl, Nat.le_of_ble_eq_true rfl⟩) (zPV2 (q0 := 0) (ci := 2) hPc hDc hK3 hXN rfl rfl) rfl rfl hl.1 rfl (lv_room (Nat.le_of_ble_eq_true rfl)) dX10_near_59 ⟨Nat.le_of_ble_eq_true rfl, Nat.le_of_ble_eq_true rfl⟩) hS hFc hFc (fun v9 t H locs ht hB hk1 hS => ?_)
      obtain ⟨d9, rfl, hP1, hD1⟩ := hB
      refine W.eq (g2 := F0 m 62 ls [.long d9]) rfl ?_
      rw [ht] at hP1
      obtain ⟨hP, hD⟩ := znQ (W2 := [_, _, _, _, _, _, _, _, _, _, _, _, _, _, _, _, _, _, _, _, _]) hP hD hk1 hFc hP1 hD1 [2] zl_136 zl_136 [2] (by decide +kernel) rfl rfl rfl rfl rfl
      clear hk1 hPc hDc hFc hP1 hD1 ht
      obtain ⟨hP, hD⟩ := pl_bk (X := [_, _, _, _, _]) hT_1 hP rfl hc9_1 hD0_1 rfl
      obtain ⟨hP9, hD9⟩ := zu_part (cx := [_, _, _, _, _]) hP hD [true, true, true, true, true] rfl rfl
      rw [hQ9]
      exact W.lret (v := d9) hx hb hr (fun t ht hW => ⟨⟨_, rfl, d9, (jI zu7), (jI zd7), rfl, by rw [ht]; exact hP9, hD9⟩, hS.F ht⟩) hS.2.2 dX10_near_62
  · have c_1 : ¬ ((0 : Int32).toInt ≤ wv.toInt ∧ wv.toInt ≤ (1 : Int32).toInt) := zp_0 c_1
    refine lv_ldc2 hx hb hown (hts _ mw_1077) dX10_near_39 ?_
    obtain ⟨hP, hD⟩ := pl_bk (X := [_, _, _, _, _]) hT_1 hP rfl hc9_1 hD0_1 rfl
    obtain ⟨hP9, hD9⟩ := zu_part (cx := [_, _, _, _, _]) hP hD [true, true, true, true, true] rfl rfl
    rw [hQ9]
    exact W.lret (v := (-1)) hx hb hr (fun t ht hW => ⟨⟨_, rfl, (-1), y1, y2, rfl, by rw [ht]; exact hP9, hD9⟩, hS.F ht⟩) hS.2.2 dX10_near_42
end
section
set_option maxHeartbeats 4000000 in
set_option maxRecDepth 100000 in
theorem k_run_4 (l : Launch) (dC : Nat → ClassId) (dI : Nat → Nat → Nat) (cI cZ cF : ClassId) (sz : Nat) (x : Nat) (sh : Nat) (lw : Nat) (ro : Nat) (bq : Nat) (bp : Nat) (dq : Nat) (dp : Nat) (lv : Nat) (sl : Nat) (sd : Int32) (ul : Int32) (su : Int32) (ds : Int32) (lim : Int32) (hbad : lim.toInt < 0) : zM l yX10_run cX10_run 7 (some .int) ({ frames := 1, cells := 0, slots := 0, locals := 21 } : Room) [.ref x, .int lim] (dC, dI) (zTy cI cZ cF) [(oc8 x (.ref sh) (.ref lw) (.ref ro) (.ref bq) (.ref bp) (.ref dq) (.ref dp) (.ref lv) (.ref sl) ds sd ul su)] sz (some (.int (-1))) (fun A t => zPD (dC, dI) classes A [(oc8 x (.ref sh) (.ref lw) (.ref ro) (.ref bq) (.ref bp) (.ref dq) (.ref dp) (.ref lv) (.ref sl) ds sd ul 4)] t.heap) 0 0 := by
  refine zIn (own := "ScaleShop") (loc := [(0, .ref x), (1, .int lim)]) rfl rfl rfl rfl (fun p e s m below meth c hx hb hr hts hown hlocks hml hnm9 A hA hS hP hD hK hXN Q9 hQ9 ls hl => ?_)
  have e_0 : (0 : Int32).toInt = 0 := (by decide)
  refine lv_iload_n hx hb dX10_run_0 rfl (lv_at hl 1 rfl) ?_
  refine lv_if_ge (tgt := 10) hx hb dX10_run_1 rfl (fun c_1 => ?_) (fun c_1 => ?_)
  · have c_1 : 0 ≤ lim.toInt := zc_le rfl rfl c_1
    exact absurd hbad (by omega)
  · have c_1 : lim.toInt < 0 := zc_nle rfl rfl c_1
    refine lv_aload_n hx hb dX10_run_4 rfl (lv_at hl 0 rfl) ?_
    refine lv_iconst (v := 4) hx hb dX10_run_5 rfl ?_
    obtain ⟨hPc, hDc, hFc⟩ := zo_sub (wc := [_]) hP hD hS hA [0] rfl rfl
    refine zcall (st1 := [.int (-1)]) (va_runV (As := [.int 4]) (rest := []) ⟨hx, hb, hml, hown, hts⟩ (k_refuse_4 l dC dI cI cZ cF s.heap.size x sh lw ro bq bp dq dp lv sl sd ul su ds ) (csV_95 hts rfl rfl ⟨Nat.le_of_ble_eq_true rfl, Nat.le_of_ble_eq_true rfl⟩) (zPV2 (q0 := 0) (ci := 8) hPc hDc hK hXN rfl rfl) rfl rfl hl.1 rfl (lv_room (Nat.le_of_ble_eq_true rfl)) dX10_run_6 ⟨Nat.le_of_ble_eq_true rfl, Nat.le_of_ble_eq_true rfl⟩) hS hFc hFc rfl (fun t H locs ht hB hk1 hS => ?_)
    obtain ⟨hP1, hD1⟩ := hB
    rw [ht] at hP1
    obtain ⟨hP, hD⟩ := zn (W2 := [(oc8 x (.ref sh) (.ref lw) (.ref ro) (.ref bq) (.ref bp) (.ref dq) (.ref dp) (.ref lv) (.ref sl) ds sd ul 4)]) hP hD hk1 hFc hP1 hD1 [0] [] [false] [0] (by decide +kernel) rfl rfl rfl rfl rfl
    clear hk1 hPc hDc hFc hP1 hD1 ht
    obtain ⟨hP9, hD9⟩ := zu_sub (wc := [_]) hP hD [true] rfl rfl
    rw [hQ9]
    exact W.iret (v := (-1)) hx hb hr (fun t ht hW => ⟨⟨rfl, by rw [ht]; exact hP9, hD9⟩, hS.F ht⟩) hS.2.2 dX10_run_9
set_option maxHeartbeats 4000000 in
set_option maxRecDepth 100000 in
theorem k_Box_init (l : Launch) (dC : Nat → ClassId) (dI : Nat → Nat → Nat) (cI cZ cF : ClassId) (sz : Nat) (bb : Nat) : zM l yX0_init cX0_init 1 none ({ frames := 1, cells := 0, slots := 0, locals := 12 } : Room) [.ref bb] (dC, dI) (zTy cI cZ cF) [(oc0 bb 0 0 0 0)] sz none (fun A t => zPD (dC, dI) classes A [(oc0 bb 0 0 0 0)] t.heap) 0 0 := by
  refine zIn (own := "ScaleShop$Box") (loc := [(0, .ref bb)]) rfl rfl rfl rfl (fun p e s m below meth c hx hb hr hts hown hlocks hml hnm9 A hA hS hP hD hK hXN Q9 hQ9 ls hl => ?_)
  have hin : meth.name = "<init>" := hnm9
  refine lv_aload_n hx hb dX0_init_0 rfl (lv_at hl 0 rfl) ?_
  refine W.objInit hx hb hown (hts _ mw_201) (hts _ mw_126) (hts _ mw_objcode) rfl (by rw [hml]; exact hl.1) rfl dX0_init_1 (Nat.le_of_ble_eq_true rfl) (Nat.le_of_ble_eq_true rfl) ?_
  refine W.eq (g2 := F0 m 4 ls []) rfl ?_
  refine lv_aload_n hx hb dX0_init_4 rfl (lv_at hl 0 rfl) ?_
  refine lv_iconst (v := 0) hx hb dX0_init_5 rfl ?_
  refine va_put (D := (dC, dI)) (ci := 0) (v := .int 0) (ty := .int) (C := RX0) (T := TX0) (N := 4) hx hb hts inX0 tyX0 tyX0_ok nmX0 hown hK hP hD hS 0 rfl rfl 0 (by decide) (hts _ mw_202) (fun _ h9 => h9) rfl (by decide +kernel) rfl rfl (Nat.le_of_ble_eq_true rfl) dX0_init_6 (fun H locs hP hD hS => ?_)
  obtain ⟨hP, hD⟩ := zre (W2 := [(oc0 bb 0 0 0 0)]) hP hD rfl
  refine lv_aload_n hx hb dX0_init_9 rfl (lv_at hl 0 rfl) ?_
  refine lv_iconst (v := 0) hx hb dX0_init_10 rfl ?_
  refine va_put (D := (dC, dI)) (ci := 0) (v := .int 0) (ty := .int) (C := RX0) (T := TX0) (N := 4) hx hb hts inX0 tyX0 tyX0_ok nmX0 hown hK hP hD hS 0 rfl rfl 1 (by decide) (hts _ mw_204) (fun _ h9 => h9) rfl (by decide +kernel) rfl rfl (Nat.le_of_ble_eq_true rfl) dX0_init_11 (fun H locs hP hD hS => ?_)
  obtain ⟨hP, hD⟩ := zre (W2 := [(oc0 bb 0 0 0 0)]) hP hD rfl
  refine lv_aload_n hx hb dX0_init_14 rfl (lv_at hl 0 rfl) ?_
  refine lv_iconst (v := 0) hx hb dX0_init_15 rfl ?_
  refine va_put (D := (dC, dI)) (ci := 0) (v := .int 0) (ty := .int) (C := RX0) (T := TX0) (N := 4) hx hb hts inX0 tyX0 tyX0_ok nmX0 hown hK hP hD hS 0 rfl rfl 2 (by decide) (hts _ mw_206) (fun _ h9 => h9) rfl (by decide +kernel) rfl rfl (Nat.le_of_ble_eq_true rfl) dX0_init_16 (fun H locs hP hD hS => ?_)
  obtain ⟨hP, hD⟩ := zre (W2 := [(oc0 bb 0 0 0 0)]) hP hD rfl
  refine lv_aload_n hx hb dX0_init_19 rfl (lv_at hl 0 rfl) ?_
  refine lv_iconst (v := 0) hx hb dX0_init_20 rfl ?_
  refine va_put (D := (dC, dI)) (ci := 0) (v := .int 0) (ty := .int) (C := RX0) (T := TX0) (N := 4) hx hb hts inX0 tyX0 tyX0_ok nmX0 hown hK hP hD hS 0 rfl rfl 3 (by decide) (hts _ mw_208) (fun _ h9 => h9) rfl (by decide +kernel) rfl rfl (Nat.le_of_ble_eq_true rfl) dX0_init_21 (fun H locs hP hD hS => ?_)
  obtain ⟨hP, hD⟩ := zre (W2 := [(oc0 bb 0 0 0 0)]) hP hD rfl
  obtain ⟨hP9, hD9⟩ := zu_sub (wc := [_]) hP hD [true] rfl rfl
  rw [hQ9]
  exact W.vret hx hb hr (fun t ht hW => ⟨⟨rfl, by rw [ht]; exact hP9, hD9⟩, hS.F ht⟩) hS.2.2 dX0_init_24
set_option maxHeartbeats 4000000 in
set_option maxRecDepth 100000 in
theorem k_Fraction_init (l : Launch) (dC : Nat → ClassId) (dI : Nat → Nat → Nat) (cI cZ cF : ClassId) (sz : Nat) (fr : Nat) : zM l yX3_init cX3_init 1 none ({ frames := 1, cells := 0, slots := 0, locals := 12 } : Room) [.ref fr] (dC, dI) (zTy cI cZ cF) [(oc2 fr 0 0)] sz none (fun A t => zPD (dC, dI) classes A [(oc2 fr 0 0)] t.heap) 0 0 := by
  refine zIn (own := "ScaleShop$Fraction") (loc := [(0, .ref fr)]) rfl rfl rfl rfl (fun p e s m below meth c hx hb hr hts hown hlocks hml hnm9 A hA hS hP hD hK hXN Q9 hQ9 ls hl => ?_)
  have hin : meth.name = "<init>" := hnm9
  refine lv_aload_n hx hb dX3_init_0 rfl (lv_at hl 0 rfl) ?_
  refine W.objInit hx hb hown (hts _ mw_272) (hts _ mw_126) (hts _ mw_objcode) rfl (by rw [hml]; exact hl.1) rfl dX3_init_1 (Nat.le_of_ble_eq_true rfl) (Nat.le_of_ble_eq_true rfl) ?_
  refine W.eq (g2 := F0 m 4 ls []) rfl ?_
  refine lv_aload_n hx hb dX3_init_4 rfl (lv_at hl 0 rfl) ?_
  refine lv_lconst (v := 0) hx hb dX3_init_5 rfl ?_
  refine va_put (D := (dC, dI)) (ci := 2) (v := .long 0) (ty := .long) (C := RX3) (T := TX3) (N := 2) hx hb hts inX3 tyX3 tyX3_ok nmX3 hown hK hP hD hS 0 rfl rfl 0 (by decide) (hts _ mw_273) (fun _ h9 => h9) rfl (by decide +kernel) rfl rfl (Nat.le_of_ble_eq_true rfl) dX3_init_6 (fun H locs hP hD hS => ?_)
  obtain ⟨hP, hD⟩ := zre (W2 := [(oc2 fr 0 0)]) hP hD rfl
  refine lv_aload_n hx hb dX3_init_9 rfl (lv_at hl 0 rfl) ?_
  refine lv_lconst (v := 0) hx hb dX3_init_10 rfl ?_
  refine va_put (D := (dC, dI)) (ci := 2) (v := .long 0) (ty := .long) (C := RX3) (T := TX3) (N := 2) hx hb hts inX3 tyX3 tyX3_ok nmX3 hown hK hP hD hS 0 rfl rfl 1 (by decide) (hts _ mw_275) (fun _ h9 => h9) rfl (by decide +kernel) rfl rfl (Nat.le_of_ble_eq_true rfl) dX3_init_11 (fun H locs hP hD hS => ?_)
  obtain ⟨hP, hD⟩ := zre (W2 := [(oc2 fr 0 0)]) hP hD rfl
  obtain ⟨hP9, hD9⟩ := zu_sub (wc := [_]) hP hD [true] rfl rfl
  rw [hQ9]
  exact W.vret hx hb hr (fun t ht hW => ⟨⟨rfl, by rw [ht]; exact hP9, hD9⟩, hS.F ht⟩) hS.2.2 dX3_init_14
set_option maxHeartbeats 4000000 in
set_option maxRecDepth 100000 in
theorem k_Law_init (l : Launch) (dC : Nat → ClassId) (dI : Nat → Nat → Nat) (cI cZ cF : ClassId) (sz : Nat) (lw : Nat) : zM l yX4_init cX4_init 1 none ({ frames := 2, cells := 12, slots := 150, locals := 36 } : Room) [.ref lw] (dC, dI) (zTy cI cZ cF) [(oc3 lw .null .null .null .null .null .null)] sz none (fun A t => ∃ (dr : Nat), ∃ (dx : Nat), ∃ (dy : Nat), ∃ (tg : Nat), ∃ (tx : Nat), ∃ (ty : Nat), ∃ (wy : Nat), ∃ (wx : Nat), ∃ (wz : Nat), ∃ (br : Nat), ∃ (bo : Nat), ∃ (aa : Nat), zPD (dC, dI) classes A [(oc3 lw (.ref dr) (.ref tg) (.ref wy) (.ref br) (.ref bo) (.ref aa)), (oc6 dr (.ref dx) (.ref dy) (nI 0) 0), (oa dx cI 40 (fun _ => 0)), (oa dy cI 40 (fun _ => 0)), (oc6 tg (.ref tx) (.ref ty) (nI 0) 1), (oa tx cI 3 (fun _ => 0)), (oa ty cI 3 (fun _ => 0)), (oc6 wy (.ref wx) (.ref wz) (nI 0) 0), (oa wx cI 2 (fun _ => 0)), (oa wz cI 2 (fun _ => 0)), (oc0 br 0 0 0 0), (oc0 bo 0 0 0 0), (oa aa cI 40 (fun _ => 0))] t.heap) 12 150 := by
  refine zIn (own := "ScaleShop$Law") (loc := [(0, .ref lw)]) rfl rfl rfl rfl (fun p e s m below meth c hx hb hr hts hown hlocks hml hnm9 A hA hS hP hD hK hXN Q9 hQ9 ls hl => ?_)
  have hin : meth.name = "<init>" := hnm9
  refine lv_aload_n hx hb dX4_init_0 rfl (lv_at hl 0 rfl) ?_
  refine W.objInit hx hb hown (hts _ mw_151) (hts _ mw_126) (hts _ mw_objcode) rfl (by rw [hml]; exact hl.1) rfl dX4_init_1 (Nat.le_of_ble_eq_true rfl) (Nat.le_of_ble_eq_true rfl) ?_
  refine W.eq (g2 := F0 m 4 ls []) rfl ?_
  refine lv_aload_n hx hb dX4_init_4 rfl (lv_at hl 0 rfl) ?_
  refine va_new (ci := 6) (fs := [.null, .null, .int 0, .int 0]) (C := RX7) (T := TX7) (N := 4) hx hb hts inX7 tyX7 tyX7_ok hown (hts _ mw_152) (hts _ mw_153) (hts _ mw_102) hK hP hD hS hA rfl dfX7 (show 1 ≤ 12 by omega) (show 4 ≤ 150 by omega) dX4_init_5 (fun dr H hP hD hS => ?_)
  obtain ⟨hP, hD⟩ := zre (W2 := [_, (oc6 dr .null .null 0 0)]) hP hD rfl
  refine lv_dup hx hb dX4_init_8 rfl ?_
  refine lv_bipush (v := 40) hx hb dX4_init_9 rfl ?_
  refine lv_iconst (v := 0) hx hb dX4_init_11 rfl ?_
  obtain ⟨hPc, hDc, hFc⟩ := zo_sub (wc := [_]) hP hD hS hA [1] rfl rfl
  refine zcall (st1 := [.ref dr, .ref lw]) (va_runI (As := [.int 40, .int 0]) (rest := [.ref dr, .ref lw]) ⟨hx, hb, hml, hown, hts⟩ (k_Row_init l dC dI cI cZ cF H.size dr 40 0 (by first | with_reducible assumption | omega) (Or.inl rfl)) (cwI 2 hts (zz_gC mc_yX7_init) rfl rfl rfl (hts _ mw_102) (hts _ mw_154) (hts _ mw_155) rfl (by decide +kernel) ⟨Nat.le_of_ble_eq_true rfl, Nat.le_of_ble_eq_true rfl⟩) (zPS2 hPc hDc hK hXN) rfl rfl hl.1 rfl (lv_room (Nat.le_of_ble_eq_true rfl)) dX4_init_12 ⟨show (1 + 2) ≤ 12 by omega, show (4 + (2 * 40)) ≤ 150 by omega⟩) hS hFc hFc rfl (fun t H locs ht hB hk1 hS => ?_)
  obtain ⟨dx, dy, hP1, hD1⟩ := hB
  rw [ht] at hP1
  obtain ⟨hP, hD⟩ := zn (W2 := [_, (oc6 dr (.ref dx) (.ref dy) (nI 0) 0), (oa dx cI 40 (fun _ => 0)), (oa dy cI 40 (fun _ => 0))]) hP hD hk1 hFc hP1 hD1 [1] [true] [true, false, false, false] [1, 2, 3] (by decide +kernel) rfl rfl rfl rfl rfl
  clear hk1 hPc hDc hFc hP1 hD1 ht
  refine va_putF (D := (dC, dI)) (ci := 3) (v := .ref dr) (ty := .object "ScaleShop$Row") (C := RX4) (T := TX4) (N := 6) hx hb hts inX4 tyX4 tyX4_ok nmX4 hown hK hP hD hS 0 rfl rfl 0 (by decide) (hts _ mw_219) (fun _ h9 => h9) rfl hin rfl (by decide +kernel) rfl rfl (Nat.le_of_ble_eq_true rfl) dX4_init_15 (fun H locs hP hD hS => ?_)
  obtain ⟨hP, hD⟩ := zre (W2 := [(oc3 lw (.ref dr) .null .null .null .null .null), _, _, _]) hP hD rfl
  refine lv_aload_n hx hb dX4_init_18 rfl (lv_at hl 0 rfl) ?_
  refine va_new (ci := 6) (fs := [.null, .null, .int 0, .int 0]) (C := RX7) (T := TX7) (N := 4) hx hb hts inX7 tyX7 tyX7_ok hown (hts _ mw_152) (hts _ mw_153) (hts _ mw_102) hK hP hD hS hA rfl dfX7 (show ((1 + 2) + 1) ≤ 12 by omega) (show ((4 + (2 * 40)) + 4) ≤ 150 by omega) dX4_init_19 (fun tg H hP hD hS => ?_)
  obtain ⟨hP, hD⟩ := zre (W2 := [_, _, _, _, (oc6 tg .null .null 0 0)]) hP hD rfl
  refine lv_dup hx hb dX4_init_22 rfl ?_
  refine lv_iconst (v := 3) hx hb dX4_init_23 rfl ?_
  refine lv_iconst (v := 1) hx hb dX4_init_24 rfl ?_
  obtain ⟨hPc, hDc, hFc⟩ := zo_sub (wc := [_]) hP hD hS hA [4] rfl rfl
  refine zcall (st1 := [.ref tg, .ref lw]) (va_runI (As := [.int 3, .int 1]) (rest := [.ref tg, .ref lw]) ⟨hx, hb, hml, hown, hts⟩ (k_Row_init l dC dI cI cZ cF H.size tg 3 1 (by first | with_reducible assumption | omega) (Or.inr rfl)) (cwI 2 hts (zz_gC mc_yX7_init) rfl rfl rfl (hts _ mw_102) (hts _ mw_154) (hts _ mw_155) rfl (by decide +kernel) ⟨Nat.le_of_ble_eq_true rfl, Nat.le_of_ble_eq_true rfl⟩) (zPS2 hPc hDc hK hXN) rfl rfl hl.1 rfl (lv_room (Nat.le_of_ble_eq_true rfl)) dX4_init_25 ⟨show (((1 + 2) + 1) + 2) ≤ 12 by omega, show (((4 + (2 * 40)) + 4) + (2 * 3)) ≤ 150 by omega⟩) hS hFc hFc rfl (fun t H locs ht hB hk1 hS => ?_)
  obtain ⟨tx, ty, hP1, hD1⟩ := hB
  rw [ht] at hP1
  obtain ⟨hP, hD⟩ := zn (W2 := [_, _, _, _, (oc6 tg (.ref tx) (.ref ty) (nI 0) 1), (oa tx cI 3 (fun _ => 0)), (oa ty cI 3 (fun _ => 0))]) hP hD hk1 hFc hP1 hD1 [4] [true, true, true, true] [true, true, true, true, false, false, false] [4, 5, 6] (by decide +kernel) rfl rfl rfl rfl rfl
  clear hk1 hPc hDc hFc hP1 hD1 ht
  refine va_putF (D := (dC, dI)) (ci := 3) (v := .ref tg) (ty := .object "ScaleShop$Row") (C := RX4) (T := TX4) (N := 6) hx hb hts inX4 tyX4 tyX4_ok nmX4 hown hK hP hD hS 0 rfl rfl 1 (by decide) (hts _ mw_221) (fun _ h9 => h9) rfl hin rfl (by decide +kernel) rfl rfl (Nat.le_of_ble_eq_true rfl) dX4_init_28 (fun H locs hP hD hS => ?_)
  obtain ⟨hP, hD⟩ := zre (W2 := [(oc3 lw (.ref dr) (.ref tg) .null .null .null .null), _, _, _, _, _, _]) hP hD rfl
  refine lv_aload_n hx hb dX4_init_31 rfl (lv_at hl 0 rfl) ?_
  refine va_new (ci := 6) (fs := [.null, .null, .int 0, .int 0]) (C := RX7) (T := TX7) (N := 4) hx hb hts inX7 tyX7 tyX7_ok hown (hts _ mw_152) (hts _ mw_153) (hts _ mw_102) hK hP hD hS hA rfl dfX7 (show ((((1 + 2) + 1) + 2) + 1) ≤ 12 by omega) (show ((((4 + (2 * 40)) + 4) + (2 * 3)) + 4) ≤ 150 by omega) dX4_init_32 (fun wy H hP hD hS => ?_)
  obtain ⟨hP, hD⟩ := zre (W2 := [_, _, _, _, _, _, _, (oc6 wy .null .null 0 0)]) hP hD rfl
  refine lv_dup hx hb dX4_init_35 rfl ?_
  refine lv_iconst (v := 2) hx hb dX4_init_36 rfl ?_
  refine lv_iconst (v := 0) hx hb dX4_init_37 rfl ?_
  obtain ⟨hPc, hDc, hFc⟩ := zo_sub (wc := [_]) hP hD hS hA [7] rfl rfl
  refine zcall (st1 := [.ref wy, .ref lw]) (va_runI (As := [.int 2, .int 0]) (rest := [.ref wy, .ref lw]) ⟨hx, hb, hml, hown, hts⟩ (k_Row_init l dC dI cI cZ cF H.size wy 2 0 (by first | with_reducible assumption | omega) (Or.inl rfl)) (cwI 2 hts (zz_gC mc_yX7_init) rfl rfl rfl (hts _ mw_102) (hts _ mw_154) (hts _ mw_155) rfl (by decide +kernel) ⟨Nat.le_of_ble_eq_true rfl, Nat.le_of_ble_eq_true rfl⟩) (zPS2 hPc hDc hK hXN) rfl rfl hl.1 rfl (lv_room (Nat.le_of_ble_eq_true rfl)) dX4_init_38 ⟨show (((((1 + 2) + 1) + 2) + 1) + 2) ≤ 12 by omega, show (((((4 + (2 * 40)) + 4) + (2 * 3)) + 4) + (2 * 2)) ≤ 150 by omega⟩) hS hFc hFc rfl (fun t H locs ht hB hk1 hS => ?_)
  obtain ⟨wx, wz, hP1, hD1⟩ := hB
  rw [ht] at hP1
  obtain ⟨hP, hD⟩ := zn (W2 := [_, _, _, _, _, _, _, (oc6 wy (.ref wx) (.ref wz) (nI 0) 0), (oa wx cI 2 (fun _ => 0)), (oa wz cI 2 (fun _ => 0))]) hP hD hk1 hFc hP1 hD1 [7] [true, true, true, true, true, true, true] zl_137 [7, 8, 9] (by decide +kernel) rfl rfl rfl rfl rfl
  clear hk1 hPc hDc hFc hP1 hD1 ht
  refine va_putF (D := (dC, dI)) (ci := 3) (v := .ref wy) (ty := .object "ScaleShop$Row") (C := RX4) (T := TX4) (N := 6) hx hb hts inX4 tyX4 tyX4_ok nmX4 hown hK hP hD hS 0 rfl rfl 2 (by decide) (hts _ mw_222) (fun _ h9 => h9) rfl hin rfl (by decide +kernel) rfl rfl (Nat.le_of_ble_eq_true rfl) dX4_init_41 (fun H locs hP hD hS => ?_)
  obtain ⟨hP, hD⟩ := zre (W2 := [(oc3 lw (.ref dr) (.ref tg) (.ref wy) .null .null .null), _, _, _, _, _, _, _, _, _]) hP hD rfl
  refine lv_aload_n hx hb dX4_init_44 rfl (lv_at hl 0 rfl) ?_
  refine va_new (ci := 0) (fs := [.int 0, .int 0, .int 0, .int 0]) (C := RX0) (T := TX0) (N := 4) hx hb hts inX0 tyX0 tyX0_ok hown (hts _ mw_196) (hts _ mw_197) (hts _ mw_104) hK hP hD hS hA rfl dfX0 (show ((((((1 + 2) + 1) + 2) + 1) + 2) + 1) ≤ 12 by omega) (show ((((((4 + (2 * 40)) + 4) + (2 * 3)) + 4) + (2 * 2)) + 4) ≤ 150 by omega) dX4_init_45 (fun br H hP hD hS => ?_)
  obtain ⟨hP, hD⟩ := zre (W2 := [_, _, _, _, _, _, _, _, _, _, (oc0 br 0 0 0 0)]) hP hD rfl
  refine lv_dup hx hb dX4_init_48 rfl ?_
  obtain ⟨hPc, hDc, hFc, hI1⟩ := zi_sub (wc := [_]) hP hD hS hA [10] rfl rfl
  refine zcall (st1 := [.ref br, .ref lw]) (va_runI (As := []) (rest := [.ref br, .ref lw]) ⟨hx, hb, hml, hown, hts⟩ (k_Box_init l dC dI cI cZ cF H.size br ) (cwI 0 hts (zz_gC mc_yX0_init) rfl rfl rfl (hts _ mw_104) (hts _ mw_198) (hts _ mw_199) rfl (by decide +kernel) ⟨Nat.le_of_ble_eq_true rfl, Nat.le_of_ble_eq_true rfl⟩) (zPS2 hPc hDc hK hXN) rfl rfl hl.1 rfl (lv_room (Nat.le_of_ble_eq_true rfl)) dX4_init_49 ⟨show ((((((1 + 2) + 1) + 2) + 1) + 2) + 1) ≤ 12 by omega, show ((((((4 + (2 * 40)) + 4) + (2 * 3)) + 4) + (2 * 2)) + 4) ≤ 150 by omega⟩) hS hFc hFc rfl (fun t H locs ht hB hk1 hS => ?_)
  obtain ⟨hP1, hD1⟩ := hB
  rw [ht] at hP1
  replace hP := z0 hP hD hk1 hP1 hI1
  clear hk1 hPc hDc hFc hP1 hD1 ht hI1
  refine va_putF (D := (dC, dI)) (ci := 3) (v := .ref br) (ty := .object "ScaleShop$Box") (C := RX4) (T := TX4) (N := 6) hx hb hts inX4 tyX4 tyX4_ok nmX4 hown hK hP hD hS 0 rfl rfl 3 (by decide) (hts _ mw_223) (fun _ h9 => h9) rfl hin rfl (by decide +kernel) rfl rfl (Nat.le_of_ble_eq_true rfl) dX4_init_52 (fun H locs hP hD hS => ?_)
  obtain ⟨hP, hD⟩ := zre (W2 := [(oc3 lw (.ref dr) (.ref tg) (.ref wy) (.ref br) .null .null), _, _, _, _, _, _, _, _, _, _]) hP hD rfl
  refine lv_aload_n hx hb dX4_init_55 rfl (lv_at hl 0 rfl) ?_
  refine va_new (ci := 0) (fs := [.int 0, .int 0, .int 0, .int 0]) (C := RX0) (T := TX0) (N := 4) hx hb hts inX0 tyX0 tyX0_ok hown (hts _ mw_196) (hts _ mw_197) (hts _ mw_104) hK hP hD hS hA rfl dfX0 (show (((((((1 + 2) + 1) + 2) + 1) + 2) + 1) + 1) ≤ 12 by omega) (show (((((((4 + (2 * 40)) + 4) + (2 * 3)) + 4) + (2 * 2)) + 4) + 4) ≤ 150 by omega) dX4_init_56 (fun bo H hP hD hS => ?_)
  obtain ⟨hP, hD⟩ := zre (W2 := [_, _, _, _, _, _, _, _, _, _, _, (oc0 bo 0 0 0 0)]) hP hD rfl
  refine lv_dup hx hb dX4_init_59 rfl ?_
  obtain ⟨hPc, hDc, hFc, hI1⟩ := zi_sub (wc := [_]) hP hD hS hA [11] rfl rfl
  refine zcall (st1 := [.ref bo, .ref lw]) (va_runI (As := []) (rest := [.ref bo, .ref lw]) ⟨hx, hb, hml, hown, hts⟩ (k_Box_init l dC dI cI cZ cF H.size bo ) (cwI 0 hts (zz_gC mc_yX0_init) rfl rfl rfl (hts _ mw_104) (hts _ mw_198) (hts _ mw_199) rfl (by decide +kernel) ⟨Nat.le_of_ble_eq_true rfl, Nat.le_of_ble_eq_true rfl⟩) (zPS2 hPc hDc hK hXN) rfl rfl hl.1 rfl (lv_room (Nat.le_of_ble_eq_true rfl)) dX4_init_60 ⟨show (((((((1 + 2) + 1) + 2) + 1) + 2) + 1) + 1) ≤ 12 by omega, show (((((((4 + (2 * 40)) + 4) + (2 * 3)) + 4) + (2 * 2)) + 4) + 4) ≤ 150 by omega⟩) hS hFc hFc rfl (fun t H locs ht hB hk1 hS => ?_)
  obtain ⟨hP1, hD1⟩ := hB
  rw [ht] at hP1
  replace hP := z0 hP hD hk1 hP1 hI1
  clear hk1 hPc hDc hFc hP1 hD1 ht hI1
  refine va_putF (D := (dC, dI)) (ci := 3) (v := .ref bo) (ty := .object "ScaleShop$Box") (C := RX4) (T := TX4) (N := 6) hx hb hts inX4 tyX4 tyX4_ok nmX4 hown hK hP hD hS 0 rfl rfl 4 (by decide) (hts _ mw_224) (fun _ h9 => h9) rfl hin rfl (by decide +kernel) rfl rfl (Nat.le_of_ble_eq_true rfl) dX4_init_63 (fun H locs hP hD hS => ?_)
  obtain ⟨hP, hD⟩ := zre (W2 := [(oc3 lw (.ref dr) (.ref tg) (.ref wy) (.ref br) (.ref bo) .null), _, _, _, _, _, _, _, _, _, _, _]) hP hD rfl
  refine lv_aload_n hx hb dX4_init_66 rfl (lv_at hl 0 rfl) ?_
  refine lv_bipush (v := 40) hx hb dX4_init_67 rfl ?_
  refine zz_newa (atype := .int) (a0 := (40, .inl (fun _ => 0))) hx hb (hts _ mw_195) (ty := .int) rfl hK hP hD hS hA (n := nI 40) (N' := 40) (cA := cI) 0 rfl (fun _ => rfl) (nI_pos (by omega)) (nI_clamp (by omega)) (show 40 * 4 ≤ 536870912 by omega) (show ((((((((1 + 2) + 1) + 2) + 1) + 2) + 1) + 1) + 1) ≤ 12 by omega) (show ((((((((4 + (2 * 40)) + 4) + (2 * 3)) + 4) + (2 * 2)) + 4) + 4) + 40) ≤ 150 by omega) dX4_init_69 (fun aa H hP hD hS => ?_)
  obtain ⟨hP, hD⟩ := zre (W2 := [_, _, _, _, _, _, _, _, _, _, _, _, (oa aa cI 40 (fun _ => 0))]) hP hD rfl
  refine va_putF (D := (dC, dI)) (ci := 3) (v := .ref aa) (ty := .array .int) (C := RX4) (T := TX4) (N := 6) hx hb hts inX4 tyX4 tyX4_ok nmX4 hown hK hP hD hS 0 rfl rfl 5 (by decide) (hts _ mw_225) (fun _ h9 => h9) rfl hin rfl (by decide +kernel) rfl rfl (Nat.le_of_ble_eq_true rfl) dX4_init_71 (fun H locs hP hD hS => ?_)
  obtain ⟨hP, hD⟩ := zre (W2 := [(oc3 lw (.ref dr) (.ref tg) (.ref wy) (.ref br) (.ref bo) (.ref aa)), _, _, _, _, _, _, _, _, _, _, _, _]) hP hD rfl
  obtain ⟨hP9, hD9⟩ := zu_sub (wc := [_, _, _, _, _, _, _, _, _, _, _, _, _]) hP hD [true, true, true, true, true, true, true, true, true, true, true, true, true] rfl rfl
  refine W.widen (k := 12) (n := 150) (by omega) (by omega) ?_
  rw [hQ9]
  exact W.vret hx hb hr (fun t ht hW => ⟨⟨rfl, dr, dx, dy, tg, tx, ty, wy, wx, wz, br, bo, aa, by rw [ht]; exact hP9, hD9⟩, hS.F ht⟩) hS.2.2 dX4_init_74
set_option maxHeartbeats 4000000 in
set_option maxRecDepth 100000 in
theorem k_Sheet_init (l : Launch) (dC : Nat → ClassId) (dI : Nat → Nat → Nat) (cI cZ cF : ClassId) (sz : Nat) (sh : Nat) : zM l yX8_init cX8_init 1 none ({ frames := 1, cells := 1, slots := 200, locals := 12 } : Room) [.ref sh] (dC, dI) (zTy cI cZ cF) [(oc7 sh .null 0)] sz none (fun A t => ∃ (fa : Nat), zPD (dC, dI) classes A [(oc7 sh (.ref fa) (nI 0)), (oq fa cF 200 (fun _ => none))] t.heap) 1 200 := by
  refine zIn (own := "ScaleShop$Sheet") (loc := [(0, .ref sh)]) rfl rfl rfl rfl (fun p e s m below meth c hx hb hr hts hown hlocks hml hnm9 A hA hS hP hD hK hXN Q9 hQ9 ls hl => ?_)
  have hin : meth.name = "<init>" := hnm9
  refine lv_aload_n hx hb dX8_init_0 rfl (lv_at hl 0 rfl) ?_
  refine W.objInit hx hb hown (hts _ mw_133) (hts _ mw_126) (hts _ mw_objcode) rfl (by rw [hml]; exact hl.1) rfl dX8_init_1 (Nat.le_of_ble_eq_true rfl) (Nat.le_of_ble_eq_true rfl) ?_
  refine W.eq (g2 := F0 m 4 ls []) rfl ?_
  refine lv_aload_n hx hb dX8_init_4 rfl (lv_at hl 0 rfl) ?_
  refine lv_sipush (v := 200) hx hb dX8_init_5 rfl ?_
  refine z_newq (C := "ScaleShop$Feature") hx hb hown (hts _ mw_134) hXN.2.2.1 hK hP hD hS hA (n := nI 200) (N' := 200) (cA := cF) 2 rfl (nI_pos (by omega)) (nI_clamp (by omega)) (show 200 * 4 ≤ 536870912 by omega) (Nat.le_of_ble_eq_true rfl) (Nat.le_of_ble_eq_true rfl) dX8_init_8 (fun fa H hP hD hS => ?_)
  obtain ⟨hP, hD⟩ := zre (W2 := [_, (oq fa cF 200 (fun _ => none))]) hP hD rfl
  refine va_putF (D := (dC, dI)) (ci := 7) (v := .ref fa) (ty := .array (.object "ScaleShop$Feature")) (C := RX8) (T := TX8) (N := 2) hx hb hts inX8 tyX8 tyX8_ok nmX8 hown hK hP hD hS 0 rfl rfl 0 (by decide) (hts _ mw_136) (fun _ h9 => h9) rfl hin rfl (by decide +kernel) rfl rfl (Nat.le_of_ble_eq_true rfl) dX8_init_11 (fun H locs hP hD hS => ?_)
  obtain ⟨hP, hD⟩ := zre (W2 := [(oc7 sh (.ref fa) 0), _]) hP hD rfl
  refine lv_aload_n hx hb dX8_init_14 rfl (lv_at hl 0 rfl) ?_
  refine lv_iconst (v := 0) hx hb dX8_init_15 rfl ?_
  refine va_put (D := (dC, dI)) (ci := 7) (v := .int 0) (ty := .int) (C := RX8) (T := TX8) (N := 2) hx hb hts inX8 tyX8 tyX8_ok nmX8 hown hK hP hD hS 0 rfl rfl 1 (by decide) (hts _ mw_137) (fun _ h9 => h9) rfl (by decide +kernel) rfl rfl (Nat.le_of_ble_eq_true rfl) dX8_init_16 (fun H locs hP hD hS => ?_)
  obtain ⟨hP, hD⟩ := zre (W2 := [(oc7 sh (.ref fa) 0), _]) hP hD rfl
  obtain ⟨hP9, hD9⟩ := zu_sub (wc := [(oc7 sh (.ref fa) 0), (oq fa cF 200 (fun _ => none))]) hP hD [true, true] rfl rfl
  have hE9 : ([(oc7 sh (.ref fa) 0), (oq fa cF 200 (fun _ => none))] : va_W) = [(oc7 sh (.ref fa) (nI 0)), (oq fa cF 200 (fun _ => none))] := by rfl
  rw [hE9] at hP9 hD9
  refine W.widen (k := 1) (n := 200) (by decide) (by decide) ?_
  rw [hQ9]
  exact W.vret hx hb hr (fun t ht hW => ⟨⟨rfl, fa, by rw [ht]; exact hP9, hD9⟩, hS.F ht⟩) hS.2.2 dX8_init_19
set_option maxHeartbeats 4000000 in
set_option maxRecDepth 100000 in
theorem k_Roads_init (l : Launch) (dC : Nat → ClassId) (dI : Nat → Nat → Nat) (cI cZ cF : ClassId) (sz : Nat) (ro : Nat) : zM l yX6_init cX6_init 1 none ({ frames := 1, cells := 5, slots := 1600, locals := 12 } : Room) [.ref ro] (dC, dI) (zTy cI cZ cF) [(oc5 ro .null .null .null .null .null 0)] sz none (fun A t => ∃ (za : Nat), ∃ (zw : Nat), ∃ (zx : Nat), ∃ (zy : Nat), ∃ (zg : Nat), zPD (dC, dI) classes A [(oc5 ro (.ref za) (.ref zw) (.ref zx) (.ref zy) (.ref zg) 0), (oq za cF 200 (fun _ => none)), (oa zw cI 200 (fun _ => 0)), (oa zx cI 400 (fun _ => 0)), (oa zy cI 400 (fun _ => 0)), (oa zg cI 400 (fun _ => 0))] t.heap) 5 1600 := by
  refine zIn (own := "ScaleShop$Roads") (loc := [(0, .ref ro)]) rfl rfl rfl rfl (fun p e s m below meth c hx hb hr hts hown hlocks hml hnm9 A hA hS hP hD hK hXN Q9 hQ9 ls hl => ?_)
  have hin : meth.name = "<init>" := hnm9
  refine lv_aload_n hx hb dX6_init_0 rfl (lv_at hl 0 rfl) ?_
  refine W.objInit hx hb hown (hts _ mw_244) (hts _ mw_126) (hts _ mw_objcode) rfl (by rw [hml]; exact hl.1) rfl dX6_init_1 (Nat.le_of_ble_eq_true rfl) (Nat.le_of_ble_eq_true rfl) ?_
  refine W.eq (g2 := F0 m 4 ls []) rfl ?_
  refine lv_aload_n hx hb dX6_init_4 rfl (lv_at hl 0 rfl) ?_
  refine lv_sipush (v := 200) hx hb dX6_init_5 rfl ?_
  refine z_newq (C := "ScaleShop$Feature") hx hb hown (hts _ mw_245) hXN.2.2.1 hK hP hD hS hA (n := nI 200) (N' := 200) (cA := cF) 2 rfl (nI_pos (by omega)) (nI_clamp (by omega)) (show 200 * 4 ≤ 536870912 by omega) (Nat.le_of_ble_eq_true rfl) (Nat.le_of_ble_eq_true rfl) dX6_init_8 (fun za H hP hD hS => ?_)
  obtain ⟨hP, hD⟩ := zre (W2 := [_, (oq za cF 200 (fun _ => none))]) hP hD rfl
  refine va_putF (D := (dC, dI)) (ci := 5) (v := .ref za) (ty := .array (.object "ScaleShop$Feature")) (C := RX6) (T := TX6) (N := 6) hx hb hts inX6 tyX6 tyX6_ok nmX6 hown hK hP hD hS 0 rfl rfl 0 (by decide) (hts _ mw_246) (fun _ h9 => h9) rfl hin rfl (by decide +kernel) rfl rfl (Nat.le_of_ble_eq_true rfl) dX6_init_11 (fun H locs hP hD hS => ?_)
  obtain ⟨hP, hD⟩ := zre (W2 := [(oc5 ro (.ref za) .null .null .null .null 0), _]) hP hD rfl
  refine lv_aload_n hx hb dX6_init_14 rfl (lv_at hl 0 rfl) ?_
  refine lv_sipush (v := 200) hx hb dX6_init_15 rfl ?_
  refine zz_newa (atype := .int) (a0 := (200, .inl (fun _ => 0))) hx hb (hts _ mw_195) (ty := .int) rfl hK hP hD hS hA (n := nI 200) (N' := 200) (cA := cI) 0 rfl (fun _ => rfl) (nI_pos (by omega)) (nI_clamp (by omega)) (show 200 * 4 ≤ 536870912 by omega) (Nat.le_of_ble_eq_true rfl) (Nat.le_of_ble_eq_true rfl) dX6_init_18 (fun zw H hP hD hS => ?_)
  obtain ⟨hP, hD⟩ := zre (W2 := [_, _, (oa zw cI 200 (fun _ => 0))]) hP hD rfl
  refine va_putF (D := (dC, dI)) (ci := 5) (v := .ref zw) (ty := .array .int) (C := RX6) (T := TX6) (N := 6) hx hb hts inX6 tyX6 tyX6_ok nmX6 hown hK hP hD hS 0 rfl rfl 1 (by decide) (hts _ mw_247) (fun _ h9 => h9) rfl hin rfl (by decide +kernel) rfl rfl (Nat.le_of_ble_eq_true rfl) dX6_init_20 (fun H locs hP hD hS => ?_)
  obtain ⟨hP, hD⟩ := zre (W2 := [(oc5 ro (.ref za) (.ref zw) .null .null .null 0), _, _]) hP hD rfl
  refine lv_aload_n hx hb dX6_init_23 rfl (lv_at hl 0 rfl) ?_
  refine lv_sipush (v := 400) hx hb dX6_init_24 rfl ?_
  refine zz_newa (atype := .int) (a0 := (400, .inl (fun _ => 0))) hx hb (hts _ mw_195) (ty := .int) rfl hK hP hD hS hA (n := nI 400) (N' := 400) (cA := cI) 0 rfl (fun _ => rfl) (nI_pos (by omega)) (nI_clamp (by omega)) (show 400 * 4 ≤ 536870912 by omega) (Nat.le_of_ble_eq_true rfl) (Nat.le_of_ble_eq_true rfl) dX6_init_27 (fun zx H hP hD hS => ?_)
  obtain ⟨hP, hD⟩ := zre (W2 := [_, _, _, (oa zx cI 400 (fun _ => 0))]) hP hD rfl
  refine va_putF (D := (dC, dI)) (ci := 5) (v := .ref zx) (ty := .array .int) (C := RX6) (T := TX6) (N := 6) hx hb hts inX6 tyX6 tyX6_ok nmX6 hown hK hP hD hS 0 rfl rfl 2 (by decide) (hts _ mw_248) (fun _ h9 => h9) rfl hin rfl (by decide +kernel) rfl rfl (Nat.le_of_ble_eq_true rfl) dX6_init_29 (fun H locs hP hD hS => ?_)
  obtain ⟨hP, hD⟩ := zre (W2 := [(oc5 ro (.ref za) (.ref zw) (.ref zx) .null .null 0), _, _, _]) hP hD rfl
  refine lv_aload_n hx hb dX6_init_32 rfl (lv_at hl 0 rfl) ?_
  refine lv_sipush (v := 400) hx hb dX6_init_33 rfl ?_
  refine zz_newa (atype := .int) (a0 := (400, .inl (fun _ => 0))) hx hb (hts _ mw_195) (ty := .int) rfl hK hP hD hS hA (n := nI 400) (N' := 400) (cA := cI) 0 rfl (fun _ => rfl) (nI_pos (by omega)) (nI_clamp (by omega)) (show 400 * 4 ≤ 536870912 by omega) (Nat.le_of_ble_eq_true rfl) (Nat.le_of_ble_eq_true rfl) dX6_init_36 (fun zy H hP hD hS => ?_)
  obtain ⟨hP, hD⟩ := zre (W2 := [_, _, _, _, (oa zy cI 400 (fun _ => 0))]) hP hD rfl
  refine va_putF (D := (dC, dI)) (ci := 5) (v := .ref zy) (ty := .array .int) (C := RX6) (T := TX6) (N := 6) hx hb hts inX6 tyX6 tyX6_ok nmX6 hown hK hP hD hS 0 rfl rfl 3 (by decide) (hts _ mw_249) (fun _ h9 => h9) rfl hin rfl (by decide +kernel) rfl rfl (Nat.le_of_ble_eq_true rfl) dX6_init_38 (fun H locs hP hD hS => ?_)
  obtain ⟨hP, hD⟩ := zre (W2 := [(oc5 ro (.ref za) (.ref zw) (.ref zx) (.ref zy) .null 0), _, _, _, _]) hP hD rfl
  refine lv_aload_n hx hb dX6_init_41 rfl (lv_at hl 0 rfl) ?_
  refine lv_sipush (v := 400) hx hb dX6_init_42 rfl ?_
  refine zz_newa (atype := .int) (a0 := (400, .inl (fun _ => 0))) hx hb (hts _ mw_195) (ty := .int) rfl hK hP hD hS hA (n := nI 400) (N' := 400) (cA := cI) 0 rfl (fun _ => rfl) (nI_pos (by omega)) (nI_clamp (by omega)) (show 400 * 4 ≤ 536870912 by omega) (Nat.le_of_ble_eq_true rfl) (Nat.le_of_ble_eq_true rfl) dX6_init_45 (fun zg H hP hD hS => ?_)
  obtain ⟨hP, hD⟩ := zre (W2 := [_, _, _, _, _, (oa zg cI 400 (fun _ => 0))]) hP hD rfl
  refine va_putF (D := (dC, dI)) (ci := 5) (v := .ref zg) (ty := .array .int) (C := RX6) (T := TX6) (N := 6) hx hb hts inX6 tyX6 tyX6_ok nmX6 hown hK hP hD hS 0 rfl rfl 4 (by decide) (hts _ mw_250) (fun _ h9 => h9) rfl hin rfl (by decide +kernel) rfl rfl (Nat.le_of_ble_eq_true rfl) dX6_init_47 (fun H locs hP hD hS => ?_)
  obtain ⟨hP, hD⟩ := zre (W2 := [(oc5 ro (.ref za) (.ref zw) (.ref zx) (.ref zy) (.ref zg) 0), _, _, _, _, _]) hP hD rfl
  refine lv_aload_n hx hb dX6_init_50 rfl (lv_at hl 0 rfl) ?_
  refine lv_iconst (v := 0) hx hb dX6_init_51 rfl ?_
  refine va_put (D := (dC, dI)) (ci := 5) (v := .int 0) (ty := .int) (C := RX6) (T := TX6) (N := 6) hx hb hts inX6 tyX6 tyX6_ok nmX6 hown hK hP hD hS 0 rfl rfl 5 (by decide) (hts _ mw_251) (fun _ h9 => h9) rfl (by decide +kernel) rfl rfl (Nat.le_of_ble_eq_true rfl) dX6_init_52 (fun H locs hP hD hS => ?_)
  obtain ⟨hP, hD⟩ := zre (W2 := [(oc5 ro (.ref za) (.ref zw) (.ref zx) (.ref zy) (.ref zg) 0), _, _, _, _, _]) hP hD rfl
  obtain ⟨hP9, hD9⟩ := zu_sub (wc := [_, _, _, _, _, _]) hP hD [true, true, true, true, true, true] rfl rfl
  refine W.widen (k := 5) (n := 1600) (by decide) (by decide) ?_
  rw [hQ9]
  exact W.vret hx hb hr (fun t ht hW => ⟨⟨rfl, za, zw, zx, zy, zg, by rw [ht]; exact hP9, hD9⟩, hS.F ht⟩) hS.2.2 dX6_init_55
set_option maxHeartbeats 4000000 in
set_option maxRecDepth 100000 in
theorem k_AC_init (l : Launch) (dC : Nat → ClassId) (dI : Nat → Nat → Nat) (cI cZ cF : ClassId) (sz : Nat) (sl : Nat) : zM l yJxa1e45_init_da8c8 cJxa1e45_init_da8c8 1 none ({ frames := 1, cells := 0, slots := 0, locals := 12 } : Room) [.ref sl] (dC, dI) (zTy cI cZ cF) [] sz none (fun A t => zPD (dC, dI) classes A [] t.heap) 0 0 := by
  refine zIn (own := "java/util/AbstractCollection") (loc := [(0, .ref sl)]) rfl rfl rfl rfl (fun p e s m below meth c hx hb hr hts hown hlocks hml hnm9 A hA hS hP hD hK hXN Q9 hQ9 ls hl => ?_)
  have hin : meth.name = "<init>" := hnm9
  refine lv_aload_n hx hb dJxa1e45_init_da8c8_0 rfl (lv_at hl 0 rfl) ?_
  refine W.objInit hx hb hown (hts _ mw_293) (hts _ mw_126) (hts _ mw_objcode) rfl (by rw [hml]; exact hl.1) rfl dJxa1e45_init_da8c8_1 (Nat.le_of_ble_eq_true rfl) (Nat.le_of_ble_eq_true rfl) ?_
  refine W.eq (g2 := F0 m 4 ls []) rfl ?_
  obtain ⟨hP9, hD9⟩ := zu_sub (wc := []) hP hD [] rfl rfl
  rw [hQ9]
  exact W.vret hx hb hr (fun t ht hW => ⟨⟨rfl, by rw [ht]; exact hP9, hD9⟩, hS.F ht⟩) hS.2.2 dJxa1e45_init_da8c8_4
set_option maxHeartbeats 4000000 in
set_option maxRecDepth 100000 in
theorem k_ABL_init (l : Launch) (dC : Nat → ClassId) (dI : Nat → Nat → Nat) (cI cZ cF : ClassId) (sz : Nat) (sl : Nat) : zM l yJxc12de_init_da8c8 cJxc12de_init_da8c8 1 none ({ frames := 2, cells := 0, slots := 0, locals := 32 } : Room) [.ref sl] (dC, dI) (zTy cI cZ cF) [(oc10 sl 0 .null 0)] sz none (fun A t => zPD (dC, dI) classes A [(oc10 sl 0 .null 0)] t.heap) 0 0 := by
  refine zIn (own := "java/util/AbstractList") (loc := [(0, .ref sl)]) rfl rfl rfl rfl (fun p e s m below meth c hx hb hr hts hown hlocks hml hnm9 A hA hS hP hD hK hXN Q9 hQ9 ls hl => ?_)
  have hin : meth.name = "<init>" := hnm9
  refine lv_aload_n hx hb dJxc12de_init_da8c8_0 rfl (lv_at hl 0 rfl) ?_
  obtain ⟨hPc, hDc, hFc, hI1⟩ := zi_sub (wc := []) hP hD hS hA [] rfl rfl
  refine zcall (st1 := []) (va_runI (As := []) (rest := []) ⟨hx, hb, hml, hown, hts⟩ (k_AC_init l dC dI cI cZ cF s.heap.size sl ) (cwI 0 hts (zz_gC mc_yJxa1e45_init_da8c8) rfl rfl rfl (hts _ mw_107) (hts _ mw_290) (hts _ mw_291) rfl (by decide +kernel) ⟨Nat.le_of_ble_eq_true rfl, Nat.le_of_ble_eq_true rfl⟩) (zPS2 hPc hDc hK hXN) rfl rfl hl.1 rfl (lv_room (Nat.le_of_ble_eq_true rfl)) dJxc12de_init_da8c8_1 ⟨Nat.le_of_ble_eq_true rfl, Nat.le_of_ble_eq_true rfl⟩) hS hFc hFc rfl (fun t H locs ht hB hk1 hS => ?_)
  obtain ⟨hP1, hD1⟩ := hB
  rw [ht] at hP1
  replace hP := z0 hP hD hk1 hP1 hI1
  clear hk1 hPc hDc hFc hP1 hD1 ht hI1
  refine lv_aload_n hx hb dJxc12de_init_da8c8_4 rfl (lv_at hl 0 rfl) ?_
  refine lv_iconst (v := 0) hx hb dJxc12de_init_da8c8_5 rfl ?_
  refine va_put (D := (dC, dI)) (ci := 10) (v := .int 0) (ty := .int) (C := RJx4a65c) (T := TJx4a65c) (N := 3) hx hb hts inJx4a65c tyJx4a65c tyJx4a65c_ok nmJx4a65c hown hK hP hD hS 0 rfl rfl 0 (by decide) (hts _ mw_298) (fun _ h9 => h9) rfl (by decide +kernel) rfl rfl (Nat.le_of_ble_eq_true rfl) dJxc12de_init_da8c8_6 (fun H locs hP hD hS => ?_)
  obtain ⟨hP, hD⟩ := zre (W2 := [(oc10 sl 0 .null 0)]) hP hD rfl
  obtain ⟨hP9, hD9⟩ := zu_sub (wc := [_]) hP hD [true] rfl rfl
  rw [hQ9]
  exact W.vret hx hb hr (fun t ht hW => ⟨⟨rfl, by rw [ht]; exact hP9, hD9⟩, hS.F ht⟩) hS.2.2 dJxc12de_init_da8c8_9
set_option maxHeartbeats 4000000 in
set_option maxRecDepth 100000 in
theorem k_AL_init (l : Launch) (dC : Nat → ClassId) (dI : Nat → Nat → Nat) (cI cZ cF : ClassId) (sz : Nat) (cO : ClassId) (e0 : Nat) (mi : Nat) (sl : Nat) : zML l yJx4a65c_init_da8c8 cJx4a65c_init_da8c8 1 none ({ frames := 3, cells := 0, slots := 0, locals := 52 } : Room) [.ref sl] (dC, dI) (zTyO cI cZ cF cO) e0 mi [(oc10 sl 0 .null 0)] sz none (fun A t => zPD (dC, dI) classes A [(oc10 sl 0 (.ref e0) (nI 0))] t.heap) 0 0 := by
  refine zInL (own := "java/util/ArrayList") (loc := [(0, .ref sl)]) rfl rfl rfl rfl (fun p e s m below meth c hx hb hr hts hown hlocks hml hnm9 A hA hS hP hD hK hXL hXN hK3 Q9 hQ9 ls hl => ?_)
  have hin : meth.name = "<init>" := hnm9
  refine lv_aload_n hx hb dJx4a65c_init_da8c8_0 rfl (lv_at hl 0 rfl) ?_
  obtain ⟨hPc, hDc, hFc, hI1⟩ := zi_sub (wc := [_]) hP hD hS hA [0] rfl rfl
  refine zcall (st1 := []) (va_runI (As := []) (rest := []) ⟨hx, hb, hml, hown, hts⟩ (k_ABL_init l dC dI cI cZ cF s.heap.size sl ) (cwI 0 hts (zz_gC mc_yJxc12de_init_da8c8) rfl rfl rfl (hts _ mw_108) (hts _ mw_287) (hts _ mw_288) rfl (by decide +kernel) ⟨Nat.le_of_ble_eq_true rfl, Nat.le_of_ble_eq_true rfl⟩) (zPS2 hPc hDc hK3 hXN) rfl rfl hl.1 rfl (lv_room (Nat.le_of_ble_eq_true rfl)) dJx4a65c_init_da8c8_1 ⟨Nat.le_of_ble_eq_true rfl, Nat.le_of_ble_eq_true rfl⟩) hS hFc hFc rfl (fun t H locs ht hB hk1 hS => ?_)
  obtain ⟨hP1, hD1⟩ := hB
  rw [ht] at hP1
  replace hP := z0 hP hD hk1 hP1 hI1
  clear hk1 hPc hDc hFc hP1 hD1 ht hI1
  refine lv_aload_n hx hb dJx4a65c_init_da8c8_4 rfl (lv_at hl 0 rfl) ?_
  refine va_gets hx hb hXL.2.1 hS hown (hts _ mw_294) (fun _ h9 => h9) dJx4a65c_init_da8c8_5 ?_
  refine va_put (D := (dC, dI)) (ci := 10) (v := .ref e0) (ty := .array (.object "java/lang/Object")) (C := RJx4a65c) (T := TJx4a65c) (N := 3) hx hb hts inJx4a65c tyJx4a65c tyJx4a65c_ok nmJx4a65c hown hK hP hD hS 0 rfl rfl 1 (by decide) (hts _ mw_296) (fun _ h9 => h9) rfl (by decide +kernel) rfl rfl (Nat.le_of_ble_eq_true rfl) dJx4a65c_init_da8c8_8 (fun H locs hP hD hS => ?_)
  obtain ⟨hP, hD⟩ := zre (W2 := [(oc10 sl 0 (.ref e0) 0)]) hP hD rfl
  obtain ⟨hP9, hD9⟩ := zu_sub (wc := [(oc10 sl 0 (.ref e0) 0)]) hP hD [true] rfl rfl
  have hE9 : ([(oc10 sl 0 (.ref e0) 0)] : va_W) = [(oc10 sl 0 (.ref e0) (nI 0))] := by rfl
  rw [hE9] at hP9 hD9
  rw [hQ9]
  exact W.vret hx hb hr (fun t ht hW => ⟨⟨rfl, by rw [ht]; exact hP9, hD9⟩, hS.F ht⟩) hS.2.2 dJx4a65c_init_da8c8_11
set_option maxHeartbeats 4000000 in
set_option maxRecDepth 100000 in
theorem k_Shop_init (l : Launch) (dC : Nat → ClassId) (dI : Nat → Nat → Nat) (cI cZ cF : ClassId) (sz : Nat) (cO : ClassId) (e0 : Nat) (mi : Nat) (x : Nat) : zML l yX10_init cX10_init 1 none ({ frames := 4, cells := 30, slots := 2300, locals := 72 } : Room) [.ref x] (dC, dI) (zTyO cI cZ cF cO) e0 mi [(oc8 x .null .null .null .null .null .null .null .null .null 0 0 0 0)] sz none (fun A t => ∃ (sl : Nat), ∃ (sh : Nat), ∃ (fa : Nat), ∃ (lw : Nat), ∃ (dr : Nat), ∃ (dx : Nat), ∃ (dy : Nat), ∃ (tg : Nat), ∃ (tx : Nat), ∃ (ty : Nat), ∃ (wy : Nat), ∃ (wx : Nat), ∃ (wz : Nat), ∃ (br : Nat), ∃ (bo : Nat), ∃ (aa : Nat), ∃ (ro : Nat), ∃ (za : Nat), ∃ (zw : Nat), ∃ (zx : Nat), ∃ (zy : Nat), ∃ (zg : Nat), ∃ (bq : Nat), ∃ (bp : Nat), ∃ (dq : Nat), ∃ (dp : Nat), ∃ (lv : Nat), zPD (dC, dI) classes A [(oc8 x (.ref sh) (.ref lw) (.ref ro) (.ref bq) (.ref bp) (.ref dq) (.ref dp) (.ref lv) (.ref sl) (nI 0) (nI 0) 0 0), (oc10 sl 0 (.ref e0) (nI 0)), (oc7 sh (.ref fa) (nI 0)), (oq fa cF 200 (fun _ => none)), (oc3 lw (.ref dr) (.ref tg) (.ref wy) (.ref br) (.ref bo) (.ref aa)), (oc6 dr (.ref dx) (.ref dy) (nI 0) 0), (oa dx cI 40 (fun _ => 0)), (oa dy cI 40 (fun _ => 0)), (oc6 tg (.ref tx) (.ref ty) (nI 0) 1), (oa tx cI 3 (fun _ => 0)), (oa ty cI 3 (fun _ => 0)), (oc6 wy (.ref wx) (.ref wz) (nI 0) 0), (oa wx cI 2 (fun _ => 0)), (oa wz cI 2 (fun _ => 0)), (oc0 br 0 0 0 0), (oc0 bo 0 0 0 0), (oa aa cI 40 (fun _ => 0)), (oc5 ro (.ref za) (.ref zw) (.ref zx) (.ref zy) (.ref zg) 0), (oq za cF 200 (fun _ => none)), (oa zw cI 200 (fun _ => 0)), (oa zx cI 400 (fun _ => 0)), (oa zy cI 400 (fun _ => 0)), (oa zg cI 400 (fun _ => 0)), (oc0 bq 0 0 0 0), (oc0 bp 0 0 0 0), (oc2 dq 0 0), (oc2 dp 0 0), (oa lv cZ 200 (fun _ => 0))] t.heap) 30 2300 := by
  refine zInL (own := "ScaleShop") (loc := [(0, .ref x)]) rfl rfl rfl rfl (fun p e s m below meth c hx hb hr hts hown hlocks hml hnm9 A hA hS hP hD hK hXL hXN hK3 Q9 hQ9 ls hl => ?_)
  have hin : meth.name = "<init>" := hnm9
  refine lv_aload_n hx hb dX10_init_0 rfl (lv_at hl 0 rfl) ?_
  refine W.objInit hx hb hown (hts _ mw_125) (hts _ mw_126) (hts _ mw_objcode) rfl (by rw [hml]; exact hl.1) rfl dX10_init_1 (Nat.le_of_ble_eq_true rfl) (Nat.le_of_ble_eq_true rfl) ?_
  refine W.eq (g2 := F0 m 4 ls []) rfl ?_
  refine lv_aload_n hx hb dX10_init_4 rfl (lv_at hl 0 rfl) ?_
  refine va_new (ci := 7) (fs := [.null, .int 0]) (C := RX8) (T := TX8) (N := 2) hx hb hts inX8 tyX8 tyX8_ok hown (hts _ mw_128) (hts _ mw_129) (hts _ mw_100) hK hP hD hS hA rfl dfX8 (show 1 ≤ 30 by omega) (show 2 ≤ 2300 by omega) dX10_init_5 (fun sh H hP hD hS => ?_)
  obtain ⟨hP, hD⟩ := zre (W2 := [_, (oc7 sh .null 0)]) hP hD rfl
  refine lv_dup hx hb dX10_init_8 rfl ?_
  obtain ⟨hPc, hDc, hFc⟩ := zo_sub (wc := [_]) hP hD hS hA [1] rfl rfl
  refine zcall (st1 := [.ref sh, .ref x]) (va_runI (As := []) (rest := [.ref sh, .ref x]) ⟨hx, hb, hml, hown, hts⟩ (k_Sheet_init l dC dI cI cZ cF H.size sh ) (cwI 0 hts (zz_gC mc_yX8_init) rfl rfl rfl (hts _ mw_100) (hts _ mw_130) (hts _ mw_131) rfl (by decide +kernel) ⟨Nat.le_of_ble_eq_true rfl, Nat.le_of_ble_eq_true rfl⟩) (zPS2 hPc hDc hK3 hXN) rfl rfl hl.1 rfl (lv_room (Nat.le_of_ble_eq_true rfl)) dX10_init_9 ⟨show 2 ≤ 30 by omega, show 202 ≤ 2300 by omega⟩) hS hFc hFc rfl (fun t H locs ht hB hk1 hS => ?_)
  obtain ⟨fa, hP1, hD1⟩ := hB
  rw [ht] at hP1
  obtain ⟨hP, hD⟩ := zn (W2 := [_, (oc7 sh (.ref fa) (nI 0)), (oq fa cF 200 (fun _ => none))]) hP hD hk1 hFc hP1 hD1 [1] [true] [true, false, false] [1, 2] (by decide +kernel) rfl rfl rfl rfl rfl
  clear hk1 hPc hDc hFc hP1 hD1 ht
  refine va_putF (D := (dC, dI)) (ci := 8) (v := .ref sh) (ty := .object "ScaleShop$Sheet") (C := RX10) (T := TX10) (N := 13) hx hb hts inX10 tyX10 tyX10_ok nmX10 hown hK hP hD hS 0 rfl rfl 0 (by decide) (hts _ mw_309) (fun _ h9 => h9) rfl hin rfl (by decide +kernel) rfl rfl (Nat.le_of_ble_eq_true rfl) dX10_init_12 (fun H locs hP hD hS => ?_)
  obtain ⟨hP, hD⟩ := zre (W2 := [(oc8 x (.ref sh) .null .null .null .null .null .null .null .null 0 0 0 0), _, _]) hP hD rfl
  refine lv_aload_n hx hb dX10_init_15 rfl (lv_at hl 0 rfl) ?_
  refine va_new (ci := 3) (fs := [.null, .null, .null, .null, .null, .null]) (C := RX4) (T := TX4) (N := 6) hx hb hts inX4 tyX4 tyX4_ok hown (hts _ mw_146) (hts _ mw_147) (hts _ mw_101) hK hP hD hS hA rfl dfX4 (show 3 ≤ 30 by omega) (show 208 ≤ 2300 by omega) dX10_init_16 (fun lw H hP hD hS => ?_)
  obtain ⟨hP, hD⟩ := zre (W2 := [_, _, _, (oc3 lw .null .null .null .null .null .null)]) hP hD rfl
  refine lv_dup hx hb dX10_init_19 rfl ?_
  obtain ⟨hPc, hDc, hFc⟩ := zo_sub (wc := [_]) hP hD hS hA [3] rfl rfl
  refine zcall (st1 := [.ref lw, .ref x]) (va_runI (As := []) (rest := [.ref lw, .ref x]) ⟨hx, hb, hml, hown, hts⟩ (k_Law_init l dC dI cI cZ cF H.size lw ) (cwI 0 hts (zz_gC mc_yX4_init) rfl rfl rfl (hts _ mw_101) (hts _ mw_148) (hts _ mw_149) rfl (by decide +kernel) ⟨Nat.le_of_ble_eq_true rfl, Nat.le_of_ble_eq_true rfl⟩) (zPS2 hPc hDc hK3 hXN) rfl rfl hl.1 rfl (lv_room (Nat.le_of_ble_eq_true rfl)) dX10_init_20 ⟨show (3 + 12) ≤ 30 by omega, show (208 + 150) ≤ 2300 by omega⟩) hS hFc hFc rfl (fun t H locs ht hB hk1 hS => ?_)
  refine ex12 hB (fun dr dx dy tg tx ty wy wx wz br bo aa hB0 => ?_)
  clear hB
  obtain ⟨hP1, hD1⟩ := hB0
  rw [ht] at hP1
  obtain ⟨hP, hD⟩ := zn (W2 := [_, _, _, (oc3 lw (.ref dr) (.ref tg) (.ref wy) (.ref br) (.ref bo) (.ref aa)), (oc6 dr (.ref dx) (.ref dy) (nI 0) 0), (oa dx cI 40 (fun _ => 0)), (oa dy cI 40 (fun _ => 0)), (oc6 tg (.ref tx) (.ref ty) (nI 0) 1), (oa tx cI 3 (fun _ => 0)), (oa ty cI 3 (fun _ => 0)), (oc6 wy (.ref wx) (.ref wz) (nI 0) 0), (oa wx cI 2 (fun _ => 0)), (oa wz cI 2 (fun _ => 0)), (oc0 br 0 0 0 0), (oc0 bo 0 0 0 0), (oa aa cI 40 (fun _ => 0))]) hP hD hk1 hFc hP1 hD1 [3] [true, true, true] zl_138 zl_139 (by decide +kernel) rfl rfl rfl rfl rfl
  clear hk1 hPc hDc hFc hP1 hD1 ht
  refine va_putF (D := (dC, dI)) (ci := 8) (v := .ref lw) (ty := .object "ScaleShop$Law") (C := RX10) (T := TX10) (N := 13) hx hb hts inX10 tyX10 tyX10_ok nmX10 hown hK hP hD hS 0 rfl rfl 1 (by decide) (hts _ mw_310) (fun _ h9 => h9) rfl hin rfl (by decide +kernel) rfl rfl (Nat.le_of_ble_eq_true rfl) dX10_init_23 (fun H locs hP hD hS => ?_)
  obtain ⟨hP, hD⟩ := zre (W2 := [(oc8 x (.ref sh) (.ref lw) .null .null .null .null .null .null .null 0 0 0 0), _, _, _, _, _, _, _, _, _, _, _, _, _, _, _]) hP hD rfl
  refine lv_aload_n hx hb dX10_init_26 rfl (lv_at hl 0 rfl) ?_
  refine va_new (ci := 5) (fs := [.null, .null, .null, .null, .null, .int 0]) (C := RX6) (T := TX6) (N := 6) hx hb hts inX6 tyX6 tyX6_ok hown (hts _ mw_239) (hts _ mw_240) (hts _ mw_105) hK hP hD hS hA rfl dfX6 (show ((3 + 12) + 1) ≤ 30 by omega) (show ((208 + 150) + 6) ≤ 2300 by omega) dX10_init_27 (fun ro H hP hD hS => ?_)
  obtain ⟨hP, hD⟩ := zre (W2 := [_, _, _, _, _, _, _, _, _, _, _, _, _, _, _, _, (oc5 ro .null .null .null .null .null 0)]) hP hD rfl
  refine lv_dup hx hb dX10_init_30 rfl ?_
  obtain ⟨hPc, hDc, hFc⟩ := zo_sub (wc := [_]) hP hD hS hA [16] rfl rfl
  refine zcall (st1 := [.ref ro, .ref x]) (va_runI (As := []) (rest := [.ref ro, .ref x]) ⟨hx, hb, hml, hown, hts⟩ (k_Roads_init l dC dI cI cZ cF H.size ro ) (cwI 0 hts (zz_gC mc_yX6_init) rfl rfl rfl (hts _ mw_105) (hts _ mw_241) (hts _ mw_242) rfl (by decide +kernel) ⟨Nat.le_of_ble_eq_true rfl, Nat.le_of_ble_eq_true rfl⟩) (zPS2 hPc hDc hK3 hXN) rfl rfl hl.1 rfl (lv_room (Nat.le_of_ble_eq_true rfl)) dX10_init_31 ⟨show (((3 + 12) + 1) + 5) ≤ 30 by omega, show (((208 + 150) + 6) + 1600) ≤ 2300 by omega⟩) hS hFc hFc rfl (fun t H locs ht hB hk1 hS => ?_)
  obtain ⟨za, zw, zx, zy, zg, hP1, hD1⟩ := hB
  rw [ht] at hP1
  obtain ⟨hP, hD⟩ := zn (W2 := [_, _, _, _, _, _, _, _, _, _, _, _, _, _, _, _, (oc5 ro (.ref za) (.ref zw) (.ref zx) (.ref zy) (.ref zg) 0), (oq za cF 200 (fun _ => none)), (oa zw cI 200 (fun _ => 0)), (oa zx cI 400 (fun _ => 0)), (oa zy cI 400 (fun _ => 0)), (oa zg cI 400 (fun _ => 0))]) hP hD hk1 hFc hP1 hD1 [16] zl_44 zl_140 [16, 17, 18, 19, 20, 21] (by decide +kernel) rfl rfl rfl rfl rfl
  clear hk1 hPc hDc hFc hP1 hD1 ht
  refine va_putF (D := (dC, dI)) (ci := 8) (v := .ref ro) (ty := .object "ScaleShop$Roads") (C := RX10) (T := TX10) (N := 13) hx hb hts inX10 tyX10 tyX10_ok nmX10 hown hK hP hD hS 0 rfl rfl 2 (by decide) (hts _ mw_311) (fun _ h9 => h9) rfl hin rfl (by decide +kernel) rfl rfl (Nat.le_of_ble_eq_true rfl) dX10_init_34 (fun H locs hP hD hS => ?_)
  obtain ⟨hP, hD⟩ := zre (W2 := [(oc8 x (.ref sh) (.ref lw) (.ref ro) .null .null .null .null .null .null 0 0 0 0), _, _, _, _, _, _, _, _, _, _, _, _, _, _, _, _, _, _, _, _, _]) hP hD rfl
  refine lv_aload_n hx hb dX10_init_37 rfl (lv_at hl 0 rfl) ?_
  refine va_new (ci := 0) (fs := [.int 0, .int 0, .int 0, .int 0]) (C := RX0) (T := TX0) (N := 4) hx hb hts inX0 tyX0 tyX0_ok hown (hts _ mw_265) (hts _ mw_197) (hts _ mw_104) hK hP hD hS hA rfl dfX0 (show ((((3 + 12) + 1) + 5) + 1) ≤ 30 by omega) (show ((((208 + 150) + 6) + 1600) + 4) ≤ 2300 by omega) dX10_init_38 (fun bq H hP hD hS => ?_)
  obtain ⟨hP, hD⟩ := zre (W2 := [_, _, _, _, _, _, _, _, _, _, _, _, _, _, _, _, _, _, _, _, _, _, (oc0 bq 0 0 0 0)]) hP hD rfl
  refine lv_dup hx hb dX10_init_41 rfl ?_
  obtain ⟨hPc, hDc, hFc, hI1⟩ := zi_sub (wc := [_]) hP hD hS hA [22] rfl rfl
  refine zcall (st1 := [.ref bq, .ref x]) (va_runI (As := []) (rest := [.ref bq, .ref x]) ⟨hx, hb, hml, hown, hts⟩ (k_Box_init l dC dI cI cZ cF H.size bq ) (cwI 0 hts (zz_gC mc_yX0_init) rfl rfl rfl (hts _ mw_104) (hts _ mw_266) (hts _ mw_199) rfl (by decide +kernel) ⟨Nat.le_of_ble_eq_true rfl, Nat.le_of_ble_eq_true rfl⟩) (zPS2 hPc hDc hK3 hXN) rfl rfl hl.1 rfl (lv_room (Nat.le_of_ble_eq_true rfl)) dX10_init_42 ⟨show ((((3 + 12) + 1) + 5) + 1) ≤ 30 by omega, show ((((208 + 150) + 6) + 1600) + 4) ≤ 2300 by omega⟩) hS hFc hFc rfl (fun t H locs ht hB hk1 hS => ?_)
  obtain ⟨hP1, hD1⟩ := hB
  rw [ht] at hP1
  replace hP := z0 hP hD hk1 hP1 hI1
  clear hk1 hPc hDc hFc hP1 hD1 ht hI1
  refine va_putF (D := (dC, dI)) (ci := 8) (v := .ref bq) (ty := .object "ScaleShop$Box") (C := RX10) (T := TX10) (N := 13) hx hb hts inX10 tyX10 tyX10_ok nmX10 hown hK hP hD hS 0 rfl rfl 3 (by decide) (hts _ mw_312) (fun _ h9 => h9) rfl hin rfl (by decide +kernel) rfl rfl (Nat.le_of_ble_eq_true rfl) dX10_init_45 (fun H locs hP hD hS => ?_)
  obtain ⟨hP, hD⟩ := zre (W2 := [(oc8 x (.ref sh) (.ref lw) (.ref ro) (.ref bq) .null .null .null .null .null 0 0 0 0), _, _, _, _, _, _, _, _, _, _, _, _, _, _, _, _, _, _, _, _, _, _]) hP hD rfl
  refine lv_aload_n hx hb dX10_init_48 rfl (lv_at hl 0 rfl) ?_
  refine va_new (ci := 0) (fs := [.int 0, .int 0, .int 0, .int 0]) (C := RX0) (T := TX0) (N := 4) hx hb hts inX0 tyX0 tyX0_ok hown (hts _ mw_265) (hts _ mw_197) (hts _ mw_104) hK hP hD hS hA rfl dfX0 (show (((((3 + 12) + 1) + 5) + 1) + 1) ≤ 30 by omega) (show (((((208 + 150) + 6) + 1600) + 4) + 4) ≤ 2300 by omega) dX10_init_49 (fun bp H hP hD hS => ?_)
  obtain ⟨hP, hD⟩ := zre (W2 := [_, _, _, _, _, _, _, _, _, _, _, _, _, _, _, _, _, _, _, _, _, _, _, (oc0 bp 0 0 0 0)]) hP hD rfl
  refine lv_dup hx hb dX10_init_52 rfl ?_
  obtain ⟨hPc, hDc, hFc, hI1⟩ := zi_sub (wc := [_]) hP hD hS hA [23] rfl rfl
  refine zcall (st1 := [.ref bp, .ref x]) (va_runI (As := []) (rest := [.ref bp, .ref x]) ⟨hx, hb, hml, hown, hts⟩ (k_Box_init l dC dI cI cZ cF H.size bp ) (cwI 0 hts (zz_gC mc_yX0_init) rfl rfl rfl (hts _ mw_104) (hts _ mw_266) (hts _ mw_199) rfl (by decide +kernel) ⟨Nat.le_of_ble_eq_true rfl, Nat.le_of_ble_eq_true rfl⟩) (zPS2 hPc hDc hK3 hXN) rfl rfl hl.1 rfl (lv_room (Nat.le_of_ble_eq_true rfl)) dX10_init_53 ⟨show (((((3 + 12) + 1) + 5) + 1) + 1) ≤ 30 by omega, show (((((208 + 150) + 6) + 1600) + 4) + 4) ≤ 2300 by omega⟩) hS hFc hFc rfl (fun t H locs ht hB hk1 hS => ?_)
  obtain ⟨hP1, hD1⟩ := hB
  rw [ht] at hP1
  replace hP := z0 hP hD hk1 hP1 hI1
  clear hk1 hPc hDc hFc hP1 hD1 ht hI1
  refine va_putF (D := (dC, dI)) (ci := 8) (v := .ref bp) (ty := .object "ScaleShop$Box") (C := RX10) (T := TX10) (N := 13) hx hb hts inX10 tyX10 tyX10_ok nmX10 hown hK hP hD hS 0 rfl rfl 4 (by decide) (hts _ mw_313) (fun _ h9 => h9) rfl hin rfl (by decide +kernel) rfl rfl (Nat.le_of_ble_eq_true rfl) dX10_init_56 (fun H locs hP hD hS => ?_)
  obtain ⟨hP, hD⟩ := zre (W2 := [(oc8 x (.ref sh) (.ref lw) (.ref ro) (.ref bq) (.ref bp) .null .null .null .null 0 0 0 0), _, _, _, _, _, _, _, _, _, _, _, _, _, _, _, _, _, _, _, _, _, _, _]) hP hD rfl
  refine lv_aload_n hx hb dX10_init_59 rfl (lv_at hl 0 rfl) ?_
  refine va_new (ci := 2) (fs := [.long 0, .long 0]) (C := RX3) (T := TX3) (N := 2) hx hb hts inX3 tyX3 tyX3_ok hown (hts _ mw_267) (hts _ mw_268) (hts _ mw_106) hK hP hD hS hA rfl dfX3 (show ((((((3 + 12) + 1) + 5) + 1) + 1) + 1) ≤ 30 by omega) (show ((((((208 + 150) + 6) + 1600) + 4) + 4) + 2) ≤ 2300 by omega) dX10_init_60 (fun dq H hP hD hS => ?_)
  obtain ⟨hP, hD⟩ := zre (W2 := [_, _, _, _, _, _, _, _, _, _, _, _, _, _, _, _, _, _, _, _, _, _, _, _, (oc2 dq 0 0)]) hP hD rfl
  refine lv_dup hx hb dX10_init_63 rfl ?_
  obtain ⟨hPc, hDc, hFc, hI1⟩ := zi_sub (wc := [_]) hP hD hS hA [24] rfl rfl
  refine zcall (st1 := [.ref dq, .ref x]) (va_runI (As := []) (rest := [.ref dq, .ref x]) ⟨hx, hb, hml, hown, hts⟩ (k_Fraction_init l dC dI cI cZ cF H.size dq ) (cwI 0 hts (zz_gC mc_yX3_init) rfl rfl rfl (hts _ mw_106) (hts _ mw_269) (hts _ mw_270) rfl (by decide +kernel) ⟨Nat.le_of_ble_eq_true rfl, Nat.le_of_ble_eq_true rfl⟩) (zPS2 hPc hDc hK3 hXN) rfl rfl hl.1 rfl (lv_room (Nat.le_of_ble_eq_true rfl)) dX10_init_64 ⟨show ((((((3 + 12) + 1) + 5) + 1) + 1) + 1) ≤ 30 by omega, show ((((((208 + 150) + 6) + 1600) + 4) + 4) + 2) ≤ 2300 by omega⟩) hS hFc hFc rfl (fun t H locs ht hB hk1 hS => ?_)
  obtain ⟨hP1, hD1⟩ := hB
  rw [ht] at hP1
  replace hP := z0 hP hD hk1 hP1 hI1
  clear hk1 hPc hDc hFc hP1 hD1 ht hI1
  refine va_putF (D := (dC, dI)) (ci := 8) (v := .ref dq) (ty := .object "ScaleShop$Fraction") (C := RX10) (T := TX10) (N := 13) hx hb hts inX10 tyX10 tyX10_ok nmX10 hown hK hP hD hS 0 rfl rfl 5 (by decide) (hts _ mw_314) (fun _ h9 => h9) rfl hin rfl (by decide +kernel) rfl rfl (Nat.le_of_ble_eq_true rfl) dX10_init_67 (fun H locs hP hD hS => ?_)
  obtain ⟨hP, hD⟩ := zre (W2 := [(oc8 x (.ref sh) (.ref lw) (.ref ro) (.ref bq) (.ref bp) (.ref dq) .null .null .null 0 0 0 0), _, _, _, _, _, _, _, _, _, _, _, _, _, _, _, _, _, _, _, _, _, _, _, _]) hP hD rfl
  refine lv_aload_n hx hb dX10_init_70 rfl (lv_at hl 0 rfl) ?_
  refine va_new (ci := 2) (fs := [.long 0, .long 0]) (C := RX3) (T := TX3) (N := 2) hx hb hts inX3 tyX3 tyX3_ok hown (hts _ mw_267) (hts _ mw_268) (hts _ mw_106) hK hP hD hS hA rfl dfX3 (show (((((((3 + 12) + 1) + 5) + 1) + 1) + 1) + 1) ≤ 30 by omega) (show (((((((208 + 150) + 6) + 1600) + 4) + 4) + 2) + 2) ≤ 2300 by omega) dX10_init_71 (fun dp H hP hD hS => ?_)
  obtain ⟨hP, hD⟩ := zre (W2 := [_, _, _, _, _, _, _, _, _, _, _, _, _, _, _, _, _, _, _, _, _, _, _, _, _, (oc2 dp 0 0)]) hP hD rfl
  refine lv_dup hx hb dX10_init_74 rfl ?_
  obtain ⟨hPc, hDc, hFc, hI1⟩ := zi_sub (wc := [_]) hP hD hS hA [25] rfl rfl
  refine zcall (st1 := [.ref dp, .ref x]) (va_runI (As := []) (rest := [.ref dp, .ref x]) ⟨hx, hb, hml, hown, hts⟩ (k_Fraction_init l dC dI cI cZ cF H.size dp ) (cwI 0 hts (zz_gC mc_yX3_init) rfl rfl rfl (hts _ mw_106) (hts _ mw_269) (hts _ mw_270) rfl (by decide +kernel) ⟨Nat.le_of_ble_eq_true rfl, Nat.le_of_ble_eq_true rfl⟩) (zPS2 hPc hDc hK3 hXN) rfl rfl hl.1 rfl (lv_room (Nat.le_of_ble_eq_true rfl)) dX10_init_75 ⟨show (((((((3 + 12) + 1) + 5) + 1) + 1) + 1) + 1) ≤ 30 by omega, show (((((((208 + 150) + 6) + 1600) + 4) + 4) + 2) + 2) ≤ 2300 by omega⟩) hS hFc hFc rfl (fun t H locs ht hB hk1 hS => ?_)
  obtain ⟨hP1, hD1⟩ := hB
  rw [ht] at hP1
  replace hP := z0 hP hD hk1 hP1 hI1
  clear hk1 hPc hDc hFc hP1 hD1 ht hI1
  refine va_putF (D := (dC, dI)) (ci := 8) (v := .ref dp) (ty := .object "ScaleShop$Fraction") (C := RX10) (T := TX10) (N := 13) hx hb hts inX10 tyX10 tyX10_ok nmX10 hown hK hP hD hS 0 rfl rfl 6 (by decide) (hts _ mw_315) (fun _ h9 => h9) rfl hin rfl (by decide +kernel) rfl rfl (Nat.le_of_ble_eq_true rfl) dX10_init_78 (fun H locs hP hD hS => ?_)
  obtain ⟨hP, hD⟩ := zre (W2 := [(oc8 x (.ref sh) (.ref lw) (.ref ro) (.ref bq) (.ref bp) (.ref dq) (.ref dp) .null .null 0 0 0 0), _, _, _, _, _, _, _, _, _, _, _, _, _, _, _, _, _, _, _, _, _, _, _, _, _]) hP hD rfl
  refine lv_aload_n hx hb dX10_init_81 rfl (lv_at hl 0 rfl) ?_
  refine lv_sipush (v := 200) hx hb dX10_init_82 rfl ?_
  refine zz_newa (atype := .boolean) (a0 := (200, .inl (fun _ => 0))) hx hb (hts _ mw_308) (ty := .boolean) rfl hK hP hD hS hA (n := nI 200) (N' := 200) (cA := cZ) 1 rfl (fun _ => rfl) (nI_pos (by omega)) (nI_clamp (by omega)) (show 200 * 1 ≤ 536870912 by omega) (show ((((((((3 + 12) + 1) + 5) + 1) + 1) + 1) + 1) + 1) ≤ 30 by omega) (show ((((((((208 + 150) + 6) + 1600) + 4) + 4) + 2) + 2) + 200) ≤ 2300 by omega) dX10_init_85 (fun lv H hP hD hS => ?_)
  obtain ⟨hP, hD⟩ := zre (W2 := [_, _, _, _, _, _, _, _, _, _, _, _, _, _, _, _, _, _, _, _, _, _, _, _, _, _, (oa lv cZ 200 (fun _ => 0))]) hP hD rfl
  refine va_putF (D := (dC, dI)) (ci := 8) (v := .ref lv) (ty := .array .boolean) (C := RX10) (T := TX10) (N := 13) hx hb hts inX10 tyX10 tyX10_ok nmX10 hown hK hP hD hS 0 rfl rfl 7 (by decide) (hts _ mw_316) (fun _ h9 => h9) rfl hin rfl (by decide +kernel) rfl rfl (Nat.le_of_ble_eq_true rfl) dX10_init_87 (fun H locs hP hD hS => ?_)
  obtain ⟨hP, hD⟩ := zre (W2 := [(oc8 x (.ref sh) (.ref lw) (.ref ro) (.ref bq) (.ref bp) (.ref dq) (.ref dp) (.ref lv) .null 0 0 0 0), _, _, _, _, _, _, _, _, _, _, _, _, _, _, _, _, _, _, _, _, _, _, _, _, _, _]) hP hD rfl
  refine lv_aload_n hx hb dX10_init_90 rfl (lv_at hl 0 rfl) ?_
  refine va_new (ci := 10) (fs := [.int 0, .null, .int 0]) (C := RJx4a65c) (T := TJx4a65c) (N := 3) hx hb hts inJx4a65c tyJx4a65c tyJx4a65c_ok hown (hts _ mw_282) (hts _ mw_283) (hts _ mw_109) hK hP hD hS hA rfl dfJx4a65c (show (((((((((3 + 12) + 1) + 5) + 1) + 1) + 1) + 1) + 1) + 1) ≤ 30 by omega) (show (((((((((208 + 150) + 6) + 1600) + 4) + 4) + 2) + 2) + 200) + 3) ≤ 2300 by omega) dX10_init_91 (fun sl H hP hD hS => ?_)
  obtain ⟨hP, hD⟩ := zre (W2 := [_, _, _, _, _, _, _, _, _, _, _, _, _, _, _, _, _, _, _, _, _, _, _, _, _, _, _, (oc10 sl 0 .null 0)]) hP hD rfl
  refine lv_dup hx hb dX10_init_94 rfl ?_
  obtain ⟨hPc, hDc, hFc⟩ := zo_sub (wc := [_]) hP hD hS hA [27] rfl rfl
  refine zcall (st1 := [.ref sl, .ref x]) (va_runI (As := []) (rest := [.ref sl, .ref x]) ⟨hx, hb, hml, hown, hts⟩ (k_AL_init l dC dI cI cZ cF H.size cO e0 mi sl ) (cwI 0 hts (zz_gC mc_yJx4a65c_init_da8c8) rfl rfl rfl (hts _ mw_109) (hts _ mw_284) (hts _ mw_285) rfl (by decide +kernel) ⟨Nat.le_of_ble_eq_true rfl, Nat.le_of_ble_eq_true rfl⟩) (zPSL hPc hDc hK hXL hS hFc) rfl rfl hl.1 rfl (lv_room (Nat.le_of_ble_eq_true rfl)) dX10_init_95 ⟨show (((((((((3 + 12) + 1) + 5) + 1) + 1) + 1) + 1) + 1) + 1) ≤ 30 by omega, show (((((((((208 + 150) + 6) + 1600) + 4) + 4) + 2) + 2) + 200) + 3) ≤ 2300 by omega⟩) hS hFc hFc rfl (fun t H locs ht hB hk1 hS => ?_)
  obtain ⟨hP1, hD1⟩ := hB
  rw [ht] at hP1
  obtain ⟨hP, hD⟩ := zn (W2 := [_, _, _, _, _, _, _, _, _, _, _, _, _, _, _, _, _, _, _, _, _, _, _, _, _, _, _, (oc10 sl 0 (.ref e0) (nI 0))]) hP hD hk1 hFc hP1 hD1 [27] zl_141 zl_142 [27] (by decide +kernel) rfl rfl rfl rfl rfl
  clear hk1 hPc hDc hFc hP1 hD1 ht
  refine va_putF (D := (dC, dI)) (ci := 8) (v := .ref sl) (ty := .object "java/util/ArrayList") (C := RX10) (T := TX10) (N := 13) hx hb hts inX10 tyX10 tyX10_ok nmX10 hown hK hP hD hS 0 rfl rfl 8 (by decide) (hts _ mw_317) (fun _ h9 => h9) rfl hin rfl (by decide +kernel) rfl rfl (Nat.le_of_ble_eq_true rfl) dX10_init_98 (fun H locs hP hD hS => ?_)
  obtain ⟨hP, hD⟩ := zre (W2 := [(oc8 x (.ref sh) (.ref lw) (.ref ro) (.ref bq) (.ref bp) (.ref dq) (.ref dp) (.ref lv) (.ref sl) 0 0 0 0), _, _, _, _, _, _, _, _, _, _, _, _, _, _, _, _, _, _, _, _, _, _, _, _, _, _, _]) hP hD rfl
  refine lv_aload_n hx hb dX10_init_101 rfl (lv_at hl 0 rfl) ?_
  refine lv_iconst (v := 0) hx hb dX10_init_102 rfl ?_
  refine va_put (D := (dC, dI)) (ci := 8) (v := .int 0) (ty := .int) (C := RX10) (T := TX10) (N := 13) hx hb hts inX10 tyX10 tyX10_ok nmX10 hown hK hP hD hS 0 rfl rfl 9 (by decide) (hts _ mw_318) (fun _ h9 => h9) rfl (by decide +kernel) rfl rfl (Nat.le_of_ble_eq_true rfl) dX10_init_103 (fun H locs hP hD hS => ?_)
  obtain ⟨hP, hD⟩ := zre (W2 := [(oc8 x (.ref sh) (.ref lw) (.ref ro) (.ref bq) (.ref bp) (.ref dq) (.ref dp) (.ref lv) (.ref sl) 0 0 0 0), _, _, _, _, _, _, _, _, _, _, _, _, _, _, _, _, _, _, _, _, _, _, _, _, _, _, _]) hP hD rfl
  refine lv_aload_n hx hb dX10_init_106 rfl (lv_at hl 0 rfl) ?_
  refine lv_iconst (v := 0) hx hb dX10_init_107 rfl ?_
  refine va_put (D := (dC, dI)) (ci := 8) (v := .int 0) (ty := .int) (C := RX10) (T := TX10) (N := 13) hx hb hts inX10 tyX10 tyX10_ok nmX10 hown hK hP hD hS 0 rfl rfl 10 (by decide) (hts _ mw_319) (fun _ h9 => h9) rfl (by decide +kernel) rfl rfl (Nat.le_of_ble_eq_true rfl) dX10_init_108 (fun H locs hP hD hS => ?_)
  obtain ⟨hP, hD⟩ := zre (W2 := [(oc8 x (.ref sh) (.ref lw) (.ref ro) (.ref bq) (.ref bp) (.ref dq) (.ref dp) (.ref lv) (.ref sl) 0 0 0 0), _, _, _, _, _, _, _, _, _, _, _, _, _, _, _, _, _, _, _, _, _, _, _, _, _, _, _]) hP hD rfl
  refine lv_aload_n hx hb dX10_init_111 rfl (lv_at hl 0 rfl) ?_
  refine lv_iconst (v := 0) hx hb dX10_init_112 rfl ?_
  refine va_put (D := (dC, dI)) (ci := 8) (v := .int 0) (ty := .int) (C := RX10) (T := TX10) (N := 13) hx hb hts inX10 tyX10 tyX10_ok nmX10 hown hK hP hD hS 0 rfl rfl 11 (by decide) (hts _ mw_320) (fun _ h9 => h9) rfl (by decide +kernel) rfl rfl (Nat.le_of_ble_eq_true rfl) dX10_init_113 (fun H locs hP hD hS => ?_)
  obtain ⟨hP, hD⟩ := zre (W2 := [(oc8 x (.ref sh) (.ref lw) (.ref ro) (.ref bq) (.ref bp) (.ref dq) (.ref dp) (.ref lv) (.ref sl) 0 0 0 0), _, _, _, _, _, _, _, _, _, _, _, _, _, _, _, _, _, _, _, _, _, _, _, _, _, _, _]) hP hD rfl
  refine lv_aload_n hx hb dX10_init_116 rfl (lv_at hl 0 rfl) ?_
  refine lv_iconst (v := 0) hx hb dX10_init_117 rfl ?_
  refine va_put (D := (dC, dI)) (ci := 8) (v := .int 0) (ty := .int) (C := RX10) (T := TX10) (N := 13) hx hb hts inX10 tyX10 tyX10_ok nmX10 hown hK hP hD hS 0 rfl rfl 12 (by decide) (hts _ mw_321) (fun _ h9 => h9) rfl (by decide +kernel) rfl rfl (Nat.le_of_ble_eq_true rfl) dX10_init_118 (fun H locs hP hD hS => ?_)
  obtain ⟨hP, hD⟩ := zre (W2 := [(oc8 x (.ref sh) (.ref lw) (.ref ro) (.ref bq) (.ref bp) (.ref dq) (.ref dp) (.ref lv) (.ref sl) 0 0 0 0), _, _, _, _, _, _, _, _, _, _, _, _, _, _, _, _, _, _, _, _, _, _, _, _, _, _, _]) hP hD rfl
  obtain ⟨hP9, hD9⟩ := zq_sub (wc := [(oc8 x (.ref sh) (.ref lw) (.ref ro) (.ref bq) (.ref bp) (.ref dq) (.ref dp) (.ref lv) (.ref sl) 0 0 0 0), (oc10 sl 0 (.ref e0) (nI 0)), (oc7 sh (.ref fa) (nI 0)), (oq fa cF 200 (fun _ => none)), (oc3 lw (.ref dr) (.ref tg) (.ref wy) (.ref br) (.ref bo) (.ref aa)), (oc6 dr (.ref dx) (.ref dy) (nI 0) 0), (oa dx cI 40 (fun _ => 0)), (oa dy cI 40 (fun _ => 0)), (oc6 tg (.ref tx) (.ref ty) (nI 0) 1), (oa tx cI 3 (fun _ => 0)), (oa ty cI 3 (fun _ => 0)), (oc6 wy (.ref wx) (.ref wz) (nI 0) 0), (oa wx cI 2 (fun _ => 0)), (oa wz cI 2 (fun _ => 0)), (oc0 br 0 0 0 0), (oc0 bo 0 0 0 0), (oa aa cI 40 (fun _ => 0)), (oc5 ro (.ref za) (.ref zw) (.ref zx) (.ref zy) (.ref zg) 0), (oq za cF 200 (fun _ => none)), (oa zw cI 200 (fun _ => 0)), (oa zx cI 400 (fun _ => 0)), (oa zy cI 400 (fun _ => 0)), (oa zg cI 400 (fun _ => 0)), (oc0 bq 0 0 0 0), (oc0 bp 0 0 0 0), (oc2 dq 0 0), (oc2 dp 0 0), (oa lv cZ 200 (fun _ => 0))]) hP hD [0, 27, 1, 2, 3, 4, 5, 6, 7, 8, 9, 10, 11, 12, 13, 14, 15, 16, 17, 18, 19, 20, 21, 22, 23, 24, 25, 26] rfl rfl
  have hE9 : ([(oc8 x (.ref sh) (.ref lw) (.ref ro) (.ref bq) (.ref bp) (.ref dq) (.ref dp) (.ref lv) (.ref sl) 0 0 0 0), (oc10 sl 0 (.ref e0) (nI 0)), (oc7 sh (.ref fa) (nI 0)), (oq fa cF 200 (fun _ => none)), (oc3 lw (.ref dr) (.ref tg) (.ref wy) (.ref br) (.ref bo) (.ref aa)), (oc6 dr (.ref dx) (.ref dy) (nI 0) 0), (oa dx cI 40 (fun _ => 0)), (oa dy cI 40 (fun _ => 0)), (oc6 tg (.ref tx) (.ref ty) (nI 0) 1), (oa tx cI 3 (fun _ => 0)), (oa ty cI 3 (fun _ => 0)), (oc6 wy (.ref wx) (.ref wz) (nI 0) 0), (oa wx cI 2 (fun _ => 0)), (oa wz cI 2 (fun _ => 0)), (oc0 br 0 0 0 0), (oc0 bo 0 0 0 0), (oa aa cI 40 (fun _ => 0)), (oc5 ro (.ref za) (.ref zw) (.ref zx) (.ref zy) (.ref zg) 0), (oq za cF 200 (fun _ => none)), (oa zw cI 200 (fun _ => 0)), (oa zx cI 400 (fun _ => 0)), (oa zy cI 400 (fun _ => 0)), (oa zg cI 400 (fun _ => 0)), (oc0 bq 0 0 0 0), (oc0 bp 0 0 0 0), (oc2 dq 0 0), (oc2 dp 0 0), (oa lv cZ 200 (fun _ => 0))] : va_W) = [(oc8 x (.ref sh) (.ref lw) (.ref ro) (.ref bq) (.ref bp) (.ref dq) (.ref dp) (.ref lv) (.ref sl) (nI 0) (nI 0) 0 0), (oc10 sl 0 (.ref e0) (nI 0)), (oc7 sh (.ref fa) (nI 0)), (oq fa cF 200 (fun _ => none)), (oc3 lw (.ref dr) (.ref tg) (.ref wy) (.ref br) (.ref bo) (.ref aa)), (oc6 dr (.ref dx) (.ref dy) (nI 0) 0), (oa dx cI 40 (fun _ => 0)), (oa dy cI 40 (fun _ => 0)), (oc6 tg (.ref tx) (.ref ty) (nI 0) 1), (oa tx cI 3 (fun _ => 0)), (oa ty cI 3 (fun _ => 0)), (oc6 wy (.ref wx) (.ref wz) (nI 0) 0), (oa wx cI 2 (fun _ => 0)), (oa wz cI 2 (fun _ => 0)), (oc0 br 0 0 0 0), (oc0 bo 0 0 0 0), (oa aa cI 40 (fun _ => 0)), (oc5 ro (.ref za) (.ref zw) (.ref zx) (.ref zy) (.ref zg) 0), (oq za cF 200 (fun _ => none)), (oa zw cI 200 (fun _ => 0)), (oa zx cI 400 (fun _ => 0)), (oa zy cI 400 (fun _ => 0)), (oa zg cI 400 (fun _ => 0)), (oc0 bq 0 0 0 0), (oc0 bp 0 0 0 0), (oc2 dq 0 0), (oc2 dp 0 0), (oa lv cZ 200 (fun _ => 0))] := by rfl
  rw [hE9] at hP9 hD9
  refine W.widen (k := 30) (n := 2300) (by omega) (by omega) ?_
  rw [hQ9]
  exact W.vret hx hb hr (fun t ht hW => ⟨⟨rfl, sl, sh, fa, lw, dr, dx, dy, tg, tx, ty, wy, wx, wz, br, bo, aa, ro, za, zw, zx, zy, zg, bq, bp, dq, dp, lv, by rw [ht]; exact hP9, hD9⟩, hS.F ht⟩) hS.2.2 dX10_init_121
end
section
theorem dX11_isWithin_15 : decode cX11_isWithin 15 = .ok (.i2l, 1) := op_133 nN_cX11_isWithin (by decide +kernel)
theorem dX11_isWithin_16 : decode cX11_isWithin 16 = .ok (.iload_n 1, 1) := op_27 nN_cX11_isWithin (by decide +kernel)
theorem dX11_isWithin_17 : decode cX11_isWithin 17 = .ok (.i2l, 1) := op_133 nN_cX11_isWithin (by decide +kernel)
theorem dX11_isWithin_18 : decode cX11_isWithin 18 = .ok (.iload_n 2, 1) := op_28 nN_cX11_isWithin (by decide +kernel)
theorem dX11_isWithin_19 : decode cX11_isWithin 19 = .ok (.i2l, 1) := op_133 nN_cX11_isWithin (by decide +kernel)
theorem dX11_isWithin_20 : decode cX11_isWithin 20 = .ok (.invokestatic 140, 3) := op_184 nN_cX11_isWithin (by decide +kernel)
theorem dX11_isWithin_23 : decode cX11_isWithin 23 = .ok (.invokestatic 153, 3) := op_184 nN_cX11_isWithin (by decide +kernel)
theorem dX11_isWithin_26 : decode cX11_isWithin 26 = .ok (.istore_n 3, 1) := op_62 nN_cX11_isWithin (by decide +kernel)
theorem dX11_isWithin_27 : decode cX11_isWithin 27 = .ok (.aload_n 0, 1) := op_42 nN_cX11_isWithin (by decide +kernel)
theorem dX11_isWithin_28 : decode cX11_isWithin 28 = .ok (.iconst 2, 1) := op_5 nN_cX11_isWithin (by decide +kernel)
theorem dX11_isWithin_29 : decode cX11_isWithin 29 = .ok (.iaload, 1) := op_46 nN_cX11_isWithin (by decide +kernel)
theorem dX11_isWithin_30 : decode cX11_isWithin 30 = .ok (.i2l, 1) := op_133 nN_cX11_isWithin (by decide +kernel)
theorem dX11_isWithin_31 : decode cX11_isWithin 31 = .ok (.aload_n 0, 1) := op_42 nN_cX11_isWithin (by decide +kernel)
theorem dX11_isWithin_32 : decode cX11_isWithin 32 = .ok (.iconst 3, 1) := op_6 nN_cX11_isWithin (by decide +kernel)
theorem dX11_isWithin_33 : decode cX11_isWithin 33 = .ok (.iaload, 1) := op_46 nN_cX11_isWithin (by decide +kernel)
theorem dX11_isWithin_34 : decode cX11_isWithin 34 = .ok (.i2l, 1) := op_133 nN_cX11_isWithin (by decide +kernel)
theorem dX11_isWithin_35 : decode cX11_isWithin 35 = .ok (.aload_n 0, 1) := op_42 nN_cX11_isWithin (by decide +kernel)
theorem dX11_isWithin_36 : decode cX11_isWithin 36 = .ok (.iconst 4, 1) := op_7 nN_cX11_isWithin (by decide +kernel)
theorem dX11_isWithin_37 : decode cX11_isWithin 37 = .ok (.iaload, 1) := op_46 nN_cX11_isWithin (by decide +kernel)
theorem dX11_isWithin_38 : decode cX11_isWithin 38 = .ok (.i2l, 1) := op_133 nN_cX11_isWithin (by decide +kernel)
theorem dX11_isWithin_39 : decode cX11_isWithin 39 = .ok (.aload_n 0, 1) := op_42 nN_cX11_isWithin (by decide +kernel)
theorem dX11_isWithin_40 : decode cX11_isWithin 40 = .ok (.iconst 5, 1) := op_8 nN_cX11_isWithin (by decide +kernel)
theorem dX11_isWithin_41 : decode cX11_isWithin 41 = .ok (.iaload, 1) := op_46 nN_cX11_isWithin (by decide +kernel)
theorem dX11_isWithin_42 : decode cX11_isWithin 42 = .ok (.i2l, 1) := op_133 nN_cX11_isWithin (by decide +kernel)
theorem dX11_isWithin_43 : decode cX11_isWithin 43 = .ok (.iload_n 1, 1) := op_27 nN_cX11_isWithin (by decide +kernel)
theorem dX11_isWithin_44 : decode cX11_isWithin 44 = .ok (.i2l, 1) := op_133 nN_cX11_isWithin (by decide +kernel)
theorem dX11_isWithin_45 : decode cX11_isWithin 45 = .ok (.iload_n 2, 1) := op_28 nN_cX11_isWithin (by decide +kernel)
theorem dX11_isWithin_46 : decode cX11_isWithin 46 = .ok (.i2l, 1) := op_133 nN_cX11_isWithin (by decide +kernel)
theorem dX11_isWithin_47 : decode cX11_isWithin 47 = .ok (.invokestatic 140, 3) := op_184 nN_cX11_isWithin (by decide +kernel)
theorem dX11_isWithin_50 : decode cX11_isWithin 50 = .ok (.invokestatic 153, 3) := op_184 nN_cX11_isWithin (by decide +kernel)
theorem dX11_isWithin_53 : decode cX11_isWithin 53 = .ok (.istore 4, 2) := op_54 nN_cX11_isWithin (by decide +kernel)
theorem dX11_isWithin_55 : decode cX11_isWithin 55 = .ok (.aload_n 0, 1) := op_42 nN_cX11_isWithin (by decide +kernel)
theorem dX11_isWithin_56 : decode cX11_isWithin 56 = .ok (.iconst 4, 1) := op_7 nN_cX11_isWithin (by decide +kernel)
theorem dX11_isWithin_57 : decode cX11_isWithin 57 = .ok (.iaload, 1) := op_46 nN_cX11_isWithin (by decide +kernel)
theorem dX11_isWithin_58 : decode cX11_isWithin 58 = .ok (.i2l, 1) := op_133 nN_cX11_isWithin (by decide +kernel)
theorem dX11_isWithin_59 : decode cX11_isWithin 59 = .ok (.aload_n 0, 1) := op_42 nN_cX11_isWithin (by decide +kernel)
theorem dX11_isWithin_60 : decode cX11_isWithin 60 = .ok (.iconst 5, 1) := op_8 nN_cX11_isWithin (by decide +kernel)
theorem dX11_isWithin_61 : decode cX11_isWithin 61 = .ok (.iaload, 1) := op_46 nN_cX11_isWithin (by decide +kernel)
theorem dX11_isWithin_62 : decode cX11_isWithin 62 = .ok (.i2l, 1) := op_133 nN_cX11_isWithin (by decide +kernel)
theorem dX11_isWithin_63 : decode cX11_isWithin 63 = .ok (.aload_n 0, 1) := op_42 nN_cX11_isWithin (by decide +kernel)
theorem dX11_isWithin_64 : decode cX11_isWithin 64 = .ok (.iconst 0, 1) := op_3 nN_cX11_isWithin (by decide +kernel)
theorem dX11_isWithin_65 : decode cX11_isWithin 65 = .ok (.iaload, 1) := op_46 nN_cX11_isWithin (by decide +kernel)
theorem dX11_isWithin_66 : decode cX11_isWithin 66 = .ok (.i2l, 1) := op_133 nN_cX11_isWithin (by decide +kernel)
theorem dX11_isWithin_67 : decode cX11_isWithin 67 = .ok (.aload_n 0, 1) := op_42 nN_cX11_isWithin (by decide +kernel)
theorem dX11_isWithin_68 : decode cX11_isWithin 68 = .ok (.iconst 1, 1) := op_4 nN_cX11_isWithin (by decide +kernel)
theorem dX11_isWithin_69 : decode cX11_isWithin 69 = .ok (.iaload, 1) := op_46 nN_cX11_isWithin (by decide +kernel)
theorem dX11_isWithin_70 : decode cX11_isWithin 70 = .ok (.i2l, 1) := op_133 nN_cX11_isWithin (by decide +kernel)
theorem dX11_isWithin_71 : decode cX11_isWithin 71 = .ok (.iload_n 1, 1) := op_27 nN_cX11_isWithin (by decide +kernel)
theorem dX11_isWithin_72 : decode cX11_isWithin 72 = .ok (.i2l, 1) := op_133 nN_cX11_isWithin (by decide +kernel)
theorem dX11_isWithin_73 : decode cX11_isWithin 73 = .ok (.iload_n 2, 1) := op_28 nN_cX11_isWithin (by decide +kernel)
theorem dX11_isWithin_74 : decode cX11_isWithin 74 = .ok (.i2l, 1) := op_133 nN_cX11_isWithin (by decide +kernel)
theorem dX11_isWithin_75 : decode cX11_isWithin 75 = .ok (.invokestatic 140, 3) := op_184 nN_cX11_isWithin (by decide +kernel)
theorem dX11_isWithin_78 : decode cX11_isWithin 78 = .ok (.invokestatic 153, 3) := op_184 nN_cX11_isWithin (by decide +kernel)
theorem dX11_isWithin_81 : decode cX11_isWithin 81 = .ok (.istore 5, 2) := op_54 nN_cX11_isWithin (by decide +kernel)
theorem dX11_isWithin_83 : decode cX11_isWithin 83 = .ok (.aload_n 0, 1) := op_42 nN_cX11_isWithin (by decide +kernel)
theorem dX11_isWithin_84 : decode cX11_isWithin 84 = .ok (.iconst 0, 1) := op_3 nN_cX11_isWithin (by decide +kernel)
theorem dX11_isWithin_85 : decode cX11_isWithin 85 = .ok (.iaload, 1) := op_46 nN_cX11_isWithin (by decide +kernel)
theorem dX11_isWithin_86 : decode cX11_isWithin 86 = .ok (.i2l, 1) := op_133 nN_cX11_isWithin (by decide +kernel)
theorem dX11_isWithin_87 : decode cX11_isWithin 87 = .ok (.aload_n 0, 1) := op_42 nN_cX11_isWithin (by decide +kernel)
theorem dX11_isWithin_88 : decode cX11_isWithin 88 = .ok (.iconst 1, 1) := op_4 nN_cX11_isWithin (by decide +kernel)
theorem dX11_isWithin_89 : decode cX11_isWithin 89 = .ok (.iaload, 1) := op_46 nN_cX11_isWithin (by decide +kernel)
theorem dX11_isWithin_90 : decode cX11_isWithin 90 = .ok (.i2l, 1) := op_133 nN_cX11_isWithin (by decide +kernel)
theorem dX11_isWithin_91 : decode cX11_isWithin 91 = .ok (.aload_n 0, 1) := op_42 nN_cX11_isWithin (by decide +kernel)
theorem dX11_isWithin_92 : decode cX11_isWithin 92 = .ok (.iconst 2, 1) := op_5 nN_cX11_isWithin (by decide +kernel)
theorem dX11_isWithin_93 : decode cX11_isWithin 93 = .ok (.iaload, 1) := op_46 nN_cX11_isWithin (by decide +kernel)
theorem dX11_isWithin_94 : decode cX11_isWithin 94 = .ok (.i2l, 1) := op_133 nN_cX11_isWithin (by decide +kernel)
theorem dX11_isWithin_95 : decode cX11_isWithin 95 = .ok (.aload_n 0, 1) := op_42 nN_cX11_isWithin (by decide +kernel)
theorem dX11_isWithin_96 : decode cX11_isWithin 96 = .ok (.iconst 3, 1) := op_6 nN_cX11_isWithin (by decide +kernel)
theorem dX11_isWithin_97 : decode cX11_isWithin 97 = .ok (.iaload, 1) := op_46 nN_cX11_isWithin (by decide +kernel)
theorem dX11_isWithin_98 : decode cX11_isWithin 98 = .ok (.i2l, 1) := op_133 nN_cX11_isWithin (by decide +kernel)
theorem dX11_isWithin_99 : decode cX11_isWithin 99 = .ok (.aload_n 0, 1) := op_42 nN_cX11_isWithin (by decide +kernel)
theorem dX11_isWithin_100 : decode cX11_isWithin 100 = .ok (.iconst 4, 1) := op_7 nN_cX11_isWithin (by decide +kernel)
theorem dX11_isWithin_101 : decode cX11_isWithin 101 = .ok (.iaload, 1) := op_46 nN_cX11_isWithin (by decide +kernel)
theorem dX11_isWithin_102 : decode cX11_isWithin 102 = .ok (.i2l, 1) := op_133 nN_cX11_isWithin (by decide +kernel)
theorem dX11_isWithin_103 : decode cX11_isWithin 103 = .ok (.aload_n 0, 1) := op_42 nN_cX11_isWithin (by decide +kernel)
theorem dX11_isWithin_104 : decode cX11_isWithin 104 = .ok (.iconst 5, 1) := op_8 nN_cX11_isWithin (by decide +kernel)
theorem dX11_isWithin_105 : decode cX11_isWithin 105 = .ok (.iaload, 1) := op_46 nN_cX11_isWithin (by decide +kernel)
theorem dX11_isWithin_106 : decode cX11_isWithin 106 = .ok (.i2l, 1) := op_133 nN_cX11_isWithin (by decide +kernel)
theorem dX11_isWithin_107 : decode cX11_isWithin 107 = .ok (.invokestatic 140, 3) := op_184 nN_cX11_isWithin (by decide +kernel)
theorem dX11_isWithin_110 : decode cX11_isWithin 110 = .ok (.lconst 0, 1) := op_9 nN_cX11_isWithin (by decide +kernel)
theorem dX11_isWithin_111 : decode cX11_isWithin 111 = .ok (.lcmp, 1) := op_148 nN_cX11_isWithin (by decide +kernel)
theorem dX11_isWithin_112 : decode cX11_isWithin 112 = .ok (.ifCond .ne 69, 3) := op_154 nN_cX11_isWithin (by decide +kernel)
theorem dX11_isWithin_115 : decode cX11_isWithin 115 = .ok (.aload_n 0, 1) := op_42 nN_cX11_isWithin (by decide +kernel)
theorem dX11_isWithin_116 : decode cX11_isWithin 116 = .ok (.iconst 0, 1) := op_3 nN_cX11_isWithin (by decide +kernel)
theorem dX11_isWithin_117 : decode cX11_isWithin 117 = .ok (.iaload, 1) := op_46 nN_cX11_isWithin (by decide +kernel)
theorem dX11_isWithin_118 : decode cX11_isWithin 118 = .ok (.aload_n 0, 1) := op_42 nN_cX11_isWithin (by decide +kernel)
theorem dX11_isWithin_119 : decode cX11_isWithin 119 = .ok (.iconst 1, 1) := op_4 nN_cX11_isWithin (by decide +kernel)
theorem dX11_isWithin_120 : decode cX11_isWithin 120 = .ok (.iaload, 1) := op_46 nN_cX11_isWithin (by decide +kernel)
theorem dX11_isWithin_121 : decode cX11_isWithin 121 = .ok (.aload_n 0, 1) := op_42 nN_cX11_isWithin (by decide +kernel)
theorem dX11_isWithin_122 : decode cX11_isWithin 122 = .ok (.iconst 2, 1) := op_5 nN_cX11_isWithin (by decide +kernel)
theorem dX11_isWithin_123 : decode cX11_isWithin 123 = .ok (.iaload, 1) := op_46 nN_cX11_isWithin (by decide +kernel)
theorem dX11_isWithin_124 : decode cX11_isWithin 124 = .ok (.aload_n 0, 1) := op_42 nN_cX11_isWithin (by decide +kernel)
theorem dX11_isWithin_125 : decode cX11_isWithin 125 = .ok (.iconst 3, 1) := op_6 nN_cX11_isWithin (by decide +kernel)
theorem dX11_isWithin_126 : decode cX11_isWithin 126 = .ok (.iaload, 1) := op_46 nN_cX11_isWithin (by decide +kernel)
theorem dX11_isWithin_127 : decode cX11_isWithin 127 = .ok (.iload_n 1, 1) := op_27 nN_cX11_isWithin (by decide +kernel)
theorem dX11_isWithin_128 : decode cX11_isWithin 128 = .ok (.iload_n 2, 1) := op_28 nN_cX11_isWithin (by decide +kernel)
theorem dX11_isWithin_129 : decode cX11_isWithin 129 = .ok (.invokestatic 157, 3) := op_184 nN_cX11_isWithin (by decide +kernel)
theorem dX11_isWithin_132 : decode cX11_isWithin 132 = .ok (.ifCond .ne 43, 3) := op_154 nN_cX11_isWithin (by decide +kernel)
theorem dX11_isWithin_135 : decode cX11_isWithin 135 = .ok (.aload_n 0, 1) := op_42 nN_cX11_isWithin (by decide +kernel)
theorem dX11_isWithin_136 : decode cX11_isWithin 136 = .ok (.iconst 2, 1) := op_5 nN_cX11_isWithin (by decide +kernel)
theorem dX11_isWithin_137 : decode cX11_isWithin 137 = .ok (.iaload, 1) := op_46 nN_cX11_isWithin (by decide +kernel)
theorem dX11_isWithin_138 : decode cX11_isWithin 138 = .ok (.aload_n 0, 1) := op_42 nN_cX11_isWithin (by decide +kernel)
theorem dX11_isWithin_139 : decode cX11_isWithin 139 = .ok (.iconst 3, 1) := op_6 nN_cX11_isWithin (by decide +kernel)
theorem dX11_isWithin_140 : decode cX11_isWithin 140 = .ok (.iaload, 1) := op_46 nN_cX11_isWithin (by decide +kernel)
theorem dX11_isWithin_141 : decode cX11_isWithin 141 = .ok (.aload_n 0, 1) := op_42 nN_cX11_isWithin (by decide +kernel)
theorem dX11_isWithin_142 : decode cX11_isWithin 142 = .ok (.iconst 4, 1) := op_7 nN_cX11_isWithin (by decide +kernel)
theorem dX11_isWithin_143 : decode cX11_isWithin 143 = .ok (.iaload, 1) := op_46 nN_cX11_isWithin (by decide +kernel)
theorem dX11_isWithin_144 : decode cX11_isWithin 144 = .ok (.aload_n 0, 1) := op_42 nN_cX11_isWithin (by decide +kernel)
theorem dX11_isWithin_145 : decode cX11_isWithin 145 = .ok (.iconst 5, 1) := op_8 nN_cX11_isWithin (by decide +kernel)
theorem dX11_isWithin_146 : decode cX11_isWithin 146 = .ok (.iaload, 1) := op_46 nN_cX11_isWithin (by decide +kernel)
theorem dX11_isWithin_147 : decode cX11_isWithin 147 = .ok (.iload_n 1, 1) := op_27 nN_cX11_isWithin (by decide +kernel)
theorem dX11_isWithin_148 : decode cX11_isWithin 148 = .ok (.iload_n 2, 1) := op_28 nN_cX11_isWithin (by decide +kernel)
theorem dX11_isWithin_149 : decode cX11_isWithin 149 = .ok (.invokestatic 157, 3) := op_184 nN_cX11_isWithin (by decide +kernel)
theorem dX11_isWithin_152 : decode cX11_isWithin 152 = .ok (.ifCond .ne 23, 3) := op_154 nN_cX11_isWithin (by decide +kernel)
theorem dX11_isWithin_155 : decode cX11_isWithin 155 = .ok (.aload_n 0, 1) := op_42 nN_cX11_isWithin (by decide +kernel)
theorem dX11_isWithin_156 : decode cX11_isWithin 156 = .ok (.iconst 4, 1) := op_7 nN_cX11_isWithin (by decide +kernel)
theorem dX11_isWithin_157 : decode cX11_isWithin 157 = .ok (.iaload, 1) := op_46 nN_cX11_isWithin (by decide +kernel)
theorem dX11_isWithin_158 : decode cX11_isWithin 158 = .ok (.aload_n 0, 1) := op_42 nN_cX11_isWithin (by decide +kernel)
theorem dX11_isWithin_159 : decode cX11_isWithin 159 = .ok (.iconst 5, 1) := op_8 nN_cX11_isWithin (by decide +kernel)
theorem dX11_isWithin_160 : decode cX11_isWithin 160 = .ok (.iaload, 1) := op_46 nN_cX11_isWithin (by decide +kernel)
theorem dX11_isWithin_161 : decode cX11_isWithin 161 = .ok (.aload_n 0, 1) := op_42 nN_cX11_isWithin (by decide +kernel)
theorem dX11_isWithin_162 : decode cX11_isWithin 162 = .ok (.iconst 0, 1) := op_3 nN_cX11_isWithin (by decide +kernel)
theorem dX11_isWithin_163 : decode cX11_isWithin 163 = .ok (.iaload, 1) := op_46 nN_cX11_isWithin (by decide +kernel)
theorem dX11_isWithin_164 : decode cX11_isWithin 164 = .ok (.aload_n 0, 1) := op_42 nN_cX11_isWithin (by decide +kernel)
theorem dX11_isWithin_165 : decode cX11_isWithin 165 = .ok (.iconst 1, 1) := op_4 nN_cX11_isWithin (by decide +kernel)
theorem dX11_isWithin_166 : decode cX11_isWithin 166 = .ok (.iaload, 1) := op_46 nN_cX11_isWithin (by decide +kernel)
theorem dX11_isWithin_167 : decode cX11_isWithin 167 = .ok (.iload_n 1, 1) := op_27 nN_cX11_isWithin (by decide +kernel)
theorem dX11_isWithin_168 : decode cX11_isWithin 168 = .ok (.iload_n 2, 1) := op_28 nN_cX11_isWithin (by decide +kernel)
theorem dX11_isWithin_169 : decode cX11_isWithin 169 = .ok (.invokestatic 157, 3) := op_184 nN_cX11_isWithin (by decide +kernel)
theorem dX11_isWithin_172 : decode cX11_isWithin 172 = .ok (.ifCond .eq 7, 3) := op_153 nN_cX11_isWithin (by decide +kernel)
theorem dX11_isWithin_175 : decode cX11_isWithin 175 = .ok (.iconst 1, 1) := op_4 nN_cX11_isWithin (by decide +kernel)
theorem dX11_isWithin_176 : decode cX11_isWithin 176 = .ok (.goto 4, 3) := op_167 nN_cX11_isWithin (by decide +kernel)
theorem dX11_isWithin_179 : decode cX11_isWithin 179 = .ok (.iconst 0, 1) := op_3 nN_cX11_isWithin (by decide +kernel)
theorem dX11_isWithin_180 : decode cX11_isWithin 180 = .ok (.ireturn, 1) := op_172 nN_cX11_isWithin (by decide +kernel)
theorem dX11_isWithin_181 : decode cX11_isWithin 181 = .ok (.iload_n 3, 1) := op_29 nN_cX11_isWithin (by decide +kernel)
theorem dX11_isWithin_182 : decode cX11_isWithin 182 = .ok (.ifCond .lt 13, 3) := op_155 nN_cX11_isWithin (by decide +kernel)
theorem dX11_isWithin_185 : decode cX11_isWithin 185 = .ok (.iload 4, 2) := op_21 nN_cX11_isWithin (by decide +kernel)
theorem dX11_isWithin_187 : decode cX11_isWithin 187 = .ok (.ifCond .lt 8, 3) := op_155 nN_cX11_isWithin (by decide +kernel)
theorem dX11_isWithin_190 : decode cX11_isWithin 190 = .ok (.iload 5, 2) := op_21 nN_cX11_isWithin (by decide +kernel)
theorem dX11_isWithin_192 : decode cX11_isWithin 192 = .ok (.ifCond .ge 17, 3) := op_156 nN_cX11_isWithin (by decide +kernel)
theorem dX11_isWithin_195 : decode cX11_isWithin 195 = .ok (.iload_n 3, 1) := op_29 nN_cX11_isWithin (by decide +kernel)
theorem dX11_isWithin_196 : decode cX11_isWithin 196 = .ok (.ifCond .gt 17, 3) := op_157 nN_cX11_isWithin (by decide +kernel)
theorem dX11_isWithin_199 : decode cX11_isWithin 199 = .ok (.iload 4, 2) := op_21 nN_cX11_isWithin (by decide +kernel)
theorem dX11_isWithin_201 : decode cX11_isWithin 201 = .ok (.ifCond .gt 12, 3) := op_157 nN_cX11_isWithin (by decide +kernel)
theorem dX11_isWithin_204 : decode cX11_isWithin 204 = .ok (.iload 5, 2) := op_21 nN_cX11_isWithin (by decide +kernel)
theorem dX11_isWithin_206 : decode cX11_isWithin 206 = .ok (.ifCond .gt 7, 3) := op_157 nN_cX11_isWithin (by decide +kernel)
theorem dX11_isWithin_209 : decode cX11_isWithin 209 = .ok (.iconst 1, 1) := op_4 nN_cX11_isWithin (by decide +kernel)
theorem dX11_isWithin_210 : decode cX11_isWithin 210 = .ok (.goto 4, 3) := op_167 nN_cX11_isWithin (by decide +kernel)
theorem dX11_isWithin_213 : decode cX11_isWithin 213 = .ok (.iconst 0, 1) := op_3 nN_cX11_isWithin (by decide +kernel)
theorem dX11_isWithin_214 : decode cX11_isWithin 214 = .ok (.ireturn, 1) := op_172 nN_cX11_isWithin (by decide +kernel)
theorem nN_cX11_edgesOf : onN cX11_edgesOf.data.toList = 0x2b4ca051787054015a8ac1801540bc382a00ad4560d00a6944015b870561d00aa00a0800a6c5e1c040056a2b := by decide +kernel
theorem dX11_edgesOf_0 : decode cX11_edgesOf 0 = .ok (.aload_n 0, 1) := op_42 nN_cX11_edgesOf (by decide +kernel)
theorem dX11_edgesOf_1 : decode cX11_edgesOf 1 = .ok (.getfield 7, 3) := op_180 nN_cX11_edgesOf (by decide +kernel)
theorem dX11_edgesOf_4 : decode cX11_edgesOf 4 = .ok (.iload_n 1, 1) := op_27 nN_cX11_edgesOf (by decide +kernel)
theorem dX11_edgesOf_5 : decode cX11_edgesOf 5 = .ok (.iaload, 1) := op_46 nN_cX11_edgesOf (by decide +kernel)
theorem dX11_edgesOf_6 : decode cX11_edgesOf 6 = .ok (.ifCond .ne 7, 3) := op_154 nN_cX11_edgesOf (by decide +kernel)
theorem dX11_edgesOf_9 : decode cX11_edgesOf 9 = .ok (.iconst 1, 1) := op_4 nN_cX11_edgesOf (by decide +kernel)
theorem dX11_edgesOf_10 : decode cX11_edgesOf 10 = .ok (.goto 28, 3) := op_167 nN_cX11_edgesOf (by decide +kernel)
theorem dX11_edgesOf_13 : decode cX11_edgesOf 13 = .ok (.aload_n 0, 1) := op_42 nN_cX11_edgesOf (by decide +kernel)
theorem dX11_edgesOf_14 : decode cX11_edgesOf 14 = .ok (.iload_n 1, 1) := op_27 nN_cX11_edgesOf (by decide +kernel)
theorem dX11_edgesOf_15 : decode cX11_edgesOf 15 = .ok (.invokevirtual 161, 3) := op_182 nN_cX11_edgesOf (by decide +kernel)
theorem dX11_edgesOf_18 : decode cX11_edgesOf 18 = .ok (.ifCond .eq 12, 3) := op_153 nN_cX11_edgesOf (by decide +kernel)
theorem dX11_edgesOf_21 : decode cX11_edgesOf 21 = .ok (.aload_n 0, 1) := op_42 nN_cX11_edgesOf (by decide +kernel)
theorem dX11_edgesOf_22 : decode cX11_edgesOf 22 = .ok (.getfield 41, 3) := op_180 nN_cX11_edgesOf (by decide +kernel)
theorem dX11_edgesOf_25 : decode cX11_edgesOf 25 = .ok (.iload_n 1, 1) := op_27 nN_cX11_edgesOf (by decide +kernel)
theorem dX11_edgesOf_26 : decode cX11_edgesOf 26 = .ok (.iaload, 1) := op_46 nN_cX11_edgesOf (by decide +kernel)
theorem dX11_edgesOf_27 : decode cX11_edgesOf 27 = .ok (.goto 11, 3) := op_167 nN_cX11_edgesOf (by decide +kernel)
theorem dX11_edgesOf_30 : decode cX11_edgesOf 30 = .ok (.aload_n 0, 1) := op_42 nN_cX11_edgesOf (by decide +kernel)
theorem dX11_edgesOf_31 : decode cX11_edgesOf 31 = .ok (.getfield 41, 3) := op_180 nN_cX11_edgesOf (by decide +kernel)
theorem dX11_edgesOf_34 : decode cX11_edgesOf 34 = .ok (.iload_n 1, 1) := op_27 nN_cX11_edgesOf (by decide +kernel)
theorem dX11_edgesOf_35 : decode cX11_edgesOf 35 = .ok (.iaload, 1) := op_46 nN_cX11_edgesOf (by decide +kernel)
theorem dX11_edgesOf_36 : decode cX11_edgesOf 36 = .ok (.iconst 1, 1) := op_4 nN_cX11_edgesOf (by decide +kernel)
theorem dX11_edgesOf_37 : decode cX11_edgesOf 37 = .ok (.isub, 1) := op_100 nN_cX11_edgesOf (by decide +kernel)
theorem dX11_edgesOf_38 : decode cX11_edgesOf 38 = .ok (.ireturn, 1) := op_172 nN_cX11_edgesOf (by decide +kernel)
theorem nN_cX11_edge : onN cX11_edge.data.toList = 0xb2280bc0c16180056a2b3081c3c5400ad45650178182c2d00ad4566103078a8015a8aca02f0285860015a8acc2050f15002b5159405e050b0b402b515878a8015a8ac0c37309840a1d03805500404005422f0e0a802b5159840a1d348705211028dcc21d348705211 := by decide +kernel
theorem dX11_edge_0 : decode cX11_edge 0 = .ok (.bipush 40, 2) := op_16 nN_cX11_edge (by decide +kernel)
theorem dX11_edge_2 : decode cX11_edge 2 = .ok (.iload_n 1, 1) := op_27 nN_cX11_edge (by decide +kernel)
theorem dX11_edge_3 : decode cX11_edge 3 = .ok (.imul, 1) := op_104 nN_cX11_edge (by decide +kernel)
theorem dX11_edge_4 : decode cX11_edge 4 = .ok (.iload_n 2, 1) := op_28 nN_cX11_edge (by decide +kernel)
theorem dX11_edge_5 : decode cX11_edge 5 = .ok (.iadd, 1) := op_96 nN_cX11_edge (by decide +kernel)
theorem dX11_edge_6 : decode cX11_edge 6 = .ok (.istore 4, 2) := op_54 nN_cX11_edge (by decide +kernel)
theorem dX11_edge_8 : decode cX11_edge 8 = .ok (.bipush 40, 2) := op_16 nN_cX11_edge (by decide +kernel)
theorem dX11_edge_10 : decode cX11_edge 10 = .ok (.iload_n 1, 1) := op_27 nN_cX11_edge (by decide +kernel)
theorem dX11_edge_11 : decode cX11_edge 11 = .ok (.imul, 1) := op_104 nN_cX11_edge (by decide +kernel)
theorem dX11_edge_12 : decode cX11_edge 12 = .ok (.iload_n 2, 1) := op_28 nN_cX11_edge (by decide +kernel)
theorem dX11_edge_13 : decode cX11_edge 13 = .ok (.iconst 1, 1) := op_4 nN_cX11_edge (by decide +kernel)
theorem dX11_edge_14 : decode cX11_edge 14 = .ok (.iadd, 1) := op_96 nN_cX11_edge (by decide +kernel)
theorem dX11_edge_15 : decode cX11_edge 15 = .ok (.aload_n 0, 1) := op_42 nN_cX11_edge (by decide +kernel)
theorem dX11_edge_16 : decode cX11_edge 16 = .ok (.getfield 41, 3) := op_180 nN_cX11_edge (by decide +kernel)
theorem dX11_edge_19 : decode cX11_edge 19 = .ok (.iload_n 1, 1) := op_27 nN_cX11_edge (by decide +kernel)
theorem dX11_edge_20 : decode cX11_edge 20 = .ok (.iaload, 1) := op_46 nN_cX11_edge (by decide +kernel)
theorem dX11_edge_21 : decode cX11_edge 21 = .ok (.if_icmp .ne 7, 3) := op_160 nN_cX11_edge (by decide +kernel)
theorem dX11_edge_24 : decode cX11_edge 24 = .ok (.iconst 0, 1) := op_3 nN_cX11_edge (by decide +kernel)
theorem dX11_edge_25 : decode cX11_edge 25 = .ok (.goto 6, 3) := op_167 nN_cX11_edge (by decide +kernel)
theorem dX11_edge_28 : decode cX11_edge 28 = .ok (.iload_n 2, 1) := op_28 nN_cX11_edge (by decide +kernel)
theorem dX11_edge_29 : decode cX11_edge 29 = .ok (.iconst 1, 1) := op_4 nN_cX11_edge (by decide +kernel)
theorem dX11_edge_30 : decode cX11_edge 30 = .ok (.iadd, 1) := op_96 nN_cX11_edge (by decide +kernel)
theorem dX11_edge_31 : decode cX11_edge 31 = .ok (.iadd, 1) := op_96 nN_cX11_edge (by decide +kernel)
theorem dX11_edge_32 : decode cX11_edge 32 = .ok (.istore 5, 2) := op_54 nN_cX11_edge (by decide +kernel)
theorem dX11_edge_34 : decode cX11_edge 34 = .ok (.aload_n 0, 1) := op_42 nN_cX11_edge (by decide +kernel)
theorem dX11_edge_35 : decode cX11_edge 35 = .ok (.getfield 83, 3) := op_180 nN_cX11_edge (by decide +kernel)
theorem dX11_edge_38 : decode cX11_edge 38 = .ok (.iload_n 3, 1) := op_29 nN_cX11_edge (by decide +kernel)
theorem dX11_edge_39 : decode cX11_edge 39 = .ok (.aload_n 0, 1) := op_42 nN_cX11_edge (by decide +kernel)
theorem dX11_edge_40 : decode cX11_edge 40 = .ok (.getfield 44, 3) := op_180 nN_cX11_edge (by decide +kernel)
theorem dX11_edge_43 : decode cX11_edge 43 = .ok (.iload 4, 2) := op_21 nN_cX11_edge (by decide +kernel)
theorem dX11_edge_45 : decode cX11_edge 45 = .ok (.iaload, 1) := op_46 nN_cX11_edge (by decide +kernel)
theorem dX11_edge_46 : decode cX11_edge 46 = .ok (.iastore, 1) := op_79 nN_cX11_edge (by decide +kernel)
theorem dX11_edge_47 : decode cX11_edge 47 = .ok (.aload_n 0, 1) := op_42 nN_cX11_edge (by decide +kernel)
theorem dX11_edge_48 : decode cX11_edge 48 = .ok (.getfield 83, 3) := op_180 nN_cX11_edge (by decide +kernel)
theorem dX11_edge_51 : decode cX11_edge 51 = .ok (.iload_n 3, 1) := op_29 nN_cX11_edge (by decide +kernel)
theorem dX11_edge_52 : decode cX11_edge 52 = .ok (.iconst 1, 1) := op_4 nN_cX11_edge (by decide +kernel)
theorem dX11_edge_53 : decode cX11_edge 53 = .ok (.iadd, 1) := op_96 nN_cX11_edge (by decide +kernel)
theorem dX11_edge_54 : decode cX11_edge 54 = .ok (.aload_n 0, 1) := op_42 nN_cX11_edge (by decide +kernel)
theorem dX11_edge_55 : decode cX11_edge 55 = .ok (.getfield 47, 3) := op_180 nN_cX11_edge (by decide +kernel)
theorem dX11_edge_58 : decode cX11_edge 58 = .ok (.iload 4, 2) := op_21 nN_cX11_edge (by decide +kernel)
theorem dX11_edge_60 : decode cX11_edge 60 = .ok (.iaload, 1) := op_46 nN_cX11_edge (by decide +kernel)
theorem dX11_edge_61 : decode cX11_edge 61 = .ok (.iastore, 1) := op_79 nN_cX11_edge (by decide +kernel)
theorem dX11_edge_62 : decode cX11_edge 62 = .ok (.aload_n 0, 1) := op_42 nN_cX11_edge (by decide +kernel)
theorem dX11_edge_63 : decode cX11_edge 63 = .ok (.getfield 83, 3) := op_180 nN_cX11_edge (by decide +kernel)
theorem dX11_edge_66 : decode cX11_edge 66 = .ok (.iload_n 3, 1) := op_29 nN_cX11_edge (by decide +kernel)
theorem dX11_edge_67 : decode cX11_edge 67 = .ok (.iconst 2, 1) := op_5 nN_cX11_edge (by decide +kernel)
theorem dX11_edge_68 : decode cX11_edge 68 = .ok (.iadd, 1) := op_96 nN_cX11_edge (by decide +kernel)
theorem dX11_edge_69 : decode cX11_edge 69 = .ok (.aload_n 0, 1) := op_42 nN_cX11_edge (by decide +kernel)
theorem dX11_edge_70 : decode cX11_edge 70 = .ok (.getfield 44, 3) := op_180 nN_cX11_edge (by decide +kernel)
theorem dX11_edge_73 : decode cX11_edge 73 = .ok (.iload 5, 2) := op_21 nN_cX11_edge (by decide +kernel)
theorem dX11_edge_75 : decode cX11_edge 75 = .ok (.iaload, 1) := op_46 nN_cX11_edge (by decide +kernel)
theorem dX11_edge_76 : decode cX11_edge 76 = .ok (.iastore, 1) := op_79 nN_cX11_edge (by decide +kernel)
theorem dX11_edge_77 : decode cX11_edge 77 = .ok (.aload_n 0, 1) := op_42 nN_cX11_edge (by decide +kernel)
theorem dX11_edge_78 : decode cX11_edge 78 = .ok (.getfield 83, 3) := op_180 nN_cX11_edge (by decide +kernel)
theorem dX11_edge_81 : decode cX11_edge 81 = .ok (.iload_n 3, 1) := op_29 nN_cX11_edge (by decide +kernel)
theorem dX11_edge_82 : decode cX11_edge 82 = .ok (.iconst 3, 1) := op_6 nN_cX11_edge (by decide +kernel)
theorem dX11_edge_83 : decode cX11_edge 83 = .ok (.iadd, 1) := op_96 nN_cX11_edge (by decide +kernel)
theorem dX11_edge_84 : decode cX11_edge 84 = .ok (.aload_n 0, 1) := op_42 nN_cX11_edge (by decide +kernel)
theorem dX11_edge_85 : decode cX11_edge 85 = .ok (.getfield 47, 3) := op_180 nN_cX11_edge (by decide +kernel)
theorem dX11_edge_88 : decode cX11_edge 88 = .ok (.iload 5, 2) := op_21 nN_cX11_edge (by decide +kernel)
theorem dX11_edge_90 : decode cX11_edge 90 = .ok (.iaload, 1) := op_46 nN_cX11_edge (by decide +kernel)
theorem dX11_edge_91 : decode cX11_edge 91 = .ok (.iastore, 1) := op_79 nN_cX11_edge (by decide +kernel)
theorem dX11_edge_92 : decode cX11_edge 92 = .ok (.return_, 1) := op_177 nN_cX11_edge (by decide +kernel)
theorem nN_cX11_isMet : onN cX11_isMet.data.toList = 0xad0231e00a8010110ae0802a0040542ab40a0600a6958015c95002b515aa002b7040142c1d1587802a3528056e1d158142c051b81150015b8103c1c158e002a3528056e1c158787e04 := by decide +kernel
theorem dX11_isMet_0 : decode cX11_isMet 0 = .ok (.iconst 0, 1) := op_3 nN_cX11_isMet (by decide +kernel)
theorem dX11_isMet_1 : decode cX11_isMet 1 = .ok (.istore_n 3, 1) := op_62 nN_cX11_isMet (by decide +kernel)
theorem dX11_isMet_2 : decode cX11_isMet 2 = .ok (.iload_n 3, 1) := op_29 nN_cX11_isMet (by decide +kernel)
theorem dX11_isMet_3 : decode cX11_isMet 3 = .ok (.aload_n 0, 1) := op_42 nN_cX11_isMet (by decide +kernel)
theorem dX11_isMet_4 : decode cX11_isMet 4 = .ok (.iload_n 1, 1) := op_27 nN_cX11_isMet (by decide +kernel)
theorem dX11_isMet_5 : decode cX11_isMet 5 = .ok (.invokevirtual 164, 3) := op_182 nN_cX11_isMet (by decide +kernel)
theorem dX11_isMet_8 : decode cX11_isMet 8 = .ok (.if_icmp .ge 55, 3) := op_162 nN_cX11_isMet (by decide +kernel)
theorem dX11_isMet_11 : decode cX11_isMet 11 = .ok (.aload_n 0, 1) := op_42 nN_cX11_isMet (by decide +kernel)
theorem dX11_isMet_12 : decode cX11_isMet 12 = .ok (.iload_n 1, 1) := op_27 nN_cX11_isMet (by decide +kernel)
theorem dX11_isMet_13 : decode cX11_isMet 13 = .ok (.iload_n 3, 1) := op_29 nN_cX11_isMet (by decide +kernel)
theorem dX11_isMet_14 : decode cX11_isMet 14 = .ok (.iconst 0, 1) := op_3 nN_cX11_isMet (by decide +kernel)
theorem dX11_isMet_15 : decode cX11_isMet 15 = .ok (.invokevirtual 167, 3) := op_182 nN_cX11_isMet (by decide +kernel)
theorem dX11_isMet_18 : decode cX11_isMet 18 = .ok (.iconst 0, 1) := op_3 nN_cX11_isMet (by decide +kernel)
theorem dX11_isMet_19 : decode cX11_isMet 19 = .ok (.istore 4, 2) := op_54 nN_cX11_isMet (by decide +kernel)
theorem dX11_isMet_21 : decode cX11_isMet 21 = .ok (.iload 4, 2) := op_21 nN_cX11_isMet (by decide +kernel)
theorem dX11_isMet_23 : decode cX11_isMet 23 = .ok (.aload_n 0, 1) := op_42 nN_cX11_isMet (by decide +kernel)
theorem dX11_isMet_24 : decode cX11_isMet 24 = .ok (.iload_n 2, 1) := op_28 nN_cX11_isMet (by decide +kernel)
theorem dX11_isMet_25 : decode cX11_isMet 25 = .ok (.invokevirtual 164, 3) := op_182 nN_cX11_isMet (by decide +kernel)
theorem dX11_isMet_28 : decode cX11_isMet 28 = .ok (.if_icmp .ge 29, 3) := op_162 nN_cX11_isMet (by decide +kernel)
theorem dX11_isMet_31 : decode cX11_isMet 31 = .ok (.aload_n 0, 1) := op_42 nN_cX11_isMet (by decide +kernel)
theorem dX11_isMet_32 : decode cX11_isMet 32 = .ok (.iload_n 2, 1) := op_28 nN_cX11_isMet (by decide +kernel)
theorem dX11_isMet_33 : decode cX11_isMet 33 = .ok (.iload 4, 2) := op_21 nN_cX11_isMet (by decide +kernel)
theorem dX11_isMet_35 : decode cX11_isMet 35 = .ok (.iconst 4, 1) := op_7 nN_cX11_isMet (by decide +kernel)
theorem dX11_isMet_36 : decode cX11_isMet 36 = .ok (.invokevirtual 167, 3) := op_182 nN_cX11_isMet (by decide +kernel)
theorem dX11_isMet_39 : decode cX11_isMet 39 = .ok (.aload_n 0, 1) := op_42 nN_cX11_isMet (by decide +kernel)
theorem dX11_isMet_40 : decode cX11_isMet 40 = .ok (.getfield 83, 3) := op_180 nN_cX11_isMet (by decide +kernel)
theorem dX11_isMet_43 : decode cX11_isMet 43 = .ok (.invokestatic 171, 3) := op_184 nN_cX11_isMet (by decide +kernel)
theorem dX11_isMet_46 : decode cX11_isMet 46 = .ok (.ifCond .eq 5, 3) := op_153 nN_cX11_isMet (by decide +kernel)
theorem dX11_isMet_49 : decode cX11_isMet 49 = .ok (.iconst 1, 1) := op_4 nN_cX11_isMet (by decide +kernel)
theorem dX11_isMet_50 : decode cX11_isMet 50 = .ok (.ireturn, 1) := op_172 nN_cX11_isMet (by decide +kernel)
theorem dX11_isMet_51 : decode cX11_isMet 51 = .ok (.iinc 4 1, 3) := op_132 nN_cX11_isMet (by decide +kernel)
theorem dX11_isMet_54 : decode cX11_isMet 54 = .ok (.goto (-33), 3) := op_167 nN_cX11_isMet (by decide +kernel)
theorem dX11_isMet_57 : decode cX11_isMet 57 = .ok (.iinc 3 1, 3) := op_132 nN_cX11_isMet (by decide +kernel)
theorem dX11_isMet_60 : decode cX11_isMet 60 = .ok (.goto (-58), 3) := op_167 nN_cX11_isMet (by decide +kernel)
theorem dX11_isMet_63 : decode cX11_isMet 63 = .ok (.iconst 0, 1) := op_3 nN_cX11_isMet (by decide +kernel)
theorem dX11_isMet_64 : decode cX11_isMet 64 = .ok (.ireturn, 1) := op_172 nN_cX11_isMet (by decide +kernel)
theorem nN_cX11_isOnSet : onN cX11_isOnSet.data.toList = 0x2b408ca802a0040542ab40a0600a693c015c8783a2f0395002b5158bc0c5400ad4562f0295002b5158bc085400ad456a800adc08050b070563400a8d4a015b87056050b0146e04 := by decide +kernel
theorem dX11_isOnSet_0 : decode cX11_isOnSet 0 = .ok (.iconst 0, 1) := op_3 nN_cX11_isOnSet (by decide +kernel)
theorem dX11_isOnSet_1 : decode cX11_isOnSet 1 = .ok (.istore 4, 2) := op_54 nN_cX11_isOnSet (by decide +kernel)
theorem dX11_isOnSet_3 : decode cX11_isOnSet 3 = .ok (.iload 4, 2) := op_21 nN_cX11_isOnSet (by decide +kernel)
theorem dX11_isOnSet_5 : decode cX11_isOnSet 5 = .ok (.aload_n 0, 1) := op_42 nN_cX11_isOnSet (by decide +kernel)
theorem dX11_isOnSet_6 : decode cX11_isOnSet 6 = .ok (.iload_n 1, 1) := op_27 nN_cX11_isOnSet (by decide +kernel)
theorem dX11_isOnSet_7 : decode cX11_isOnSet 7 = .ok (.invokevirtual 164, 3) := op_182 nN_cX11_isOnSet (by decide +kernel)
theorem dX11_isOnSet_10 : decode cX11_isOnSet 10 = .ok (.if_icmp .ge 51, 3) := op_162 nN_cX11_isOnSet (by decide +kernel)
theorem dX11_isOnSet_13 : decode cX11_isOnSet 13 = .ok (.aload_n 0, 1) := op_42 nN_cX11_isOnSet (by decide +kernel)
theorem dX11_isOnSet_14 : decode cX11_isOnSet 14 = .ok (.iload_n 1, 1) := op_27 nN_cX11_isOnSet (by decide +kernel)
theorem dX11_isOnSet_15 : decode cX11_isOnSet 15 = .ok (.iload 4, 2) := op_21 nN_cX11_isOnSet (by decide +kernel)
theorem dX11_isOnSet_17 : decode cX11_isOnSet 17 = .ok (.iconst 0, 1) := op_3 nN_cX11_isOnSet (by decide +kernel)
theorem dX11_isOnSet_18 : decode cX11_isOnSet 18 = .ok (.invokevirtual 167, 3) := op_182 nN_cX11_isOnSet (by decide +kernel)
theorem dX11_isOnSet_21 : decode cX11_isOnSet 21 = .ok (.aload_n 0, 1) := op_42 nN_cX11_isOnSet (by decide +kernel)
theorem dX11_isOnSet_22 : decode cX11_isOnSet 22 = .ok (.getfield 83, 3) := op_180 nN_cX11_isOnSet (by decide +kernel)
theorem dX11_isOnSet_25 : decode cX11_isOnSet 25 = .ok (.iconst 0, 1) := op_3 nN_cX11_isOnSet (by decide +kernel)
theorem dX11_isOnSet_26 : decode cX11_isOnSet 26 = .ok (.iaload, 1) := op_46 nN_cX11_isOnSet (by decide +kernel)
theorem dX11_isOnSet_27 : decode cX11_isOnSet 27 = .ok (.aload_n 0, 1) := op_42 nN_cX11_isOnSet (by decide +kernel)
theorem dX11_isOnSet_28 : decode cX11_isOnSet 28 = .ok (.getfield 83, 3) := op_180 nN_cX11_isOnSet (by decide +kernel)
theorem dX11_isOnSet_31 : decode cX11_isOnSet 31 = .ok (.iconst 1, 1) := op_4 nN_cX11_isOnSet (by decide +kernel)
theorem dX11_isOnSet_32 : decode cX11_isOnSet 32 = .ok (.iaload, 1) := op_46 nN_cX11_isOnSet (by decide +kernel)
theorem dX11_isOnSet_33 : decode cX11_isOnSet 33 = .ok (.aload_n 0, 1) := op_42 nN_cX11_isOnSet (by decide +kernel)
theorem dX11_isOnSet_34 : decode cX11_isOnSet 34 = .ok (.getfield 83, 3) := op_180 nN_cX11_isOnSet (by decide +kernel)
theorem dX11_isOnSet_37 : decode cX11_isOnSet 37 = .ok (.iconst 2, 1) := op_5 nN_cX11_isOnSet (by decide +kernel)
theorem dX11_isOnSet_38 : decode cX11_isOnSet 38 = .ok (.iaload, 1) := op_46 nN_cX11_isOnSet (by decide +kernel)
theorem dX11_isOnSet_39 : decode cX11_isOnSet 39 = .ok (.aload_n 0, 1) := op_42 nN_cX11_isOnSet (by decide +kernel)
theorem dX11_isOnSet_40 : decode cX11_isOnSet 40 = .ok (.getfield 83, 3) := op_180 nN_cX11_isOnSet (by decide +kernel)
theorem dX11_isOnSet_43 : decode cX11_isOnSet 43 = .ok (.iconst 3, 1) := op_6 nN_cX11_isOnSet (by decide +kernel)
theorem dX11_isOnSet_44 : decode cX11_isOnSet 44 = .ok (.iaload, 1) := op_46 nN_cX11_isOnSet (by decide +kernel)
theorem dX11_isOnSet_45 : decode cX11_isOnSet 45 = .ok (.iload_n 2, 1) := op_28 nN_cX11_isOnSet (by decide +kernel)
theorem dX11_isOnSet_46 : decode cX11_isOnSet 46 = .ok (.iload_n 3, 1) := op_29 nN_cX11_isOnSet (by decide +kernel)
theorem dX11_isOnSet_47 : decode cX11_isOnSet 47 = .ok (.invokestatic 157, 3) := op_184 nN_cX11_isOnSet (by decide +kernel)
theorem dX11_isOnSet_50 : decode cX11_isOnSet 50 = .ok (.ifCond .eq 5, 3) := op_153 nN_cX11_isOnSet (by decide +kernel)
theorem dX11_isOnSet_53 : decode cX11_isOnSet 53 = .ok (.iconst 1, 1) := op_4 nN_cX11_isOnSet (by decide +kernel)
theorem dX11_isOnSet_54 : decode cX11_isOnSet 54 = .ok (.ireturn, 1) := op_172 nN_cX11_isOnSet (by decide +kernel)
theorem dX11_isOnSet_55 : decode cX11_isOnSet 55 = .ok (.iinc 4 1, 3) := op_132 nN_cX11_isOnSet (by decide +kernel)
theorem dX11_isOnSet_58 : decode cX11_isOnSet 58 = .ok (.goto (-55), 3) := op_167 nN_cX11_isOnSet (by decide +kernel)
theorem dX11_isOnSet_61 : decode cX11_isOnSet 61 = .ok (.iconst 0, 1) := op_3 nN_cX11_isOnSet (by decide +kernel)
theorem dX11_isOnSet_62 : decode cX11_isOnSet 62 = .ok (.ireturn, 1) := op_172 nN_cX11_isOnSet (by decide +kernel)
theorem nN_cX11_isInside : onN cX11_isInside.data.toList = 0x15a050b1de00a8010190a051b8100a015401410014d8142c1000a752a0a0385c160154068029f4a8280e17070054a2f0295002b5158bc0e5400ad456071c23402b9430790c1d430bc0e5400ad4568617818a8015a8ad0c2f0295002b515a185e042a0056a2b2a805500700a84080500aa00a0800a943c2f0395002b5158100a01540141001528785e052a0056a2b540056e0403058382b4380546a500adc382b030580c37020146e04568100c014d2c002b70f074382b := by decide +kernel
theorem dX11_isInside_0 : decode cX11_isInside 0 = .ok (.aload_n 0, 1) := op_42 nN_cX11_isInside (by decide +kernel)
theorem dX11_isInside_1 : decode cX11_isInside 1 = .ok (.iload_n 1, 1) := op_27 nN_cX11_isInside (by decide +kernel)
theorem dX11_isInside_2 : decode cX11_isInside 2 = .ok (.iload_n 2, 1) := op_28 nN_cX11_isInside (by decide +kernel)
theorem dX11_isInside_3 : decode cX11_isInside 3 = .ok (.iload_n 3, 1) := op_29 nN_cX11_isInside (by decide +kernel)
theorem dX11_isInside_4 : decode cX11_isInside 4 = .ok (.invokevirtual 175, 3) := op_182 nN_cX11_isInside (by decide +kernel)
theorem dX11_isInside_7 : decode cX11_isInside 7 = .ok (.ifCond .eq 5, 3) := op_153 nN_cX11_isInside (by decide +kernel)
theorem dX11_isInside_10 : decode cX11_isInside 10 = .ok (.iconst 0, 1) := op_3 nN_cX11_isInside (by decide +kernel)
theorem dX11_isInside_11 : decode cX11_isInside 11 = .ok (.ireturn, 1) := op_172 nN_cX11_isInside (by decide +kernel)
theorem dX11_isInside_12 : decode cX11_isInside 12 = .ok (.iconst 0, 1) := op_3 nN_cX11_isInside (by decide +kernel)
theorem dX11_isInside_13 : decode cX11_isInside 13 = .ok (.istore 4, 2) := op_54 nN_cX11_isInside (by decide +kernel)
theorem dX11_isInside_15 : decode cX11_isInside 15 = .ok (.iconst 0, 1) := op_3 nN_cX11_isInside (by decide +kernel)
theorem dX11_isInside_16 : decode cX11_isInside 16 = .ok (.istore 5, 2) := op_54 nN_cX11_isInside (by decide +kernel)
theorem dX11_isInside_18 : decode cX11_isInside 18 = .ok (.iload 5, 2) := op_21 nN_cX11_isInside (by decide +kernel)
theorem dX11_isInside_20 : decode cX11_isInside 20 = .ok (.aload_n 0, 1) := op_42 nN_cX11_isInside (by decide +kernel)
theorem dX11_isInside_21 : decode cX11_isInside 21 = .ok (.iload_n 1, 1) := op_27 nN_cX11_isInside (by decide +kernel)
theorem dX11_isInside_22 : decode cX11_isInside 22 = .ok (.invokevirtual 164, 3) := op_182 nN_cX11_isInside (by decide +kernel)
theorem dX11_isInside_25 : decode cX11_isInside 25 = .ok (.if_icmp .ge 134, 3) := op_162 nN_cX11_isInside (by decide +kernel)
theorem dX11_isInside_28 : decode cX11_isInside 28 = .ok (.aload_n 0, 1) := op_42 nN_cX11_isInside (by decide +kernel)
theorem dX11_isInside_29 : decode cX11_isInside 29 = .ok (.iload_n 1, 1) := op_27 nN_cX11_isInside (by decide +kernel)
theorem dX11_isInside_30 : decode cX11_isInside 30 = .ok (.iload 5, 2) := op_21 nN_cX11_isInside (by decide +kernel)
theorem dX11_isInside_32 : decode cX11_isInside 32 = .ok (.iconst 0, 1) := op_3 nN_cX11_isInside (by decide +kernel)
theorem dX11_isInside_33 : decode cX11_isInside 33 = .ok (.invokevirtual 167, 3) := op_182 nN_cX11_isInside (by decide +kernel)
theorem dX11_isInside_36 : decode cX11_isInside 36 = .ok (.aload_n 0, 1) := op_42 nN_cX11_isInside (by decide +kernel)
theorem dX11_isInside_37 : decode cX11_isInside 37 = .ok (.getfield 83, 3) := op_180 nN_cX11_isInside (by decide +kernel)
theorem dX11_isInside_40 : decode cX11_isInside 40 = .ok (.iconst 1, 1) := op_4 nN_cX11_isInside (by decide +kernel)
theorem dX11_isInside_41 : decode cX11_isInside 41 = .ok (.iaload, 1) := op_46 nN_cX11_isInside (by decide +kernel)
theorem dX11_isInside_42 : decode cX11_isInside 42 = .ok (.iload_n 3, 1) := op_29 nN_cX11_isInside (by decide +kernel)
theorem dX11_isInside_43 : decode cX11_isInside 43 = .ok (.if_icmp .le 7, 3) := op_164 nN_cX11_isInside (by decide +kernel)
theorem dX11_isInside_46 : decode cX11_isInside 46 = .ok (.iconst 1, 1) := op_4 nN_cX11_isInside (by decide +kernel)
theorem dX11_isInside_47 : decode cX11_isInside 47 = .ok (.goto 4, 3) := op_167 nN_cX11_isInside (by decide +kernel)
theorem dX11_isInside_50 : decode cX11_isInside 50 = .ok (.iconst 0, 1) := op_3 nN_cX11_isInside (by decide +kernel)
theorem dX11_isInside_51 : decode cX11_isInside 51 = .ok (.aload_n 0, 1) := op_42 nN_cX11_isInside (by decide +kernel)
theorem dX11_isInside_52 : decode cX11_isInside 52 = .ok (.getfield 83, 3) := op_180 nN_cX11_isInside (by decide +kernel)
theorem dX11_isInside_55 : decode cX11_isInside 55 = .ok (.iconst 3, 1) := op_6 nN_cX11_isInside (by decide +kernel)
theorem dX11_isInside_56 : decode cX11_isInside 56 = .ok (.iaload, 1) := op_46 nN_cX11_isInside (by decide +kernel)
theorem dX11_isInside_57 : decode cX11_isInside 57 = .ok (.iload_n 3, 1) := op_29 nN_cX11_isInside (by decide +kernel)
theorem dX11_isInside_58 : decode cX11_isInside 58 = .ok (.if_icmp .le 7, 3) := op_164 nN_cX11_isInside (by decide +kernel)
theorem dX11_isInside_61 : decode cX11_isInside 61 = .ok (.iconst 1, 1) := op_4 nN_cX11_isInside (by decide +kernel)
theorem dX11_isInside_62 : decode cX11_isInside 62 = .ok (.goto 4, 3) := op_167 nN_cX11_isInside (by decide +kernel)
theorem dX11_isInside_65 : decode cX11_isInside 65 = .ok (.iconst 0, 1) := op_3 nN_cX11_isInside (by decide +kernel)
theorem dX11_isInside_66 : decode cX11_isInside 66 = .ok (.if_icmp .ne 6, 3) := op_160 nN_cX11_isInside (by decide +kernel)
theorem dX11_isInside_69 : decode cX11_isInside 69 = .ok (.goto 84, 3) := op_167 nN_cX11_isInside (by decide +kernel)
theorem dX11_isInside_72 : decode cX11_isInside 72 = .ok (.aload_n 0, 1) := op_42 nN_cX11_isInside (by decide +kernel)
theorem dX11_isInside_73 : decode cX11_isInside 73 = .ok (.getfield 83, 3) := op_180 nN_cX11_isInside (by decide +kernel)
theorem dX11_isInside_76 : decode cX11_isInside 76 = .ok (.iconst 0, 1) := op_3 nN_cX11_isInside (by decide +kernel)
theorem dX11_isInside_77 : decode cX11_isInside 77 = .ok (.iaload, 1) := op_46 nN_cX11_isInside (by decide +kernel)
theorem dX11_isInside_78 : decode cX11_isInside 78 = .ok (.i2l, 1) := op_133 nN_cX11_isInside (by decide +kernel)
theorem dX11_isInside_79 : decode cX11_isInside 79 = .ok (.aload_n 0, 1) := op_42 nN_cX11_isInside (by decide +kernel)
theorem dX11_isInside_80 : decode cX11_isInside 80 = .ok (.getfield 83, 3) := op_180 nN_cX11_isInside (by decide +kernel)
theorem dX11_isInside_83 : decode cX11_isInside 83 = .ok (.iconst 1, 1) := op_4 nN_cX11_isInside (by decide +kernel)
theorem dX11_isInside_84 : decode cX11_isInside 84 = .ok (.iaload, 1) := op_46 nN_cX11_isInside (by decide +kernel)
theorem dX11_isInside_85 : decode cX11_isInside 85 = .ok (.i2l, 1) := op_133 nN_cX11_isInside (by decide +kernel)
theorem dX11_isInside_86 : decode cX11_isInside 86 = .ok (.aload_n 0, 1) := op_42 nN_cX11_isInside (by decide +kernel)
theorem dX11_isInside_87 : decode cX11_isInside 87 = .ok (.getfield 83, 3) := op_180 nN_cX11_isInside (by decide +kernel)
theorem dX11_isInside_90 : decode cX11_isInside 90 = .ok (.iconst 2, 1) := op_5 nN_cX11_isInside (by decide +kernel)
theorem dX11_isInside_91 : decode cX11_isInside 91 = .ok (.iaload, 1) := op_46 nN_cX11_isInside (by decide +kernel)
theorem dX11_isInside_92 : decode cX11_isInside 92 = .ok (.i2l, 1) := op_133 nN_cX11_isInside (by decide +kernel)
theorem dX11_isInside_93 : decode cX11_isInside 93 = .ok (.aload_n 0, 1) := op_42 nN_cX11_isInside (by decide +kernel)
theorem dX11_isInside_94 : decode cX11_isInside 94 = .ok (.getfield 83, 3) := op_180 nN_cX11_isInside (by decide +kernel)
theorem dX11_isInside_97 : decode cX11_isInside 97 = .ok (.iconst 3, 1) := op_6 nN_cX11_isInside (by decide +kernel)
theorem dX11_isInside_98 : decode cX11_isInside 98 = .ok (.iaload, 1) := op_46 nN_cX11_isInside (by decide +kernel)
theorem dX11_isInside_99 : decode cX11_isInside 99 = .ok (.i2l, 1) := op_133 nN_cX11_isInside (by decide +kernel)
theorem dX11_isInside_100 : decode cX11_isInside 100 = .ok (.iload_n 2, 1) := op_28 nN_cX11_isInside (by decide +kernel)
theorem dX11_isInside_101 : decode cX11_isInside 101 = .ok (.i2l, 1) := op_133 nN_cX11_isInside (by decide +kernel)
theorem dX11_isInside_102 : decode cX11_isInside 102 = .ok (.iload_n 3, 1) := op_29 nN_cX11_isInside (by decide +kernel)
theorem dX11_isInside_103 : decode cX11_isInside 103 = .ok (.i2l, 1) := op_133 nN_cX11_isInside (by decide +kernel)
theorem dX11_isInside_104 : decode cX11_isInside 104 = .ok (.invokestatic 140, 3) := op_184 nN_cX11_isInside (by decide +kernel)
theorem dX11_isInside_107 : decode cX11_isInside 107 = .ok (.lstore 6, 2) := op_55 nN_cX11_isInside (by decide +kernel)
theorem dX11_isInside_109 : decode cX11_isInside 109 = .ok (.aload_n 0, 1) := op_42 nN_cX11_isInside (by decide +kernel)
theorem dX11_isInside_110 : decode cX11_isInside 110 = .ok (.getfield 83, 3) := op_180 nN_cX11_isInside (by decide +kernel)
theorem dX11_isInside_113 : decode cX11_isInside 113 = .ok (.iconst 3, 1) := op_6 nN_cX11_isInside (by decide +kernel)
theorem dX11_isInside_114 : decode cX11_isInside 114 = .ok (.iaload, 1) := op_46 nN_cX11_isInside (by decide +kernel)
theorem dX11_isInside_115 : decode cX11_isInside 115 = .ok (.aload_n 0, 1) := op_42 nN_cX11_isInside (by decide +kernel)
theorem dX11_isInside_116 : decode cX11_isInside 116 = .ok (.getfield 83, 3) := op_180 nN_cX11_isInside (by decide +kernel)
theorem dX11_isInside_119 : decode cX11_isInside 119 = .ok (.iconst 1, 1) := op_4 nN_cX11_isInside (by decide +kernel)
theorem dX11_isInside_120 : decode cX11_isInside 120 = .ok (.iaload, 1) := op_46 nN_cX11_isInside (by decide +kernel)
theorem dX11_isInside_121 : decode cX11_isInside 121 = .ok (.if_icmp .le 13, 3) := op_164 nN_cX11_isInside (by decide +kernel)
theorem dX11_isInside_124 : decode cX11_isInside 124 = .ok (.lload 6, 2) := op_22 nN_cX11_isInside (by decide +kernel)
theorem dX11_isInside_126 : decode cX11_isInside 126 = .ok (.lconst 0, 1) := op_9 nN_cX11_isInside (by decide +kernel)
theorem dX11_isInside_127 : decode cX11_isInside 127 = .ok (.lcmp, 1) := op_148 nN_cX11_isInside (by decide +kernel)
theorem dX11_isInside_128 : decode cX11_isInside 128 = .ok (.ifCond .le 25, 3) := op_158 nN_cX11_isInside (by decide +kernel)
theorem dX11_isInside_131 : decode cX11_isInside 131 = .ok (.goto 10, 3) := op_167 nN_cX11_isInside (by decide +kernel)
theorem dX11_isInside_134 : decode cX11_isInside 134 = .ok (.lload 6, 2) := op_22 nN_cX11_isInside (by decide +kernel)
theorem dX11_isInside_136 : decode cX11_isInside 136 = .ok (.lconst 0, 1) := op_9 nN_cX11_isInside (by decide +kernel)
theorem dX11_isInside_137 : decode cX11_isInside 137 = .ok (.lcmp, 1) := op_148 nN_cX11_isInside (by decide +kernel)
theorem dX11_isInside_138 : decode cX11_isInside 138 = .ok (.ifCond .ge 15, 3) := op_156 nN_cX11_isInside (by decide +kernel)
theorem dX11_isInside_141 : decode cX11_isInside 141 = .ok (.iload 4, 2) := op_21 nN_cX11_isInside (by decide +kernel)
theorem dX11_isInside_143 : decode cX11_isInside 143 = .ok (.ifCond .ne 7, 3) := op_154 nN_cX11_isInside (by decide +kernel)
theorem dX11_isInside_146 : decode cX11_isInside 146 = .ok (.iconst 1, 1) := op_4 nN_cX11_isInside (by decide +kernel)
theorem dX11_isInside_147 : decode cX11_isInside 147 = .ok (.goto 4, 3) := op_167 nN_cX11_isInside (by decide +kernel)
theorem dX11_isInside_150 : decode cX11_isInside 150 = .ok (.iconst 0, 1) := op_3 nN_cX11_isInside (by decide +kernel)
theorem dX11_isInside_151 : decode cX11_isInside 151 = .ok (.istore 4, 2) := op_54 nN_cX11_isInside (by decide +kernel)
theorem dX11_isInside_153 : decode cX11_isInside 153 = .ok (.iinc 5 1, 3) := op_132 nN_cX11_isInside (by decide +kernel)
theorem dX11_isInside_156 : decode cX11_isInside 156 = .ok (.goto (-138), 3) := op_167 nN_cX11_isInside (by decide +kernel)
theorem dX11_isInside_159 : decode cX11_isInside 159 = .ok (.iload 4, 2) := op_21 nN_cX11_isInside (by decide +kernel)
theorem dX11_isInside_161 : decode cX11_isInside 161 = .ok (.ireturn, 1) := op_172 nN_cX11_isInside (by decide +kernel)
theorem nN_cX11_area : onN cX11_area.data.toList = 0xae1081402a83b08412014ea54142164c01500202a148462331a90c2f0295002b515a185e062a0056a2b352185e072a0056a2b430bc085400ad45621540056e0402858382b1a005462f0e0a802b5158142c051b810840a := by decide +kernel
theorem dX11_area_0 : decode cX11_area 0 = .ok (.lconst 0, 1) := op_9 nN_cX11_area (by decide +kernel)
theorem dX11_area_1 : decode cX11_area 1 = .ok (.lstore_n 2, 1) := op_65 nN_cX11_area (by decide +kernel)
theorem dX11_area_2 : decode cX11_area 2 = .ok (.iconst 0, 1) := op_3 nN_cX11_area (by decide +kernel)
theorem dX11_area_3 : decode cX11_area 3 = .ok (.istore 4, 2) := op_54 nN_cX11_area (by decide +kernel)
theorem dX11_area_5 : decode cX11_area 5 = .ok (.iload 4, 2) := op_21 nN_cX11_area (by decide +kernel)
theorem dX11_area_7 : decode cX11_area 7 = .ok (.aload_n 0, 1) := op_42 nN_cX11_area (by decide +kernel)
theorem dX11_area_8 : decode cX11_area 8 = .ok (.getfield 41, 3) := op_180 nN_cX11_area (by decide +kernel)
theorem dX11_area_11 : decode cX11_area 11 = .ok (.iload_n 1, 1) := op_27 nN_cX11_area (by decide +kernel)
theorem dX11_area_12 : decode cX11_area 12 = .ok (.iaload, 1) := op_46 nN_cX11_area (by decide +kernel)
theorem dX11_area_13 : decode cX11_area 13 = .ok (.if_icmp .ge 51, 3) := op_162 nN_cX11_area (by decide +kernel)
theorem dX11_area_16 : decode cX11_area 16 = .ok (.aload_n 0, 1) := op_42 nN_cX11_area (by decide +kernel)
theorem dX11_area_17 : decode cX11_area 17 = .ok (.iload_n 1, 1) := op_27 nN_cX11_area (by decide +kernel)
theorem dX11_area_18 : decode cX11_area 18 = .ok (.iload 4, 2) := op_21 nN_cX11_area (by decide +kernel)
theorem dX11_area_20 : decode cX11_area 20 = .ok (.iconst 0, 1) := op_3 nN_cX11_area (by decide +kernel)
theorem dX11_area_21 : decode cX11_area 21 = .ok (.invokevirtual 167, 3) := op_182 nN_cX11_area (by decide +kernel)
theorem dX11_area_24 : decode cX11_area 24 = .ok (.lload_n 2, 1) := op_32 nN_cX11_area (by decide +kernel)
theorem dX11_area_25 : decode cX11_area 25 = .ok (.aload_n 0, 1) := op_42 nN_cX11_area (by decide +kernel)
theorem dX11_area_26 : decode cX11_area 26 = .ok (.getfield 83, 3) := op_180 nN_cX11_area (by decide +kernel)
theorem dX11_area_29 : decode cX11_area 29 = .ok (.iconst 0, 1) := op_3 nN_cX11_area (by decide +kernel)
theorem dX11_area_30 : decode cX11_area 30 = .ok (.iaload, 1) := op_46 nN_cX11_area (by decide +kernel)
theorem dX11_area_31 : decode cX11_area 31 = .ok (.i2l, 1) := op_133 nN_cX11_area (by decide +kernel)
theorem dX11_area_32 : decode cX11_area 32 = .ok (.aload_n 0, 1) := op_42 nN_cX11_area (by decide +kernel)
theorem dX11_area_33 : decode cX11_area 33 = .ok (.getfield 83, 3) := op_180 nN_cX11_area (by decide +kernel)
theorem dX11_area_36 : decode cX11_area 36 = .ok (.iconst 3, 1) := op_6 nN_cX11_area (by decide +kernel)
theorem dX11_area_37 : decode cX11_area 37 = .ok (.iaload, 1) := op_46 nN_cX11_area (by decide +kernel)
theorem dX11_area_38 : decode cX11_area 38 = .ok (.i2l, 1) := op_133 nN_cX11_area (by decide +kernel)
theorem dX11_area_39 : decode cX11_area 39 = .ok (.lmul, 1) := op_105 nN_cX11_area (by decide +kernel)
theorem dX11_area_40 : decode cX11_area 40 = .ok (.aload_n 0, 1) := op_42 nN_cX11_area (by decide +kernel)
theorem dX11_area_41 : decode cX11_area 41 = .ok (.getfield 83, 3) := op_180 nN_cX11_area (by decide +kernel)
theorem dX11_area_44 : decode cX11_area 44 = .ok (.iconst 2, 1) := op_5 nN_cX11_area (by decide +kernel)
theorem dX11_area_45 : decode cX11_area 45 = .ok (.iaload, 1) := op_46 nN_cX11_area (by decide +kernel)
theorem dX11_area_46 : decode cX11_area 46 = .ok (.i2l, 1) := op_133 nN_cX11_area (by decide +kernel)
theorem dX11_area_47 : decode cX11_area 47 = .ok (.aload_n 0, 1) := op_42 nN_cX11_area (by decide +kernel)
theorem dX11_area_48 : decode cX11_area 48 = .ok (.getfield 83, 3) := op_180 nN_cX11_area (by decide +kernel)
theorem dX11_area_51 : decode cX11_area 51 = .ok (.iconst 1, 1) := op_4 nN_cX11_area (by decide +kernel)
theorem dX11_area_52 : decode cX11_area 52 = .ok (.iaload, 1) := op_46 nN_cX11_area (by decide +kernel)
theorem dX11_area_53 : decode cX11_area 53 = .ok (.i2l, 1) := op_133 nN_cX11_area (by decide +kernel)
theorem dX11_area_54 : decode cX11_area 54 = .ok (.lmul, 1) := op_105 nN_cX11_area (by decide +kernel)
theorem dX11_area_55 : decode cX11_area 55 = .ok (.lsub, 1) := op_101 nN_cX11_area (by decide +kernel)
theorem dX11_area_56 : decode cX11_area 56 = .ok (.ladd, 1) := op_97 nN_cX11_area (by decide +kernel)
theorem dX11_area_57 : decode cX11_area 57 = .ok (.lstore_n 2, 1) := op_65 nN_cX11_area (by decide +kernel)
theorem dX11_area_58 : decode cX11_area 58 = .ok (.iinc 4 1, 3) := op_132 nN_cX11_area (by decide +kernel)
theorem dX11_area_61 : decode cX11_area 61 = .ok (.goto (-56), 3) := op_167 nN_cX11_area (by decide +kernel)
theorem dX11_area_64 : decode cX11_area 64 = .ok (.lload_n 2, 1) := op_32 nN_cX11_area (by decide +kernel)
theorem dX11_area_65 : decode cX11_area 65 = .ok (.lconst 0, 1) := op_9 nN_cX11_area (by decide +kernel)
theorem dX11_area_66 : decode cX11_area 66 = .ok (.lcmp, 1) := op_148 nN_cX11_area (by decide +kernel)
theorem dX11_area_67 : decode cX11_area 67 = .ok (.ifCond .ge 8, 3) := op_156 nN_cX11_area (by decide +kernel)
theorem dX11_area_70 : decode cX11_area 70 = .ok (.lload_n 2, 1) := op_32 nN_cX11_area (by decide +kernel)
theorem dX11_area_71 : decode cX11_area 71 = .ok (.lneg, 1) := op_117 nN_cX11_area (by decide +kernel)
theorem dX11_area_72 : decode cX11_area 72 = .ok (.goto 4, 3) := op_167 nN_cX11_area (by decide +kernel)
theorem dX11_area_75 : decode cX11_area 75 = .ok (.lload_n 2, 1) := op_32 nN_cX11_area (by decide +kernel)
theorem dX11_area_76 : decode cX11_area 76 = .ok (.lreturn, 1) := op_173 nN_cX11_area (by decide +kernel)
theorem nN_cX11_lengthOf : onN cX11_lengthOf.data.toList = 0x2b842c4802a0040542908c48630ad002b9328bc0a5400ad4562f0395002b515ad002b9328bc085400ad4562f0315002b51588550015b8100a160e0ac6e01519940a2f0e0a802b5158142c051b810840a := by decide +kernel
theorem dX11_lengthOf_0 : decode cX11_lengthOf 0 = .ok (.lconst 0, 1) := op_9 nN_cX11_lengthOf (by decide +kernel)
theorem dX11_lengthOf_1 : decode cX11_lengthOf 1 = .ok (.lstore_n 2, 1) := op_65 nN_cX11_lengthOf (by decide +kernel)
theorem dX11_lengthOf_2 : decode cX11_lengthOf 2 = .ok (.iconst 0, 1) := op_3 nN_cX11_lengthOf (by decide +kernel)
theorem dX11_lengthOf_3 : decode cX11_lengthOf 3 = .ok (.istore 4, 2) := op_54 nN_cX11_lengthOf (by decide +kernel)
theorem dX11_lengthOf_5 : decode cX11_lengthOf 5 = .ok (.iload 4, 2) := op_21 nN_cX11_lengthOf (by decide +kernel)
theorem dX11_lengthOf_7 : decode cX11_lengthOf 7 = .ok (.aload_n 0, 1) := op_42 nN_cX11_lengthOf (by decide +kernel)
theorem dX11_lengthOf_8 : decode cX11_lengthOf 8 = .ok (.getfield 41, 3) := op_180 nN_cX11_lengthOf (by decide +kernel)
theorem dX11_lengthOf_11 : decode cX11_lengthOf 11 = .ok (.iload_n 1, 1) := op_27 nN_cX11_lengthOf (by decide +kernel)
theorem dX11_lengthOf_12 : decode cX11_lengthOf 12 = .ok (.iaload, 1) := op_46 nN_cX11_lengthOf (by decide +kernel)
theorem dX11_lengthOf_13 : decode cX11_lengthOf 13 = .ok (.iconst 1, 1) := op_4 nN_cX11_lengthOf (by decide +kernel)
theorem dX11_lengthOf_14 : decode cX11_lengthOf 14 = .ok (.isub, 1) := op_100 nN_cX11_lengthOf (by decide +kernel)
theorem dX11_lengthOf_15 : decode cX11_lengthOf 15 = .ok (.if_icmp .ge 54, 3) := op_162 nN_cX11_lengthOf (by decide +kernel)
theorem dX11_lengthOf_18 : decode cX11_lengthOf 18 = .ok (.aload_n 0, 1) := op_42 nN_cX11_lengthOf (by decide +kernel)
theorem dX11_lengthOf_19 : decode cX11_lengthOf 19 = .ok (.iload_n 1, 1) := op_27 nN_cX11_lengthOf (by decide +kernel)
theorem dX11_lengthOf_20 : decode cX11_lengthOf 20 = .ok (.iload 4, 2) := op_21 nN_cX11_lengthOf (by decide +kernel)
theorem dX11_lengthOf_22 : decode cX11_lengthOf 22 = .ok (.iconst 0, 1) := op_3 nN_cX11_lengthOf (by decide +kernel)
theorem dX11_lengthOf_23 : decode cX11_lengthOf 23 = .ok (.invokevirtual 167, 3) := op_182 nN_cX11_lengthOf (by decide +kernel)
theorem dX11_lengthOf_26 : decode cX11_lengthOf 26 = .ok (.lload_n 2, 1) := op_32 nN_cX11_lengthOf (by decide +kernel)
theorem dX11_lengthOf_27 : decode cX11_lengthOf 27 = .ok (.aload_n 0, 1) := op_42 nN_cX11_lengthOf (by decide +kernel)
theorem dX11_lengthOf_28 : decode cX11_lengthOf 28 = .ok (.getfield 83, 3) := op_180 nN_cX11_lengthOf (by decide +kernel)
theorem dX11_lengthOf_31 : decode cX11_lengthOf 31 = .ok (.iconst 2, 1) := op_5 nN_cX11_lengthOf (by decide +kernel)
theorem dX11_lengthOf_32 : decode cX11_lengthOf 32 = .ok (.iaload, 1) := op_46 nN_cX11_lengthOf (by decide +kernel)
theorem dX11_lengthOf_33 : decode cX11_lengthOf 33 = .ok (.aload_n 0, 1) := op_42 nN_cX11_lengthOf (by decide +kernel)
theorem dX11_lengthOf_34 : decode cX11_lengthOf 34 = .ok (.getfield 83, 3) := op_180 nN_cX11_lengthOf (by decide +kernel)
theorem dX11_lengthOf_37 : decode cX11_lengthOf 37 = .ok (.iconst 0, 1) := op_3 nN_cX11_lengthOf (by decide +kernel)
theorem dX11_lengthOf_38 : decode cX11_lengthOf 38 = .ok (.iaload, 1) := op_46 nN_cX11_lengthOf (by decide +kernel)
theorem dX11_lengthOf_39 : decode cX11_lengthOf 39 = .ok (.isub, 1) := op_100 nN_cX11_lengthOf (by decide +kernel)
theorem dX11_lengthOf_40 : decode cX11_lengthOf 40 = .ok (.invokestatic 179, 3) := op_184 nN_cX11_lengthOf (by decide +kernel)
theorem dX11_lengthOf_43 : decode cX11_lengthOf 43 = .ok (.aload_n 0, 1) := op_42 nN_cX11_lengthOf (by decide +kernel)
theorem dX11_lengthOf_44 : decode cX11_lengthOf 44 = .ok (.getfield 83, 3) := op_180 nN_cX11_lengthOf (by decide +kernel)
theorem dX11_lengthOf_47 : decode cX11_lengthOf 47 = .ok (.iconst 3, 1) := op_6 nN_cX11_lengthOf (by decide +kernel)
theorem dX11_lengthOf_48 : decode cX11_lengthOf 48 = .ok (.iaload, 1) := op_46 nN_cX11_lengthOf (by decide +kernel)
theorem dX11_lengthOf_49 : decode cX11_lengthOf 49 = .ok (.aload_n 0, 1) := op_42 nN_cX11_lengthOf (by decide +kernel)
theorem dX11_lengthOf_50 : decode cX11_lengthOf 50 = .ok (.getfield 83, 3) := op_180 nN_cX11_lengthOf (by decide +kernel)
theorem dX11_lengthOf_53 : decode cX11_lengthOf 53 = .ok (.iconst 1, 1) := op_4 nN_cX11_lengthOf (by decide +kernel)
theorem dX11_lengthOf_54 : decode cX11_lengthOf 54 = .ok (.iaload, 1) := op_46 nN_cX11_lengthOf (by decide +kernel)
theorem dX11_lengthOf_55 : decode cX11_lengthOf 55 = .ok (.isub, 1) := op_100 nN_cX11_lengthOf (by decide +kernel)
theorem dX11_lengthOf_56 : decode cX11_lengthOf 56 = .ok (.invokestatic 179, 3) := op_184 nN_cX11_lengthOf (by decide +kernel)
theorem dX11_lengthOf_59 : decode cX11_lengthOf 59 = .ok (.iadd, 1) := op_96 nN_cX11_lengthOf (by decide +kernel)
theorem dX11_lengthOf_60 : decode cX11_lengthOf 60 = .ok (.i2l, 1) := op_133 nN_cX11_lengthOf (by decide +kernel)
theorem dX11_lengthOf_61 : decode cX11_lengthOf 61 = .ok (.ladd, 1) := op_97 nN_cX11_lengthOf (by decide +kernel)
theorem dX11_lengthOf_62 : decode cX11_lengthOf 62 = .ok (.lstore_n 2, 1) := op_65 nN_cX11_lengthOf (by decide +kernel)
theorem dX11_lengthOf_63 : decode cX11_lengthOf 63 = .ok (.iinc 4 1, 3) := op_132 nN_cX11_lengthOf (by decide +kernel)
theorem dX11_lengthOf_66 : decode cX11_lengthOf 66 = .ok (.goto (-61), 3) := op_167 nN_cX11_lengthOf (by decide +kernel)
theorem dX11_lengthOf_69 : decode cX11_lengthOf 69 = .ok (.lload_n 2, 1) := op_32 nN_cX11_lengthOf (by decide +kernel)
theorem dX11_lengthOf_70 : decode cX11_lengthOf 70 = .ok (.lreturn, 1) := op_173 nN_cX11_lengthOf (by decide +kernel)
theorem nN_cX11_isSimple : onN cX11_isSimple.data.toList = 0x2b4080500aa00a0800a697a015b870560c00a840e111787010015a8ad0900540080a854b4015002032155a040300534ba00adc0c1602858382b08005501500a696e015b8142c060b070561300a68101612005502900a696e015b8182c050b070561300a680e16040dc080500aa00a0800a84ca050f0182c1000a6c0a160a80534a200adc382b038dc080500aa00a0800a84c205028580c1636005461e030580c37308140a163f005461e028580a370234200a8010150aad0201802a11781ca8015a8ac5e052a0056a2b0a805422f0315002b5158bc085400ad456a800adc08050b070563200a8c3c050b0146e041fa9402b70e0ad5a040300546060280550070400534a200adc382b0eab4080500aa00a0800a840a1d07805362f0e02002b5158f85e1c150056a2b := by decide +kernel
theorem dX11_isSimple_0 : decode cX11_isSimple 0 = .ok (.aload_n 0, 1) := op_42 nN_cX11_isSimple (by decide +kernel)
theorem dX11_isSimple_1 : decode cX11_isSimple 1 = .ok (.getfield 41, 3) := op_180 nN_cX11_isSimple (by decide +kernel)
theorem dX11_isSimple_4 : decode cX11_isSimple 4 = .ok (.iload_n 1, 1) := op_27 nN_cX11_isSimple (by decide +kernel)
theorem dX11_isSimple_5 : decode cX11_isSimple 5 = .ok (.iaload, 1) := op_46 nN_cX11_isSimple (by decide +kernel)
theorem dX11_isSimple_6 : decode cX11_isSimple 6 = .ok (.istore_n 2, 1) := op_61 nN_cX11_isSimple (by decide +kernel)
theorem dX11_isSimple_7 : decode cX11_isSimple 7 = .ok (.aload_n 0, 1) := op_42 nN_cX11_isSimple (by decide +kernel)
theorem dX11_isSimple_8 : decode cX11_isSimple 8 = .ok (.getfield 7, 3) := op_180 nN_cX11_isSimple (by decide +kernel)
theorem dX11_isSimple_11 : decode cX11_isSimple 11 = .ok (.iload_n 1, 1) := op_27 nN_cX11_isSimple (by decide +kernel)
theorem dX11_isSimple_12 : decode cX11_isSimple 12 = .ok (.iaload, 1) := op_46 nN_cX11_isSimple (by decide +kernel)
theorem dX11_isSimple_13 : decode cX11_isSimple 13 = .ok (.ifCond .ne 14, 3) := op_154 nN_cX11_isSimple (by decide +kernel)
theorem dX11_isSimple_16 : decode cX11_isSimple 16 = .ok (.iload_n 2, 1) := op_28 nN_cX11_isSimple (by decide +kernel)
theorem dX11_isSimple_17 : decode cX11_isSimple 17 = .ok (.iconst 1, 1) := op_4 nN_cX11_isSimple (by decide +kernel)
theorem dX11_isSimple_18 : decode cX11_isSimple 18 = .ok (.if_icmp .ne 7, 3) := op_160 nN_cX11_isSimple (by decide +kernel)
theorem dX11_isSimple_21 : decode cX11_isSimple 21 = .ok (.iconst 1, 1) := op_4 nN_cX11_isSimple (by decide +kernel)
theorem dX11_isSimple_22 : decode cX11_isSimple 22 = .ok (.goto 4, 3) := op_167 nN_cX11_isSimple (by decide +kernel)
theorem dX11_isSimple_25 : decode cX11_isSimple 25 = .ok (.iconst 0, 1) := op_3 nN_cX11_isSimple (by decide +kernel)
theorem dX11_isSimple_26 : decode cX11_isSimple 26 = .ok (.ireturn, 1) := op_172 nN_cX11_isSimple (by decide +kernel)
theorem dX11_isSimple_27 : decode cX11_isSimple 27 = .ok (.iload_n 2, 1) := op_28 nN_cX11_isSimple (by decide +kernel)
theorem dX11_isSimple_28 : decode cX11_isSimple 28 = .ok (.aload_n 0, 1) := op_42 nN_cX11_isSimple (by decide +kernel)
theorem dX11_isSimple_29 : decode cX11_isSimple 29 = .ok (.iload_n 1, 1) := op_27 nN_cX11_isSimple (by decide +kernel)
theorem dX11_isSimple_30 : decode cX11_isSimple 30 = .ok (.invokevirtual 161, 3) := op_182 nN_cX11_isSimple (by decide +kernel)
theorem dX11_isSimple_33 : decode cX11_isSimple 33 = .ok (.ifCond .eq 7, 3) := op_153 nN_cX11_isSimple (by decide +kernel)
theorem dX11_isSimple_36 : decode cX11_isSimple 36 = .ok (.iconst 3, 1) := op_6 nN_cX11_isSimple (by decide +kernel)
theorem dX11_isSimple_37 : decode cX11_isSimple 37 = .ok (.goto 4, 3) := op_167 nN_cX11_isSimple (by decide +kernel)
theorem dX11_isSimple_40 : decode cX11_isSimple 40 = .ok (.iconst 2, 1) := op_5 nN_cX11_isSimple (by decide +kernel)
theorem dX11_isSimple_41 : decode cX11_isSimple 41 = .ok (.if_icmp .ge 5, 3) := op_162 nN_cX11_isSimple (by decide +kernel)
theorem dX11_isSimple_44 : decode cX11_isSimple 44 = .ok (.iconst 0, 1) := op_3 nN_cX11_isSimple (by decide +kernel)
theorem dX11_isSimple_45 : decode cX11_isSimple 45 = .ok (.ireturn, 1) := op_172 nN_cX11_isSimple (by decide +kernel)
theorem dX11_isSimple_46 : decode cX11_isSimple 46 = .ok (.aload_n 0, 1) := op_42 nN_cX11_isSimple (by decide +kernel)
theorem dX11_isSimple_47 : decode cX11_isSimple 47 = .ok (.iload_n 1, 1) := op_27 nN_cX11_isSimple (by decide +kernel)
theorem dX11_isSimple_48 : decode cX11_isSimple 48 = .ok (.invokevirtual 164, 3) := op_182 nN_cX11_isSimple (by decide +kernel)
theorem dX11_isSimple_51 : decode cX11_isSimple 51 = .ok (.istore_n 3, 1) := op_62 nN_cX11_isSimple (by decide +kernel)
theorem dX11_isSimple_52 : decode cX11_isSimple 52 = .ok (.iconst 0, 1) := op_3 nN_cX11_isSimple (by decide +kernel)
theorem dX11_isSimple_53 : decode cX11_isSimple 53 = .ok (.istore 4, 2) := op_54 nN_cX11_isSimple (by decide +kernel)
theorem dX11_isSimple_55 : decode cX11_isSimple 55 = .ok (.iload 4, 2) := op_21 nN_cX11_isSimple (by decide +kernel)
theorem dX11_isSimple_57 : decode cX11_isSimple 57 = .ok (.iload_n 3, 1) := op_29 nN_cX11_isSimple (by decide +kernel)
theorem dX11_isSimple_58 : decode cX11_isSimple 58 = .ok (.if_icmp .ge 49, 3) := op_162 nN_cX11_isSimple (by decide +kernel)
theorem dX11_isSimple_61 : decode cX11_isSimple 61 = .ok (.aload_n 0, 1) := op_42 nN_cX11_isSimple (by decide +kernel)
theorem dX11_isSimple_62 : decode cX11_isSimple 62 = .ok (.iload_n 1, 1) := op_27 nN_cX11_isSimple (by decide +kernel)
theorem dX11_isSimple_63 : decode cX11_isSimple 63 = .ok (.iload 4, 2) := op_21 nN_cX11_isSimple (by decide +kernel)
theorem dX11_isSimple_65 : decode cX11_isSimple 65 = .ok (.iconst 0, 1) := op_3 nN_cX11_isSimple (by decide +kernel)
theorem dX11_isSimple_66 : decode cX11_isSimple 66 = .ok (.invokevirtual 167, 3) := op_182 nN_cX11_isSimple (by decide +kernel)
theorem dX11_isSimple_69 : decode cX11_isSimple 69 = .ok (.aload_n 0, 1) := op_42 nN_cX11_isSimple (by decide +kernel)
theorem dX11_isSimple_70 : decode cX11_isSimple 70 = .ok (.getfield 83, 3) := op_180 nN_cX11_isSimple (by decide +kernel)
theorem dX11_isSimple_73 : decode cX11_isSimple 73 = .ok (.iconst 0, 1) := op_3 nN_cX11_isSimple (by decide +kernel)
theorem dX11_isSimple_74 : decode cX11_isSimple 74 = .ok (.iaload, 1) := op_46 nN_cX11_isSimple (by decide +kernel)
theorem dX11_isSimple_75 : decode cX11_isSimple 75 = .ok (.aload_n 0, 1) := op_42 nN_cX11_isSimple (by decide +kernel)
theorem dX11_isSimple_76 : decode cX11_isSimple 76 = .ok (.getfield 83, 3) := op_180 nN_cX11_isSimple (by decide +kernel)
theorem dX11_isSimple_79 : decode cX11_isSimple 79 = .ok (.iconst 2, 1) := op_5 nN_cX11_isSimple (by decide +kernel)
theorem dX11_isSimple_80 : decode cX11_isSimple 80 = .ok (.iaload, 1) := op_46 nN_cX11_isSimple (by decide +kernel)
theorem dX11_isSimple_81 : decode cX11_isSimple 81 = .ok (.if_icmp .ne 20, 3) := op_160 nN_cX11_isSimple (by decide +kernel)
theorem dX11_isSimple_84 : decode cX11_isSimple 84 = .ok (.aload_n 0, 1) := op_42 nN_cX11_isSimple (by decide +kernel)
theorem dX11_isSimple_85 : decode cX11_isSimple 85 = .ok (.getfield 83, 3) := op_180 nN_cX11_isSimple (by decide +kernel)
theorem dX11_isSimple_88 : decode cX11_isSimple 88 = .ok (.iconst 1, 1) := op_4 nN_cX11_isSimple (by decide +kernel)
theorem dX11_isSimple_89 : decode cX11_isSimple 89 = .ok (.iaload, 1) := op_46 nN_cX11_isSimple (by decide +kernel)
theorem dX11_isSimple_90 : decode cX11_isSimple 90 = .ok (.aload_n 0, 1) := op_42 nN_cX11_isSimple (by decide +kernel)
theorem dX11_isSimple_91 : decode cX11_isSimple 91 = .ok (.getfield 83, 3) := op_180 nN_cX11_isSimple (by decide +kernel)
theorem dX11_isSimple_94 : decode cX11_isSimple 94 = .ok (.iconst 3, 1) := op_6 nN_cX11_isSimple (by decide +kernel)
theorem dX11_isSimple_95 : decode cX11_isSimple 95 = .ok (.iaload, 1) := op_46 nN_cX11_isSimple (by decide +kernel)
theorem dX11_isSimple_96 : decode cX11_isSimple 96 = .ok (.if_icmp .ne 5, 3) := op_160 nN_cX11_isSimple (by decide +kernel)
theorem dX11_isSimple_99 : decode cX11_isSimple 99 = .ok (.iconst 0, 1) := op_3 nN_cX11_isSimple (by decide +kernel)
theorem dX11_isSimple_100 : decode cX11_isSimple 100 = .ok (.ireturn, 1) := op_172 nN_cX11_isSimple (by decide +kernel)
theorem dX11_isSimple_101 : decode cX11_isSimple 101 = .ok (.iinc 4 1, 3) := op_132 nN_cX11_isSimple (by decide +kernel)
theorem dX11_isSimple_104 : decode cX11_isSimple 104 = .ok (.goto (-49), 3) := op_167 nN_cX11_isSimple (by decide +kernel)
theorem dX11_isSimple_107 : decode cX11_isSimple 107 = .ok (.iconst 0, 1) := op_3 nN_cX11_isSimple (by decide +kernel)
theorem dX11_isSimple_108 : decode cX11_isSimple 108 = .ok (.istore 4, 2) := op_54 nN_cX11_isSimple (by decide +kernel)
theorem dX11_isSimple_110 : decode cX11_isSimple 110 = .ok (.iload 4, 2) := op_21 nN_cX11_isSimple (by decide +kernel)
theorem dX11_isSimple_112 : decode cX11_isSimple 112 = .ok (.iload_n 3, 1) := op_29 nN_cX11_isSimple (by decide +kernel)
theorem dX11_isSimple_113 : decode cX11_isSimple 113 = .ok (.if_icmp .ge 125, 3) := op_162 nN_cX11_isSimple (by decide +kernel)
theorem dX11_isSimple_116 : decode cX11_isSimple 116 = .ok (.iload 4, 2) := op_21 nN_cX11_isSimple (by decide +kernel)
theorem dX11_isSimple_118 : decode cX11_isSimple 118 = .ok (.iconst 1, 1) := op_4 nN_cX11_isSimple (by decide +kernel)
theorem dX11_isSimple_119 : decode cX11_isSimple 119 = .ok (.iadd, 1) := op_96 nN_cX11_isSimple (by decide +kernel)
theorem dX11_isSimple_120 : decode cX11_isSimple 120 = .ok (.istore 5, 2) := op_54 nN_cX11_isSimple (by decide +kernel)
theorem dX11_isSimple_122 : decode cX11_isSimple 122 = .ok (.iload 5, 2) := op_21 nN_cX11_isSimple (by decide +kernel)
theorem dX11_isSimple_124 : decode cX11_isSimple 124 = .ok (.iload_n 3, 1) := op_29 nN_cX11_isSimple (by decide +kernel)
theorem dX11_isSimple_125 : decode cX11_isSimple 125 = .ok (.if_icmp .ge 107, 3) := op_162 nN_cX11_isSimple (by decide +kernel)
theorem dX11_isSimple_128 : decode cX11_isSimple 128 = .ok (.iload 5, 2) := op_21 nN_cX11_isSimple (by decide +kernel)
theorem dX11_isSimple_130 : decode cX11_isSimple 130 = .ok (.iload 4, 2) := op_21 nN_cX11_isSimple (by decide +kernel)
theorem dX11_isSimple_132 : decode cX11_isSimple 132 = .ok (.iconst 1, 1) := op_4 nN_cX11_isSimple (by decide +kernel)
theorem dX11_isSimple_133 : decode cX11_isSimple 133 = .ok (.iadd, 1) := op_96 nN_cX11_isSimple (by decide +kernel)
theorem dX11_isSimple_134 : decode cX11_isSimple 134 = .ok (.if_icmp .ne 7, 3) := op_160 nN_cX11_isSimple (by decide +kernel)
theorem dX11_isSimple_137 : decode cX11_isSimple 137 = .ok (.iconst 1, 1) := op_4 nN_cX11_isSimple (by decide +kernel)
theorem dX11_isSimple_138 : decode cX11_isSimple 138 = .ok (.goto 4, 3) := op_167 nN_cX11_isSimple (by decide +kernel)
theorem dX11_isSimple_141 : decode cX11_isSimple 141 = .ok (.iconst 0, 1) := op_3 nN_cX11_isSimple (by decide +kernel)
theorem dX11_isSimple_142 : decode cX11_isSimple 142 = .ok (.istore 6, 2) := op_54 nN_cX11_isSimple (by decide +kernel)
theorem dX11_isSimple_144 : decode cX11_isSimple 144 = .ok (.aload_n 0, 1) := op_42 nN_cX11_isSimple (by decide +kernel)
theorem dX11_isSimple_145 : decode cX11_isSimple 145 = .ok (.iload_n 1, 1) := op_27 nN_cX11_isSimple (by decide +kernel)
theorem dX11_isSimple_146 : decode cX11_isSimple 146 = .ok (.invokevirtual 161, 3) := op_182 nN_cX11_isSimple (by decide +kernel)
theorem dX11_isSimple_149 : decode cX11_isSimple 149 = .ok (.ifCond .eq 20, 3) := op_153 nN_cX11_isSimple (by decide +kernel)
theorem dX11_isSimple_152 : decode cX11_isSimple 152 = .ok (.iload 4, 2) := op_21 nN_cX11_isSimple (by decide +kernel)
theorem dX11_isSimple_154 : decode cX11_isSimple 154 = .ok (.ifCond .ne 15, 3) := op_154 nN_cX11_isSimple (by decide +kernel)
theorem dX11_isSimple_157 : decode cX11_isSimple 157 = .ok (.iload 5, 2) := op_21 nN_cX11_isSimple (by decide +kernel)
theorem dX11_isSimple_159 : decode cX11_isSimple 159 = .ok (.iload_n 3, 1) := op_29 nN_cX11_isSimple (by decide +kernel)
theorem dX11_isSimple_160 : decode cX11_isSimple 160 = .ok (.iconst 1, 1) := op_4 nN_cX11_isSimple (by decide +kernel)
theorem dX11_isSimple_161 : decode cX11_isSimple 161 = .ok (.isub, 1) := op_100 nN_cX11_isSimple (by decide +kernel)
theorem dX11_isSimple_162 : decode cX11_isSimple 162 = .ok (.if_icmp .ne 7, 3) := op_160 nN_cX11_isSimple (by decide +kernel)
theorem dX11_isSimple_165 : decode cX11_isSimple 165 = .ok (.iconst 1, 1) := op_4 nN_cX11_isSimple (by decide +kernel)
theorem dX11_isSimple_166 : decode cX11_isSimple 166 = .ok (.goto 4, 3) := op_167 nN_cX11_isSimple (by decide +kernel)
theorem dX11_isSimple_169 : decode cX11_isSimple 169 = .ok (.iconst 0, 1) := op_3 nN_cX11_isSimple (by decide +kernel)
theorem dX11_isSimple_170 : decode cX11_isSimple 170 = .ok (.istore 7, 2) := op_54 nN_cX11_isSimple (by decide +kernel)
theorem dX11_isSimple_172 : decode cX11_isSimple 172 = .ok (.iload 6, 2) := op_21 nN_cX11_isSimple (by decide +kernel)
theorem dX11_isSimple_174 : decode cX11_isSimple 174 = .ok (.ifCond .eq 18, 3) := op_153 nN_cX11_isSimple (by decide +kernel)
theorem dX11_isSimple_177 : decode cX11_isSimple 177 = .ok (.aload_n 0, 1) := op_42 nN_cX11_isSimple (by decide +kernel)
theorem dX11_isSimple_178 : decode cX11_isSimple 178 = .ok (.iload_n 1, 1) := op_27 nN_cX11_isSimple (by decide +kernel)
theorem dX11_isSimple_179 : decode cX11_isSimple 179 = .ok (.iload 4, 2) := op_21 nN_cX11_isSimple (by decide +kernel)
theorem dX11_isSimple_181 : decode cX11_isSimple 181 = .ok (.iload 5, 2) := op_21 nN_cX11_isSimple (by decide +kernel)
theorem dX11_isSimple_183 : decode cX11_isSimple 183 = .ok (.invokevirtual 182, 3) := op_182 nN_cX11_isSimple (by decide +kernel)
theorem dX11_isSimple_186 : decode cX11_isSimple 186 = .ok (.ifCond .eq 40, 3) := op_153 nN_cX11_isSimple (by decide +kernel)
theorem dX11_isSimple_189 : decode cX11_isSimple 189 = .ok (.goto 35, 3) := op_167 nN_cX11_isSimple (by decide +kernel)
theorem dX11_isSimple_192 : decode cX11_isSimple 192 = .ok (.iload 7, 2) := op_21 nN_cX11_isSimple (by decide +kernel)
theorem dX11_isSimple_194 : decode cX11_isSimple 194 = .ok (.ifCond .eq 18, 3) := op_153 nN_cX11_isSimple (by decide +kernel)
theorem dX11_isSimple_197 : decode cX11_isSimple 197 = .ok (.aload_n 0, 1) := op_42 nN_cX11_isSimple (by decide +kernel)
theorem dX11_isSimple_198 : decode cX11_isSimple 198 = .ok (.iload_n 1, 1) := op_27 nN_cX11_isSimple (by decide +kernel)
theorem dX11_isSimple_199 : decode cX11_isSimple 199 = .ok (.iload 5, 2) := op_21 nN_cX11_isSimple (by decide +kernel)
theorem dX11_isSimple_201 : decode cX11_isSimple 201 = .ok (.iload 4, 2) := op_21 nN_cX11_isSimple (by decide +kernel)
theorem dX11_isSimple_203 : decode cX11_isSimple 203 = .ok (.invokevirtual 182, 3) := op_182 nN_cX11_isSimple (by decide +kernel)
theorem dX11_isSimple_206 : decode cX11_isSimple 206 = .ok (.ifCond .eq 20, 3) := op_153 nN_cX11_isSimple (by decide +kernel)
theorem dX11_isSimple_209 : decode cX11_isSimple 209 = .ok (.goto 15, 3) := op_167 nN_cX11_isSimple (by decide +kernel)
theorem dX11_isSimple_212 : decode cX11_isSimple 212 = .ok (.aload_n 0, 1) := op_42 nN_cX11_isSimple (by decide +kernel)
theorem dX11_isSimple_213 : decode cX11_isSimple 213 = .ok (.iload_n 1, 1) := op_27 nN_cX11_isSimple (by decide +kernel)
theorem dX11_isSimple_214 : decode cX11_isSimple 214 = .ok (.iload 4, 2) := op_21 nN_cX11_isSimple (by decide +kernel)
theorem dX11_isSimple_216 : decode cX11_isSimple 216 = .ok (.iload 5, 2) := op_21 nN_cX11_isSimple (by decide +kernel)
theorem dX11_isSimple_218 : decode cX11_isSimple 218 = .ok (.invokevirtual 185, 3) := op_182 nN_cX11_isSimple (by decide +kernel)
theorem dX11_isSimple_221 : decode cX11_isSimple 221 = .ok (.ifCond .eq 5, 3) := op_153 nN_cX11_isSimple (by decide +kernel)
theorem dX11_isSimple_224 : decode cX11_isSimple 224 = .ok (.iconst 0, 1) := op_3 nN_cX11_isSimple (by decide +kernel)
theorem dX11_isSimple_225 : decode cX11_isSimple 225 = .ok (.ireturn, 1) := op_172 nN_cX11_isSimple (by decide +kernel)
theorem dX11_isSimple_226 : decode cX11_isSimple 226 = .ok (.iinc 5 1, 3) := op_132 nN_cX11_isSimple (by decide +kernel)
theorem dX11_isSimple_229 : decode cX11_isSimple 229 = .ok (.goto (-107), 3) := op_167 nN_cX11_isSimple (by decide +kernel)
theorem dX11_isSimple_232 : decode cX11_isSimple 232 = .ok (.iinc 4 1, 3) := op_132 nN_cX11_isSimple (by decide +kernel)
theorem dX11_isSimple_235 : decode cX11_isSimple 235 = .ok (.goto (-125), 3) := op_167 nN_cX11_isSimple (by decide +kernel)
theorem dX11_isSimple_238 : decode cX11_isSimple 238 = .ok (.aload_n 0, 1) := op_42 nN_cX11_isSimple (by decide +kernel)
theorem dX11_isSimple_239 : decode cX11_isSimple 239 = .ok (.getfield 7, 3) := op_180 nN_cX11_isSimple (by decide +kernel)
theorem dX11_isSimple_242 : decode cX11_isSimple 242 = .ok (.iload_n 1, 1) := op_27 nN_cX11_isSimple (by decide +kernel)
theorem dX11_isSimple_243 : decode cX11_isSimple 243 = .ok (.iaload, 1) := op_46 nN_cX11_isSimple (by decide +kernel)
theorem dX11_isSimple_244 : decode cX11_isSimple 244 = .ok (.bipush 6, 2) := op_16 nN_cX11_isSimple (by decide +kernel)
theorem dX11_isSimple_246 : decode cX11_isSimple 246 = .ok (.if_icmp .ne 11, 3) := op_160 nN_cX11_isSimple (by decide +kernel)
theorem dX11_isSimple_249 : decode cX11_isSimple 249 = .ok (.aload_n 0, 1) := op_42 nN_cX11_isSimple (by decide +kernel)
theorem dX11_isSimple_250 : decode cX11_isSimple 250 = .ok (.iload_n 1, 1) := op_27 nN_cX11_isSimple (by decide +kernel)
theorem dX11_isSimple_251 : decode cX11_isSimple 251 = .ok (.invokevirtual 188, 3) := op_182 nN_cX11_isSimple (by decide +kernel)
theorem dX11_isSimple_254 : decode cX11_isSimple 254 = .ok (.ifCond .eq 7, 3) := op_153 nN_cX11_isSimple (by decide +kernel)
theorem dX11_isSimple_257 : decode cX11_isSimple 257 = .ok (.iconst 1, 1) := op_4 nN_cX11_isSimple (by decide +kernel)
theorem dX11_isSimple_258 : decode cX11_isSimple 258 = .ok (.goto 4, 3) := op_167 nN_cX11_isSimple (by decide +kernel)
theorem dX11_isSimple_261 : decode cX11_isSimple 261 = .ok (.iconst 0, 1) := op_3 nN_cX11_isSimple (by decide +kernel)
theorem dX11_isSimple_262 : decode cX11_isSimple 262 = .ok (.ireturn, 1) := op_172 nN_cX11_isSimple (by decide +kernel)
theorem nN_cX11_meetsEdge : onN cX11_meetsEdge.data.toList = 0x15aac00ae4a8015a8ad50015b8203c1c15aa002b702074382b := by decide +kernel
theorem dX11_meetsEdge_0 : decode cX11_meetsEdge 0 = .ok (.aload_n 0, 1) := op_42 nN_cX11_meetsEdge (by decide +kernel)
theorem dX11_meetsEdge_1 : decode cX11_meetsEdge 1 = .ok (.iload_n 1, 1) := op_27 nN_cX11_meetsEdge (by decide +kernel)
theorem dX11_meetsEdge_2 : decode cX11_meetsEdge 2 = .ok (.iload_n 2, 1) := op_28 nN_cX11_meetsEdge (by decide +kernel)
theorem dX11_meetsEdge_3 : decode cX11_meetsEdge 3 = .ok (.iconst 0, 1) := op_3 nN_cX11_meetsEdge (by decide +kernel)
theorem dX11_meetsEdge_4 : decode cX11_meetsEdge 4 = .ok (.invokevirtual 167, 3) := op_182 nN_cX11_meetsEdge (by decide +kernel)
theorem dX11_meetsEdge_7 : decode cX11_meetsEdge 7 = .ok (.aload_n 0, 1) := op_42 nN_cX11_meetsEdge (by decide +kernel)
theorem dX11_meetsEdge_8 : decode cX11_meetsEdge 8 = .ok (.iload_n 1, 1) := op_27 nN_cX11_meetsEdge (by decide +kernel)
theorem dX11_meetsEdge_9 : decode cX11_meetsEdge 9 = .ok (.iload_n 3, 1) := op_29 nN_cX11_meetsEdge (by decide +kernel)
theorem dX11_meetsEdge_10 : decode cX11_meetsEdge 10 = .ok (.iconst 4, 1) := op_7 nN_cX11_meetsEdge (by decide +kernel)
theorem dX11_meetsEdge_11 : decode cX11_meetsEdge 11 = .ok (.invokevirtual 167, 3) := op_182 nN_cX11_meetsEdge (by decide +kernel)
theorem dX11_meetsEdge_14 : decode cX11_meetsEdge 14 = .ok (.aload_n 0, 1) := op_42 nN_cX11_meetsEdge (by decide +kernel)
theorem dX11_meetsEdge_15 : decode cX11_meetsEdge 15 = .ok (.getfield 83, 3) := op_180 nN_cX11_meetsEdge (by decide +kernel)
theorem dX11_meetsEdge_18 : decode cX11_meetsEdge 18 = .ok (.invokestatic 171, 3) := op_184 nN_cX11_meetsEdge (by decide +kernel)
theorem dX11_meetsEdge_21 : decode cX11_meetsEdge 21 = .ok (.ireturn, 1) := op_172 nN_cX11_meetsEdge (by decide +kernel)
theorem nN_cX11_folds : onN cX11_folds.data.toList = 0x568100a015401410014fa5414050b814706235218ca2f0395002b5158bc10112a0056a2b431945e072a0056a2b17814a8015a8acd486328bc0c5400ad4562f03844a8015a8ad0c6517818a8015a8ac5e042a0056a2b568100c014d254148d00ae50c2f04044a8015a8ad0c2f03844a8015a8ad0c2f0395002b515a185e062a0056a2b430bc0a5400ad4568617810a8015a8ad50015b8203c1c15aa002b702074382b := by decide +kernel
theorem dX11_folds_0 : decode cX11_folds 0 = .ok (.aload_n 0, 1) := op_42 nN_cX11_folds (by decide +kernel)
theorem dX11_folds_1 : decode cX11_folds 1 = .ok (.iload_n 1, 1) := op_27 nN_cX11_folds (by decide +kernel)
theorem dX11_folds_2 : decode cX11_folds 2 = .ok (.iload_n 2, 1) := op_28 nN_cX11_folds (by decide +kernel)
theorem dX11_folds_3 : decode cX11_folds 3 = .ok (.iconst 0, 1) := op_3 nN_cX11_folds (by decide +kernel)
theorem dX11_folds_4 : decode cX11_folds 4 = .ok (.invokevirtual 167, 3) := op_182 nN_cX11_folds (by decide +kernel)
theorem dX11_folds_7 : decode cX11_folds 7 = .ok (.aload_n 0, 1) := op_42 nN_cX11_folds (by decide +kernel)
theorem dX11_folds_8 : decode cX11_folds 8 = .ok (.iload_n 1, 1) := op_27 nN_cX11_folds (by decide +kernel)
theorem dX11_folds_9 : decode cX11_folds 9 = .ok (.iload_n 3, 1) := op_29 nN_cX11_folds (by decide +kernel)
theorem dX11_folds_10 : decode cX11_folds 10 = .ok (.iconst 4, 1) := op_7 nN_cX11_folds (by decide +kernel)
theorem dX11_folds_11 : decode cX11_folds 11 = .ok (.invokevirtual 167, 3) := op_182 nN_cX11_folds (by decide +kernel)
theorem dX11_folds_14 : decode cX11_folds 14 = .ok (.aload_n 0, 1) := op_42 nN_cX11_folds (by decide +kernel)
theorem dX11_folds_15 : decode cX11_folds 15 = .ok (.getfield 83, 3) := op_180 nN_cX11_folds (by decide +kernel)
theorem dX11_folds_18 : decode cX11_folds 18 = .ok (.iconst 0, 1) := op_3 nN_cX11_folds (by decide +kernel)
theorem dX11_folds_19 : decode cX11_folds 19 = .ok (.iaload, 1) := op_46 nN_cX11_folds (by decide +kernel)
theorem dX11_folds_20 : decode cX11_folds 20 = .ok (.i2l, 1) := op_133 nN_cX11_folds (by decide +kernel)
theorem dX11_folds_21 : decode cX11_folds 21 = .ok (.aload_n 0, 1) := op_42 nN_cX11_folds (by decide +kernel)
theorem dX11_folds_22 : decode cX11_folds 22 = .ok (.getfield 83, 3) := op_180 nN_cX11_folds (by decide +kernel)
theorem dX11_folds_25 : decode cX11_folds 25 = .ok (.iconst 1, 1) := op_4 nN_cX11_folds (by decide +kernel)
theorem dX11_folds_26 : decode cX11_folds 26 = .ok (.iaload, 1) := op_46 nN_cX11_folds (by decide +kernel)
theorem dX11_folds_27 : decode cX11_folds 27 = .ok (.i2l, 1) := op_133 nN_cX11_folds (by decide +kernel)
theorem dX11_folds_28 : decode cX11_folds 28 = .ok (.aload_n 0, 1) := op_42 nN_cX11_folds (by decide +kernel)
theorem dX11_folds_29 : decode cX11_folds 29 = .ok (.getfield 83, 3) := op_180 nN_cX11_folds (by decide +kernel)
theorem dX11_folds_32 : decode cX11_folds 32 = .ok (.iconst 2, 1) := op_5 nN_cX11_folds (by decide +kernel)
theorem dX11_folds_33 : decode cX11_folds 33 = .ok (.iaload, 1) := op_46 nN_cX11_folds (by decide +kernel)
theorem dX11_folds_34 : decode cX11_folds 34 = .ok (.i2l, 1) := op_133 nN_cX11_folds (by decide +kernel)
theorem dX11_folds_35 : decode cX11_folds 35 = .ok (.aload_n 0, 1) := op_42 nN_cX11_folds (by decide +kernel)
theorem dX11_folds_36 : decode cX11_folds 36 = .ok (.getfield 83, 3) := op_180 nN_cX11_folds (by decide +kernel)
theorem dX11_folds_39 : decode cX11_folds 39 = .ok (.iconst 3, 1) := op_6 nN_cX11_folds (by decide +kernel)
theorem dX11_folds_40 : decode cX11_folds 40 = .ok (.iaload, 1) := op_46 nN_cX11_folds (by decide +kernel)
theorem dX11_folds_41 : decode cX11_folds 41 = .ok (.i2l, 1) := op_133 nN_cX11_folds (by decide +kernel)
theorem dX11_folds_42 : decode cX11_folds 42 = .ok (.aload_n 0, 1) := op_42 nN_cX11_folds (by decide +kernel)
theorem dX11_folds_43 : decode cX11_folds 43 = .ok (.getfield 83, 3) := op_180 nN_cX11_folds (by decide +kernel)
theorem dX11_folds_46 : decode cX11_folds 46 = .ok (.bipush 6, 2) := op_16 nN_cX11_folds (by decide +kernel)
theorem dX11_folds_48 : decode cX11_folds 48 = .ok (.iaload, 1) := op_46 nN_cX11_folds (by decide +kernel)
theorem dX11_folds_49 : decode cX11_folds 49 = .ok (.i2l, 1) := op_133 nN_cX11_folds (by decide +kernel)
theorem dX11_folds_50 : decode cX11_folds 50 = .ok (.aload_n 0, 1) := op_42 nN_cX11_folds (by decide +kernel)
theorem dX11_folds_51 : decode cX11_folds 51 = .ok (.getfield 83, 3) := op_180 nN_cX11_folds (by decide +kernel)
theorem dX11_folds_54 : decode cX11_folds 54 = .ok (.bipush 7, 2) := op_16 nN_cX11_folds (by decide +kernel)
theorem dX11_folds_56 : decode cX11_folds 56 = .ok (.iaload, 1) := op_46 nN_cX11_folds (by decide +kernel)
theorem dX11_folds_57 : decode cX11_folds 57 = .ok (.i2l, 1) := op_133 nN_cX11_folds (by decide +kernel)
theorem dX11_folds_58 : decode cX11_folds 58 = .ok (.invokestatic 140, 3) := op_184 nN_cX11_folds (by decide +kernel)
theorem dX11_folds_61 : decode cX11_folds 61 = .ok (.lconst 0, 1) := op_9 nN_cX11_folds (by decide +kernel)
theorem dX11_folds_62 : decode cX11_folds 62 = .ok (.lcmp, 1) := op_148 nN_cX11_folds (by decide +kernel)
theorem dX11_folds_63 : decode cX11_folds 63 = .ok (.ifCond .eq 5, 3) := op_153 nN_cX11_folds (by decide +kernel)
theorem dX11_folds_66 : decode cX11_folds 66 = .ok (.iconst 0, 1) := op_3 nN_cX11_folds (by decide +kernel)
theorem dX11_folds_67 : decode cX11_folds 67 = .ok (.ireturn, 1) := op_172 nN_cX11_folds (by decide +kernel)
theorem dX11_folds_68 : decode cX11_folds 68 = .ok (.aload_n 0, 1) := op_42 nN_cX11_folds (by decide +kernel)
theorem dX11_folds_69 : decode cX11_folds 69 = .ok (.getfield 83, 3) := op_180 nN_cX11_folds (by decide +kernel)
theorem dX11_folds_72 : decode cX11_folds 72 = .ok (.iconst 0, 1) := op_3 nN_cX11_folds (by decide +kernel)
theorem dX11_folds_73 : decode cX11_folds 73 = .ok (.iaload, 1) := op_46 nN_cX11_folds (by decide +kernel)
theorem dX11_folds_74 : decode cX11_folds 74 = .ok (.aload_n 0, 1) := op_42 nN_cX11_folds (by decide +kernel)
theorem dX11_folds_75 : decode cX11_folds 75 = .ok (.getfield 83, 3) := op_180 nN_cX11_folds (by decide +kernel)
theorem dX11_folds_78 : decode cX11_folds 78 = .ok (.iconst 2, 1) := op_5 nN_cX11_folds (by decide +kernel)
theorem dX11_folds_79 : decode cX11_folds 79 = .ok (.iaload, 1) := op_46 nN_cX11_folds (by decide +kernel)
theorem dX11_folds_80 : decode cX11_folds 80 = .ok (.isub, 1) := op_100 nN_cX11_folds (by decide +kernel)
theorem dX11_folds_81 : decode cX11_folds 81 = .ok (.i2l, 1) := op_133 nN_cX11_folds (by decide +kernel)
theorem dX11_folds_82 : decode cX11_folds 82 = .ok (.aload_n 0, 1) := op_42 nN_cX11_folds (by decide +kernel)
theorem dX11_folds_83 : decode cX11_folds 83 = .ok (.getfield 83, 3) := op_180 nN_cX11_folds (by decide +kernel)
theorem dX11_folds_86 : decode cX11_folds 86 = .ok (.bipush 6, 2) := op_16 nN_cX11_folds (by decide +kernel)
theorem dX11_folds_88 : decode cX11_folds 88 = .ok (.iaload, 1) := op_46 nN_cX11_folds (by decide +kernel)
theorem dX11_folds_89 : decode cX11_folds 89 = .ok (.aload_n 0, 1) := op_42 nN_cX11_folds (by decide +kernel)
theorem dX11_folds_90 : decode cX11_folds 90 = .ok (.getfield 83, 3) := op_180 nN_cX11_folds (by decide +kernel)
theorem dX11_folds_93 : decode cX11_folds 93 = .ok (.iconst 2, 1) := op_5 nN_cX11_folds (by decide +kernel)
theorem dX11_folds_94 : decode cX11_folds 94 = .ok (.iaload, 1) := op_46 nN_cX11_folds (by decide +kernel)
theorem dX11_folds_95 : decode cX11_folds 95 = .ok (.isub, 1) := op_100 nN_cX11_folds (by decide +kernel)
theorem dX11_folds_96 : decode cX11_folds 96 = .ok (.i2l, 1) := op_133 nN_cX11_folds (by decide +kernel)
theorem dX11_folds_97 : decode cX11_folds 97 = .ok (.lmul, 1) := op_105 nN_cX11_folds (by decide +kernel)
theorem dX11_folds_98 : decode cX11_folds 98 = .ok (.aload_n 0, 1) := op_42 nN_cX11_folds (by decide +kernel)
theorem dX11_folds_99 : decode cX11_folds 99 = .ok (.getfield 83, 3) := op_180 nN_cX11_folds (by decide +kernel)
theorem dX11_folds_102 : decode cX11_folds 102 = .ok (.iconst 1, 1) := op_4 nN_cX11_folds (by decide +kernel)
theorem dX11_folds_103 : decode cX11_folds 103 = .ok (.iaload, 1) := op_46 nN_cX11_folds (by decide +kernel)
theorem dX11_folds_104 : decode cX11_folds 104 = .ok (.aload_n 0, 1) := op_42 nN_cX11_folds (by decide +kernel)
theorem dX11_folds_105 : decode cX11_folds 105 = .ok (.getfield 83, 3) := op_180 nN_cX11_folds (by decide +kernel)
theorem dX11_folds_108 : decode cX11_folds 108 = .ok (.iconst 3, 1) := op_6 nN_cX11_folds (by decide +kernel)
theorem dX11_folds_109 : decode cX11_folds 109 = .ok (.iaload, 1) := op_46 nN_cX11_folds (by decide +kernel)
theorem dX11_folds_110 : decode cX11_folds 110 = .ok (.isub, 1) := op_100 nN_cX11_folds (by decide +kernel)
theorem dX11_folds_111 : decode cX11_folds 111 = .ok (.i2l, 1) := op_133 nN_cX11_folds (by decide +kernel)
theorem dX11_folds_112 : decode cX11_folds 112 = .ok (.aload_n 0, 1) := op_42 nN_cX11_folds (by decide +kernel)
theorem dX11_folds_113 : decode cX11_folds 113 = .ok (.getfield 83, 3) := op_180 nN_cX11_folds (by decide +kernel)
theorem dX11_folds_116 : decode cX11_folds 116 = .ok (.bipush 7, 2) := op_16 nN_cX11_folds (by decide +kernel)
theorem dX11_folds_118 : decode cX11_folds 118 = .ok (.iaload, 1) := op_46 nN_cX11_folds (by decide +kernel)
theorem dX11_folds_119 : decode cX11_folds 119 = .ok (.aload_n 0, 1) := op_42 nN_cX11_folds (by decide +kernel)
theorem dX11_folds_120 : decode cX11_folds 120 = .ok (.getfield 83, 3) := op_180 nN_cX11_folds (by decide +kernel)
theorem dX11_folds_123 : decode cX11_folds 123 = .ok (.iconst 3, 1) := op_6 nN_cX11_folds (by decide +kernel)
theorem dX11_folds_124 : decode cX11_folds 124 = .ok (.iaload, 1) := op_46 nN_cX11_folds (by decide +kernel)
theorem dX11_folds_125 : decode cX11_folds 125 = .ok (.isub, 1) := op_100 nN_cX11_folds (by decide +kernel)
theorem dX11_folds_126 : decode cX11_folds 126 = .ok (.i2l, 1) := op_133 nN_cX11_folds (by decide +kernel)
theorem dX11_folds_127 : decode cX11_folds 127 = .ok (.lmul, 1) := op_105 nN_cX11_folds (by decide +kernel)
theorem dX11_folds_128 : decode cX11_folds 128 = .ok (.ladd, 1) := op_97 nN_cX11_folds (by decide +kernel)
theorem dX11_folds_129 : decode cX11_folds 129 = .ok (.lstore 4, 2) := op_55 nN_cX11_folds (by decide +kernel)
theorem dX11_folds_131 : decode cX11_folds 131 = .ok (.lload 4, 2) := op_22 nN_cX11_folds (by decide +kernel)
theorem dX11_folds_133 : decode cX11_folds 133 = .ok (.lconst 0, 1) := op_9 nN_cX11_folds (by decide +kernel)
theorem dX11_folds_134 : decode cX11_folds 134 = .ok (.lcmp, 1) := op_148 nN_cX11_folds (by decide +kernel)
theorem dX11_folds_135 : decode cX11_folds 135 = .ok (.ifCond .le 7, 3) := op_158 nN_cX11_folds (by decide +kernel)
theorem dX11_folds_138 : decode cX11_folds 138 = .ok (.iconst 1, 1) := op_4 nN_cX11_folds (by decide +kernel)
theorem dX11_folds_139 : decode cX11_folds 139 = .ok (.goto 4, 3) := op_167 nN_cX11_folds (by decide +kernel)
theorem dX11_folds_142 : decode cX11_folds 142 = .ok (.iconst 0, 1) := op_3 nN_cX11_folds (by decide +kernel)
theorem dX11_folds_143 : decode cX11_folds 143 = .ok (.ireturn, 1) := op_172 nN_cX11_folds (by decide +kernel)
theorem nN_cX11_isSquare : onN cX11_isSquare.data.toList = 0x568152100540080685568100c014d254146235218ca2f0495002b5158bc10112a0056a2b431945e052a0056a2b1781ca8015a8acd486328bc105400ad4562f03844a8015a8ad0c6517810a8015a8ac5e062a0056a2b540056e08308143a0700aa0080800a845e1c150056a2b308143a1c15aa002b702074382b37005462f0e0a802b5158747c04 := by decide +kernel
theorem dX11_isSquare_0 : decode cX11_isSquare 0 = .ok (.iconst 0, 1) := op_3 nN_cX11_isSquare (by decide +kernel)
theorem dX11_isSquare_1 : decode cX11_isSquare 1 = .ok (.istore_n 2, 1) := op_61 nN_cX11_isSquare (by decide +kernel)
theorem dX11_isSquare_2 : decode cX11_isSquare 2 = .ok (.iload_n 2, 1) := op_28 nN_cX11_isSquare (by decide +kernel)
theorem dX11_isSquare_3 : decode cX11_isSquare 3 = .ok (.aload_n 0, 1) := op_42 nN_cX11_isSquare (by decide +kernel)
theorem dX11_isSquare_4 : decode cX11_isSquare 4 = .ok (.getfield 41, 3) := op_180 nN_cX11_isSquare (by decide +kernel)
theorem dX11_isSquare_7 : decode cX11_isSquare 7 = .ok (.iload_n 1, 1) := op_27 nN_cX11_isSquare (by decide +kernel)
theorem dX11_isSquare_8 : decode cX11_isSquare 8 = .ok (.iaload, 1) := op_46 nN_cX11_isSquare (by decide +kernel)
theorem dX11_isSquare_9 : decode cX11_isSquare 9 = .ok (.if_icmp .ge 109, 3) := op_162 nN_cX11_isSquare (by decide +kernel)
theorem dX11_isSquare_12 : decode cX11_isSquare 12 = .ok (.aload_n 0, 1) := op_42 nN_cX11_isSquare (by decide +kernel)
theorem dX11_isSquare_13 : decode cX11_isSquare 13 = .ok (.iload_n 1, 1) := op_27 nN_cX11_isSquare (by decide +kernel)
theorem dX11_isSquare_14 : decode cX11_isSquare 14 = .ok (.iload_n 2, 1) := op_28 nN_cX11_isSquare (by decide +kernel)
theorem dX11_isSquare_15 : decode cX11_isSquare 15 = .ok (.iconst 0, 1) := op_3 nN_cX11_isSquare (by decide +kernel)
theorem dX11_isSquare_16 : decode cX11_isSquare 16 = .ok (.invokevirtual 167, 3) := op_182 nN_cX11_isSquare (by decide +kernel)
theorem dX11_isSquare_19 : decode cX11_isSquare 19 = .ok (.aload_n 0, 1) := op_42 nN_cX11_isSquare (by decide +kernel)
theorem dX11_isSquare_20 : decode cX11_isSquare 20 = .ok (.iload_n 1, 1) := op_27 nN_cX11_isSquare (by decide +kernel)
theorem dX11_isSquare_21 : decode cX11_isSquare 21 = .ok (.iload_n 2, 1) := op_28 nN_cX11_isSquare (by decide +kernel)
theorem dX11_isSquare_22 : decode cX11_isSquare 22 = .ok (.iconst 1, 1) := op_4 nN_cX11_isSquare (by decide +kernel)
theorem dX11_isSquare_23 : decode cX11_isSquare 23 = .ok (.iadd, 1) := op_96 nN_cX11_isSquare (by decide +kernel)
theorem dX11_isSquare_24 : decode cX11_isSquare 24 = .ok (.aload_n 0, 1) := op_42 nN_cX11_isSquare (by decide +kernel)
theorem dX11_isSquare_25 : decode cX11_isSquare 25 = .ok (.getfield 41, 3) := op_180 nN_cX11_isSquare (by decide +kernel)
theorem dX11_isSquare_28 : decode cX11_isSquare 28 = .ok (.iload_n 1, 1) := op_27 nN_cX11_isSquare (by decide +kernel)
theorem dX11_isSquare_29 : decode cX11_isSquare 29 = .ok (.iaload, 1) := op_46 nN_cX11_isSquare (by decide +kernel)
theorem dX11_isSquare_30 : decode cX11_isSquare 30 = .ok (.if_icmp .ne 7, 3) := op_160 nN_cX11_isSquare (by decide +kernel)
theorem dX11_isSquare_33 : decode cX11_isSquare 33 = .ok (.iconst 0, 1) := op_3 nN_cX11_isSquare (by decide +kernel)
theorem dX11_isSquare_34 : decode cX11_isSquare 34 = .ok (.goto 6, 3) := op_167 nN_cX11_isSquare (by decide +kernel)
theorem dX11_isSquare_37 : decode cX11_isSquare 37 = .ok (.iload_n 2, 1) := op_28 nN_cX11_isSquare (by decide +kernel)
theorem dX11_isSquare_38 : decode cX11_isSquare 38 = .ok (.iconst 1, 1) := op_4 nN_cX11_isSquare (by decide +kernel)
theorem dX11_isSquare_39 : decode cX11_isSquare 39 = .ok (.iadd, 1) := op_96 nN_cX11_isSquare (by decide +kernel)
theorem dX11_isSquare_40 : decode cX11_isSquare 40 = .ok (.iconst 4, 1) := op_7 nN_cX11_isSquare (by decide +kernel)
theorem dX11_isSquare_41 : decode cX11_isSquare 41 = .ok (.invokevirtual 167, 3) := op_182 nN_cX11_isSquare (by decide +kernel)
theorem dX11_isSquare_44 : decode cX11_isSquare 44 = .ok (.aload_n 0, 1) := op_42 nN_cX11_isSquare (by decide +kernel)
theorem dX11_isSquare_45 : decode cX11_isSquare 45 = .ok (.getfield 83, 3) := op_180 nN_cX11_isSquare (by decide +kernel)
theorem dX11_isSquare_48 : decode cX11_isSquare 48 = .ok (.iconst 2, 1) := op_5 nN_cX11_isSquare (by decide +kernel)
theorem dX11_isSquare_49 : decode cX11_isSquare 49 = .ok (.iaload, 1) := op_46 nN_cX11_isSquare (by decide +kernel)
theorem dX11_isSquare_50 : decode cX11_isSquare 50 = .ok (.aload_n 0, 1) := op_42 nN_cX11_isSquare (by decide +kernel)
theorem dX11_isSquare_51 : decode cX11_isSquare 51 = .ok (.getfield 83, 3) := op_180 nN_cX11_isSquare (by decide +kernel)
theorem dX11_isSquare_54 : decode cX11_isSquare 54 = .ok (.iconst 0, 1) := op_3 nN_cX11_isSquare (by decide +kernel)
theorem dX11_isSquare_55 : decode cX11_isSquare 55 = .ok (.iaload, 1) := op_46 nN_cX11_isSquare (by decide +kernel)
theorem dX11_isSquare_56 : decode cX11_isSquare 56 = .ok (.isub, 1) := op_100 nN_cX11_isSquare (by decide +kernel)
theorem dX11_isSquare_57 : decode cX11_isSquare 57 = .ok (.i2l, 1) := op_133 nN_cX11_isSquare (by decide +kernel)
theorem dX11_isSquare_58 : decode cX11_isSquare 58 = .ok (.aload_n 0, 1) := op_42 nN_cX11_isSquare (by decide +kernel)
theorem dX11_isSquare_59 : decode cX11_isSquare 59 = .ok (.getfield 83, 3) := op_180 nN_cX11_isSquare (by decide +kernel)
theorem dX11_isSquare_62 : decode cX11_isSquare 62 = .ok (.bipush 6, 2) := op_16 nN_cX11_isSquare (by decide +kernel)
theorem dX11_isSquare_64 : decode cX11_isSquare 64 = .ok (.iaload, 1) := op_46 nN_cX11_isSquare (by decide +kernel)
theorem dX11_isSquare_65 : decode cX11_isSquare 65 = .ok (.aload_n 0, 1) := op_42 nN_cX11_isSquare (by decide +kernel)
theorem dX11_isSquare_66 : decode cX11_isSquare 66 = .ok (.getfield 83, 3) := op_180 nN_cX11_isSquare (by decide +kernel)
theorem dX11_isSquare_69 : decode cX11_isSquare 69 = .ok (.iconst 4, 1) := op_7 nN_cX11_isSquare (by decide +kernel)
theorem dX11_isSquare_70 : decode cX11_isSquare 70 = .ok (.iaload, 1) := op_46 nN_cX11_isSquare (by decide +kernel)
theorem dX11_isSquare_71 : decode cX11_isSquare 71 = .ok (.isub, 1) := op_100 nN_cX11_isSquare (by decide +kernel)
theorem dX11_isSquare_72 : decode cX11_isSquare 72 = .ok (.i2l, 1) := op_133 nN_cX11_isSquare (by decide +kernel)
theorem dX11_isSquare_73 : decode cX11_isSquare 73 = .ok (.lmul, 1) := op_105 nN_cX11_isSquare (by decide +kernel)
theorem dX11_isSquare_74 : decode cX11_isSquare 74 = .ok (.aload_n 0, 1) := op_42 nN_cX11_isSquare (by decide +kernel)
theorem dX11_isSquare_75 : decode cX11_isSquare 75 = .ok (.getfield 83, 3) := op_180 nN_cX11_isSquare (by decide +kernel)
theorem dX11_isSquare_78 : decode cX11_isSquare 78 = .ok (.iconst 3, 1) := op_6 nN_cX11_isSquare (by decide +kernel)
theorem dX11_isSquare_79 : decode cX11_isSquare 79 = .ok (.iaload, 1) := op_46 nN_cX11_isSquare (by decide +kernel)
theorem dX11_isSquare_80 : decode cX11_isSquare 80 = .ok (.aload_n 0, 1) := op_42 nN_cX11_isSquare (by decide +kernel)
theorem dX11_isSquare_81 : decode cX11_isSquare 81 = .ok (.getfield 83, 3) := op_180 nN_cX11_isSquare (by decide +kernel)
theorem dX11_isSquare_84 : decode cX11_isSquare 84 = .ok (.iconst 1, 1) := op_4 nN_cX11_isSquare (by decide +kernel)
theorem dX11_isSquare_85 : decode cX11_isSquare 85 = .ok (.iaload, 1) := op_46 nN_cX11_isSquare (by decide +kernel)
theorem dX11_isSquare_86 : decode cX11_isSquare 86 = .ok (.isub, 1) := op_100 nN_cX11_isSquare (by decide +kernel)
theorem dX11_isSquare_87 : decode cX11_isSquare 87 = .ok (.i2l, 1) := op_133 nN_cX11_isSquare (by decide +kernel)
theorem dX11_isSquare_88 : decode cX11_isSquare 88 = .ok (.aload_n 0, 1) := op_42 nN_cX11_isSquare (by decide +kernel)
theorem dX11_isSquare_89 : decode cX11_isSquare 89 = .ok (.getfield 83, 3) := op_180 nN_cX11_isSquare (by decide +kernel)
theorem dX11_isSquare_92 : decode cX11_isSquare 92 = .ok (.bipush 7, 2) := op_16 nN_cX11_isSquare (by decide +kernel)
theorem dX11_isSquare_94 : decode cX11_isSquare 94 = .ok (.iaload, 1) := op_46 nN_cX11_isSquare (by decide +kernel)
theorem dX11_isSquare_95 : decode cX11_isSquare 95 = .ok (.aload_n 0, 1) := op_42 nN_cX11_isSquare (by decide +kernel)
theorem dX11_isSquare_96 : decode cX11_isSquare 96 = .ok (.getfield 83, 3) := op_180 nN_cX11_isSquare (by decide +kernel)
theorem dX11_isSquare_99 : decode cX11_isSquare 99 = .ok (.iconst 5, 1) := op_8 nN_cX11_isSquare (by decide +kernel)
theorem dX11_isSquare_100 : decode cX11_isSquare 100 = .ok (.iaload, 1) := op_46 nN_cX11_isSquare (by decide +kernel)
theorem dX11_isSquare_101 : decode cX11_isSquare 101 = .ok (.isub, 1) := op_100 nN_cX11_isSquare (by decide +kernel)
theorem dX11_isSquare_102 : decode cX11_isSquare 102 = .ok (.i2l, 1) := op_133 nN_cX11_isSquare (by decide +kernel)
theorem dX11_isSquare_103 : decode cX11_isSquare 103 = .ok (.lmul, 1) := op_105 nN_cX11_isSquare (by decide +kernel)
theorem dX11_isSquare_104 : decode cX11_isSquare 104 = .ok (.ladd, 1) := op_97 nN_cX11_isSquare (by decide +kernel)
theorem dX11_isSquare_105 : decode cX11_isSquare 105 = .ok (.lconst 0, 1) := op_9 nN_cX11_isSquare (by decide +kernel)
theorem dX11_isSquare_106 : decode cX11_isSquare 106 = .ok (.lcmp, 1) := op_148 nN_cX11_isSquare (by decide +kernel)
theorem dX11_isSquare_107 : decode cX11_isSquare 107 = .ok (.ifCond .eq 5, 3) := op_153 nN_cX11_isSquare (by decide +kernel)
theorem dX11_isSquare_110 : decode cX11_isSquare 110 = .ok (.iconst 0, 1) := op_3 nN_cX11_isSquare (by decide +kernel)
theorem dX11_isSquare_111 : decode cX11_isSquare 111 = .ok (.ireturn, 1) := op_172 nN_cX11_isSquare (by decide +kernel)
theorem dX11_isSquare_112 : decode cX11_isSquare 112 = .ok (.iinc 2 1, 3) := op_132 nN_cX11_isSquare (by decide +kernel)
theorem dX11_isSquare_115 : decode cX11_isSquare 115 = .ok (.goto (-113), 3) := op_167 nN_cX11_isSquare (by decide +kernel)
theorem dX11_isSquare_118 : decode cX11_isSquare 118 = .ok (.iconst 1, 1) := op_4 nN_cX11_isSquare (by decide +kernel)
theorem dX11_isSquare_119 : decode cX11_isSquare 119 = .ok (.ireturn, 1) := op_172 nN_cX11_isSquare (by decide +kernel)
theorem nN_cX11_remember : onN cX11_remember.data.toList = 0x16473802a0040342b1a00a8010110a55668056e2f30878d21d1484460015a8ac5e610f1a43a29088b402b51587056610f1a43a290898c02b5158c0029a510056e1c158e002a31787454015a8ac3c3f02154080500aa00a0800a699a015b8bc085a00ad4562f0215c02b515874561c00a6944015b874561d300056a2b2ab2402b70e870561d2e8056a2b3b805500700a6d8c015b874568200a80381d46805468300ad4561d1f011a900540080685280bcc21d348705211180056a2b0e96802b5159405e610e9a43829088b402b515874ae015a8ac580151b0002b5158747c04618056c2f0e02002b5158ad80015b0bc382a00ad4562b := by decide +kernel
theorem dX11_remember_0 : decode cX11_remember 0 = .ok (.aload_n 0, 1) := op_42 nN_cX11_remember (by decide +kernel)
theorem dX11_remember_1 : decode cX11_remember 1 = .ok (.aload_n 0, 1) := op_42 nN_cX11_remember (by decide +kernel)
theorem dX11_remember_2 : decode cX11_remember 2 = .ok (.getfield 41, 3) := op_180 nN_cX11_remember (by decide +kernel)
theorem dX11_remember_5 : decode cX11_remember 5 = .ok (.iload_n 1, 1) := op_27 nN_cX11_remember (by decide +kernel)
theorem dX11_remember_6 : decode cX11_remember 6 = .ok (.iaload, 1) := op_46 nN_cX11_remember (by decide +kernel)
theorem dX11_remember_7 : decode cX11_remember 7 = .ok (.putfield 191, 3) := op_181 nN_cX11_remember (by decide +kernel)
theorem dX11_remember_10 : decode cX11_remember 10 = .ok (.aload_n 0, 1) := op_42 nN_cX11_remember (by decide +kernel)
theorem dX11_remember_11 : decode cX11_remember 11 = .ok (.aload_n 0, 1) := op_42 nN_cX11_remember (by decide +kernel)
theorem dX11_remember_12 : decode cX11_remember 12 = .ok (.getfield 7, 3) := op_180 nN_cX11_remember (by decide +kernel)
theorem dX11_remember_15 : decode cX11_remember 15 = .ok (.iload_n 1, 1) := op_27 nN_cX11_remember (by decide +kernel)
theorem dX11_remember_16 : decode cX11_remember 16 = .ok (.iaload, 1) := op_46 nN_cX11_remember (by decide +kernel)
theorem dX11_remember_17 : decode cX11_remember 17 = .ok (.putfield 194, 3) := op_181 nN_cX11_remember (by decide +kernel)
theorem dX11_remember_20 : decode cX11_remember 20 = .ok (.iconst 0, 1) := op_3 nN_cX11_remember (by decide +kernel)
theorem dX11_remember_21 : decode cX11_remember 21 = .ok (.istore_n 2, 1) := op_61 nN_cX11_remember (by decide +kernel)
theorem dX11_remember_22 : decode cX11_remember 22 = .ok (.iload_n 2, 1) := op_28 nN_cX11_remember (by decide +kernel)
theorem dX11_remember_23 : decode cX11_remember 23 = .ok (.aload_n 0, 1) := op_42 nN_cX11_remember (by decide +kernel)
theorem dX11_remember_24 : decode cX11_remember 24 = .ok (.getfield 191, 3) := op_180 nN_cX11_remember (by decide +kernel)
theorem dX11_remember_27 : decode cX11_remember 27 = .ok (.if_icmp .ge 43, 3) := op_162 nN_cX11_remember (by decide +kernel)
theorem dX11_remember_30 : decode cX11_remember 30 = .ok (.aload_n 0, 1) := op_42 nN_cX11_remember (by decide +kernel)
theorem dX11_remember_31 : decode cX11_remember 31 = .ok (.getfield 86, 3) := op_180 nN_cX11_remember (by decide +kernel)
theorem dX11_remember_34 : decode cX11_remember 34 = .ok (.iload_n 2, 1) := op_28 nN_cX11_remember (by decide +kernel)
theorem dX11_remember_35 : decode cX11_remember 35 = .ok (.aload_n 0, 1) := op_42 nN_cX11_remember (by decide +kernel)
theorem dX11_remember_36 : decode cX11_remember 36 = .ok (.getfield 44, 3) := op_180 nN_cX11_remember (by decide +kernel)
theorem dX11_remember_39 : decode cX11_remember 39 = .ok (.bipush 40, 2) := op_16 nN_cX11_remember (by decide +kernel)
theorem dX11_remember_41 : decode cX11_remember 41 = .ok (.iload_n 1, 1) := op_27 nN_cX11_remember (by decide +kernel)
theorem dX11_remember_42 : decode cX11_remember 42 = .ok (.imul, 1) := op_104 nN_cX11_remember (by decide +kernel)
theorem dX11_remember_43 : decode cX11_remember 43 = .ok (.iload_n 2, 1) := op_28 nN_cX11_remember (by decide +kernel)
theorem dX11_remember_44 : decode cX11_remember 44 = .ok (.iadd, 1) := op_96 nN_cX11_remember (by decide +kernel)
theorem dX11_remember_45 : decode cX11_remember 45 = .ok (.iaload, 1) := op_46 nN_cX11_remember (by decide +kernel)
theorem dX11_remember_46 : decode cX11_remember 46 = .ok (.iastore, 1) := op_79 nN_cX11_remember (by decide +kernel)
theorem dX11_remember_47 : decode cX11_remember 47 = .ok (.aload_n 0, 1) := op_42 nN_cX11_remember (by decide +kernel)
theorem dX11_remember_48 : decode cX11_remember 48 = .ok (.getfield 89, 3) := op_180 nN_cX11_remember (by decide +kernel)
theorem dX11_remember_51 : decode cX11_remember 51 = .ok (.iload_n 2, 1) := op_28 nN_cX11_remember (by decide +kernel)
theorem dX11_remember_52 : decode cX11_remember 52 = .ok (.aload_n 0, 1) := op_42 nN_cX11_remember (by decide +kernel)
theorem dX11_remember_53 : decode cX11_remember 53 = .ok (.getfield 47, 3) := op_180 nN_cX11_remember (by decide +kernel)
theorem dX11_remember_56 : decode cX11_remember 56 = .ok (.bipush 40, 2) := op_16 nN_cX11_remember (by decide +kernel)
theorem dX11_remember_58 : decode cX11_remember 58 = .ok (.iload_n 1, 1) := op_27 nN_cX11_remember (by decide +kernel)
theorem dX11_remember_59 : decode cX11_remember 59 = .ok (.imul, 1) := op_104 nN_cX11_remember (by decide +kernel)
theorem dX11_remember_60 : decode cX11_remember 60 = .ok (.iload_n 2, 1) := op_28 nN_cX11_remember (by decide +kernel)
theorem dX11_remember_61 : decode cX11_remember 61 = .ok (.iadd, 1) := op_96 nN_cX11_remember (by decide +kernel)
theorem dX11_remember_62 : decode cX11_remember 62 = .ok (.iaload, 1) := op_46 nN_cX11_remember (by decide +kernel)
theorem dX11_remember_63 : decode cX11_remember 63 = .ok (.iastore, 1) := op_79 nN_cX11_remember (by decide +kernel)
theorem dX11_remember_64 : decode cX11_remember 64 = .ok (.iinc 2 1, 3) := op_132 nN_cX11_remember (by decide +kernel)
theorem dX11_remember_67 : decode cX11_remember 67 = .ok (.goto (-45), 3) := op_167 nN_cX11_remember (by decide +kernel)
theorem dX11_remember_70 : decode cX11_remember 70 = .ok (.iconst 0, 1) := op_3 nN_cX11_remember (by decide +kernel)
theorem dX11_remember_71 : decode cX11_remember 71 = .ok (.istore_n 2, 1) := op_61 nN_cX11_remember (by decide +kernel)
theorem dX11_remember_72 : decode cX11_remember 72 = .ok (.iload_n 2, 1) := op_28 nN_cX11_remember (by decide +kernel)
theorem dX11_remember_73 : decode cX11_remember 73 = .ok (.aload_n 0, 1) := op_42 nN_cX11_remember (by decide +kernel)
theorem dX11_remember_74 : decode cX11_remember 74 = .ok (.getfield 130, 3) := op_180 nN_cX11_remember (by decide +kernel)
theorem dX11_remember_77 : decode cX11_remember 77 = .ok (.if_icmp .ge 140, 3) := op_162 nN_cX11_remember (by decide +kernel)
theorem dX11_remember_80 : decode cX11_remember 80 = .ok (.iload_n 2, 1) := op_28 nN_cX11_remember (by decide +kernel)
theorem dX11_remember_81 : decode cX11_remember 81 = .ok (.iload_n 1, 1) := op_27 nN_cX11_remember (by decide +kernel)
theorem dX11_remember_82 : decode cX11_remember 82 = .ok (.if_icmp .eq 129, 3) := op_159 nN_cX11_remember (by decide +kernel)
theorem dX11_remember_85 : decode cX11_remember 85 = .ok (.aload_n 0, 1) := op_42 nN_cX11_remember (by decide +kernel)
theorem dX11_remember_86 : decode cX11_remember 86 = .ok (.iload_n 2, 1) := op_28 nN_cX11_remember (by decide +kernel)
theorem dX11_remember_87 : decode cX11_remember 87 = .ok (.invokevirtual 197, 3) := op_182 nN_cX11_remember (by decide +kernel)
theorem dX11_remember_90 : decode cX11_remember 90 = .ok (.ifCond .ne 6, 3) := op_154 nN_cX11_remember (by decide +kernel)
theorem dX11_remember_93 : decode cX11_remember 93 = .ok (.goto 118, 3) := op_167 nN_cX11_remember (by decide +kernel)
theorem dX11_remember_96 : decode cX11_remember 96 = .ok (.aload_n 0, 1) := op_42 nN_cX11_remember (by decide +kernel)
theorem dX11_remember_97 : decode cX11_remember 97 = .ok (.getfield 92, 3) := op_180 nN_cX11_remember (by decide +kernel)
theorem dX11_remember_100 : decode cX11_remember 100 = .ok (.iload_n 2, 1) := op_28 nN_cX11_remember (by decide +kernel)
theorem dX11_remember_101 : decode cX11_remember 101 = .ok (.aload_n 0, 1) := op_42 nN_cX11_remember (by decide +kernel)
theorem dX11_remember_102 : decode cX11_remember 102 = .ok (.iload_n 1, 1) := op_27 nN_cX11_remember (by decide +kernel)
theorem dX11_remember_103 : decode cX11_remember 103 = .ok (.iload_n 2, 1) := op_28 nN_cX11_remember (by decide +kernel)
theorem dX11_remember_104 : decode cX11_remember 104 = .ok (.invokevirtual 200, 3) := op_182 nN_cX11_remember (by decide +kernel)
theorem dX11_remember_107 : decode cX11_remember 107 = .ok (.bastore, 1) := op_84 nN_cX11_remember (by decide +kernel)
theorem dX11_remember_108 : decode cX11_remember 108 = .ok (.aload_n 0, 1) := op_42 nN_cX11_remember (by decide +kernel)
theorem dX11_remember_109 : decode cX11_remember 109 = .ok (.getfield 95, 3) := op_180 nN_cX11_remember (by decide +kernel)
theorem dX11_remember_112 : decode cX11_remember 112 = .ok (.iload_n 2, 1) := op_28 nN_cX11_remember (by decide +kernel)
theorem dX11_remember_113 : decode cX11_remember 113 = .ok (.aload_n 0, 1) := op_42 nN_cX11_remember (by decide +kernel)
theorem dX11_remember_114 : decode cX11_remember 114 = .ok (.iload_n 2, 1) := op_28 nN_cX11_remember (by decide +kernel)
theorem dX11_remember_115 : decode cX11_remember 115 = .ok (.invokevirtual 161, 3) := op_182 nN_cX11_remember (by decide +kernel)
theorem dX11_remember_118 : decode cX11_remember 118 = .ok (.ifCond .eq 27, 3) := op_153 nN_cX11_remember (by decide +kernel)
theorem dX11_remember_121 : decode cX11_remember 121 = .ok (.aload_n 0, 1) := op_42 nN_cX11_remember (by decide +kernel)
theorem dX11_remember_122 : decode cX11_remember 122 = .ok (.iload_n 2, 1) := op_28 nN_cX11_remember (by decide +kernel)
theorem dX11_remember_123 : decode cX11_remember 123 = .ok (.aload_n 0, 1) := op_42 nN_cX11_remember (by decide +kernel)
theorem dX11_remember_124 : decode cX11_remember 124 = .ok (.getfield 86, 3) := op_180 nN_cX11_remember (by decide +kernel)
theorem dX11_remember_127 : decode cX11_remember 127 = .ok (.iconst 0, 1) := op_3 nN_cX11_remember (by decide +kernel)
theorem dX11_remember_128 : decode cX11_remember 128 = .ok (.iaload, 1) := op_46 nN_cX11_remember (by decide +kernel)
theorem dX11_remember_129 : decode cX11_remember 129 = .ok (.aload_n 0, 1) := op_42 nN_cX11_remember (by decide +kernel)
theorem dX11_remember_130 : decode cX11_remember 130 = .ok (.getfield 89, 3) := op_180 nN_cX11_remember (by decide +kernel)
theorem dX11_remember_133 : decode cX11_remember 133 = .ok (.iconst 0, 1) := op_3 nN_cX11_remember (by decide +kernel)
theorem dX11_remember_134 : decode cX11_remember 134 = .ok (.iaload, 1) := op_46 nN_cX11_remember (by decide +kernel)
theorem dX11_remember_135 : decode cX11_remember 135 = .ok (.invokevirtual 204, 3) := op_182 nN_cX11_remember (by decide +kernel)
theorem dX11_remember_138 : decode cX11_remember 138 = .ok (.ifCond .eq 7, 3) := op_153 nN_cX11_remember (by decide +kernel)
theorem dX11_remember_141 : decode cX11_remember 141 = .ok (.iconst 1, 1) := op_4 nN_cX11_remember (by decide +kernel)
theorem dX11_remember_142 : decode cX11_remember 142 = .ok (.goto 4, 3) := op_167 nN_cX11_remember (by decide +kernel)
theorem dX11_remember_145 : decode cX11_remember 145 = .ok (.iconst 0, 1) := op_3 nN_cX11_remember (by decide +kernel)
theorem dX11_remember_146 : decode cX11_remember 146 = .ok (.bastore, 1) := op_84 nN_cX11_remember (by decide +kernel)
theorem dX11_remember_147 : decode cX11_remember 147 = .ok (.iconst 0, 1) := op_3 nN_cX11_remember (by decide +kernel)
theorem dX11_remember_148 : decode cX11_remember 148 = .ok (.istore_n 3, 1) := op_62 nN_cX11_remember (by decide +kernel)
theorem dX11_remember_149 : decode cX11_remember 149 = .ok (.iload_n 3, 1) := op_29 nN_cX11_remember (by decide +kernel)
theorem dX11_remember_150 : decode cX11_remember 150 = .ok (.aload_n 0, 1) := op_42 nN_cX11_remember (by decide +kernel)
theorem dX11_remember_151 : decode cX11_remember 151 = .ok (.getfield 41, 3) := op_180 nN_cX11_remember (by decide +kernel)
theorem dX11_remember_154 : decode cX11_remember 154 = .ok (.iload_n 2, 1) := op_28 nN_cX11_remember (by decide +kernel)
theorem dX11_remember_155 : decode cX11_remember 155 = .ok (.iaload, 1) := op_46 nN_cX11_remember (by decide +kernel)
theorem dX11_remember_156 : decode cX11_remember 156 = .ok (.if_icmp .ge 55, 3) := op_162 nN_cX11_remember (by decide +kernel)
theorem dX11_remember_159 : decode cX11_remember 159 = .ok (.aload_n 0, 1) := op_42 nN_cX11_remember (by decide +kernel)
theorem dX11_remember_160 : decode cX11_remember 160 = .ok (.iload_n 1, 1) := op_27 nN_cX11_remember (by decide +kernel)
theorem dX11_remember_161 : decode cX11_remember 161 = .ok (.invokevirtual 161, 3) := op_182 nN_cX11_remember (by decide +kernel)
theorem dX11_remember_164 : decode cX11_remember 164 = .ok (.ifCond .eq 47, 3) := op_153 nN_cX11_remember (by decide +kernel)
theorem dX11_remember_167 : decode cX11_remember 167 = .ok (.aload_n 0, 1) := op_42 nN_cX11_remember (by decide +kernel)
theorem dX11_remember_168 : decode cX11_remember 168 = .ok (.getfield 98, 3) := op_180 nN_cX11_remember (by decide +kernel)
theorem dX11_remember_171 : decode cX11_remember 171 = .ok (.bipush 40, 2) := op_16 nN_cX11_remember (by decide +kernel)
theorem dX11_remember_173 : decode cX11_remember 173 = .ok (.iload_n 2, 1) := op_28 nN_cX11_remember (by decide +kernel)
theorem dX11_remember_174 : decode cX11_remember 174 = .ok (.imul, 1) := op_104 nN_cX11_remember (by decide +kernel)
theorem dX11_remember_175 : decode cX11_remember 175 = .ok (.iload_n 3, 1) := op_29 nN_cX11_remember (by decide +kernel)
theorem dX11_remember_176 : decode cX11_remember 176 = .ok (.iadd, 1) := op_96 nN_cX11_remember (by decide +kernel)
theorem dX11_remember_177 : decode cX11_remember 177 = .ok (.aload_n 0, 1) := op_42 nN_cX11_remember (by decide +kernel)
theorem dX11_remember_178 : decode cX11_remember 178 = .ok (.iload_n 1, 1) := op_27 nN_cX11_remember (by decide +kernel)
theorem dX11_remember_179 : decode cX11_remember 179 = .ok (.aload_n 0, 1) := op_42 nN_cX11_remember (by decide +kernel)
theorem dX11_remember_180 : decode cX11_remember 180 = .ok (.getfield 44, 3) := op_180 nN_cX11_remember (by decide +kernel)
theorem dX11_remember_183 : decode cX11_remember 183 = .ok (.bipush 40, 2) := op_16 nN_cX11_remember (by decide +kernel)
theorem dX11_remember_185 : decode cX11_remember 185 = .ok (.iload_n 2, 1) := op_28 nN_cX11_remember (by decide +kernel)
theorem dX11_remember_186 : decode cX11_remember 186 = .ok (.imul, 1) := op_104 nN_cX11_remember (by decide +kernel)
theorem dX11_remember_187 : decode cX11_remember 187 = .ok (.iload_n 3, 1) := op_29 nN_cX11_remember (by decide +kernel)
theorem dX11_remember_188 : decode cX11_remember 188 = .ok (.iadd, 1) := op_96 nN_cX11_remember (by decide +kernel)
theorem dX11_remember_189 : decode cX11_remember 189 = .ok (.iaload, 1) := op_46 nN_cX11_remember (by decide +kernel)
theorem dX11_remember_190 : decode cX11_remember 190 = .ok (.aload_n 0, 1) := op_42 nN_cX11_remember (by decide +kernel)
theorem dX11_remember_191 : decode cX11_remember 191 = .ok (.getfield 47, 3) := op_180 nN_cX11_remember (by decide +kernel)
theorem dX11_remember_194 : decode cX11_remember 194 = .ok (.bipush 40, 2) := op_16 nN_cX11_remember (by decide +kernel)
theorem dX11_remember_196 : decode cX11_remember 196 = .ok (.iload_n 2, 1) := op_28 nN_cX11_remember (by decide +kernel)
theorem dX11_remember_197 : decode cX11_remember 197 = .ok (.imul, 1) := op_104 nN_cX11_remember (by decide +kernel)
theorem dX11_remember_198 : decode cX11_remember 198 = .ok (.iload_n 3, 1) := op_29 nN_cX11_remember (by decide +kernel)
theorem dX11_remember_199 : decode cX11_remember 199 = .ok (.iadd, 1) := op_96 nN_cX11_remember (by decide +kernel)
theorem dX11_remember_200 : decode cX11_remember 200 = .ok (.iaload, 1) := op_46 nN_cX11_remember (by decide +kernel)
theorem dX11_remember_201 : decode cX11_remember 201 = .ok (.invokevirtual 204, 3) := op_182 nN_cX11_remember (by decide +kernel)
theorem dX11_remember_204 : decode cX11_remember 204 = .ok (.bastore, 1) := op_84 nN_cX11_remember (by decide +kernel)
theorem dX11_remember_205 : decode cX11_remember 205 = .ok (.iinc 3 1, 3) := op_132 nN_cX11_remember (by decide +kernel)
theorem dX11_remember_208 : decode cX11_remember 208 = .ok (.goto (-59), 3) := op_167 nN_cX11_remember (by decide +kernel)
theorem dX11_remember_211 : decode cX11_remember 211 = .ok (.iinc 2 1, 3) := op_132 nN_cX11_remember (by decide +kernel)
theorem dX11_remember_214 : decode cX11_remember 214 = .ok (.goto (-142), 3) := op_167 nN_cX11_remember (by decide +kernel)
theorem dX11_remember_217 : decode cX11_remember 217 = .ok (.return_, 1) := op_177 nN_cX11_remember (by decide +kernel)
theorem nN_cX11_forgetNew : onN cX11_forgetNew.data.toList = 0x2c9a900540080685280bc3a5a00ad456610e9a43829088c002b5159405e1d2b8056a2b30874d21c148445a015a8ac580151b0002b5158747c042830c02b51587010015a8aca0c000ad4561c150056a2b := by decide +kernel
theorem dX11_forgetNew_0 : decode cX11_forgetNew 0 = .ok (.aload_n 0, 1) := op_42 nN_cX11_forgetNew (by decide +kernel)
theorem dX11_forgetNew_1 : decode cX11_forgetNew 1 = .ok (.getfield 41, 3) := op_180 nN_cX11_forgetNew (by decide +kernel)
theorem dX11_forgetNew_4 : decode cX11_forgetNew 4 = .ok (.iload_n 1, 1) := op_27 nN_cX11_forgetNew (by decide +kernel)
theorem dX11_forgetNew_5 : decode cX11_forgetNew 5 = .ok (.aload_n 0, 1) := op_42 nN_cX11_forgetNew (by decide +kernel)
theorem dX11_forgetNew_6 : decode cX11_forgetNew 6 = .ok (.getfield 191, 3) := op_180 nN_cX11_forgetNew (by decide +kernel)
theorem dX11_forgetNew_9 : decode cX11_forgetNew 9 = .ok (.iastore, 1) := op_79 nN_cX11_forgetNew (by decide +kernel)
theorem dX11_forgetNew_10 : decode cX11_forgetNew 10 = .ok (.aload_n 0, 1) := op_42 nN_cX11_forgetNew (by decide +kernel)
theorem dX11_forgetNew_11 : decode cX11_forgetNew 11 = .ok (.getfield 7, 3) := op_180 nN_cX11_forgetNew (by decide +kernel)
theorem dX11_forgetNew_14 : decode cX11_forgetNew 14 = .ok (.iload_n 1, 1) := op_27 nN_cX11_forgetNew (by decide +kernel)
theorem dX11_forgetNew_15 : decode cX11_forgetNew 15 = .ok (.aload_n 0, 1) := op_42 nN_cX11_forgetNew (by decide +kernel)
theorem dX11_forgetNew_16 : decode cX11_forgetNew 16 = .ok (.getfield 194, 3) := op_180 nN_cX11_forgetNew (by decide +kernel)
theorem dX11_forgetNew_19 : decode cX11_forgetNew 19 = .ok (.iastore, 1) := op_79 nN_cX11_forgetNew (by decide +kernel)
theorem dX11_forgetNew_20 : decode cX11_forgetNew 20 = .ok (.iconst 0, 1) := op_3 nN_cX11_forgetNew (by decide +kernel)
theorem dX11_forgetNew_21 : decode cX11_forgetNew 21 = .ok (.istore_n 2, 1) := op_61 nN_cX11_forgetNew (by decide +kernel)
theorem dX11_forgetNew_22 : decode cX11_forgetNew 22 = .ok (.iload_n 2, 1) := op_28 nN_cX11_forgetNew (by decide +kernel)
theorem dX11_forgetNew_23 : decode cX11_forgetNew 23 = .ok (.aload_n 0, 1) := op_42 nN_cX11_forgetNew (by decide +kernel)
theorem dX11_forgetNew_24 : decode cX11_forgetNew 24 = .ok (.getfield 191, 3) := op_180 nN_cX11_forgetNew (by decide +kernel)
theorem dX11_forgetNew_27 : decode cX11_forgetNew 27 = .ok (.if_icmp .ge 43, 3) := op_162 nN_cX11_forgetNew (by decide +kernel)
theorem dX11_forgetNew_30 : decode cX11_forgetNew 30 = .ok (.aload_n 0, 1) := op_42 nN_cX11_forgetNew (by decide +kernel)
theorem dX11_forgetNew_31 : decode cX11_forgetNew 31 = .ok (.getfield 44, 3) := op_180 nN_cX11_forgetNew (by decide +kernel)
theorem dX11_forgetNew_34 : decode cX11_forgetNew 34 = .ok (.bipush 40, 2) := op_16 nN_cX11_forgetNew (by decide +kernel)
theorem dX11_forgetNew_36 : decode cX11_forgetNew 36 = .ok (.iload_n 1, 1) := op_27 nN_cX11_forgetNew (by decide +kernel)
theorem dX11_forgetNew_37 : decode cX11_forgetNew 37 = .ok (.imul, 1) := op_104 nN_cX11_forgetNew (by decide +kernel)
theorem dX11_forgetNew_38 : decode cX11_forgetNew 38 = .ok (.iload_n 2, 1) := op_28 nN_cX11_forgetNew (by decide +kernel)
theorem dX11_forgetNew_39 : decode cX11_forgetNew 39 = .ok (.iadd, 1) := op_96 nN_cX11_forgetNew (by decide +kernel)
theorem dX11_forgetNew_40 : decode cX11_forgetNew 40 = .ok (.aload_n 0, 1) := op_42 nN_cX11_forgetNew (by decide +kernel)
theorem dX11_forgetNew_41 : decode cX11_forgetNew 41 = .ok (.getfield 86, 3) := op_180 nN_cX11_forgetNew (by decide +kernel)
theorem dX11_forgetNew_44 : decode cX11_forgetNew 44 = .ok (.iload_n 2, 1) := op_28 nN_cX11_forgetNew (by decide +kernel)
theorem dX11_forgetNew_45 : decode cX11_forgetNew 45 = .ok (.iaload, 1) := op_46 nN_cX11_forgetNew (by decide +kernel)
theorem dX11_forgetNew_46 : decode cX11_forgetNew 46 = .ok (.iastore, 1) := op_79 nN_cX11_forgetNew (by decide +kernel)
theorem dX11_forgetNew_47 : decode cX11_forgetNew 47 = .ok (.aload_n 0, 1) := op_42 nN_cX11_forgetNew (by decide +kernel)
theorem dX11_forgetNew_48 : decode cX11_forgetNew 48 = .ok (.getfield 47, 3) := op_180 nN_cX11_forgetNew (by decide +kernel)
theorem dX11_forgetNew_51 : decode cX11_forgetNew 51 = .ok (.bipush 40, 2) := op_16 nN_cX11_forgetNew (by decide +kernel)
theorem dX11_forgetNew_53 : decode cX11_forgetNew 53 = .ok (.iload_n 1, 1) := op_27 nN_cX11_forgetNew (by decide +kernel)
theorem dX11_forgetNew_54 : decode cX11_forgetNew 54 = .ok (.imul, 1) := op_104 nN_cX11_forgetNew (by decide +kernel)
theorem dX11_forgetNew_55 : decode cX11_forgetNew 55 = .ok (.iload_n 2, 1) := op_28 nN_cX11_forgetNew (by decide +kernel)
theorem dX11_forgetNew_56 : decode cX11_forgetNew 56 = .ok (.iadd, 1) := op_96 nN_cX11_forgetNew (by decide +kernel)
theorem dX11_forgetNew_57 : decode cX11_forgetNew 57 = .ok (.aload_n 0, 1) := op_42 nN_cX11_forgetNew (by decide +kernel)
theorem dX11_forgetNew_58 : decode cX11_forgetNew 58 = .ok (.getfield 89, 3) := op_180 nN_cX11_forgetNew (by decide +kernel)
theorem dX11_forgetNew_61 : decode cX11_forgetNew 61 = .ok (.iload_n 2, 1) := op_28 nN_cX11_forgetNew (by decide +kernel)
theorem dX11_forgetNew_62 : decode cX11_forgetNew 62 = .ok (.iaload, 1) := op_46 nN_cX11_forgetNew (by decide +kernel)
theorem dX11_forgetNew_63 : decode cX11_forgetNew 63 = .ok (.iastore, 1) := op_79 nN_cX11_forgetNew (by decide +kernel)
theorem dX11_forgetNew_64 : decode cX11_forgetNew 64 = .ok (.iinc 2 1, 3) := op_132 nN_cX11_forgetNew (by decide +kernel)
theorem dX11_forgetNew_67 : decode cX11_forgetNew 67 = .ok (.goto (-45), 3) := op_167 nN_cX11_forgetNew (by decide +kernel)
theorem dX11_forgetNew_70 : decode cX11_forgetNew 70 = .ok (.return_, 1) := op_177 nN_cX11_forgetNew (by decide +kernel)
theorem nN_cX11_arePlaces : onN cX11_arePlaces.data.toList = 0x2b40ac1802a0040342ab4080600a95d204090142c0c00a700a160880548e9020483c1800a703c051b8bcc21d348705211180056a2b1f8bcc21d348705211168056a2b1e805462f0e0a802b5158747c04 := by decide +kernel
theorem dX11_arePlaces_0 : decode cX11_arePlaces 0 = .ok (.iconst 0, 1) := op_3 nN_cX11_arePlaces (by decide +kernel)
theorem dX11_arePlaces_1 : decode cX11_arePlaces 1 = .ok (.istore_n 2, 1) := op_61 nN_cX11_arePlaces (by decide +kernel)
theorem dX11_arePlaces_2 : decode cX11_arePlaces 2 = .ok (.iload_n 2, 1) := op_28 nN_cX11_arePlaces (by decide +kernel)
theorem dX11_arePlaces_3 : decode cX11_arePlaces 3 = .ok (.aload_n 0, 1) := op_42 nN_cX11_arePlaces (by decide +kernel)
theorem dX11_arePlaces_4 : decode cX11_arePlaces 4 = .ok (.getfield 41, 3) := op_180 nN_cX11_arePlaces (by decide +kernel)
theorem dX11_arePlaces_7 : decode cX11_arePlaces 7 = .ok (.iload_n 1, 1) := op_27 nN_cX11_arePlaces (by decide +kernel)
theorem dX11_arePlaces_8 : decode cX11_arePlaces 8 = .ok (.iaload, 1) := op_46 nN_cX11_arePlaces (by decide +kernel)
theorem dX11_arePlaces_9 : decode cX11_arePlaces 9 = .ok (.if_icmp .ge 60, 3) := op_162 nN_cX11_arePlaces (by decide +kernel)
theorem dX11_arePlaces_12 : decode cX11_arePlaces 12 = .ok (.aload_n 0, 1) := op_42 nN_cX11_arePlaces (by decide +kernel)
theorem dX11_arePlaces_13 : decode cX11_arePlaces 13 = .ok (.getfield 44, 3) := op_180 nN_cX11_arePlaces (by decide +kernel)
theorem dX11_arePlaces_16 : decode cX11_arePlaces 16 = .ok (.bipush 40, 2) := op_16 nN_cX11_arePlaces (by decide +kernel)
theorem dX11_arePlaces_18 : decode cX11_arePlaces 18 = .ok (.iload_n 1, 1) := op_27 nN_cX11_arePlaces (by decide +kernel)
theorem dX11_arePlaces_19 : decode cX11_arePlaces 19 = .ok (.imul, 1) := op_104 nN_cX11_arePlaces (by decide +kernel)
theorem dX11_arePlaces_20 : decode cX11_arePlaces 20 = .ok (.iload_n 2, 1) := op_28 nN_cX11_arePlaces (by decide +kernel)
theorem dX11_arePlaces_21 : decode cX11_arePlaces 21 = .ok (.iadd, 1) := op_96 nN_cX11_arePlaces (by decide +kernel)
theorem dX11_arePlaces_22 : decode cX11_arePlaces 22 = .ok (.iaload, 1) := op_46 nN_cX11_arePlaces (by decide +kernel)
theorem dX11_arePlaces_23 : decode cX11_arePlaces 23 = .ok (.istore_n 3, 1) := op_62 nN_cX11_arePlaces (by decide +kernel)
theorem dX11_arePlaces_24 : decode cX11_arePlaces 24 = .ok (.aload_n 0, 1) := op_42 nN_cX11_arePlaces (by decide +kernel)
theorem dX11_arePlaces_25 : decode cX11_arePlaces 25 = .ok (.getfield 47, 3) := op_180 nN_cX11_arePlaces (by decide +kernel)
theorem dX11_arePlaces_28 : decode cX11_arePlaces 28 = .ok (.bipush 40, 2) := op_16 nN_cX11_arePlaces (by decide +kernel)
theorem dX11_arePlaces_30 : decode cX11_arePlaces 30 = .ok (.iload_n 1, 1) := op_27 nN_cX11_arePlaces (by decide +kernel)
theorem dX11_arePlaces_31 : decode cX11_arePlaces 31 = .ok (.imul, 1) := op_104 nN_cX11_arePlaces (by decide +kernel)
theorem dX11_arePlaces_32 : decode cX11_arePlaces 32 = .ok (.iload_n 2, 1) := op_28 nN_cX11_arePlaces (by decide +kernel)
theorem dX11_arePlaces_33 : decode cX11_arePlaces 33 = .ok (.iadd, 1) := op_96 nN_cX11_arePlaces (by decide +kernel)
theorem dX11_arePlaces_34 : decode cX11_arePlaces 34 = .ok (.iaload, 1) := op_46 nN_cX11_arePlaces (by decide +kernel)
theorem dX11_arePlaces_35 : decode cX11_arePlaces 35 = .ok (.istore 4, 2) := op_54 nN_cX11_arePlaces (by decide +kernel)
theorem dX11_arePlaces_37 : decode cX11_arePlaces 37 = .ok (.iload_n 3, 1) := op_29 nN_cX11_arePlaces (by decide +kernel)
theorem dX11_arePlaces_38 : decode cX11_arePlaces 38 = .ok (.ifCond .lt 23, 3) := op_155 nN_cX11_arePlaces (by decide +kernel)
theorem dX11_arePlaces_41 : decode cX11_arePlaces 41 = .ok (.iload_n 3, 1) := op_29 nN_cX11_arePlaces (by decide +kernel)
theorem dX11_arePlaces_42 : decode cX11_arePlaces 42 = .ok (.sipush 1000, 3) := op_17 nN_cX11_arePlaces (by decide +kernel)
theorem dX11_arePlaces_45 : decode cX11_arePlaces 45 = .ok (.if_icmp .gt 16, 3) := op_163 nN_cX11_arePlaces (by decide +kernel)
theorem dX11_arePlaces_48 : decode cX11_arePlaces 48 = .ok (.iload 4, 2) := op_21 nN_cX11_arePlaces (by decide +kernel)
theorem dX11_arePlaces_50 : decode cX11_arePlaces 50 = .ok (.ifCond .lt 11, 3) := op_155 nN_cX11_arePlaces (by decide +kernel)
theorem dX11_arePlaces_53 : decode cX11_arePlaces 53 = .ok (.iload 4, 2) := op_21 nN_cX11_arePlaces (by decide +kernel)
theorem dX11_arePlaces_55 : decode cX11_arePlaces 55 = .ok (.sipush 1000, 3) := op_17 nN_cX11_arePlaces (by decide +kernel)
theorem dX11_arePlaces_58 : decode cX11_arePlaces 58 = .ok (.if_icmp .le 5, 3) := op_164 nN_cX11_arePlaces (by decide +kernel)
theorem dX11_arePlaces_61 : decode cX11_arePlaces 61 = .ok (.iconst 0, 1) := op_3 nN_cX11_arePlaces (by decide +kernel)
theorem dX11_arePlaces_62 : decode cX11_arePlaces 62 = .ok (.ireturn, 1) := op_172 nN_cX11_arePlaces (by decide +kernel)
theorem dX11_arePlaces_63 : decode cX11_arePlaces 63 = .ok (.iinc 2 1, 3) := op_132 nN_cX11_arePlaces (by decide +kernel)
theorem dX11_arePlaces_66 : decode cX11_arePlaces 66 = .ok (.goto (-64), 3) := op_167 nN_cX11_arePlaces (by decide +kernel)
theorem dX11_arePlaces_69 : decode cX11_arePlaces 69 = .ok (.iconst 1, 1) := op_4 nN_cX11_arePlaces (by decide +kernel)
theorem dX11_arePlaces_70 : decode cX11_arePlaces 70 = .ok (.ireturn, 1) := op_172 nN_cX11_arePlaces (by decide +kernel)
theorem nN_cX11_isLawful : onN cX11_isLawful.data.toList = 0x2b40ad8802a0040542ab4080600a6dac015b8783a050b070561200a698c015b8142c2b0d805401c028584e0151a0c02b5158142c051b8115a040300536d300adc382b0600534d000adc382b := by decide +kernel
theorem dX11_isLawful_0 : decode cX11_isLawful 0 = .ok (.aload_n 0, 1) := op_42 nN_cX11_isLawful (by decide +kernel)
theorem dX11_isLawful_1 : decode cX11_isLawful 1 = .ok (.iload_n 1, 1) := op_27 nN_cX11_isLawful (by decide +kernel)
theorem dX11_isLawful_2 : decode cX11_isLawful 2 = .ok (.invokevirtual 207, 3) := op_182 nN_cX11_isLawful (by decide +kernel)
theorem dX11_isLawful_5 : decode cX11_isLawful 5 = .ok (.ifCond .eq 11, 3) := op_153 nN_cX11_isLawful (by decide +kernel)
theorem dX11_isLawful_8 : decode cX11_isLawful 8 = .ok (.aload_n 0, 1) := op_42 nN_cX11_isLawful (by decide +kernel)
theorem dX11_isLawful_9 : decode cX11_isLawful 9 = .ok (.iload_n 1, 1) := op_27 nN_cX11_isLawful (by decide +kernel)
theorem dX11_isLawful_10 : decode cX11_isLawful 10 = .ok (.invokevirtual 210, 3) := op_182 nN_cX11_isLawful (by decide +kernel)
theorem dX11_isLawful_13 : decode cX11_isLawful 13 = .ok (.ifCond .ne 5, 3) := op_154 nN_cX11_isLawful (by decide +kernel)
theorem dX11_isLawful_16 : decode cX11_isLawful 16 = .ok (.iconst 0, 1) := op_3 nN_cX11_isLawful (by decide +kernel)
theorem dX11_isLawful_17 : decode cX11_isLawful 17 = .ok (.ireturn, 1) := op_172 nN_cX11_isLawful (by decide +kernel)
theorem dX11_isLawful_18 : decode cX11_isLawful 18 = .ok (.iconst 0, 1) := op_3 nN_cX11_isLawful (by decide +kernel)
theorem dX11_isLawful_19 : decode cX11_isLawful 19 = .ok (.istore 4, 2) := op_54 nN_cX11_isLawful (by decide +kernel)
theorem dX11_isLawful_21 : decode cX11_isLawful 21 = .ok (.iload 4, 2) := op_21 nN_cX11_isLawful (by decide +kernel)
theorem dX11_isLawful_23 : decode cX11_isLawful 23 = .ok (.aload_n 0, 1) := op_42 nN_cX11_isLawful (by decide +kernel)
theorem dX11_isLawful_24 : decode cX11_isLawful 24 = .ok (.getfield 130, 3) := op_180 nN_cX11_isLawful (by decide +kernel)
theorem dX11_isLawful_27 : decode cX11_isLawful 27 = .ok (.if_icmp .ge 38, 3) := op_162 nN_cX11_isLawful (by decide +kernel)
theorem dX11_isLawful_30 : decode cX11_isLawful 30 = .ok (.iload 4, 2) := op_21 nN_cX11_isLawful (by decide +kernel)
theorem dX11_isLawful_32 : decode cX11_isLawful 32 = .ok (.iload_n 1, 1) := op_27 nN_cX11_isLawful (by decide +kernel)
theorem dX11_isLawful_33 : decode cX11_isLawful 33 = .ok (.if_icmp .eq 26, 3) := op_159 nN_cX11_isLawful (by decide +kernel)
theorem dX11_isLawful_36 : decode cX11_isLawful 36 = .ok (.aload_n 0, 1) := op_42 nN_cX11_isLawful (by decide +kernel)
theorem dX11_isLawful_37 : decode cX11_isLawful 37 = .ok (.iload 4, 2) := op_21 nN_cX11_isLawful (by decide +kernel)
theorem dX11_isLawful_39 : decode cX11_isLawful 39 = .ok (.invokevirtual 197, 3) := op_182 nN_cX11_isLawful (by decide +kernel)
theorem dX11_isLawful_42 : decode cX11_isLawful 42 = .ok (.ifCond .eq 17, 3) := op_153 nN_cX11_isLawful (by decide +kernel)
theorem dX11_isLawful_45 : decode cX11_isLawful 45 = .ok (.aload_n 0, 1) := op_42 nN_cX11_isLawful (by decide +kernel)
theorem dX11_isLawful_46 : decode cX11_isLawful 46 = .ok (.iload_n 1, 1) := op_27 nN_cX11_isLawful (by decide +kernel)
theorem dX11_isLawful_47 : decode cX11_isLawful 47 = .ok (.iload 4, 2) := op_21 nN_cX11_isLawful (by decide +kernel)
theorem dX11_isLawful_49 : decode cX11_isLawful 49 = .ok (.iload_n 2, 1) := op_28 nN_cX11_isLawful (by decide +kernel)
theorem dX11_isLawful_50 : decode cX11_isLawful 50 = .ok (.iload_n 3, 1) := op_29 nN_cX11_isLawful (by decide +kernel)
theorem dX11_isLawful_51 : decode cX11_isLawful 51 = .ok (.invokevirtual 213, 3) := op_182 nN_cX11_isLawful (by decide +kernel)
theorem dX11_isLawful_54 : decode cX11_isLawful 54 = .ok (.ifCond .ne 5, 3) := op_154 nN_cX11_isLawful (by decide +kernel)
theorem dX11_isLawful_57 : decode cX11_isLawful 57 = .ok (.iconst 0, 1) := op_3 nN_cX11_isLawful (by decide +kernel)
theorem dX11_isLawful_58 : decode cX11_isLawful 58 = .ok (.ireturn, 1) := op_172 nN_cX11_isLawful (by decide +kernel)
theorem dX11_isLawful_59 : decode cX11_isLawful 59 = .ok (.iinc 4 1, 3) := op_132 nN_cX11_isLawful (by decide +kernel)
theorem dX11_isLawful_62 : decode cX11_isLawful 62 = .ok (.goto (-41), 3) := op_167 nN_cX11_isLawful (by decide +kernel)
theorem dX11_isLawful_65 : decode cX11_isLawful 65 = .ok (.iconst 1, 1) := op_4 nN_cX11_isLawful (by decide +kernel)
theorem dX11_isLawful_66 : decode cX11_isLawful 66 = .ok (.ireturn, 1) := op_172 nN_cX11_isLawful (by decide +kernel)
theorem nN_cX11_isLawfulTo : onN cX11_isLawfulTo.data.toList = 0x2b4080500aa00a0800a69c0015b874382b06805362f0e02002b515a0e00a8010190aad02018029a6e8056e080b01c2c1c1584002a80a80534da00adc1016038580a161585002a0018142c2800a80121e16805342f0e02002b515ab4080600a80686103058d21d14844c6015a8ad9a015b8202c070b070561e00a6944015b87056081b8bcc2060b1a43a29088c002b51581c6e2f308182c690e8a4222d00ad4567a00a8c5e1d150056a2b030580c37022b4080600a80681d300056a2b668056e2f348705211180056a2b179a43829088b402b515874562600a6944015b87456ad0201802a01a074ba015a8ad92015b874382b := by decide +kernel
theorem dX11_isLawfulTo_0 : decode cX11_isLawfulTo 0 = .ok (.aload_n 0, 1) := op_42 nN_cX11_isLawfulTo (by decide +kernel)
theorem dX11_isLawfulTo_1 : decode cX11_isLawfulTo 1 = .ok (.iload_n 1, 1) := op_27 nN_cX11_isLawfulTo (by decide +kernel)
theorem dX11_isLawfulTo_2 : decode cX11_isLawfulTo 2 = .ok (.iload_n 2, 1) := op_28 nN_cX11_isLawfulTo (by decide +kernel)
theorem dX11_isLawfulTo_3 : decode cX11_isLawfulTo 3 = .ok (.invokevirtual 200, 3) := op_182 nN_cX11_isLawfulTo (by decide +kernel)
theorem dX11_isLawfulTo_6 : decode cX11_isLawfulTo 6 = .ok (.aload_n 0, 1) := op_42 nN_cX11_isLawfulTo (by decide +kernel)
theorem dX11_isLawfulTo_7 : decode cX11_isLawfulTo 7 = .ok (.getfield 92, 3) := op_180 nN_cX11_isLawfulTo (by decide +kernel)
theorem dX11_isLawfulTo_10 : decode cX11_isLawfulTo 10 = .ok (.iload_n 2, 1) := op_28 nN_cX11_isLawfulTo (by decide +kernel)
theorem dX11_isLawfulTo_11 : decode cX11_isLawfulTo 11 = .ok (.baload, 1) := op_51 nN_cX11_isLawfulTo (by decide +kernel)
theorem dX11_isLawfulTo_12 : decode cX11_isLawfulTo 12 = .ok (.if_icmp .eq 5, 3) := op_159 nN_cX11_isLawfulTo (by decide +kernel)
theorem dX11_isLawfulTo_15 : decode cX11_isLawfulTo 15 = .ok (.iconst 0, 1) := op_3 nN_cX11_isLawfulTo (by decide +kernel)
theorem dX11_isLawfulTo_16 : decode cX11_isLawfulTo 16 = .ok (.ireturn, 1) := op_172 nN_cX11_isLawfulTo (by decide +kernel)
theorem dX11_isLawfulTo_17 : decode cX11_isLawfulTo 17 = .ok (.aload_n 0, 1) := op_42 nN_cX11_isLawfulTo (by decide +kernel)
theorem dX11_isLawfulTo_18 : decode cX11_isLawfulTo 18 = .ok (.iload_n 2, 1) := op_28 nN_cX11_isLawfulTo (by decide +kernel)
theorem dX11_isLawfulTo_19 : decode cX11_isLawfulTo 19 = .ok (.invokevirtual 161, 3) := op_182 nN_cX11_isLawfulTo (by decide +kernel)
theorem dX11_isLawfulTo_22 : decode cX11_isLawfulTo 22 = .ok (.ifCond .eq 37, 3) := op_153 nN_cX11_isLawfulTo (by decide +kernel)
theorem dX11_isLawfulTo_25 : decode cX11_isLawfulTo 25 = .ok (.aload_n 0, 1) := op_42 nN_cX11_isLawfulTo (by decide +kernel)
theorem dX11_isLawfulTo_26 : decode cX11_isLawfulTo 26 = .ok (.iload_n 2, 1) := op_28 nN_cX11_isLawfulTo (by decide +kernel)
theorem dX11_isLawfulTo_27 : decode cX11_isLawfulTo 27 = .ok (.aload_n 0, 1) := op_42 nN_cX11_isLawfulTo (by decide +kernel)
theorem dX11_isLawfulTo_28 : decode cX11_isLawfulTo 28 = .ok (.getfield 44, 3) := op_180 nN_cX11_isLawfulTo (by decide +kernel)
theorem dX11_isLawfulTo_31 : decode cX11_isLawfulTo 31 = .ok (.bipush 40, 2) := op_16 nN_cX11_isLawfulTo (by decide +kernel)
theorem dX11_isLawfulTo_33 : decode cX11_isLawfulTo 33 = .ok (.iload_n 1, 1) := op_27 nN_cX11_isLawfulTo (by decide +kernel)
theorem dX11_isLawfulTo_34 : decode cX11_isLawfulTo 34 = .ok (.imul, 1) := op_104 nN_cX11_isLawfulTo (by decide +kernel)
theorem dX11_isLawfulTo_35 : decode cX11_isLawfulTo 35 = .ok (.iaload, 1) := op_46 nN_cX11_isLawfulTo (by decide +kernel)
theorem dX11_isLawfulTo_36 : decode cX11_isLawfulTo 36 = .ok (.aload_n 0, 1) := op_42 nN_cX11_isLawfulTo (by decide +kernel)
theorem dX11_isLawfulTo_37 : decode cX11_isLawfulTo 37 = .ok (.getfield 47, 3) := op_180 nN_cX11_isLawfulTo (by decide +kernel)
theorem dX11_isLawfulTo_40 : decode cX11_isLawfulTo 40 = .ok (.bipush 40, 2) := op_16 nN_cX11_isLawfulTo (by decide +kernel)
theorem dX11_isLawfulTo_42 : decode cX11_isLawfulTo 42 = .ok (.iload_n 1, 1) := op_27 nN_cX11_isLawfulTo (by decide +kernel)
theorem dX11_isLawfulTo_43 : decode cX11_isLawfulTo 43 = .ok (.imul, 1) := op_104 nN_cX11_isLawfulTo (by decide +kernel)
theorem dX11_isLawfulTo_44 : decode cX11_isLawfulTo 44 = .ok (.iaload, 1) := op_46 nN_cX11_isLawfulTo (by decide +kernel)
theorem dX11_isLawfulTo_45 : decode cX11_isLawfulTo 45 = .ok (.invokevirtual 204, 3) := op_182 nN_cX11_isLawfulTo (by decide +kernel)
theorem dX11_isLawfulTo_48 : decode cX11_isLawfulTo 48 = .ok (.aload_n 0, 1) := op_42 nN_cX11_isLawfulTo (by decide +kernel)
theorem dX11_isLawfulTo_49 : decode cX11_isLawfulTo 49 = .ok (.getfield 95, 3) := op_180 nN_cX11_isLawfulTo (by decide +kernel)
theorem dX11_isLawfulTo_52 : decode cX11_isLawfulTo 52 = .ok (.iload_n 2, 1) := op_28 nN_cX11_isLawfulTo (by decide +kernel)
theorem dX11_isLawfulTo_53 : decode cX11_isLawfulTo 53 = .ok (.baload, 1) := op_51 nN_cX11_isLawfulTo (by decide +kernel)
theorem dX11_isLawfulTo_54 : decode cX11_isLawfulTo 54 = .ok (.if_icmp .eq 5, 3) := op_159 nN_cX11_isLawfulTo (by decide +kernel)
theorem dX11_isLawfulTo_57 : decode cX11_isLawfulTo 57 = .ok (.iconst 0, 1) := op_3 nN_cX11_isLawfulTo (by decide +kernel)
theorem dX11_isLawfulTo_58 : decode cX11_isLawfulTo 58 = .ok (.ireturn, 1) := op_172 nN_cX11_isLawfulTo (by decide +kernel)
theorem dX11_isLawfulTo_59 : decode cX11_isLawfulTo 59 = .ok (.iconst 0, 1) := op_3 nN_cX11_isLawfulTo (by decide +kernel)
theorem dX11_isLawfulTo_60 : decode cX11_isLawfulTo 60 = .ok (.istore 5, 2) := op_54 nN_cX11_isLawfulTo (by decide +kernel)
theorem dX11_isLawfulTo_62 : decode cX11_isLawfulTo 62 = .ok (.iload 5, 2) := op_21 nN_cX11_isLawfulTo (by decide +kernel)
theorem dX11_isLawfulTo_64 : decode cX11_isLawfulTo 64 = .ok (.aload_n 0, 1) := op_42 nN_cX11_isLawfulTo (by decide +kernel)
theorem dX11_isLawfulTo_65 : decode cX11_isLawfulTo 65 = .ok (.getfield 41, 3) := op_180 nN_cX11_isLawfulTo (by decide +kernel)
theorem dX11_isLawfulTo_68 : decode cX11_isLawfulTo 68 = .ok (.iload_n 2, 1) := op_28 nN_cX11_isLawfulTo (by decide +kernel)
theorem dX11_isLawfulTo_69 : decode cX11_isLawfulTo 69 = .ok (.iaload, 1) := op_46 nN_cX11_isLawfulTo (by decide +kernel)
theorem dX11_isLawfulTo_70 : decode cX11_isLawfulTo 70 = .ok (.if_icmp .ge 121, 3) := op_162 nN_cX11_isLawfulTo (by decide +kernel)
theorem dX11_isLawfulTo_73 : decode cX11_isLawfulTo 73 = .ok (.aload_n 0, 1) := op_42 nN_cX11_isLawfulTo (by decide +kernel)
theorem dX11_isLawfulTo_74 : decode cX11_isLawfulTo 74 = .ok (.getfield 44, 3) := op_180 nN_cX11_isLawfulTo (by decide +kernel)
theorem dX11_isLawfulTo_77 : decode cX11_isLawfulTo 77 = .ok (.bipush 40, 2) := op_16 nN_cX11_isLawfulTo (by decide +kernel)
theorem dX11_isLawfulTo_79 : decode cX11_isLawfulTo 79 = .ok (.iload_n 2, 1) := op_28 nN_cX11_isLawfulTo (by decide +kernel)
theorem dX11_isLawfulTo_80 : decode cX11_isLawfulTo 80 = .ok (.imul, 1) := op_104 nN_cX11_isLawfulTo (by decide +kernel)
theorem dX11_isLawfulTo_81 : decode cX11_isLawfulTo 81 = .ok (.iload 5, 2) := op_21 nN_cX11_isLawfulTo (by decide +kernel)
theorem dX11_isLawfulTo_83 : decode cX11_isLawfulTo 83 = .ok (.iadd, 1) := op_96 nN_cX11_isLawfulTo (by decide +kernel)
theorem dX11_isLawfulTo_84 : decode cX11_isLawfulTo 84 = .ok (.iaload, 1) := op_46 nN_cX11_isLawfulTo (by decide +kernel)
theorem dX11_isLawfulTo_85 : decode cX11_isLawfulTo 85 = .ok (.istore 6, 2) := op_54 nN_cX11_isLawfulTo (by decide +kernel)
theorem dX11_isLawfulTo_87 : decode cX11_isLawfulTo 87 = .ok (.aload_n 0, 1) := op_42 nN_cX11_isLawfulTo (by decide +kernel)
theorem dX11_isLawfulTo_88 : decode cX11_isLawfulTo 88 = .ok (.getfield 47, 3) := op_180 nN_cX11_isLawfulTo (by decide +kernel)
theorem dX11_isLawfulTo_91 : decode cX11_isLawfulTo 91 = .ok (.bipush 40, 2) := op_16 nN_cX11_isLawfulTo (by decide +kernel)
theorem dX11_isLawfulTo_93 : decode cX11_isLawfulTo 93 = .ok (.iload_n 2, 1) := op_28 nN_cX11_isLawfulTo (by decide +kernel)
theorem dX11_isLawfulTo_94 : decode cX11_isLawfulTo 94 = .ok (.imul, 1) := op_104 nN_cX11_isLawfulTo (by decide +kernel)
theorem dX11_isLawfulTo_95 : decode cX11_isLawfulTo 95 = .ok (.iload 5, 2) := op_21 nN_cX11_isLawfulTo (by decide +kernel)
theorem dX11_isLawfulTo_97 : decode cX11_isLawfulTo 97 = .ok (.iadd, 1) := op_96 nN_cX11_isLawfulTo (by decide +kernel)
theorem dX11_isLawfulTo_98 : decode cX11_isLawfulTo 98 = .ok (.iaload, 1) := op_46 nN_cX11_isLawfulTo (by decide +kernel)
theorem dX11_isLawfulTo_99 : decode cX11_isLawfulTo 99 = .ok (.istore 7, 2) := op_54 nN_cX11_isLawfulTo (by decide +kernel)
theorem dX11_isLawfulTo_101 : decode cX11_isLawfulTo 101 = .ok (.aload_n 0, 1) := op_42 nN_cX11_isLawfulTo (by decide +kernel)
theorem dX11_isLawfulTo_102 : decode cX11_isLawfulTo 102 = .ok (.iload_n 1, 1) := op_27 nN_cX11_isLawfulTo (by decide +kernel)
theorem dX11_isLawfulTo_103 : decode cX11_isLawfulTo 103 = .ok (.invokevirtual 161, 3) := op_182 nN_cX11_isLawfulTo (by decide +kernel)
theorem dX11_isLawfulTo_106 : decode cX11_isLawfulTo 106 = .ok (.ifCond .eq 29, 3) := op_153 nN_cX11_isLawfulTo (by decide +kernel)
theorem dX11_isLawfulTo_109 : decode cX11_isLawfulTo 109 = .ok (.aload_n 0, 1) := op_42 nN_cX11_isLawfulTo (by decide +kernel)
theorem dX11_isLawfulTo_110 : decode cX11_isLawfulTo 110 = .ok (.iload_n 1, 1) := op_27 nN_cX11_isLawfulTo (by decide +kernel)
theorem dX11_isLawfulTo_111 : decode cX11_isLawfulTo 111 = .ok (.iload 6, 2) := op_21 nN_cX11_isLawfulTo (by decide +kernel)
theorem dX11_isLawfulTo_113 : decode cX11_isLawfulTo 113 = .ok (.iload 7, 2) := op_21 nN_cX11_isLawfulTo (by decide +kernel)
theorem dX11_isLawfulTo_115 : decode cX11_isLawfulTo 115 = .ok (.invokevirtual 204, 3) := op_182 nN_cX11_isLawfulTo (by decide +kernel)
theorem dX11_isLawfulTo_118 : decode cX11_isLawfulTo 118 = .ok (.aload_n 0, 1) := op_42 nN_cX11_isLawfulTo (by decide +kernel)
theorem dX11_isLawfulTo_119 : decode cX11_isLawfulTo 119 = .ok (.getfield 98, 3) := op_180 nN_cX11_isLawfulTo (by decide +kernel)
theorem dX11_isLawfulTo_122 : decode cX11_isLawfulTo 122 = .ok (.bipush 40, 2) := op_16 nN_cX11_isLawfulTo (by decide +kernel)
theorem dX11_isLawfulTo_124 : decode cX11_isLawfulTo 124 = .ok (.iload_n 2, 1) := op_28 nN_cX11_isLawfulTo (by decide +kernel)
theorem dX11_isLawfulTo_125 : decode cX11_isLawfulTo 125 = .ok (.imul, 1) := op_104 nN_cX11_isLawfulTo (by decide +kernel)
theorem dX11_isLawfulTo_126 : decode cX11_isLawfulTo 126 = .ok (.iload 5, 2) := op_21 nN_cX11_isLawfulTo (by decide +kernel)
theorem dX11_isLawfulTo_128 : decode cX11_isLawfulTo 128 = .ok (.iadd, 1) := op_96 nN_cX11_isLawfulTo (by decide +kernel)
theorem dX11_isLawfulTo_129 : decode cX11_isLawfulTo 129 = .ok (.baload, 1) := op_51 nN_cX11_isLawfulTo (by decide +kernel)
theorem dX11_isLawfulTo_130 : decode cX11_isLawfulTo 130 = .ok (.if_icmp .eq 5, 3) := op_159 nN_cX11_isLawfulTo (by decide +kernel)
theorem dX11_isLawfulTo_133 : decode cX11_isLawfulTo 133 = .ok (.iconst 0, 1) := op_3 nN_cX11_isLawfulTo (by decide +kernel)
theorem dX11_isLawfulTo_134 : decode cX11_isLawfulTo 134 = .ok (.ireturn, 1) := op_172 nN_cX11_isLawfulTo (by decide +kernel)
theorem dX11_isLawfulTo_135 : decode cX11_isLawfulTo 135 = .ok (.aload_n 0, 1) := op_42 nN_cX11_isLawfulTo (by decide +kernel)
theorem dX11_isLawfulTo_136 : decode cX11_isLawfulTo 136 = .ok (.getfield 7, 3) := op_180 nN_cX11_isLawfulTo (by decide +kernel)
theorem dX11_isLawfulTo_139 : decode cX11_isLawfulTo 139 = .ok (.iload_n 1, 1) := op_27 nN_cX11_isLawfulTo (by decide +kernel)
theorem dX11_isLawfulTo_140 : decode cX11_isLawfulTo 140 = .ok (.iaload, 1) := op_46 nN_cX11_isLawfulTo (by decide +kernel)
theorem dX11_isLawfulTo_141 : decode cX11_isLawfulTo 141 = .ok (.ifCond .eq 44, 3) := op_153 nN_cX11_isLawfulTo (by decide +kernel)
theorem dX11_isLawfulTo_144 : decode cX11_isLawfulTo 144 = .ok (.iload_n 3, 1) := op_29 nN_cX11_isLawfulTo (by decide +kernel)
theorem dX11_isLawfulTo_145 : decode cX11_isLawfulTo 145 = .ok (.iconst 5, 1) := op_8 nN_cX11_isLawfulTo (by decide +kernel)
theorem dX11_isLawfulTo_146 : decode cX11_isLawfulTo 146 = .ok (.if_icmp .eq 39, 3) := op_159 nN_cX11_isLawfulTo (by decide +kernel)
theorem dX11_isLawfulTo_149 : decode cX11_isLawfulTo 149 = .ok (.iload 4, 2) := op_21 nN_cX11_isLawfulTo (by decide +kernel)
theorem dX11_isLawfulTo_151 : decode cX11_isLawfulTo 151 = .ok (.iconst (-1), 1) := op_2 nN_cX11_isLawfulTo (by decide +kernel)
theorem dX11_isLawfulTo_152 : decode cX11_isLawfulTo 152 = .ok (.if_icmp .eq 19, 3) := op_159 nN_cX11_isLawfulTo (by decide +kernel)
theorem dX11_isLawfulTo_155 : decode cX11_isLawfulTo 155 = .ok (.aload_n 0, 1) := op_42 nN_cX11_isLawfulTo (by decide +kernel)
theorem dX11_isLawfulTo_156 : decode cX11_isLawfulTo 156 = .ok (.iload 4, 2) := op_21 nN_cX11_isLawfulTo (by decide +kernel)
theorem dX11_isLawfulTo_158 : decode cX11_isLawfulTo 158 = .ok (.iload 6, 2) := op_21 nN_cX11_isLawfulTo (by decide +kernel)
theorem dX11_isLawfulTo_160 : decode cX11_isLawfulTo 160 = .ok (.iload 7, 2) := op_21 nN_cX11_isLawfulTo (by decide +kernel)
theorem dX11_isLawfulTo_162 : decode cX11_isLawfulTo 162 = .ok (.invokevirtual 217, 3) := op_182 nN_cX11_isLawfulTo (by decide +kernel)
theorem dX11_isLawfulTo_165 : decode cX11_isLawfulTo 165 = .ok (.ifCond .eq 20, 3) := op_153 nN_cX11_isLawfulTo (by decide +kernel)
theorem dX11_isLawfulTo_168 : decode cX11_isLawfulTo 168 = .ok (.goto 15, 3) := op_167 nN_cX11_isLawfulTo (by decide +kernel)
theorem dX11_isLawfulTo_171 : decode cX11_isLawfulTo 171 = .ok (.aload_n 0, 1) := op_42 nN_cX11_isLawfulTo (by decide +kernel)
theorem dX11_isLawfulTo_172 : decode cX11_isLawfulTo 172 = .ok (.iload_n 1, 1) := op_27 nN_cX11_isLawfulTo (by decide +kernel)
theorem dX11_isLawfulTo_173 : decode cX11_isLawfulTo 173 = .ok (.iload 6, 2) := op_21 nN_cX11_isLawfulTo (by decide +kernel)
theorem dX11_isLawfulTo_175 : decode cX11_isLawfulTo 175 = .ok (.iload 7, 2) := op_21 nN_cX11_isLawfulTo (by decide +kernel)
theorem dX11_isLawfulTo_177 : decode cX11_isLawfulTo 177 = .ok (.invokevirtual 220, 3) := op_182 nN_cX11_isLawfulTo (by decide +kernel)
theorem dX11_isLawfulTo_180 : decode cX11_isLawfulTo 180 = .ok (.ifCond .eq 5, 3) := op_153 nN_cX11_isLawfulTo (by decide +kernel)
theorem dX11_isLawfulTo_183 : decode cX11_isLawfulTo 183 = .ok (.iconst 0, 1) := op_3 nN_cX11_isLawfulTo (by decide +kernel)
theorem dX11_isLawfulTo_184 : decode cX11_isLawfulTo 184 = .ok (.ireturn, 1) := op_172 nN_cX11_isLawfulTo (by decide +kernel)
theorem dX11_isLawfulTo_185 : decode cX11_isLawfulTo 185 = .ok (.iinc 5 1, 3) := op_132 nN_cX11_isLawfulTo (by decide +kernel)
theorem dX11_isLawfulTo_188 : decode cX11_isLawfulTo 188 = .ok (.goto (-126), 3) := op_167 nN_cX11_isLawfulTo (by decide +kernel)
theorem dX11_isLawfulTo_191 : decode cX11_isLawfulTo 191 = .ok (.aload_n 0, 1) := op_42 nN_cX11_isLawfulTo (by decide +kernel)
theorem dX11_isLawfulTo_192 : decode cX11_isLawfulTo 192 = .ok (.getfield 7, 3) := op_180 nN_cX11_isLawfulTo (by decide +kernel)
theorem dX11_isLawfulTo_195 : decode cX11_isLawfulTo 195 = .ok (.iload_n 1, 1) := op_27 nN_cX11_isLawfulTo (by decide +kernel)
theorem dX11_isLawfulTo_196 : decode cX11_isLawfulTo 196 = .ok (.iaload, 1) := op_46 nN_cX11_isLawfulTo (by decide +kernel)
theorem dX11_isLawfulTo_197 : decode cX11_isLawfulTo 197 = .ok (.ifCond .ne 12, 3) := op_154 nN_cX11_isLawfulTo (by decide +kernel)
theorem dX11_isLawfulTo_200 : decode cX11_isLawfulTo 200 = .ok (.aload_n 0, 1) := op_42 nN_cX11_isLawfulTo (by decide +kernel)
theorem dX11_isLawfulTo_201 : decode cX11_isLawfulTo 201 = .ok (.iload_n 1, 1) := op_27 nN_cX11_isLawfulTo (by decide +kernel)
theorem dX11_isLawfulTo_202 : decode cX11_isLawfulTo 202 = .ok (.iload_n 2, 1) := op_28 nN_cX11_isLawfulTo (by decide +kernel)
theorem dX11_isLawfulTo_203 : decode cX11_isLawfulTo 203 = .ok (.invokevirtual 223, 3) := op_182 nN_cX11_isLawfulTo (by decide +kernel)
theorem dX11_isLawfulTo_206 : decode cX11_isLawfulTo 206 = .ok (.ifCond .eq 7, 3) := op_153 nN_cX11_isLawfulTo (by decide +kernel)
theorem dX11_isLawfulTo_209 : decode cX11_isLawfulTo 209 = .ok (.iconst 1, 1) := op_4 nN_cX11_isLawfulTo (by decide +kernel)
theorem dX11_isLawfulTo_210 : decode cX11_isLawfulTo 210 = .ok (.goto 4, 3) := op_167 nN_cX11_isLawfulTo (by decide +kernel)
theorem dX11_isLawfulTo_213 : decode cX11_isLawfulTo 213 = .ok (.iconst 0, 1) := op_3 nN_cX11_isLawfulTo (by decide +kernel)
theorem dX11_isLawfulTo_214 : decode cX11_isLawfulTo 214 = .ok (.ireturn, 1) := op_172 nN_cX11_isLawfulTo (by decide +kernel)
theorem nN_cX11_isThree : onN cX11_isThree.data.toList = 0x2b5c6015c8202c070b19802b5159405e060b14402b515824cc015a8aca02f030589c015a8ac106600ad45650028580e6600ad456500f018cc015a8aca01d0299802b5159403804330056a2b := by decide +kernel
theorem dX11_isThree_0 : decode cX11_isThree 0 = .ok (.aload_n 0, 1) := op_42 nN_cX11_isThree (by decide +kernel)
theorem dX11_isThree_1 : decode cX11_isThree 1 = .ok (.getfield 101, 3) := op_180 nN_cX11_isThree (by decide +kernel)
theorem dX11_isThree_4 : decode cX11_isThree 4 = .ok (.iconst 0, 1) := op_3 nN_cX11_isThree (by decide +kernel)
theorem dX11_isThree_5 : decode cX11_isThree 5 = .ok (.iload_n 1, 1) := op_27 nN_cX11_isThree (by decide +kernel)
theorem dX11_isThree_6 : decode cX11_isThree 6 = .ok (.iastore, 1) := op_79 nN_cX11_isThree (by decide +kernel)
theorem dX11_isThree_7 : decode cX11_isThree 7 = .ok (.aload_n 0, 1) := op_42 nN_cX11_isThree (by decide +kernel)
theorem dX11_isThree_8 : decode cX11_isThree 8 = .ok (.getfield 101, 3) := op_180 nN_cX11_isThree (by decide +kernel)
theorem dX11_isThree_11 : decode cX11_isThree 11 = .ok (.iconst 1, 1) := op_4 nN_cX11_isThree (by decide +kernel)
theorem dX11_isThree_12 : decode cX11_isThree 12 = .ok (.iload_n 2, 1) := op_28 nN_cX11_isThree (by decide +kernel)
theorem dX11_isThree_13 : decode cX11_isThree 13 = .ok (.iastore, 1) := op_79 nN_cX11_isThree (by decide +kernel)
theorem dX11_isThree_14 : decode cX11_isThree 14 = .ok (.aload_n 0, 1) := op_42 nN_cX11_isThree (by decide +kernel)
theorem dX11_isThree_15 : decode cX11_isThree 15 = .ok (.getfield 101, 3) := op_180 nN_cX11_isThree (by decide +kernel)
theorem dX11_isThree_18 : decode cX11_isThree 18 = .ok (.iconst 2, 1) := op_5 nN_cX11_isThree (by decide +kernel)
theorem dX11_isThree_19 : decode cX11_isThree 19 = .ok (.iload_n 3, 1) := op_29 nN_cX11_isThree (by decide +kernel)
theorem dX11_isThree_20 : decode cX11_isThree 20 = .ok (.iastore, 1) := op_79 nN_cX11_isThree (by decide +kernel)
theorem dX11_isThree_21 : decode cX11_isThree 21 = .ok (.aload_n 0, 1) := op_42 nN_cX11_isThree (by decide +kernel)
theorem dX11_isThree_22 : decode cX11_isThree 22 = .ok (.getfield 101, 3) := op_180 nN_cX11_isThree (by decide +kernel)
theorem dX11_isThree_25 : decode cX11_isThree 25 = .ok (.iconst 3, 1) := op_6 nN_cX11_isThree (by decide +kernel)
theorem dX11_isThree_26 : decode cX11_isThree 26 = .ok (.iload 4, 2) := op_21 nN_cX11_isThree (by decide +kernel)
theorem dX11_isThree_28 : decode cX11_isThree 28 = .ok (.iastore, 1) := op_79 nN_cX11_isThree (by decide +kernel)
theorem dX11_isThree_29 : decode cX11_isThree 29 = .ok (.aload_n 0, 1) := op_42 nN_cX11_isThree (by decide +kernel)
theorem dX11_isThree_30 : decode cX11_isThree 30 = .ok (.getfield 101, 3) := op_180 nN_cX11_isThree (by decide +kernel)
theorem dX11_isThree_33 : decode cX11_isThree 33 = .ok (.iconst 4, 1) := op_7 nN_cX11_isThree (by decide +kernel)
theorem dX11_isThree_34 : decode cX11_isThree 34 = .ok (.aload_n 0, 1) := op_42 nN_cX11_isThree (by decide +kernel)
theorem dX11_isThree_35 : decode cX11_isThree 35 = .ok (.getfield 77, 3) := op_180 nN_cX11_isThree (by decide +kernel)
theorem dX11_isThree_38 : decode cX11_isThree 38 = .ok (.iload 5, 2) := op_21 nN_cX11_isThree (by decide +kernel)
theorem dX11_isThree_40 : decode cX11_isThree 40 = .ok (.iaload, 1) := op_46 nN_cX11_isThree (by decide +kernel)
theorem dX11_isThree_41 : decode cX11_isThree 41 = .ok (.iastore, 1) := op_79 nN_cX11_isThree (by decide +kernel)
theorem dX11_isThree_42 : decode cX11_isThree 42 = .ok (.aload_n 0, 1) := op_42 nN_cX11_isThree (by decide +kernel)
theorem dX11_isThree_43 : decode cX11_isThree 43 = .ok (.getfield 101, 3) := op_180 nN_cX11_isThree (by decide +kernel)
theorem dX11_isThree_46 : decode cX11_isThree 46 = .ok (.iconst 5, 1) := op_8 nN_cX11_isThree (by decide +kernel)
theorem dX11_isThree_47 : decode cX11_isThree 47 = .ok (.aload_n 0, 1) := op_42 nN_cX11_isThree (by decide +kernel)
theorem dX11_isThree_48 : decode cX11_isThree 48 = .ok (.getfield 80, 3) := op_180 nN_cX11_isThree (by decide +kernel)
theorem dX11_isThree_51 : decode cX11_isThree 51 = .ok (.iload 5, 2) := op_21 nN_cX11_isThree (by decide +kernel)
theorem dX11_isThree_53 : decode cX11_isThree 53 = .ok (.iaload, 1) := op_46 nN_cX11_isThree (by decide +kernel)
theorem dX11_isThree_54 : decode cX11_isThree 54 = .ok (.iastore, 1) := op_79 nN_cX11_isThree (by decide +kernel)
theorem dX11_isThree_55 : decode cX11_isThree 55 = .ok (.aload_n 0, 1) := op_42 nN_cX11_isThree (by decide +kernel)
theorem dX11_isThree_56 : decode cX11_isThree 56 = .ok (.getfield 101, 3) := op_180 nN_cX11_isThree (by decide +kernel)
theorem dX11_isThree_59 : decode cX11_isThree 59 = .ok (.iload 6, 2) := op_21 nN_cX11_isThree (by decide +kernel)
theorem dX11_isThree_61 : decode cX11_isThree 61 = .ok (.iload 7, 2) := op_21 nN_cX11_isThree (by decide +kernel)
theorem dX11_isThree_63 : decode cX11_isThree 63 = .ok (.invokestatic 226, 3) := op_184 nN_cX11_isThree (by decide +kernel)
theorem dX11_isThree_66 : decode cX11_isThree 66 = .ok (.ireturn, 1) := op_172 nN_cX11_isThree (by decide +kernel)
theorem nN_cX11_isSweptBy : onN cX11_isSweptBy.data.toList = 0xad71805721e0e99802b5159405e060b16802b515824cc015a8aca02f03058ae015a8ac106600ad4565017870b4015a8ac0e6600ad4565017870ae015a8ac0c6600ad45650178142c5a00ad45605330056a2b280bc0a162b8056a2b0219802b515ab4080600a845e060b16802b5158782201508bc0c162b8056a2b0e86802a0178142c5a00ad4561e07805422f02858ae015a8ac3a061b9840a1c0380550040400542c000ad45661028700a3732814380700aa0ca05600056a2b06805361c := by decide +kernel
theorem dX11_isSweptBy_0 : decode cX11_isSweptBy 0 = .ok (.iload_n 1, 1) := op_27 nN_cX11_isSweptBy (by decide +kernel)
theorem dX11_isSweptBy_1 : decode cX11_isSweptBy 1 = .ok (.ifCond .ne 12, 3) := op_154 nN_cX11_isSweptBy (by decide +kernel)
theorem dX11_isSweptBy_4 : decode cX11_isSweptBy 4 = .ok (.aload_n 0, 1) := op_42 nN_cX11_isSweptBy (by decide +kernel)
theorem dX11_isSweptBy_5 : decode cX11_isSweptBy 5 = .ok (.getfield 191, 3) := op_180 nN_cX11_isSweptBy (by decide +kernel)
theorem dX11_isSweptBy_8 : decode cX11_isSweptBy 8 = .ok (.iconst 1, 1) := op_4 nN_cX11_isSweptBy (by decide +kernel)
theorem dX11_isSweptBy_9 : decode cX11_isSweptBy 9 = .ok (.isub, 1) := op_100 nN_cX11_isSweptBy (by decide +kernel)
theorem dX11_isSweptBy_10 : decode cX11_isSweptBy 10 = .ok (.goto 6, 3) := op_167 nN_cX11_isSweptBy (by decide +kernel)
theorem dX11_isSweptBy_13 : decode cX11_isSweptBy 13 = .ok (.iload_n 1, 1) := op_27 nN_cX11_isSweptBy (by decide +kernel)
theorem dX11_isSweptBy_14 : decode cX11_isSweptBy 14 = .ok (.iconst 1, 1) := op_4 nN_cX11_isSweptBy (by decide +kernel)
theorem dX11_isSweptBy_15 : decode cX11_isSweptBy 15 = .ok (.isub, 1) := op_100 nN_cX11_isSweptBy (by decide +kernel)
theorem dX11_isSweptBy_16 : decode cX11_isSweptBy 16 = .ok (.istore 4, 2) := op_54 nN_cX11_isSweptBy (by decide +kernel)
theorem dX11_isSweptBy_18 : decode cX11_isSweptBy 18 = .ok (.iload_n 1, 1) := op_27 nN_cX11_isSweptBy (by decide +kernel)
theorem dX11_isSweptBy_19 : decode cX11_isSweptBy 19 = .ok (.iconst 1, 1) := op_4 nN_cX11_isSweptBy (by decide +kernel)
theorem dX11_isSweptBy_20 : decode cX11_isSweptBy 20 = .ok (.iadd, 1) := op_96 nN_cX11_isSweptBy (by decide +kernel)
theorem dX11_isSweptBy_21 : decode cX11_isSweptBy 21 = .ok (.aload_n 0, 1) := op_42 nN_cX11_isSweptBy (by decide +kernel)
theorem dX11_isSweptBy_22 : decode cX11_isSweptBy 22 = .ok (.getfield 191, 3) := op_180 nN_cX11_isSweptBy (by decide +kernel)
theorem dX11_isSweptBy_25 : decode cX11_isSweptBy 25 = .ok (.if_icmp .ne 7, 3) := op_160 nN_cX11_isSweptBy (by decide +kernel)
theorem dX11_isSweptBy_28 : decode cX11_isSweptBy 28 = .ok (.iconst 0, 1) := op_3 nN_cX11_isSweptBy (by decide +kernel)
theorem dX11_isSweptBy_29 : decode cX11_isSweptBy 29 = .ok (.goto 6, 3) := op_167 nN_cX11_isSweptBy (by decide +kernel)
theorem dX11_isSweptBy_32 : decode cX11_isSweptBy 32 = .ok (.iload_n 1, 1) := op_27 nN_cX11_isSweptBy (by decide +kernel)
theorem dX11_isSweptBy_33 : decode cX11_isSweptBy 33 = .ok (.iconst 1, 1) := op_4 nN_cX11_isSweptBy (by decide +kernel)
theorem dX11_isSweptBy_34 : decode cX11_isSweptBy 34 = .ok (.iadd, 1) := op_96 nN_cX11_isSweptBy (by decide +kernel)
theorem dX11_isSweptBy_35 : decode cX11_isSweptBy 35 = .ok (.istore 5, 2) := op_54 nN_cX11_isSweptBy (by decide +kernel)
theorem dX11_isSweptBy_37 : decode cX11_isSweptBy 37 = .ok (.iload_n 2, 1) := op_28 nN_cX11_isSweptBy (by decide +kernel)
theorem dX11_isSweptBy_38 : decode cX11_isSweptBy 38 = .ok (.aload_n 0, 1) := op_42 nN_cX11_isSweptBy (by decide +kernel)
theorem dX11_isSweptBy_39 : decode cX11_isSweptBy 39 = .ok (.getfield 86, 3) := op_180 nN_cX11_isSweptBy (by decide +kernel)
theorem dX11_isSweptBy_42 : decode cX11_isSweptBy 42 = .ok (.iload 4, 2) := op_21 nN_cX11_isSweptBy (by decide +kernel)
theorem dX11_isSweptBy_44 : decode cX11_isSweptBy 44 = .ok (.iaload, 1) := op_46 nN_cX11_isSweptBy (by decide +kernel)
theorem dX11_isSweptBy_45 : decode cX11_isSweptBy 45 = .ok (.if_icmp .ne 14, 3) := op_160 nN_cX11_isSweptBy (by decide +kernel)
theorem dX11_isSweptBy_48 : decode cX11_isSweptBy 48 = .ok (.iload_n 3, 1) := op_29 nN_cX11_isSweptBy (by decide +kernel)
theorem dX11_isSweptBy_49 : decode cX11_isSweptBy 49 = .ok (.aload_n 0, 1) := op_42 nN_cX11_isSweptBy (by decide +kernel)
theorem dX11_isSweptBy_50 : decode cX11_isSweptBy 50 = .ok (.getfield 89, 3) := op_180 nN_cX11_isSweptBy (by decide +kernel)
theorem dX11_isSweptBy_53 : decode cX11_isSweptBy 53 = .ok (.iload 4, 2) := op_21 nN_cX11_isSweptBy (by decide +kernel)
theorem dX11_isSweptBy_55 : decode cX11_isSweptBy 55 = .ok (.iaload, 1) := op_46 nN_cX11_isSweptBy (by decide +kernel)
theorem dX11_isSweptBy_56 : decode cX11_isSweptBy 56 = .ok (.if_icmp .eq 25, 3) := op_159 nN_cX11_isSweptBy (by decide +kernel)
theorem dX11_isSweptBy_59 : decode cX11_isSweptBy 59 = .ok (.iload_n 2, 1) := op_28 nN_cX11_isSweptBy (by decide +kernel)
theorem dX11_isSweptBy_60 : decode cX11_isSweptBy 60 = .ok (.aload_n 0, 1) := op_42 nN_cX11_isSweptBy (by decide +kernel)
theorem dX11_isSweptBy_61 : decode cX11_isSweptBy 61 = .ok (.getfield 86, 3) := op_180 nN_cX11_isSweptBy (by decide +kernel)
theorem dX11_isSweptBy_64 : decode cX11_isSweptBy 64 = .ok (.iload 5, 2) := op_21 nN_cX11_isSweptBy (by decide +kernel)
theorem dX11_isSweptBy_66 : decode cX11_isSweptBy 66 = .ok (.iaload, 1) := op_46 nN_cX11_isSweptBy (by decide +kernel)
theorem dX11_isSweptBy_67 : decode cX11_isSweptBy 67 = .ok (.if_icmp .ne 16, 3) := op_160 nN_cX11_isSweptBy (by decide +kernel)
theorem dX11_isSweptBy_70 : decode cX11_isSweptBy 70 = .ok (.iload_n 3, 1) := op_29 nN_cX11_isSweptBy (by decide +kernel)
theorem dX11_isSweptBy_71 : decode cX11_isSweptBy 71 = .ok (.aload_n 0, 1) := op_42 nN_cX11_isSweptBy (by decide +kernel)
theorem dX11_isSweptBy_72 : decode cX11_isSweptBy 72 = .ok (.getfield 89, 3) := op_180 nN_cX11_isSweptBy (by decide +kernel)
theorem dX11_isSweptBy_75 : decode cX11_isSweptBy 75 = .ok (.iload 5, 2) := op_21 nN_cX11_isSweptBy (by decide +kernel)
theorem dX11_isSweptBy_77 : decode cX11_isSweptBy 77 = .ok (.iaload, 1) := op_46 nN_cX11_isSweptBy (by decide +kernel)
theorem dX11_isSweptBy_78 : decode cX11_isSweptBy 78 = .ok (.if_icmp .ne 5, 3) := op_160 nN_cX11_isSweptBy (by decide +kernel)
theorem dX11_isSweptBy_81 : decode cX11_isSweptBy 81 = .ok (.iconst 0, 1) := op_3 nN_cX11_isSweptBy (by decide +kernel)
theorem dX11_isSweptBy_82 : decode cX11_isSweptBy 82 = .ok (.ireturn, 1) := op_172 nN_cX11_isSweptBy (by decide +kernel)
theorem dX11_isSweptBy_83 : decode cX11_isSweptBy 83 = .ok (.aload_n 0, 1) := op_42 nN_cX11_isSweptBy (by decide +kernel)
theorem dX11_isSweptBy_84 : decode cX11_isSweptBy 84 = .ok (.getfield 101, 3) := op_180 nN_cX11_isSweptBy (by decide +kernel)
theorem dX11_isSweptBy_87 : decode cX11_isSweptBy 87 = .ok (.iconst 0, 1) := op_3 nN_cX11_isSweptBy (by decide +kernel)
theorem dX11_isSweptBy_88 : decode cX11_isSweptBy 88 = .ok (.aload_n 0, 1) := op_42 nN_cX11_isSweptBy (by decide +kernel)
theorem dX11_isSweptBy_89 : decode cX11_isSweptBy 89 = .ok (.getfield 86, 3) := op_180 nN_cX11_isSweptBy (by decide +kernel)
theorem dX11_isSweptBy_92 : decode cX11_isSweptBy 92 = .ok (.iload 4, 2) := op_21 nN_cX11_isSweptBy (by decide +kernel)
theorem dX11_isSweptBy_94 : decode cX11_isSweptBy 94 = .ok (.iaload, 1) := op_46 nN_cX11_isSweptBy (by decide +kernel)
theorem dX11_isSweptBy_95 : decode cX11_isSweptBy 95 = .ok (.iastore, 1) := op_79 nN_cX11_isSweptBy (by decide +kernel)
theorem dX11_isSweptBy_96 : decode cX11_isSweptBy 96 = .ok (.aload_n 0, 1) := op_42 nN_cX11_isSweptBy (by decide +kernel)
theorem dX11_isSweptBy_97 : decode cX11_isSweptBy 97 = .ok (.getfield 101, 3) := op_180 nN_cX11_isSweptBy (by decide +kernel)
theorem dX11_isSweptBy_100 : decode cX11_isSweptBy 100 = .ok (.iconst 1, 1) := op_4 nN_cX11_isSweptBy (by decide +kernel)
theorem dX11_isSweptBy_101 : decode cX11_isSweptBy 101 = .ok (.aload_n 0, 1) := op_42 nN_cX11_isSweptBy (by decide +kernel)
theorem dX11_isSweptBy_102 : decode cX11_isSweptBy 102 = .ok (.getfield 89, 3) := op_180 nN_cX11_isSweptBy (by decide +kernel)
theorem dX11_isSweptBy_105 : decode cX11_isSweptBy 105 = .ok (.iload 4, 2) := op_21 nN_cX11_isSweptBy (by decide +kernel)
theorem dX11_isSweptBy_107 : decode cX11_isSweptBy 107 = .ok (.iaload, 1) := op_46 nN_cX11_isSweptBy (by decide +kernel)
theorem dX11_isSweptBy_108 : decode cX11_isSweptBy 108 = .ok (.iastore, 1) := op_79 nN_cX11_isSweptBy (by decide +kernel)
theorem dX11_isSweptBy_109 : decode cX11_isSweptBy 109 = .ok (.aload_n 0, 1) := op_42 nN_cX11_isSweptBy (by decide +kernel)
theorem dX11_isSweptBy_110 : decode cX11_isSweptBy 110 = .ok (.getfield 101, 3) := op_180 nN_cX11_isSweptBy (by decide +kernel)
theorem dX11_isSweptBy_113 : decode cX11_isSweptBy 113 = .ok (.iconst 2, 1) := op_5 nN_cX11_isSweptBy (by decide +kernel)
theorem dX11_isSweptBy_114 : decode cX11_isSweptBy 114 = .ok (.aload_n 0, 1) := op_42 nN_cX11_isSweptBy (by decide +kernel)
theorem dX11_isSweptBy_115 : decode cX11_isSweptBy 115 = .ok (.getfield 86, 3) := op_180 nN_cX11_isSweptBy (by decide +kernel)
theorem dX11_isSweptBy_118 : decode cX11_isSweptBy 118 = .ok (.iload_n 1, 1) := op_27 nN_cX11_isSweptBy (by decide +kernel)
theorem dX11_isSweptBy_119 : decode cX11_isSweptBy 119 = .ok (.iaload, 1) := op_46 nN_cX11_isSweptBy (by decide +kernel)
theorem dX11_isSweptBy_120 : decode cX11_isSweptBy 120 = .ok (.iastore, 1) := op_79 nN_cX11_isSweptBy (by decide +kernel)
theorem dX11_isSweptBy_121 : decode cX11_isSweptBy 121 = .ok (.aload_n 0, 1) := op_42 nN_cX11_isSweptBy (by decide +kernel)
theorem dX11_isSweptBy_122 : decode cX11_isSweptBy 122 = .ok (.getfield 101, 3) := op_180 nN_cX11_isSweptBy (by decide +kernel)
theorem dX11_isSweptBy_125 : decode cX11_isSweptBy 125 = .ok (.iconst 3, 1) := op_6 nN_cX11_isSweptBy (by decide +kernel)
theorem dX11_isSweptBy_126 : decode cX11_isSweptBy 126 = .ok (.aload_n 0, 1) := op_42 nN_cX11_isSweptBy (by decide +kernel)
theorem dX11_isSweptBy_127 : decode cX11_isSweptBy 127 = .ok (.getfield 89, 3) := op_180 nN_cX11_isSweptBy (by decide +kernel)
theorem dX11_isSweptBy_130 : decode cX11_isSweptBy 130 = .ok (.iload_n 1, 1) := op_27 nN_cX11_isSweptBy (by decide +kernel)
theorem dX11_isSweptBy_131 : decode cX11_isSweptBy 131 = .ok (.iaload, 1) := op_46 nN_cX11_isSweptBy (by decide +kernel)
theorem dX11_isSweptBy_132 : decode cX11_isSweptBy 132 = .ok (.iastore, 1) := op_79 nN_cX11_isSweptBy (by decide +kernel)
theorem dX11_isSweptBy_133 : decode cX11_isSweptBy 133 = .ok (.aload_n 0, 1) := op_42 nN_cX11_isSweptBy (by decide +kernel)
theorem dX11_isSweptBy_134 : decode cX11_isSweptBy 134 = .ok (.getfield 101, 3) := op_180 nN_cX11_isSweptBy (by decide +kernel)
theorem dX11_isSweptBy_137 : decode cX11_isSweptBy 137 = .ok (.iconst 4, 1) := op_7 nN_cX11_isSweptBy (by decide +kernel)
theorem dX11_isSweptBy_138 : decode cX11_isSweptBy 138 = .ok (.aload_n 0, 1) := op_42 nN_cX11_isSweptBy (by decide +kernel)
theorem dX11_isSweptBy_139 : decode cX11_isSweptBy 139 = .ok (.getfield 86, 3) := op_180 nN_cX11_isSweptBy (by decide +kernel)
theorem dX11_isSweptBy_142 : decode cX11_isSweptBy 142 = .ok (.iload 5, 2) := op_21 nN_cX11_isSweptBy (by decide +kernel)
theorem dX11_isSweptBy_144 : decode cX11_isSweptBy 144 = .ok (.iaload, 1) := op_46 nN_cX11_isSweptBy (by decide +kernel)
theorem dX11_isSweptBy_145 : decode cX11_isSweptBy 145 = .ok (.iastore, 1) := op_79 nN_cX11_isSweptBy (by decide +kernel)
theorem dX11_isSweptBy_146 : decode cX11_isSweptBy 146 = .ok (.aload_n 0, 1) := op_42 nN_cX11_isSweptBy (by decide +kernel)
theorem dX11_isSweptBy_147 : decode cX11_isSweptBy 147 = .ok (.getfield 101, 3) := op_180 nN_cX11_isSweptBy (by decide +kernel)
theorem dX11_isSweptBy_150 : decode cX11_isSweptBy 150 = .ok (.iconst 5, 1) := op_8 nN_cX11_isSweptBy (by decide +kernel)
theorem dX11_isSweptBy_151 : decode cX11_isSweptBy 151 = .ok (.aload_n 0, 1) := op_42 nN_cX11_isSweptBy (by decide +kernel)
theorem dX11_isSweptBy_152 : decode cX11_isSweptBy 152 = .ok (.getfield 89, 3) := op_180 nN_cX11_isSweptBy (by decide +kernel)
theorem dX11_isSweptBy_155 : decode cX11_isSweptBy 155 = .ok (.iload 5, 2) := op_21 nN_cX11_isSweptBy (by decide +kernel)
theorem dX11_isSweptBy_157 : decode cX11_isSweptBy 157 = .ok (.iaload, 1) := op_46 nN_cX11_isSweptBy (by decide +kernel)
theorem dX11_isSweptBy_158 : decode cX11_isSweptBy 158 = .ok (.iastore, 1) := op_79 nN_cX11_isSweptBy (by decide +kernel)
theorem dX11_isSweptBy_159 : decode cX11_isSweptBy 159 = .ok (.aload_n 0, 1) := op_42 nN_cX11_isSweptBy (by decide +kernel)
theorem dX11_isSweptBy_160 : decode cX11_isSweptBy 160 = .ok (.getfield 101, 3) := op_180 nN_cX11_isSweptBy (by decide +kernel)
theorem dX11_isSweptBy_163 : decode cX11_isSweptBy 163 = .ok (.iload_n 2, 1) := op_28 nN_cX11_isSweptBy (by decide +kernel)
theorem dX11_isSweptBy_164 : decode cX11_isSweptBy 164 = .ok (.iload_n 3, 1) := op_29 nN_cX11_isSweptBy (by decide +kernel)
theorem dX11_isSweptBy_165 : decode cX11_isSweptBy 165 = .ok (.invokestatic 226, 3) := op_184 nN_cX11_isSweptBy (by decide +kernel)
theorem dX11_isSweptBy_168 : decode cX11_isSweptBy 168 = .ok (.ireturn, 1) := op_172 nN_cX11_isSweptBy (by decide +kernel)
theorem nN_cX11_isSwept : onN cX11_isSwept.data.toList = 0x56811f4ff540080a85568140c014d3ac02b70f0740c16178142c5100ad4562f028589c015a8ac5e050b16802b5158bc0a162b8056a2b158ac029b758056e1e0e8182c2f03058b4015a8ac5e060b15c02b5158bc0a162d0056a2b178142c5700ad4562b2a005500700a845e060b16802b5158782401508bc0c162b8056a2b0e874029a04058e401500bc0a162d0056a2b0f03c02a1178142c5700ad4561d0d00534070b234029b0405812014d01c2c081b8100a01540141001508bc0c16288056a2b178182c5a00ad4561900a845e060b13802b5158bc0c162b8056a2b038dc080500aa00a0800a845e050b14402b5158bc0a162d0056a2b0c805422f028589c015a8ac5e050b15c02b5158186e61028142c0800aa0080800a8580015a8acc20502858080251a9402b70e0ac0a16028dc08e700adc382b := by decide +kernel
theorem dX11_isSwept_0 : decode cX11_isSwept 0 = .ok (.aload_n 0, 1) := op_42 nN_cX11_isSwept (by decide +kernel)
theorem dX11_isSwept_1 : decode cX11_isSwept 1 = .ok (.iload_n 1, 1) := op_27 nN_cX11_isSwept (by decide +kernel)
theorem dX11_isSwept_2 : decode cX11_isSwept 2 = .ok (.invokevirtual 230, 3) := op_182 nN_cX11_isSwept (by decide +kernel)
theorem dX11_isSwept_5 : decode cX11_isSwept 5 = .ok (.iconst 0, 1) := op_3 nN_cX11_isSwept (by decide +kernel)
theorem dX11_isSwept_6 : decode cX11_isSwept 6 = .ok (.istore 4, 2) := op_54 nN_cX11_isSwept (by decide +kernel)
theorem dX11_isSwept_8 : decode cX11_isSwept 8 = .ok (.iload 4, 2) := op_21 nN_cX11_isSwept (by decide +kernel)
theorem dX11_isSwept_10 : decode cX11_isSwept 10 = .ok (.aload_n 0, 1) := op_42 nN_cX11_isSwept (by decide +kernel)
theorem dX11_isSwept_11 : decode cX11_isSwept 11 = .ok (.iload_n 1, 1) := op_27 nN_cX11_isSwept (by decide +kernel)
theorem dX11_isSwept_12 : decode cX11_isSwept 12 = .ok (.invokevirtual 164, 3) := op_182 nN_cX11_isSwept (by decide +kernel)
theorem dX11_isSwept_15 : decode cX11_isSwept 15 = .ok (.if_icmp .ge 259, 3) := op_162 nN_cX11_isSwept (by decide +kernel)
theorem dX11_isSwept_18 : decode cX11_isSwept 18 = .ok (.iload 4, 2) := op_21 nN_cX11_isSwept (by decide +kernel)
theorem dX11_isSwept_20 : decode cX11_isSwept 20 = .ok (.iconst 1, 1) := op_4 nN_cX11_isSwept (by decide +kernel)
theorem dX11_isSwept_21 : decode cX11_isSwept 21 = .ok (.iadd, 1) := op_96 nN_cX11_isSwept (by decide +kernel)
theorem dX11_isSwept_22 : decode cX11_isSwept 22 = .ok (.aload_n 0, 1) := op_42 nN_cX11_isSwept (by decide +kernel)
theorem dX11_isSwept_23 : decode cX11_isSwept 23 = .ok (.getfield 191, 3) := op_180 nN_cX11_isSwept (by decide +kernel)
theorem dX11_isSwept_26 : decode cX11_isSwept 26 = .ok (.if_icmp .ne 7, 3) := op_160 nN_cX11_isSwept (by decide +kernel)
theorem dX11_isSwept_29 : decode cX11_isSwept 29 = .ok (.iconst 0, 1) := op_3 nN_cX11_isSwept (by decide +kernel)
theorem dX11_isSwept_30 : decode cX11_isSwept 30 = .ok (.goto 7, 3) := op_167 nN_cX11_isSwept (by decide +kernel)
theorem dX11_isSwept_33 : decode cX11_isSwept 33 = .ok (.iload 4, 2) := op_21 nN_cX11_isSwept (by decide +kernel)
theorem dX11_isSwept_35 : decode cX11_isSwept 35 = .ok (.iconst 1, 1) := op_4 nN_cX11_isSwept (by decide +kernel)
theorem dX11_isSwept_36 : decode cX11_isSwept 36 = .ok (.iadd, 1) := op_96 nN_cX11_isSwept (by decide +kernel)
theorem dX11_isSwept_37 : decode cX11_isSwept 37 = .ok (.istore 5, 2) := op_54 nN_cX11_isSwept (by decide +kernel)
theorem dX11_isSwept_39 : decode cX11_isSwept 39 = .ok (.aload_n 0, 1) := op_42 nN_cX11_isSwept (by decide +kernel)
theorem dX11_isSwept_40 : decode cX11_isSwept 40 = .ok (.getfield 86, 3) := op_180 nN_cX11_isSwept (by decide +kernel)
theorem dX11_isSwept_43 : decode cX11_isSwept 43 = .ok (.iload 4, 2) := op_21 nN_cX11_isSwept (by decide +kernel)
theorem dX11_isSwept_45 : decode cX11_isSwept 45 = .ok (.iaload, 1) := op_46 nN_cX11_isSwept (by decide +kernel)
theorem dX11_isSwept_46 : decode cX11_isSwept 46 = .ok (.aload_n 0, 1) := op_42 nN_cX11_isSwept (by decide +kernel)
theorem dX11_isSwept_47 : decode cX11_isSwept 47 = .ok (.getfield 77, 3) := op_180 nN_cX11_isSwept (by decide +kernel)
theorem dX11_isSwept_50 : decode cX11_isSwept 50 = .ok (.iload 4, 2) := op_21 nN_cX11_isSwept (by decide +kernel)
theorem dX11_isSwept_52 : decode cX11_isSwept 52 = .ok (.iaload, 1) := op_46 nN_cX11_isSwept (by decide +kernel)
theorem dX11_isSwept_53 : decode cX11_isSwept 53 = .ok (.if_icmp .ne 24, 3) := op_160 nN_cX11_isSwept (by decide +kernel)
theorem dX11_isSwept_56 : decode cX11_isSwept 56 = .ok (.aload_n 0, 1) := op_42 nN_cX11_isSwept (by decide +kernel)
theorem dX11_isSwept_57 : decode cX11_isSwept 57 = .ok (.getfield 89, 3) := op_180 nN_cX11_isSwept (by decide +kernel)
theorem dX11_isSwept_60 : decode cX11_isSwept 60 = .ok (.iload 4, 2) := op_21 nN_cX11_isSwept (by decide +kernel)
theorem dX11_isSwept_62 : decode cX11_isSwept 62 = .ok (.iaload, 1) := op_46 nN_cX11_isSwept (by decide +kernel)
theorem dX11_isSwept_63 : decode cX11_isSwept 63 = .ok (.aload_n 0, 1) := op_42 nN_cX11_isSwept (by decide +kernel)
theorem dX11_isSwept_64 : decode cX11_isSwept 64 = .ok (.getfield 80, 3) := op_180 nN_cX11_isSwept (by decide +kernel)
theorem dX11_isSwept_67 : decode cX11_isSwept 67 = .ok (.iload 4, 2) := op_21 nN_cX11_isSwept (by decide +kernel)
theorem dX11_isSwept_69 : decode cX11_isSwept 69 = .ok (.iaload, 1) := op_46 nN_cX11_isSwept (by decide +kernel)
theorem dX11_isSwept_70 : decode cX11_isSwept 70 = .ok (.if_icmp .ne 7, 3) := op_160 nN_cX11_isSwept (by decide +kernel)
theorem dX11_isSwept_73 : decode cX11_isSwept 73 = .ok (.iconst 1, 1) := op_4 nN_cX11_isSwept (by decide +kernel)
theorem dX11_isSwept_74 : decode cX11_isSwept 74 = .ok (.goto 4, 3) := op_167 nN_cX11_isSwept (by decide +kernel)
theorem dX11_isSwept_77 : decode cX11_isSwept 77 = .ok (.iconst 0, 1) := op_3 nN_cX11_isSwept (by decide +kernel)
theorem dX11_isSwept_78 : decode cX11_isSwept 78 = .ok (.istore 6, 2) := op_54 nN_cX11_isSwept (by decide +kernel)
theorem dX11_isSwept_80 : decode cX11_isSwept 80 = .ok (.aload_n 0, 1) := op_42 nN_cX11_isSwept (by decide +kernel)
theorem dX11_isSwept_81 : decode cX11_isSwept 81 = .ok (.getfield 86, 3) := op_180 nN_cX11_isSwept (by decide +kernel)
theorem dX11_isSwept_84 : decode cX11_isSwept 84 = .ok (.iload 5, 2) := op_21 nN_cX11_isSwept (by decide +kernel)
theorem dX11_isSwept_86 : decode cX11_isSwept 86 = .ok (.iaload, 1) := op_46 nN_cX11_isSwept (by decide +kernel)
theorem dX11_isSwept_87 : decode cX11_isSwept 87 = .ok (.aload_n 0, 1) := op_42 nN_cX11_isSwept (by decide +kernel)
theorem dX11_isSwept_88 : decode cX11_isSwept 88 = .ok (.getfield 77, 3) := op_180 nN_cX11_isSwept (by decide +kernel)
theorem dX11_isSwept_91 : decode cX11_isSwept 91 = .ok (.iload 5, 2) := op_21 nN_cX11_isSwept (by decide +kernel)
theorem dX11_isSwept_93 : decode cX11_isSwept 93 = .ok (.iaload, 1) := op_46 nN_cX11_isSwept (by decide +kernel)
theorem dX11_isSwept_94 : decode cX11_isSwept 94 = .ok (.if_icmp .ne 24, 3) := op_160 nN_cX11_isSwept (by decide +kernel)
theorem dX11_isSwept_97 : decode cX11_isSwept 97 = .ok (.aload_n 0, 1) := op_42 nN_cX11_isSwept (by decide +kernel)
theorem dX11_isSwept_98 : decode cX11_isSwept 98 = .ok (.getfield 89, 3) := op_180 nN_cX11_isSwept (by decide +kernel)
theorem dX11_isSwept_101 : decode cX11_isSwept 101 = .ok (.iload 5, 2) := op_21 nN_cX11_isSwept (by decide +kernel)
theorem dX11_isSwept_103 : decode cX11_isSwept 103 = .ok (.iaload, 1) := op_46 nN_cX11_isSwept (by decide +kernel)
theorem dX11_isSwept_104 : decode cX11_isSwept 104 = .ok (.aload_n 0, 1) := op_42 nN_cX11_isSwept (by decide +kernel)
theorem dX11_isSwept_105 : decode cX11_isSwept 105 = .ok (.getfield 80, 3) := op_180 nN_cX11_isSwept (by decide +kernel)
theorem dX11_isSwept_108 : decode cX11_isSwept 108 = .ok (.iload 5, 2) := op_21 nN_cX11_isSwept (by decide +kernel)
theorem dX11_isSwept_110 : decode cX11_isSwept 110 = .ok (.iaload, 1) := op_46 nN_cX11_isSwept (by decide +kernel)
theorem dX11_isSwept_111 : decode cX11_isSwept 111 = .ok (.if_icmp .ne 7, 3) := op_160 nN_cX11_isSwept (by decide +kernel)
theorem dX11_isSwept_114 : decode cX11_isSwept 114 = .ok (.iconst 1, 1) := op_4 nN_cX11_isSwept (by decide +kernel)
theorem dX11_isSwept_115 : decode cX11_isSwept 115 = .ok (.goto 4, 3) := op_167 nN_cX11_isSwept (by decide +kernel)
theorem dX11_isSwept_118 : decode cX11_isSwept 118 = .ok (.iconst 0, 1) := op_3 nN_cX11_isSwept (by decide +kernel)
theorem dX11_isSwept_119 : decode cX11_isSwept 119 = .ok (.istore 7, 2) := op_54 nN_cX11_isSwept (by decide +kernel)
theorem dX11_isSwept_121 : decode cX11_isSwept 121 = .ok (.iload 6, 2) := op_21 nN_cX11_isSwept (by decide +kernel)
theorem dX11_isSwept_123 : decode cX11_isSwept 123 = .ok (.ifCond .eq 8, 3) := op_153 nN_cX11_isSwept (by decide +kernel)
theorem dX11_isSwept_126 : decode cX11_isSwept 126 = .ok (.iload 7, 2) := op_21 nN_cX11_isSwept (by decide +kernel)
theorem dX11_isSwept_128 : decode cX11_isSwept 128 = .ok (.ifCond .ne 140, 3) := op_154 nN_cX11_isSwept (by decide +kernel)
theorem dX11_isSwept_131 : decode cX11_isSwept 131 = .ok (.iload 6, 2) := op_21 nN_cX11_isSwept (by decide +kernel)
theorem dX11_isSwept_133 : decode cX11_isSwept 133 = .ok (.ifCond .eq 25, 3) := op_153 nN_cX11_isSwept (by decide +kernel)
theorem dX11_isSwept_136 : decode cX11_isSwept 136 = .ok (.iload_n 2, 1) := op_28 nN_cX11_isSwept (by decide +kernel)
theorem dX11_isSwept_137 : decode cX11_isSwept 137 = .ok (.aload_n 0, 1) := op_42 nN_cX11_isSwept (by decide +kernel)
theorem dX11_isSwept_138 : decode cX11_isSwept 138 = .ok (.getfield 86, 3) := op_180 nN_cX11_isSwept (by decide +kernel)
theorem dX11_isSwept_141 : decode cX11_isSwept 141 = .ok (.iload 4, 2) := op_21 nN_cX11_isSwept (by decide +kernel)
theorem dX11_isSwept_143 : decode cX11_isSwept 143 = .ok (.iaload, 1) := op_46 nN_cX11_isSwept (by decide +kernel)
theorem dX11_isSwept_144 : decode cX11_isSwept 144 = .ok (.if_icmp .ne 14, 3) := op_160 nN_cX11_isSwept (by decide +kernel)
theorem dX11_isSwept_147 : decode cX11_isSwept 147 = .ok (.iload_n 3, 1) := op_29 nN_cX11_isSwept (by decide +kernel)
theorem dX11_isSwept_148 : decode cX11_isSwept 148 = .ok (.aload_n 0, 1) := op_42 nN_cX11_isSwept (by decide +kernel)
theorem dX11_isSwept_149 : decode cX11_isSwept 149 = .ok (.getfield 89, 3) := op_180 nN_cX11_isSwept (by decide +kernel)
theorem dX11_isSwept_152 : decode cX11_isSwept 152 = .ok (.iload 4, 2) := op_21 nN_cX11_isSwept (by decide +kernel)
theorem dX11_isSwept_154 : decode cX11_isSwept 154 = .ok (.iaload, 1) := op_46 nN_cX11_isSwept (by decide +kernel)
theorem dX11_isSwept_155 : decode cX11_isSwept 155 = .ok (.if_icmp .eq 113, 3) := op_159 nN_cX11_isSwept (by decide +kernel)
theorem dX11_isSwept_158 : decode cX11_isSwept 158 = .ok (.iload 7, 2) := op_21 nN_cX11_isSwept (by decide +kernel)
theorem dX11_isSwept_160 : decode cX11_isSwept 160 = .ok (.ifCond .eq 28, 3) := op_153 nN_cX11_isSwept (by decide +kernel)
theorem dX11_isSwept_163 : decode cX11_isSwept 163 = .ok (.iload_n 2, 1) := op_28 nN_cX11_isSwept (by decide +kernel)
theorem dX11_isSwept_164 : decode cX11_isSwept 164 = .ok (.aload_n 0, 1) := op_42 nN_cX11_isSwept (by decide +kernel)
theorem dX11_isSwept_165 : decode cX11_isSwept 165 = .ok (.getfield 86, 3) := op_180 nN_cX11_isSwept (by decide +kernel)
theorem dX11_isSwept_168 : decode cX11_isSwept 168 = .ok (.iload 5, 2) := op_21 nN_cX11_isSwept (by decide +kernel)
theorem dX11_isSwept_170 : decode cX11_isSwept 170 = .ok (.iaload, 1) := op_46 nN_cX11_isSwept (by decide +kernel)
theorem dX11_isSwept_171 : decode cX11_isSwept 171 = .ok (.if_icmp .ne 17, 3) := op_160 nN_cX11_isSwept (by decide +kernel)
theorem dX11_isSwept_174 : decode cX11_isSwept 174 = .ok (.iload_n 3, 1) := op_29 nN_cX11_isSwept (by decide +kernel)
theorem dX11_isSwept_175 : decode cX11_isSwept 175 = .ok (.aload_n 0, 1) := op_42 nN_cX11_isSwept (by decide +kernel)
theorem dX11_isSwept_176 : decode cX11_isSwept 176 = .ok (.getfield 89, 3) := op_180 nN_cX11_isSwept (by decide +kernel)
theorem dX11_isSwept_179 : decode cX11_isSwept 179 = .ok (.iload 5, 2) := op_21 nN_cX11_isSwept (by decide +kernel)
theorem dX11_isSwept_181 : decode cX11_isSwept 181 = .ok (.iaload, 1) := op_46 nN_cX11_isSwept (by decide +kernel)
theorem dX11_isSwept_182 : decode cX11_isSwept 182 = .ok (.if_icmp .ne 6, 3) := op_160 nN_cX11_isSwept (by decide +kernel)
theorem dX11_isSwept_185 : decode cX11_isSwept 185 = .ok (.goto 83, 3) := op_167 nN_cX11_isSwept (by decide +kernel)
theorem dX11_isSwept_188 : decode cX11_isSwept 188 = .ok (.aload_n 0, 1) := op_42 nN_cX11_isSwept (by decide +kernel)
theorem dX11_isSwept_189 : decode cX11_isSwept 189 = .ok (.aload_n 0, 1) := op_42 nN_cX11_isSwept (by decide +kernel)
theorem dX11_isSwept_190 : decode cX11_isSwept 190 = .ok (.getfield 86, 3) := op_180 nN_cX11_isSwept (by decide +kernel)
theorem dX11_isSwept_193 : decode cX11_isSwept 193 = .ok (.iload 4, 2) := op_21 nN_cX11_isSwept (by decide +kernel)
theorem dX11_isSwept_195 : decode cX11_isSwept 195 = .ok (.iaload, 1) := op_46 nN_cX11_isSwept (by decide +kernel)
theorem dX11_isSwept_196 : decode cX11_isSwept 196 = .ok (.aload_n 0, 1) := op_42 nN_cX11_isSwept (by decide +kernel)
theorem dX11_isSwept_197 : decode cX11_isSwept 197 = .ok (.getfield 89, 3) := op_180 nN_cX11_isSwept (by decide +kernel)
theorem dX11_isSwept_200 : decode cX11_isSwept 200 = .ok (.iload 4, 2) := op_21 nN_cX11_isSwept (by decide +kernel)
theorem dX11_isSwept_202 : decode cX11_isSwept 202 = .ok (.iaload, 1) := op_46 nN_cX11_isSwept (by decide +kernel)
theorem dX11_isSwept_203 : decode cX11_isSwept 203 = .ok (.aload_n 0, 1) := op_42 nN_cX11_isSwept (by decide +kernel)
theorem dX11_isSwept_204 : decode cX11_isSwept 204 = .ok (.getfield 86, 3) := op_180 nN_cX11_isSwept (by decide +kernel)
theorem dX11_isSwept_207 : decode cX11_isSwept 207 = .ok (.iload 5, 2) := op_21 nN_cX11_isSwept (by decide +kernel)
theorem dX11_isSwept_209 : decode cX11_isSwept 209 = .ok (.iaload, 1) := op_46 nN_cX11_isSwept (by decide +kernel)
theorem dX11_isSwept_210 : decode cX11_isSwept 210 = .ok (.aload_n 0, 1) := op_42 nN_cX11_isSwept (by decide +kernel)
theorem dX11_isSwept_211 : decode cX11_isSwept 211 = .ok (.getfield 89, 3) := op_180 nN_cX11_isSwept (by decide +kernel)
theorem dX11_isSwept_214 : decode cX11_isSwept 214 = .ok (.iload 5, 2) := op_21 nN_cX11_isSwept (by decide +kernel)
theorem dX11_isSwept_216 : decode cX11_isSwept 216 = .ok (.iaload, 1) := op_46 nN_cX11_isSwept (by decide +kernel)
theorem dX11_isSwept_217 : decode cX11_isSwept 217 = .ok (.iload 5, 2) := op_21 nN_cX11_isSwept (by decide +kernel)
theorem dX11_isSwept_219 : decode cX11_isSwept 219 = .ok (.iload_n 2, 1) := op_28 nN_cX11_isSwept (by decide +kernel)
theorem dX11_isSwept_220 : decode cX11_isSwept 220 = .ok (.iload_n 3, 1) := op_29 nN_cX11_isSwept (by decide +kernel)
theorem dX11_isSwept_221 : decode cX11_isSwept 221 = .ok (.invokevirtual 234, 3) := op_182 nN_cX11_isSwept (by decide +kernel)
theorem dX11_isSwept_224 : decode cX11_isSwept 224 = .ok (.ifCond .ne 42, 3) := op_154 nN_cX11_isSwept (by decide +kernel)
theorem dX11_isSwept_227 : decode cX11_isSwept 227 = .ok (.aload_n 0, 1) := op_42 nN_cX11_isSwept (by decide +kernel)
theorem dX11_isSwept_228 : decode cX11_isSwept 228 = .ok (.aload_n 0, 1) := op_42 nN_cX11_isSwept (by decide +kernel)
theorem dX11_isSwept_229 : decode cX11_isSwept 229 = .ok (.getfield 86, 3) := op_180 nN_cX11_isSwept (by decide +kernel)
theorem dX11_isSwept_232 : decode cX11_isSwept 232 = .ok (.iload 4, 2) := op_21 nN_cX11_isSwept (by decide +kernel)
theorem dX11_isSwept_234 : decode cX11_isSwept 234 = .ok (.iaload, 1) := op_46 nN_cX11_isSwept (by decide +kernel)
theorem dX11_isSwept_235 : decode cX11_isSwept 235 = .ok (.aload_n 0, 1) := op_42 nN_cX11_isSwept (by decide +kernel)
theorem dX11_isSwept_236 : decode cX11_isSwept 236 = .ok (.getfield 89, 3) := op_180 nN_cX11_isSwept (by decide +kernel)
theorem dX11_isSwept_239 : decode cX11_isSwept 239 = .ok (.iload 4, 2) := op_21 nN_cX11_isSwept (by decide +kernel)
theorem dX11_isSwept_241 : decode cX11_isSwept 241 = .ok (.iaload, 1) := op_46 nN_cX11_isSwept (by decide +kernel)
theorem dX11_isSwept_242 : decode cX11_isSwept 242 = .ok (.aload_n 0, 1) := op_42 nN_cX11_isSwept (by decide +kernel)
theorem dX11_isSwept_243 : decode cX11_isSwept 243 = .ok (.getfield 77, 3) := op_180 nN_cX11_isSwept (by decide +kernel)
end
