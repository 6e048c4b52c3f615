set_option maxHeartbeats 4000000 in
set_option maxRecDepth 100000 in
theorem k_M_undo_r (l : Launch) (dC : Nat → ClassId) (dI : Nat → Nat → Nat) (cI cZ cF : ClassId) (sz : Nat) (k0 : Nat) (a : Nat → Nat) (I0 : Nat → Int32) (J0 : Nat → Int64) (dn : Nat) (bs : Nat) (hdn : I0 19 = nI dn) (hbs : I0 21 = nI bs) (hbd : bs ≤ dn) (hd512 : dn ≤ 512) (heq : dn = bs) : Met l yX11_undo (.code yX11_undo cX11_undo 1 (some .int) :: ws0) ({ frames := 1, cells := 0, slots := 0, locals := 21 } : Room) (va_Pc [.ref k0] (zPre (dC, dI) classes (zTy cI cZ cF) [(om k0 a I0 J0)] sz zXN)) (zQ (some (.int (-1))) (fun t => va_P (dC, dI) classes [(om k0 a (upd (upd I0 14 8) 15 (I0 15)) J0)] t.heap ∧ va_D (va_A [(om k0 a I0 J0)] sz) [(om k0 a (upd (upd I0 14 8) 15 (I0 15)) J0)]) (va_A [(om k0 a I0 J0)] sz)) 0 0 (va_A [(om k0 a I0 J0)] sz) := by
  refine Met.ofW (cc := cX11_undo) (maxL := 1) (ret := (some .int)) (by decide) rfl ?_
  intro p e s m args below meth c s₁ B hml hv
  obtain ⟨rfl, hsz, hP, hK, hD0, hXN⟩ := hv
  have hx := B.exec
  have hb := B.bytes
  have hr := B.returns
  have hts0 := atoms_spec (ws := .code yX11_undo cX11_undo 1 (some .int) :: ws0) B.pre
  have hts : ∀ w9 ∈ ws0, w9.before ([.ref k0] : List Value).toArray s = true := fun w9 h => hts0 w9 (List.mem_cons_of_mem _ h)
  have hown : s.vm.findClass "ScaleShopModel" = some m.cls := findClass_of_methodNamed B.named
  have hlocks := B.notSynchronized
  subst hsz
  have hD := hD0.self (sz := s.heap.size)
  clear hD0
  generalize hAe : va_A [(om k0 a I0 J0)] s.heap.size = A at hD ⊢
  have hA : ∀ q : Nat, s.heap.size ≤ q → A q := fun q h => by rw [← hAe]; exact Or.inr h
  clear hAe
  have hS : va_S A s.heap s.heap [] := va_S.rf
  have hP : va_P (dC, dI) classes [(om k0 a I0 J0)] s.heap := hP
  obtain ⟨Q9, hQ9⟩ : ∃ Q9 : State → Prop, Q9 = MQ below (zQ (some (.int (-1))) (fun t => va_P (dC, dI) classes [(om k0 a (upd (upd I0 14 8) 15 (I0 15)) J0)] t.heap ∧ va_D A [(om k0 a (upd (upd I0 14 8) 15 (I0 15)) J0)]) A) ([.ref k0] : List Value).toArray s 0 0 A := ⟨_, rfl⟩
  rw [← hQ9]
  have hl := lv_entry ([.ref k0]) (n := 1) (Nat.le_of_ble_eq_true rfl)
  rw [lg_entry_eq]
  generalize (lg_sl ([.ref k0]) ++ List.replicate (1 - (lg_sl ([.ref k0])).length) Slot.unset).toArray = ls at hl ⊢
  have hl : lv_has ls 1 [(0, .ref k0)] := hl
  refine lv_aload_n hx hb dX11_undo_0 rfl (lv_at hl 0 rfl) ?_
  refine va_get (D := (dC, dI)) (ci := 9) (v := .int (I0 19)) (C := RX11) (T := TX11) (N := 55) hx hb hts inX11 hown hK hP 0 rfl rfl 19 (by decide) (hts _ mw_1178) (fun _ h9 => h9) rfl dX11_undo_1 ?_
  refine zz_i (v := nI dn) (hdn) ?_
  refine lv_aload_n hx hb dX11_undo_4 rfl (lv_at hl 0 rfl) ?_
  refine va_get (D := (dC, dI)) (ci := 9) (v := .int (I0 21)) (C := RX11) (T := TX11) (N := 55) hx hb hts inX11 hown hK hP 0 rfl rfl 21 (by decide) (hts _ mw_1180) (fun _ h9 => h9) rfl dX11_undo_5 ?_
  refine zz_i (v := nI bs) (hbs) ?_
  refine lv_icmp_ne (tgt := 18) hx hb dX11_undo_8 (by decide) (fun c_1 => ?_) (fun c_1 => ?_)
  · have c_1 : ¬ ((dn : Nat) : Int) = ((bs : Nat) : Int) := zc_ne (nI_toInt (by omega)) (nI_toInt (by omega)) c_1
    exfalso; omega
  · have c_1 : ((dn : Nat) : Int) = ((bs : Nat) : Int) := zc_eq (nI_toInt (by omega)) (nI_toInt (by omega)) c_1
    refine lv_aload_n hx hb dX11_undo_11 rfl (lv_at hl 0 rfl) ?_
    refine lv_bipush (v := 8) hx hb dX11_undo_12 (by decide) ?_
    have hPc := hP.sub (ws' := [(om k0 a I0 J0)]) [0] rfl
    have hDc := hD.sub (ws' := [(om k0 a I0 J0)]) [0] (by decide) rfl
    have hFc := va_free (wc := [(om k0 a I0 J0)]) hD hS hA [0] rfl
    refine zcall (st1 := [.int (-1)]) (va_runV (As := [.int 8]) (rest := []) ⟨hx, hb, hml, hown, hts⟩ (k_M_refuse l dC dI cI cZ cF s.heap.size k0 a I0 J0 8 (by decide)) (cwV 1 hts (zz_gV mw_1329 mw_1331 mw_34 mw_110 mc_yX11_refuse) rfl rfl rfl (by decide +kernel) ⟨Nat.le_of_ble_eq_true rfl, Nat.le_of_ble_eq_true rfl⟩) (zPV2 (q0 := 0) (ci := 9) hPc hDc hK hXN rfl rfl) rfl rfl hl.1 rfl (lv_room (Nat.le_of_ble_eq_true rfl)) dX11_undo_14 ⟨Nat.le_of_ble_eq_true rfl, Nat.le_of_ble_eq_true rfl⟩) hS hFc hFc rfl (fun t H1 locs ht hB hk1 hS => ?_)
    obtain ⟨hP1, hD1⟩ := hB
    rw [ht] at hP1
    obtain ⟨hP, hD⟩ := va_join (wr := []) (w1 := [(om k0 a (upd (upd I0 14 8) 15 (I0 15)) J0)]) hP hD [0] [] rfl rfl (by decide) (by decide) hk1 hFc hP1 hD1
    clear hk1 hPc hDc hFc hP1 hD1 ht
    generalize H1 = H at hP hS ⊢
    have hP : va_P (dC, dI) classes [(om k0 a (upd (upd I0 14 8) 15 (I0 15)) J0)] H := hP
    have hD : va_D A [(om k0 a (upd (upd I0 14 8) 15 (I0 15)) J0)] := hD
    have hP9 := hP.sub (ws' := [(om k0 a (upd (upd I0 14 8) 15 (I0 15)) J0)]) [0] rfl
    have hD9 := hD.sub (ws' := [(om k0 a (upd (upd I0 14 8) 15 (I0 15)) J0)]) [0] (by decide) rfl
    rw [hQ9]
    exact W.iret (v := (-1)) hx hb hr (fun t ht hW => ⟨⟨rfl, by rw [ht]; exact hP9, hD9⟩, hS.F ht⟩) hS.2.2 dX11_undo_17
set_option maxHeartbeats 4000000 in
set_option maxRecDepth 100000 in
theorem k_M_redo_r (l : Launch) (dC : Nat → ClassId) (dI : Nat → Nat → Nat) (cI cZ cF : ClassId) (sz : Nat) (k0 : Nat) (a : Nat → Nat) (I0 : Nat → Int32) (J0 : Nat → Int64) (rd : Nat) (hrd : I0 20 = nI rd) (hr512 : rd ≤ 512) (heq : rd = 0) : Met l yX11_redo (.code yX11_redo cX11_redo 1 (some .int) :: ws0) ({ frames := 1, cells := 0, slots := 0, locals := 21 } : Room) (va_Pc [.ref k0] (zPre (dC, dI) classes (zTy cI cZ cF) [(om k0 a I0 J0)] sz zXN)) (zQ (some (.int (-1))) (fun t => va_P (dC, dI) classes [(om k0 a (upd (upd I0 14 8) 15 (I0 15)) J0)] t.heap ∧ va_D (va_A [(om k0 a I0 J0)] sz) [(om k0 a (upd (upd I0 14 8) 15 (I0 15)) J0)]) (va_A [(om k0 a I0 J0)] sz)) 0 0 (va_A [(om k0 a I0 J0)] sz) := by
  refine Met.ofW (cc := cX11_redo) (maxL := 1) (ret := (some .int)) (by decide) rfl ?_
  intro p e s m args below meth c s₁ B hml hv
  obtain ⟨rfl, hsz, hP, hK, hD0, hXN⟩ := hv
  have hx := B.exec
  have hb := B.bytes
  have hr := B.returns
  have hts0 := atoms_spec (ws := .code yX11_redo cX11_redo 1 (some .int) :: ws0) B.pre
  have hts : ∀ w9 ∈ ws0, w9.before ([.ref k0] : List Value).toArray s = true := fun w9 h => hts0 w9 (List.mem_cons_of_mem _ h)
  have hown : s.vm.findClass "ScaleShopModel" = some m.cls := findClass_of_methodNamed B.named
  have hlocks := B.notSynchronized
  subst hsz
  have hD := hD0.self (sz := s.heap.size)
  clear hD0
  generalize hAe : va_A [(om k0 a I0 J0)] s.heap.size = A at hD ⊢
  have hA : ∀ q : Nat, s.heap.size ≤ q → A q := fun q h => by rw [← hAe]; exact Or.inr h
  clear hAe
  have hS : va_S A s.heap s.heap [] := va_S.rf
  have hP : va_P (dC, dI) classes [(om k0 a I0 J0)] s.heap := hP
  obtain ⟨Q9, hQ9⟩ : ∃ Q9 : State → Prop, Q9 = MQ below (zQ (some (.int (-1))) (fun t => va_P (dC, dI) classes [(om k0 a (upd (upd I0 14 8) 15 (I0 15)) J0)] t.heap ∧ va_D A [(om k0 a (upd (upd I0 14 8) 15 (I0 15)) J0)]) A) ([.ref k0] : List Value).toArray s 0 0 A := ⟨_, rfl⟩
  rw [← hQ9]
  have hl := lv_entry ([.ref k0]) (n := 1) (Nat.le_of_ble_eq_true rfl)
  rw [lg_entry_eq]
  generalize (lg_sl ([.ref k0]) ++ List.replicate (1 - (lg_sl ([.ref k0])).length) Slot.unset).toArray = ls at hl ⊢
  have hl : lv_has ls 1 [(0, .ref k0)] := hl
  refine lv_aload_n hx hb dX11_redo_0 rfl (lv_at hl 0 rfl) ?_
  refine va_get (D := (dC, dI)) (ci := 9) (v := .int (I0 20)) (C := RX11) (T := TX11) (N := 55) hx hb hts inX11 hown hK hP 0 rfl rfl 20 (by decide) (hts _ mw_1179) (fun _ h9 => h9) rfl dX11_redo_1 ?_
  refine zz_i (v := nI rd) (hrd) ?_
  refine lv_if_ne (tgt := 14) hx hb dX11_redo_4 (by decide) (fun c_1 => ?_) (fun c_1 => ?_)
  · have c_1 : ¬ ((rd : Nat) : Int) = 0 := zc_ne (nI_toInt (by omega)) (by decide) c_1
    exfalso; omega
  · have c_1 : ((rd : Nat) : Int) = 0 := zc_eq (nI_toInt (by omega)) (by decide) c_1
    refine lv_aload_n hx hb dX11_redo_7 rfl (lv_at hl 0 rfl) ?_
    refine lv_bipush (v := 8) hx hb dX11_redo_8 (by decide) ?_
    have hPc := hP.sub (ws' := [(om k0 a I0 J0)]) [0] rfl
    have hDc := hD.sub (ws' := [(om k0 a I0 J0)]) [0] (by decide) rfl
    have hFc := va_free (wc := [(om k0 a I0 J0)]) hD hS hA [0] rfl
    refine zcall (st1 := [.int (-1)]) (va_runV (As := [.int 8]) (rest := []) ⟨hx, hb, hml, hown, hts⟩ (k_M_refuse l dC dI cI cZ cF s.heap.size k0 a I0 J0 8 (by decide)) (cwV 1 hts (zz_gV mw_1329 mw_1331 mw_34 mw_110 mc_yX11_refuse) rfl rfl rfl (by decide +kernel) ⟨Nat.le_of_ble_eq_true rfl, Nat.le_of_ble_eq_true rfl⟩) (zPV2 (q0 := 0) (ci := 9) hPc hDc hK hXN rfl rfl) rfl rfl hl.1 rfl (lv_room (Nat.le_of_ble_eq_true rfl)) dX11_redo_10 ⟨Nat.le_of_ble_eq_true rfl, Nat.le_of_ble_eq_true rfl⟩) hS hFc hFc rfl (fun t H1 locs ht hB hk1 hS => ?_)
    obtain ⟨hP1, hD1⟩ := hB
    rw [ht] at hP1
    obtain ⟨hP, hD⟩ := va_join (wr := []) (w1 := [(om k0 a (upd (upd I0 14 8) 15 (I0 15)) J0)]) hP hD [0] [] rfl rfl (by decide) (by decide) hk1 hFc hP1 hD1
    clear hk1 hPc hDc hFc hP1 hD1 ht
    generalize H1 = H at hP hS ⊢
    have hP : va_P (dC, dI) classes [(om k0 a (upd (upd I0 14 8) 15 (I0 15)) J0)] H := hP
    have hD : va_D A [(om k0 a (upd (upd I0 14 8) 15 (I0 15)) J0)] := hD
    have hP9 := hP.sub (ws' := [(om k0 a (upd (upd I0 14 8) 15 (I0 15)) J0)]) [0] rfl
    have hD9 := hD.sub (ws' := [(om k0 a (upd (upd I0 14 8) 15 (I0 15)) J0)]) [0] (by decide) rfl
    rw [hQ9]
    exact W.iret (v := (-1)) hx hb hr (fun t ht hW => ⟨⟨rfl, by rw [ht]; exact hP9, hD9⟩, hS.F ht⟩) hS.2.2 dX11_redo_13
set_option maxHeartbeats 4000000 in
set_option maxRecDepth 100000 in
theorem k_M_undo_ok (l : Launch) (dC : Nat → ClassId) (dI : Nat → Nat → Nat) (cI cZ cF : ClassId) (sz : Nat) (k0 : Nat) (a : Nat → Nat) (I0 : Nat → Int32) (J0 : Nat → Int64) (dn : Nat) (bs : Nat) (rd : Nat) (ft1 : Nat) (w0 : Nat) (cp : Nat) (nn : Nat → Nat) (D : Nat → Nat → Int32) (kd : Nat → Int32) (st : Nat → Int32) (gb : Nat → Int32) (it : Nat → Int32) (pa : Nat → Int32) (pb : Nat → Int32) (rk : Nat → Int32) (wd : Nat → Int32) (tw : Nat → Int32) (tn : Nat → Int32) (mn : Nat → Int32) (cx : Nat → Int32) (cy : Nat → Int32) (sa : Nat → Int32) (sh : Nat → Int32) (hdn : I0 19 = nI dn) (hbs : I0 21 = nI bs) (hbd : bs ≤ dn) (hd512 : dn ≤ 512) (hrd : I0 20 = nI rd) (hr512 : rd ≤ 512) (hlt : bs < dn) (hi5 : (dn - 1 - bs) < 516) (hsa : sa (dn - 1 - bs) = nI w0) (hft1 : sh w0 = nI ft1) (h200 : ft1 ≤ 200) (hblk : ∀ g, g < ft1 → ∀ j, j < 10 + 2 * nn g → sh (psN nn w0 g + j) = D g j) (h9 : ∀ g, g < ft1 → D g 9 = nI (nn g)) (hn40 : ∀ g, g < ft1 → nn g ≤ 40) (hfit : psN nn w0 ft1 ≤ 4096 * cp) (hcm : cp ≤ 512) : Met l yX11_undo (.code yX11_undo cX11_undo 1 (some .int) :: ws0) ({ frames := 2, cells := 0, slots := 0, locals := 44 } : Room) (va_Pc [.ref k0] (zPre (dC, dI) classes (zTy cI cZ cF) [(om k0 a I0 J0), (oa (a 1) cI 201 kd), (oa (a 5) cI 201 st), (oa (a 7) cI 201 gb), (oa (a 10) cI 201 it), (oa (a 8) cI 201 pa), (oa (a 9) cI 201 pb), (oa (a 2) cI 201 rk), (oa (a 3) cI 201 wd), (oa (a 4) cI 201 tw), (oa (a 6) cZ 201 tn), (oa (a 11) cI 201 mn), (oa (a 12) cI 8040 cx), (oa (a 13) cI 8040 cy), (oa (a 27) cI 516 sa), (oa (a 28) cI (4096 * cp) sh)] sz zXN)) (zQ (some (.int (nI (dn - 1 + 1)))) (fun t => va_P (dC, dI) classes [(om k0 a (upd (upd (upd (upd (upd I0 0 (nI ft1)) 14 0) 19 (nI (dn - 1))) 20 (nI (rd + 1))) 42 (nI (psN nn w0 ft1))) J0), (oa (a 1) cI 201 (rsA ft1 (fun g => D g 0) kd)), (oa (a 5) cI 201 (rsA ft1 (fun g => D g 1) st)), (oa (a 7) cI 201 (rsA ft1 (fun g => D g 2) gb)), (oa (a 10) cI 201 (rsA ft1 (fun g => D g 3) it)), (oa (a 8) cI 201 (rsA ft1 (fun g => D g 4) pa)), (oa (a 9) cI 201 (rsA ft1 (fun g => D g 5) pb)), (oa (a 2) cI 201 (rsA ft1 (fun g => D g 6) rk)), (oa (a 3) cI 201 (rsA ft1 (fun g => D g 7) wd)), (oa (a 4) cI 201 (rsA ft1 (fun g => D g 8) tw)), (oa (a 6) cZ 201 tn), (oa (a 11) cI 201 (rsM ft1 D nn tn mn)), (oa (a 12) cI 8040 (rsC ft1 0 D nn 10 cx)), (oa (a 13) cI 8040 (rsC ft1 0 D nn 11 cy)), (oa (a 27) cI 516 sa), (oa (a 28) cI (4096 * cp) sh)] t.heap ∧ va_D (va_A [(om k0 a I0 J0), (oa (a 1) cI 201 kd), (oa (a 5) cI 201 st), (oa (a 7) cI 201 gb), (oa (a 10) cI 201 it), (oa (a 8) cI 201 pa), (oa (a 9) cI 201 pb), (oa (a 2) cI 201 rk), (oa (a 3) cI 201 wd), (oa (a 4) cI 201 tw), (oa (a 6) cZ 201 tn), (oa (a 11) cI 201 mn), (oa (a 12) cI 8040 cx), (oa (a 13) cI 8040 cy), (oa (a 27) cI 516 sa), (oa (a 28) cI (4096 * cp) sh)] sz) [(om k0 a (upd (upd (upd (upd (upd I0 0 (nI ft1)) 14 0) 19 (nI (dn - 1))) 20 (nI (rd + 1))) 42 (nI (psN nn w0 ft1))) J0), (oa (a 1) cI 201 (rsA ft1 (fun g => D g 0) kd)), (oa (a 5) cI 201 (rsA ft1 (fun g => D g 1) st)), (oa (a 7) cI 201 (rsA ft1 (fun g => D g 2) gb)), (oa (a 10) cI 201 (rsA ft1 (fun g => D g 3) it)), (oa (a 8) cI 201 (rsA ft1 (fun g => D g 4) pa)), (oa (a 9) cI 201 (rsA ft1 (fun g => D g 5) pb)), (oa (a 2) cI 201 (rsA ft1 (fun g => D g 6) rk)), (oa (a 3) cI 201 (rsA ft1 (fun g => D g 7) wd)), (oa (a 4) cI 201 (rsA ft1 (fun g => D g 8) tw)), (oa (a 6) cZ 201 tn), (oa (a 11) cI 201 (rsM ft1 D nn tn mn)), (oa (a 12) cI 8040 (rsC ft1 0 D nn 10 cx)), (oa (a 13) cI 8040 (rsC ft1 0 D nn 11 cy)), (oa (a 27) cI 516 sa), (oa (a 28) cI (4096 * cp) sh)]) (va_A [(om k0 a I0 J0), (oa (a 1) cI 201 kd), (oa (a 5) cI 201 st), (oa (a 7) cI 201 gb), (oa (a 10) cI 201 it), (oa (a 8) cI 201 pa), (oa (a 9) cI 201 pb), (oa (a 2) cI 201 rk), (oa (a 3) cI 201 wd), (oa (a 4) cI 201 tw), (oa (a 6) cZ 201 tn), (oa (a 11) cI 201 mn), (oa (a 12) cI 8040 cx), (oa (a 13) cI 8040 cy), (oa (a 27) cI 516 sa), (oa (a 28) cI (4096 * cp) sh)] sz)) 0 0 (va_A [(om k0 a I0 J0), (oa (a 1) cI 201 kd), (oa (a 5) cI 201 st), (oa (a 7) cI 201 gb), (oa (a 10) cI 201 it), (oa (a 8) cI 201 pa), (oa (a 9) cI 201 pb), (oa (a 2) cI 201 rk), (oa (a 3) cI 201 wd), (oa (a 4) cI 201 tw), (oa (a 6) cZ 201 tn), (oa (a 11) cI 201 mn), (oa (a 12) cI 8040 cx), (oa (a 13) cI 8040 cy), (oa (a 27) cI 516 sa), (oa (a 28) cI (4096 * cp) sh)] sz) := by
  refine Met.ofW (cc := cX11_undo) (maxL := 1) (ret := (some .int)) (by decide) rfl ?_
  intro p e s m args below meth c s₁ B hml hv
  obtain ⟨rfl, hsz, hP, hK, hD0, hXN⟩ := hv
  have hx := B.exec
  have hb := B.bytes
  have hr := B.returns
  have hts0 := atoms_spec (ws := .code yX11_undo cX11_undo 1 (some .int) :: ws0) B.pre
  have hts : ∀ w9 ∈ ws0, w9.before ([.ref k0] : List Value).toArray s = true := fun w9 h => hts0 w9 (List.mem_cons_of_mem _ h)
  have hown : s.vm.findClass "ScaleShopModel" = some m.cls := findClass_of_methodNamed B.named
  have hlocks := B.notSynchronized
  subst hsz
  have hD := hD0.self (sz := s.heap.size)
  clear hD0
  generalize hAe : va_A [(om k0 a I0 J0), (oa (a 1) cI 201 kd), (oa (a 5) cI 201 st), (oa (a 7) cI 201 gb), (oa (a 10) cI 201 it), (oa (a 8) cI 201 pa), (oa (a 9) cI 201 pb), (oa (a 2) cI 201 rk), (oa (a 3) cI 201 wd), (oa (a 4) cI 201 tw), (oa (a 6) cZ 201 tn), (oa (a 11) cI 201 mn), (oa (a 12) cI 8040 cx), (oa (a 13) cI 8040 cy), (oa (a 27) cI 516 sa), (oa (a 28) cI (4096 * cp) sh)] s.heap.size = A at hD ⊢
  have hA : ∀ q : Nat, s.heap.size ≤ q → A q := fun q h => by rw [← hAe]; exact Or.inr h
  clear hAe
  have hS : va_S A s.heap s.heap [] := va_S.rf
  have hP : va_P (dC, dI) classes [(om k0 a I0 J0), (oa (a 1) cI 201 kd), (oa (a 5) cI 201 st), (oa (a 7) cI 201 gb), (oa (a 10) cI 201 it), (oa (a 8) cI 201 pa), (oa (a 9) cI 201 pb), (oa (a 2) cI 201 rk), (oa (a 3) cI 201 wd), (oa (a 4) cI 201 tw), (oa (a 6) cZ 201 tn), (oa (a 11) cI 201 mn), (oa (a 12) cI 8040 cx), (oa (a 13) cI 8040 cy), (oa (a 27) cI 516 sa), (oa (a 28) cI (4096 * cp) sh)] s.heap := hP
  obtain ⟨Q9, hQ9⟩ : ∃ Q9 : State → Prop, Q9 = MQ below (zQ (some (.int (nI (dn - 1 + 1)))) (fun t => va_P (dC, dI) classes [(om k0 a (upd (upd (upd (upd (upd I0 0 (nI ft1)) 14 0) 19 (nI (dn - 1))) 20 (nI (rd + 1))) 42 (nI (psN nn w0 ft1))) J0), (oa (a 1) cI 201 (rsA ft1 (fun g => D g 0) kd)), (oa (a 5) cI 201 (rsA ft1 (fun g => D g 1) st)), (oa (a 7) cI 201 (rsA ft1 (fun g => D g 2) gb)), (oa (a 10) cI 201 (rsA ft1 (fun g => D g 3) it)), (oa (a 8) cI 201 (rsA ft1 (fun g => D g 4) pa)), (oa (a 9) cI 201 (rsA ft1 (fun g => D g 5) pb)), (oa (a 2) cI 201 (rsA ft1 (fun g => D g 6) rk)), (oa (a 3) cI 201 (rsA ft1 (fun g => D g 7) wd)), (oa (a 4) cI 201 (rsA ft1 (fun g => D g 8) tw)), (oa (a 6) cZ 201 tn), (oa (a 11) cI 201 (rsM ft1 D nn tn mn)), (oa (a 12) cI 8040 (rsC ft1 0 D nn 10 cx)), (oa (a 13) cI 8040 (rsC ft1 0 D nn 11 cy)), (oa (a 27) cI 516 sa), (oa (a 28) cI (4096 * cp) sh)] t.heap ∧ va_D A [(om k0 a (upd (upd (upd (upd (upd I0 0 (nI ft1)) 14 0) 19 (nI (dn - 1))) 20 (nI (rd + 1))) 42 (nI (psN nn w0 ft1))) J0), (oa (a 1) cI 201 (rsA ft1 (fun g => D g 0) kd)), (oa (a 5) cI 201 (rsA ft1 (fun g => D g 1) st)), (oa (a 7) cI 201 (rsA ft1 (fun g => D g 2) gb)), (oa (a 10) cI 201 (rsA ft1 (fun g => D g 3) it)), (oa (a 8) cI 201 (rsA ft1 (fun g => D g 4) pa)), (oa (a 9) cI 201 (rsA ft1 (fun g => D g 5) pb)), (oa (a 2) cI 201 (rsA ft1 (fun g => D g 6) rk)), (oa (a 3) cI 201 (rsA ft1 (fun g => D g 7) wd)), (oa (a 4) cI 201 (rsA ft1 (fun g => D g 8) tw)), (oa (a 6) cZ 201 tn), (oa (a 11) cI 201 (rsM ft1 D nn tn mn)), (oa (a 12) cI 8040 (rsC ft1 0 D nn 10 cx)), (oa (a 13) cI 8040 (rsC ft1 0 D nn 11 cy)), (oa (a 27) cI 516 sa), (oa (a 28) cI (4096 * cp) sh)]) A) ([.ref k0] : List Value).toArray s 0 0 A := ⟨_, rfl⟩
  rw [← hQ9]
  have hl := lv_entry ([.ref k0]) (n := 1) (Nat.le_of_ble_eq_true rfl)
  rw [lg_entry_eq]
  generalize (lg_sl ([.ref k0]) ++ List.replicate (1 - (lg_sl ([.ref k0])).length) Slot.unset).toArray = ls at hl ⊢
  have hl : lv_has ls 1 [(0, .ref k0)] := hl
  refine lv_aload_n hx hb dX11_undo_0 rfl (lv_at hl 0 rfl) ?_
  refine va_get (D := (dC, dI)) (ci := 9) (v := .int (I0 19)) (C := RX11) (T := TX11) (N := 55) hx hb hts inX11 hown hK hP 0 rfl rfl 19 (by decide) (hts _ mw_1178) (fun _ h9 => h9) rfl dX11_undo_1 ?_
  refine zz_i (v := nI dn) (hdn) ?_
  refine lv_aload_n hx hb dX11_undo_4 rfl (lv_at hl 0 rfl) ?_
  refine va_get (D := (dC, dI)) (ci := 9) (v := .int (I0 21)) (C := RX11) (T := TX11) (N := 55) hx hb hts inX11 hown hK hP 0 rfl rfl 21 (by decide) (hts _ mw_1180) (fun _ h9 => h9) rfl dX11_undo_5 ?_
  refine zz_i (v := nI bs) (hbs) ?_
  refine lv_icmp_ne (tgt := 18) hx hb dX11_undo_8 (by decide) (fun c_1 => ?_) (fun c_1 => ?_)
  · have c_1 : ¬ ((dn : Nat) : Int) = ((bs : Nat) : Int) := zc_ne (nI_toInt (by omega)) (nI_toInt (by omega)) c_1
    refine lv_aload_n hx hb dX11_undo_18 rfl (lv_at hl 0 rfl) ?_
    refine lv_dup hx hb dX11_undo_19 rfl ?_
    refine va_get (D := (dC, dI)) (ci := 9) (v := .int (I0 19)) (C := RX11) (T := TX11) (N := 55) hx hb hts inX11 hown hK hP 0 rfl rfl 19 (by decide) (hts _ mw_1178) (fun _ h9 => h9) rfl dX11_undo_20 ?_
    refine zz_i (v := nI dn) (hdn) ?_
    refine lv_iconst (v := 1) hx hb dX11_undo_23 (by decide) ?_
    refine lv_isub hx hb dX11_undo_24 ?_
    refine zz_i (v := nI (dn - 1)) (pk_sub (a := dn) (b := 1) (by omega)) ?_
    refine va_put (D := (dC, dI)) (ci := 9) (v := .int (nI (dn - 1))) (ty := .int) (C := RX11) (T := TX11) (N := 55) hx hb hts inX11 tyX11 tyX11_ok nmX11 hown hK hP hD hS 0 rfl rfl 19 (by decide) (hts _ mw_1178) (fun _ h9 => h9) rfl (by decide +kernel) rfl rfl (Nat.le_of_ble_eq_true rfl) dX11_undo_25 (fun H locs hP hD hS => ?_)
    have hP : va_P (dC, dI) classes [(om k0 a (upd I0 19 (nI (dn - 1))) J0), (oa (a 1) cI 201 kd), (oa (a 5) cI 201 st), (oa (a 7) cI 201 gb), (oa (a 10) cI 201 it), (oa (a 8) cI 201 pa), (oa (a 9) cI 201 pb), (oa (a 2) cI 201 rk), (oa (a 3) cI 201 wd), (oa (a 4) cI 201 tw), (oa (a 6) cZ 201 tn), (oa (a 11) cI 201 mn), (oa (a 12) cI 8040 cx), (oa (a 13) cI 8040 cy), (oa (a 27) cI 516 sa), (oa (a 28) cI (4096 * cp) sh)] H := hP
    have hD : va_D A [(om k0 a (upd I0 19 (nI (dn - 1))) J0), (oa (a 1) cI 201 kd), (oa (a 5) cI 201 st), (oa (a 7) cI 201 gb), (oa (a 10) cI 201 it), (oa (a 8) cI 201 pa), (oa (a 9) cI 201 pb), (oa (a 2) cI 201 rk), (oa (a 3) cI 201 wd), (oa (a 4) cI 201 tw), (oa (a 6) cZ 201 tn), (oa (a 11) cI 201 mn), (oa (a 12) cI 8040 cx), (oa (a 13) cI 8040 cy), (oa (a 27) cI 516 sa), (oa (a 28) cI (4096 * cp) sh)] := hD
    refine lv_aload_n hx hb dX11_undo_28 rfl (lv_at hl 0 rfl) ?_
    refine lv_dup hx hb dX11_undo_29 rfl ?_
    refine va_get (D := (dC, dI)) (ci := 9) (v := .int (I0 20)) (C := RX11) (T := TX11) (N := 55) hx hb hts inX11 hown hK hP 0 rfl rfl 20 (by decide) (hts _ mw_1179) (fun _ h9 => h9) rfl dX11_undo_30 ?_
    refine zz_i (v := nI rd) (hrd) ?_
    refine lv_iconst (v := 1) hx hb dX11_undo_33 (by decide) ?_
    refine lv_iadd hx hb dX11_undo_34 ?_
    refine zz_i (v := nI (rd + 1)) (nI_add rd 1) ?_
    refine va_put (D := (dC, dI)) (ci := 9) (v := .int (nI (rd + 1))) (ty := .int) (C := RX11) (T := TX11) (N := 55) hx hb hts inX11 tyX11 tyX11_ok nmX11 hown hK hP hD hS 0 rfl rfl 20 (by decide) (hts _ mw_1179) (fun _ h9 => h9) rfl (by decide +kernel) rfl rfl (Nat.le_of_ble_eq_true rfl) dX11_undo_35 (fun H locs hP hD hS => ?_)
    have hP : va_P (dC, dI) classes [(om k0 a (upd (upd I0 19 (nI (dn - 1))) 20 (nI (rd + 1))) J0), (oa (a 1) cI 201 kd), (oa (a 5) cI 201 st), (oa (a 7) cI 201 gb), (oa (a 10) cI 201 it), (oa (a 8) cI 201 pa), (oa (a 9) cI 201 pb), (oa (a 2) cI 201 rk), (oa (a 3) cI 201 wd), (oa (a 4) cI 201 tw), (oa (a 6) cZ 201 tn), (oa (a 11) cI 201 mn), (oa (a 12) cI 8040 cx), (oa (a 13) cI 8040 cy), (oa (a 27) cI 516 sa), (oa (a 28) cI (4096 * cp) sh)] H := hP
    have hD : va_D A [(om k0 a (upd (upd I0 19 (nI (dn - 1))) 20 (nI (rd + 1))) J0), (oa (a 1) cI 201 kd), (oa (a 5) cI 201 st), (oa (a 7) cI 201 gb), (oa (a 10) cI 201 it), (oa (a 8) cI 201 pa), (oa (a 9) cI 201 pb), (oa (a 2) cI 201 rk), (oa (a 3) cI 201 wd), (oa (a 4) cI 201 tw), (oa (a 6) cZ 201 tn), (oa (a 11) cI 201 mn), (oa (a 12) cI 8040 cx), (oa (a 13) cI 8040 cy), (oa (a 27) cI 516 sa), (oa (a 28) cI (4096 * cp) sh)] := hD
    refine lv_aload_n hx hb dX11_undo_38 rfl (lv_at hl 0 rfl) ?_
    refine lv_aload_n hx hb dX11_undo_39 rfl (lv_at hl 0 rfl) ?_
    refine va_get (D := (dC, dI)) (ci := 9) (v := .int (nI (dn - 1))) (C := RX11) (T := TX11) (N := 55) hx hb hts inX11 hown hK hP 0 rfl rfl 19 (by decide) (hts _ mw_1178) (fun _ h9 => h9) rfl dX11_undo_40 ?_
    refine lv_aload_n hx hb dX11_undo_43 rfl (lv_at hl 0 rfl) ?_
    refine va_get (D := (dC, dI)) (ci := 9) (v := .int (I0 21)) (C := RX11) (T := TX11) (N := 55) hx hb hts inX11 hown hK hP 0 rfl rfl 21 (by decide) (hts _ mw_1180) (fun _ h9 => h9) rfl dX11_undo_44 ?_
    refine zz_i (v := nI bs) (hbs) ?_
    refine lv_isub hx hb dX11_undo_47 ?_
    refine zz_i (v := nI ((dn - 1) - bs)) (pk_sub (a := dn - 1) (b := bs) (by omega)) ?_
    have hPc := hP.sub (ws' := [(om k0 a (upd (upd I0 19 (nI (dn - 1))) 20 (nI (rd + 1))) J0), (oa (a 1) cI 201 kd), (oa (a 5) cI 201 st), (oa (a 7) cI 201 gb), (oa (a 10) cI 201 it), (oa (a 8) cI 201 pa), (oa (a 9) cI 201 pb), (oa (a 2) cI 201 rk), (oa (a 3) cI 201 wd), (oa (a 4) cI 201 tw), (oa (a 6) cZ 201 tn), (oa (a 11) cI 201 mn), (oa (a 12) cI 8040 cx), (oa (a 13) cI 8040 cy), (oa (a 27) cI 516 sa), (oa (a 28) cI (4096 * cp) sh)]) [0, 1, 2, 3, 4, 5, 6, 7, 8, 9, 10, 11, 12, 13, 14, 15] rfl
    have hDc := hD.sub (ws' := [(om k0 a (upd (upd I0 19 (nI (dn - 1))) 20 (nI (rd + 1))) J0), (oa (a 1) cI 201 kd), (oa (a 5) cI 201 st), (oa (a 7) cI 201 gb), (oa (a 10) cI 201 it), (oa (a 8) cI 201 pa), (oa (a 9) cI 201 pb), (oa (a 2) cI 201 rk), (oa (a 3) cI 201 wd), (oa (a 4) cI 201 tw), (oa (a 6) cZ 201 tn), (oa (a 11) cI 201 mn), (oa (a 12) cI 8040 cx), (oa (a 13) cI 8040 cy), (oa (a 27) cI 516 sa), (oa (a 28) cI (4096 * cp) sh)]) [0, 1, 2, 3, 4, 5, 6, 7, 8, 9, 10, 11, 12, 13, 14, 15] (by decide) rfl
    have hFc := va_free (wc := [(om k0 a (upd (upd I0 19 (nI (dn - 1))) 20 (nI (rd + 1))) J0), (oa (a 1) cI 201 kd), (oa (a 5) cI 201 st), (oa (a 7) cI 201 gb), (oa (a 10) cI 201 it), (oa (a 8) cI 201 pa), (oa (a 9) cI 201 pb), (oa (a 2) cI 201 rk), (oa (a 3) cI 201 wd), (oa (a 4) cI 201 tw), (oa (a 6) cZ 201 tn), (oa (a 11) cI 201 mn), (oa (a 12) cI 8040 cx), (oa (a 13) cI 8040 cy), (oa (a 27) cI 516 sa), (oa (a 28) cI (4096 * cp) sh)]) hD hS hA [0, 1, 2, 3, 4, 5, 6, 7, 8, 9, 10, 11, 12, 13, 14, 15] rfl
    refine zcall (st1 := []) (va_runV (As := [.int (nI ((dn - 1) - bs))]) (rest := []) ⟨hx, hb, hml, hown, hts⟩ (k_M_restore l dC dI cI cZ cF H.size k0 a (upd (upd I0 19 (nI (dn - 1))) 20 (nI (rd + 1))) J0 ((dn - 1) - bs) ft1 w0 cp nn D kd st gb it pa pb rk wd tw tn mn cx cy sa sh (by omega) (by assumption) (by assumption) (by omega) (by assumption) (by assumption) (by assumption) (by assumption) (by omega)) (cwV 1 hts (zz_gV mw_1649 mw_1651 mw_95 mw_110 mc_yX11_restore) rfl rfl rfl (by decide +kernel) ⟨Nat.le_of_ble_eq_true rfl, Nat.le_of_ble_eq_true rfl⟩) (zPV2 (q0 := 0) (ci := 9) hPc hDc hK hXN rfl rfl) rfl rfl hl.1 rfl (lv_room (Nat.le_of_ble_eq_true rfl)) dX11_undo_48 ⟨Nat.le_of_ble_eq_true rfl, Nat.le_of_ble_eq_true rfl⟩) hS hFc hFc rfl (fun t H1 locs ht hB hk1 hS => ?_)
    obtain ⟨hP1, hD1⟩ := hB
    rw [ht] at hP1
    obtain ⟨hP, hD⟩ := va_join (wr := []) (w1 := [(om k0 a (upd (upd (upd (upd I0 0 (nI ft1)) 19 (nI (dn - 1))) 20 (nI (rd + 1))) 42 (nI (psN nn w0 ft1))) J0), (oa (a 1) cI 201 (rsA ft1 (fun g => D g 0) kd)), (oa (a 5) cI 201 (rsA ft1 (fun g => D g 1) st)), (oa (a 7) cI 201 (rsA ft1 (fun g => D g 2) gb)), (oa (a 10) cI 201 (rsA ft1 (fun g => D g 3) it)), (oa (a 8) cI 201 (rsA ft1 (fun g => D g 4) pa)), (oa (a 9) cI 201 (rsA ft1 (fun g => D g 5) pb)), (oa (a 2) cI 201 (rsA ft1 (fun g => D g 6) rk)), (oa (a 3) cI 201 (rsA ft1 (fun g => D g 7) wd)), (oa (a 4) cI 201 (rsA ft1 (fun g => D g 8) tw)), (oa (a 6) cZ 201 tn), (oa (a 11) cI 201 (rsM ft1 D nn tn mn)), (oa (a 12) cI 8040 (rsC ft1 0 D nn 10 cx)), (oa (a 13) cI 8040 (rsC ft1 0 D nn 11 cy)), (oa (a 27) cI 516 sa), (oa (a 28) cI (4096 * cp) sh)]) hP hD [0, 1, 2, 3, 4, 5, 6, 7, 8, 9, 10, 11, 12, 13, 14, 15] [] rfl rfl (by decide) (by decide) hk1 hFc hP1 hD1
    clear hk1 hPc hDc hFc hP1 hD1 ht
    generalize H1 = H at hP hS ⊢
    have hP : va_P (dC, dI) classes [(om k0 a (upd (upd (upd (upd I0 0 (nI ft1)) 19 (nI (dn - 1))) 20 (nI (rd + 1))) 42 (nI (psN nn w0 ft1))) J0), (oa (a 1) cI 201 (rsA ft1 (fun g => D g 0) kd)), (oa (a 5) cI 201 (rsA ft1 (fun g => D g 1) st)), (oa (a 7) cI 201 (rsA ft1 (fun g => D g 2) gb)), (oa (a 10) cI 201 (rsA ft1 (fun g => D g 3) it)), (oa (a 8) cI 201 (rsA ft1 (fun g => D g 4) pa)), (oa (a 9) cI 201 (rsA ft1 (fun g => D g 5) pb)), (oa (a 2) cI 201 (rsA ft1 (fun g => D g 6) rk)), (oa (a 3) cI 201 (rsA ft1 (fun g => D g 7) wd)), (oa (a 4) cI 201 (rsA ft1 (fun g => D g 8) tw)), (oa (a 6) cZ 201 tn), (oa (a 11) cI 201 (rsM ft1 D nn tn mn)), (oa (a 12) cI 8040 (rsC ft1 0 D nn 10 cx)), (oa (a 13) cI 8040 (rsC ft1 0 D nn 11 cy)), (oa (a 27) cI 516 sa), (oa (a 28) cI (4096 * cp) sh)] H := hP
    have hD : va_D A [(om k0 a (upd (upd (upd (upd I0 0 (nI ft1)) 19 (nI (dn - 1))) 20 (nI (rd + 1))) 42 (nI (psN nn w0 ft1))) J0), (oa (a 1) cI 201 (rsA ft1 (fun g => D g 0) kd)), (oa (a 5) cI 201 (rsA ft1 (fun g => D g 1) st)), (oa (a 7) cI 201 (rsA ft1 (fun g => D g 2) gb)), (oa (a 10) cI 201 (rsA ft1 (fun g => D g 3) it)), (oa (a 8) cI 201 (rsA ft1 (fun g => D g 4) pa)), (oa (a 9) cI 201 (rsA ft1 (fun g => D g 5) pb)), (oa (a 2) cI 201 (rsA ft1 (fun g => D g 6) rk)), (oa (a 3) cI 201 (rsA ft1 (fun g => D g 7) wd)), (oa (a 4) cI 201 (rsA ft1 (fun g => D g 8) tw)), (oa (a 6) cZ 201 tn), (oa (a 11) cI 201 (rsM ft1 D nn tn mn)), (oa (a 12) cI 8040 (rsC ft1 0 D nn 10 cx)), (oa (a 13) cI 8040 (rsC ft1 0 D nn 11 cy)), (oa (a 27) cI 516 sa), (oa (a 28) cI (4096 * cp) sh)] := hD
    refine lv_aload_n hx hb dX11_undo_51 rfl (lv_at hl 0 rfl) ?_
    refine lv_iconst (v := 0) hx hb dX11_undo_52 (by decide) ?_
    refine va_put (D := (dC, dI)) (ci := 9) (v := .int 0) (ty := .int) (C := RX11) (T := TX11) (N := 55) hx hb hts inX11 tyX11 tyX11_ok nmX11 hown hK hP hD hS 0 rfl rfl 14 (by decide) (hts _ mw_1173) (fun _ h9 => h9) rfl (by decide +kernel) rfl rfl (Nat.le_of_ble_eq_true rfl) dX11_undo_53 (fun H locs hP hD hS => ?_)
    have hP : va_P (dC, dI) classes [(om k0 a (upd (upd (upd (upd (upd I0 0 (nI ft1)) 14 0) 19 (nI (dn - 1))) 20 (nI (rd + 1))) 42 (nI (psN nn w0 ft1))) J0), (oa (a 1) cI 201 (rsA ft1 (fun g => D g 0) kd)), (oa (a 5) cI 201 (rsA ft1 (fun g => D g 1) st)), (oa (a 7) cI 201 (rsA ft1 (fun g => D g 2) gb)), (oa (a 10) cI 201 (rsA ft1 (fun g => D g 3) it)), (oa (a 8) cI 201 (rsA ft1 (fun g => D g 4) pa)), (oa (a 9) cI 201 (rsA ft1 (fun g => D g 5) pb)), (oa (a 2) cI 201 (rsA ft1 (fun g => D g 6) rk)), (oa (a 3) cI 201 (rsA ft1 (fun g => D g 7) wd)), (oa (a 4) cI 201 (rsA ft1 (fun g => D g 8) tw)), (oa (a 6) cZ 201 tn), (oa (a 11) cI 201 (rsM ft1 D nn tn mn)), (oa (a 12) cI 8040 (rsC ft1 0 D nn 10 cx)), (oa (a 13) cI 8040 (rsC ft1 0 D nn 11 cy)), (oa (a 27) cI 516 sa), (oa (a 28) cI (4096 * cp) sh)] H := hP
    have hD : va_D A [(om k0 a (upd (upd (upd (upd (upd I0 0 (nI ft1)) 14 0) 19 (nI (dn - 1))) 20 (nI (rd + 1))) 42 (nI (psN nn w0 ft1))) J0), (oa (a 1) cI 201 (rsA ft1 (fun g => D g 0) kd)), (oa (a 5) cI 201 (rsA ft1 (fun g => D g 1) st)), (oa (a 7) cI 201 (rsA ft1 (fun g => D g 2) gb)), (oa (a 10) cI 201 (rsA ft1 (fun g => D g 3) it)), (oa (a 8) cI 201 (rsA ft1 (fun g => D g 4) pa)), (oa (a 9) cI 201 (rsA ft1 (fun g => D g 5) pb)), (oa (a 2) cI 201 (rsA ft1 (fun g => D g 6) rk)), (oa (a 3) cI 201 (rsA ft1 (fun g => D g 7) wd)), (oa (a 4) cI 201 (rsA ft1 (fun g => D g 8) tw)), (oa (a 6) cZ 201 tn), (oa (a 11) cI 201 (rsM ft1 D nn tn mn)), (oa (a 12) cI 8040 (rsC ft1 0 D nn 10 cx)), (oa (a 13) cI 8040 (rsC ft1 0 D nn 11 cy)), (oa (a 27) cI 516 sa), (oa (a 28) cI (4096 * cp) sh)] := hD
    refine lv_aload_n hx hb dX11_undo_56 rfl (lv_at hl 0 rfl) ?_
    refine va_get (D := (dC, dI)) (ci := 9) (v := .int (nI (dn - 1))) (C := RX11) (T := TX11) (N := 55) hx hb hts inX11 hown hK hP 0 rfl rfl 19 (by decide) (hts _ mw_1178) (fun _ h9 => h9) rfl dX11_undo_57 ?_
    refine lv_iconst (v := 1) hx hb dX11_undo_60 (by decide) ?_
    refine lv_iadd hx hb dX11_undo_61 ?_
    refine zz_i (v := nI ((dn - 1) + 1)) (nI_add (dn - 1) 1) ?_
    have hP9 := hP.sub (ws' := [(om k0 a (upd (upd (upd (upd (upd I0 0 (nI ft1)) 14 0) 19 (nI (dn - 1))) 20 (nI (rd + 1))) 42 (nI (psN nn w0 ft1))) J0), (oa (a 1) cI 201 (rsA ft1 (fun g => D g 0) kd)), (oa (a 5) cI 201 (rsA ft1 (fun g => D g 1) st)), (oa (a 7) cI 201 (rsA ft1 (fun g => D g 2) gb)), (oa (a 10) cI 201 (rsA ft1 (fun g => D g 3) it)), (oa (a 8) cI 201 (rsA ft1 (fun g => D g 4) pa)), (oa (a 9) cI 201 (rsA ft1 (fun g => D g 5) pb)), (oa (a 2) cI 201 (rsA ft1 (fun g => D g 6) rk)), (oa (a 3) cI 201 (rsA ft1 (fun g => D g 7) wd)), (oa (a 4) cI 201 (rsA ft1 (fun g => D g 8) tw)), (oa (a 6) cZ 201 tn), (oa (a 11) cI 201 (rsM ft1 D nn tn mn)), (oa (a 12) cI 8040 (rsC ft1 0 D nn 10 cx)), (oa (a 13) cI 8040 (rsC ft1 0 D nn 11 cy)), (oa (a 27) cI 516 sa), (oa (a 28) cI (4096 * cp) sh)]) [0, 1, 2, 3, 4, 5, 6, 7, 8, 9, 10, 11, 12, 13, 14, 15] rfl
    have hD9 := hD.sub (ws' := [(om k0 a (upd (upd (upd (upd (upd I0 0 (nI ft1)) 14 0) 19 (nI (dn - 1))) 20 (nI (rd + 1))) 42 (nI (psN nn w0 ft1))) J0), (oa (a 1) cI 201 (rsA ft1 (fun g => D g 0) kd)), (oa (a 5) cI 201 (rsA ft1 (fun g => D g 1) st)), (oa (a 7) cI 201 (rsA ft1 (fun g => D g 2) gb)), (oa (a 10) cI 201 (rsA ft1 (fun g => D g 3) it)), (oa (a 8) cI 201 (rsA ft1 (fun g => D g 4) pa)), (oa (a 9) cI 201 (rsA ft1 (fun g => D g 5) pb)), (oa (a 2) cI 201 (rsA ft1 (fun g => D g 6) rk)), (oa (a 3) cI 201 (rsA ft1 (fun g => D g 7) wd)), (oa (a 4) cI 201 (rsA ft1 (fun g => D g 8) tw)), (oa (a 6) cZ 201 tn), (oa (a 11) cI 201 (rsM ft1 D nn tn mn)), (oa (a 12) cI 8040 (rsC ft1 0 D nn 10 cx)), (oa (a 13) cI 8040 (rsC ft1 0 D nn 11 cy)), (oa (a 27) cI 516 sa), (oa (a 28) cI (4096 * cp) sh)]) [0, 1, 2, 3, 4, 5, 6, 7, 8, 9, 10, 11, 12, 13, 14, 15] (by decide) rfl
    rw [hQ9]
    exact W.iret (v := nI ((dn - 1) + 1)) hx hb hr (fun t ht hW => ⟨⟨rfl, by rw [ht]; exact hP9, hD9⟩, hS.F ht⟩) hS.2.2 dX11_undo_62
  · have c_1 : ((dn : Nat) : Int) = ((bs : Nat) : Int) := zc_eq (nI_toInt (by omega)) (nI_toInt (by omega)) c_1
    exfalso; omega
set_option maxHeartbeats 4000000 in
set_option maxRecDepth 100000 in
theorem k_M_redo_ok (l : Launch) (dC : Nat → ClassId) (dI : Nat → Nat → Nat) (cI cZ cF : ClassId) (sz : Nat) (k0 : Nat) (a : Nat → Nat) (I0 : Nat → Int32) (J0 : Nat → Int64) (dn : Nat) (bs : Nat) (rd : Nat) (ft1 : Nat) (w0 : Nat) (cp : Nat) (nn : Nat → Nat) (D : Nat → Nat → Int32) (kd : Nat → Int32) (st : Nat → Int32) (gb : Nat → Int32) (it : Nat → Int32) (pa : Nat → Int32) (pb : Nat → Int32) (rk : Nat → Int32) (wd : Nat → Int32) (tw : Nat → Int32) (tn : Nat → Int32) (mn : Nat → Int32) (cx : Nat → Int32) (cy : Nat → Int32) (sa : Nat → Int32) (sh : Nat → Int32) (hdn : I0 19 = nI dn) (hbs : I0 21 = nI bs) (hbd : bs ≤ dn) (hd512 : dn ≤ 512) (hrd : I0 20 = nI rd) (hr512 : rd ≤ 512) (hlt : 0 < rd) (hi5 : (dn + 1 - bs) < 516) (hsa : sa (dn + 1 - bs) = nI w0) (hft1 : sh w0 = nI ft1) (h200 : ft1 ≤ 200) (hblk : ∀ g, g < ft1 → ∀ j, j < 10 + 2 * nn g → sh (psN nn w0 g + j) = D g j) (h9 : ∀ g, g < ft1 → D g 9 = nI (nn g)) (hn40 : ∀ g, g < ft1 → nn g ≤ 40) (hfit : psN nn w0 ft1 ≤ 4096 * cp) (hcm : cp ≤ 512) : Met l yX11_redo (.code yX11_redo cX11_redo 1 (some .int) :: ws0) ({ frames := 2, cells := 0, slots := 0, locals := 44 } : Room) (va_Pc [.ref k0] (zPre (dC, dI) classes (zTy cI cZ cF) [(om k0 a I0 J0), (oa (a 1) cI 201 kd), (oa (a 5) cI 201 st), (oa (a 7) cI 201 gb), (oa (a 10) cI 201 it), (oa (a 8) cI 201 pa), (oa (a 9) cI 201 pb), (oa (a 2) cI 201 rk), (oa (a 3) cI 201 wd), (oa (a 4) cI 201 tw), (oa (a 6) cZ 201 tn), (oa (a 11) cI 201 mn), (oa (a 12) cI 8040 cx), (oa (a 13) cI 8040 cy), (oa (a 27) cI 516 sa), (oa (a 28) cI (4096 * cp) sh)] sz zXN)) (zQ (some (.int (nI (dn + 1)))) (fun t => va_P (dC, dI) classes [(om k0 a (upd (upd (upd (upd (upd I0 0 (nI ft1)) 14 0) 19 (nI (dn + 1))) 20 (nI (rd - 1))) 42 (nI (psN nn w0 ft1))) J0), (oa (a 1) cI 201 (rsA ft1 (fun g => D g 0) kd)), (oa (a 5) cI 201 (rsA ft1 (fun g => D g 1) st)), (oa (a 7) cI 201 (rsA ft1 (fun g => D g 2) gb)), (oa (a 10) cI 201 (rsA ft1 (fun g => D g 3) it)), (oa (a 8) cI 201 (rsA ft1 (fun g => D g 4) pa)), (oa (a 9) cI 201 (rsA ft1 (fun g => D g 5) pb)), (oa (a 2) cI 201 (rsA ft1 (fun g => D g 6) rk)), (oa (a 3) cI 201 (rsA ft1 (fun g => D g 7) wd)), (oa (a 4) cI 201 (rsA ft1 (fun g => D g 8) tw)), (oa (a 6) cZ 201 tn), (oa (a 11) cI 201 (rsM ft1 D nn tn mn)), (oa (a 12) cI 8040 (rsC ft1 0 D nn 10 cx)), (oa (a 13) cI 8040 (rsC ft1 0 D nn 11 cy)), (oa (a 27) cI 516 sa), (oa (a 28) cI (4096 * cp) sh)] t.heap ∧ va_D (va_A [(om k0 a I0 J0), (oa (a 1) cI 201 kd), (oa (a 5) cI 201 st), (oa (a 7) cI 201 gb), (oa (a 10) cI 201 it), (oa (a 8) cI 201 pa), (oa (a 9) cI 201 pb), (oa (a 2) cI 201 rk), (oa (a 3) cI 201 wd), (oa (a 4) cI 201 tw), (oa (a 6) cZ 201 tn), (oa (a 11) cI 201 mn), (oa (a 12) cI 8040 cx), (oa (a 13) cI 8040 cy), (oa (a 27) cI 516 sa), (oa (a 28) cI (4096 * cp) sh)] sz) [(om k0 a (upd (upd (upd (upd (upd I0 0 (nI ft1)) 14 0) 19 (nI (dn + 1))) 20 (nI (rd - 1))) 42 (nI (psN nn w0 ft1))) J0), (oa (a 1) cI 201 (rsA ft1 (fun g => D g 0) kd)), (oa (a 5) cI 201 (rsA ft1 (fun g => D g 1) st)), (oa (a 7) cI 201 (rsA ft1 (fun g => D g 2) gb)), (oa (a 10) cI 201 (rsA ft1 (fun g => D g 3) it)), (oa (a 8) cI 201 (rsA ft1 (fun g => D g 4) pa)), (oa (a 9) cI 201 (rsA ft1 (fun g => D g 5) pb)), (oa (a 2) cI 201 (rsA ft1 (fun g => D g 6) rk)), (oa (a 3) cI 201 (rsA ft1 (fun g => D g 7) wd)), (oa (a 4) cI 201 (rsA ft1 (fun g => D g 8) tw)), (oa (a 6) cZ 201 tn), (oa (a 11) cI 201 (rsM ft1 D nn tn mn)), (oa (a 12) cI 8040 (rsC ft1 0 D nn 10 cx)), (oa (a 13) cI 8040 (rsC ft1 0 D nn 11 cy)), (oa (a 27) cI 516 sa), (oa (a 28) cI (4096 * cp) sh)]) (va_A [(om k0 a I0 J0), (oa (a 1) cI 201 kd), (oa (a 5) cI 201 st), (oa (a 7) cI 201 gb), (oa (a 10) cI 201 it), (oa (a 8) cI 201 pa), (oa (a 9) cI 201 pb), (oa (a 2) cI 201 rk), (oa (a 3) cI 201 wd), (oa (a 4) cI 201 tw), (oa (a 6) cZ 201 tn), (oa (a 11) cI 201 mn), (oa (a 12) cI 8040 cx), (oa (a 13) cI 8040 cy), (oa (a 27) cI 516 sa), (oa (a 28) cI (4096 * cp) sh)] sz)) 0 0 (va_A [(om k0 a I0 J0), (oa (a 1) cI 201 kd), (oa (a 5) cI 201 st), (oa (a 7) cI 201 gb), (oa (a 10) cI 201 it), (oa (a 8) cI 201 pa), (oa (a 9) cI 201 pb), (oa (a 2) cI 201 rk), (oa (a 3) cI 201 wd), (oa (a 4) cI 201 tw), (oa (a 6) cZ 201 tn), (oa (a 11) cI 201 mn), (oa (a 12) cI 8040 cx), (oa (a 13) cI 8040 cy), (oa (a 27) cI 516 sa), (oa (a 28) cI (4096 * cp) sh)] sz) := by
  refine Met.ofW (cc := cX11_redo) (maxL := 1) (ret := (some .int)) (by decide) rfl ?_
  intro p e s m args below meth c s₁ B hml hv
  obtain ⟨rfl, hsz, hP, hK, hD0, hXN⟩ := hv
  have hx := B.exec
  have hb := B.bytes
  have hr := B.returns
  have hts0 := atoms_spec (ws := .code yX11_redo cX11_redo 1 (some .int) :: ws0) B.pre
  have hts : ∀ w9 ∈ ws0, w9.before ([.ref k0] : List Value).toArray s = true := fun w9 h => hts0 w9 (List.mem_cons_of_mem _ h)
  have hown : s.vm.findClass "ScaleShopModel" = some m.cls := findClass_of_methodNamed B.named
  have hlocks := B.notSynchronized
  subst hsz
  have hD := hD0.self (sz := s.heap.size)
  clear hD0
  generalize hAe : va_A [(om k0 a I0 J0), (oa (a 1) cI 201 kd), (oa (a 5) cI 201 st), (oa (a 7) cI 201 gb), (oa (a 10) cI 201 it), (oa (a 8) cI 201 pa), (oa (a 9) cI 201 pb), (oa (a 2) cI 201 rk), (oa (a 3) cI 201 wd), (oa (a 4) cI 201 tw), (oa (a 6) cZ 201 tn), (oa (a 11) cI 201 mn), (oa (a 12) cI 8040 cx), (oa (a 13) cI 8040 cy), (oa (a 27) cI 516 sa), (oa (a 28) cI (4096 * cp) sh)] s.heap.size = A at hD ⊢
  have hA : ∀ q : Nat, s.heap.size ≤ q → A q := fun q h => by rw [← hAe]; exact Or.inr h
  clear hAe
  have hS : va_S A s.heap s.heap [] := va_S.rf
  have hP : va_P (dC, dI) classes [(om k0 a I0 J0), (oa (a 1) cI 201 kd), (oa (a 5) cI 201 st), (oa (a 7) cI 201 gb), (oa (a 10) cI 201 it), (oa (a 8) cI 201 pa), (oa (a 9) cI 201 pb), (oa (a 2) cI 201 rk), (oa (a 3) cI 201 wd), (oa (a 4) cI 201 tw), (oa (a 6) cZ 201 tn), (oa (a 11) cI 201 mn), (oa (a 12) cI 8040 cx), (oa (a 13) cI 8040 cy), (oa (a 27) cI 516 sa), (oa (a 28) cI (4096 * cp) sh)] s.heap := hP
  obtain ⟨Q9, hQ9⟩ : ∃ Q9 : State → Prop, Q9 = MQ below (zQ (some (.int (nI (dn + 1)))) (fun t => va_P (dC, dI) classes [(om k0 a (upd (upd (upd (upd (upd I0 0 (nI ft1)) 14 0) 19 (nI (dn + 1))) 20 (nI (rd - 1))) 42 (nI (psN nn w0 ft1))) J0), (oa (a 1) cI 201 (rsA ft1 (fun g => D g 0) kd)), (oa (a 5) cI 201 (rsA ft1 (fun g => D g 1) st)), (oa (a 7) cI 201 (rsA ft1 (fun g => D g 2) gb)), (oa (a 10) cI 201 (rsA ft1 (fun g => D g 3) it)), (oa (a 8) cI 201 (rsA ft1 (fun g => D g 4) pa)), (oa (a 9) cI 201 (rsA ft1 (fun g => D g 5) pb)), (oa (a 2) cI 201 (rsA ft1 (fun g => D g 6) rk)), (oa (a 3) cI 201 (rsA ft1 (fun g => D g 7) wd)), (oa (a 4) cI 201 (rsA ft1 (fun g => D g 8) tw)), (oa (a 6) cZ 201 tn), (oa (a 11) cI 201 (rsM ft1 D nn tn mn)), (oa (a 12) cI 8040 (rsC ft1 0 D nn 10 cx)), (oa (a 13) cI 8040 (rsC ft1 0 D nn 11 cy)), (oa (a 27) cI 516 sa), (oa (a 28) cI (4096 * cp) sh)] t.heap ∧ va_D A [(om k0 a (upd (upd (upd (upd (upd I0 0 (nI ft1)) 14 0) 19 (nI (dn + 1))) 20 (nI (rd - 1))) 42 (nI (psN nn w0 ft1))) J0), (oa (a 1) cI 201 (rsA ft1 (fun g => D g 0) kd)), (oa (a 5) cI 201 (rsA ft1 (fun g => D g 1) st)), (oa (a 7) cI 201 (rsA ft1 (fun g => D g 2) gb)), (oa (a 10) cI 201 (rsA ft1 (fun g => D g 3) it)), (oa (a 8) cI 201 (rsA ft1 (fun g => D g 4) pa)), (oa (a 9) cI 201 (rsA ft1 (fun g => D g 5) pb)), (oa (a 2) cI 201 (rsA ft1 (fun g => D g 6) rk)), (oa (a 3) cI 201 (rsA ft1 (fun g => D g 7) wd)), (oa (a 4) cI 201 (rsA ft1 (fun g => D g 8) tw)), (oa (a 6) cZ 201 tn), (oa (a 11) cI 201 (rsM ft1 D nn tn mn)), (oa (a 12) cI 8040 (rsC ft1 0 D nn 10 cx)), (oa (a 13) cI 8040 (rsC ft1 0 D nn 11 cy)), (oa (a 27) cI 516 sa), (oa (a 28) cI (4096 * cp) sh)]) A) ([.ref k0] : List Value).toArray s 0 0 A := ⟨_, rfl⟩
  rw [← hQ9]
  have hl := lv_entry ([.ref k0]) (n := 1) (Nat.le_of_ble_eq_true rfl)
  rw [lg_entry_eq]
  generalize (lg_sl ([.ref k0]) ++ List.replicate (1 - (lg_sl ([.ref k0])).length) Slot.unset).toArray = ls at hl ⊢
  have hl : lv_has ls 1 [(0, .ref k0)] := hl
  refine lv_aload_n hx hb dX11_redo_0 rfl (lv_at hl 0 rfl) ?_
  refine va_get (D := (dC, dI)) (ci := 9) (v := .int (I0 20)) (C := RX11) (T := TX11) (N := 55) hx hb hts inX11 hown hK hP 0 rfl rfl 20 (by decide) (hts _ mw_1179) (fun _ h9 => h9) rfl dX11_redo_1 ?_
  refine zz_i (v := nI rd) (hrd) ?_
  refine lv_if_ne (tgt := 14) hx hb dX11_redo_4 (by decide) (fun c_1 => ?_) (fun c_1 => ?_)
  · have c_1 : ¬ ((rd : Nat) : Int) = 0 := zc_ne (nI_toInt (by omega)) (by decide) c_1
    refine lv_aload_n hx hb dX11_redo_14 rfl (lv_at hl 0 rfl) ?_
    refine lv_dup hx hb dX11_redo_15 rfl ?_
    refine va_get (D := (dC, dI)) (ci := 9) (v := .int (I0 19)) (C := RX11) (T := TX11) (N := 55) hx hb hts inX11 hown hK hP 0 rfl rfl 19 (by decide) (hts _ mw_1178) (fun _ h9 => h9) rfl dX11_redo_16 ?_
    refine zz_i (v := nI dn) (hdn) ?_
    refine lv_iconst (v := 1) hx hb dX11_redo_19 (by decide) ?_
    refine lv_iadd hx hb dX11_redo_20 ?_
    refine zz_i (v := nI (dn + 1)) (nI_add dn 1) ?_
    refine va_put (D := (dC, dI)) (ci := 9) (v := .int (nI (dn + 1))) (ty := .int) (C := RX11) (T := TX11) (N := 55) hx hb hts inX11 tyX11 tyX11_ok nmX11 hown hK hP hD hS 0 rfl rfl 19 (by decide) (hts _ mw_1178) (fun _ h9 => h9) rfl (by decide +kernel) rfl rfl (Nat.le_of_ble_eq_true rfl) dX11_redo_21 (fun H locs hP hD hS => ?_)
    have hP : va_P (dC, dI) classes [(om k0 a (upd I0 19 (nI (dn + 1))) J0), (oa (a 1) cI 201 kd), (oa (a 5) cI 201 st), (oa (a 7) cI 201 gb), (oa (a 10) cI 201 it), (oa (a 8) cI 201 pa), (oa (a 9) cI 201 pb), (oa (a 2) cI 201 rk), (oa (a 3) cI 201 wd), (oa (a 4) cI 201 tw), (oa (a 6) cZ 201 tn), (oa (a 11) cI 201 mn), (oa (a 12) cI 8040 cx), (oa (a 13) cI 8040 cy), (oa (a 27) cI 516 sa), (oa (a 28) cI (4096 * cp) sh)] H := hP
    have hD : va_D A [(om k0 a (upd I0 19 (nI (dn + 1))) J0), (oa (a 1) cI 201 kd), (oa (a 5) cI 201 st), (oa (a 7) cI 201 gb), (oa (a 10) cI 201 it), (oa (a 8) cI 201 pa), (oa (a 9) cI 201 pb), (oa (a 2) cI 201 rk), (oa (a 3) cI 201 wd), (oa (a 4) cI 201 tw), (oa (a 6) cZ 201 tn), (oa (a 11) cI 201 mn), (oa (a 12) cI 8040 cx), (oa (a 13) cI 8040 cy), (oa (a 27) cI 516 sa), (oa (a 28) cI (4096 * cp) sh)] := hD
    refine lv_aload_n hx hb dX11_redo_24 rfl (lv_at hl 0 rfl) ?_
    refine lv_dup hx hb dX11_redo_25 rfl ?_
    refine va_get (D := (dC, dI)) (ci := 9) (v := .int (I0 20)) (C := RX11) (T := TX11) (N := 55) hx hb hts inX11 hown hK hP 0 rfl rfl 20 (by decide) (hts _ mw_1179) (fun _ h9 => h9) rfl dX11_redo_26 ?_
    refine zz_i (v := nI rd) (hrd) ?_
    refine lv_iconst (v := 1) hx hb dX11_redo_29 (by decide) ?_
    refine lv_isub hx hb dX11_redo_30 ?_
    refine zz_i (v := nI (rd - 1)) (pk_sub (a := rd) (b := 1) (by omega)) ?_
    refine va_put (D := (dC, dI)) (ci := 9) (v := .int (nI (rd - 1))) (ty := .int) (C := RX11) (T := TX11) (N := 55) hx hb hts inX11 tyX11 tyX11_ok nmX11 hown hK hP hD hS 0 rfl rfl 20 (by decide) (hts _ mw_1179) (fun _ h9 => h9) rfl (by decide +kernel) rfl rfl (Nat.le_of_ble_eq_true rfl) dX11_redo_31 (fun H locs hP hD hS => ?_)
    have hP : va_P (dC, dI) classes [(om k0 a (upd (upd I0 19 (nI (dn + 1))) 20 (nI (rd - 1))) J0), (oa (a 1) cI 201 kd), (oa (a 5) cI 201 st), (oa (a 7) cI 201 gb), (oa (a 10) cI 201 it), (oa (a 8) cI 201 pa), (oa (a 9) cI 201 pb), (oa (a 2) cI 201 rk), (oa (a 3) cI 201 wd), (oa (a 4) cI 201 tw), (oa (a 6) cZ 201 tn), (oa (a 11) cI 201 mn), (oa (a 12) cI 8040 cx), (oa (a 13) cI 8040 cy), (oa (a 27) cI 516 sa), (oa (a 28) cI (4096 * cp) sh)] H := hP
    have hD : va_D A [(om k0 a (upd (upd I0 19 (nI (dn + 1))) 20 (nI (rd - 1))) J0), (oa (a 1) cI 201 kd), (oa (a 5) cI 201 st), (oa (a 7) cI 201 gb), (oa (a 10) cI 201 it), (oa (a 8) cI 201 pa), (oa (a 9) cI 201 pb), (oa (a 2) cI 201 rk), (oa (a 3) cI 201 wd), (oa (a 4) cI 201 tw), (oa (a 6) cZ 201 tn), (oa (a 11) cI 201 mn), (oa (a 12) cI 8040 cx), (oa (a 13) cI 8040 cy), (oa (a 27) cI 516 sa), (oa (a 28) cI (4096 * cp) sh)] := hD
    refine lv_aload_n hx hb dX11_redo_34 rfl (lv_at hl 0 rfl) ?_
    refine lv_aload_n hx hb dX11_redo_35 rfl (lv_at hl 0 rfl) ?_
    refine va_get (D := (dC, dI)) (ci := 9) (v := .int (nI (dn + 1))) (C := RX11) (T := TX11) (N := 55) hx hb hts inX11 hown hK hP 0 rfl rfl 19 (by decide) (hts _ mw_1178) (fun _ h9 => h9) rfl dX11_redo_36 ?_
    refine lv_aload_n hx hb dX11_redo_39 rfl (lv_at hl 0 rfl) ?_
    refine va_get (D := (dC, dI)) (ci := 9) (v := .int (I0 21)) (C := RX11) (T := TX11) (N := 55) hx hb hts inX11 hown hK hP 0 rfl rfl 21 (by decide) (hts _ mw_1180) (fun _ h9 => h9) rfl dX11_redo_40 ?_
    refine zz_i (v := nI bs) (hbs) ?_
    refine lv_isub hx hb dX11_redo_43 ?_
    refine zz_i (v := nI ((dn + 1) - bs)) (pk_sub (a := dn + 1) (b := bs) (by omega)) ?_
    have hPc := hP.sub (ws' := [(om k0 a (upd (upd I0 19 (nI (dn + 1))) 20 (nI (rd - 1))) J0), (oa (a 1) cI 201 kd), (oa (a 5) cI 201 st), (oa (a 7) cI 201 gb), (oa (a 10) cI 201 it), (oa (a 8) cI 201 pa), (oa (a 9) cI 201 pb), (oa (a 2) cI 201 rk), (oa (a 3) cI 201 wd), (oa (a 4) cI 201 tw), (oa (a 6) cZ 201 tn), (oa (a 11) cI 201 mn), (oa (a 12) cI 8040 cx), (oa (a 13) cI 8040 cy), (oa (a 27) cI 516 sa), (oa (a 28) cI (4096 * cp) sh)]) [0, 1, 2, 3, 4, 5, 6, 7, 8, 9, 10, 11, 12, 13, 14, 15] rfl
    have hDc := hD.sub (ws' := [(om k0 a (upd (upd I0 19 (nI (dn + 1))) 20 (nI (rd - 1))) J0), (oa (a 1) cI 201 kd), (oa (a 5) cI 201 st), (oa (a 7) cI 201 gb), (oa (a 10) cI 201 it), (oa (a 8) cI 201 pa), (oa (a 9) cI 201 pb), (oa (a 2) cI 201 rk), (oa (a 3) cI 201 wd), (oa (a 4) cI 201 tw), (oa (a 6) cZ 201 tn), (oa (a 11) cI 201 mn), (oa (a 12) cI 8040 cx), (oa (a 13) cI 8040 cy), (oa (a 27) cI 516 sa), (oa (a 28) cI (4096 * cp) sh)]) [0, 1, 2, 3, 4, 5, 6, 7, 8, 9, 10, 11, 12, 13, 14, 15] (by decide) rfl
    have hFc := va_free (wc := [(om k0 a (upd (upd I0 19 (nI (dn + 1))) 20 (nI (rd - 1))) J0), (oa (a 1) cI 201 kd), (oa (a 5) cI 201 st), (oa (a 7) cI 201 gb), (oa (a 10) cI 201 it), (oa (a 8) cI 201 pa), (oa (a 9) cI 201 pb), (oa (a 2) cI 201 rk), (oa (a 3) cI 201 wd), (oa (a 4) cI 201 tw), (oa (a 6) cZ 201 tn), (oa (a 11) cI 201 mn), (oa (a 12) cI 8040 cx), (oa (a 13) cI 8040 cy), (oa (a 27) cI 516 sa), (oa (a 28) cI (4096 * cp) sh)]) hD hS hA [0, 1, 2, 3, 4, 5, 6, 7, 8, 9, 10, 11, 12, 13, 14, 15] rfl
    refine zcall (st1 := []) (va_runV (As := [.int (nI ((dn + 1) - bs))]) (rest := []) ⟨hx, hb, hml, hown, hts⟩ (k_M_restore l dC dI cI cZ cF H.size k0 a (upd (upd I0 19 (nI (dn + 1))) 20 (nI (rd - 1))) J0 ((dn + 1) - bs) ft1 w0 cp nn D kd st gb it pa pb rk wd tw tn mn cx cy sa sh (by omega) (by assumption) (by assumption) (by omega) (by assumption) (by assumption) (by assumption) (by assumption) (by omega)) (cwV 1 hts (zz_gV mw_1649 mw_1651 mw_95 mw_110 mc_yX11_restore) rfl rfl rfl (by decide +kernel) ⟨Nat.le_of_ble_eq_true rfl, Nat.le_of_ble_eq_true rfl⟩) (zPV2 (q0 := 0) (ci := 9) hPc hDc hK hXN rfl rfl) rfl rfl hl.1 rfl (lv_room (Nat.le_of_ble_eq_true rfl)) dX11_redo_44 ⟨Nat.le_of_ble_eq_true rfl, Nat.le_of_ble_eq_true rfl⟩) hS hFc hFc rfl (fun t H1 locs ht hB hk1 hS => ?_)
    obtain ⟨hP1, hD1⟩ := hB
    rw [ht] at hP1
    obtain ⟨hP, hD⟩ := va_join (wr := []) (w1 := [(om k0 a (upd (upd (upd (upd I0 0 (nI ft1)) 19 (nI (dn + 1))) 20 (nI (rd - 1))) 42 (nI (psN nn w0 ft1))) J0), (oa (a 1) cI 201 (rsA ft1 (fun g => D g 0) kd)), (oa (a 5) cI 201 (rsA ft1 (fun g => D g 1) st)), (oa (a 7) cI 201 (rsA ft1 (fun g => D g 2) gb)), (oa (a 10) cI 201 (rsA ft1 (fun g => D g 3) it)), (oa (a 8) cI 201 (rsA ft1 (fun g => D g 4) pa)), (oa (a 9) cI 201 (rsA ft1 (fun g => D g 5) pb)), (oa (a 2) cI 201 (rsA ft1 (fun g => D g 6) rk)), (oa (a 3) cI 201 (rsA ft1 (fun g => D g 7) wd)), (oa (a 4) cI 201 (rsA ft1 (fun g => D g 8) tw)), (oa (a 6) cZ 201 tn), (oa (a 11) cI 201 (rsM ft1 D nn tn mn)), (oa (a 12) cI 8040 (rsC ft1 0 D nn 10 cx)), (oa (a 13) cI 8040 (rsC ft1 0 D nn 11 cy)), (oa (a 27) cI 516 sa), (oa (a 28) cI (4096 * cp) sh)]) hP hD [0, 1, 2, 3, 4, 5, 6, 7, 8, 9, 10, 11, 12, 13, 14, 15] [] rfl rfl (by decide) (by decide) hk1 hFc hP1 hD1
    clear hk1 hPc hDc hFc hP1 hD1 ht
    generalize H1 = H at hP hS ⊢
    have hP : va_P (dC, dI) classes [(om k0 a (upd (upd (upd (upd I0 0 (nI ft1)) 19 (nI (dn + 1))) 20 (nI (rd - 1))) 42 (nI (psN nn w0 ft1))) J0), (oa (a 1) cI 201 (rsA ft1 (fun g => D g 0) kd)), (oa (a 5) cI 201 (rsA ft1 (fun g => D g 1) st)), (oa (a 7) cI 201 (rsA ft1 (fun g => D g 2) gb)), (oa (a 10) cI 201 (rsA ft1 (fun g => D g 3) it)), (oa (a 8) cI 201 (rsA ft1 (fun g => D g 4) pa)), (oa (a 9) cI 201 (rsA ft1 (fun g => D g 5) pb)), (oa (a 2) cI 201 (rsA ft1 (fun g => D g 6) rk)), (oa (a 3) cI 201 (rsA ft1 (fun g => D g 7) wd)), (oa (a 4) cI 201 (rsA ft1 (fun g => D g 8) tw)), (oa (a 6) cZ 201 tn), (oa (a 11) cI 201 (rsM ft1 D nn tn mn)), (oa (a 12) cI 8040 (rsC ft1 0 D nn 10 cx)), (oa (a 13) cI 8040 (rsC ft1 0 D nn 11 cy)), (oa (a 27) cI 516 sa), (oa (a 28) cI (4096 * cp) sh)] H := hP
    have hD : va_D A [(om k0 a (upd (upd (upd (upd I0 0 (nI ft1)) 19 (nI (dn + 1))) 20 (nI (rd - 1))) 42 (nI (psN nn w0 ft1))) J0), (oa (a 1) cI 201 (rsA ft1 (fun g => D g 0) kd)), (oa (a 5) cI 201 (rsA ft1 (fun g => D g 1) st)), (oa (a 7) cI 201 (rsA ft1 (fun g => D g 2) gb)), (oa (a 10) cI 201 (rsA ft1 (fun g => D g 3) it)), (oa (a 8) cI 201 (rsA ft1 (fun g => D g 4) pa)), (oa (a 9) cI 201 (rsA ft1 (fun g => D g 5) pb)), (oa (a 2) cI 201 (rsA ft1 (fun g => D g 6) rk)), (oa (a 3) cI 201 (rsA ft1 (fun g => D g 7) wd)), (oa (a 4) cI 201 (rsA ft1 (fun g => D g 8) tw)), (oa (a 6) cZ 201 tn), (oa (a 11) cI 201 (rsM ft1 D nn tn mn)), (oa (a 12) cI 8040 (rsC ft1 0 D nn 10 cx)), (oa (a 13) cI 8040 (rsC ft1 0 D nn 11 cy)), (oa (a 27) cI 516 sa), (oa (a 28) cI (4096 * cp) sh)] := hD
    refine lv_aload_n hx hb dX11_redo_47 rfl (lv_at hl 0 rfl) ?_
    refine lv_iconst (v := 0) hx hb dX11_redo_48 (by decide) ?_
    refine va_put (D := (dC, dI)) (ci := 9) (v := .int 0) (ty := .int) (C := RX11) (T := TX11) (N := 55) hx hb hts inX11 tyX11 tyX11_ok nmX11 hown hK hP hD hS 0 rfl rfl 14 (by decide) (hts _ mw_1173) (fun _ h9 => h9) rfl (by decide +kernel) rfl rfl (Nat.le_of_ble_eq_true rfl) dX11_redo_49 (fun H locs hP hD hS => ?_)
    have hP : va_P (dC, dI) classes [(om k0 a (upd (upd (upd (upd (upd I0 0 (nI ft1)) 14 0) 19 (nI (dn + 1))) 20 (nI (rd - 1))) 42 (nI (psN nn w0 ft1))) J0), (oa (a 1) cI 201 (rsA ft1 (fun g => D g 0) kd)), (oa (a 5) cI 201 (rsA ft1 (fun g => D g 1) st)), (oa (a 7) cI 201 (rsA ft1 (fun g => D g 2) gb)), (oa (a 10) cI 201 (rsA ft1 (fun g => D g 3) it)), (oa (a 8) cI 201 (rsA ft1 (fun g => D g 4) pa)), (oa (a 9) cI 201 (rsA ft1 (fun g => D g 5) pb)), (oa (a 2) cI 201 (rsA ft1 (fun g => D g 6) rk)), (oa (a 3) cI 201 (rsA ft1 (fun g => D g 7) wd)), (oa (a 4) cI 201 (rsA ft1 (fun g => D g 8) tw)), (oa (a 6) cZ 201 tn), (oa (a 11) cI 201 (rsM ft1 D nn tn mn)), (oa (a 12) cI 8040 (rsC ft1 0 D nn 10 cx)), (oa (a 13) cI 8040 (rsC ft1 0 D nn 11 cy)), (oa (a 27) cI 516 sa), (oa (a 28) cI (4096 * cp) sh)] H := hP
    have hD : va_D A [(om k0 a (upd (upd (upd (upd (upd I0 0 (nI ft1)) 14 0) 19 (nI (dn + 1))) 20 (nI (rd - 1))) 42 (nI (psN nn w0 ft1))) J0), (oa (a 1) cI 201 (rsA ft1 (fun g => D g 0) kd)), (oa (a 5) cI 201 (rsA ft1 (fun g => D g 1) st)), (oa (a 7) cI 201 (rsA ft1 (fun g => D g 2) gb)), (oa (a 10) cI 201 (rsA ft1 (fun g => D g 3) it)), (oa (a 8) cI 201 (rsA ft1 (fun g => D g 4) pa)), (oa (a 9) cI 201 (rsA ft1 (fun g => D g 5) pb)), (oa (a 2) cI 201 (rsA ft1 (fun g => D g 6) rk)), (oa (a 3) cI 201 (rsA ft1 (fun g => D g 7) wd)), (oa (a 4) cI 201 (rsA ft1 (fun g => D g 8) tw)), (oa (a 6) cZ 201 tn), (oa (a 11) cI 201 (rsM ft1 D nn tn mn)), (oa (a 12) cI 8040 (rsC ft1 0 D nn 10 cx)), (oa (a 13) cI 8040 (rsC ft1 0 D nn 11 cy)), (oa (a 27) cI 516 sa), (oa (a 28) cI (4096 * cp) sh)] := hD
    refine lv_aload_n hx hb dX11_redo_52 rfl (lv_at hl 0 rfl) ?_
    refine va_get (D := (dC, dI)) (ci := 9) (v := .int (nI (dn + 1))) (C := RX11) (T := TX11) (N := 55) hx hb hts inX11 hown hK hP 0 rfl rfl 19 (by decide) (hts _ mw_1178) (fun _ h9 => h9) rfl dX11_redo_53 ?_
    have hP9 := hP.sub (ws' := [(om k0 a (upd (upd (upd (upd (upd I0 0 (nI ft1)) 14 0) 19 (nI (dn + 1))) 20 (nI (rd - 1))) 42 (nI (psN nn w0 ft1))) J0), (oa (a 1) cI 201 (rsA ft1 (fun g => D g 0) kd)), (oa (a 5) cI 201 (rsA ft1 (fun g => D g 1) st)), (oa (a 7) cI 201 (rsA ft1 (fun g => D g 2) gb)), (oa (a 10) cI 201 (rsA ft1 (fun g => D g 3) it)), (oa (a 8) cI 201 (rsA ft1 (fun g => D g 4) pa)), (oa (a 9) cI 201 (rsA ft1 (fun g => D g 5) pb)), (oa (a 2) cI 201 (rsA ft1 (fun g => D g 6) rk)), (oa (a 3) cI 201 (rsA ft1 (fun g => D g 7) wd)), (oa (a 4) cI 201 (rsA ft1 (fun g => D g 8) tw)), (oa (a 6) cZ 201 tn), (oa (a 11) cI 201 (rsM ft1 D nn tn mn)), (oa (a 12) cI 8040 (rsC ft1 0 D nn 10 cx)), (oa (a 13) cI 8040 (rsC ft1 0 D nn 11 cy)), (oa (a 27) cI 516 sa), (oa (a 28) cI (4096 * cp) sh)]) [0, 1, 2, 3, 4, 5, 6, 7, 8, 9, 10, 11, 12, 13, 14, 15] rfl
    have hD9 := hD.sub (ws' := [(om k0 a (upd (upd (upd (upd (upd I0 0 (nI ft1)) 14 0) 19 (nI (dn + 1))) 20 (nI (rd - 1))) 42 (nI (psN nn w0 ft1))) J0), (oa (a 1) cI 201 (rsA ft1 (fun g => D g 0) kd)), (oa (a 5) cI 201 (rsA ft1 (fun g => D g 1) st)), (oa (a 7) cI 201 (rsA ft1 (fun g => D g 2) gb)), (oa (a 10) cI 201 (rsA ft1 (fun g => D g 3) it)), (oa (a 8) cI 201 (rsA ft1 (fun g => D g 4) pa)), (oa (a 9) cI 201 (rsA ft1 (fun g => D g 5) pb)), (oa (a 2) cI 201 (rsA ft1 (fun g => D g 6) rk)), (oa (a 3) cI 201 (rsA ft1 (fun g => D g 7) wd)), (oa (a 4) cI 201 (rsA ft1 (fun g => D g 8) tw)), (oa (a 6) cZ 201 tn), (oa (a 11) cI 201 (rsM ft1 D nn tn mn)), (oa (a 12) cI 8040 (rsC ft1 0 D nn 10 cx)), (oa (a 13) cI 8040 (rsC ft1 0 D nn 11 cy)), (oa (a 27) cI 516 sa), (oa (a 28) cI (4096 * cp) sh)]) [0, 1, 2, 3, 4, 5, 6, 7, 8, 9, 10, 11, 12, 13, 14, 15] (by decide) rfl
    rw [hQ9]
    exact W.iret (v := nI (dn + 1)) hx hb hr (fun t ht hW => ⟨⟨rfl, by rw [ht]; exact hP9, hD9⟩, hS.F ht⟩) hS.2.2 dX11_redo_56
  · have c_1 : ((rd : Nat) : Int) = 0 := zc_eq (nI_toInt (by omega)) (by decide) c_1
    exfalso; omega
set_option maxHeartbeats 4000000 in
set_option maxRecDepth 100000 in
theorem k_M_layBox (l : Launch) (dC : Nat → ClassId) (dI : Nat → Nat → Nat) (cI cZ cF : ClassId) (sz : Nat) (k0 : Nat) (a : Nat → Nat) (I0 : Nat → Int32) (J0 : Nat → Int64) (f : Nat) (kd : Nat → Int32) (mn : Nat → Int32) (cx : Nat → Int32) (cy : Nat → Int32) (hf_f : f ≤ 200) : Met l yX11_layBox (.code yX11_layBox cX11_layBox 3 none :: ws0) ({ frames := 0, cells := 0, slots := 0, locals := 0 } : Room) (va_Pc [.ref k0, .int (nI f)] (zPre (dC, dI) classes (zTy cI cZ cF) [(om k0 a I0 J0), (oa (a 1) cI 201 kd), (oa (a 11) cI 201 mn), (oa (a 12) cI 8040 cx), (oa (a 13) cI 8040 cy)] sz zXN)) (zQ none (fun t => va_P (dC, dI) classes [(om k0 a I0 J0), (oa (a 1) cI 201 (upd kd f 6)), (oa (a 11) cI 201 (upd mn f 4)), (oa (a 12) cI 8040 (bxX f (I0 44) (I0 46) 4 cx)), (oa (a 13) cI 8040 (bxY f (I0 45) (I0 47) 4 cy))] t.heap ∧ va_D (va_A [(om k0 a I0 J0), (oa (a 1) cI 201 kd), (oa (a 11) cI 201 mn), (oa (a 12) cI 8040 cx), (oa (a 13) cI 8040 cy)] sz) [(om k0 a I0 J0), (oa (a 1) cI 201 (upd kd f 6)), (oa (a 11) cI 201 (upd mn f 4)), (oa (a 12) cI 8040 (bxX f (I0 44) (I0 46) 4 cx)), (oa (a 13) cI 8040 (bxY f (I0 45) (I0 47) 4 cy))]) (va_A [(om k0 a I0 J0), (oa (a 1) cI 201 kd), (oa (a 11) cI 201 mn), (oa (a 12) cI 8040 cx), (oa (a 13) cI 8040 cy)] sz)) 0 0 (va_A [(om k0 a I0 J0), (oa (a 1) cI 201 kd), (oa (a 11) cI 201 mn), (oa (a 12) cI 8040 cx), (oa (a 13) cI 8040 cy)] sz) := by
  refine Met.ofW (cc := cX11_layBox) (maxL := 3) (ret := none) (by decide) rfl ?_
  intro p e s m args below meth c s₁ B hml hv
  obtain ⟨rfl, hsz, hP, hK, hD0, hXN⟩ := hv
  have hx := B.exec
  have hb := B.bytes
  have hr := B.returns
  have hts0 := atoms_spec (ws := .code yX11_layBox cX11_layBox 3 none :: ws0) B.pre
  have hts : ∀ w9 ∈ ws0, w9.before ([.ref k0, .int (nI f)] : List Value).toArray s = true := fun w9 h => hts0 w9 (List.mem_cons_of_mem _ h)
  have hown : s.vm.findClass "ScaleShopModel" = some m.cls := findClass_of_methodNamed B.named
  have hlocks := B.notSynchronized
  subst hsz
  have hD := hD0.self (sz := s.heap.size)
  clear hD0
  generalize hAe : va_A [(om k0 a I0 J0), (oa (a 1) cI 201 kd), (oa (a 11) cI 201 mn), (oa (a 12) cI 8040 cx), (oa (a 13) cI 8040 cy)] s.heap.size = A at hD ⊢
  have hA : ∀ q : Nat, s.heap.size ≤ q → A q := fun q h => by rw [← hAe]; exact Or.inr h
  clear hAe
  have hS : va_S A s.heap s.heap [] := va_S.rf
  have hP : va_P (dC, dI) classes [(om k0 a I0 J0), (oa (a 1) cI 201 kd), (oa (a 11) cI 201 mn), (oa (a 12) cI 8040 cx), (oa (a 13) cI 8040 cy)] s.heap := hP
  obtain ⟨Q9, hQ9⟩ : ∃ Q9 : State → Prop, Q9 = MQ below (zQ none (fun t => va_P (dC, dI) classes [(om k0 a I0 J0), (oa (a 1) cI 201 (upd kd f 6)), (oa (a 11) cI 201 (upd mn f 4)), (oa (a 12) cI 8040 (bxX f (I0 44) (I0 46) 4 cx)), (oa (a 13) cI 8040 (bxY f (I0 45) (I0 47) 4 cy))] t.heap ∧ va_D A [(om k0 a I0 J0), (oa (a 1) cI 201 (upd kd f 6)), (oa (a 11) cI 201 (upd mn f 4)), (oa (a 12) cI 8040 (bxX f (I0 44) (I0 46) 4 cx)), (oa (a 13) cI 8040 (bxY f (I0 45) (I0 47) 4 cy))]) A) ([.ref k0, .int (nI f)] : List Value).toArray s 0 0 A := ⟨_, rfl⟩
  rw [← hQ9]
  have hl := lv_entry ([.ref k0, .int (nI f)]) (n := 3) (Nat.le_of_ble_eq_true rfl)
  rw [lg_entry_eq]
  generalize (lg_sl ([.ref k0, .int (nI f)]) ++ List.replicate (3 - (lg_sl ([.ref k0, .int (nI f)])).length) Slot.unset).toArray = ls at hl ⊢
  have hl : lv_has ls 3 [(0, .ref k0), (1, .int (nI f))] := hl
  refine lv_aload_n hx hb dX11_layBox_0 rfl (lv_at hl 0 rfl) ?_
  refine va_get (D := (dC, dI)) (ci := 9) (v := .ref (a 11)) (C := RX11) (T := TX11) (N := 55) hx hb hts inX11 hown hK hP 0 rfl rfl 11 (by decide) (hts _ mw_1170) (fun _ h9 => h9) rfl dX11_layBox_1 ?_
  refine lv_iload_n hx hb dX11_layBox_4 rfl (lv_at hl 1 rfl) ?_
  refine lv_iconst (v := 4) hx hb dX11_layBox_5 (by decide) ?_
  refine z_iast hx hb hK hP hD hS 2 0 rfl rfl (e := f) (x := 4) rfl (by omega) (by omega) dX11_layBox_6 (fun H locs hP hD hS => ?_)
  have hP : va_P (dC, dI) classes [(om k0 a I0 J0), (oa (a 1) cI 201 kd), (oa (a 11) cI 201 (upd mn f 4)), (oa (a 12) cI 8040 cx), (oa (a 13) cI 8040 cy)] H := hP
  have hD : va_D A [(om k0 a I0 J0), (oa (a 1) cI 201 kd), (oa (a 11) cI 201 (upd mn f 4)), (oa (a 12) cI 8040 cx), (oa (a 13) cI 8040 cy)] := hD
  refine lv_iconst (v := 0) hx hb dX11_layBox_7 (by decide) ?_
  refine lv_istore_n (lv' := [(2, .int 0), (0, .ref k0), (1, .int (nI f))]) hx hb dX11_layBox_8 rfl hl (by decide) rfl (fun ls hl => ?_)
  have hl_9 : ∀ (n9 : Nat) (k : Nat) (cx1 : Nat → Int32) (cy1 : Nat → Int32) (H : Heap) (locs : List Loc) (ls : Array Slot), 4 - k < n9 → (k ≤ 4) → (cx1 = bxX f (I0 44) (I0 46) k cx) → (cy1 = bxY f (I0 45) (I0 47) k cy) → va_P (dC, dI) classes [(om k0 a I0 J0), (oa (a 1) cI 201 kd), (oa (a 11) cI 201 (upd mn f 4)), (oa (a 12) cI 8040 cx1), (oa (a 13) cI 8040 cy1)] H → va_D A [(om k0 a I0 J0), (oa (a 1) cI 201 kd), (oa (a 11) cI 201 (upd mn f 4)), (oa (a 12) cI 8040 cx1), (oa (a 13) cI 8040 cy1)] → va_S A s.heap H locs → lv_has ls 3 [(2, .int (nI k)), (0, .ref k0), (1, .int (nI f))] → W p l e ((headSpec (.code yX11_layBox cX11_layBox 3 none :: ws0) ({ frames := 0, cells := 0, slots := 0, locals := 0 } : Room)).room) s m ([.ref k0, .int (nI f)] : List Value).toArray below meth c H locs 0 0 Q9 (F0 m 9 ls []) := by
    intro n9
    induction n9 with
    | zero => intro k cx1 cy1 H locs ls hm; exact absurd hm (Nat.not_lt_zero _)
    | succ n9 ih_9 =>
      intro k cx1 cy1 H locs ls hm hk hcx hcy hP hD hS hl
      refine lv_iload_n hx hb dX11_layBox_9 rfl (lv_at hl 0 rfl) ?_
      refine lv_iconst (v := 4) hx hb dX11_layBox_10 (by decide) ?_
      refine lv_icmp_ge (tgt := 79) hx hb dX11_layBox_11 (by decide) (fun c_1 => ?_) (fun c_1 => ?_)
      · have c_1 : 4 ≤ ((k : Nat) : Int) := zc_le (by decide) (nI_toInt (by omega)) c_1
        refine lv_aload_n hx hb dX11_layBox_79 rfl (lv_at hl 1 rfl) ?_
        refine va_get (D := (dC, dI)) (ci := 9) (v := .ref (a 1)) (C := RX11) (T := TX11) (N := 55) hx hb hts inX11 hown hK hP 0 rfl rfl 1 (by decide) (hts _ mw_1160) (fun _ h9 => h9) rfl dX11_layBox_80 ?_
        refine lv_iload_n hx hb dX11_layBox_83 rfl (lv_at hl 2 rfl) ?_
        refine lv_bipush (v := 6) hx hb dX11_layBox_84 (by decide) ?_
        refine z_iast hx hb hK hP hD hS 1 0 rfl rfl (e := f) (x := 6) rfl (by omega) (by omega) dX11_layBox_86 (fun H locs hP hD hS => ?_)
        have hP : va_P (dC, dI) classes [(om k0 a I0 J0), (oa (a 1) cI 201 (upd kd f 6)), (oa (a 11) cI 201 (upd mn f 4)), (oa (a 12) cI 8040 cx1), (oa (a 13) cI 8040 cy1)] H := hP
        have hD : va_D A [(om k0 a I0 J0), (oa (a 1) cI 201 (upd kd f 6)), (oa (a 11) cI 201 (upd mn f 4)), (oa (a 12) cI 8040 cx1), (oa (a 13) cI 8040 cy1)] := hD
        have hk4 : k = 4 := (by omega)
        subst hk4
        have hP9 := hP.sub (ws' := [(om k0 a I0 J0), (oa (a 1) cI 201 (upd kd f 6)), (oa (a 11) cI 201 (upd mn f 4)), (oa (a 12) cI 8040 cx1), (oa (a 13) cI 8040 cy1)]) [0, 1, 2, 3, 4] rfl
        have hD9 := hD.sub (ws' := [(om k0 a I0 J0), (oa (a 1) cI 201 (upd kd f 6)), (oa (a 11) cI 201 (upd mn f 4)), (oa (a 12) cI 8040 cx1), (oa (a 13) cI 8040 cy1)]) [0, 1, 2, 3, 4] (by decide) rfl
        have hE9 : ([(om k0 a I0 J0), (oa (a 1) cI 201 (upd kd f 6)), (oa (a 11) cI 201 (upd mn f 4)), (oa (a 12) cI 8040 cx1), (oa (a 13) cI 8040 cy1)] : va_W) = [(om k0 a I0 J0), (oa (a 1) cI 201 (upd kd f 6)), (oa (a 11) cI 201 (upd mn f 4)), (oa (a 12) cI 8040 (bxX f (I0 44) (I0 46) 4 cx)), (oa (a 13) cI 8040 (bxY f (I0 45) (I0 47) 4 cy))] := by rw [hcx, hcy]
        rw [hE9] at hP9 hD9
        rw [hQ9]
        exact W.vret hx hb hr (fun t ht hW => ⟨⟨rfl, by rw [ht]; exact hP9, hD9⟩, hS.F ht⟩) hS.2.2 dX11_layBox_87
      · have c_1 : ((k : Nat) : Int) < 4 := zc_nle (by decide) (nI_toInt (by omega)) c_1
        refine lv_aload_n hx hb dX11_layBox_14 rfl (lv_at hl 1 rfl) ?_
        refine va_get (D := (dC, dI)) (ci := 9) (v := .ref (a 12)) (C := RX11) (T := TX11) (N := 55) hx hb hts inX11 hown hK hP 0 rfl rfl 12 (by decide) (hts _ mw_1171) (fun _ h9 => h9) rfl dX11_layBox_15 ?_
        refine lv_bipush (v := 40) hx hb dX11_layBox_18 (by decide) ?_
        refine lv_iload_n hx hb dX11_layBox_20 rfl (lv_at hl 2 rfl) ?_
        refine lv_imul hx hb dX11_layBox_21 ?_
        refine zz_i (v := nI (40 * f)) (pk_mul 40 f) ?_
        refine lv_iload_n hx hb dX11_layBox_22 rfl (lv_at hl 0 rfl) ?_
        refine lv_iadd hx hb dX11_layBox_23 ?_
        refine zz_i (v := nI (40 * f + k)) (nI_add (40 * f) k) ?_
        refine lv_iload_n hx hb dX11_layBox_24 rfl (lv_at hl 0 rfl) ?_
        refine lv_iconst (v := 1) hx hb dX11_layBox_25 (by decide) ?_
        refine lv_icmp_eq (tgt := 34) hx hb dX11_layBox_26 (by decide) (fun c_2 => ?_) (fun c_2 => ?_)
        · have c_2 : ((k : Nat) : Int) = 1 := zc_eq (nI_toInt (by omega)) (by decide) c_2
          refine lv_aload_n hx hb dX11_layBox_34 rfl (lv_at hl 1 rfl) ?_
          refine va_get (D := (dC, dI)) (ci := 9) (v := .int (I0 46)) (C := RX11) (T := TX11) (N := 55) hx hb hts inX11 hown hK hP 0 rfl rfl 46 (by decide) (hts _ mw_1205) (fun _ h9 => h9) rfl dX11_layBox_35 ?_
          refine lv_goto (tgt := 45) hx hb dX11_layBox_38 (by decide) ?_
          refine z_iast hx hb hK hP hD hS 3 0 rfl rfl (e := 40 * f + k) (x := I0 46) rfl (by omega) (by omega) dX11_layBox_45 (fun H locs hP hD hS => ?_)
          have hP : va_P (dC, dI) classes [(om k0 a I0 J0), (oa (a 1) cI 201 kd), (oa (a 11) cI 201 (upd mn f 4)), (oa (a 12) cI 8040 (upd cx1 (40 * f + k) (I0 46))), (oa (a 13) cI 8040 cy1)] H := hP
          have hD : va_D A [(om k0 a I0 J0), (oa (a 1) cI 201 kd), (oa (a 11) cI 201 (upd mn f 4)), (oa (a 12) cI 8040 (upd cx1 (40 * f + k) (I0 46))), (oa (a 13) cI 8040 cy1)] := hD
          refine lv_aload_n hx hb dX11_layBox_46 rfl (lv_at hl 1 rfl) ?_
          refine va_get (D := (dC, dI)) (ci := 9) (v := .ref (a 13)) (C := RX11) (T := TX11) (N := 55) hx hb hts inX11 hown hK hP 0 rfl rfl 13 (by decide) (hts _ mw_1172) (fun _ h9 => h9) rfl dX11_layBox_47 ?_
          refine lv_bipush (v := 40) hx hb dX11_layBox_50 (by decide) ?_
          refine lv_iload_n hx hb dX11_layBox_52 rfl (lv_at hl 2 rfl) ?_
          refine lv_imul hx hb dX11_layBox_53 ?_
          refine zz_i (v := nI (40 * f)) (pk_mul 40 f) ?_
          refine lv_iload_n hx hb dX11_layBox_54 rfl (lv_at hl 0 rfl) ?_
          refine lv_iadd hx hb dX11_layBox_55 ?_
          refine zz_i (v := nI (40 * f + k)) (nI_add (40 * f) k) ?_
          refine lv_iload_n hx hb dX11_layBox_56 rfl (lv_at hl 0 rfl) ?_
          refine lv_iconst (v := 1) hx hb dX11_layBox_57 (by decide) ?_
          refine lv_icmp_le (tgt := 68) hx hb dX11_layBox_58 (by decide) (fun c_3 => ?_) (fun c_3 => ?_)
          · have c_3 : ((k : Nat) : Int) ≤ 1 := zc_le (nI_toInt (by omega)) (by decide) c_3
            refine lv_aload_n hx hb dX11_layBox_68 rfl (lv_at hl 1 rfl) ?_
            refine va_get (D := (dC, dI)) (ci := 9) (v := .int (I0 45)) (C := RX11) (T := TX11) (N := 55) hx hb hts inX11 hown hK hP 0 rfl rfl 45 (by decide) (hts _ mw_1204) (fun _ h9 => h9) rfl dX11_layBox_69 ?_
            refine z_iast hx hb hK hP hD hS 4 0 rfl rfl (e := 40 * f + k) (x := I0 45) rfl (by omega) (by omega) dX11_layBox_72 (fun H locs hP hD hS => ?_)
            have hP : va_P (dC, dI) classes [(om k0 a I0 J0), (oa (a 1) cI 201 kd), (oa (a 11) cI 201 (upd mn f 4)), (oa (a 12) cI 8040 (upd cx1 (40 * f + k) (I0 46))), (oa (a 13) cI 8040 (upd cy1 (40 * f + k) (I0 45)))] H := hP
            have hD : va_D A [(om k0 a I0 J0), (oa (a 1) cI 201 kd), (oa (a 11) cI 201 (upd mn f 4)), (oa (a 12) cI 8040 (upd cx1 (40 * f + k) (I0 46))), (oa (a 13) cI 8040 (upd cy1 (40 * f + k) (I0 45)))] := hD
            refine lv_iinc (v := nI (k + 1)) (lv' := [(2, .int (nI (k + 1))), (0, .ref k0), (1, .int (nI f))]) hx hb dX11_layBox_73 hl (k := 0) rfl (nI_add k 1) (by decide) rfl (fun ls hl => ?_)
            refine lv_goto (tgt := 9) hx hb dX11_layBox_76 (by decide) ?_
            exact ih_9 (k + 1) (upd cx1 (40 * f + k) (I0 46)) (upd cy1 (40 * f + k) (I0 45)) H locs ls (by omega) (by omega) (bxX_s hcx (by first | (exfalso; omega) | (rw [if_pos (by omega)]) | (rw [if_neg (by omega)]))) (bxY_s hcy (by first | (exfalso; omega) | (rw [if_pos (by omega)]) | (rw [if_neg (by omega)]))) hP hD hS (lv_sub hl [0, 1, 2] rfl)
          · have c_3 : 1 < ((k : Nat) : Int) := zc_nle (nI_toInt (by omega)) (by decide) c_3
            refine lv_aload_n hx hb dX11_layBox_61 rfl (lv_at hl 1 rfl) ?_
            refine va_get (D := (dC, dI)) (ci := 9) (v := .int (I0 47)) (C := RX11) (T := TX11) (N := 55) hx hb hts inX11 hown hK hP 0 rfl rfl 47 (by decide) (hts _ mw_1206) (fun _ h9 => h9) rfl dX11_layBox_62 ?_
            refine lv_goto (tgt := 72) hx hb dX11_layBox_65 (by decide) ?_
            refine z_iast hx hb hK hP hD hS 4 0 rfl rfl (e := 40 * f + k) (x := I0 47) rfl (by omega) (by omega) dX11_layBox_72 (fun H locs hP hD hS => ?_)
            have hP : va_P (dC, dI) classes [(om k0 a I0 J0), (oa (a 1) cI 201 kd), (oa (a 11) cI 201 (upd mn f 4)), (oa (a 12) cI 8040 (upd cx1 (40 * f + k) (I0 46))), (oa (a 13) cI 8040 (upd cy1 (40 * f + k) (I0 47)))] H := hP
            have hD : va_D A [(om k0 a I0 J0), (oa (a 1) cI 201 kd), (oa (a 11) cI 201 (upd mn f 4)), (oa (a 12) cI 8040 (upd cx1 (40 * f + k) (I0 46))), (oa (a 13) cI 8040 (upd cy1 (40 * f + k) (I0 47)))] := hD
            refine lv_iinc (v := nI (k + 1)) (lv' := [(2, .int (nI (k + 1))), (0, .ref k0), (1, .int (nI f))]) hx hb dX11_layBox_73 hl (k := 0) rfl (nI_add k 1) (by decide) rfl (fun ls hl => ?_)
            refine lv_goto (tgt := 9) hx hb dX11_layBox_76 (by decide) ?_
            exact ih_9 (k + 1) (upd cx1 (40 * f + k) (I0 46)) (upd cy1 (40 * f + k) (I0 47)) H locs ls (by omega) (by omega) (bxX_s hcx (by first | (exfalso; omega) | (rw [if_pos (by omega)]) | (rw [if_neg (by omega)]))) (bxY_s hcy (by first | (exfalso; omega) | (rw [if_pos (by omega)]) | (rw [if_neg (by omega)]))) hP hD hS (lv_sub hl [0, 1, 2] rfl)
        · have c_2 : ¬ ((k : Nat) : Int) = 1 := zc_ne (nI_toInt (by omega)) (by decide) c_2
          refine lv_iload_n hx hb dX11_layBox_29 rfl (lv_at hl 0 rfl) ?_
          refine lv_iconst (v := 2) hx hb dX11_layBox_30 (by decide) ?_
          refine lv_icmp_ne (tgt := 41) hx hb dX11_layBox_31 (by decide) (fun c_4 => ?_) (fun c_4 => ?_)
          · have c_4 : ¬ ((k : Nat) : Int) = 2 := zc_ne (nI_toInt (by omega)) (by decide) c_4
            refine lv_aload_n hx hb dX11_layBox_41 rfl (lv_at hl 1 rfl) ?_
            refine va_get (D := (dC, dI)) (ci := 9) (v := .int (I0 44)) (C := RX11) (T := TX11) (N := 55) hx hb hts inX11 hown hK hP 0 rfl rfl 44 (by decide) (hts _ mw_1203) (fun _ h9 => h9) rfl dX11_layBox_42 ?_
            refine z_iast hx hb hK hP hD hS 3 0 rfl rfl (e := 40 * f + k) (x := I0 44) rfl (by omega) (by omega) dX11_layBox_45 (fun H locs hP hD hS => ?_)
            have hP : va_P (dC, dI) classes [(om k0 a I0 J0), (oa (a 1) cI 201 kd), (oa (a 11) cI 201 (upd mn f 4)), (oa (a 12) cI 8040 (upd cx1 (40 * f + k) (I0 44))), (oa (a 13) cI 8040 cy1)] H := hP
            have hD : va_D A [(om k0 a I0 J0), (oa (a 1) cI 201 kd), (oa (a 11) cI 201 (upd mn f 4)), (oa (a 12) cI 8040 (upd cx1 (40 * f + k) (I0 44))), (oa (a 13) cI 8040 cy1)] := hD
            refine lv_aload_n hx hb dX11_layBox_46 rfl (lv_at hl 1 rfl) ?_
            refine va_get (D := (dC, dI)) (ci := 9) (v := .ref (a 13)) (C := RX11) (T := TX11) (N := 55) hx hb hts inX11 hown hK hP 0 rfl rfl 13 (by decide) (hts _ mw_1172) (fun _ h9 => h9) rfl dX11_layBox_47 ?_
            refine lv_bipush (v := 40) hx hb dX11_layBox_50 (by decide) ?_
            refine lv_iload_n hx hb dX11_layBox_52 rfl (lv_at hl 2 rfl) ?_
            refine lv_imul hx hb dX11_layBox_53 ?_
            refine zz_i (v := nI (40 * f)) (pk_mul 40 f) ?_
            refine lv_iload_n hx hb dX11_layBox_54 rfl (lv_at hl 0 rfl) ?_
            refine lv_iadd hx hb dX11_layBox_55 ?_
            refine zz_i (v := nI (40 * f + k)) (nI_add (40 * f) k) ?_
            refine lv_iload_n hx hb dX11_layBox_56 rfl (lv_at hl 0 rfl) ?_
            refine lv_iconst (v := 1) hx hb dX11_layBox_57 (by decide) ?_
            refine lv_icmp_le (tgt := 68) hx hb dX11_layBox_58 (by decide) (fun c_5 => ?_) (fun c_5 => ?_)
            · have c_5 : ((k : Nat) : Int) ≤ 1 := zc_le (nI_toInt (by omega)) (by decide) c_5
              refine lv_aload_n hx hb dX11_layBox_68 rfl (lv_at hl 1 rfl) ?_
              refine va_get (D := (dC, dI)) (ci := 9) (v := .int (I0 45)) (C := RX11) (T := TX11) (N := 55) hx hb hts inX11 hown hK hP 0 rfl rfl 45 (by decide) (hts _ mw_1204) (fun _ h9 => h9) rfl dX11_layBox_69 ?_
              refine z_iast hx hb hK hP hD hS 4 0 rfl rfl (e := 40 * f + k) (x := I0 45) rfl (by omega) (by omega) dX11_layBox_72 (fun H locs hP hD hS => ?_)
              have hP : va_P (dC, dI) classes [(om k0 a I0 J0), (oa (a 1) cI 201 kd), (oa (a 11) cI 201 (upd mn f 4)), (oa (a 12) cI 8040 (upd cx1 (40 * f + k) (I0 44))), (oa (a 13) cI 8040 (upd cy1 (40 * f + k) (I0 45)))] H := hP
              have hD : va_D A [(om k0 a I0 J0), (oa (a 1) cI 201 kd), (oa (a 11) cI 201 (upd mn f 4)), (oa (a 12) cI 8040 (upd cx1 (40 * f + k) (I0 44))), (oa (a 13) cI 8040 (upd cy1 (40 * f + k) (I0 45)))] := hD
              refine lv_iinc (v := nI (k + 1)) (lv' := [(2, .int (nI (k + 1))), (0, .ref k0), (1, .int (nI f))]) hx hb dX11_layBox_73 hl (k := 0) rfl (nI_add k 1) (by decide) rfl (fun ls hl => ?_)
              refine lv_goto (tgt := 9) hx hb dX11_layBox_76 (by decide) ?_
              exact ih_9 (k + 1) (upd cx1 (40 * f + k) (I0 44)) (upd cy1 (40 * f + k) (I0 45)) H locs ls (by omega) (by omega) (bxX_s hcx (by first | (exfalso; omega) | (rw [if_pos (by omega)]) | (rw [if_neg (by omega)]))) (bxY_s hcy (by first | (exfalso; omega) | (rw [if_pos (by omega)]) | (rw [if_neg (by omega)]))) hP hD hS (lv_sub hl [0, 1, 2] rfl)
            · have c_5 : 1 < ((k : Nat) : Int) := zc_nle (nI_toInt (by omega)) (by decide) c_5
              refine lv_aload_n hx hb dX11_layBox_61 rfl (lv_at hl 1 rfl) ?_
              refine va_get (D := (dC, dI)) (ci := 9) (v := .int (I0 47)) (C := RX11) (T := TX11) (N := 55) hx hb hts inX11 hown hK hP 0 rfl rfl 47 (by decide) (hts _ mw_1206) (fun _ h9 => h9) rfl dX11_layBox_62 ?_
              refine lv_goto (tgt := 72) hx hb dX11_layBox_65 (by decide) ?_
              refine z_iast hx hb hK hP hD hS 4 0 rfl rfl (e := 40 * f + k) (x := I0 47) rfl (by omega) (by omega) dX11_layBox_72 (fun H locs hP hD hS => ?_)
              have hP : va_P (dC, dI) classes [(om k0 a I0 J0), (oa (a 1) cI 201 kd), (oa (a 11) cI 201 (upd mn f 4)), (oa (a 12) cI 8040 (upd cx1 (40 * f + k) (I0 44))), (oa (a 13) cI 8040 (upd cy1 (40 * f + k) (I0 47)))] H := hP
              have hD : va_D A [(om k0 a I0 J0), (oa (a 1) cI 201 kd), (oa (a 11) cI 201 (upd mn f 4)), (oa (a 12) cI 8040 (upd cx1 (40 * f + k) (I0 44))), (oa (a 13) cI 8040 (upd cy1 (40 * f + k) (I0 47)))] := hD
              refine lv_iinc (v := nI (k + 1)) (lv' := [(2, .int (nI (k + 1))), (0, .ref k0), (1, .int (nI f))]) hx hb dX11_layBox_73 hl (k := 0) rfl (nI_add k 1) (by decide) rfl (fun ls hl => ?_)
              refine lv_goto (tgt := 9) hx hb dX11_layBox_76 (by decide) ?_
              exact ih_9 (k + 1) (upd cx1 (40 * f + k) (I0 44)) (upd cy1 (40 * f + k) (I0 47)) H locs ls (by omega) (by omega) (bxX_s hcx (by first | (exfalso; omega) | (rw [if_pos (by omega)]) | (rw [if_neg (by omega)]))) (bxY_s hcy (by first | (exfalso; omega) | (rw [if_pos (by omega)]) | (rw [if_neg (by omega)]))) hP hD hS (lv_sub hl [0, 1, 2] rfl)
          · have c_4 : ((k : Nat) : Int) = 2 := zc_eq (nI_toInt (by omega)) (by decide) c_4
            refine lv_aload_n hx hb dX11_layBox_34 rfl (lv_at hl 1 rfl) ?_
            refine va_get (D := (dC, dI)) (ci := 9) (v := .int (I0 46)) (C := RX11) (T := TX11) (N := 55) hx hb hts inX11 hown hK hP 0 rfl rfl 46 (by decide) (hts _ mw_1205) (fun _ h9 => h9) rfl dX11_layBox_35 ?_
            refine lv_goto (tgt := 45) hx hb dX11_layBox_38 (by decide) ?_
            refine z_iast hx hb hK hP hD hS 3 0 rfl rfl (e := 40 * f + k) (x := I0 46) rfl (by omega) (by omega) dX11_layBox_45 (fun H locs hP hD hS => ?_)
            have hP : va_P (dC, dI) classes [(om k0 a I0 J0), (oa (a 1) cI 201 kd), (oa (a 11) cI 201 (upd mn f 4)), (oa (a 12) cI 8040 (upd cx1 (40 * f + k) (I0 46))), (oa (a 13) cI 8040 cy1)] H := hP
            have hD : va_D A [(om k0 a I0 J0), (oa (a 1) cI 201 kd), (oa (a 11) cI 201 (upd mn f 4)), (oa (a 12) cI 8040 (upd cx1 (40 * f + k) (I0 46))), (oa (a 13) cI 8040 cy1)] := hD
            refine lv_aload_n hx hb dX11_layBox_46 rfl (lv_at hl 1 rfl) ?_
            refine va_get (D := (dC, dI)) (ci := 9) (v := .ref (a 13)) (C := RX11) (T := TX11) (N := 55) hx hb hts inX11 hown hK hP 0 rfl rfl 13 (by decide) (hts _ mw_1172) (fun _ h9 => h9) rfl dX11_layBox_47 ?_
            refine lv_bipush (v := 40) hx hb dX11_layBox_50 (by decide) ?_
            refine lv_iload_n hx hb dX11_layBox_52 rfl (lv_at hl 2 rfl) ?_
            refine lv_imul hx hb dX11_layBox_53 ?_
            refine zz_i (v := nI (40 * f)) (pk_mul 40 f) ?_
            refine lv_iload_n hx hb dX11_layBox_54 rfl (lv_at hl 0 rfl) ?_
            refine lv_iadd hx hb dX11_layBox_55 ?_
            refine zz_i (v := nI (40 * f + k)) (nI_add (40 * f) k) ?_
            refine lv_iload_n hx hb dX11_layBox_56 rfl (lv_at hl 0 rfl) ?_
            refine lv_iconst (v := 1) hx hb dX11_layBox_57 (by decide) ?_
            refine lv_icmp_le (tgt := 68) hx hb dX11_layBox_58 (by decide) (fun c_6 => ?_) (fun c_6 => ?_)
            · have c_6 : ((k : Nat) : Int) ≤ 1 := zc_le (nI_toInt (by omega)) (by decide) c_6
              refine lv_aload_n hx hb dX11_layBox_68 rfl (lv_at hl 1 rfl) ?_
              refine va_get (D := (dC, dI)) (ci := 9) (v := .int (I0 45)) (C := RX11) (T := TX11) (N := 55) hx hb hts inX11 hown hK hP 0 rfl rfl 45 (by decide) (hts _ mw_1204) (fun _ h9 => h9) rfl dX11_layBox_69 ?_
              refine z_iast hx hb hK hP hD hS 4 0 rfl rfl (e := 40 * f + k) (x := I0 45) rfl (by omega) (by omega) dX11_layBox_72 (fun H locs hP hD hS => ?_)
              have hP : va_P (dC, dI) classes [(om k0 a I0 J0), (oa (a 1) cI 201 kd), (oa (a 11) cI 201 (upd mn f 4)), (oa (a 12) cI 8040 (upd cx1 (40 * f + k) (I0 46))), (oa (a 13) cI 8040 (upd cy1 (40 * f + k) (I0 45)))] H := hP
              have hD : va_D A [(om k0 a I0 J0), (oa (a 1) cI 201 kd), (oa (a 11) cI 201 (upd mn f 4)), (oa (a 12) cI 8040 (upd cx1 (40 * f + k) (I0 46))), (oa (a 13) cI 8040 (upd cy1 (40 * f + k) (I0 45)))] := hD
              refine lv_iinc (v := nI (k + 1)) (lv' := [(2, .int (nI (k + 1))), (0, .ref k0), (1, .int (nI f))]) hx hb dX11_layBox_73 hl (k := 0) rfl (nI_add k 1) (by decide) rfl (fun ls hl => ?_)
              refine lv_goto (tgt := 9) hx hb dX11_layBox_76 (by decide) ?_
              exact ih_9 (k + 1) (upd cx1 (40 * f + k) (I0 46)) (upd cy1 (40 * f + k) (I0 45)) H locs ls (by omega) (by omega) (bxX_s hcx (by first | (exfalso; omega) | (rw [if_pos (by omega)]) | (rw [if_neg (by omega)]))) (bxY_s hcy (by first | (exfalso; omega) | (rw [if_pos (by omega)]) | (rw [if_neg (by omega)]))) hP hD hS (lv_sub hl [0, 1, 2] rfl)
            · have c_6 : 1 < ((k : Nat) : Int) := zc_nle (nI_toInt (by omega)) (by decide) c_6
              refine lv_aload_n hx hb dX11_layBox_61 rfl (lv_at hl 1 rfl) ?_
              refine va_get (D := (dC, dI)) (ci := 9) (v := .int (I0 47)) (C := RX11) (T := TX11) (N := 55) hx hb hts inX11 hown hK hP 0 rfl rfl 47 (by decide) (hts _ mw_1206) (fun _ h9 => h9) rfl dX11_layBox_62 ?_
              refine lv_goto (tgt := 72) hx hb dX11_layBox_65 (by decide) ?_
              refine z_iast hx hb hK hP hD hS 4 0 rfl rfl (e := 40 * f + k) (x := I0 47) rfl (by omega) (by omega) dX11_layBox_72 (fun H locs hP hD hS => ?_)
              have hP : va_P (dC, dI) classes [(om k0 a I0 J0), (oa (a 1) cI 201 kd), (oa (a 11) cI 201 (upd mn f 4)), (oa (a 12) cI 8040 (upd cx1 (40 * f + k) (I0 46))), (oa (a 13) cI 8040 (upd cy1 (40 * f + k) (I0 47)))] H := hP
              have hD : va_D A [(om k0 a I0 J0), (oa (a 1) cI 201 kd), (oa (a 11) cI 201 (upd mn f 4)), (oa (a 12) cI 8040 (upd cx1 (40 * f + k) (I0 46))), (oa (a 13) cI 8040 (upd cy1 (40 * f + k) (I0 47)))] := hD
              refine lv_iinc (v := nI (k + 1)) (lv' := [(2, .int (nI (k + 1))), (0, .ref k0), (1, .int (nI f))]) hx hb dX11_layBox_73 hl (k := 0) rfl (nI_add k 1) (by decide) rfl (fun ls hl => ?_)
              refine lv_goto (tgt := 9) hx hb dX11_layBox_76 (by decide) ?_
              exact ih_9 (k + 1) (upd cx1 (40 * f + k) (I0 46)) (upd cy1 (40 * f + k) (I0 47)) H locs ls (by omega) (by omega) (bxX_s hcx (by first | (exfalso; omega) | (rw [if_pos (by omega)]) | (rw [if_neg (by omega)]))) (bxY_s hcy (by first | (exfalso; omega) | (rw [if_pos (by omega)]) | (rw [if_neg (by omega)]))) hP hD hS (lv_sub hl [0, 1, 2] rfl)
  exact hl_9 _ 0 cx cy H locs ls (Nat.lt_succ_self _) (by omega) (bxX_0 _ _ _ _) (bxY_0 _ _ _ _) hP hD hS (lv_sub hl [0, 1, 2] rfl)
