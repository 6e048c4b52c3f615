set_option maxHeartbeats 4000000 in
set_option maxRecDepth 100000 in
theorem k_M_wayOf (l : Launch) (dC : Nat → ClassId) (dI : Nat → Nat → Nat) (cI cZ cF : ClassId) (sz : Nat) (k0 : Nat) (a : Nat → Nat) (I0 : Nat → Int32) (J0 : Nat → Int64) (f : Nat) (n : Nat) (kk : Nat) (i : Nat) (kd : Nat → Int32) (hf_f : f ≤ 200) (hi9 : i < n) (hk9 : kk < n) (hn40 : n ≤ 40) : Met l yX11_wayOf (.code yX11_wayOf cX11_wayOf 5 (some .int) :: ws0) ({ frames := 1, cells := 0, slots := 0, locals := 21 } : Room) (va_Pc [.ref k0, .int (nI f), .int (nI kk), .int (nI i)] (zPre (dC, dI) classes (zTy cI cZ cF) [(om k0 a (upd I0 35 (nI n)) J0), (oa (a 1) cI 201 kd)] sz zXN)) (zQ (some (.int (nI (wyR (kd f).toInt n kk i)))) (fun t => va_P (dC, dI) classes [(om k0 a (upd I0 35 (nI n)) J0), (oa (a 1) cI 201 kd)] t.heap ∧ va_D (va_A [(om k0 a (upd I0 35 (nI n)) J0), (oa (a 1) cI 201 kd)] sz) [(om k0 a (upd I0 35 (nI n)) J0), (oa (a 1) cI 201 kd)]) (va_A [(om k0 a (upd I0 35 (nI n)) J0), (oa (a 1) cI 201 kd)] sz)) 0 0 (va_A [(om k0 a (upd I0 35 (nI n)) J0), (oa (a 1) cI 201 kd)] sz) := by
  refine Met.ofW (cc := cX11_wayOf) (maxL := 5) (ret := (some .int)) (by decide) rfl ?_
  intro p e s m args below meth c s₁ B hml hv
  obtain ⟨rfl, hsz, hP, hK, hD0, hXN⟩ := hv
  have hx := B.exec
  have hb := B.bytes
  have hr := B.returns
  have hts0 := atoms_spec (ws := .code yX11_wayOf cX11_wayOf 5 (some .int) :: ws0) B.pre
  have hts : ∀ w9 ∈ ws0, w9.before ([.ref k0, .int (nI f), .int (nI kk), .int (nI i)] : List Value).toArray s = true := fun w9 h => hts0 w9 (List.mem_cons_of_mem _ h)
  have hown : s.vm.findClass "ScaleShopModel" = some m.cls := findClass_of_methodNamed B.named
  have hlocks := B.notSynchronized
  subst hsz
  have hD := hD0.self (sz := s.heap.size)
  clear hD0
  generalize hAe : va_A [(om k0 a (upd I0 35 (nI n)) J0), (oa (a 1) cI 201 kd)] s.heap.size = A at hD ⊢
  have hA : ∀ q : Nat, s.heap.size ≤ q → A q := fun q h => by rw [← hAe]; exact Or.inr h
  clear hAe
  have hS : va_S A s.heap s.heap [] := va_S.rf
  have hP : va_P (dC, dI) classes [(om k0 a (upd I0 35 (nI n)) J0), (oa (a 1) cI 201 kd)] s.heap := hP
  obtain ⟨Q9, hQ9⟩ : ∃ Q9 : State → Prop, Q9 = MQ below (zQ (some (.int (nI (wyR (kd f).toInt n kk i)))) (fun t => va_P (dC, dI) classes [(om k0 a (upd I0 35 (nI n)) J0), (oa (a 1) cI 201 kd)] t.heap ∧ va_D A [(om k0 a (upd I0 35 (nI n)) J0), (oa (a 1) cI 201 kd)]) A) ([.ref k0, .int (nI f), .int (nI kk), .int (nI i)] : List Value).toArray s 0 0 A := ⟨_, rfl⟩
  rw [← hQ9]
  have hl := lv_entry ([.ref k0, .int (nI f), .int (nI kk), .int (nI i)]) (n := 5) (Nat.le_of_ble_eq_true rfl)
  rw [lg_entry_eq]
  generalize (lg_sl ([.ref k0, .int (nI f), .int (nI kk), .int (nI i)]) ++ List.replicate (5 - (lg_sl ([.ref k0, .int (nI f), .int (nI kk), .int (nI i)])).length) Slot.unset).toArray = ls at hl ⊢
  have hl : lv_has ls 5 [(0, .ref k0), (1, .int (nI f)), (2, .int (nI kk)), (3, .int (nI i))] := hl
  refine lv_iload_n hx hb dX11_wayOf_0 rfl (lv_at hl 3 rfl) ?_
  refine lv_iload_n hx hb dX11_wayOf_1 rfl (lv_at hl 2 rfl) ?_
  refine lv_isub hx hb dX11_wayOf_2 ?_
  refine zz_i (v := iI (((i : Nat) : Int) - ((kk : Nat) : Int))) (iI_of (by rw [fb_subI (by rw [nI_toInt (by omega), nI_toInt (by omega)]; omega) (by rw [nI_toInt (by omega), nI_toInt (by omega)]; omega), nI_toInt (by omega), nI_toInt (by omega)])) ?_
  refine va_mabs hx hb (by rw [hml]; exact hl.1.symm) hown (hts _ mw_1562) (hts _ mw_589) (hts _ mw_103) (hts _ mw_abscode) (Nat.le_of_ble_eq_true rfl) (Nat.le_of_ble_eq_true rfl) (Nat.le_of_ble_eq_true rfl) (Nat.le_of_ble_eq_true rfl) dX11_wayOf_3 ?_
  refine zz_i (v := nI (Int.natAbs (((i : Nat) : Int) - ((kk : Nat) : Int)))) (zabs (iI_toInt (by omega)) (by omega)) ?_
  refine lv_istore (lv' := [(4, .int (nI (Int.natAbs (((i : Nat) : Int) - ((kk : Nat) : Int))))), (0, .ref k0), (1, .int (nI f)), (2, .int (nI kk)), (3, .int (nI i))]) hx hb dX11_wayOf_6 hl (by decide) rfl (fun ls hl => ?_)
  refine lv_aload_n hx hb dX11_wayOf_8 rfl (lv_at hl 1 rfl) ?_
  refine lv_iload_n hx hb dX11_wayOf_9 rfl (lv_at hl 2 rfl) ?_
  have hPc := hP.sub (ws' := [(om k0 a (upd I0 35 (nI n)) J0), (oa (a 1) cI 201 kd)]) [0, 1] rfl
  have hDc := hD.sub (ws' := [(om k0 a (upd I0 35 (nI n)) J0), (oa (a 1) cI 201 kd)]) [0, 1] (by decide) rfl
  have hFc := va_free (wc := [(om k0 a (upd I0 35 (nI n)) J0), (oa (a 1) cI 201 kd)]) hD hS hA [0, 1] rfl
  refine zcall (st1 := [.int (pI (5 ≤ (kd f).toInt))]) (va_runV (As := [.int (nI f)]) (rest := []) ⟨hx, hb, hml, hown, hts⟩ (k_M_isRing l dC dI cI cZ cF s.heap.size k0 a (upd I0 35 (nI n)) J0 f kd (by omega)) (cwV 1 hts (zz_gV mw_1365 mw_1367 mw_40 mw_110 mc_yX11_isRing) rfl rfl rfl (by decide +kernel) ⟨Nat.le_of_ble_eq_true rfl, Nat.le_of_ble_eq_true rfl⟩) (zPV2 (q0 := 0) (ci := 9) hPc hDc hK hXN rfl rfl) rfl rfl hl.1 rfl (lv_room (Nat.le_of_ble_eq_true rfl)) dX11_wayOf_10 ⟨Nat.le_of_ble_eq_true rfl, Nat.le_of_ble_eq_true rfl⟩) hS hFc hFc rfl (fun t H1 locs ht hB hk1 hS => ?_)
  obtain ⟨hP1, hD1⟩ := hB
  rw [ht] at hP1
  obtain ⟨hP, hD⟩ := va_join (wr := []) (w1 := [(om k0 a (upd I0 35 (nI n)) J0), (oa (a 1) cI 201 kd)]) hP hD [0, 1] [] rfl rfl (by decide) (by decide) hk1 hFc hP1 hD1
  clear hk1 hPc hDc hFc hP1 hD1 ht
  generalize H1 = H at hP hS ⊢
  have hP : va_P (dC, dI) classes [(om k0 a (upd I0 35 (nI n)) J0), (oa (a 1) cI 201 kd)] H := hP
  have hD : va_D A [(om k0 a (upd I0 35 (nI n)) J0), (oa (a 1) cI 201 kd)] := hD
  refine lv_if_eq (tgt := 31) hx hb dX11_wayOf_13 (by decide) (fun c_1 => ?_) (fun c_1 => ?_)
  · have c_1 : ¬ (5 ≤ (kd f).toInt) := zp_0 c_1
    refine lv_iload hx hb dX11_wayOf_31 (lv_at hl 0 rfl) ?_
    have hP9 := hP.sub (ws' := [(om k0 a (upd I0 35 (nI n)) J0), (oa (a 1) cI 201 kd)]) [0, 1] rfl
    have hD9 := hD.sub (ws' := [(om k0 a (upd I0 35 (nI n)) J0), (oa (a 1) cI 201 kd)]) [0, 1] (by decide) rfl
    rw [hQ9]
    exact W.iret (v := nI (Int.natAbs (((i : Nat) : Int) - ((kk : Nat) : Int)))) hx hb hr (fun t ht hW => ⟨⟨congrArg (fun z => Outcome.returned (some (Value.int z))) (show (nI (Int.natAbs (((i : Nat) : Int) - ((kk : Nat) : Int))) : Int32) = nI (wyR (kd f).toInt n kk i) from zn_eq (by unfold wyR; first | (rw [if_pos (by assumption)]) | (rw [if_neg (by assumption)]))), by rw [ht]; exact hP9, hD9⟩, hS.F ht⟩) hS.2.2 dX11_wayOf_33
  · have c_1 : 5 ≤ (kd f).toInt := zp_1 c_1
    refine lv_iload hx hb dX11_wayOf_16 (lv_at hl 0 rfl) ?_
    refine lv_aload_n hx hb dX11_wayOf_18 rfl (lv_at hl 1 rfl) ?_
    refine va_get (D := (dC, dI)) (ci := 9) (v := .int (nI n)) (C := RX11) (T := TX11) (N := 55) hx hb hts inX11 hown hK hP 0 rfl rfl 35 (by decide) (hts _ mw_1194) (fun _ h9 => h9) rfl dX11_wayOf_19 ?_
    refine lv_iload hx hb dX11_wayOf_22 (lv_at hl 0 rfl) ?_
    refine lv_isub hx hb dX11_wayOf_24 ?_
    refine zz_i (v := nI (n - (Int.natAbs (((i : Nat) : Int) - ((kk : Nat) : Int))))) (pk_sub (a := n) (b := Int.natAbs (((i : Nat) : Int) - ((kk : Nat) : Int))) (by omega)) ?_
    refine va_mmin hx hb (by rw [hml]; exact hl.1.symm) hown (hts _ mw_1397) (hts _ mw_858) (hts _ mw_103) (hts _ mw_mincode) (Nat.le_of_ble_eq_true rfl) (Nat.le_of_ble_eq_true rfl) (Nat.le_of_ble_eq_true rfl) (Nat.le_of_ble_eq_true rfl) dX11_wayOf_25 ?_
    refine lv_topi (fun v_2 ev_2 => ?_)
    have hv_2 : v_2.toInt = min ((Int.natAbs (((i : Nat) : Int) - ((kk : Nat) : Int)) : Nat) : Int) ((n - (Int.natAbs (((i : Nat) : Int) - ((kk : Nat) : Int))) : Nat) : Int) := zmin (nI_toInt (by omega)) (nI_toInt (by omega)) ev_2
    refine zz_i (v := nI (min (Int.natAbs (((i : Nat) : Int) - ((kk : Nat) : Int))) (n - Int.natAbs (((i : Nat) : Int) - ((kk : Nat) : Int))))) (Int32.toInt_inj.mp (by rw [hv_2, nI_toInt (by omega)]; omega)) ?_
    refine lv_goto (tgt := 33) hx hb dX11_wayOf_28 (by decide) ?_
    have hP9 := hP.sub (ws' := [(om k0 a (upd I0 35 (nI n)) J0), (oa (a 1) cI 201 kd)]) [0, 1] rfl
    have hD9 := hD.sub (ws' := [(om k0 a (upd I0 35 (nI n)) J0), (oa (a 1) cI 201 kd)]) [0, 1] (by decide) rfl
    rw [hQ9]
    exact W.iret (v := nI (min (Int.natAbs (((i : Nat) : Int) - ((kk : Nat) : Int))) (n - Int.natAbs (((i : Nat) : Int) - ((kk : Nat) : Int))))) hx hb hr (fun t ht hW => ⟨⟨congrArg (fun z => Outcome.returned (some (Value.int z))) (show (nI (min (Int.natAbs (((i : Nat) : Int) - ((kk : Nat) : Int))) (n - Int.natAbs (((i : Nat) : Int) - ((kk : Nat) : Int)))) : Int32) = nI (wyR (kd f).toInt n kk i) from zn_eq (by unfold wyR; first | (rw [if_pos (by assumption)]) | (rw [if_neg (by assumption)]))), by rw [ht]; exact hP9, hD9⟩, hS.F ht⟩) hS.2.2 dX11_wayOf_33
