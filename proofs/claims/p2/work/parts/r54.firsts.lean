set_option maxHeartbeats 4000000 in
set_option maxRecDepth 100000 in
theorem k_M_feature_4 (l : Launch) (dC : Nat → ClassId) (dI : Nat → Nat → Nat) (cI cZ cF : ClassId) (sz : Nat) (k0 : Nat) (a : Nat → Nat) (I0 : Nat → Int32) (J0 : Nat → Int64) (k1 : Int32) (k2 : Int32) (k3 : Int32) (k4 : Int32) (hbad : ¬ ((0 ≤ k1.toInt ∧ k1.toInt ≤ 6 ∧ 0 ≤ k2.toInt ∧ k2.toInt ≤ 9) ∧ (0 ≤ k3.toInt ∧ k3.toInt ≤ 100 ∧ 0 ≤ k4.toInt ∧ k4.toInt ≤ 9))) : Met l yX11_feature (.code yX11_feature cX11_feature 6 (some .int) :: ws0) ({ frames := 1, cells := 0, slots := 0, locals := 21 } : Room) (va_Pc [.ref k0, .int k1, .int k2, .int k3, .int k4] (zPre (dC, dI) classes (zTy cI cZ cF) [(om k0 a I0 J0)] sz zXN)) (zQ (some (.int (-1))) (fun t => va_P (dC, dI) classes [(om k0 a (upd (upd I0 14 4) 15 (I0 15)) J0)] t.heap ∧ va_D (va_A [(om k0 a I0 J0)] sz) [(om k0 a (upd (upd I0 14 4) 15 (I0 15)) J0)]) (va_A [(om k0 a I0 J0)] sz)) 0 0 (va_A [(om k0 a I0 J0)] sz) := by
  refine Met.ofW (cc := cX11_feature) (maxL := 6) (ret := (some .int)) (by decide) rfl ?_
  intro p e s m args below meth c s₁ B hml hv
  obtain ⟨rfl, hsz, hP, hK, hD0, hXN⟩ := hv
  have hx := B.exec
  have hb := B.bytes
  have hr := B.returns
  have hts0 := atoms_spec (ws := .code yX11_feature cX11_feature 6 (some .int) :: ws0) B.pre
  have hts : ∀ w9 ∈ ws0, w9.before ([.ref k0, .int k1, .int k2, .int k3, .int k4] : List Value).toArray s = true := fun w9 h => hts0 w9 (List.mem_cons_of_mem _ h)
  have hown : s.vm.findClass "ScaleShopModel" = some m.cls := findClass_of_methodNamed B.named
  have hlocks := B.notSynchronized
  subst hsz
  have hD := hD0.self (sz := s.heap.size)
  clear hD0
  generalize hAe : va_A [(om k0 a I0 J0)] s.heap.size = A at hD ⊢
  have hA : ∀ q : Nat, s.heap.size ≤ q → A q := fun q h => by rw [← hAe]; exact Or.inr h
  clear hAe
  have hS : va_S A s.heap s.heap [] := va_S.rf
  have hP : va_P (dC, dI) classes [(om k0 a I0 J0)] s.heap := hP
  obtain ⟨Q9, hQ9⟩ : ∃ Q9 : State → Prop, Q9 = MQ below (zQ (some (.int (-1))) (fun t => va_P (dC, dI) classes [(om k0 a (upd (upd I0 14 4) 15 (I0 15)) J0)] t.heap ∧ va_D A [(om k0 a (upd (upd I0 14 4) 15 (I0 15)) J0)]) A) ([.ref k0, .int k1, .int k2, .int k3, .int k4] : List Value).toArray s 0 0 A := ⟨_, rfl⟩
  rw [← hQ9]
  have hl := lv_entry ([.ref k0, .int k1, .int k2, .int k3, .int k4]) (n := 6) (Nat.le_of_ble_eq_true rfl)
  rw [lg_entry_eq]
  generalize (lg_sl ([.ref k0, .int k1, .int k2, .int k3, .int k4]) ++ List.replicate (6 - (lg_sl ([.ref k0, .int k1, .int k2, .int k3, .int k4])).length) Slot.unset).toArray = ls at hl ⊢
  have hl : lv_has ls 6 [(0, .ref k0), (1, .int k1), (2, .int k2), (3, .int k3), (4, .int k4)] := hl
  refine lv_iload_n hx hb dX11_feature_0 rfl (lv_at hl 1 rfl) ?_
  refine lv_if_lt (tgt := 42) hx hb dX11_feature_1 (by decide) (fun c_1 => ?_) (fun c_1 => ?_)
  · have c_1 : k1.toInt < 0 := zc_lt rfl (by decide) c_1
    refine lv_aload_n hx hb dX11_feature_42 rfl (lv_at hl 0 rfl) ?_
    refine lv_iconst (v := 4) hx hb dX11_feature_43 (by decide) ?_
    have hPc := hP.sub (ws' := [(om k0 a I0 J0)]) [0] rfl
    have hDc := hD.sub (ws' := [(om k0 a I0 J0)]) [0] (by decide) rfl
    have hFc := va_free (wc := [(om k0 a I0 J0)]) hD hS hA [0] rfl
    refine zcall (st1 := [.int (-1)]) (va_runV (As := [.int 4]) (rest := []) ⟨hx, hb, hml, hown, hts⟩ (k_M_refuse l dC dI cI cZ cF s.heap.size k0 a I0 J0 4 (by decide)) (cwV 1 hts (zz_gV mw_1329 mw_1331 mw_34 mw_110 mc_yX11_refuse) rfl rfl rfl (by decide +kernel) ⟨Nat.le_of_ble_eq_true rfl, Nat.le_of_ble_eq_true rfl⟩) (zPV2 (q0 := 0) (ci := 9) hPc hDc hK hXN rfl rfl) rfl rfl hl.1 rfl (lv_room (Nat.le_of_ble_eq_true rfl)) dX11_feature_44 ⟨Nat.le_of_ble_eq_true rfl, Nat.le_of_ble_eq_true rfl⟩) hS hFc hFc rfl (fun t H1 locs ht hB hk1 hS => ?_)
    obtain ⟨hP1, hD1⟩ := hB
    rw [ht] at hP1
    obtain ⟨hP, hD⟩ := va_join (wr := []) (w1 := [(om k0 a (upd (upd I0 14 4) 15 (I0 15)) J0)]) hP hD [0] [] rfl rfl (by decide) (by decide) hk1 hFc hP1 hD1
    clear hk1 hPc hDc hFc hP1 hD1 ht
    generalize H1 = H at hP hS ⊢
    have hP : va_P (dC, dI) classes [(om k0 a (upd (upd I0 14 4) 15 (I0 15)) J0)] H := hP
    have hD : va_D A [(om k0 a (upd (upd I0 14 4) 15 (I0 15)) J0)] := hD
    have hP9 := hP.sub (ws' := [(om k0 a (upd (upd I0 14 4) 15 (I0 15)) J0)]) [0] rfl
    have hD9 := hD.sub (ws' := [(om k0 a (upd (upd I0 14 4) 15 (I0 15)) J0)]) [0] (by decide) rfl
    rw [hQ9]
    exact W.iret (v := (-1)) hx hb hr (fun t ht hW => ⟨⟨rfl, by rw [ht]; exact hP9, hD9⟩, hS.F ht⟩) hS.2.2 dX11_feature_47
  · have c_1 : 0 ≤ k1.toInt := zc_nlt rfl (by decide) c_1
    refine lv_iload_n hx hb dX11_feature_4 rfl (lv_at hl 1 rfl) ?_
    refine lv_bipush (v := 6) hx hb dX11_feature_5 (by decide) ?_
    refine lv_icmp_gt (tgt := 42) hx hb dX11_feature_7 (by decide) (fun c_2 => ?_) (fun c_2 => ?_)
    · have c_2 : 6 < k1.toInt := zc_lt (by decide) rfl c_2
      refine lv_aload_n hx hb dX11_feature_42 rfl (lv_at hl 0 rfl) ?_
      refine lv_iconst (v := 4) hx hb dX11_feature_43 (by decide) ?_
      have hPc := hP.sub (ws' := [(om k0 a I0 J0)]) [0] rfl
      have hDc := hD.sub (ws' := [(om k0 a I0 J0)]) [0] (by decide) rfl
      have hFc := va_free (wc := [(om k0 a I0 J0)]) hD hS hA [0] rfl
      refine zcall (st1 := [.int (-1)]) (va_runV (As := [.int 4]) (rest := []) ⟨hx, hb, hml, hown, hts⟩ (k_M_refuse l dC dI cI cZ cF s.heap.size k0 a I0 J0 4 (by decide)) (cwV 1 hts (zz_gV mw_1329 mw_1331 mw_34 mw_110 mc_yX11_refuse) rfl rfl rfl (by decide +kernel) ⟨Nat.le_of_ble_eq_true rfl, Nat.le_of_ble_eq_true rfl⟩) (zPV2 (q0 := 0) (ci := 9) hPc hDc hK hXN rfl rfl) rfl rfl hl.1 rfl (lv_room (Nat.le_of_ble_eq_true rfl)) dX11_feature_44 ⟨Nat.le_of_ble_eq_true rfl, Nat.le_of_ble_eq_true rfl⟩) hS hFc hFc rfl (fun t H1 locs ht hB hk1 hS => ?_)
      obtain ⟨hP1, hD1⟩ := hB
      rw [ht] at hP1
      obtain ⟨hP, hD⟩ := va_join (wr := []) (w1 := [(om k0 a (upd (upd I0 14 4) 15 (I0 15)) J0)]) hP hD [0] [] rfl rfl (by decide) (by decide) hk1 hFc hP1 hD1
      clear hk1 hPc hDc hFc hP1 hD1 ht
      generalize H1 = H at hP hS ⊢
      have hP : va_P (dC, dI) classes [(om k0 a (upd (upd I0 14 4) 15 (I0 15)) J0)] H := hP
      have hD : va_D A [(om k0 a (upd (upd I0 14 4) 15 (I0 15)) J0)] := hD
      have hP9 := hP.sub (ws' := [(om k0 a (upd (upd I0 14 4) 15 (I0 15)) J0)]) [0] rfl
      have hD9 := hD.sub (ws' := [(om k0 a (upd (upd I0 14 4) 15 (I0 15)) J0)]) [0] (by decide) rfl
      rw [hQ9]
      exact W.iret (v := (-1)) hx hb hr (fun t ht hW => ⟨⟨rfl, by rw [ht]; exact hP9, hD9⟩, hS.F ht⟩) hS.2.2 dX11_feature_47
    · have c_2 : k1.toInt ≤ 6 := zc_nlt (by decide) rfl c_2
      refine lv_iload_n hx hb dX11_feature_10 rfl (lv_at hl 2 rfl) ?_
      refine lv_if_lt (tgt := 42) hx hb dX11_feature_11 (by decide) (fun c_3 => ?_) (fun c_3 => ?_)
      · have c_3 : k2.toInt < 0 := zc_lt rfl (by decide) c_3
        refine lv_aload_n hx hb dX11_feature_42 rfl (lv_at hl 0 rfl) ?_
        refine lv_iconst (v := 4) hx hb dX11_feature_43 (by decide) ?_
        have hPc := hP.sub (ws' := [(om k0 a I0 J0)]) [0] rfl
        have hDc := hD.sub (ws' := [(om k0 a I0 J0)]) [0] (by decide) rfl
        have hFc := va_free (wc := [(om k0 a I0 J0)]) hD hS hA [0] rfl
        refine zcall (st1 := [.int (-1)]) (va_runV (As := [.int 4]) (rest := []) ⟨hx, hb, hml, hown, hts⟩ (k_M_refuse l dC dI cI cZ cF s.heap.size k0 a I0 J0 4 (by decide)) (cwV 1 hts (zz_gV mw_1329 mw_1331 mw_34 mw_110 mc_yX11_refuse) rfl rfl rfl (by decide +kernel) ⟨Nat.le_of_ble_eq_true rfl, Nat.le_of_ble_eq_true rfl⟩) (zPV2 (q0 := 0) (ci := 9) hPc hDc hK hXN rfl rfl) rfl rfl hl.1 rfl (lv_room (Nat.le_of_ble_eq_true rfl)) dX11_feature_44 ⟨Nat.le_of_ble_eq_true rfl, Nat.le_of_ble_eq_true rfl⟩) hS hFc hFc rfl (fun t H1 locs ht hB hk1 hS => ?_)
        obtain ⟨hP1, hD1⟩ := hB
        rw [ht] at hP1
        obtain ⟨hP, hD⟩ := va_join (wr := []) (w1 := [(om k0 a (upd (upd I0 14 4) 15 (I0 15)) J0)]) hP hD [0] [] rfl rfl (by decide) (by decide) hk1 hFc hP1 hD1
        clear hk1 hPc hDc hFc hP1 hD1 ht
        generalize H1 = H at hP hS ⊢
        have hP : va_P (dC, dI) classes [(om k0 a (upd (upd I0 14 4) 15 (I0 15)) J0)] H := hP
        have hD : va_D A [(om k0 a (upd (upd I0 14 4) 15 (I0 15)) J0)] := hD
        have hP9 := hP.sub (ws' := [(om k0 a (upd (upd I0 14 4) 15 (I0 15)) J0)]) [0] rfl
        have hD9 := hD.sub (ws' := [(om k0 a (upd (upd I0 14 4) 15 (I0 15)) J0)]) [0] (by decide) rfl
        rw [hQ9]
        exact W.iret (v := (-1)) hx hb hr (fun t ht hW => ⟨⟨rfl, by rw [ht]; exact hP9, hD9⟩, hS.F ht⟩) hS.2.2 dX11_feature_47
      · have c_3 : 0 ≤ k2.toInt := zc_nlt rfl (by decide) c_3
        refine lv_iload_n hx hb dX11_feature_14 rfl (lv_at hl 2 rfl) ?_
        refine lv_bipush (v := 9) hx hb dX11_feature_15 (by decide) ?_
        refine lv_icmp_gt (tgt := 42) hx hb dX11_feature_17 (by decide) (fun c_4 => ?_) (fun c_4 => ?_)
        · have c_4 : 9 < k2.toInt := zc_lt (by decide) rfl c_4
          refine lv_aload_n hx hb dX11_feature_42 rfl (lv_at hl 0 rfl) ?_
          refine lv_iconst (v := 4) hx hb dX11_feature_43 (by decide) ?_
          have hPc := hP.sub (ws' := [(om k0 a I0 J0)]) [0] rfl
          have hDc := hD.sub (ws' := [(om k0 a I0 J0)]) [0] (by decide) rfl
          have hFc := va_free (wc := [(om k0 a I0 J0)]) hD hS hA [0] rfl
          refine zcall (st1 := [.int (-1)]) (va_runV (As := [.int 4]) (rest := []) ⟨hx, hb, hml, hown, hts⟩ (k_M_refuse l dC dI cI cZ cF s.heap.size k0 a I0 J0 4 (by decide)) (cwV 1 hts (zz_gV mw_1329 mw_1331 mw_34 mw_110 mc_yX11_refuse) rfl rfl rfl (by decide +kernel) ⟨Nat.le_of_ble_eq_true rfl, Nat.le_of_ble_eq_true rfl⟩) (zPV2 (q0 := 0) (ci := 9) hPc hDc hK hXN rfl rfl) rfl rfl hl.1 rfl (lv_room (Nat.le_of_ble_eq_true rfl)) dX11_feature_44 ⟨Nat.le_of_ble_eq_true rfl, Nat.le_of_ble_eq_true rfl⟩) hS hFc hFc rfl (fun t H1 locs ht hB hk1 hS => ?_)
          obtain ⟨hP1, hD1⟩ := hB
          rw [ht] at hP1
          obtain ⟨hP, hD⟩ := va_join (wr := []) (w1 := [(om k0 a (upd (upd I0 14 4) 15 (I0 15)) J0)]) hP hD [0] [] rfl rfl (by decide) (by decide) hk1 hFc hP1 hD1
          clear hk1 hPc hDc hFc hP1 hD1 ht
          generalize H1 = H at hP hS ⊢
          have hP : va_P (dC, dI) classes [(om k0 a (upd (upd I0 14 4) 15 (I0 15)) J0)] H := hP
          have hD : va_D A [(om k0 a (upd (upd I0 14 4) 15 (I0 15)) J0)] := hD
          have hP9 := hP.sub (ws' := [(om k0 a (upd (upd I0 14 4) 15 (I0 15)) J0)]) [0] rfl
          have hD9 := hD.sub (ws' := [(om k0 a (upd (upd I0 14 4) 15 (I0 15)) J0)]) [0] (by decide) rfl
          rw [hQ9]
          exact W.iret (v := (-1)) hx hb hr (fun t ht hW => ⟨⟨rfl, by rw [ht]; exact hP9, hD9⟩, hS.F ht⟩) hS.2.2 dX11_feature_47
        · have c_4 : k2.toInt ≤ 9 := zc_nlt (by decide) rfl c_4
          refine lv_iload_n hx hb dX11_feature_20 rfl (lv_at hl 3 rfl) ?_
          refine lv_if_lt (tgt := 42) hx hb dX11_feature_21 (by decide) (fun c_5 => ?_) (fun c_5 => ?_)
          · have c_5 : k3.toInt < 0 := zc_lt rfl (by decide) c_5
            refine lv_aload_n hx hb dX11_feature_42 rfl (lv_at hl 0 rfl) ?_
            refine lv_iconst (v := 4) hx hb dX11_feature_43 (by decide) ?_
            have hPc := hP.sub (ws' := [(om k0 a I0 J0)]) [0] rfl
            have hDc := hD.sub (ws' := [(om k0 a I0 J0)]) [0] (by decide) rfl
            have hFc := va_free (wc := [(om k0 a I0 J0)]) hD hS hA [0] rfl
            refine zcall (st1 := [.int (-1)]) (va_runV (As := [.int 4]) (rest := []) ⟨hx, hb, hml, hown, hts⟩ (k_M_refuse l dC dI cI cZ cF s.heap.size k0 a I0 J0 4 (by decide)) (cwV 1 hts (zz_gV mw_1329 mw_1331 mw_34 mw_110 mc_yX11_refuse) rfl rfl rfl (by decide +kernel) ⟨Nat.le_of_ble_eq_true rfl, Nat.le_of_ble_eq_true rfl⟩) (zPV2 (q0 := 0) (ci := 9) hPc hDc hK hXN rfl rfl) rfl rfl hl.1 rfl (lv_room (Nat.le_of_ble_eq_true rfl)) dX11_feature_44 ⟨Nat.le_of_ble_eq_true rfl, Nat.le_of_ble_eq_true rfl⟩) hS hFc hFc rfl (fun t H1 locs ht hB hk1 hS => ?_)
            obtain ⟨hP1, hD1⟩ := hB
            rw [ht] at hP1
            obtain ⟨hP, hD⟩ := va_join (wr := []) (w1 := [(om k0 a (upd (upd I0 14 4) 15 (I0 15)) J0)]) hP hD [0] [] rfl rfl (by decide) (by decide) hk1 hFc hP1 hD1
            clear hk1 hPc hDc hFc hP1 hD1 ht
            generalize H1 = H at hP hS ⊢
            have hP : va_P (dC, dI) classes [(om k0 a (upd (upd I0 14 4) 15 (I0 15)) J0)] H := hP
            have hD : va_D A [(om k0 a (upd (upd I0 14 4) 15 (I0 15)) J0)] := hD
            have hP9 := hP.sub (ws' := [(om k0 a (upd (upd I0 14 4) 15 (I0 15)) J0)]) [0] rfl
            have hD9 := hD.sub (ws' := [(om k0 a (upd (upd I0 14 4) 15 (I0 15)) J0)]) [0] (by decide) rfl
            rw [hQ9]
            exact W.iret (v := (-1)) hx hb hr (fun t ht hW => ⟨⟨rfl, by rw [ht]; exact hP9, hD9⟩, hS.F ht⟩) hS.2.2 dX11_feature_47
          · have c_5 : 0 ≤ k3.toInt := zc_nlt rfl (by decide) c_5
            refine lv_iload_n hx hb dX11_feature_24 rfl (lv_at hl 3 rfl) ?_
            refine lv_bipush (v := 100) hx hb dX11_feature_25 (by decide) ?_
            refine lv_icmp_gt (tgt := 42) hx hb dX11_feature_27 (by decide) (fun c_6 => ?_) (fun c_6 => ?_)
            · have c_6 : 100 < k3.toInt := zc_lt (by decide) rfl c_6
              refine lv_aload_n hx hb dX11_feature_42 rfl (lv_at hl 0 rfl) ?_
              refine lv_iconst (v := 4) hx hb dX11_feature_43 (by decide) ?_
              have hPc := hP.sub (ws' := [(om k0 a I0 J0)]) [0] rfl
              have hDc := hD.sub (ws' := [(om k0 a I0 J0)]) [0] (by decide) rfl
              have hFc := va_free (wc := [(om k0 a I0 J0)]) hD hS hA [0] rfl
              refine zcall (st1 := [.int (-1)]) (va_runV (As := [.int 4]) (rest := []) ⟨hx, hb, hml, hown, hts⟩ (k_M_refuse l dC dI cI cZ cF s.heap.size k0 a I0 J0 4 (by decide)) (cwV 1 hts (zz_gV mw_1329 mw_1331 mw_34 mw_110 mc_yX11_refuse) rfl rfl rfl (by decide +kernel) ⟨Nat.le_of_ble_eq_true rfl, Nat.le_of_ble_eq_true rfl⟩) (zPV2 (q0 := 0) (ci := 9) hPc hDc hK hXN rfl rfl) rfl rfl hl.1 rfl (lv_room (Nat.le_of_ble_eq_true rfl)) dX11_feature_44 ⟨Nat.le_of_ble_eq_true rfl, Nat.le_of_ble_eq_true rfl⟩) hS hFc hFc rfl (fun t H1 locs ht hB hk1 hS => ?_)
              obtain ⟨hP1, hD1⟩ := hB
              rw [ht] at hP1
              obtain ⟨hP, hD⟩ := va_join (wr := []) (w1 := [(om k0 a (upd (upd I0 14 4) 15 (I0 15)) J0)]) hP hD [0] [] rfl rfl (by decide) (by decide) hk1 hFc hP1 hD1
              clear hk1 hPc hDc hFc hP1 hD1 ht
              generalize H1 = H at hP hS ⊢
              have hP : va_P (dC, dI) classes [(om k0 a (upd (upd I0 14 4) 15 (I0 15)) J0)] H := hP
              have hD : va_D A [(om k0 a (upd (upd I0 14 4) 15 (I0 15)) J0)] := hD
              have hP9 := hP.sub (ws' := [(om k0 a (upd (upd I0 14 4) 15 (I0 15)) J0)]) [0] rfl
              have hD9 := hD.sub (ws' := [(om k0 a (upd (upd I0 14 4) 15 (I0 15)) J0)]) [0] (by decide) rfl
              rw [hQ9]
              exact W.iret (v := (-1)) hx hb hr (fun t ht hW => ⟨⟨rfl, by rw [ht]; exact hP9, hD9⟩, hS.F ht⟩) hS.2.2 dX11_feature_47
            · have c_6 : k3.toInt ≤ 100 := zc_nlt (by decide) rfl c_6
              refine lv_iload hx hb dX11_feature_30 (lv_at hl 4 rfl) ?_
              refine lv_if_lt (tgt := 42) hx hb dX11_feature_32 (by decide) (fun c_7 => ?_) (fun c_7 => ?_)
              · have c_7 : k4.toInt < 0 := zc_lt rfl (by decide) c_7
                refine lv_aload_n hx hb dX11_feature_42 rfl (lv_at hl 0 rfl) ?_
                refine lv_iconst (v := 4) hx hb dX11_feature_43 (by decide) ?_
                have hPc := hP.sub (ws' := [(om k0 a I0 J0)]) [0] rfl
                have hDc := hD.sub (ws' := [(om k0 a I0 J0)]) [0] (by decide) rfl
                have hFc := va_free (wc := [(om k0 a I0 J0)]) hD hS hA [0] rfl
                refine zcall (st1 := [.int (-1)]) (va_runV (As := [.int 4]) (rest := []) ⟨hx, hb, hml, hown, hts⟩ (k_M_refuse l dC dI cI cZ cF s.heap.size k0 a I0 J0 4 (by decide)) (cwV 1 hts (zz_gV mw_1329 mw_1331 mw_34 mw_110 mc_yX11_refuse) rfl rfl rfl (by decide +kernel) ⟨Nat.le_of_ble_eq_true rfl, Nat.le_of_ble_eq_true rfl⟩) (zPV2 (q0 := 0) (ci := 9) hPc hDc hK hXN rfl rfl) rfl rfl hl.1 rfl (lv_room (Nat.le_of_ble_eq_true rfl)) dX11_feature_44 ⟨Nat.le_of_ble_eq_true rfl, Nat.le_of_ble_eq_true rfl⟩) hS hFc hFc rfl (fun t H1 locs ht hB hk1 hS => ?_)
                obtain ⟨hP1, hD1⟩ := hB
                rw [ht] at hP1
                obtain ⟨hP, hD⟩ := va_join (wr := []) (w1 := [(om k0 a (upd (upd I0 14 4) 15 (I0 15)) J0)]) hP hD [0] [] rfl rfl (by decide) (by decide) hk1 hFc hP1 hD1
                clear hk1 hPc hDc hFc hP1 hD1 ht
                generalize H1 = H at hP hS ⊢
                have hP : va_P (dC, dI) classes [(om k0 a (upd (upd I0 14 4) 15 (I0 15)) J0)] H := hP
                have hD : va_D A [(om k0 a (upd (upd I0 14 4) 15 (I0 15)) J0)] := hD
                have hP9 := hP.sub (ws' := [(om k0 a (upd (upd I0 14 4) 15 (I0 15)) J0)]) [0] rfl
                have hD9 := hD.sub (ws' := [(om k0 a (upd (upd I0 14 4) 15 (I0 15)) J0)]) [0] (by decide) rfl
                rw [hQ9]
                exact W.iret (v := (-1)) hx hb hr (fun t ht hW => ⟨⟨rfl, by rw [ht]; exact hP9, hD9⟩, hS.F ht⟩) hS.2.2 dX11_feature_47
              · have c_7 : 0 ≤ k4.toInt := zc_nlt rfl (by decide) c_7
                refine lv_iload hx hb dX11_feature_35 (lv_at hl 4 rfl) ?_
                refine lv_bipush (v := 9) hx hb dX11_feature_37 (by decide) ?_
                refine lv_icmp_le (tgt := 48) hx hb dX11_feature_39 (by decide) (fun c_8 => ?_) (fun c_8 => ?_)
                · have c_8 : k4.toInt ≤ 9 := zc_le rfl (by decide) c_8
                  exfalso; omega
                · have c_8 : 9 < k4.toInt := zc_nle rfl (by decide) c_8
                  refine lv_aload_n hx hb dX11_feature_42 rfl (lv_at hl 0 rfl) ?_
                  refine lv_iconst (v := 4) hx hb dX11_feature_43 (by decide) ?_
                  have hPc := hP.sub (ws' := [(om k0 a I0 J0)]) [0] rfl
                  have hDc := hD.sub (ws' := [(om k0 a I0 J0)]) [0] (by decide) rfl
                  have hFc := va_free (wc := [(om k0 a I0 J0)]) hD hS hA [0] rfl
                  refine zcall (st1 := [.int (-1)]) (va_runV (As := [.int 4]) (rest := []) ⟨hx, hb, hml, hown, hts⟩ (k_M_refuse l dC dI cI cZ cF s.heap.size k0 a I0 J0 4 (by decide)) (cwV 1 hts (zz_gV mw_1329 mw_1331 mw_34 mw_110 mc_yX11_refuse) rfl rfl rfl (by decide +kernel) ⟨Nat.le_of_ble_eq_true rfl, Nat.le_of_ble_eq_true rfl⟩) (zPV2 (q0 := 0) (ci := 9) hPc hDc hK hXN rfl rfl) rfl rfl hl.1 rfl (lv_room (Nat.le_of_ble_eq_true rfl)) dX11_feature_44 ⟨Nat.le_of_ble_eq_true rfl, Nat.le_of_ble_eq_true rfl⟩) hS hFc hFc rfl (fun t H1 locs ht hB hk1 hS => ?_)
                  obtain ⟨hP1, hD1⟩ := hB
                  rw [ht] at hP1
                  obtain ⟨hP, hD⟩ := va_join (wr := []) (w1 := [(om k0 a (upd (upd I0 14 4) 15 (I0 15)) J0)]) hP hD [0] [] rfl rfl (by decide) (by decide) hk1 hFc hP1 hD1
                  clear hk1 hPc hDc hFc hP1 hD1 ht
                  generalize H1 = H at hP hS ⊢
                  have hP : va_P (dC, dI) classes [(om k0 a (upd (upd I0 14 4) 15 (I0 15)) J0)] H := hP
                  have hD : va_D A [(om k0 a (upd (upd I0 14 4) 15 (I0 15)) J0)] := hD
                  have hP9 := hP.sub (ws' := [(om k0 a (upd (upd I0 14 4) 15 (I0 15)) J0)]) [0] rfl
                  have hD9 := hD.sub (ws' := [(om k0 a (upd (upd I0 14 4) 15 (I0 15)) J0)]) [0] (by decide) rfl
                  rw [hQ9]
                  exact W.iret (v := (-1)) hx hb hr (fun t ht hW => ⟨⟨rfl, by rw [ht]; exact hP9, hD9⟩, hS.F ht⟩) hS.2.2 dX11_feature_47
set_option maxHeartbeats 4000000 in
set_option maxRecDepth 100000 in
theorem k_M_feature_8 (l : Launch) (dC : Nat → ClassId) (dI : Nat → Nat → Nat) (cI cZ cF : ClassId) (sz : Nat) (k0 : Nat) (a : Nat → Nat) (I0 : Nat → Int32) (J0 : Nat → Int64) (k1 : Int32) (k2 : Int32) (k3 : Int32) (k4 : Int32) (hgood : (0 ≤ k1.toInt ∧ k1.toInt ≤ 6 ∧ 0 ≤ k2.toInt ∧ k2.toInt ≤ 9) ∧ (0 ≤ k3.toInt ∧ k3.toInt ≤ 100 ∧ 0 ≤ k4.toInt ∧ k4.toInt ≤ 9)) (hfull : I0 0 = nI 200) : Met l yX11_feature (.code yX11_feature cX11_feature 6 (some .int) :: ws0) ({ frames := 1, cells := 0, slots := 0, locals := 21 } : Room) (va_Pc [.ref k0, .int k1, .int k2, .int k3, .int k4] (zPre (dC, dI) classes (zTy cI cZ cF) [(om k0 a I0 J0)] sz zXN)) (zQ (some (.int (-1))) (fun t => va_P (dC, dI) classes [(om k0 a (upd (upd I0 14 8) 15 (I0 15)) J0)] t.heap ∧ va_D (va_A [(om k0 a I0 J0)] sz) [(om k0 a (upd (upd I0 14 8) 15 (I0 15)) J0)]) (va_A [(om k0 a I0 J0)] sz)) 0 0 (va_A [(om k0 a I0 J0)] sz) := by
  refine Met.ofW (cc := cX11_feature) (maxL := 6) (ret := (some .int)) (by decide) rfl ?_
  intro p e s m args below meth c s₁ B hml hv
  obtain ⟨rfl, hsz, hP, hK, hD0, hXN⟩ := hv
  have hx := B.exec
  have hb := B.bytes
  have hr := B.returns
  have hts0 := atoms_spec (ws := .code yX11_feature cX11_feature 6 (some .int) :: ws0) B.pre
  have hts : ∀ w9 ∈ ws0, w9.before ([.ref k0, .int k1, .int k2, .int k3, .int k4] : List Value).toArray s = true := fun w9 h => hts0 w9 (List.mem_cons_of_mem _ h)
  have hown : s.vm.findClass "ScaleShopModel" = some m.cls := findClass_of_methodNamed B.named
  have hlocks := B.notSynchronized
  subst hsz
  have hD := hD0.self (sz := s.heap.size)
  clear hD0
  generalize hAe : va_A [(om k0 a I0 J0)] s.heap.size = A at hD ⊢
  have hA : ∀ q : Nat, s.heap.size ≤ q → A q := fun q h => by rw [← hAe]; exact Or.inr h
  clear hAe
  have hS : va_S A s.heap s.heap [] := va_S.rf
  have hP : va_P (dC, dI) classes [(om k0 a I0 J0)] s.heap := hP
  obtain ⟨Q9, hQ9⟩ : ∃ Q9 : State → Prop, Q9 = MQ below (zQ (some (.int (-1))) (fun t => va_P (dC, dI) classes [(om k0 a (upd (upd I0 14 8) 15 (I0 15)) J0)] t.heap ∧ va_D A [(om k0 a (upd (upd I0 14 8) 15 (I0 15)) J0)]) A) ([.ref k0, .int k1, .int k2, .int k3, .int k4] : List Value).toArray s 0 0 A := ⟨_, rfl⟩
  rw [← hQ9]
  have hl := lv_entry ([.ref k0, .int k1, .int k2, .int k3, .int k4]) (n := 6) (Nat.le_of_ble_eq_true rfl)
  rw [lg_entry_eq]
  generalize (lg_sl ([.ref k0, .int k1, .int k2, .int k3, .int k4]) ++ List.replicate (6 - (lg_sl ([.ref k0, .int k1, .int k2, .int k3, .int k4])).length) Slot.unset).toArray = ls at hl ⊢
  have hl : lv_has ls 6 [(0, .ref k0), (1, .int k1), (2, .int k2), (3, .int k3), (4, .int k4)] := hl
  refine lv_iload_n hx hb dX11_feature_0 rfl (lv_at hl 1 rfl) ?_
  refine lv_if_lt (tgt := 42) hx hb dX11_feature_1 (by decide) (fun c_1 => ?_) (fun c_1 => ?_)
  · have c_1 : k1.toInt < 0 := zc_lt rfl (by decide) c_1
    exfalso; omega
  · have c_1 : 0 ≤ k1.toInt := zc_nlt rfl (by decide) c_1
    refine lv_iload_n hx hb dX11_feature_4 rfl (lv_at hl 1 rfl) ?_
    refine lv_bipush (v := 6) hx hb dX11_feature_5 (by decide) ?_
    refine lv_icmp_gt (tgt := 42) hx hb dX11_feature_7 (by decide) (fun c_2 => ?_) (fun c_2 => ?_)
    · have c_2 : 6 < k1.toInt := zc_lt (by decide) rfl c_2
      exfalso; omega
    · have c_2 : k1.toInt ≤ 6 := zc_nlt (by decide) rfl c_2
      refine lv_iload_n hx hb dX11_feature_10 rfl (lv_at hl 2 rfl) ?_
      refine lv_if_lt (tgt := 42) hx hb dX11_feature_11 (by decide) (fun c_3 => ?_) (fun c_3 => ?_)
      · have c_3 : k2.toInt < 0 := zc_lt rfl (by decide) c_3
        exfalso; omega
      · have c_3 : 0 ≤ k2.toInt := zc_nlt rfl (by decide) c_3
        refine lv_iload_n hx hb dX11_feature_14 rfl (lv_at hl 2 rfl) ?_
        refine lv_bipush (v := 9) hx hb dX11_feature_15 (by decide) ?_
        refine lv_icmp_gt (tgt := 42) hx hb dX11_feature_17 (by decide) (fun c_4 => ?_) (fun c_4 => ?_)
        · have c_4 : 9 < k2.toInt := zc_lt (by decide) rfl c_4
          exfalso; omega
        · have c_4 : k2.toInt ≤ 9 := zc_nlt (by decide) rfl c_4
          refine lv_iload_n hx hb dX11_feature_20 rfl (lv_at hl 3 rfl) ?_
          refine lv_if_lt (tgt := 42) hx hb dX11_feature_21 (by decide) (fun c_5 => ?_) (fun c_5 => ?_)
          · have c_5 : k3.toInt < 0 := zc_lt rfl (by decide) c_5
            exfalso; omega
          · have c_5 : 0 ≤ k3.toInt := zc_nlt rfl (by decide) c_5
            refine lv_iload_n hx hb dX11_feature_24 rfl (lv_at hl 3 rfl) ?_
            refine lv_bipush (v := 100) hx hb dX11_feature_25 (by decide) ?_
            refine lv_icmp_gt (tgt := 42) hx hb dX11_feature_27 (by decide) (fun c_6 => ?_) (fun c_6 => ?_)
            · have c_6 : 100 < k3.toInt := zc_lt (by decide) rfl c_6
              exfalso; omega
            · have c_6 : k3.toInt ≤ 100 := zc_nlt (by decide) rfl c_6
              refine lv_iload hx hb dX11_feature_30 (lv_at hl 4 rfl) ?_
              refine lv_if_lt (tgt := 42) hx hb dX11_feature_32 (by decide) (fun c_7 => ?_) (fun c_7 => ?_)
              · have c_7 : k4.toInt < 0 := zc_lt rfl (by decide) c_7
                exfalso; omega
              · have c_7 : 0 ≤ k4.toInt := zc_nlt rfl (by decide) c_7
                refine lv_iload hx hb dX11_feature_35 (lv_at hl 4 rfl) ?_
                refine lv_bipush (v := 9) hx hb dX11_feature_37 (by decide) ?_
                refine lv_icmp_le (tgt := 48) hx hb dX11_feature_39 (by decide) (fun c_8 => ?_) (fun c_8 => ?_)
                · have c_8 : k4.toInt ≤ 9 := zc_le rfl (by decide) c_8
                  refine lv_aload_n hx hb dX11_feature_48 rfl (lv_at hl 0 rfl) ?_
                  refine va_get (D := (dC, dI)) (ci := 9) (v := .int (I0 0)) (C := RX11) (T := TX11) (N := 55) hx hb hts inX11 hown hK hP 0 rfl rfl 0 (by decide) (hts _ mw_1159) (fun _ h9 => h9) rfl dX11_feature_49 ?_
                  refine zz_i (v := nI 200) (hfull) ?_
                  refine lv_sipush (v := 200) hx hb dX11_feature_52 (by decide) ?_
                  refine lv_icmp_ne (tgt := 65) hx hb dX11_feature_55 (by decide) (fun c_9 => ?_) (fun c_9 => ?_)
                  · have c_9 : ¬ ((200 : Nat) : Int) = 200 := zc_ne (nI_toInt (by omega)) (by decide) c_9
                    exfalso; omega
                  · have c_9 : ((200 : Nat) : Int) = 200 := zc_eq (nI_toInt (by omega)) (by decide) c_9
                    refine lv_aload_n hx hb dX11_feature_58 rfl (lv_at hl 0 rfl) ?_
                    refine lv_bipush (v := 8) hx hb dX11_feature_59 (by decide) ?_
                    have hPc := hP.sub (ws' := [(om k0 a I0 J0)]) [0] rfl
                    have hDc := hD.sub (ws' := [(om k0 a I0 J0)]) [0] (by decide) rfl
                    have hFc := va_free (wc := [(om k0 a I0 J0)]) hD hS hA [0] rfl
                    refine zcall (st1 := [.int (-1)]) (va_runV (As := [.int 8]) (rest := []) ⟨hx, hb, hml, hown, hts⟩ (k_M_refuse l dC dI cI cZ cF s.heap.size k0 a I0 J0 8 (by decide)) (cwV 1 hts (zz_gV mw_1329 mw_1331 mw_34 mw_110 mc_yX11_refuse) rfl rfl rfl (by decide +kernel) ⟨Nat.le_of_ble_eq_true rfl, Nat.le_of_ble_eq_true rfl⟩) (zPV2 (q0 := 0) (ci := 9) hPc hDc hK hXN rfl rfl) rfl rfl hl.1 rfl (lv_room (Nat.le_of_ble_eq_true rfl)) dX11_feature_61 ⟨Nat.le_of_ble_eq_true rfl, Nat.le_of_ble_eq_true rfl⟩) hS hFc hFc rfl (fun t H1 locs ht hB hk1 hS => ?_)
                    obtain ⟨hP1, hD1⟩ := hB
                    rw [ht] at hP1
                    obtain ⟨hP, hD⟩ := va_join (wr := []) (w1 := [(om k0 a (upd (upd I0 14 8) 15 (I0 15)) J0)]) hP hD [0] [] rfl rfl (by decide) (by decide) hk1 hFc hP1 hD1
                    clear hk1 hPc hDc hFc hP1 hD1 ht
                    generalize H1 = H at hP hS ⊢
                    have hP : va_P (dC, dI) classes [(om k0 a (upd (upd I0 14 8) 15 (I0 15)) J0)] H := hP
                    have hD : va_D A [(om k0 a (upd (upd I0 14 8) 15 (I0 15)) J0)] := hD
                    have hP9 := hP.sub (ws' := [(om k0 a (upd (upd I0 14 8) 15 (I0 15)) J0)]) [0] rfl
                    have hD9 := hD.sub (ws' := [(om k0 a (upd (upd I0 14 8) 15 (I0 15)) J0)]) [0] (by decide) rfl
                    rw [hQ9]
                    exact W.iret (v := (-1)) hx hb hr (fun t ht hW => ⟨⟨rfl, by rw [ht]; exact hP9, hD9⟩, hS.F ht⟩) hS.2.2 dX11_feature_64
                · have c_8 : 9 < k4.toInt := zc_nle rfl (by decide) c_8
                  exfalso; omega
set_option maxHeartbeats 4000000 in
set_option maxRecDepth 100000 in
theorem k_M_feature_ok (l : Launch) (dC : Nat → ClassId) (dI : Nat → Nat → Nat) (cI cZ cF : ClassId) (sz : Nat) (k0 : Nat) (a : Nat → Nat) (I0 : Nat → Int32) (J0 : Nat → Int64) (k1 : Int32) (k2 : Int32) (k3 : Int32) (k4 : Int32) (ft : Nat) (kd : Nat → Int32) (rk : Nat → Int32) (wd : Nat → Int32) (tw : Nat → Int32) (st : Nat → Int32) (tn : Nat → Int32) (gb : Nat → Int32) (pa : Nat → Int32) (pb : Nat → Int32) (it : Nat → Int32) (mn : Nat → Int32) (sa : Nat → Int32) (hgood : (0 ≤ k1.toInt ∧ k1.toInt ≤ 6 ∧ 0 ≤ k2.toInt ∧ k2.toInt ≤ 9) ∧ (0 ≤ k3.toInt ∧ k3.toInt ≤ 100 ∧ 0 ≤ k4.toInt ∧ k4.toInt ≤ 9)) (hft : I0 0 = nI ft) (h200 : ft < 200) : Met l yX11_feature (.code yX11_feature cX11_feature 6 (some .int) :: ws0) ({ frames := 1, cells := 0, slots := 0, locals := 25 } : Room) (va_Pc [.ref k0, .int k1, .int k2, .int k3, .int k4] (zPre (dC, dI) classes (zTy cI cZ cF) [(om k0 a I0 J0), (oa (a 1) cI 201 kd), (oa (a 2) cI 201 rk), (oa (a 3) cI 201 wd), (oa (a 4) cI 201 tw), (oa (a 5) cI 201 st), (oa (a 6) cZ 201 tn), (oa (a 7) cI 201 gb), (oa (a 8) cI 201 pa), (oa (a 9) cI 201 pb), (oa (a 10) cI 201 it), (oa (a 11) cI 201 mn), (oa (a 27) cI 516 sa)] sz zXN)) (zQ (some (.int (nI ft))) (fun t => va_P (dC, dI) classes [(om k0 a (upd (upd (upd (upd I0 0 (nI (ft + 1))) 14 0) 20 0) 21 (I0 19)) J0), (oa (a 1) cI 201 (upd kd ft k1)), (oa (a 2) cI 201 (upd rk ft k2)), (oa (a 3) cI 201 (upd wd ft k3)), (oa (a 4) cI 201 (upd tw ft k4)), (oa (a 5) cI 201 (upd st ft 0)), (oa (a 6) cZ 201 (upd tn ft 0)), (oa (a 7) cI 201 (upd gb ft 0)), (oa (a 8) cI 201 (upd pa ft (-1))), (oa (a 9) cI 201 (upd pb ft (-1))), (oa (a 10) cI 201 (upd it ft (-1))), (oa (a 11) cI 201 (upd mn ft 0)), (oa (a 27) cI 516 (upd sa 0 0))] t.heap ∧ va_D (va_A [(om k0 a I0 J0), (oa (a 1) cI 201 kd), (oa (a 2) cI 201 rk), (oa (a 3) cI 201 wd), (oa (a 4) cI 201 tw), (oa (a 5) cI 201 st), (oa (a 6) cZ 201 tn), (oa (a 7) cI 201 gb), (oa (a 8) cI 201 pa), (oa (a 9) cI 201 pb), (oa (a 10) cI 201 it), (oa (a 11) cI 201 mn), (oa (a 27) cI 516 sa)] sz) [(om k0 a (upd (upd (upd (upd I0 0 (nI (ft + 1))) 14 0) 20 0) 21 (I0 19)) J0), (oa (a 1) cI 201 (upd kd ft k1)), (oa (a 2) cI 201 (upd rk ft k2)), (oa (a 3) cI 201 (upd wd ft k3)), (oa (a 4) cI 201 (upd tw ft k4)), (oa (a 5) cI 201 (upd st ft 0)), (oa (a 6) cZ 201 (upd tn ft 0)), (oa (a 7) cI 201 (upd gb ft 0)), (oa (a 8) cI 201 (upd pa ft (-1))), (oa (a 9) cI 201 (upd pb ft (-1))), (oa (a 10) cI 201 (upd it ft (-1))), (oa (a 11) cI 201 (upd mn ft 0)), (oa (a 27) cI 516 (upd sa 0 0))]) (va_A [(om k0 a I0 J0), (oa (a 1) cI 201 kd), (oa (a 2) cI 201 rk), (oa (a 3) cI 201 wd), (oa (a 4) cI 201 tw), (oa (a 5) cI 201 st), (oa (a 6) cZ 201 tn), (oa (a 7) cI 201 gb), (oa (a 8) cI 201 pa), (oa (a 9) cI 201 pb), (oa (a 10) cI 201 it), (oa (a 11) cI 201 mn), (oa (a 27) cI 516 sa)] sz)) 0 0 (va_A [(om k0 a I0 J0), (oa (a 1) cI 201 kd), (oa (a 2) cI 201 rk), (oa (a 3) cI 201 wd), (oa (a 4) cI 201 tw), (oa (a 5) cI 201 st), (oa (a 6) cZ 201 tn), (oa (a 7) cI 201 gb), (oa (a 8) cI 201 pa), (oa (a 9) cI 201 pb), (oa (a 10) cI 201 it), (oa (a 11) cI 201 mn), (oa (a 27) cI 516 sa)] sz) := by
  refine Met.ofW (cc := cX11_feature) (maxL := 6) (ret := (some .int)) (by decide) rfl ?_
  intro p e s m args below meth c s₁ B hml hv
  obtain ⟨rfl, hsz, hP, hK, hD0, hXN⟩ := hv
  have hx := B.exec
  have hb := B.bytes
  have hr := B.returns
  have hts0 := atoms_spec (ws := .code yX11_feature cX11_feature 6 (some .int) :: ws0) B.pre
  have hts : ∀ w9 ∈ ws0, w9.before ([.ref k0, .int k1, .int k2, .int k3, .int k4] : List Value).toArray s = true := fun w9 h => hts0 w9 (List.mem_cons_of_mem _ h)
  have hown : s.vm.findClass "ScaleShopModel" = some m.cls := findClass_of_methodNamed B.named
  have hlocks := B.notSynchronized
  subst hsz
  have hD := hD0.self (sz := s.heap.size)
  clear hD0
  generalize hAe : va_A [(om k0 a I0 J0), (oa (a 1) cI 201 kd), (oa (a 2) cI 201 rk), (oa (a 3) cI 201 wd), (oa (a 4) cI 201 tw), (oa (a 5) cI 201 st), (oa (a 6) cZ 201 tn), (oa (a 7) cI 201 gb), (oa (a 8) cI 201 pa), (oa (a 9) cI 201 pb), (oa (a 10) cI 201 it), (oa (a 11) cI 201 mn), (oa (a 27) cI 516 sa)] s.heap.size = A at hD ⊢
  have hA : ∀ q : Nat, s.heap.size ≤ q → A q := fun q h => by rw [← hAe]; exact Or.inr h
  clear hAe
  have hS : va_S A s.heap s.heap [] := va_S.rf
  have hP : va_P (dC, dI) classes [(om k0 a I0 J0), (oa (a 1) cI 201 kd), (oa (a 2) cI 201 rk), (oa (a 3) cI 201 wd), (oa (a 4) cI 201 tw), (oa (a 5) cI 201 st), (oa (a 6) cZ 201 tn), (oa (a 7) cI 201 gb), (oa (a 8) cI 201 pa), (oa (a 9) cI 201 pb), (oa (a 10) cI 201 it), (oa (a 11) cI 201 mn), (oa (a 27) cI 516 sa)] s.heap := hP
  obtain ⟨Q9, hQ9⟩ : ∃ Q9 : State → Prop, Q9 = MQ below (zQ (some (.int (nI ft))) (fun t => va_P (dC, dI) classes [(om k0 a (upd (upd (upd (upd I0 0 (nI (ft + 1))) 14 0) 20 0) 21 (I0 19)) J0), (oa (a 1) cI 201 (upd kd ft k1)), (oa (a 2) cI 201 (upd rk ft k2)), (oa (a 3) cI 201 (upd wd ft k3)), (oa (a 4) cI 201 (upd tw ft k4)), (oa (a 5) cI 201 (upd st ft 0)), (oa (a 6) cZ 201 (upd tn ft 0)), (oa (a 7) cI 201 (upd gb ft 0)), (oa (a 8) cI 201 (upd pa ft (-1))), (oa (a 9) cI 201 (upd pb ft (-1))), (oa (a 10) cI 201 (upd it ft (-1))), (oa (a 11) cI 201 (upd mn ft 0)), (oa (a 27) cI 516 (upd sa 0 0))] t.heap ∧ va_D A [(om k0 a (upd (upd (upd (upd I0 0 (nI (ft + 1))) 14 0) 20 0) 21 (I0 19)) J0), (oa (a 1) cI 201 (upd kd ft k1)), (oa (a 2) cI 201 (upd rk ft k2)), (oa (a 3) cI 201 (upd wd ft k3)), (oa (a 4) cI 201 (upd tw ft k4)), (oa (a 5) cI 201 (upd st ft 0)), (oa (a 6) cZ 201 (upd tn ft 0)), (oa (a 7) cI 201 (upd gb ft 0)), (oa (a 8) cI 201 (upd pa ft (-1))), (oa (a 9) cI 201 (upd pb ft (-1))), (oa (a 10) cI 201 (upd it ft (-1))), (oa (a 11) cI 201 (upd mn ft 0)), (oa (a 27) cI 516 (upd sa 0 0))]) A) ([.ref k0, .int k1, .int k2, .int k3, .int k4] : List Value).toArray s 0 0 A := ⟨_, rfl⟩
  rw [← hQ9]
  have hl := lv_entry ([.ref k0, .int k1, .int k2, .int k3, .int k4]) (n := 6) (Nat.le_of_ble_eq_true rfl)
  rw [lg_entry_eq]
  generalize (lg_sl ([.ref k0, .int k1, .int k2, .int k3, .int k4]) ++ List.replicate (6 - (lg_sl ([.ref k0, .int k1, .int k2, .int k3, .int k4])).length) Slot.unset).toArray = ls at hl ⊢
  have hl : lv_has ls 6 [(0, .ref k0), (1, .int k1), (2, .int k2), (3, .int k3), (4, .int k4)] := hl
  refine lv_iload_n hx hb dX11_feature_0 rfl (lv_at hl 1 rfl) ?_
  refine lv_if_lt (tgt := 42) hx hb dX11_feature_1 (by decide) (fun c_1 => ?_) (fun c_1 => ?_)
  · have c_1 : k1.toInt < 0 := zc_lt rfl (by decide) c_1
    exfalso; omega
  · have c_1 : 0 ≤ k1.toInt := zc_nlt rfl (by decide) c_1
    refine lv_iload_n hx hb dX11_feature_4 rfl (lv_at hl 1 rfl) ?_
    refine lv_bipush (v := 6) hx hb dX11_feature_5 (by decide) ?_
    refine lv_icmp_gt (tgt := 42) hx hb dX11_feature_7 (by decide) (fun c_2 => ?_) (fun c_2 => ?_)
    · have c_2 : 6 < k1.toInt := zc_lt (by decide) rfl c_2
      exfalso; omega
    · have c_2 : k1.toInt ≤ 6 := zc_nlt (by decide) rfl c_2
      refine lv_iload_n hx hb dX11_feature_10 rfl (lv_at hl 2 rfl) ?_
      refine lv_if_lt (tgt := 42) hx hb dX11_feature_11 (by decide) (fun c_3 => ?_) (fun c_3 => ?_)
      · have c_3 : k2.toInt < 0 := zc_lt rfl (by decide) c_3
        exfalso; omega
      · have c_3 : 0 ≤ k2.toInt := zc_nlt rfl (by decide) c_3
        refine lv_iload_n hx hb dX11_feature_14 rfl (lv_at hl 2 rfl) ?_
        refine lv_bipush (v := 9) hx hb dX11_feature_15 (by decide) ?_
        refine lv_icmp_gt (tgt := 42) hx hb dX11_feature_17 (by decide) (fun c_4 => ?_) (fun c_4 => ?_)
        · have c_4 : 9 < k2.toInt := zc_lt (by decide) rfl c_4
          exfalso; omega
        · have c_4 : k2.toInt ≤ 9 := zc_nlt (by decide) rfl c_4
          refine lv_iload_n hx hb dX11_feature_20 rfl (lv_at hl 3 rfl) ?_
          refine lv_if_lt (tgt := 42) hx hb dX11_feature_21 (by decide) (fun c_5 => ?_) (fun c_5 => ?_)
          · have c_5 : k3.toInt < 0 := zc_lt rfl (by decide) c_5
            exfalso; omega
          · have c_5 : 0 ≤ k3.toInt := zc_nlt rfl (by decide) c_5
            refine lv_iload_n hx hb dX11_feature_24 rfl (lv_at hl 3 rfl) ?_
            refine lv_bipush (v := 100) hx hb dX11_feature_25 (by decide) ?_
            refine lv_icmp_gt (tgt := 42) hx hb dX11_feature_27 (by decide) (fun c_6 => ?_) (fun c_6 => ?_)
            · have c_6 : 100 < k3.toInt := zc_lt (by decide) rfl c_6
              exfalso; omega
            · have c_6 : k3.toInt ≤ 100 := zc_nlt (by decide) rfl c_6
              refine lv_iload hx hb dX11_feature_30 (lv_at hl 4 rfl) ?_
              refine lv_if_lt (tgt := 42) hx hb dX11_feature_32 (by decide) (fun c_7 => ?_) (fun c_7 => ?_)
              · have c_7 : k4.toInt < 0 := zc_lt rfl (by decide) c_7
                exfalso; omega
              · have c_7 : 0 ≤ k4.toInt := zc_nlt rfl (by decide) c_7
                refine lv_iload hx hb dX11_feature_35 (lv_at hl 4 rfl) ?_
                refine lv_bipush (v := 9) hx hb dX11_feature_37 (by decide) ?_
                refine lv_icmp_le (tgt := 48) hx hb dX11_feature_39 (by decide) (fun c_8 => ?_) (fun c_8 => ?_)
                · have c_8 : k4.toInt ≤ 9 := zc_le rfl (by decide) c_8
                  refine lv_aload_n hx hb dX11_feature_48 rfl (lv_at hl 0 rfl) ?_
                  refine va_get (D := (dC, dI)) (ci := 9) (v := .int (I0 0)) (C := RX11) (T := TX11) (N := 55) hx hb hts inX11 hown hK hP 0 rfl rfl 0 (by decide) (hts _ mw_1159) (fun _ h9 => h9) rfl dX11_feature_49 ?_
                  refine zz_i (v := nI ft) (hft) ?_
                  refine lv_sipush (v := 200) hx hb dX11_feature_52 (by decide) ?_
                  refine lv_icmp_ne (tgt := 65) hx hb dX11_feature_55 (by decide) (fun c_9 => ?_) (fun c_9 => ?_)
                  · have c_9 : ¬ ((ft : Nat) : Int) = 200 := zc_ne (nI_toInt (by omega)) (by decide) c_9
                    refine lv_aload_n hx hb dX11_feature_65 rfl (lv_at hl 0 rfl) ?_
                    refine va_get (D := (dC, dI)) (ci := 9) (v := .int (I0 0)) (C := RX11) (T := TX11) (N := 55) hx hb hts inX11 hown hK hP 0 rfl rfl 0 (by decide) (hts _ mw_1159) (fun _ h9 => h9) rfl dX11_feature_66 ?_
                    refine zz_i (v := nI ft) (hft) ?_
                    refine lv_istore (lv' := [(5, .int (nI ft)), (0, .ref k0), (1, .int k1), (2, .int k2), (3, .int k3), (4, .int k4)]) hx hb dX11_feature_69 hl (by decide) rfl (fun ls hl => ?_)
                    refine lv_aload_n hx hb dX11_feature_71 rfl (lv_at hl 1 rfl) ?_
                    refine lv_iload hx hb dX11_feature_72 (lv_at hl 0 rfl) ?_
                    refine lv_iload_n hx hb dX11_feature_74 rfl (lv_at hl 2 rfl) ?_
                    refine lv_iload_n hx hb dX11_feature_75 rfl (lv_at hl 3 rfl) ?_
                    refine lv_iload_n hx hb dX11_feature_76 rfl (lv_at hl 4 rfl) ?_
                    refine lv_iload hx hb dX11_feature_77 (lv_at hl 5 rfl) ?_
                    have hPc := hP.sub (ws' := [(om k0 a I0 J0), (oa (a 1) cI 201 kd), (oa (a 2) cI 201 rk), (oa (a 3) cI 201 wd), (oa (a 4) cI 201 tw), (oa (a 5) cI 201 st), (oa (a 6) cZ 201 tn), (oa (a 7) cI 201 gb), (oa (a 8) cI 201 pa), (oa (a 9) cI 201 pb), (oa (a 10) cI 201 it), (oa (a 11) cI 201 mn)]) [0, 1, 2, 3, 4, 5, 6, 7, 8, 9, 10, 11] rfl
                    have hDc := hD.sub (ws' := [(om k0 a I0 J0), (oa (a 1) cI 201 kd), (oa (a 2) cI 201 rk), (oa (a 3) cI 201 wd), (oa (a 4) cI 201 tw), (oa (a 5) cI 201 st), (oa (a 6) cZ 201 tn), (oa (a 7) cI 201 gb), (oa (a 8) cI 201 pa), (oa (a 9) cI 201 pb), (oa (a 10) cI 201 it), (oa (a 11) cI 201 mn)]) [0, 1, 2, 3, 4, 5, 6, 7, 8, 9, 10, 11] (by decide) rfl
                    have hFc := va_free (wc := [(om k0 a I0 J0), (oa (a 1) cI 201 kd), (oa (a 2) cI 201 rk), (oa (a 3) cI 201 wd), (oa (a 4) cI 201 tw), (oa (a 5) cI 201 st), (oa (a 6) cZ 201 tn), (oa (a 7) cI 201 gb), (oa (a 8) cI 201 pa), (oa (a 9) cI 201 pb), (oa (a 10) cI 201 it), (oa (a 11) cI 201 mn)]) hD hS hA [0, 1, 2, 3, 4, 5, 6, 7, 8, 9, 10, 11] rfl
                    refine zcall (st1 := []) (va_runV (As := [.int (nI ft), .int k1, .int k2, .int k3, .int k4]) (rest := []) ⟨hx, hb, hml, hown, hts⟩ (k_M_begin l dC dI cI cZ cF s.heap.size k0 a I0 J0 ft k1 k2 k3 k4 kd rk wd tw st tn gb pa pb it mn (by omega)) (cwV 5 hts (zz_gV mw_1333 mw_1335 mw_35 mw_110 mc_yX11_begin) rfl rfl rfl (by decide +kernel) ⟨Nat.le_of_ble_eq_true rfl, Nat.le_of_ble_eq_true rfl⟩) (zPV2 (q0 := 0) (ci := 9) hPc hDc hK hXN rfl rfl) rfl rfl hl.1 rfl (lv_room (Nat.le_of_ble_eq_true rfl)) dX11_feature_79 ⟨Nat.le_of_ble_eq_true rfl, Nat.le_of_ble_eq_true rfl⟩) hS hFc hFc rfl (fun t H1 locs ht hB hk1 hS => ?_)
                    obtain ⟨hP1, hD1⟩ := hB
                    rw [ht] at hP1
                    obtain ⟨hP, hD⟩ := va_join (wr := [(oa (a 27) cI 516 sa)]) (w1 := [(om k0 a (upd I0 0 (nI (ft + 1))) J0), (oa (a 1) cI 201 (upd kd ft k1)), (oa (a 2) cI 201 (upd rk ft k2)), (oa (a 3) cI 201 (upd wd ft k3)), (oa (a 4) cI 201 (upd tw ft k4)), (oa (a 5) cI 201 (upd st ft 0)), (oa (a 6) cZ 201 (upd tn ft 0)), (oa (a 7) cI 201 (upd gb ft 0)), (oa (a 8) cI 201 (upd pa ft (-1))), (oa (a 9) cI 201 (upd pb ft (-1))), (oa (a 10) cI 201 (upd it ft (-1))), (oa (a 11) cI 201 (upd mn ft 0))]) hP hD [0, 1, 2, 3, 4, 5, 6, 7, 8, 9, 10, 11] [12] rfl rfl (by decide) (by decide) hk1 hFc hP1 hD1
                    clear hk1 hPc hDc hFc hP1 hD1 ht
                    generalize H1 = H at hP hS ⊢
                    have hP := hP.sub (ws' := [(om k0 a (upd I0 0 (nI (ft + 1))) J0), (oa (a 1) cI 201 (upd kd ft k1)), (oa (a 2) cI 201 (upd rk ft k2)), (oa (a 3) cI 201 (upd wd ft k3)), (oa (a 4) cI 201 (upd tw ft k4)), (oa (a 5) cI 201 (upd st ft 0)), (oa (a 6) cZ 201 (upd tn ft 0)), (oa (a 7) cI 201 (upd gb ft 0)), (oa (a 8) cI 201 (upd pa ft (-1))), (oa (a 9) cI 201 (upd pb ft (-1))), (oa (a 10) cI 201 (upd it ft (-1))), (oa (a 11) cI 201 (upd mn ft 0)), (oa (a 27) cI 516 sa)]) [1, 2, 3, 4, 5, 6, 7, 8, 9, 10, 11, 12, 0] rfl
                    have hD := hD.sub (ws' := [(om k0 a (upd I0 0 (nI (ft + 1))) J0), (oa (a 1) cI 201 (upd kd ft k1)), (oa (a 2) cI 201 (upd rk ft k2)), (oa (a 3) cI 201 (upd wd ft k3)), (oa (a 4) cI 201 (upd tw ft k4)), (oa (a 5) cI 201 (upd st ft 0)), (oa (a 6) cZ 201 (upd tn ft 0)), (oa (a 7) cI 201 (upd gb ft 0)), (oa (a 8) cI 201 (upd pa ft (-1))), (oa (a 9) cI 201 (upd pb ft (-1))), (oa (a 10) cI 201 (upd it ft (-1))), (oa (a 11) cI 201 (upd mn ft 0)), (oa (a 27) cI 516 sa)]) [1, 2, 3, 4, 5, 6, 7, 8, 9, 10, 11, 12, 0] (by decide) rfl
                    have hP : va_P (dC, dI) classes [(om k0 a (upd I0 0 (nI (ft + 1))) J0), (oa (a 1) cI 201 (upd kd ft k1)), (oa (a 2) cI 201 (upd rk ft k2)), (oa (a 3) cI 201 (upd wd ft k3)), (oa (a 4) cI 201 (upd tw ft k4)), (oa (a 5) cI 201 (upd st ft 0)), (oa (a 6) cZ 201 (upd tn ft 0)), (oa (a 7) cI 201 (upd gb ft 0)), (oa (a 8) cI 201 (upd pa ft (-1))), (oa (a 9) cI 201 (upd pb ft (-1))), (oa (a 10) cI 201 (upd it ft (-1))), (oa (a 11) cI 201 (upd mn ft 0)), (oa (a 27) cI 516 sa)] H := hP
                    have hD : va_D A [(om k0 a (upd I0 0 (nI (ft + 1))) J0), (oa (a 1) cI 201 (upd kd ft k1)), (oa (a 2) cI 201 (upd rk ft k2)), (oa (a 3) cI 201 (upd wd ft k3)), (oa (a 4) cI 201 (upd tw ft k4)), (oa (a 5) cI 201 (upd st ft 0)), (oa (a 6) cZ 201 (upd tn ft 0)), (oa (a 7) cI 201 (upd gb ft 0)), (oa (a 8) cI 201 (upd pa ft (-1))), (oa (a 9) cI 201 (upd pb ft (-1))), (oa (a 10) cI 201 (upd it ft (-1))), (oa (a 11) cI 201 (upd mn ft 0)), (oa (a 27) cI 516 sa)] := hD
                    refine lv_aload_n hx hb dX11_feature_82 rfl (lv_at hl 1 rfl) ?_
                    have hPc := hP.sub (ws' := [(om k0 a (upd I0 0 (nI (ft + 1))) J0), (oa (a 27) cI 516 sa)]) [0, 12] rfl
                    have hDc := hD.sub (ws' := [(om k0 a (upd I0 0 (nI (ft + 1))) J0), (oa (a 27) cI 516 sa)]) [0, 12] (by decide) rfl
                    have hFc := va_free (wc := [(om k0 a (upd I0 0 (nI (ft + 1))) J0), (oa (a 27) cI 516 sa)]) hD hS hA [0, 12] rfl
                    refine zcall (st1 := []) (va_runV (As := []) (rest := []) ⟨hx, hb, hml, hown, hts⟩ (k_M_settle l dC dI cI cZ cF H.size k0 a (upd I0 0 (nI (ft + 1))) J0 sa ) (cwV 0 hts (zz_gV mw_1337 mw_1339 mw_36 mw_110 mc_yX11_settle) rfl rfl rfl (by decide +kernel) ⟨Nat.le_of_ble_eq_true rfl, Nat.le_of_ble_eq_true rfl⟩) (zPV2 (q0 := 0) (ci := 9) hPc hDc hK hXN rfl rfl) rfl rfl hl.1 rfl (lv_room (Nat.le_of_ble_eq_true rfl)) dX11_feature_83 ⟨Nat.le_of_ble_eq_true rfl, Nat.le_of_ble_eq_true rfl⟩) hS hFc hFc rfl (fun t H1 locs ht hB hk1 hS => ?_)
                    obtain ⟨hP1, hD1⟩ := hB
                    rw [ht] at hP1
                    obtain ⟨hP, hD⟩ := va_join (wr := [(oa (a 1) cI 201 (upd kd ft k1)), (oa (a 2) cI 201 (upd rk ft k2)), (oa (a 3) cI 201 (upd wd ft k3)), (oa (a 4) cI 201 (upd tw ft k4)), (oa (a 5) cI 201 (upd st ft 0)), (oa (a 6) cZ 201 (upd tn ft 0)), (oa (a 7) cI 201 (upd gb ft 0)), (oa (a 8) cI 201 (upd pa ft (-1))), (oa (a 9) cI 201 (upd pb ft (-1))), (oa (a 10) cI 201 (upd it ft (-1))), (oa (a 11) cI 201 (upd mn ft 0))]) (w1 := [(om k0 a (upd (upd (upd I0 0 (nI (ft + 1))) 20 0) 21 (I0 19)) J0), (oa (a 27) cI 516 (upd sa 0 0))]) hP hD [0, 12] [1, 2, 3, 4, 5, 6, 7, 8, 9, 10, 11] rfl rfl (by decide) (by decide) hk1 hFc hP1 hD1
                    clear hk1 hPc hDc hFc hP1 hD1 ht
                    generalize H1 = H at hP hS ⊢
                    have hP := hP.sub (ws' := [(om k0 a (upd (upd (upd I0 0 (nI (ft + 1))) 20 0) 21 (I0 19)) J0), (oa (a 1) cI 201 (upd kd ft k1)), (oa (a 2) cI 201 (upd rk ft k2)), (oa (a 3) cI 201 (upd wd ft k3)), (oa (a 4) cI 201 (upd tw ft k4)), (oa (a 5) cI 201 (upd st ft 0)), (oa (a 6) cZ 201 (upd tn ft 0)), (oa (a 7) cI 201 (upd gb ft 0)), (oa (a 8) cI 201 (upd pa ft (-1))), (oa (a 9) cI 201 (upd pb ft (-1))), (oa (a 10) cI 201 (upd it ft (-1))), (oa (a 11) cI 201 (upd mn ft 0)), (oa (a 27) cI 516 (upd sa 0 0))]) [11, 0, 1, 2, 3, 4, 5, 6, 7, 8, 9, 10, 12] rfl
                    have hD := hD.sub (ws' := [(om k0 a (upd (upd (upd I0 0 (nI (ft + 1))) 20 0) 21 (I0 19)) J0), (oa (a 1) cI 201 (upd kd ft k1)), (oa (a 2) cI 201 (upd rk ft k2)), (oa (a 3) cI 201 (upd wd ft k3)), (oa (a 4) cI 201 (upd tw ft k4)), (oa (a 5) cI 201 (upd st ft 0)), (oa (a 6) cZ 201 (upd tn ft 0)), (oa (a 7) cI 201 (upd gb ft 0)), (oa (a 8) cI 201 (upd pa ft (-1))), (oa (a 9) cI 201 (upd pb ft (-1))), (oa (a 10) cI 201 (upd it ft (-1))), (oa (a 11) cI 201 (upd mn ft 0)), (oa (a 27) cI 516 (upd sa 0 0))]) [11, 0, 1, 2, 3, 4, 5, 6, 7, 8, 9, 10, 12] (by decide) rfl
                    have hP : va_P (dC, dI) classes [(om k0 a (upd (upd (upd I0 0 (nI (ft + 1))) 20 0) 21 (I0 19)) J0), (oa (a 1) cI 201 (upd kd ft k1)), (oa (a 2) cI 201 (upd rk ft k2)), (oa (a 3) cI 201 (upd wd ft k3)), (oa (a 4) cI 201 (upd tw ft k4)), (oa (a 5) cI 201 (upd st ft 0)), (oa (a 6) cZ 201 (upd tn ft 0)), (oa (a 7) cI 201 (upd gb ft 0)), (oa (a 8) cI 201 (upd pa ft (-1))), (oa (a 9) cI 201 (upd pb ft (-1))), (oa (a 10) cI 201 (upd it ft (-1))), (oa (a 11) cI 201 (upd mn ft 0)), (oa (a 27) cI 516 (upd sa 0 0))] H := hP
                    have hD : va_D A [(om k0 a (upd (upd (upd I0 0 (nI (ft + 1))) 20 0) 21 (I0 19)) J0), (oa (a 1) cI 201 (upd kd ft k1)), (oa (a 2) cI 201 (upd rk ft k2)), (oa (a 3) cI 201 (upd wd ft k3)), (oa (a 4) cI 201 (upd tw ft k4)), (oa (a 5) cI 201 (upd st ft 0)), (oa (a 6) cZ 201 (upd tn ft 0)), (oa (a 7) cI 201 (upd gb ft 0)), (oa (a 8) cI 201 (upd pa ft (-1))), (oa (a 9) cI 201 (upd pb ft (-1))), (oa (a 10) cI 201 (upd it ft (-1))), (oa (a 11) cI 201 (upd mn ft 0)), (oa (a 27) cI 516 (upd sa 0 0))] := hD
                    refine lv_aload_n hx hb dX11_feature_86 rfl (lv_at hl 1 rfl) ?_
                    refine lv_iconst (v := 0) hx hb dX11_feature_87 (by decide) ?_
                    refine va_put (D := (dC, dI)) (ci := 9) (v := .int 0) (ty := .int) (C := RX11) (T := TX11) (N := 55) hx hb hts inX11 tyX11 tyX11_ok nmX11 hown hK hP hD hS 0 rfl rfl 14 (by decide) (hts _ mw_1173) (fun _ h9 => h9) rfl (by decide +kernel) rfl rfl (Nat.le_of_ble_eq_true rfl) dX11_feature_88 (fun H locs hP hD hS => ?_)
                    have hP : va_P (dC, dI) classes [(om k0 a (upd (upd (upd (upd I0 0 (nI (ft + 1))) 14 0) 20 0) 21 (I0 19)) J0), (oa (a 1) cI 201 (upd kd ft k1)), (oa (a 2) cI 201 (upd rk ft k2)), (oa (a 3) cI 201 (upd wd ft k3)), (oa (a 4) cI 201 (upd tw ft k4)), (oa (a 5) cI 201 (upd st ft 0)), (oa (a 6) cZ 201 (upd tn ft 0)), (oa (a 7) cI 201 (upd gb ft 0)), (oa (a 8) cI 201 (upd pa ft (-1))), (oa (a 9) cI 201 (upd pb ft (-1))), (oa (a 10) cI 201 (upd it ft (-1))), (oa (a 11) cI 201 (upd mn ft 0)), (oa (a 27) cI 516 (upd sa 0 0))] H := hP
                    have hD : va_D A [(om k0 a (upd (upd (upd (upd I0 0 (nI (ft + 1))) 14 0) 20 0) 21 (I0 19)) J0), (oa (a 1) cI 201 (upd kd ft k1)), (oa (a 2) cI 201 (upd rk ft k2)), (oa (a 3) cI 201 (upd wd ft k3)), (oa (a 4) cI 201 (upd tw ft k4)), (oa (a 5) cI 201 (upd st ft 0)), (oa (a 6) cZ 201 (upd tn ft 0)), (oa (a 7) cI 201 (upd gb ft 0)), (oa (a 8) cI 201 (upd pa ft (-1))), (oa (a 9) cI 201 (upd pb ft (-1))), (oa (a 10) cI 201 (upd it ft (-1))), (oa (a 11) cI 201 (upd mn ft 0)), (oa (a 27) cI 516 (upd sa 0 0))] := hD
                    refine lv_iload hx hb dX11_feature_91 (lv_at hl 0 rfl) ?_
                    have hP9 := hP.sub (ws' := [(om k0 a (upd (upd (upd (upd I0 0 (nI (ft + 1))) 14 0) 20 0) 21 (I0 19)) J0), (oa (a 1) cI 201 (upd kd ft k1)), (oa (a 2) cI 201 (upd rk ft k2)), (oa (a 3) cI 201 (upd wd ft k3)), (oa (a 4) cI 201 (upd tw ft k4)), (oa (a 5) cI 201 (upd st ft 0)), (oa (a 6) cZ 201 (upd tn ft 0)), (oa (a 7) cI 201 (upd gb ft 0)), (oa (a 8) cI 201 (upd pa ft (-1))), (oa (a 9) cI 201 (upd pb ft (-1))), (oa (a 10) cI 201 (upd it ft (-1))), (oa (a 11) cI 201 (upd mn ft 0)), (oa (a 27) cI 516 (upd sa 0 0))]) [0, 1, 2, 3, 4, 5, 6, 7, 8, 9, 10, 11, 12] rfl
                    have hD9 := hD.sub (ws' := [(om k0 a (upd (upd (upd (upd I0 0 (nI (ft + 1))) 14 0) 20 0) 21 (I0 19)) J0), (oa (a 1) cI 201 (upd kd ft k1)), (oa (a 2) cI 201 (upd rk ft k2)), (oa (a 3) cI 201 (upd wd ft k3)), (oa (a 4) cI 201 (upd tw ft k4)), (oa (a 5) cI 201 (upd st ft 0)), (oa (a 6) cZ 201 (upd tn ft 0)), (oa (a 7) cI 201 (upd gb ft 0)), (oa (a 8) cI 201 (upd pa ft (-1))), (oa (a 9) cI 201 (upd pb ft (-1))), (oa (a 10) cI 201 (upd it ft (-1))), (oa (a 11) cI 201 (upd mn ft 0)), (oa (a 27) cI 516 (upd sa 0 0))]) [0, 1, 2, 3, 4, 5, 6, 7, 8, 9, 10, 11, 12] (by decide) rfl
                    rw [hQ9]
                    exact W.iret (v := nI ft) hx hb hr (fun t ht hW => ⟨⟨rfl, by rw [ht]; exact hP9, hD9⟩, hS.F ht⟩) hS.2.2 dX11_feature_93
                  · have c_9 : ((ft : Nat) : Int) = 200 := zc_eq (nI_toInt (by omega)) (by decide) c_9
                    exfalso; omega
                · have c_8 : 9 < k4.toInt := zc_nle rfl (by decide) c_8
                  exfalso; omega
set_option maxHeartbeats 4000000 in
set_option maxRecDepth 100000 in
theorem k_M_corner_x (l : Launch) (dC : Nat → ClassId) (dI : Nat → Nat → Nat) (cI cZ cF : ClassId) (sz : Nat) (k0 : Nat) (a : Nat → Nat) (I0 : Nat → Int32) (J0 : Nat → Int64) (ft : Nat) (v : Int32) (px : Int32) (py : Int32) (hft : I0 0 = nI ft) (h200 : ft ≤ 200) (hv : ¬ (0 ≤ v.toInt ∧ v.toInt < (ft : Int))) : Met l yX11_corner (.code yX11_corner cX11_corner 4 (some .int) :: ws0) ({ frames := 1, cells := 0, slots := 0, locals := 21 } : Room) (va_Pc [.ref k0, .int v, .int px, .int py] (zPre (dC, dI) classes (zTy cI cZ cF) [(om k0 a I0 J0)] sz zXN)) (zQ (some (.int (-1))) (fun t => va_P (dC, dI) classes [(om k0 a (upd (upd I0 14 1) 15 (I0 15)) J0)] t.heap ∧ va_D (va_A [(om k0 a I0 J0)] sz) [(om k0 a (upd (upd I0 14 1) 15 (I0 15)) J0)]) (va_A [(om k0 a I0 J0)] sz)) 0 0 (va_A [(om k0 a I0 J0)] sz) := by
  refine Met.ofW (cc := cX11_corner) (maxL := 4) (ret := (some .int)) (by decide) rfl ?_
  intro p e s m args below meth c s₁ B hml hv
  obtain ⟨rfl, hsz, hP, hK, hD0, hXN⟩ := hv
  have hx := B.exec
  have hb := B.bytes
  have hr := B.returns
  have hts0 := atoms_spec (ws := .code yX11_corner cX11_corner 4 (some .int) :: ws0) B.pre
  have hts : ∀ w9 ∈ ws0, w9.before ([.ref k0, .int v, .int px, .int py] : List Value).toArray s = true := fun w9 h => hts0 w9 (List.mem_cons_of_mem _ h)
  have hown : s.vm.findClass "ScaleShopModel" = some m.cls := findClass_of_methodNamed B.named
  have hlocks := B.notSynchronized
  subst hsz
  have hD := hD0.self (sz := s.heap.size)
  clear hD0
  generalize hAe : va_A [(om k0 a I0 J0)] s.heap.size = A at hD ⊢
  have hA : ∀ q : Nat, s.heap.size ≤ q → A q := fun q h => by rw [← hAe]; exact Or.inr h
  clear hAe
  have hS : va_S A s.heap s.heap [] := va_S.rf
  have hP : va_P (dC, dI) classes [(om k0 a I0 J0)] s.heap := hP
  obtain ⟨Q9, hQ9⟩ : ∃ Q9 : State → Prop, Q9 = MQ below (zQ (some (.int (-1))) (fun t => va_P (dC, dI) classes [(om k0 a (upd (upd I0 14 1) 15 (I0 15)) J0)] t.heap ∧ va_D A [(om k0 a (upd (upd I0 14 1) 15 (I0 15)) J0)]) A) ([.ref k0, .int v, .int px, .int py] : List Value).toArray s 0 0 A := ⟨_, rfl⟩
  rw [← hQ9]
  have hl := lv_entry ([.ref k0, .int v, .int px, .int py]) (n := 4) (Nat.le_of_ble_eq_true rfl)
  rw [lg_entry_eq]
  generalize (lg_sl ([.ref k0, .int v, .int px, .int py]) ++ List.replicate (4 - (lg_sl ([.ref k0, .int v, .int px, .int py])).length) Slot.unset).toArray = ls at hl ⊢
  have hl : lv_has ls 4 [(0, .ref k0), (1, .int v), (2, .int px), (3, .int py)] := hl
  refine lv_aload_n hx hb dX11_corner_0 rfl (lv_at hl 0 rfl) ?_
  refine lv_iload_n hx hb dX11_corner_1 rfl (lv_at hl 1 rfl) ?_
  have hPc := hP.sub (ws' := [(om k0 a I0 J0)]) [0] rfl
  have hDc := hD.sub (ws' := [(om k0 a I0 J0)]) [0] (by decide) rfl
  have hFc := va_free (wc := [(om k0 a I0 J0)]) hD hS hA [0] rfl
  refine zcall (st1 := [.int (pI (0 ≤ v.toInt ∧ v.toInt < (ft : Int)))]) (va_runV (As := [.int v]) (rest := []) ⟨hx, hb, hml, hown, hts⟩ (k_M_isFeature l dC dI cI cZ cF s.heap.size k0 a I0 J0 ft v (by assumption) (by omega)) (cwV 1 hts (zz_gV mw_1345 mw_1347 mw_37 mw_110 mc_yX11_isFeature) rfl rfl rfl (by decide +kernel) ⟨Nat.le_of_ble_eq_true rfl, Nat.le_of_ble_eq_true rfl⟩) (zPV2 (q0 := 0) (ci := 9) hPc hDc hK hXN rfl rfl) rfl rfl hl.1 rfl (lv_room (Nat.le_of_ble_eq_true rfl)) dX11_corner_2 ⟨Nat.le_of_ble_eq_true rfl, Nat.le_of_ble_eq_true rfl⟩) hS hFc hFc rfl (fun t H1 locs ht hB hk1 hS => ?_)
  obtain ⟨hP1, hD1⟩ := hB
  rw [ht] at hP1
  obtain ⟨hP, hD⟩ := va_join (wr := []) (w1 := [(om k0 a I0 J0)]) hP hD [0] [] rfl rfl (by decide) (by decide) hk1 hFc hP1 hD1
  clear hk1 hPc hDc hFc hP1 hD1 ht
  generalize H1 = H at hP hS ⊢
  have hP : va_P (dC, dI) classes [(om k0 a I0 J0)] H := hP
  have hD : va_D A [(om k0 a I0 J0)] := hD
  refine lv_if_ne (tgt := 14) hx hb dX11_corner_5 (by decide) (fun c_1 => ?_) (fun c_1 => ?_)
  · have c_1 : 0 ≤ v.toInt ∧ v.toInt < (ft : Int) := zp_1 c_1
    exfalso; exact absurd (by assumption) hv
  · have c_1 : ¬ (0 ≤ v.toInt ∧ v.toInt < (ft : Int)) := zp_0 c_1
    refine lv_aload_n hx hb dX11_corner_8 rfl (lv_at hl 0 rfl) ?_
    refine lv_iconst (v := 1) hx hb dX11_corner_9 (by decide) ?_
    have hPc := hP.sub (ws' := [(om k0 a I0 J0)]) [0] rfl
    have hDc := hD.sub (ws' := [(om k0 a I0 J0)]) [0] (by decide) rfl
    have hFc := va_free (wc := [(om k0 a I0 J0)]) hD hS hA [0] rfl
    refine zcall (st1 := [.int (-1)]) (va_runV (As := [.int 1]) (rest := []) ⟨hx, hb, hml, hown, hts⟩ (k_M_refuse l dC dI cI cZ cF H.size k0 a I0 J0 1 (by decide)) (cwV 1 hts (zz_gV mw_1329 mw_1331 mw_34 mw_110 mc_yX11_refuse) rfl rfl rfl (by decide +kernel) ⟨Nat.le_of_ble_eq_true rfl, Nat.le_of_ble_eq_true rfl⟩) (zPV2 (q0 := 0) (ci := 9) hPc hDc hK hXN rfl rfl) rfl rfl hl.1 rfl (lv_room (Nat.le_of_ble_eq_true rfl)) dX11_corner_10 ⟨Nat.le_of_ble_eq_true rfl, Nat.le_of_ble_eq_true rfl⟩) hS hFc hFc rfl (fun t H1 locs ht hB hk1 hS => ?_)
    obtain ⟨hP1, hD1⟩ := hB
    rw [ht] at hP1
    obtain ⟨hP, hD⟩ := va_join (wr := []) (w1 := [(om k0 a (upd (upd I0 14 1) 15 (I0 15)) J0)]) hP hD [0] [] rfl rfl (by decide) (by decide) hk1 hFc hP1 hD1
    clear hk1 hPc hDc hFc hP1 hD1 ht
    generalize H1 = H at hP hS ⊢
    have hP : va_P (dC, dI) classes [(om k0 a (upd (upd I0 14 1) 15 (I0 15)) J0)] H := hP
    have hD : va_D A [(om k0 a (upd (upd I0 14 1) 15 (I0 15)) J0)] := hD
    have hP9 := hP.sub (ws' := [(om k0 a (upd (upd I0 14 1) 15 (I0 15)) J0)]) [0] rfl
    have hD9 := hD.sub (ws' := [(om k0 a (upd (upd I0 14 1) 15 (I0 15)) J0)]) [0] (by decide) rfl
    rw [hQ9]
    exact W.iret (v := (-1)) hx hb hr (fun t ht hW => ⟨⟨rfl, by rw [ht]; exact hP9, hD9⟩, hS.F ht⟩) hS.2.2 dX11_corner_13
set_option maxHeartbeats 4000000 in
set_option maxRecDepth 100000 in
theorem k_M_tear_x (l : Launch) (dC : Nat → ClassId) (dI : Nat → Nat → Nat) (cI cZ cF : ClassId) (sz : Nat) (k0 : Nat) (a : Nat → Nat) (I0 : Nat → Int32) (J0 : Nat → Int64) (ft : Nat) (v : Int32) (hft : I0 0 = nI ft) (h200 : ft ≤ 200) (hv : ¬ (0 ≤ v.toInt ∧ v.toInt < (ft : Int))) : Met l yX11_tear (.code yX11_tear cX11_tear 2 (some .boolean) :: ws0) ({ frames := 2, cells := 0, slots := 0, locals := 42 } : Room) (va_Pc [.ref k0, .int v] (zPre (dC, dI) classes (zTy cI cZ cF) [(om k0 a I0 J0)] sz zXN)) (zQ (some (.int 0)) (fun t => va_P (dC, dI) classes [(om k0 a (upd (upd I0 14 1) 15 (I0 15)) J0)] t.heap ∧ va_D (va_A [(om k0 a I0 J0)] sz) [(om k0 a (upd (upd I0 14 1) 15 (I0 15)) J0)]) (va_A [(om k0 a I0 J0)] sz)) 0 0 (va_A [(om k0 a I0 J0)] sz) := by
  refine Met.ofW (cc := cX11_tear) (maxL := 2) (ret := (some .boolean)) (by decide) rfl ?_
  intro p e s m args below meth c s₁ B hml hv
  obtain ⟨rfl, hsz, hP, hK, hD0, hXN⟩ := hv
  have hx := B.exec
  have hb := B.bytes
  have hr := B.returns
  have hts0 := atoms_spec (ws := .code yX11_tear cX11_tear 2 (some .boolean) :: ws0) B.pre
  have hts : ∀ w9 ∈ ws0, w9.before ([.ref k0, .int v] : List Value).toArray s = true := fun w9 h => hts0 w9 (List.mem_cons_of_mem _ h)
  have hown : s.vm.findClass "ScaleShopModel" = some m.cls := findClass_of_methodNamed B.named
  have hlocks := B.notSynchronized
  subst hsz
  have hD := hD0.self (sz := s.heap.size)
  clear hD0
  generalize hAe : va_A [(om k0 a I0 J0)] s.heap.size = A at hD ⊢
  have hA : ∀ q : Nat, s.heap.size ≤ q → A q := fun q h => by rw [← hAe]; exact Or.inr h
  clear hAe
  have hS : va_S A s.heap s.heap [] := va_S.rf
  have hP : va_P (dC, dI) classes [(om k0 a I0 J0)] s.heap := hP
  obtain ⟨Q9, hQ9⟩ : ∃ Q9 : State → Prop, Q9 = MQ below (zQ (some (.int 0)) (fun t => va_P (dC, dI) classes [(om k0 a (upd (upd I0 14 1) 15 (I0 15)) J0)] t.heap ∧ va_D A [(om k0 a (upd (upd I0 14 1) 15 (I0 15)) J0)]) A) ([.ref k0, .int v] : List Value).toArray s 0 0 A := ⟨_, rfl⟩
  rw [← hQ9]
  have hl := lv_entry ([.ref k0, .int v]) (n := 2) (Nat.le_of_ble_eq_true rfl)
  rw [lg_entry_eq]
  generalize (lg_sl ([.ref k0, .int v]) ++ List.replicate (2 - (lg_sl ([.ref k0, .int v])).length) Slot.unset).toArray = ls at hl ⊢
  have hl : lv_has ls 2 [(0, .ref k0), (1, .int v)] := hl
  refine lv_aload_n hx hb dX11_tear_0 rfl (lv_at hl 0 rfl) ?_
  refine lv_iload_n hx hb dX11_tear_1 rfl (lv_at hl 1 rfl) ?_
  have hPc := hP.sub (ws' := [(om k0 a I0 J0)]) [0] rfl
  have hDc := hD.sub (ws' := [(om k0 a I0 J0)]) [0] (by decide) rfl
  have hFc := va_free (wc := [(om k0 a I0 J0)]) hD hS hA [0] rfl
  refine zcall (st1 := [.int (pI (0 ≤ v.toInt ∧ v.toInt < (ft : Int)))]) (va_runV (As := [.int v]) (rest := []) ⟨hx, hb, hml, hown, hts⟩ (k_M_isFeature l dC dI cI cZ cF s.heap.size k0 a I0 J0 ft v (by assumption) (by omega)) (cwV 1 hts (zz_gV mw_1345 mw_1347 mw_37 mw_110 mc_yX11_isFeature) rfl rfl rfl (by decide +kernel) ⟨Nat.le_of_ble_eq_true rfl, Nat.le_of_ble_eq_true rfl⟩) (zPV2 (q0 := 0) (ci := 9) hPc hDc hK hXN rfl rfl) rfl rfl hl.1 rfl (lv_room (Nat.le_of_ble_eq_true rfl)) dX11_tear_2 ⟨Nat.le_of_ble_eq_true rfl, Nat.le_of_ble_eq_true rfl⟩) hS hFc hFc rfl (fun t H1 locs ht hB hk1 hS => ?_)
  obtain ⟨hP1, hD1⟩ := hB
  rw [ht] at hP1
  obtain ⟨hP, hD⟩ := va_join (wr := []) (w1 := [(om k0 a I0 J0)]) hP hD [0] [] rfl rfl (by decide) (by decide) hk1 hFc hP1 hD1
  clear hk1 hPc hDc hFc hP1 hD1 ht
  generalize H1 = H at hP hS ⊢
  have hP : va_P (dC, dI) classes [(om k0 a I0 J0)] H := hP
  have hD : va_D A [(om k0 a I0 J0)] := hD
  refine lv_if_ne (tgt := 14) hx hb dX11_tear_5 (by decide) (fun c_1 => ?_) (fun c_1 => ?_)
  · have c_1 : 0 ≤ v.toInt ∧ v.toInt < (ft : Int) := zp_1 c_1
    exfalso; exact absurd (by assumption) hv
  · have c_1 : ¬ (0 ≤ v.toInt ∧ v.toInt < (ft : Int)) := zp_0 c_1
    refine lv_aload_n hx hb dX11_tear_8 rfl (lv_at hl 0 rfl) ?_
    refine lv_iconst (v := 1) hx hb dX11_tear_9 (by decide) ?_
    have hPc := hP.sub (ws' := [(om k0 a I0 J0)]) [0] rfl
    have hDc := hD.sub (ws' := [(om k0 a I0 J0)]) [0] (by decide) rfl
    have hFc := va_free (wc := [(om k0 a I0 J0)]) hD hS hA [0] rfl
    refine zcall (st1 := [.int 0]) (va_runV (As := [.int 1]) (rest := []) ⟨hx, hb, hml, hown, hts⟩ (k_M_no l dC dI cI cZ cF H.size k0 a I0 J0 1 (by decide)) (cwV 1 hts (zz_gV mw_1353 mw_1355 mw_38 mw_110 mc_yX11_no) rfl rfl rfl (by decide +kernel) ⟨Nat.le_of_ble_eq_true rfl, Nat.le_of_ble_eq_true rfl⟩) (zPV2 (q0 := 0) (ci := 9) hPc hDc hK hXN rfl rfl) rfl rfl hl.1 rfl (lv_room (Nat.le_of_ble_eq_true rfl)) dX11_tear_10 ⟨Nat.le_of_ble_eq_true rfl, Nat.le_of_ble_eq_true rfl⟩) hS hFc hFc rfl (fun t H1 locs ht hB hk1 hS => ?_)
    obtain ⟨hP1, hD1⟩ := hB
    rw [ht] at hP1
    obtain ⟨hP, hD⟩ := va_join (wr := []) (w1 := [(om k0 a (upd (upd I0 14 1) 15 (I0 15)) J0)]) hP hD [0] [] rfl rfl (by decide) (by decide) hk1 hFc hP1 hD1
    clear hk1 hPc hDc hFc hP1 hD1 ht
    generalize H1 = H at hP hS ⊢
    have hP : va_P (dC, dI) classes [(om k0 a (upd (upd I0 14 1) 15 (I0 15)) J0)] H := hP
    have hD : va_D A [(om k0 a (upd (upd I0 14 1) 15 (I0 15)) J0)] := hD
    have hP9 := hP.sub (ws' := [(om k0 a (upd (upd I0 14 1) 15 (I0 15)) J0)]) [0] rfl
    have hD9 := hD.sub (ws' := [(om k0 a (upd (upd I0 14 1) 15 (I0 15)) J0)]) [0] (by decide) rfl
    rw [hQ9]
    exact W.zret (ty := .boolean) (v := 0) hx hb hr (rfl) (fun t ht hW => ⟨⟨rfl, by rw [ht]; exact hP9, hD9⟩, hS.F ht⟩) hS.2.2 dX11_tear_13
set_option maxHeartbeats 4000000 in
set_option maxRecDepth 100000 in
theorem k_M_done_x (l : Launch) (dC : Nat → ClassId) (dI : Nat → Nat → Nat) (cI cZ cF : ClassId) (sz : Nat) (k0 : Nat) (a : Nat → Nat) (I0 : Nat → Int32) (J0 : Nat → Int64) (ft : Nat) (v : Int32) (hft : I0 0 = nI ft) (h200 : ft ≤ 200) (hv : ¬ (0 ≤ v.toInt ∧ v.toInt < (ft : Int))) : Met l yX11_done (.code yX11_done cX11_done 2 (some .boolean) :: ws0) ({ frames := 2, cells := 0, slots := 0, locals := 42 } : Room) (va_Pc [.ref k0, .int v] (zPre (dC, dI) classes (zTy cI cZ cF) [(om k0 a I0 J0)] sz zXN)) (zQ (some (.int 0)) (fun t => va_P (dC, dI) classes [(om k0 a (upd (upd I0 14 1) 15 (I0 15)) J0)] t.heap ∧ va_D (va_A [(om k0 a I0 J0)] sz) [(om k0 a (upd (upd I0 14 1) 15 (I0 15)) J0)]) (va_A [(om k0 a I0 J0)] sz)) 0 0 (va_A [(om k0 a I0 J0)] sz) := by
  refine Met.ofW (cc := cX11_done) (maxL := 2) (ret := (some .boolean)) (by decide) rfl ?_
  intro p e s m args below meth c s₁ B hml hv
  obtain ⟨rfl, hsz, hP, hK, hD0, hXN⟩ := hv
  have hx := B.exec
  have hb := B.bytes
  have hr := B.returns
  have hts0 := atoms_spec (ws := .code yX11_done cX11_done 2 (some .boolean) :: ws0) B.pre
  have hts : ∀ w9 ∈ ws0, w9.before ([.ref k0, .int v] : List Value).toArray s = true := fun w9 h => hts0 w9 (List.mem_cons_of_mem _ h)
  have hown : s.vm.findClass "ScaleShopModel" = some m.cls := findClass_of_methodNamed B.named
  have hlocks := B.notSynchronized
  subst hsz
  have hD := hD0.self (sz := s.heap.size)
  clear hD0
  generalize hAe : va_A [(om k0 a I0 J0)] s.heap.size = A at hD ⊢
  have hA : ∀ q : Nat, s.heap.size ≤ q → A q := fun q h => by rw [← hAe]; exact Or.inr h
  clear hAe
  have hS : va_S A s.heap s.heap [] := va_S.rf
  have hP : va_P (dC, dI) classes [(om k0 a I0 J0)] s.heap := hP
  obtain ⟨Q9, hQ9⟩ : ∃ Q9 : State → Prop, Q9 = MQ below (zQ (some (.int 0)) (fun t => va_P (dC, dI) classes [(om k0 a (upd (upd I0 14 1) 15 (I0 15)) J0)] t.heap ∧ va_D A [(om k0 a (upd (upd I0 14 1) 15 (I0 15)) J0)]) A) ([.ref k0, .int v] : List Value).toArray s 0 0 A := ⟨_, rfl⟩
  rw [← hQ9]
  have hl := lv_entry ([.ref k0, .int v]) (n := 2) (Nat.le_of_ble_eq_true rfl)
  rw [lg_entry_eq]
  generalize (lg_sl ([.ref k0, .int v]) ++ List.replicate (2 - (lg_sl ([.ref k0, .int v])).length) Slot.unset).toArray = ls at hl ⊢
  have hl : lv_has ls 2 [(0, .ref k0), (1, .int v)] := hl
  refine lv_aload_n hx hb dX11_done_0 rfl (lv_at hl 0 rfl) ?_
  refine lv_iload_n hx hb dX11_done_1 rfl (lv_at hl 1 rfl) ?_
  have hPc := hP.sub (ws' := [(om k0 a I0 J0)]) [0] rfl
  have hDc := hD.sub (ws' := [(om k0 a I0 J0)]) [0] (by decide) rfl
  have hFc := va_free (wc := [(om k0 a I0 J0)]) hD hS hA [0] rfl
  refine zcall (st1 := [.int (pI (0 ≤ v.toInt ∧ v.toInt < (ft : Int)))]) (va_runV (As := [.int v]) (rest := []) ⟨hx, hb, hml, hown, hts⟩ (k_M_isFeature l dC dI cI cZ cF s.heap.size k0 a I0 J0 ft v (by assumption) (by omega)) (cwV 1 hts (zz_gV mw_1345 mw_1347 mw_37 mw_110 mc_yX11_isFeature) rfl rfl rfl (by decide +kernel) ⟨Nat.le_of_ble_eq_true rfl, Nat.le_of_ble_eq_true rfl⟩) (zPV2 (q0 := 0) (ci := 9) hPc hDc hK hXN rfl rfl) rfl rfl hl.1 rfl (lv_room (Nat.le_of_ble_eq_true rfl)) dX11_done_2 ⟨Nat.le_of_ble_eq_true rfl, Nat.le_of_ble_eq_true rfl⟩) hS hFc hFc rfl (fun t H1 locs ht hB hk1 hS => ?_)
  obtain ⟨hP1, hD1⟩ := hB
  rw [ht] at hP1
  obtain ⟨hP, hD⟩ := va_join (wr := []) (w1 := [(om k0 a I0 J0)]) hP hD [0] [] rfl rfl (by decide) (by decide) hk1 hFc hP1 hD1
  clear hk1 hPc hDc hFc hP1 hD1 ht
  generalize H1 = H at hP hS ⊢
  have hP : va_P (dC, dI) classes [(om k0 a I0 J0)] H := hP
  have hD : va_D A [(om k0 a I0 J0)] := hD
  refine lv_if_ne (tgt := 14) hx hb dX11_done_5 (by decide) (fun c_1 => ?_) (fun c_1 => ?_)
  · have c_1 : 0 ≤ v.toInt ∧ v.toInt < (ft : Int) := zp_1 c_1
    exfalso; exact absurd (by assumption) hv
  · have c_1 : ¬ (0 ≤ v.toInt ∧ v.toInt < (ft : Int)) := zp_0 c_1
    refine lv_aload_n hx hb dX11_done_8 rfl (lv_at hl 0 rfl) ?_
    refine lv_iconst (v := 1) hx hb dX11_done_9 (by decide) ?_
    have hPc := hP.sub (ws' := [(om k0 a I0 J0)]) [0] rfl
    have hDc := hD.sub (ws' := [(om k0 a I0 J0)]) [0] (by decide) rfl
    have hFc := va_free (wc := [(om k0 a I0 J0)]) hD hS hA [0] rfl
    refine zcall (st1 := [.int 0]) (va_runV (As := [.int 1]) (rest := []) ⟨hx, hb, hml, hown, hts⟩ (k_M_no l dC dI cI cZ cF H.size k0 a I0 J0 1 (by decide)) (cwV 1 hts (zz_gV mw_1353 mw_1355 mw_38 mw_110 mc_yX11_no) rfl rfl rfl (by decide +kernel) ⟨Nat.le_of_ble_eq_true rfl, Nat.le_of_ble_eq_true rfl⟩) (zPV2 (q0 := 0) (ci := 9) hPc hDc hK hXN rfl rfl) rfl rfl hl.1 rfl (lv_room (Nat.le_of_ble_eq_true rfl)) dX11_done_10 ⟨Nat.le_of_ble_eq_true rfl, Nat.le_of_ble_eq_true rfl⟩) hS hFc hFc rfl (fun t H1 locs ht hB hk1 hS => ?_)
    obtain ⟨hP1, hD1⟩ := hB
    rw [ht] at hP1
    obtain ⟨hP, hD⟩ := va_join (wr := []) (w1 := [(om k0 a (upd (upd I0 14 1) 15 (I0 15)) J0)]) hP hD [0] [] rfl rfl (by decide) (by decide) hk1 hFc hP1 hD1
    clear hk1 hPc hDc hFc hP1 hD1 ht
    generalize H1 = H at hP hS ⊢
    have hP : va_P (dC, dI) classes [(om k0 a (upd (upd I0 14 1) 15 (I0 15)) J0)] H := hP
    have hD : va_D A [(om k0 a (upd (upd I0 14 1) 15 (I0 15)) J0)] := hD
    have hP9 := hP.sub (ws' := [(om k0 a (upd (upd I0 14 1) 15 (I0 15)) J0)]) [0] rfl
    have hD9 := hD.sub (ws' := [(om k0 a (upd (upd I0 14 1) 15 (I0 15)) J0)]) [0] (by decide) rfl
    rw [hQ9]
    exact W.zret (ty := .boolean) (v := 0) hx hb hr (rfl) (fun t ht hW => ⟨⟨rfl, by rw [ht]; exact hP9, hD9⟩, hS.F ht⟩) hS.2.2 dX11_done_13
set_option maxHeartbeats 4000000 in
set_option maxRecDepth 100000 in
theorem k_M_corner_r (l : Launch) (dC : Nat → ClassId) (dI : Nat → Nat → Nat) (cI cZ cF : ClassId) (sz : Nat) (k0 : Nat) (a : Nat → Nat) (I0 : Nat → Int32) (J0 : Nat → Int64) (f : Nat) (n : Nat) (ft : Nat) (px : Int32) (py : Int32) (st : Nat → Int32) (tn : Nat → Int32) (mn : Nat → Int32) (kd : Nat → Int32) (hft : I0 0 = nI ft) (h200 : ft ≤ 200) (hf_t : f < ft) (hm_f : mn f = nI n) (hn_f : n ≤ 40) (hbad : ¬ ((st f).toInt = 0 ∧ (0 ≤ px.toInt ∧ px.toInt ≤ 1000 ∧ 0 ≤ py.toInt ∧ py.toInt ≤ 1000) ∧ (tn f).toInt = 0 ∧ ¬ n = cpk (kd f).toInt)) : Met l yX11_corner (.code yX11_corner cX11_corner 4 (some .int) :: ws0) ({ frames := 1, cells := 0, slots := 0, locals := 21 } : Room) (va_Pc [.ref k0, .int (nI f), .int px, .int py] (zPre (dC, dI) classes (zTy cI cZ cF) [(om k0 a I0 J0), (oa (a 5) cI 201 st), (oa (a 6) cZ 201 tn), (oa (a 11) cI 201 mn), (oa (a 1) cI 201 kd)] sz zXN)) (zQ (some (.int (-1))) (fun t => ∃ (z9 : Int32), va_P (dC, dI) classes [(om k0 a (upd (upd I0 14 z9) 15 (I0 15)) J0), (oa (a 5) cI 201 st), (oa (a 6) cZ 201 tn), (oa (a 11) cI 201 mn), (oa (a 1) cI 201 kd)] t.heap ∧ va_D (va_A [(om k0 a I0 J0), (oa (a 5) cI 201 st), (oa (a 6) cZ 201 tn), (oa (a 11) cI 201 mn), (oa (a 1) cI 201 kd)] sz) [(om k0 a (upd (upd I0 14 z9) 15 (I0 15)) J0), (oa (a 5) cI 201 st), (oa (a 6) cZ 201 tn), (oa (a 11) cI 201 mn), (oa (a 1) cI 201 kd)]) (va_A [(om k0 a I0 J0), (oa (a 5) cI 201 st), (oa (a 6) cZ 201 tn), (oa (a 11) cI 201 mn), (oa (a 1) cI 201 kd)] sz)) 0 0 (va_A [(om k0 a I0 J0), (oa (a 5) cI 201 st), (oa (a 6) cZ 201 tn), (oa (a 11) cI 201 mn), (oa (a 1) cI 201 kd)] sz) := by
  refine Met.ofW (cc := cX11_corner) (maxL := 4) (ret := (some .int)) (by decide) rfl ?_
  intro p e s m args below meth c s₁ B hml hv
  obtain ⟨rfl, hsz, hP, hK, hD0, hXN⟩ := hv
  have hx := B.exec
  have hb := B.bytes
  have hr := B.returns
  have hts0 := atoms_spec (ws := .code yX11_corner cX11_corner 4 (some .int) :: ws0) B.pre
  have hts : ∀ w9 ∈ ws0, w9.before ([.ref k0, .int (nI f), .int px, .int py] : List Value).toArray s = true := fun w9 h => hts0 w9 (List.mem_cons_of_mem _ h)
  have hown : s.vm.findClass "ScaleShopModel" = some m.cls := findClass_of_methodNamed B.named
  have hlocks := B.notSynchronized
  subst hsz
  have hD := hD0.self (sz := s.heap.size)
  clear hD0
  generalize hAe : va_A [(om k0 a I0 J0), (oa (a 5) cI 201 st), (oa (a 6) cZ 201 tn), (oa (a 11) cI 201 mn), (oa (a 1) cI 201 kd)] s.heap.size = A at hD ⊢
  have hA : ∀ q : Nat, s.heap.size ≤ q → A q := fun q h => by rw [← hAe]; exact Or.inr h
  clear hAe
  have hS : va_S A s.heap s.heap [] := va_S.rf
  have hP : va_P (dC, dI) classes [(om k0 a I0 J0), (oa (a 5) cI 201 st), (oa (a 6) cZ 201 tn), (oa (a 11) cI 201 mn), (oa (a 1) cI 201 kd)] s.heap := hP
  obtain ⟨Q9, hQ9⟩ : ∃ Q9 : State → Prop, Q9 = MQ below (zQ (some (.int (-1))) (fun t => ∃ (z9 : Int32), va_P (dC, dI) classes [(om k0 a (upd (upd I0 14 z9) 15 (I0 15)) J0), (oa (a 5) cI 201 st), (oa (a 6) cZ 201 tn), (oa (a 11) cI 201 mn), (oa (a 1) cI 201 kd)] t.heap ∧ va_D A [(om k0 a (upd (upd I0 14 z9) 15 (I0 15)) J0), (oa (a 5) cI 201 st), (oa (a 6) cZ 201 tn), (oa (a 11) cI 201 mn), (oa (a 1) cI 201 kd)]) A) ([.ref k0, .int (nI f), .int px, .int py] : List Value).toArray s 0 0 A := ⟨_, rfl⟩
  rw [← hQ9]
  have hl := lv_entry ([.ref k0, .int (nI f), .int px, .int py]) (n := 4) (Nat.le_of_ble_eq_true rfl)
  rw [lg_entry_eq]
  generalize (lg_sl ([.ref k0, .int (nI f), .int px, .int py]) ++ List.replicate (4 - (lg_sl ([.ref k0, .int (nI f), .int px, .int py])).length) Slot.unset).toArray = ls at hl ⊢
  have hl : lv_has ls 4 [(0, .ref k0), (1, .int (nI f)), (2, .int px), (3, .int py)] := hl
  have hcp := cpk_s (kd f).toInt
  refine lv_aload_n hx hb dX11_corner_0 rfl (lv_at hl 0 rfl) ?_
  refine lv_iload_n hx hb dX11_corner_1 rfl (lv_at hl 1 rfl) ?_
  have hPc := hP.sub (ws' := [(om k0 a I0 J0)]) [0] rfl
  have hDc := hD.sub (ws' := [(om k0 a I0 J0)]) [0] (by decide) rfl
  have hFc := va_free (wc := [(om k0 a I0 J0)]) hD hS hA [0] rfl
  refine zcall (st1 := [.int (pI (f < ft))]) (va_runV (As := [.int (nI f)]) (rest := []) ⟨hx, hb, hml, hown, hts⟩ (k_M_isFeature_n l dC dI cI cZ cF s.heap.size k0 a I0 J0 f ft (by assumption) (by omega) (by omega)) (cwV 1 hts (zz_gV mw_1345 mw_1347 mw_37 mw_110 mc_yX11_isFeature) rfl rfl rfl (by decide +kernel) ⟨Nat.le_of_ble_eq_true rfl, Nat.le_of_ble_eq_true rfl⟩) (zPV2 (q0 := 0) (ci := 9) hPc hDc hK hXN rfl rfl) rfl rfl hl.1 rfl (lv_room (Nat.le_of_ble_eq_true rfl)) dX11_corner_2 ⟨Nat.le_of_ble_eq_true rfl, Nat.le_of_ble_eq_true rfl⟩) hS hFc hFc rfl (fun t H1 locs ht hB hk1 hS => ?_)
  obtain ⟨hP1, hD1⟩ := hB
  rw [ht] at hP1
  obtain ⟨hP, hD⟩ := va_join (wr := [(oa (a 5) cI 201 st), (oa (a 6) cZ 201 tn), (oa (a 11) cI 201 mn), (oa (a 1) cI 201 kd)]) (w1 := [(om k0 a I0 J0)]) hP hD [0] [1, 2, 3, 4] rfl rfl (by decide) (by decide) hk1 hFc hP1 hD1
  clear hk1 hPc hDc hFc hP1 hD1 ht
  generalize H1 = H at hP hS ⊢
  have hP := hP.sub (ws' := [(om k0 a I0 J0), (oa (a 5) cI 201 st), (oa (a 6) cZ 201 tn), (oa (a 11) cI 201 mn), (oa (a 1) cI 201 kd)]) [4, 0, 1, 2, 3] rfl
  have hD := hD.sub (ws' := [(om k0 a I0 J0), (oa (a 5) cI 201 st), (oa (a 6) cZ 201 tn), (oa (a 11) cI 201 mn), (oa (a 1) cI 201 kd)]) [4, 0, 1, 2, 3] (by decide) rfl
  have hP : va_P (dC, dI) classes [(om k0 a I0 J0), (oa (a 5) cI 201 st), (oa (a 6) cZ 201 tn), (oa (a 11) cI 201 mn), (oa (a 1) cI 201 kd)] H := hP
  have hD : va_D A [(om k0 a I0 J0), (oa (a 5) cI 201 st), (oa (a 6) cZ 201 tn), (oa (a 11) cI 201 mn), (oa (a 1) cI 201 kd)] := hD
  refine lv_if_ne (tgt := 14) hx hb dX11_corner_5 (by decide) (fun c_1 => ?_) (fun c_1 => ?_)
  · have c_1 : f < ft := zp_1 c_1
    refine lv_aload_n hx hb dX11_corner_14 rfl (lv_at hl 0 rfl) ?_
    refine va_get (D := (dC, dI)) (ci := 9) (v := .ref (a 5)) (C := RX11) (T := TX11) (N := 55) hx hb hts inX11 hown hK hP 0 rfl rfl 5 (by decide) (hts _ mw_1164) (fun _ h9 => h9) rfl dX11_corner_15 ?_
    refine lv_iload_n hx hb dX11_corner_18 rfl (lv_at hl 1 rfl) ?_
    refine z_iald hx hb hK hP 1 0 rfl rfl (e := f) rfl (by omega) (by omega) dX11_corner_19 ?_
    refine lv_if_eq (tgt := 29) hx hb dX11_corner_20 (by decide) (fun c_2 => ?_) (fun c_2 => ?_)
    · have c_2 : (st f).toInt = 0 := zc_eq rfl (by decide) c_2
      refine lv_iload_n hx hb dX11_corner_29 rfl (lv_at hl 2 rfl) ?_
      refine lv_if_lt (tgt := 51) hx hb dX11_corner_30 (by decide) (fun c_3 => ?_) (fun c_3 => ?_)
      · have c_3 : px.toInt < 0 := zc_lt rfl (by decide) c_3
        refine lv_aload_n hx hb dX11_corner_51 rfl (lv_at hl 0 rfl) ?_
        refine lv_iconst (v := 4) hx hb dX11_corner_52 (by decide) ?_
        have hPc := hP.sub (ws' := [(om k0 a I0 J0)]) [0] rfl
        have hDc := hD.sub (ws' := [(om k0 a I0 J0)]) [0] (by decide) rfl
        have hFc := va_free (wc := [(om k0 a I0 J0)]) hD hS hA [0] rfl
        refine zcall (st1 := [.int (-1)]) (va_runV (As := [.int 4]) (rest := []) ⟨hx, hb, hml, hown, hts⟩ (k_M_refuse l dC dI cI cZ cF H.size k0 a I0 J0 4 (by decide)) (cwV 1 hts (zz_gV mw_1329 mw_1331 mw_34 mw_110 mc_yX11_refuse) rfl rfl rfl (by decide +kernel) ⟨Nat.le_of_ble_eq_true rfl, Nat.le_of_ble_eq_true rfl⟩) (zPV2 (q0 := 0) (ci := 9) hPc hDc hK hXN rfl rfl) rfl rfl hl.1 rfl (lv_room (Nat.le_of_ble_eq_true rfl)) dX11_corner_53 ⟨Nat.le_of_ble_eq_true rfl, Nat.le_of_ble_eq_true rfl⟩) hS hFc hFc rfl (fun t H1 locs ht hB hk1 hS => ?_)
        obtain ⟨hP1, hD1⟩ := hB
        rw [ht] at hP1
        obtain ⟨hP, hD⟩ := va_join (wr := [(oa (a 5) cI 201 st), (oa (a 6) cZ 201 tn), (oa (a 11) cI 201 mn), (oa (a 1) cI 201 kd)]) (w1 := [(om k0 a (upd (upd I0 14 4) 15 (I0 15)) J0)]) hP hD [0] [1, 2, 3, 4] rfl rfl (by decide) (by decide) hk1 hFc hP1 hD1
        clear hk1 hPc hDc hFc hP1 hD1 ht
        generalize H1 = H at hP hS ⊢
        have hP := hP.sub (ws' := [(om k0 a (upd (upd I0 14 4) 15 (I0 15)) J0), (oa (a 5) cI 201 st), (oa (a 6) cZ 201 tn), (oa (a 11) cI 201 mn), (oa (a 1) cI 201 kd)]) [4, 0, 1, 2, 3] rfl
        have hD := hD.sub (ws' := [(om k0 a (upd (upd I0 14 4) 15 (I0 15)) J0), (oa (a 5) cI 201 st), (oa (a 6) cZ 201 tn), (oa (a 11) cI 201 mn), (oa (a 1) cI 201 kd)]) [4, 0, 1, 2, 3] (by decide) rfl
        have hP : va_P (dC, dI) classes [(om k0 a (upd (upd I0 14 4) 15 (I0 15)) J0), (oa (a 5) cI 201 st), (oa (a 6) cZ 201 tn), (oa (a 11) cI 201 mn), (oa (a 1) cI 201 kd)] H := hP
        have hD : va_D A [(om k0 a (upd (upd I0 14 4) 15 (I0 15)) J0), (oa (a 5) cI 201 st), (oa (a 6) cZ 201 tn), (oa (a 11) cI 201 mn), (oa (a 1) cI 201 kd)] := hD
        have hP9 := hP.sub (ws' := [(om k0 a (upd (upd I0 14 4) 15 (I0 15)) J0), (oa (a 5) cI 201 st), (oa (a 6) cZ 201 tn), (oa (a 11) cI 201 mn), (oa (a 1) cI 201 kd)]) [0, 1, 2, 3, 4] rfl
        have hD9 := hD.sub (ws' := [(om k0 a (upd (upd I0 14 4) 15 (I0 15)) J0), (oa (a 5) cI 201 st), (oa (a 6) cZ 201 tn), (oa (a 11) cI 201 mn), (oa (a 1) cI 201 kd)]) [0, 1, 2, 3, 4] (by decide) rfl
        rw [hQ9]
        exact W.iret (v := (-1)) hx hb hr (fun t ht hW => ⟨⟨rfl, 4, by rw [ht]; exact hP9, hD9⟩, hS.F ht⟩) hS.2.2 dX11_corner_56
      · have c_3 : 0 ≤ px.toInt := zc_nlt rfl (by decide) c_3
        refine lv_iload_n hx hb dX11_corner_33 rfl (lv_at hl 2 rfl) ?_
        refine lv_sipush (v := 1000) hx hb dX11_corner_34 (by decide) ?_
        refine lv_icmp_gt (tgt := 51) hx hb dX11_corner_37 (by decide) (fun c_4 => ?_) (fun c_4 => ?_)
        · have c_4 : 1000 < px.toInt := zc_lt (by decide) rfl c_4
          refine lv_aload_n hx hb dX11_corner_51 rfl (lv_at hl 0 rfl) ?_
          refine lv_iconst (v := 4) hx hb dX11_corner_52 (by decide) ?_
          have hPc := hP.sub (ws' := [(om k0 a I0 J0)]) [0] rfl
          have hDc := hD.sub (ws' := [(om k0 a I0 J0)]) [0] (by decide) rfl
          have hFc := va_free (wc := [(om k0 a I0 J0)]) hD hS hA [0] rfl
          refine zcall (st1 := [.int (-1)]) (va_runV (As := [.int 4]) (rest := []) ⟨hx, hb, hml, hown, hts⟩ (k_M_refuse l dC dI cI cZ cF H.size k0 a I0 J0 4 (by decide)) (cwV 1 hts (zz_gV mw_1329 mw_1331 mw_34 mw_110 mc_yX11_refuse) rfl rfl rfl (by decide +kernel) ⟨Nat.le_of_ble_eq_true rfl, Nat.le_of_ble_eq_true rfl⟩) (zPV2 (q0 := 0) (ci := 9) hPc hDc hK hXN rfl rfl) rfl rfl hl.1 rfl (lv_room (Nat.le_of_ble_eq_true rfl)) dX11_corner_53 ⟨Nat.le_of_ble_eq_true rfl, Nat.le_of_ble_eq_true rfl⟩) hS hFc hFc rfl (fun t H1 locs ht hB hk1 hS => ?_)
          obtain ⟨hP1, hD1⟩ := hB
          rw [ht] at hP1
          obtain ⟨hP, hD⟩ := va_join (wr := [(oa (a 5) cI 201 st), (oa (a 6) cZ 201 tn), (oa (a 11) cI 201 mn), (oa (a 1) cI 201 kd)]) (w1 := [(om k0 a (upd (upd I0 14 4) 15 (I0 15)) J0)]) hP hD [0] [1, 2, 3, 4] rfl rfl (by decide) (by decide) hk1 hFc hP1 hD1
          clear hk1 hPc hDc hFc hP1 hD1 ht
          generalize H1 = H at hP hS ⊢
          have hP := hP.sub (ws' := [(om k0 a (upd (upd I0 14 4) 15 (I0 15)) J0), (oa (a 5) cI 201 st), (oa (a 6) cZ 201 tn), (oa (a 11) cI 201 mn), (oa (a 1) cI 201 kd)]) [4, 0, 1, 2, 3] rfl
          have hD := hD.sub (ws' := [(om k0 a (upd (upd I0 14 4) 15 (I0 15)) J0), (oa (a 5) cI 201 st), (oa (a 6) cZ 201 tn), (oa (a 11) cI 201 mn), (oa (a 1) cI 201 kd)]) [4, 0, 1, 2, 3] (by decide) rfl
          have hP : va_P (dC, dI) classes [(om k0 a (upd (upd I0 14 4) 15 (I0 15)) J0), (oa (a 5) cI 201 st), (oa (a 6) cZ 201 tn), (oa (a 11) cI 201 mn), (oa (a 1) cI 201 kd)] H := hP
          have hD : va_D A [(om k0 a (upd (upd I0 14 4) 15 (I0 15)) J0), (oa (a 5) cI 201 st), (oa (a 6) cZ 201 tn), (oa (a 11) cI 201 mn), (oa (a 1) cI 201 kd)] := hD
          have hP9 := hP.sub (ws' := [(om k0 a (upd (upd I0 14 4) 15 (I0 15)) J0), (oa (a 5) cI 201 st), (oa (a 6) cZ 201 tn), (oa (a 11) cI 201 mn), (oa (a 1) cI 201 kd)]) [0, 1, 2, 3, 4] rfl
          have hD9 := hD.sub (ws' := [(om k0 a (upd (upd I0 14 4) 15 (I0 15)) J0), (oa (a 5) cI 201 st), (oa (a 6) cZ 201 tn), (oa (a 11) cI 201 mn), (oa (a 1) cI 201 kd)]) [0, 1, 2, 3, 4] (by decide) rfl
          rw [hQ9]
          exact W.iret (v := (-1)) hx hb hr (fun t ht hW => ⟨⟨rfl, 4, by rw [ht]; exact hP9, hD9⟩, hS.F ht⟩) hS.2.2 dX11_corner_56
        · have c_4 : px.toInt ≤ 1000 := zc_nlt (by decide) rfl c_4
          refine lv_iload_n hx hb dX11_corner_40 rfl (lv_at hl 3 rfl) ?_
          refine lv_if_lt (tgt := 51) hx hb dX11_corner_41 (by decide) (fun c_5 => ?_) (fun c_5 => ?_)
          · have c_5 : py.toInt < 0 := zc_lt rfl (by decide) c_5
            refine lv_aload_n hx hb dX11_corner_51 rfl (lv_at hl 0 rfl) ?_
            refine lv_iconst (v := 4) hx hb dX11_corner_52 (by decide) ?_
            have hPc := hP.sub (ws' := [(om k0 a I0 J0)]) [0] rfl
            have hDc := hD.sub (ws' := [(om k0 a I0 J0)]) [0] (by decide) rfl
            have hFc := va_free (wc := [(om k0 a I0 J0)]) hD hS hA [0] rfl
            refine zcall (st1 := [.int (-1)]) (va_runV (As := [.int 4]) (rest := []) ⟨hx, hb, hml, hown, hts⟩ (k_M_refuse l dC dI cI cZ cF H.size k0 a I0 J0 4 (by decide)) (cwV 1 hts (zz_gV mw_1329 mw_1331 mw_34 mw_110 mc_yX11_refuse) rfl rfl rfl (by decide +kernel) ⟨Nat.le_of_ble_eq_true rfl, Nat.le_of_ble_eq_true rfl⟩) (zPV2 (q0 := 0) (ci := 9) hPc hDc hK hXN rfl rfl) rfl rfl hl.1 rfl (lv_room (Nat.le_of_ble_eq_true rfl)) dX11_corner_53 ⟨Nat.le_of_ble_eq_true rfl, Nat.le_of_ble_eq_true rfl⟩) hS hFc hFc rfl (fun t H1 locs ht hB hk1 hS => ?_)
            obtain ⟨hP1, hD1⟩ := hB
            rw [ht] at hP1
            obtain ⟨hP, hD⟩ := va_join (wr := [(oa (a 5) cI 201 st), (oa (a 6) cZ 201 tn), (oa (a 11) cI 201 mn), (oa (a 1) cI 201 kd)]) (w1 := [(om k0 a (upd (upd I0 14 4) 15 (I0 15)) J0)]) hP hD [0] [1, 2, 3, 4] rfl rfl (by decide) (by decide) hk1 hFc hP1 hD1
            clear hk1 hPc hDc hFc hP1 hD1 ht
            generalize H1 = H at hP hS ⊢
            have hP := hP.sub (ws' := [(om k0 a (upd (upd I0 14 4) 15 (I0 15)) J0), (oa (a 5) cI 201 st), (oa (a 6) cZ 201 tn), (oa (a 11) cI 201 mn), (oa (a 1) cI 201 kd)]) [4, 0, 1, 2, 3] rfl
            have hD := hD.sub (ws' := [(om k0 a (upd (upd I0 14 4) 15 (I0 15)) J0), (oa (a 5) cI 201 st), (oa (a 6) cZ 201 tn), (oa (a 11) cI 201 mn), (oa (a 1) cI 201 kd)]) [4, 0, 1, 2, 3] (by decide) rfl
            have hP : va_P (dC, dI) classes [(om k0 a (upd (upd I0 14 4) 15 (I0 15)) J0), (oa (a 5) cI 201 st), (oa (a 6) cZ 201 tn), (oa (a 11) cI 201 mn), (oa (a 1) cI 201 kd)] H := hP
            have hD : va_D A [(om k0 a (upd (upd I0 14 4) 15 (I0 15)) J0), (oa (a 5) cI 201 st), (oa (a 6) cZ 201 tn), (oa (a 11) cI 201 mn), (oa (a 1) cI 201 kd)] := hD
            have hP9 := hP.sub (ws' := [(om k0 a (upd (upd I0 14 4) 15 (I0 15)) J0), (oa (a 5) cI 201 st), (oa (a 6) cZ 201 tn), (oa (a 11) cI 201 mn), (oa (a 1) cI 201 kd)]) [0, 1, 2, 3, 4] rfl
            have hD9 := hD.sub (ws' := [(om k0 a (upd (upd I0 14 4) 15 (I0 15)) J0), (oa (a 5) cI 201 st), (oa (a 6) cZ 201 tn), (oa (a 11) cI 201 mn), (oa (a 1) cI 201 kd)]) [0, 1, 2, 3, 4] (by decide) rfl
            rw [hQ9]
            exact W.iret (v := (-1)) hx hb hr (fun t ht hW => ⟨⟨rfl, 4, by rw [ht]; exact hP9, hD9⟩, hS.F ht⟩) hS.2.2 dX11_corner_56
          · have c_5 : 0 ≤ py.toInt := zc_nlt rfl (by decide) c_5
            refine lv_iload_n hx hb dX11_corner_44 rfl (lv_at hl 3 rfl) ?_
            refine lv_sipush (v := 1000) hx hb dX11_corner_45 (by decide) ?_
            refine lv_icmp_le (tgt := 57) hx hb dX11_corner_48 (by decide) (fun c_6 => ?_) (fun c_6 => ?_)
            · have c_6 : py.toInt ≤ 1000 := zc_le rfl (by decide) c_6
              refine lv_aload_n hx hb dX11_corner_57 rfl (lv_at hl 0 rfl) ?_
              refine va_get (D := (dC, dI)) (ci := 9) (v := .ref (a 6)) (C := RX11) (T := TX11) (N := 55) hx hb hts inX11 hown hK hP 0 rfl rfl 6 (by decide) (hts _ mw_1165) (fun _ h9 => h9) rfl dX11_corner_58 ?_
              refine lv_iload_n hx hb dX11_corner_61 rfl (lv_at hl 1 rfl) ?_
              refine z_zald hx hb hK hP 2 1 rfl rfl (e := f) rfl (by omega) (by omega) dX11_corner_62 ?_
              refine lv_if_eq (tgt := 72) hx hb dX11_corner_63 (by decide) (fun c_7 => ?_) (fun c_7 => ?_)
              · have c_7 : (tn f).toInt = 0 := zc_eq rfl (by decide) c_7
                refine lv_aload_n hx hb dX11_corner_72 rfl (lv_at hl 0 rfl) ?_
                refine va_get (D := (dC, dI)) (ci := 9) (v := .ref (a 11)) (C := RX11) (T := TX11) (N := 55) hx hb hts inX11 hown hK hP 0 rfl rfl 11 (by decide) (hts _ mw_1170) (fun _ h9 => h9) rfl dX11_corner_73 ?_
                refine lv_iload_n hx hb dX11_corner_76 rfl (lv_at hl 1 rfl) ?_
                refine z_iald hx hb hK hP 3 0 rfl rfl (e := f) rfl (by omega) (by omega) dX11_corner_77 ?_
                refine zz_i (v := nI n) (hm_f) ?_
                refine lv_aload_n hx hb dX11_corner_78 rfl (lv_at hl 0 rfl) ?_
                refine va_get (D := (dC, dI)) (ci := 9) (v := .ref (a 1)) (C := RX11) (T := TX11) (N := 55) hx hb hts inX11 hown hK hP 0 rfl rfl 1 (by decide) (hts _ mw_1160) (fun _ h9 => h9) rfl dX11_corner_79 ?_
                refine lv_iload_n hx hb dX11_corner_82 rfl (lv_at hl 1 rfl) ?_
                refine z_iald hx hb hK hP 4 0 rfl rfl (e := f) rfl (by omega) (by omega) dX11_corner_83 ?_
                refine lv_if_ne (tgt := 91) hx hb dX11_corner_84 (by decide) (fun c_8 => ?_) (fun c_8 => ?_)
                · have c_8 : ¬ (kd f).toInt = 0 := zc_ne rfl (by decide) c_8
                  refine lv_bipush (v := 40) hx hb dX11_corner_91 (by decide) ?_
                  refine lv_icmp_ne (tgt := 103) hx hb dX11_corner_93 (by decide) (fun c_9 => ?_) (fun c_9 => ?_)
                  · have c_9 : ¬ ((n : Nat) : Int) = 40 := zc_ne (nI_toInt (by omega)) (by decide) c_9
                    exfalso; omega
                  · have c_9 : ((n : Nat) : Int) = 40 := zc_eq (nI_toInt (by omega)) (by decide) c_9
                    refine lv_aload_n hx hb dX11_corner_96 rfl (lv_at hl 0 rfl) ?_
                    refine lv_bipush (v := 6) hx hb dX11_corner_97 (by decide) ?_
                    have hPc := hP.sub (ws' := [(om k0 a I0 J0)]) [0] rfl
                    have hDc := hD.sub (ws' := [(om k0 a I0 J0)]) [0] (by decide) rfl
                    have hFc := va_free (wc := [(om k0 a I0 J0)]) hD hS hA [0] rfl
                    refine zcall (st1 := [.int (-1)]) (va_runV (As := [.int 6]) (rest := []) ⟨hx, hb, hml, hown, hts⟩ (k_M_refuse l dC dI cI cZ cF H.size k0 a I0 J0 6 (by decide)) (cwV 1 hts (zz_gV mw_1329 mw_1331 mw_34 mw_110 mc_yX11_refuse) rfl rfl rfl (by decide +kernel) ⟨Nat.le_of_ble_eq_true rfl, Nat.le_of_ble_eq_true rfl⟩) (zPV2 (q0 := 0) (ci := 9) hPc hDc hK hXN rfl rfl) rfl rfl hl.1 rfl (lv_room (Nat.le_of_ble_eq_true rfl)) dX11_corner_99 ⟨Nat.le_of_ble_eq_true rfl, Nat.le_of_ble_eq_true rfl⟩) hS hFc hFc rfl (fun t H1 locs ht hB hk1 hS => ?_)
                    obtain ⟨hP1, hD1⟩ := hB
                    rw [ht] at hP1
                    obtain ⟨hP, hD⟩ := va_join (wr := [(oa (a 5) cI 201 st), (oa (a 6) cZ 201 tn), (oa (a 11) cI 201 mn), (oa (a 1) cI 201 kd)]) (w1 := [(om k0 a (upd (upd I0 14 6) 15 (I0 15)) J0)]) hP hD [0] [1, 2, 3, 4] rfl rfl (by decide) (by decide) hk1 hFc hP1 hD1
                    clear hk1 hPc hDc hFc hP1 hD1 ht
                    generalize H1 = H at hP hS ⊢
                    have hP := hP.sub (ws' := [(om k0 a (upd (upd I0 14 6) 15 (I0 15)) J0), (oa (a 5) cI 201 st), (oa (a 6) cZ 201 tn), (oa (a 11) cI 201 mn), (oa (a 1) cI 201 kd)]) [4, 0, 1, 2, 3] rfl
                    have hD := hD.sub (ws' := [(om k0 a (upd (upd I0 14 6) 15 (I0 15)) J0), (oa (a 5) cI 201 st), (oa (a 6) cZ 201 tn), (oa (a 11) cI 201 mn), (oa (a 1) cI 201 kd)]) [4, 0, 1, 2, 3] (by decide) rfl
                    have hP : va_P (dC, dI) classes [(om k0 a (upd (upd I0 14 6) 15 (I0 15)) J0), (oa (a 5) cI 201 st), (oa (a 6) cZ 201 tn), (oa (a 11) cI 201 mn), (oa (a 1) cI 201 kd)] H := hP
                    have hD : va_D A [(om k0 a (upd (upd I0 14 6) 15 (I0 15)) J0), (oa (a 5) cI 201 st), (oa (a 6) cZ 201 tn), (oa (a 11) cI 201 mn), (oa (a 1) cI 201 kd)] := hD
                    have hP9 := hP.sub (ws' := [(om k0 a (upd (upd I0 14 6) 15 (I0 15)) J0), (oa (a 5) cI 201 st), (oa (a 6) cZ 201 tn), (oa (a 11) cI 201 mn), (oa (a 1) cI 201 kd)]) [0, 1, 2, 3, 4] rfl
                    have hD9 := hD.sub (ws' := [(om k0 a (upd (upd I0 14 6) 15 (I0 15)) J0), (oa (a 5) cI 201 st), (oa (a 6) cZ 201 tn), (oa (a 11) cI 201 mn), (oa (a 1) cI 201 kd)]) [0, 1, 2, 3, 4] (by decide) rfl
                    rw [hQ9]
                    exact W.iret (v := (-1)) hx hb hr (fun t ht hW => ⟨⟨rfl, 6, by rw [ht]; exact hP9, hD9⟩, hS.F ht⟩) hS.2.2 dX11_corner_102
                · have c_8 : (kd f).toInt = 0 := zc_eq rfl (by decide) c_8
                  refine lv_iconst (v := 1) hx hb dX11_corner_87 (by decide) ?_
                  refine lv_goto (tgt := 93) hx hb dX11_corner_88 (by decide) ?_
                  refine lv_icmp_ne (tgt := 103) hx hb dX11_corner_93 (by decide) (fun c_10 => ?_) (fun c_10 => ?_)
                  · have c_10 : ¬ ((n : Nat) : Int) = 1 := zc_ne (nI_toInt (by omega)) (by decide) c_10
                    exfalso; omega
                  · have c_10 : ((n : Nat) : Int) = 1 := zc_eq (nI_toInt (by omega)) (by decide) c_10
                    refine lv_aload_n hx hb dX11_corner_96 rfl (lv_at hl 0 rfl) ?_
                    refine lv_bipush (v := 6) hx hb dX11_corner_97 (by decide) ?_
                    have hPc := hP.sub (ws' := [(om k0 a I0 J0)]) [0] rfl
                    have hDc := hD.sub (ws' := [(om k0 a I0 J0)]) [0] (by decide) rfl
                    have hFc := va_free (wc := [(om k0 a I0 J0)]) hD hS hA [0] rfl
                    refine zcall (st1 := [.int (-1)]) (va_runV (As := [.int 6]) (rest := []) ⟨hx, hb, hml, hown, hts⟩ (k_M_refuse l dC dI cI cZ cF H.size k0 a I0 J0 6 (by decide)) (cwV 1 hts (zz_gV mw_1329 mw_1331 mw_34 mw_110 mc_yX11_refuse) rfl rfl rfl (by decide +kernel) ⟨Nat.le_of_ble_eq_true rfl, Nat.le_of_ble_eq_true rfl⟩) (zPV2 (q0 := 0) (ci := 9) hPc hDc hK hXN rfl rfl) rfl rfl hl.1 rfl (lv_room (Nat.le_of_ble_eq_true rfl)) dX11_corner_99 ⟨Nat.le_of_ble_eq_true rfl, Nat.le_of_ble_eq_true rfl⟩) hS hFc hFc rfl (fun t H1 locs ht hB hk1 hS => ?_)
                    obtain ⟨hP1, hD1⟩ := hB
                    rw [ht] at hP1
                    obtain ⟨hP, hD⟩ := va_join (wr := [(oa (a 5) cI 201 st), (oa (a 6) cZ 201 tn), (oa (a 11) cI 201 mn), (oa (a 1) cI 201 kd)]) (w1 := [(om k0 a (upd (upd I0 14 6) 15 (I0 15)) J0)]) hP hD [0] [1, 2, 3, 4] rfl rfl (by decide) (by decide) hk1 hFc hP1 hD1
                    clear hk1 hPc hDc hFc hP1 hD1 ht
                    generalize H1 = H at hP hS ⊢
                    have hP := hP.sub (ws' := [(om k0 a (upd (upd I0 14 6) 15 (I0 15)) J0), (oa (a 5) cI 201 st), (oa (a 6) cZ 201 tn), (oa (a 11) cI 201 mn), (oa (a 1) cI 201 kd)]) [4, 0, 1, 2, 3] rfl
                    have hD := hD.sub (ws' := [(om k0 a (upd (upd I0 14 6) 15 (I0 15)) J0), (oa (a 5) cI 201 st), (oa (a 6) cZ 201 tn), (oa (a 11) cI 201 mn), (oa (a 1) cI 201 kd)]) [4, 0, 1, 2, 3] (by decide) rfl
                    have hP : va_P (dC, dI) classes [(om k0 a (upd (upd I0 14 6) 15 (I0 15)) J0), (oa (a 5) cI 201 st), (oa (a 6) cZ 201 tn), (oa (a 11) cI 201 mn), (oa (a 1) cI 201 kd)] H := hP
                    have hD : va_D A [(om k0 a (upd (upd I0 14 6) 15 (I0 15)) J0), (oa (a 5) cI 201 st), (oa (a 6) cZ 201 tn), (oa (a 11) cI 201 mn), (oa (a 1) cI 201 kd)] := hD
                    have hP9 := hP.sub (ws' := [(om k0 a (upd (upd I0 14 6) 15 (I0 15)) J0), (oa (a 5) cI 201 st), (oa (a 6) cZ 201 tn), (oa (a 11) cI 201 mn), (oa (a 1) cI 201 kd)]) [0, 1, 2, 3, 4] rfl
                    have hD9 := hD.sub (ws' := [(om k0 a (upd (upd I0 14 6) 15 (I0 15)) J0), (oa (a 5) cI 201 st), (oa (a 6) cZ 201 tn), (oa (a 11) cI 201 mn), (oa (a 1) cI 201 kd)]) [0, 1, 2, 3, 4] (by decide) rfl
                    rw [hQ9]
                    exact W.iret (v := (-1)) hx hb hr (fun t ht hW => ⟨⟨rfl, 6, by rw [ht]; exact hP9, hD9⟩, hS.F ht⟩) hS.2.2 dX11_corner_102
              · have c_7 : ¬ (tn f).toInt = 0 := zc_ne rfl (by decide) c_7
                refine lv_aload_n hx hb dX11_corner_66 rfl (lv_at hl 0 rfl) ?_
                refine lv_iconst (v := 5) hx hb dX11_corner_67 (by decide) ?_
                have hPc := hP.sub (ws' := [(om k0 a I0 J0)]) [0] rfl
                have hDc := hD.sub (ws' := [(om k0 a I0 J0)]) [0] (by decide) rfl
                have hFc := va_free (wc := [(om k0 a I0 J0)]) hD hS hA [0] rfl
                refine zcall (st1 := [.int (-1)]) (va_runV (As := [.int 5]) (rest := []) ⟨hx, hb, hml, hown, hts⟩ (k_M_refuse l dC dI cI cZ cF H.size k0 a I0 J0 5 (by decide)) (cwV 1 hts (zz_gV mw_1329 mw_1331 mw_34 mw_110 mc_yX11_refuse) rfl rfl rfl (by decide +kernel) ⟨Nat.le_of_ble_eq_true rfl, Nat.le_of_ble_eq_true rfl⟩) (zPV2 (q0 := 0) (ci := 9) hPc hDc hK hXN rfl rfl) rfl rfl hl.1 rfl (lv_room (Nat.le_of_ble_eq_true rfl)) dX11_corner_68 ⟨Nat.le_of_ble_eq_true rfl, Nat.le_of_ble_eq_true rfl⟩) hS hFc hFc rfl (fun t H1 locs ht hB hk1 hS => ?_)
                obtain ⟨hP1, hD1⟩ := hB
                rw [ht] at hP1
                obtain ⟨hP, hD⟩ := va_join (wr := [(oa (a 5) cI 201 st), (oa (a 6) cZ 201 tn), (oa (a 11) cI 201 mn), (oa (a 1) cI 201 kd)]) (w1 := [(om k0 a (upd (upd I0 14 5) 15 (I0 15)) J0)]) hP hD [0] [1, 2, 3, 4] rfl rfl (by decide) (by decide) hk1 hFc hP1 hD1
                clear hk1 hPc hDc hFc hP1 hD1 ht
                generalize H1 = H at hP hS ⊢
                have hP := hP.sub (ws' := [(om k0 a (upd (upd I0 14 5) 15 (I0 15)) J0), (oa (a 5) cI 201 st), (oa (a 6) cZ 201 tn), (oa (a 11) cI 201 mn), (oa (a 1) cI 201 kd)]) [4, 0, 1, 2, 3] rfl
                have hD := hD.sub (ws' := [(om k0 a (upd (upd I0 14 5) 15 (I0 15)) J0), (oa (a 5) cI 201 st), (oa (a 6) cZ 201 tn), (oa (a 11) cI 201 mn), (oa (a 1) cI 201 kd)]) [4, 0, 1, 2, 3] (by decide) rfl
                have hP : va_P (dC, dI) classes [(om k0 a (upd (upd I0 14 5) 15 (I0 15)) J0), (oa (a 5) cI 201 st), (oa (a 6) cZ 201 tn), (oa (a 11) cI 201 mn), (oa (a 1) cI 201 kd)] H := hP
                have hD : va_D A [(om k0 a (upd (upd I0 14 5) 15 (I0 15)) J0), (oa (a 5) cI 201 st), (oa (a 6) cZ 201 tn), (oa (a 11) cI 201 mn), (oa (a 1) cI 201 kd)] := hD
                have hP9 := hP.sub (ws' := [(om k0 a (upd (upd I0 14 5) 15 (I0 15)) J0), (oa (a 5) cI 201 st), (oa (a 6) cZ 201 tn), (oa (a 11) cI 201 mn), (oa (a 1) cI 201 kd)]) [0, 1, 2, 3, 4] rfl
                have hD9 := hD.sub (ws' := [(om k0 a (upd (upd I0 14 5) 15 (I0 15)) J0), (oa (a 5) cI 201 st), (oa (a 6) cZ 201 tn), (oa (a 11) cI 201 mn), (oa (a 1) cI 201 kd)]) [0, 1, 2, 3, 4] (by decide) rfl
                rw [hQ9]
                exact W.iret (v := (-1)) hx hb hr (fun t ht hW => ⟨⟨rfl, 5, by rw [ht]; exact hP9, hD9⟩, hS.F ht⟩) hS.2.2 dX11_corner_71
            · have c_6 : 1000 < py.toInt := zc_nle rfl (by decide) c_6
              refine lv_aload_n hx hb dX11_corner_51 rfl (lv_at hl 0 rfl) ?_
              refine lv_iconst (v := 4) hx hb dX11_corner_52 (by decide) ?_
              have hPc := hP.sub (ws' := [(om k0 a I0 J0)]) [0] rfl
              have hDc := hD.sub (ws' := [(om k0 a I0 J0)]) [0] (by decide) rfl
              have hFc := va_free (wc := [(om k0 a I0 J0)]) hD hS hA [0] rfl
              refine zcall (st1 := [.int (-1)]) (va_runV (As := [.int 4]) (rest := []) ⟨hx, hb, hml, hown, hts⟩ (k_M_refuse l dC dI cI cZ cF H.size k0 a I0 J0 4 (by decide)) (cwV 1 hts (zz_gV mw_1329 mw_1331 mw_34 mw_110 mc_yX11_refuse) rfl rfl rfl (by decide +kernel) ⟨Nat.le_of_ble_eq_true rfl, Nat.le_of_ble_eq_true rfl⟩) (zPV2 (q0 := 0) (ci := 9) hPc hDc hK hXN rfl rfl) rfl rfl hl.1 rfl (lv_room (Nat.le_of_ble_eq_true rfl)) dX11_corner_53 ⟨Nat.le_of_ble_eq_true rfl, Nat.le_of_ble_eq_true rfl⟩) hS hFc hFc rfl (fun t H1 locs ht hB hk1 hS => ?_)
              obtain ⟨hP1, hD1⟩ := hB
              rw [ht] at hP1
              obtain ⟨hP, hD⟩ := va_join (wr := [(oa (a 5) cI 201 st), (oa (a 6) cZ 201 tn), (oa (a 11) cI 201 mn), (oa (a 1) cI 201 kd)]) (w1 := [(om k0 a (upd (upd I0 14 4) 15 (I0 15)) J0)]) hP hD [0] [1, 2, 3, 4] rfl rfl (by decide) (by decide) hk1 hFc hP1 hD1
              clear hk1 hPc hDc hFc hP1 hD1 ht
              generalize H1 = H at hP hS ⊢
              have hP := hP.sub (ws' := [(om k0 a (upd (upd I0 14 4) 15 (I0 15)) J0), (oa (a 5) cI 201 st), (oa (a 6) cZ 201 tn), (oa (a 11) cI 201 mn), (oa (a 1) cI 201 kd)]) [4, 0, 1, 2, 3] rfl
              have hD := hD.sub (ws' := [(om k0 a (upd (upd I0 14 4) 15 (I0 15)) J0), (oa (a 5) cI 201 st), (oa (a 6) cZ 201 tn), (oa (a 11) cI 201 mn), (oa (a 1) cI 201 kd)]) [4, 0, 1, 2, 3] (by decide) rfl
              have hP : va_P (dC, dI) classes [(om k0 a (upd (upd I0 14 4) 15 (I0 15)) J0), (oa (a 5) cI 201 st), (oa (a 6) cZ 201 tn), (oa (a 11) cI 201 mn), (oa (a 1) cI 201 kd)] H := hP
              have hD : va_D A [(om k0 a (upd (upd I0 14 4) 15 (I0 15)) J0), (oa (a 5) cI 201 st), (oa (a 6) cZ 201 tn), (oa (a 11) cI 201 mn), (oa (a 1) cI 201 kd)] := hD
              have hP9 := hP.sub (ws' := [(om k0 a (upd (upd I0 14 4) 15 (I0 15)) J0), (oa (a 5) cI 201 st), (oa (a 6) cZ 201 tn), (oa (a 11) cI 201 mn), (oa (a 1) cI 201 kd)]) [0, 1, 2, 3, 4] rfl
              have hD9 := hD.sub (ws' := [(om k0 a (upd (upd I0 14 4) 15 (I0 15)) J0), (oa (a 5) cI 201 st), (oa (a 6) cZ 201 tn), (oa (a 11) cI 201 mn), (oa (a 1) cI 201 kd)]) [0, 1, 2, 3, 4] (by decide) rfl
              rw [hQ9]
              exact W.iret (v := (-1)) hx hb hr (fun t ht hW => ⟨⟨rfl, 4, by rw [ht]; exact hP9, hD9⟩, hS.F ht⟩) hS.2.2 dX11_corner_56
    · have c_2 : ¬ (st f).toInt = 0 := zc_ne rfl (by decide) c_2
      refine lv_aload_n hx hb dX11_corner_23 rfl (lv_at hl 0 rfl) ?_
      refine lv_iconst (v := 2) hx hb dX11_corner_24 (by decide) ?_
      have hPc := hP.sub (ws' := [(om k0 a I0 J0)]) [0] rfl
      have hDc := hD.sub (ws' := [(om k0 a I0 J0)]) [0] (by decide) rfl
      have hFc := va_free (wc := [(om k0 a I0 J0)]) hD hS hA [0] rfl
      refine zcall (st1 := [.int (-1)]) (va_runV (As := [.int 2]) (rest := []) ⟨hx, hb, hml, hown, hts⟩ (k_M_refuse l dC dI cI cZ cF H.size k0 a I0 J0 2 (by decide)) (cwV 1 hts (zz_gV mw_1329 mw_1331 mw_34 mw_110 mc_yX11_refuse) rfl rfl rfl (by decide +kernel) ⟨Nat.le_of_ble_eq_true rfl, Nat.le_of_ble_eq_true rfl⟩) (zPV2 (q0 := 0) (ci := 9) hPc hDc hK hXN rfl rfl) rfl rfl hl.1 rfl (lv_room (Nat.le_of_ble_eq_true rfl)) dX11_corner_25 ⟨Nat.le_of_ble_eq_true rfl, Nat.le_of_ble_eq_true rfl⟩) hS hFc hFc rfl (fun t H1 locs ht hB hk1 hS => ?_)
      obtain ⟨hP1, hD1⟩ := hB
      rw [ht] at hP1
      obtain ⟨hP, hD⟩ := va_join (wr := [(oa (a 5) cI 201 st), (oa (a 6) cZ 201 tn), (oa (a 11) cI 201 mn), (oa (a 1) cI 201 kd)]) (w1 := [(om k0 a (upd (upd I0 14 2) 15 (I0 15)) J0)]) hP hD [0] [1, 2, 3, 4] rfl rfl (by decide) (by decide) hk1 hFc hP1 hD1
      clear hk1 hPc hDc hFc hP1 hD1 ht
      generalize H1 = H at hP hS ⊢
      have hP := hP.sub (ws' := [(om k0 a (upd (upd I0 14 2) 15 (I0 15)) J0), (oa (a 5) cI 201 st), (oa (a 6) cZ 201 tn), (oa (a 11) cI 201 mn), (oa (a 1) cI 201 kd)]) [4, 0, 1, 2, 3] rfl
      have hD := hD.sub (ws' := [(om k0 a (upd (upd I0 14 2) 15 (I0 15)) J0), (oa (a 5) cI 201 st), (oa (a 6) cZ 201 tn), (oa (a 11) cI 201 mn), (oa (a 1) cI 201 kd)]) [4, 0, 1, 2, 3] (by decide) rfl
      have hP : va_P (dC, dI) classes [(om k0 a (upd (upd I0 14 2) 15 (I0 15)) J0), (oa (a 5) cI 201 st), (oa (a 6) cZ 201 tn), (oa (a 11) cI 201 mn), (oa (a 1) cI 201 kd)] H := hP
      have hD : va_D A [(om k0 a (upd (upd I0 14 2) 15 (I0 15)) J0), (oa (a 5) cI 201 st), (oa (a 6) cZ 201 tn), (oa (a 11) cI 201 mn), (oa (a 1) cI 201 kd)] := hD
      have hP9 := hP.sub (ws' := [(om k0 a (upd (upd I0 14 2) 15 (I0 15)) J0), (oa (a 5) cI 201 st), (oa (a 6) cZ 201 tn), (oa (a 11) cI 201 mn), (oa (a 1) cI 201 kd)]) [0, 1, 2, 3, 4] rfl
      have hD9 := hD.sub (ws' := [(om k0 a (upd (upd I0 14 2) 15 (I0 15)) J0), (oa (a 5) cI 201 st), (oa (a 6) cZ 201 tn), (oa (a 11) cI 201 mn), (oa (a 1) cI 201 kd)]) [0, 1, 2, 3, 4] (by decide) rfl
      rw [hQ9]
      exact W.iret (v := (-1)) hx hb hr (fun t ht hW => ⟨⟨rfl, 2, by rw [ht]; exact hP9, hD9⟩, hS.F ht⟩) hS.2.2 dX11_corner_28
  · have c_1 : ¬ (f < ft) := zp_0 c_1
    exfalso; omega
set_option maxHeartbeats 4000000 in
set_option maxRecDepth 100000 in
theorem k_M_corner_ok (l : Launch) (dC : Nat → ClassId) (dI : Nat → Nat → Nat) (cI cZ cF : ClassId) (sz : Nat) (k0 : Nat) (a : Nat → Nat) (I0 : Nat → Int32) (J0 : Nat → Int64) (f : Nat) (n : Nat) (ft : Nat) (px : Int32) (py : Int32) (st : Nat → Int32) (tn : Nat → Int32) (mn : Nat → Int32) (kd : Nat → Int32) (cx : Nat → Int32) (cy : Nat → Int32) (hft : I0 0 = nI ft) (h200 : ft ≤ 200) (hf_t : f < ft) (hm_f : mn f = nI n) (hn_f : n ≤ 40) (hgood : (st f).toInt = 0 ∧ (0 ≤ px.toInt ∧ px.toInt ≤ 1000 ∧ 0 ≤ py.toInt ∧ py.toInt ≤ 1000) ∧ (tn f).toInt = 0 ∧ ¬ n = cpk (kd f).toInt) : Met l yX11_corner (.code yX11_corner cX11_corner 4 (some .int) :: ws0) ({ frames := 1, cells := 0, slots := 0, locals := 21 } : Room) (va_Pc [.ref k0, .int (nI f), .int px, .int py] (zPre (dC, dI) classes (zTy cI cZ cF) [(om k0 a I0 J0), (oa (a 5) cI 201 st), (oa (a 6) cZ 201 tn), (oa (a 11) cI 201 mn), (oa (a 1) cI 201 kd), (oa (a 12) cI 8040 cx), (oa (a 13) cI 8040 cy)] sz zXN)) (zQ (some (.int (nI (n + 1)))) (fun t => va_P (dC, dI) classes [(om k0 a (upd I0 14 0) J0), (oa (a 5) cI 201 st), (oa (a 6) cZ 201 tn), (oa (a 11) cI 201 (upd mn f (nI (n + 1)))), (oa (a 1) cI 201 kd), (oa (a 12) cI 8040 (upd cx (40 * f + n) px)), (oa (a 13) cI 8040 (upd cy (40 * f + n) py))] t.heap ∧ va_D (va_A [(om k0 a I0 J0), (oa (a 5) cI 201 st), (oa (a 6) cZ 201 tn), (oa (a 11) cI 201 mn), (oa (a 1) cI 201 kd), (oa (a 12) cI 8040 cx), (oa (a 13) cI 8040 cy)] sz) [(om k0 a (upd I0 14 0) J0), (oa (a 5) cI 201 st), (oa (a 6) cZ 201 tn), (oa (a 11) cI 201 (upd mn f (nI (n + 1)))), (oa (a 1) cI 201 kd), (oa (a 12) cI 8040 (upd cx (40 * f + n) px)), (oa (a 13) cI 8040 (upd cy (40 * f + n) py))]) (va_A [(om k0 a I0 J0), (oa (a 5) cI 201 st), (oa (a 6) cZ 201 tn), (oa (a 11) cI 201 mn), (oa (a 1) cI 201 kd), (oa (a 12) cI 8040 cx), (oa (a 13) cI 8040 cy)] sz)) 0 0 (va_A [(om k0 a I0 J0), (oa (a 5) cI 201 st), (oa (a 6) cZ 201 tn), (oa (a 11) cI 201 mn), (oa (a 1) cI 201 kd), (oa (a 12) cI 8040 cx), (oa (a 13) cI 8040 cy)] sz) := by
  refine Met.ofW (cc := cX11_corner) (maxL := 4) (ret := (some .int)) (by decide) rfl ?_
  intro p e s m args below meth c s₁ B hml hv
  obtain ⟨rfl, hsz, hP, hK, hD0, hXN⟩ := hv
  have hx := B.exec
  have hb := B.bytes
  have hr := B.returns
  have hts0 := atoms_spec (ws := .code yX11_corner cX11_corner 4 (some .int) :: ws0) B.pre
  have hts : ∀ w9 ∈ ws0, w9.before ([.ref k0, .int (nI f), .int px, .int py] : List Value).toArray s = true := fun w9 h => hts0 w9 (List.mem_cons_of_mem _ h)
  have hown : s.vm.findClass "ScaleShopModel" = some m.cls := findClass_of_methodNamed B.named
  have hlocks := B.notSynchronized
  subst hsz
  have hD := hD0.self (sz := s.heap.size)
  clear hD0
  generalize hAe : va_A [(om k0 a I0 J0), (oa (a 5) cI 201 st), (oa (a 6) cZ 201 tn), (oa (a 11) cI 201 mn), (oa (a 1) cI 201 kd), (oa (a 12) cI 8040 cx), (oa (a 13) cI 8040 cy)] s.heap.size = A at hD ⊢
  have hA : ∀ q : Nat, s.heap.size ≤ q → A q := fun q h => by rw [← hAe]; exact Or.inr h
  clear hAe
  have hS : va_S A s.heap s.heap [] := va_S.rf
  have hP : va_P (dC, dI) classes [(om k0 a I0 J0), (oa (a 5) cI 201 st), (oa (a 6) cZ 201 tn), (oa (a 11) cI 201 mn), (oa (a 1) cI 201 kd), (oa (a 12) cI 8040 cx), (oa (a 13) cI 8040 cy)] s.heap := hP
  obtain ⟨Q9, hQ9⟩ : ∃ Q9 : State → Prop, Q9 = MQ below (zQ (some (.int (nI (n + 1)))) (fun t => va_P (dC, dI) classes [(om k0 a (upd I0 14 0) J0), (oa (a 5) cI 201 st), (oa (a 6) cZ 201 tn), (oa (a 11) cI 201 (upd mn f (nI (n + 1)))), (oa (a 1) cI 201 kd), (oa (a 12) cI 8040 (upd cx (40 * f + n) px)), (oa (a 13) cI 8040 (upd cy (40 * f + n) py))] t.heap ∧ va_D A [(om k0 a (upd I0 14 0) J0), (oa (a 5) cI 201 st), (oa (a 6) cZ 201 tn), (oa (a 11) cI 201 (upd mn f (nI (n + 1)))), (oa (a 1) cI 201 kd), (oa (a 12) cI 8040 (upd cx (40 * f + n) px)), (oa (a 13) cI 8040 (upd cy (40 * f + n) py))]) A) ([.ref k0, .int (nI f), .int px, .int py] : List Value).toArray s 0 0 A := ⟨_, rfl⟩
  rw [← hQ9]
  have hl := lv_entry ([.ref k0, .int (nI f), .int px, .int py]) (n := 4) (Nat.le_of_ble_eq_true rfl)
  rw [lg_entry_eq]
  generalize (lg_sl ([.ref k0, .int (nI f), .int px, .int py]) ++ List.replicate (4 - (lg_sl ([.ref k0, .int (nI f), .int px, .int py])).length) Slot.unset).toArray = ls at hl ⊢
  have hl : lv_has ls 4 [(0, .ref k0), (1, .int (nI f)), (2, .int px), (3, .int py)] := hl
  have hcp := cpk_s (kd f).toInt
  refine lv_aload_n hx hb dX11_corner_0 rfl (lv_at hl 0 rfl) ?_
  refine lv_iload_n hx hb dX11_corner_1 rfl (lv_at hl 1 rfl) ?_
  have hPc := hP.sub (ws' := [(om k0 a I0 J0)]) [0] rfl
  have hDc := hD.sub (ws' := [(om k0 a I0 J0)]) [0] (by decide) rfl
  have hFc := va_free (wc := [(om k0 a I0 J0)]) hD hS hA [0] rfl
  refine zcall (st1 := [.int (pI (f < ft))]) (va_runV (As := [.int (nI f)]) (rest := []) ⟨hx, hb, hml, hown, hts⟩ (k_M_isFeature_n l dC dI cI cZ cF s.heap.size k0 a I0 J0 f ft (by assumption) (by omega) (by omega)) (cwV 1 hts (zz_gV mw_1345 mw_1347 mw_37 mw_110 mc_yX11_isFeature) rfl rfl rfl (by decide +kernel) ⟨Nat.le_of_ble_eq_true rfl, Nat.le_of_ble_eq_true rfl⟩) (zPV2 (q0 := 0) (ci := 9) hPc hDc hK hXN rfl rfl) rfl rfl hl.1 rfl (lv_room (Nat.le_of_ble_eq_true rfl)) dX11_corner_2 ⟨Nat.le_of_ble_eq_true rfl, Nat.le_of_ble_eq_true rfl⟩) hS hFc hFc rfl (fun t H1 locs ht hB hk1 hS => ?_)
  obtain ⟨hP1, hD1⟩ := hB
  rw [ht] at hP1
  obtain ⟨hP, hD⟩ := va_join (wr := [(oa (a 5) cI 201 st), (oa (a 6) cZ 201 tn), (oa (a 11) cI 201 mn), (oa (a 1) cI 201 kd), (oa (a 12) cI 8040 cx), (oa (a 13) cI 8040 cy)]) (w1 := [(om k0 a I0 J0)]) hP hD [0] [1, 2, 3, 4, 5, 6] rfl rfl (by decide) (by decide) hk1 hFc hP1 hD1
  clear hk1 hPc hDc hFc hP1 hD1 ht
  generalize H1 = H at hP hS ⊢
  have hP := hP.sub (ws' := [(om k0 a I0 J0), (oa (a 5) cI 201 st), (oa (a 6) cZ 201 tn), (oa (a 11) cI 201 mn), (oa (a 1) cI 201 kd), (oa (a 12) cI 8040 cx), (oa (a 13) cI 8040 cy)]) [6, 0, 1, 2, 3, 4, 5] rfl
  have hD := hD.sub (ws' := [(om k0 a I0 J0), (oa (a 5) cI 201 st), (oa (a 6) cZ 201 tn), (oa (a 11) cI 201 mn), (oa (a 1) cI 201 kd), (oa (a 12) cI 8040 cx), (oa (a 13) cI 8040 cy)]) [6, 0, 1, 2, 3, 4, 5] (by decide) rfl
  have hP : va_P (dC, dI) classes [(om k0 a I0 J0), (oa (a 5) cI 201 st), (oa (a 6) cZ 201 tn), (oa (a 11) cI 201 mn), (oa (a 1) cI 201 kd), (oa (a 12) cI 8040 cx), (oa (a 13) cI 8040 cy)] H := hP
  have hD : va_D A [(om k0 a I0 J0), (oa (a 5) cI 201 st), (oa (a 6) cZ 201 tn), (oa (a 11) cI 201 mn), (oa (a 1) cI 201 kd), (oa (a 12) cI 8040 cx), (oa (a 13) cI 8040 cy)] := hD
  refine lv_if_ne (tgt := 14) hx hb dX11_corner_5 (by decide) (fun c_1 => ?_) (fun c_1 => ?_)
  · have c_1 : f < ft := zp_1 c_1
    refine lv_aload_n hx hb dX11_corner_14 rfl (lv_at hl 0 rfl) ?_
    refine va_get (D := (dC, dI)) (ci := 9) (v := .ref (a 5)) (C := RX11) (T := TX11) (N := 55) hx hb hts inX11 hown hK hP 0 rfl rfl 5 (by decide) (hts _ mw_1164) (fun _ h9 => h9) rfl dX11_corner_15 ?_
    refine lv_iload_n hx hb dX11_corner_18 rfl (lv_at hl 1 rfl) ?_
    refine z_iald hx hb hK hP 1 0 rfl rfl (e := f) rfl (by omega) (by omega) dX11_corner_19 ?_
    refine lv_if_eq (tgt := 29) hx hb dX11_corner_20 (by decide) (fun c_2 => ?_) (fun c_2 => ?_)
    · have c_2 : (st f).toInt = 0 := zc_eq rfl (by decide) c_2
      refine lv_iload_n hx hb dX11_corner_29 rfl (lv_at hl 2 rfl) ?_
      refine lv_if_lt (tgt := 51) hx hb dX11_corner_30 (by decide) (fun c_3 => ?_) (fun c_3 => ?_)
      · have c_3 : px.toInt < 0 := zc_lt rfl (by decide) c_3
        exfalso; omega
      · have c_3 : 0 ≤ px.toInt := zc_nlt rfl (by decide) c_3
        refine lv_iload_n hx hb dX11_corner_33 rfl (lv_at hl 2 rfl) ?_
        refine lv_sipush (v := 1000) hx hb dX11_corner_34 (by decide) ?_
        refine lv_icmp_gt (tgt := 51) hx hb dX11_corner_37 (by decide) (fun c_4 => ?_) (fun c_4 => ?_)
        · have c_4 : 1000 < px.toInt := zc_lt (by decide) rfl c_4
          exfalso; omega
        · have c_4 : px.toInt ≤ 1000 := zc_nlt (by decide) rfl c_4
          refine lv_iload_n hx hb dX11_corner_40 rfl (lv_at hl 3 rfl) ?_
          refine lv_if_lt (tgt := 51) hx hb dX11_corner_41 (by decide) (fun c_5 => ?_) (fun c_5 => ?_)
          · have c_5 : py.toInt < 0 := zc_lt rfl (by decide) c_5
            exfalso; omega
          · have c_5 : 0 ≤ py.toInt := zc_nlt rfl (by decide) c_5
            refine lv_iload_n hx hb dX11_corner_44 rfl (lv_at hl 3 rfl) ?_
            refine lv_sipush (v := 1000) hx hb dX11_corner_45 (by decide) ?_
            refine lv_icmp_le (tgt := 57) hx hb dX11_corner_48 (by decide) (fun c_6 => ?_) (fun c_6 => ?_)
            · have c_6 : py.toInt ≤ 1000 := zc_le rfl (by decide) c_6
              refine lv_aload_n hx hb dX11_corner_57 rfl (lv_at hl 0 rfl) ?_
              refine va_get (D := (dC, dI)) (ci := 9) (v := .ref (a 6)) (C := RX11) (T := TX11) (N := 55) hx hb hts inX11 hown hK hP 0 rfl rfl 6 (by decide) (hts _ mw_1165) (fun _ h9 => h9) rfl dX11_corner_58 ?_
              refine lv_iload_n hx hb dX11_corner_61 rfl (lv_at hl 1 rfl) ?_
              refine z_zald hx hb hK hP 2 1 rfl rfl (e := f) rfl (by omega) (by omega) dX11_corner_62 ?_
              refine lv_if_eq (tgt := 72) hx hb dX11_corner_63 (by decide) (fun c_7 => ?_) (fun c_7 => ?_)
              · have c_7 : (tn f).toInt = 0 := zc_eq rfl (by decide) c_7
                refine lv_aload_n hx hb dX11_corner_72 rfl (lv_at hl 0 rfl) ?_
                refine va_get (D := (dC, dI)) (ci := 9) (v := .ref (a 11)) (C := RX11) (T := TX11) (N := 55) hx hb hts inX11 hown hK hP 0 rfl rfl 11 (by decide) (hts _ mw_1170) (fun _ h9 => h9) rfl dX11_corner_73 ?_
                refine lv_iload_n hx hb dX11_corner_76 rfl (lv_at hl 1 rfl) ?_
                refine z_iald hx hb hK hP 3 0 rfl rfl (e := f) rfl (by omega) (by omega) dX11_corner_77 ?_
                refine zz_i (v := nI n) (hm_f) ?_
                refine lv_aload_n hx hb dX11_corner_78 rfl (lv_at hl 0 rfl) ?_
                refine va_get (D := (dC, dI)) (ci := 9) (v := .ref (a 1)) (C := RX11) (T := TX11) (N := 55) hx hb hts inX11 hown hK hP 0 rfl rfl 1 (by decide) (hts _ mw_1160) (fun _ h9 => h9) rfl dX11_corner_79 ?_
                refine lv_iload_n hx hb dX11_corner_82 rfl (lv_at hl 1 rfl) ?_
                refine z_iald hx hb hK hP 4 0 rfl rfl (e := f) rfl (by omega) (by omega) dX11_corner_83 ?_
                refine lv_if_ne (tgt := 91) hx hb dX11_corner_84 (by decide) (fun c_8 => ?_) (fun c_8 => ?_)
                · have c_8 : ¬ (kd f).toInt = 0 := zc_ne rfl (by decide) c_8
                  refine lv_bipush (v := 40) hx hb dX11_corner_91 (by decide) ?_
                  refine lv_icmp_ne (tgt := 103) hx hb dX11_corner_93 (by decide) (fun c_9 => ?_) (fun c_9 => ?_)
                  · have c_9 : ¬ ((n : Nat) : Int) = 40 := zc_ne (nI_toInt (by omega)) (by decide) c_9
                    refine lv_aload_n hx hb dX11_corner_103 rfl (lv_at hl 0 rfl) ?_
                    refine va_get (D := (dC, dI)) (ci := 9) (v := .ref (a 12)) (C := RX11) (T := TX11) (N := 55) hx hb hts inX11 hown hK hP 0 rfl rfl 12 (by decide) (hts _ mw_1171) (fun _ h9 => h9) rfl dX11_corner_104 ?_
                    refine lv_bipush (v := 40) hx hb dX11_corner_107 (by decide) ?_
                    refine lv_iload_n hx hb dX11_corner_109 rfl (lv_at hl 1 rfl) ?_
                    refine lv_imul hx hb dX11_corner_110 ?_
                    refine zz_i (v := nI (40 * f)) (pk_mul 40 f) ?_
                    refine lv_aload_n hx hb dX11_corner_111 rfl (lv_at hl 0 rfl) ?_
                    refine va_get (D := (dC, dI)) (ci := 9) (v := .ref (a 11)) (C := RX11) (T := TX11) (N := 55) hx hb hts inX11 hown hK hP 0 rfl rfl 11 (by decide) (hts _ mw_1170) (fun _ h9 => h9) rfl dX11_corner_112 ?_
                    refine lv_iload_n hx hb dX11_corner_115 rfl (lv_at hl 1 rfl) ?_
                    refine z_iald hx hb hK hP 3 0 rfl rfl (e := f) rfl (by omega) (by omega) dX11_corner_116 ?_
                    refine zz_i (v := nI n) (hm_f) ?_
                    refine lv_iadd hx hb dX11_corner_117 ?_
                    refine zz_i (v := nI (40 * f + n)) (nI_add (40 * f) n) ?_
                    refine lv_iload_n hx hb dX11_corner_118 rfl (lv_at hl 2 rfl) ?_
                    refine z_iast hx hb hK hP hD hS 5 0 rfl rfl (e := 40 * f + n) (x := px) rfl (by omega) (by omega) dX11_corner_119 (fun H locs hP hD hS => ?_)
                    have hP : va_P (dC, dI) classes [(om k0 a I0 J0), (oa (a 5) cI 201 st), (oa (a 6) cZ 201 tn), (oa (a 11) cI 201 mn), (oa (a 1) cI 201 kd), (oa (a 12) cI 8040 (upd cx (40 * f + n) px)), (oa (a 13) cI 8040 cy)] H := hP
                    have hD : va_D A [(om k0 a I0 J0), (oa (a 5) cI 201 st), (oa (a 6) cZ 201 tn), (oa (a 11) cI 201 mn), (oa (a 1) cI 201 kd), (oa (a 12) cI 8040 (upd cx (40 * f + n) px)), (oa (a 13) cI 8040 cy)] := hD
                    refine lv_aload_n hx hb dX11_corner_120 rfl (lv_at hl 0 rfl) ?_
                    refine va_get (D := (dC, dI)) (ci := 9) (v := .ref (a 13)) (C := RX11) (T := TX11) (N := 55) hx hb hts inX11 hown hK hP 0 rfl rfl 13 (by decide) (hts _ mw_1172) (fun _ h9 => h9) rfl dX11_corner_121 ?_
                    refine lv_bipush (v := 40) hx hb dX11_corner_124 (by decide) ?_
                    refine lv_iload_n hx hb dX11_corner_126 rfl (lv_at hl 1 rfl) ?_
                    refine lv_imul hx hb dX11_corner_127 ?_
                    refine zz_i (v := nI (40 * f)) (pk_mul 40 f) ?_
                    refine lv_aload_n hx hb dX11_corner_128 rfl (lv_at hl 0 rfl) ?_
                    refine va_get (D := (dC, dI)) (ci := 9) (v := .ref (a 11)) (C := RX11) (T := TX11) (N := 55) hx hb hts inX11 hown hK hP 0 rfl rfl 11 (by decide) (hts _ mw_1170) (fun _ h9 => h9) rfl dX11_corner_129 ?_
                    refine lv_iload_n hx hb dX11_corner_132 rfl (lv_at hl 1 rfl) ?_
                    refine z_iald hx hb hK hP 3 0 rfl rfl (e := f) rfl (by omega) (by omega) dX11_corner_133 ?_
                    refine zz_i (v := nI n) (hm_f) ?_
                    refine lv_iadd hx hb dX11_corner_134 ?_
                    refine zz_i (v := nI (40 * f + n)) (nI_add (40 * f) n) ?_
                    refine lv_iload_n hx hb dX11_corner_135 rfl (lv_at hl 3 rfl) ?_
                    refine z_iast hx hb hK hP hD hS 6 0 rfl rfl (e := 40 * f + n) (x := py) rfl (by omega) (by omega) dX11_corner_136 (fun H locs hP hD hS => ?_)
                    have hP : va_P (dC, dI) classes [(om k0 a I0 J0), (oa (a 5) cI 201 st), (oa (a 6) cZ 201 tn), (oa (a 11) cI 201 mn), (oa (a 1) cI 201 kd), (oa (a 12) cI 8040 (upd cx (40 * f + n) px)), (oa (a 13) cI 8040 (upd cy (40 * f + n) py))] H := hP
                    have hD : va_D A [(om k0 a I0 J0), (oa (a 5) cI 201 st), (oa (a 6) cZ 201 tn), (oa (a 11) cI 201 mn), (oa (a 1) cI 201 kd), (oa (a 12) cI 8040 (upd cx (40 * f + n) px)), (oa (a 13) cI 8040 (upd cy (40 * f + n) py))] := hD
                    refine lv_aload_n hx hb dX11_corner_137 rfl (lv_at hl 0 rfl) ?_
                    refine va_get (D := (dC, dI)) (ci := 9) (v := .ref (a 11)) (C := RX11) (T := TX11) (N := 55) hx hb hts inX11 hown hK hP 0 rfl rfl 11 (by decide) (hts _ mw_1170) (fun _ h9 => h9) rfl dX11_corner_138 ?_
                    refine lv_iload_n hx hb dX11_corner_141 rfl (lv_at hl 1 rfl) ?_
                    refine lv_dup2_11 hx hb dX11_corner_142 rfl rfl ?_
                    refine z_iald hx hb hK hP 3 0 rfl rfl (e := f) rfl (by omega) (by omega) dX11_corner_143 ?_
                    refine zz_i (v := nI n) (hm_f) ?_
                    refine lv_iconst (v := 1) hx hb dX11_corner_144 (by decide) ?_
                    refine lv_iadd hx hb dX11_corner_145 ?_
                    refine zz_i (v := nI (n + 1)) (nI_add n 1) ?_
                    refine z_iast hx hb hK hP hD hS 3 0 rfl rfl (e := f) (x := nI (n + 1)) rfl (by omega) (by omega) dX11_corner_146 (fun H locs hP hD hS => ?_)
                    have hP : va_P (dC, dI) classes [(om k0 a I0 J0), (oa (a 5) cI 201 st), (oa (a 6) cZ 201 tn), (oa (a 11) cI 201 (upd mn f (nI (n + 1)))), (oa (a 1) cI 201 kd), (oa (a 12) cI 8040 (upd cx (40 * f + n) px)), (oa (a 13) cI 8040 (upd cy (40 * f + n) py))] H := hP
                    have hD : va_D A [(om k0 a I0 J0), (oa (a 5) cI 201 st), (oa (a 6) cZ 201 tn), (oa (a 11) cI 201 (upd mn f (nI (n + 1)))), (oa (a 1) cI 201 kd), (oa (a 12) cI 8040 (upd cx (40 * f + n) px)), (oa (a 13) cI 8040 (upd cy (40 * f + n) py))] := hD
                    refine lv_aload_n hx hb dX11_corner_147 rfl (lv_at hl 0 rfl) ?_
                    refine lv_iconst (v := 0) hx hb dX11_corner_148 (by decide) ?_
                    refine va_put (D := (dC, dI)) (ci := 9) (v := .int 0) (ty := .int) (C := RX11) (T := TX11) (N := 55) hx hb hts inX11 tyX11 tyX11_ok nmX11 hown hK hP hD hS 0 rfl rfl 14 (by decide) (hts _ mw_1173) (fun _ h9 => h9) rfl (by decide +kernel) rfl rfl (Nat.le_of_ble_eq_true rfl) dX11_corner_149 (fun H locs hP hD hS => ?_)
                    have hP : va_P (dC, dI) classes [(om k0 a (upd I0 14 0) J0), (oa (a 5) cI 201 st), (oa (a 6) cZ 201 tn), (oa (a 11) cI 201 (upd mn f (nI (n + 1)))), (oa (a 1) cI 201 kd), (oa (a 12) cI 8040 (upd cx (40 * f + n) px)), (oa (a 13) cI 8040 (upd cy (40 * f + n) py))] H := hP
                    have hD : va_D A [(om k0 a (upd I0 14 0) J0), (oa (a 5) cI 201 st), (oa (a 6) cZ 201 tn), (oa (a 11) cI 201 (upd mn f (nI (n + 1)))), (oa (a 1) cI 201 kd), (oa (a 12) cI 8040 (upd cx (40 * f + n) px)), (oa (a 13) cI 8040 (upd cy (40 * f + n) py))] := hD
                    refine lv_aload_n hx hb dX11_corner_152 rfl (lv_at hl 0 rfl) ?_
                    refine va_get (D := (dC, dI)) (ci := 9) (v := .ref (a 11)) (C := RX11) (T := TX11) (N := 55) hx hb hts inX11 hown hK hP 0 rfl rfl 11 (by decide) (hts _ mw_1170) (fun _ h9 => h9) rfl dX11_corner_153 ?_
                    refine lv_iload_n hx hb dX11_corner_156 rfl (lv_at hl 1 rfl) ?_
                    refine z_iald hx hb hK hP 3 0 rfl rfl (e := f) rfl (by omega) (by omega) dX11_corner_157 ?_
                    refine zz_i (v := nI (n + 1)) (up_at _ _ _) ?_
                    have hP9 := hP.sub (ws' := [(om k0 a (upd I0 14 0) J0), (oa (a 5) cI 201 st), (oa (a 6) cZ 201 tn), (oa (a 11) cI 201 (upd mn f (nI (n + 1)))), (oa (a 1) cI 201 kd), (oa (a 12) cI 8040 (upd cx (40 * f + n) px)), (oa (a 13) cI 8040 (upd cy (40 * f + n) py))]) [0, 1, 2, 3, 4, 5, 6] rfl
                    have hD9 := hD.sub (ws' := [(om k0 a (upd I0 14 0) J0), (oa (a 5) cI 201 st), (oa (a 6) cZ 201 tn), (oa (a 11) cI 201 (upd mn f (nI (n + 1)))), (oa (a 1) cI 201 kd), (oa (a 12) cI 8040 (upd cx (40 * f + n) px)), (oa (a 13) cI 8040 (upd cy (40 * f + n) py))]) [0, 1, 2, 3, 4, 5, 6] (by decide) rfl
                    rw [hQ9]
                    exact W.iret (v := nI (n + 1)) hx hb hr (fun t ht hW => ⟨⟨rfl, by rw [ht]; exact hP9, hD9⟩, hS.F ht⟩) hS.2.2 dX11_corner_158
                  · have c_9 : ((n : Nat) : Int) = 40 := zc_eq (nI_toInt (by omega)) (by decide) c_9
                    exfalso; omega
                · have c_8 : (kd f).toInt = 0 := zc_eq rfl (by decide) c_8
                  refine lv_iconst (v := 1) hx hb dX11_corner_87 (by decide) ?_
                  refine lv_goto (tgt := 93) hx hb dX11_corner_88 (by decide) ?_
                  refine lv_icmp_ne (tgt := 103) hx hb dX11_corner_93 (by decide) (fun c_10 => ?_) (fun c_10 => ?_)
                  · have c_10 : ¬ ((n : Nat) : Int) = 1 := zc_ne (nI_toInt (by omega)) (by decide) c_10
                    refine lv_aload_n hx hb dX11_corner_103 rfl (lv_at hl 0 rfl) ?_
                    refine va_get (D := (dC, dI)) (ci := 9) (v := .ref (a 12)) (C := RX11) (T := TX11) (N := 55) hx hb hts inX11 hown hK hP 0 rfl rfl 12 (by decide) (hts _ mw_1171) (fun _ h9 => h9) rfl dX11_corner_104 ?_
                    refine lv_bipush (v := 40) hx hb dX11_corner_107 (by decide) ?_
                    refine lv_iload_n hx hb dX11_corner_109 rfl (lv_at hl 1 rfl) ?_
                    refine lv_imul hx hb dX11_corner_110 ?_
                    refine zz_i (v := nI (40 * f)) (pk_mul 40 f) ?_
                    refine lv_aload_n hx hb dX11_corner_111 rfl (lv_at hl 0 rfl) ?_
                    refine va_get (D := (dC, dI)) (ci := 9) (v := .ref (a 11)) (C := RX11) (T := TX11) (N := 55) hx hb hts inX11 hown hK hP 0 rfl rfl 11 (by decide) (hts _ mw_1170) (fun _ h9 => h9) rfl dX11_corner_112 ?_
                    refine lv_iload_n hx hb dX11_corner_115 rfl (lv_at hl 1 rfl) ?_
                    refine z_iald hx hb hK hP 3 0 rfl rfl (e := f) rfl (by omega) (by omega) dX11_corner_116 ?_
                    refine zz_i (v := nI n) (hm_f) ?_
                    refine lv_iadd hx hb dX11_corner_117 ?_
                    refine zz_i (v := nI (40 * f + n)) (nI_add (40 * f) n) ?_
                    refine lv_iload_n hx hb dX11_corner_118 rfl (lv_at hl 2 rfl) ?_
                    refine z_iast hx hb hK hP hD hS 5 0 rfl rfl (e := 40 * f + n) (x := px) rfl (by omega) (by omega) dX11_corner_119 (fun H locs hP hD hS => ?_)
                    have hP : va_P (dC, dI) classes [(om k0 a I0 J0), (oa (a 5) cI 201 st), (oa (a 6) cZ 201 tn), (oa (a 11) cI 201 mn), (oa (a 1) cI 201 kd), (oa (a 12) cI 8040 (upd cx (40 * f + n) px)), (oa (a 13) cI 8040 cy)] H := hP
                    have hD : va_D A [(om k0 a I0 J0), (oa (a 5) cI 201 st), (oa (a 6) cZ 201 tn), (oa (a 11) cI 201 mn), (oa (a 1) cI 201 kd), (oa (a 12) cI 8040 (upd cx (40 * f + n) px)), (oa (a 13) cI 8040 cy)] := hD
                    refine lv_aload_n hx hb dX11_corner_120 rfl (lv_at hl 0 rfl) ?_
                    refine va_get (D := (dC, dI)) (ci := 9) (v := .ref (a 13)) (C := RX11) (T := TX11) (N := 55) hx hb hts inX11 hown hK hP 0 rfl rfl 13 (by decide) (hts _ mw_1172) (fun _ h9 => h9) rfl dX11_corner_121 ?_
                    refine lv_bipush (v := 40) hx hb dX11_corner_124 (by decide) ?_
                    refine lv_iload_n hx hb dX11_corner_126 rfl (lv_at hl 1 rfl) ?_
                    refine lv_imul hx hb dX11_corner_127 ?_
                    refine zz_i (v := nI (40 * f)) (pk_mul 40 f) ?_
                    refine lv_aload_n hx hb dX11_corner_128 rfl (lv_at hl 0 rfl) ?_
                    refine va_get (D := (dC, dI)) (ci := 9) (v := .ref (a 11)) (C := RX11) (T := TX11) (N := 55) hx hb hts inX11 hown hK hP 0 rfl rfl 11 (by decide) (hts _ mw_1170) (fun _ h9 => h9) rfl dX11_corner_129 ?_
                    refine lv_iload_n hx hb dX11_corner_132 rfl (lv_at hl 1 rfl) ?_
                    refine z_iald hx hb hK hP 3 0 rfl rfl (e := f) rfl (by omega) (by omega) dX11_corner_133 ?_
                    refine zz_i (v := nI n) (hm_f) ?_
                    refine lv_iadd hx hb dX11_corner_134 ?_
                    refine zz_i (v := nI (40 * f + n)) (nI_add (40 * f) n) ?_
                    refine lv_iload_n hx hb dX11_corner_135 rfl (lv_at hl 3 rfl) ?_
                    refine z_iast hx hb hK hP hD hS 6 0 rfl rfl (e := 40 * f + n) (x := py) rfl (by omega) (by omega) dX11_corner_136 (fun H locs hP hD hS => ?_)
                    have hP : va_P (dC, dI) classes [(om k0 a I0 J0), (oa (a 5) cI 201 st), (oa (a 6) cZ 201 tn), (oa (a 11) cI 201 mn), (oa (a 1) cI 201 kd), (oa (a 12) cI 8040 (upd cx (40 * f + n) px)), (oa (a 13) cI 8040 (upd cy (40 * f + n) py))] H := hP
                    have hD : va_D A [(om k0 a I0 J0), (oa (a 5) cI 201 st), (oa (a 6) cZ 201 tn), (oa (a 11) cI 201 mn), (oa (a 1) cI 201 kd), (oa (a 12) cI 8040 (upd cx (40 * f + n) px)), (oa (a 13) cI 8040 (upd cy (40 * f + n) py))] := hD
                    refine lv_aload_n hx hb dX11_corner_137 rfl (lv_at hl 0 rfl) ?_
                    refine va_get (D := (dC, dI)) (ci := 9) (v := .ref (a 11)) (C := RX11) (T := TX11) (N := 55) hx hb hts inX11 hown hK hP 0 rfl rfl 11 (by decide) (hts _ mw_1170) (fun _ h9 => h9) rfl dX11_corner_138 ?_
                    refine lv_iload_n hx hb dX11_corner_141 rfl (lv_at hl 1 rfl) ?_
                    refine lv_dup2_11 hx hb dX11_corner_142 rfl rfl ?_
                    refine z_iald hx hb hK hP 3 0 rfl rfl (e := f) rfl (by omega) (by omega) dX11_corner_143 ?_
                    refine zz_i (v := nI n) (hm_f) ?_
                    refine lv_iconst (v := 1) hx hb dX11_corner_144 (by decide) ?_
                    refine lv_iadd hx hb dX11_corner_145 ?_
                    refine zz_i (v := nI (n + 1)) (nI_add n 1) ?_
                    refine z_iast hx hb hK hP hD hS 3 0 rfl rfl (e := f) (x := nI (n + 1)) rfl (by omega) (by omega) dX11_corner_146 (fun H locs hP hD hS => ?_)
                    have hP : va_P (dC, dI) classes [(om k0 a I0 J0), (oa (a 5) cI 201 st), (oa (a 6) cZ 201 tn), (oa (a 11) cI 201 (upd mn f (nI (n + 1)))), (oa (a 1) cI 201 kd), (oa (a 12) cI 8040 (upd cx (40 * f + n) px)), (oa (a 13) cI 8040 (upd cy (40 * f + n) py))] H := hP
                    have hD : va_D A [(om k0 a I0 J0), (oa (a 5) cI 201 st), (oa (a 6) cZ 201 tn), (oa (a 11) cI 201 (upd mn f (nI (n + 1)))), (oa (a 1) cI 201 kd), (oa (a 12) cI 8040 (upd cx (40 * f + n) px)), (oa (a 13) cI 8040 (upd cy (40 * f + n) py))] := hD
                    refine lv_aload_n hx hb dX11_corner_147 rfl (lv_at hl 0 rfl) ?_
                    refine lv_iconst (v := 0) hx hb dX11_corner_148 (by decide) ?_
                    refine va_put (D := (dC, dI)) (ci := 9) (v := .int 0) (ty := .int) (C := RX11) (T := TX11) (N := 55) hx hb hts inX11 tyX11 tyX11_ok nmX11 hown hK hP hD hS 0 rfl rfl 14 (by decide) (hts _ mw_1173) (fun _ h9 => h9) rfl (by decide +kernel) rfl rfl (Nat.le_of_ble_eq_true rfl) dX11_corner_149 (fun H locs hP hD hS => ?_)
                    have hP : va_P (dC, dI) classes [(om k0 a (upd I0 14 0) J0), (oa (a 5) cI 201 st), (oa (a 6) cZ 201 tn), (oa (a 11) cI 201 (upd mn f (nI (n + 1)))), (oa (a 1) cI 201 kd), (oa (a 12) cI 8040 (upd cx (40 * f + n) px)), (oa (a 13) cI 8040 (upd cy (40 * f + n) py))] H := hP
                    have hD : va_D A [(om k0 a (upd I0 14 0) J0), (oa (a 5) cI 201 st), (oa (a 6) cZ 201 tn), (oa (a 11) cI 201 (upd mn f (nI (n + 1)))), (oa (a 1) cI 201 kd), (oa (a 12) cI 8040 (upd cx (40 * f + n) px)), (oa (a 13) cI 8040 (upd cy (40 * f + n) py))] := hD
                    refine lv_aload_n hx hb dX11_corner_152 rfl (lv_at hl 0 rfl) ?_
                    refine va_get (D := (dC, dI)) (ci := 9) (v := .ref (a 11)) (C := RX11) (T := TX11) (N := 55) hx hb hts inX11 hown hK hP 0 rfl rfl 11 (by decide) (hts _ mw_1170) (fun _ h9 => h9) rfl dX11_corner_153 ?_
                    refine lv_iload_n hx hb dX11_corner_156 rfl (lv_at hl 1 rfl) ?_
                    refine z_iald hx hb hK hP 3 0 rfl rfl (e := f) rfl (by omega) (by omega) dX11_corner_157 ?_
                    refine zz_i (v := nI (n + 1)) (up_at _ _ _) ?_
                    have hP9 := hP.sub (ws' := [(om k0 a (upd I0 14 0) J0), (oa (a 5) cI 201 st), (oa (a 6) cZ 201 tn), (oa (a 11) cI 201 (upd mn f (nI (n + 1)))), (oa (a 1) cI 201 kd), (oa (a 12) cI 8040 (upd cx (40 * f + n) px)), (oa (a 13) cI 8040 (upd cy (40 * f + n) py))]) [0, 1, 2, 3, 4, 5, 6] rfl
                    have hD9 := hD.sub (ws' := [(om k0 a (upd I0 14 0) J0), (oa (a 5) cI 201 st), (oa (a 6) cZ 201 tn), (oa (a 11) cI 201 (upd mn f (nI (n + 1)))), (oa (a 1) cI 201 kd), (oa (a 12) cI 8040 (upd cx (40 * f + n) px)), (oa (a 13) cI 8040 (upd cy (40 * f + n) py))]) [0, 1, 2, 3, 4, 5, 6] (by decide) rfl
                    rw [hQ9]
                    exact W.iret (v := nI (n + 1)) hx hb hr (fun t ht hW => ⟨⟨rfl, by rw [ht]; exact hP9, hD9⟩, hS.F ht⟩) hS.2.2 dX11_corner_158
                  · have c_10 : ((n : Nat) : Int) = 1 := zc_eq (nI_toInt (by omega)) (by decide) c_10
                    exfalso; omega
              · have c_7 : ¬ (tn f).toInt = 0 := zc_ne rfl (by decide) c_7
                exfalso; omega
            · have c_6 : 1000 < py.toInt := zc_nle rfl (by decide) c_6
              exfalso; omega
    · have c_2 : ¬ (st f).toInt = 0 := zc_ne rfl (by decide) c_2
      exfalso; omega
  · have c_1 : ¬ (f < ft) := zp_0 c_1
    exfalso; omega
set_option maxHeartbeats 4000000 in
set_option maxRecDepth 100000 in
theorem k_M_tear_r (l : Launch) (dC : Nat → ClassId) (dI : Nat → Nat → Nat) (cI cZ cF : ClassId) (sz : Nat) (k0 : Nat) (a : Nat → Nat) (I0 : Nat → Int32) (J0 : Nat → Int64) (f : Nat) (ft : Nat) (st : Nat → Int32) (tn : Nat → Int32) (hft : I0 0 = nI ft) (h200 : ft ≤ 200) (hf_t : f < ft) (hbad : ¬ (¬ (st f).toInt = 2 ∧ (tn f).toInt = 0)) : Met l yX11_tear (.code yX11_tear cX11_tear 2 (some .boolean) :: ws0) ({ frames := 2, cells := 0, slots := 0, locals := 42 } : Room) (va_Pc [.ref k0, .int (nI f)] (zPre (dC, dI) classes (zTy cI cZ cF) [(om k0 a I0 J0), (oa (a 5) cI 201 st), (oa (a 6) cZ 201 tn)] sz zXN)) (zQ (some (.int 0)) (fun t => ∃ (z9 : Int32), va_P (dC, dI) classes [(om k0 a (upd (upd I0 14 z9) 15 (I0 15)) J0), (oa (a 5) cI 201 st), (oa (a 6) cZ 201 tn)] t.heap ∧ va_D (va_A [(om k0 a I0 J0), (oa (a 5) cI 201 st), (oa (a 6) cZ 201 tn)] sz) [(om k0 a (upd (upd I0 14 z9) 15 (I0 15)) J0), (oa (a 5) cI 201 st), (oa (a 6) cZ 201 tn)]) (va_A [(om k0 a I0 J0), (oa (a 5) cI 201 st), (oa (a 6) cZ 201 tn)] sz)) 0 0 (va_A [(om k0 a I0 J0), (oa (a 5) cI 201 st), (oa (a 6) cZ 201 tn)] sz) := by
  refine Met.ofW (cc := cX11_tear) (maxL := 2) (ret := (some .boolean)) (by decide) rfl ?_
  intro p e s m args below meth c s₁ B hml hv
  obtain ⟨rfl, hsz, hP, hK, hD0, hXN⟩ := hv
  have hx := B.exec
  have hb := B.bytes
  have hr := B.returns
  have hts0 := atoms_spec (ws := .code yX11_tear cX11_tear 2 (some .boolean) :: ws0) B.pre
  have hts : ∀ w9 ∈ ws0, w9.before ([.ref k0, .int (nI f)] : List Value).toArray s = true := fun w9 h => hts0 w9 (List.mem_cons_of_mem _ h)
  have hown : s.vm.findClass "ScaleShopModel" = some m.cls := findClass_of_methodNamed B.named
  have hlocks := B.notSynchronized
  subst hsz
  have hD := hD0.self (sz := s.heap.size)
  clear hD0
  generalize hAe : va_A [(om k0 a I0 J0), (oa (a 5) cI 201 st), (oa (a 6) cZ 201 tn)] s.heap.size = A at hD ⊢
  have hA : ∀ q : Nat, s.heap.size ≤ q → A q := fun q h => by rw [← hAe]; exact Or.inr h
  clear hAe
  have hS : va_S A s.heap s.heap [] := va_S.rf
  have hP : va_P (dC, dI) classes [(om k0 a I0 J0), (oa (a 5) cI 201 st), (oa (a 6) cZ 201 tn)] s.heap := hP
  obtain ⟨Q9, hQ9⟩ : ∃ Q9 : State → Prop, Q9 = MQ below (zQ (some (.int 0)) (fun t => ∃ (z9 : Int32), va_P (dC, dI) classes [(om k0 a (upd (upd I0 14 z9) 15 (I0 15)) J0), (oa (a 5) cI 201 st), (oa (a 6) cZ 201 tn)] t.heap ∧ va_D A [(om k0 a (upd (upd I0 14 z9) 15 (I0 15)) J0), (oa (a 5) cI 201 st), (oa (a 6) cZ 201 tn)]) A) ([.ref k0, .int (nI f)] : List Value).toArray s 0 0 A := ⟨_, rfl⟩
  rw [← hQ9]
  have hl := lv_entry ([.ref k0, .int (nI f)]) (n := 2) (Nat.le_of_ble_eq_true rfl)
  rw [lg_entry_eq]
  generalize (lg_sl ([.ref k0, .int (nI f)]) ++ List.replicate (2 - (lg_sl ([.ref k0, .int (nI f)])).length) Slot.unset).toArray = ls at hl ⊢
  have hl : lv_has ls 2 [(0, .ref k0), (1, .int (nI f))] := hl
  refine lv_aload_n hx hb dX11_tear_0 rfl (lv_at hl 0 rfl) ?_
  refine lv_iload_n hx hb dX11_tear_1 rfl (lv_at hl 1 rfl) ?_
  have hPc := hP.sub (ws' := [(om k0 a I0 J0)]) [0] rfl
  have hDc := hD.sub (ws' := [(om k0 a I0 J0)]) [0] (by decide) rfl
  have hFc := va_free (wc := [(om k0 a I0 J0)]) hD hS hA [0] rfl
  refine zcall (st1 := [.int (pI (f < ft))]) (va_runV (As := [.int (nI f)]) (rest := []) ⟨hx, hb, hml, hown, hts⟩ (k_M_isFeature_n l dC dI cI cZ cF s.heap.size k0 a I0 J0 f ft (by assumption) (by omega) (by omega)) (cwV 1 hts (zz_gV mw_1345 mw_1347 mw_37 mw_110 mc_yX11_isFeature) rfl rfl rfl (by decide +kernel) ⟨Nat.le_of_ble_eq_true rfl, Nat.le_of_ble_eq_true rfl⟩) (zPV2 (q0 := 0) (ci := 9) hPc hDc hK hXN rfl rfl) rfl rfl hl.1 rfl (lv_room (Nat.le_of_ble_eq_true rfl)) dX11_tear_2 ⟨Nat.le_of_ble_eq_true rfl, Nat.le_of_ble_eq_true rfl⟩) hS hFc hFc rfl (fun t H1 locs ht hB hk1 hS => ?_)
  obtain ⟨hP1, hD1⟩ := hB
  rw [ht] at hP1
  obtain ⟨hP, hD⟩ := va_join (wr := [(oa (a 5) cI 201 st), (oa (a 6) cZ 201 tn)]) (w1 := [(om k0 a I0 J0)]) hP hD [0] [1, 2] rfl rfl (by decide) (by decide) hk1 hFc hP1 hD1
  clear hk1 hPc hDc hFc hP1 hD1 ht
  generalize H1 = H at hP hS ⊢
  have hP := hP.sub (ws' := [(om k0 a I0 J0), (oa (a 5) cI 201 st), (oa (a 6) cZ 201 tn)]) [2, 0, 1] rfl
  have hD := hD.sub (ws' := [(om k0 a I0 J0), (oa (a 5) cI 201 st), (oa (a 6) cZ 201 tn)]) [2, 0, 1] (by decide) rfl
  have hP : va_P (dC, dI) classes [(om k0 a I0 J0), (oa (a 5) cI 201 st), (oa (a 6) cZ 201 tn)] H := hP
  have hD : va_D A [(om k0 a I0 J0), (oa (a 5) cI 201 st), (oa (a 6) cZ 201 tn)] := hD
  refine lv_if_ne (tgt := 14) hx hb dX11_tear_5 (by decide) (fun c_1 => ?_) (fun c_1 => ?_)
  · have c_1 : f < ft := zp_1 c_1
    refine lv_aload_n hx hb dX11_tear_14 rfl (lv_at hl 0 rfl) ?_
    refine va_get (D := (dC, dI)) (ci := 9) (v := .ref (a 5)) (C := RX11) (T := TX11) (N := 55) hx hb hts inX11 hown hK hP 0 rfl rfl 5 (by decide) (hts _ mw_1164) (fun _ h9 => h9) rfl dX11_tear_15 ?_
    refine lv_iload_n hx hb dX11_tear_18 rfl (lv_at hl 1 rfl) ?_
    refine z_iald hx hb hK hP 1 0 rfl rfl (e := f) rfl (by omega) (by omega) dX11_tear_19 ?_
    refine lv_iconst (v := 2) hx hb dX11_tear_20 (by decide) ?_
    refine lv_icmp_ne (tgt := 30) hx hb dX11_tear_21 (by decide) (fun c_2 => ?_) (fun c_2 => ?_)
    · have c_2 : ¬ (st f).toInt = 2 := zc_ne rfl (by decide) c_2
      refine lv_aload_n hx hb dX11_tear_30 rfl (lv_at hl 0 rfl) ?_
      refine va_get (D := (dC, dI)) (ci := 9) (v := .ref (a 6)) (C := RX11) (T := TX11) (N := 55) hx hb hts inX11 hown hK hP 0 rfl rfl 6 (by decide) (hts _ mw_1165) (fun _ h9 => h9) rfl dX11_tear_31 ?_
      refine lv_iload_n hx hb dX11_tear_34 rfl (lv_at hl 1 rfl) ?_
      refine z_zald hx hb hK hP 2 1 rfl rfl (e := f) rfl (by omega) (by omega) dX11_tear_35 ?_
      refine lv_if_eq (tgt := 45) hx hb dX11_tear_36 (by decide) (fun c_3 => ?_) (fun c_3 => ?_)
      · have c_3 : (tn f).toInt = 0 := zc_eq rfl (by decide) c_3
        exfalso; omega
      · have c_3 : ¬ (tn f).toInt = 0 := zc_ne rfl (by decide) c_3
        refine lv_aload_n hx hb dX11_tear_39 rfl (lv_at hl 0 rfl) ?_
        refine lv_iconst (v := 5) hx hb dX11_tear_40 (by decide) ?_
        have hPc := hP.sub (ws' := [(om k0 a I0 J0)]) [0] rfl
        have hDc := hD.sub (ws' := [(om k0 a I0 J0)]) [0] (by decide) rfl
        have hFc := va_free (wc := [(om k0 a I0 J0)]) hD hS hA [0] rfl
        refine zcall (st1 := [.int 0]) (va_runV (As := [.int 5]) (rest := []) ⟨hx, hb, hml, hown, hts⟩ (k_M_no l dC dI cI cZ cF H.size k0 a I0 J0 5 (by decide)) (cwV 1 hts (zz_gV mw_1353 mw_1355 mw_38 mw_110 mc_yX11_no) rfl rfl rfl (by decide +kernel) ⟨Nat.le_of_ble_eq_true rfl, Nat.le_of_ble_eq_true rfl⟩) (zPV2 (q0 := 0) (ci := 9) hPc hDc hK hXN rfl rfl) rfl rfl hl.1 rfl (lv_room (Nat.le_of_ble_eq_true rfl)) dX11_tear_41 ⟨Nat.le_of_ble_eq_true rfl, Nat.le_of_ble_eq_true rfl⟩) hS hFc hFc rfl (fun t H1 locs ht hB hk1 hS => ?_)
        obtain ⟨hP1, hD1⟩ := hB
        rw [ht] at hP1
        obtain ⟨hP, hD⟩ := va_join (wr := [(oa (a 5) cI 201 st), (oa (a 6) cZ 201 tn)]) (w1 := [(om k0 a (upd (upd I0 14 5) 15 (I0 15)) J0)]) hP hD [0] [1, 2] rfl rfl (by decide) (by decide) hk1 hFc hP1 hD1
        clear hk1 hPc hDc hFc hP1 hD1 ht
        generalize H1 = H at hP hS ⊢
        have hP := hP.sub (ws' := [(om k0 a (upd (upd I0 14 5) 15 (I0 15)) J0), (oa (a 5) cI 201 st), (oa (a 6) cZ 201 tn)]) [2, 0, 1] rfl
        have hD := hD.sub (ws' := [(om k0 a (upd (upd I0 14 5) 15 (I0 15)) J0), (oa (a 5) cI 201 st), (oa (a 6) cZ 201 tn)]) [2, 0, 1] (by decide) rfl
        have hP : va_P (dC, dI) classes [(om k0 a (upd (upd I0 14 5) 15 (I0 15)) J0), (oa (a 5) cI 201 st), (oa (a 6) cZ 201 tn)] H := hP
        have hD : va_D A [(om k0 a (upd (upd I0 14 5) 15 (I0 15)) J0), (oa (a 5) cI 201 st), (oa (a 6) cZ 201 tn)] := hD
        have hP9 := hP.sub (ws' := [(om k0 a (upd (upd I0 14 5) 15 (I0 15)) J0), (oa (a 5) cI 201 st), (oa (a 6) cZ 201 tn)]) [0, 1, 2] rfl
        have hD9 := hD.sub (ws' := [(om k0 a (upd (upd I0 14 5) 15 (I0 15)) J0), (oa (a 5) cI 201 st), (oa (a 6) cZ 201 tn)]) [0, 1, 2] (by decide) rfl
        rw [hQ9]
        exact W.zret (ty := .boolean) (v := 0) hx hb hr (rfl) (fun t ht hW => ⟨⟨rfl, 5, by rw [ht]; exact hP9, hD9⟩, hS.F ht⟩) hS.2.2 dX11_tear_44
    · have c_2 : (st f).toInt = 2 := zc_eq rfl (by decide) c_2
      refine lv_aload_n hx hb dX11_tear_24 rfl (lv_at hl 0 rfl) ?_
      refine lv_iconst (v := 2) hx hb dX11_tear_25 (by decide) ?_
      have hPc := hP.sub (ws' := [(om k0 a I0 J0)]) [0] rfl
      have hDc := hD.sub (ws' := [(om k0 a I0 J0)]) [0] (by decide) rfl
      have hFc := va_free (wc := [(om k0 a I0 J0)]) hD hS hA [0] rfl
      refine zcall (st1 := [.int 0]) (va_runV (As := [.int 2]) (rest := []) ⟨hx, hb, hml, hown, hts⟩ (k_M_no l dC dI cI cZ cF H.size k0 a I0 J0 2 (by decide)) (cwV 1 hts (zz_gV mw_1353 mw_1355 mw_38 mw_110 mc_yX11_no) rfl rfl rfl (by decide +kernel) ⟨Nat.le_of_ble_eq_true rfl, Nat.le_of_ble_eq_true rfl⟩) (zPV2 (q0 := 0) (ci := 9) hPc hDc hK hXN rfl rfl) rfl rfl hl.1 rfl (lv_room (Nat.le_of_ble_eq_true rfl)) dX11_tear_26 ⟨Nat.le_of_ble_eq_true rfl, Nat.le_of_ble_eq_true rfl⟩) hS hFc hFc rfl (fun t H1 locs ht hB hk1 hS => ?_)
      obtain ⟨hP1, hD1⟩ := hB
      rw [ht] at hP1
      obtain ⟨hP, hD⟩ := va_join (wr := [(oa (a 5) cI 201 st), (oa (a 6) cZ 201 tn)]) (w1 := [(om k0 a (upd (upd I0 14 2) 15 (I0 15)) J0)]) hP hD [0] [1, 2] rfl rfl (by decide) (by decide) hk1 hFc hP1 hD1
      clear hk1 hPc hDc hFc hP1 hD1 ht
      generalize H1 = H at hP hS ⊢
      have hP := hP.sub (ws' := [(om k0 a (upd (upd I0 14 2) 15 (I0 15)) J0), (oa (a 5) cI 201 st), (oa (a 6) cZ 201 tn)]) [2, 0, 1] rfl
      have hD := hD.sub (ws' := [(om k0 a (upd (upd I0 14 2) 15 (I0 15)) J0), (oa (a 5) cI 201 st), (oa (a 6) cZ 201 tn)]) [2, 0, 1] (by decide) rfl
      have hP : va_P (dC, dI) classes [(om k0 a (upd (upd I0 14 2) 15 (I0 15)) J0), (oa (a 5) cI 201 st), (oa (a 6) cZ 201 tn)] H := hP
      have hD : va_D A [(om k0 a (upd (upd I0 14 2) 15 (I0 15)) J0), (oa (a 5) cI 201 st), (oa (a 6) cZ 201 tn)] := hD
      have hP9 := hP.sub (ws' := [(om k0 a (upd (upd I0 14 2) 15 (I0 15)) J0), (oa (a 5) cI 201 st), (oa (a 6) cZ 201 tn)]) [0, 1, 2] rfl
      have hD9 := hD.sub (ws' := [(om k0 a (upd (upd I0 14 2) 15 (I0 15)) J0), (oa (a 5) cI 201 st), (oa (a 6) cZ 201 tn)]) [0, 1, 2] (by decide) rfl
      rw [hQ9]
      exact W.zret (ty := .boolean) (v := 0) hx hb hr (rfl) (fun t ht hW => ⟨⟨rfl, 2, by rw [ht]; exact hP9, hD9⟩, hS.F ht⟩) hS.2.2 dX11_tear_29
  · have c_1 : ¬ (f < ft) := zp_0 c_1
    exfalso; omega
set_option maxHeartbeats 4000000 in
set_option maxRecDepth 100000 in
theorem k_M_tear_ok (l : Launch) (dC : Nat → ClassId) (dI : Nat → Nat → Nat) (cI cZ cF : ClassId) (sz : Nat) (k0 : Nat) (a : Nat → Nat) (I0 : Nat → Int32) (J0 : Nat → Int64) (f : Nat) (ft : Nat) (st : Nat → Int32) (tn : Nat → Int32) (mn : Nat → Int32) (sa : Nat → Int32) (hft : I0 0 = nI ft) (h200 : ft ≤ 200) (hf_t : f < ft) (hgood : ¬ (st f).toInt = 2 ∧ (tn f).toInt = 0) : Met l yX11_tear (.code yX11_tear cX11_tear 2 (some .boolean) :: ws0) ({ frames := 1, cells := 0, slots := 0, locals := 21 } : Room) (va_Pc [.ref k0, .int (nI f)] (zPre (dC, dI) classes (zTy cI cZ cF) [(om k0 a I0 J0), (oa (a 5) cI 201 st), (oa (a 6) cZ 201 tn), (oa (a 11) cI 201 mn), (oa (a 27) cI 516 sa)] sz zXN)) (zQ (some (.int 1)) (fun t => va_P (dC, dI) classes [(om k0 a (upd (upd (upd I0 14 0) 20 0) 21 (I0 19)) J0), (oa (a 5) cI 201 st), (oa (a 6) cZ 201 (upd tn f 1)), (oa (a 11) cI 201 (upd mn f 0)), (oa (a 27) cI 516 (upd sa 0 0))] t.heap ∧ va_D (va_A [(om k0 a I0 J0), (oa (a 5) cI 201 st), (oa (a 6) cZ 201 tn), (oa (a 11) cI 201 mn), (oa (a 27) cI 516 sa)] sz) [(om k0 a (upd (upd (upd I0 14 0) 20 0) 21 (I0 19)) J0), (oa (a 5) cI 201 st), (oa (a 6) cZ 201 (upd tn f 1)), (oa (a 11) cI 201 (upd mn f 0)), (oa (a 27) cI 516 (upd sa 0 0))]) (va_A [(om k0 a I0 J0), (oa (a 5) cI 201 st), (oa (a 6) cZ 201 tn), (oa (a 11) cI 201 mn), (oa (a 27) cI 516 sa)] sz)) 0 0 (va_A [(om k0 a I0 J0), (oa (a 5) cI 201 st), (oa (a 6) cZ 201 tn), (oa (a 11) cI 201 mn), (oa (a 27) cI 516 sa)] sz) := by
  refine Met.ofW (cc := cX11_tear) (maxL := 2) (ret := (some .boolean)) (by decide) rfl ?_
  intro p e s m args below meth c s₁ B hml hv
  obtain ⟨rfl, hsz, hP, hK, hD0, hXN⟩ := hv
  have hx := B.exec
  have hb := B.bytes
  have hr := B.returns
  have hts0 := atoms_spec (ws := .code yX11_tear cX11_tear 2 (some .boolean) :: ws0) B.pre
  have hts : ∀ w9 ∈ ws0, w9.before ([.ref k0, .int (nI f)] : List Value).toArray s = true := fun w9 h => hts0 w9 (List.mem_cons_of_mem _ h)
  have hown : s.vm.findClass "ScaleShopModel" = some m.cls := findClass_of_methodNamed B.named
  have hlocks := B.notSynchronized
  subst hsz
  have hD := hD0.self (sz := s.heap.size)
  clear hD0
  generalize hAe : va_A [(om k0 a I0 J0), (oa (a 5) cI 201 st), (oa (a 6) cZ 201 tn), (oa (a 11) cI 201 mn), (oa (a 27) cI 516 sa)] s.heap.size = A at hD ⊢
  have hA : ∀ q : Nat, s.heap.size ≤ q → A q := fun q h => by rw [← hAe]; exact Or.inr h
  clear hAe
  have hS : va_S A s.heap s.heap [] := va_S.rf
  have hP : va_P (dC, dI) classes [(om k0 a I0 J0), (oa (a 5) cI 201 st), (oa (a 6) cZ 201 tn), (oa (a 11) cI 201 mn), (oa (a 27) cI 516 sa)] s.heap := hP
  obtain ⟨Q9, hQ9⟩ : ∃ Q9 : State → Prop, Q9 = MQ below (zQ (some (.int 1)) (fun t => va_P (dC, dI) classes [(om k0 a (upd (upd (upd I0 14 0) 20 0) 21 (I0 19)) J0), (oa (a 5) cI 201 st), (oa (a 6) cZ 201 (upd tn f 1)), (oa (a 11) cI 201 (upd mn f 0)), (oa (a 27) cI 516 (upd sa 0 0))] t.heap ∧ va_D A [(om k0 a (upd (upd (upd I0 14 0) 20 0) 21 (I0 19)) J0), (oa (a 5) cI 201 st), (oa (a 6) cZ 201 (upd tn f 1)), (oa (a 11) cI 201 (upd mn f 0)), (oa (a 27) cI 516 (upd sa 0 0))]) A) ([.ref k0, .int (nI f)] : List Value).toArray s 0 0 A := ⟨_, rfl⟩
  rw [← hQ9]
  have hl := lv_entry ([.ref k0, .int (nI f)]) (n := 2) (Nat.le_of_ble_eq_true rfl)
  rw [lg_entry_eq]
  generalize (lg_sl ([.ref k0, .int (nI f)]) ++ List.replicate (2 - (lg_sl ([.ref k0, .int (nI f)])).length) Slot.unset).toArray = ls at hl ⊢
  have hl : lv_has ls 2 [(0, .ref k0), (1, .int (nI f))] := hl
  refine lv_aload_n hx hb dX11_tear_0 rfl (lv_at hl 0 rfl) ?_
  refine lv_iload_n hx hb dX11_tear_1 rfl (lv_at hl 1 rfl) ?_
  have hPc := hP.sub (ws' := [(om k0 a I0 J0)]) [0] rfl
  have hDc := hD.sub (ws' := [(om k0 a I0 J0)]) [0] (by decide) rfl
  have hFc := va_free (wc := [(om k0 a I0 J0)]) hD hS hA [0] rfl
  refine zcall (st1 := [.int (pI (f < ft))]) (va_runV (As := [.int (nI f)]) (rest := []) ⟨hx, hb, hml, hown, hts⟩ (k_M_isFeature_n l dC dI cI cZ cF s.heap.size k0 a I0 J0 f ft (by assumption) (by omega) (by omega)) (cwV 1 hts (zz_gV mw_1345 mw_1347 mw_37 mw_110 mc_yX11_isFeature) rfl rfl rfl (by decide +kernel) ⟨Nat.le_of_ble_eq_true rfl, Nat.le_of_ble_eq_true rfl⟩) (zPV2 (q0 := 0) (ci := 9) hPc hDc hK hXN rfl rfl) rfl rfl hl.1 rfl (lv_room (Nat.le_of_ble_eq_true rfl)) dX11_tear_2 ⟨Nat.le_of_ble_eq_true rfl, Nat.le_of_ble_eq_true rfl⟩) hS hFc hFc rfl (fun t H1 locs ht hB hk1 hS => ?_)
  obtain ⟨hP1, hD1⟩ := hB
  rw [ht] at hP1
  obtain ⟨hP, hD⟩ := va_join (wr := [(oa (a 5) cI 201 st), (oa (a 6) cZ 201 tn), (oa (a 11) cI 201 mn), (oa (a 27) cI 516 sa)]) (w1 := [(om k0 a I0 J0)]) hP hD [0] [1, 2, 3, 4] rfl rfl (by decide) (by decide) hk1 hFc hP1 hD1
  clear hk1 hPc hDc hFc hP1 hD1 ht
  generalize H1 = H at hP hS ⊢
  have hP := hP.sub (ws' := [(om k0 a I0 J0), (oa (a 5) cI 201 st), (oa (a 6) cZ 201 tn), (oa (a 11) cI 201 mn), (oa (a 27) cI 516 sa)]) [4, 0, 1, 2, 3] rfl
  have hD := hD.sub (ws' := [(om k0 a I0 J0), (oa (a 5) cI 201 st), (oa (a 6) cZ 201 tn), (oa (a 11) cI 201 mn), (oa (a 27) cI 516 sa)]) [4, 0, 1, 2, 3] (by decide) rfl
  have hP : va_P (dC, dI) classes [(om k0 a I0 J0), (oa (a 5) cI 201 st), (oa (a 6) cZ 201 tn), (oa (a 11) cI 201 mn), (oa (a 27) cI 516 sa)] H := hP
  have hD : va_D A [(om k0 a I0 J0), (oa (a 5) cI 201 st), (oa (a 6) cZ 201 tn), (oa (a 11) cI 201 mn), (oa (a 27) cI 516 sa)] := hD
  refine lv_if_ne (tgt := 14) hx hb dX11_tear_5 (by decide) (fun c_1 => ?_) (fun c_1 => ?_)
  · have c_1 : f < ft := zp_1 c_1
    refine lv_aload_n hx hb dX11_tear_14 rfl (lv_at hl 0 rfl) ?_
    refine va_get (D := (dC, dI)) (ci := 9) (v := .ref (a 5)) (C := RX11) (T := TX11) (N := 55) hx hb hts inX11 hown hK hP 0 rfl rfl 5 (by decide) (hts _ mw_1164) (fun _ h9 => h9) rfl dX11_tear_15 ?_
    refine lv_iload_n hx hb dX11_tear_18 rfl (lv_at hl 1 rfl) ?_
    refine z_iald hx hb hK hP 1 0 rfl rfl (e := f) rfl (by omega) (by omega) dX11_tear_19 ?_
    refine lv_iconst (v := 2) hx hb dX11_tear_20 (by decide) ?_
    refine lv_icmp_ne (tgt := 30) hx hb dX11_tear_21 (by decide) (fun c_2 => ?_) (fun c_2 => ?_)
    · have c_2 : ¬ (st f).toInt = 2 := zc_ne rfl (by decide) c_2
      refine lv_aload_n hx hb dX11_tear_30 rfl (lv_at hl 0 rfl) ?_
      refine va_get (D := (dC, dI)) (ci := 9) (v := .ref (a 6)) (C := RX11) (T := TX11) (N := 55) hx hb hts inX11 hown hK hP 0 rfl rfl 6 (by decide) (hts _ mw_1165) (fun _ h9 => h9) rfl dX11_tear_31 ?_
      refine lv_iload_n hx hb dX11_tear_34 rfl (lv_at hl 1 rfl) ?_
      refine z_zald hx hb hK hP 2 1 rfl rfl (e := f) rfl (by omega) (by omega) dX11_tear_35 ?_
      refine lv_if_eq (tgt := 45) hx hb dX11_tear_36 (by decide) (fun c_3 => ?_) (fun c_3 => ?_)
      · have c_3 : (tn f).toInt = 0 := zc_eq rfl (by decide) c_3
        refine lv_aload_n hx hb dX11_tear_45 rfl (lv_at hl 0 rfl) ?_
        refine va_get (D := (dC, dI)) (ci := 9) (v := .ref (a 6)) (C := RX11) (T := TX11) (N := 55) hx hb hts inX11 hown hK hP 0 rfl rfl 6 (by decide) (hts _ mw_1165) (fun _ h9 => h9) rfl dX11_tear_46 ?_
        refine lv_iload_n hx hb dX11_tear_49 rfl (lv_at hl 1 rfl) ?_
        refine lv_iconst (v := 1) hx hb dX11_tear_50 (by decide) ?_
        refine z_zast hx hb hK hP hD hS 2 1 rfl rfl (e := f) (x := 1) rfl (by omega) (by omega) (by decide) dX11_tear_51 (fun H locs hP hD hS => ?_)
        have hP : va_P (dC, dI) classes [(om k0 a I0 J0), (oa (a 5) cI 201 st), (oa (a 6) cZ 201 (upd tn f 1)), (oa (a 11) cI 201 mn), (oa (a 27) cI 516 sa)] H := hP
        have hD : va_D A [(om k0 a I0 J0), (oa (a 5) cI 201 st), (oa (a 6) cZ 201 (upd tn f 1)), (oa (a 11) cI 201 mn), (oa (a 27) cI 516 sa)] := hD
        refine lv_aload_n hx hb dX11_tear_52 rfl (lv_at hl 0 rfl) ?_
        refine va_get (D := (dC, dI)) (ci := 9) (v := .ref (a 11)) (C := RX11) (T := TX11) (N := 55) hx hb hts inX11 hown hK hP 0 rfl rfl 11 (by decide) (hts _ mw_1170) (fun _ h9 => h9) rfl dX11_tear_53 ?_
        refine lv_iload_n hx hb dX11_tear_56 rfl (lv_at hl 1 rfl) ?_
        refine lv_iconst (v := 0) hx hb dX11_tear_57 (by decide) ?_
        refine z_iast hx hb hK hP hD hS 3 0 rfl rfl (e := f) (x := 0) rfl (by omega) (by omega) dX11_tear_58 (fun H locs hP hD hS => ?_)
        have hP : va_P (dC, dI) classes [(om k0 a I0 J0), (oa (a 5) cI 201 st), (oa (a 6) cZ 201 (upd tn f 1)), (oa (a 11) cI 201 (upd mn f 0)), (oa (a 27) cI 516 sa)] H := hP
        have hD : va_D A [(om k0 a I0 J0), (oa (a 5) cI 201 st), (oa (a 6) cZ 201 (upd tn f 1)), (oa (a 11) cI 201 (upd mn f 0)), (oa (a 27) cI 516 sa)] := hD
        refine lv_aload_n hx hb dX11_tear_59 rfl (lv_at hl 0 rfl) ?_
        have hPc := hP.sub (ws' := [(om k0 a I0 J0), (oa (a 27) cI 516 sa)]) [0, 4] rfl
        have hDc := hD.sub (ws' := [(om k0 a I0 J0), (oa (a 27) cI 516 sa)]) [0, 4] (by decide) rfl
        have hFc := va_free (wc := [(om k0 a I0 J0), (oa (a 27) cI 516 sa)]) hD hS hA [0, 4] rfl
        refine zcall (st1 := []) (va_runV (As := []) (rest := []) ⟨hx, hb, hml, hown, hts⟩ (k_M_settle l dC dI cI cZ cF H.size k0 a I0 J0 sa ) (cwV 0 hts (zz_gV mw_1337 mw_1339 mw_36 mw_110 mc_yX11_settle) rfl rfl rfl (by decide +kernel) ⟨Nat.le_of_ble_eq_true rfl, Nat.le_of_ble_eq_true rfl⟩) (zPV2 (q0 := 0) (ci := 9) hPc hDc hK hXN rfl rfl) rfl rfl hl.1 rfl (lv_room (Nat.le_of_ble_eq_true rfl)) dX11_tear_60 ⟨Nat.le_of_ble_eq_true rfl, Nat.le_of_ble_eq_true rfl⟩) hS hFc hFc rfl (fun t H1 locs ht hB hk1 hS => ?_)
        obtain ⟨hP1, hD1⟩ := hB
        rw [ht] at hP1
        obtain ⟨hP, hD⟩ := va_join (wr := [(oa (a 5) cI 201 st), (oa (a 6) cZ 201 (upd tn f 1)), (oa (a 11) cI 201 (upd mn f 0))]) (w1 := [(om k0 a (upd (upd I0 20 0) 21 (I0 19)) J0), (oa (a 27) cI 516 (upd sa 0 0))]) hP hD [0, 4] [1, 2, 3] rfl rfl (by decide) (by decide) hk1 hFc hP1 hD1
        clear hk1 hPc hDc hFc hP1 hD1 ht
        generalize H1 = H at hP hS ⊢
        have hP := hP.sub (ws' := [(om k0 a (upd (upd I0 20 0) 21 (I0 19)) J0), (oa (a 5) cI 201 st), (oa (a 6) cZ 201 (upd tn f 1)), (oa (a 11) cI 201 (upd mn f 0)), (oa (a 27) cI 516 (upd sa 0 0))]) [3, 0, 1, 2, 4] rfl
        have hD := hD.sub (ws' := [(om k0 a (upd (upd I0 20 0) 21 (I0 19)) J0), (oa (a 5) cI 201 st), (oa (a 6) cZ 201 (upd tn f 1)), (oa (a 11) cI 201 (upd mn f 0)), (oa (a 27) cI 516 (upd sa 0 0))]) [3, 0, 1, 2, 4] (by decide) rfl
        have hP : va_P (dC, dI) classes [(om k0 a (upd (upd I0 20 0) 21 (I0 19)) J0), (oa (a 5) cI 201 st), (oa (a 6) cZ 201 (upd tn f 1)), (oa (a 11) cI 201 (upd mn f 0)), (oa (a 27) cI 516 (upd sa 0 0))] H := hP
        have hD : va_D A [(om k0 a (upd (upd I0 20 0) 21 (I0 19)) J0), (oa (a 5) cI 201 st), (oa (a 6) cZ 201 (upd tn f 1)), (oa (a 11) cI 201 (upd mn f 0)), (oa (a 27) cI 516 (upd sa 0 0))] := hD
        refine lv_aload_n hx hb dX11_tear_63 rfl (lv_at hl 0 rfl) ?_
        refine lv_iconst (v := 0) hx hb dX11_tear_64 (by decide) ?_
        refine va_put (D := (dC, dI)) (ci := 9) (v := .int 0) (ty := .int) (C := RX11) (T := TX11) (N := 55) hx hb hts inX11 tyX11 tyX11_ok nmX11 hown hK hP hD hS 0 rfl rfl 14 (by decide) (hts _ mw_1173) (fun _ h9 => h9) rfl (by decide +kernel) rfl rfl (Nat.le_of_ble_eq_true rfl) dX11_tear_65 (fun H locs hP hD hS => ?_)
        have hP : va_P (dC, dI) classes [(om k0 a (upd (upd (upd I0 14 0) 20 0) 21 (I0 19)) J0), (oa (a 5) cI 201 st), (oa (a 6) cZ 201 (upd tn f 1)), (oa (a 11) cI 201 (upd mn f 0)), (oa (a 27) cI 516 (upd sa 0 0))] H := hP
        have hD : va_D A [(om k0 a (upd (upd (upd I0 14 0) 20 0) 21 (I0 19)) J0), (oa (a 5) cI 201 st), (oa (a 6) cZ 201 (upd tn f 1)), (oa (a 11) cI 201 (upd mn f 0)), (oa (a 27) cI 516 (upd sa 0 0))] := hD
        refine lv_iconst (v := 1) hx hb dX11_tear_68 (by decide) ?_
        have hP9 := hP.sub (ws' := [(om k0 a (upd (upd (upd I0 14 0) 20 0) 21 (I0 19)) J0), (oa (a 5) cI 201 st), (oa (a 6) cZ 201 (upd tn f 1)), (oa (a 11) cI 201 (upd mn f 0)), (oa (a 27) cI 516 (upd sa 0 0))]) [0, 1, 2, 3, 4] rfl
        have hD9 := hD.sub (ws' := [(om k0 a (upd (upd (upd I0 14 0) 20 0) 21 (I0 19)) J0), (oa (a 5) cI 201 st), (oa (a 6) cZ 201 (upd tn f 1)), (oa (a 11) cI 201 (upd mn f 0)), (oa (a 27) cI 516 (upd sa 0 0))]) [0, 1, 2, 3, 4] (by decide) rfl
        rw [hQ9]
        exact W.zret (ty := .boolean) (v := 1) hx hb hr (rfl) (fun t ht hW => ⟨⟨rfl, by rw [ht]; exact hP9, hD9⟩, hS.F ht⟩) hS.2.2 dX11_tear_69
      · have c_3 : ¬ (tn f).toInt = 0 := zc_ne rfl (by decide) c_3
        exfalso; omega
    · have c_2 : (st f).toInt = 2 := zc_eq rfl (by decide) c_2
      exfalso; omega
  · have c_1 : ¬ (f < ft) := zp_0 c_1
    exfalso; omega
set_option maxHeartbeats 4000000 in
set_option maxRecDepth 100000 in
theorem k_M_done_r (l : Launch) (dC : Nat → ClassId) (dI : Nat → Nat → Nat) (cI cZ cF : ClassId) (sz : Nat) (k0 : Nat) (a : Nat → Nat) (I0 : Nat → Int32) (J0 : Nat → Int64) (f : Nat) (n : Nat) (ft : Nat) (st : Nat → Int32) (tn : Nat → Int32) (kd : Nat → Int32) (mn : Nat → Int32) (cx : Nat → Int32) (cy : Nat → Int32) (S0 : Nat → Int32) (hft : I0 0 = nI ft) (h200 : ft ≤ 200) (hf_t : f < ft) (hm_f : mn f = nI n) (hn_f : n ≤ 40) (hp_f : (st f).toInt = 0 → (tn f).toInt = 0 → pls n (cF40 cx f) (cF40 cy f)) (hbad : ¬ ((st f).toInt = 0 ∧ (tn f).toInt = 0 ∧ mSm (kd f).toInt n (cF40 cx f) (cF40 cy f))) : Met l yX11_done (.code yX11_done cX11_done 2 (some .boolean) :: ws0) ({ frames := 5, cells := 0, slots := 0, locals := 131 } : Room) (va_Pc [.ref k0, .int (nI f)] (zPre (dC, dI) classes (zTy cI cZ cF) [(om k0 a I0 J0), (oa (a 5) cI 201 st), (oa (a 6) cZ 201 tn), (oa (a 1) cI 201 kd), (oa (a 11) cI 201 mn), (oa (a 12) cI 8040 cx), (oa (a 13) cI 8040 cy), (oa (a 32) cI 8 S0)] sz zXN)) (zQ (some (.int 0)) (fun t => ∃ (z9 : Int32), ∃ (S1 : Nat → Int32), va_P (dC, dI) classes [(om k0 a (upd (upd I0 14 z9) 15 (I0 15)) J0), (oa (a 5) cI 201 st), (oa (a 6) cZ 201 tn), (oa (a 1) cI 201 kd), (oa (a 11) cI 201 mn), (oa (a 12) cI 8040 cx), (oa (a 13) cI 8040 cy), (oa (a 32) cI 8 S1)] t.heap ∧ va_D (va_A [(om k0 a I0 J0), (oa (a 5) cI 201 st), (oa (a 6) cZ 201 tn), (oa (a 1) cI 201 kd), (oa (a 11) cI 201 mn), (oa (a 12) cI 8040 cx), (oa (a 13) cI 8040 cy), (oa (a 32) cI 8 S0)] sz) [(om k0 a (upd (upd I0 14 z9) 15 (I0 15)) J0), (oa (a 5) cI 201 st), (oa (a 6) cZ 201 tn), (oa (a 1) cI 201 kd), (oa (a 11) cI 201 mn), (oa (a 12) cI 8040 cx), (oa (a 13) cI 8040 cy), (oa (a 32) cI 8 S1)]) (va_A [(om k0 a I0 J0), (oa (a 5) cI 201 st), (oa (a 6) cZ 201 tn), (oa (a 1) cI 201 kd), (oa (a 11) cI 201 mn), (oa (a 12) cI 8040 cx), (oa (a 13) cI 8040 cy), (oa (a 32) cI 8 S0)] sz)) 0 0 (va_A [(om k0 a I0 J0), (oa (a 5) cI 201 st), (oa (a 6) cZ 201 tn), (oa (a 1) cI 201 kd), (oa (a 11) cI 201 mn), (oa (a 12) cI 8040 cx), (oa (a 13) cI 8040 cy), (oa (a 32) cI 8 S0)] sz) := by
  refine Met.ofW (cc := cX11_done) (maxL := 2) (ret := (some .boolean)) (by decide) rfl ?_
  intro p e s m args below meth c s₁ B hml hv
  obtain ⟨rfl, hsz, hP, hK, hD0, hXN⟩ := hv
  have hx := B.exec
  have hb := B.bytes
  have hr := B.returns
  have hts0 := atoms_spec (ws := .code yX11_done cX11_done 2 (some .boolean) :: ws0) B.pre
  have hts : ∀ w9 ∈ ws0, w9.before ([.ref k0, .int (nI f)] : List Value).toArray s = true := fun w9 h => hts0 w9 (List.mem_cons_of_mem _ h)
  have hown : s.vm.findClass "ScaleShopModel" = some m.cls := findClass_of_methodNamed B.named
  have hlocks := B.notSynchronized
  subst hsz
  have hD := hD0.self (sz := s.heap.size)
  clear hD0
  generalize hAe : va_A [(om k0 a I0 J0), (oa (a 5) cI 201 st), (oa (a 6) cZ 201 tn), (oa (a 1) cI 201 kd), (oa (a 11) cI 201 mn), (oa (a 12) cI 8040 cx), (oa (a 13) cI 8040 cy), (oa (a 32) cI 8 S0)] s.heap.size = A at hD ⊢
  have hA : ∀ q : Nat, s.heap.size ≤ q → A q := fun q h => by rw [← hAe]; exact Or.inr h
  clear hAe
  have hS : va_S A s.heap s.heap [] := va_S.rf
  have hP : va_P (dC, dI) classes [(om k0 a I0 J0), (oa (a 5) cI 201 st), (oa (a 6) cZ 201 tn), (oa (a 1) cI 201 kd), (oa (a 11) cI 201 mn), (oa (a 12) cI 8040 cx), (oa (a 13) cI 8040 cy), (oa (a 32) cI 8 S0)] s.heap := hP
  obtain ⟨Q9, hQ9⟩ : ∃ Q9 : State → Prop, Q9 = MQ below (zQ (some (.int 0)) (fun t => ∃ (z9 : Int32), ∃ (S1 : Nat → Int32), va_P (dC, dI) classes [(om k0 a (upd (upd I0 14 z9) 15 (I0 15)) J0), (oa (a 5) cI 201 st), (oa (a 6) cZ 201 tn), (oa (a 1) cI 201 kd), (oa (a 11) cI 201 mn), (oa (a 12) cI 8040 cx), (oa (a 13) cI 8040 cy), (oa (a 32) cI 8 S1)] t.heap ∧ va_D A [(om k0 a (upd (upd I0 14 z9) 15 (I0 15)) J0), (oa (a 5) cI 201 st), (oa (a 6) cZ 201 tn), (oa (a 1) cI 201 kd), (oa (a 11) cI 201 mn), (oa (a 12) cI 8040 cx), (oa (a 13) cI 8040 cy), (oa (a 32) cI 8 S1)]) A) ([.ref k0, .int (nI f)] : List Value).toArray s 0 0 A := ⟨_, rfl⟩
  rw [← hQ9]
  have hl := lv_entry ([.ref k0, .int (nI f)]) (n := 2) (Nat.le_of_ble_eq_true rfl)
  rw [lg_entry_eq]
  generalize (lg_sl ([.ref k0, .int (nI f)]) ++ List.replicate (2 - (lg_sl ([.ref k0, .int (nI f)])).length) Slot.unset).toArray = ls at hl ⊢
  have hl : lv_has ls 2 [(0, .ref k0), (1, .int (nI f))] := hl
  refine lv_aload_n hx hb dX11_done_0 rfl (lv_at hl 0 rfl) ?_
  refine lv_iload_n hx hb dX11_done_1 rfl (lv_at hl 1 rfl) ?_
  have hPc := hP.sub (ws' := [(om k0 a I0 J0)]) [0] rfl
  have hDc := hD.sub (ws' := [(om k0 a I0 J0)]) [0] (by decide) rfl
  have hFc := va_free (wc := [(om k0 a I0 J0)]) hD hS hA [0] rfl
  refine zcall (st1 := [.int (pI (f < ft))]) (va_runV (As := [.int (nI f)]) (rest := []) ⟨hx, hb, hml, hown, hts⟩ (k_M_isFeature_n l dC dI cI cZ cF s.heap.size k0 a I0 J0 f ft (by assumption) (by omega) (by omega)) (cwV 1 hts (zz_gV mw_1345 mw_1347 mw_37 mw_110 mc_yX11_isFeature) rfl rfl rfl (by decide +kernel) ⟨Nat.le_of_ble_eq_true rfl, Nat.le_of_ble_eq_true rfl⟩) (zPV2 (q0 := 0) (ci := 9) hPc hDc hK hXN rfl rfl) rfl rfl hl.1 rfl (lv_room (Nat.le_of_ble_eq_true rfl)) dX11_done_2 ⟨Nat.le_of_ble_eq_true rfl, Nat.le_of_ble_eq_true rfl⟩) hS hFc hFc rfl (fun t H1 locs ht hB hk1 hS => ?_)
  obtain ⟨hP1, hD1⟩ := hB
  rw [ht] at hP1
  obtain ⟨hP, hD⟩ := va_join (wr := [(oa (a 5) cI 201 st), (oa (a 6) cZ 201 tn), (oa (a 1) cI 201 kd), (oa (a 11) cI 201 mn), (oa (a 12) cI 8040 cx), (oa (a 13) cI 8040 cy), (oa (a 32) cI 8 S0)]) (w1 := [(om k0 a I0 J0)]) hP hD [0] [1, 2, 3, 4, 5, 6, 7] rfl rfl (by decide) (by decide) hk1 hFc hP1 hD1
  clear hk1 hPc hDc hFc hP1 hD1 ht
  generalize H1 = H at hP hS ⊢
  have hP := hP.sub (ws' := [(om k0 a I0 J0), (oa (a 5) cI 201 st), (oa (a 6) cZ 201 tn), (oa (a 1) cI 201 kd), (oa (a 11) cI 201 mn), (oa (a 12) cI 8040 cx), (oa (a 13) cI 8040 cy), (oa (a 32) cI 8 S0)]) [7, 0, 1, 2, 3, 4, 5, 6] rfl
  have hD := hD.sub (ws' := [(om k0 a I0 J0), (oa (a 5) cI 201 st), (oa (a 6) cZ 201 tn), (oa (a 1) cI 201 kd), (oa (a 11) cI 201 mn), (oa (a 12) cI 8040 cx), (oa (a 13) cI 8040 cy), (oa (a 32) cI 8 S0)]) [7, 0, 1, 2, 3, 4, 5, 6] (by decide) rfl
  have hP : va_P (dC, dI) classes [(om k0 a I0 J0), (oa (a 5) cI 201 st), (oa (a 6) cZ 201 tn), (oa (a 1) cI 201 kd), (oa (a 11) cI 201 mn), (oa (a 12) cI 8040 cx), (oa (a 13) cI 8040 cy), (oa (a 32) cI 8 S0)] H := hP
  have hD : va_D A [(om k0 a I0 J0), (oa (a 5) cI 201 st), (oa (a 6) cZ 201 tn), (oa (a 1) cI 201 kd), (oa (a 11) cI 201 mn), (oa (a 12) cI 8040 cx), (oa (a 13) cI 8040 cy), (oa (a 32) cI 8 S0)] := hD
  refine lv_if_ne (tgt := 14) hx hb dX11_done_5 (by decide) (fun c_1 => ?_) (fun c_1 => ?_)
  · have c_1 : f < ft := zp_1 c_1
    refine lv_aload_n hx hb dX11_done_14 rfl (lv_at hl 0 rfl) ?_
    refine va_get (D := (dC, dI)) (ci := 9) (v := .ref (a 5)) (C := RX11) (T := TX11) (N := 55) hx hb hts inX11 hown hK hP 0 rfl rfl 5 (by decide) (hts _ mw_1164) (fun _ h9 => h9) rfl dX11_done_15 ?_
    refine lv_iload_n hx hb dX11_done_18 rfl (lv_at hl 1 rfl) ?_
    refine z_iald hx hb hK hP 1 0 rfl rfl (e := f) rfl (by omega) (by omega) dX11_done_19 ?_
    refine lv_if_eq (tgt := 29) hx hb dX11_done_20 (by decide) (fun c_2 => ?_) (fun c_2 => ?_)
    · have c_2 : (st f).toInt = 0 := zc_eq rfl (by decide) c_2
      refine lv_aload_n hx hb dX11_done_29 rfl (lv_at hl 0 rfl) ?_
      refine va_get (D := (dC, dI)) (ci := 9) (v := .ref (a 6)) (C := RX11) (T := TX11) (N := 55) hx hb hts inX11 hown hK hP 0 rfl rfl 6 (by decide) (hts _ mw_1165) (fun _ h9 => h9) rfl dX11_done_30 ?_
      refine lv_iload_n hx hb dX11_done_33 rfl (lv_at hl 1 rfl) ?_
      refine z_zald hx hb hK hP 2 1 rfl rfl (e := f) rfl (by omega) (by omega) dX11_done_34 ?_
      refine lv_if_eq (tgt := 44) hx hb dX11_done_35 (by decide) (fun c_3 => ?_) (fun c_3 => ?_)
      · have c_3 : (tn f).toInt = 0 := zc_eq rfl (by decide) c_3
        refine lv_aload_n hx hb dX11_done_44 rfl (lv_at hl 0 rfl) ?_
        refine lv_iload_n hx hb dX11_done_45 rfl (lv_at hl 1 rfl) ?_
        have hPc := hP.sub (ws' := [(om k0 a I0 J0), (oa (a 1) cI 201 kd), (oa (a 11) cI 201 mn), (oa (a 12) cI 8040 cx), (oa (a 13) cI 8040 cy), (oa (a 32) cI 8 S0)]) [0, 3, 4, 5, 6, 7] rfl
        have hDc := hD.sub (ws' := [(om k0 a I0 J0), (oa (a 1) cI 201 kd), (oa (a 11) cI 201 mn), (oa (a 12) cI 8040 cx), (oa (a 13) cI 8040 cy), (oa (a 32) cI 8 S0)]) [0, 3, 4, 5, 6, 7] (by decide) rfl
        have hFc := va_free (wc := [(om k0 a I0 J0), (oa (a 1) cI 201 kd), (oa (a 11) cI 201 mn), (oa (a 12) cI 8040 cx), (oa (a 13) cI 8040 cy), (oa (a 32) cI 8 S0)]) hD hS hA [0, 3, 4, 5, 6, 7] rfl
        refine zcall (st1 := [.int (pI (mSm (kd f).toInt n (cF40 cx f) (cF40 cy f)))]) (va_runV (As := [.int (nI f)]) (rest := []) ⟨hx, hb, hml, hown, hts⟩ (k_M_isSimple l dC dI cI cZ cF H.size k0 a I0 J0 f n kd mn cx cy S0 (by omega) (by assumption) (hp_f (by omega) (by omega)) (by omega)) (cwV 1 hts (zz_gV mw_1361 mw_1363 mw_39 mw_110 mc_yX11_isSimple) rfl rfl rfl (by decide +kernel) ⟨Nat.le_of_ble_eq_true rfl, Nat.le_of_ble_eq_true rfl⟩) (zPV2 (q0 := 0) (ci := 9) hPc hDc hK hXN rfl rfl) rfl rfl hl.1 rfl (lv_room (Nat.le_of_ble_eq_true rfl)) dX11_done_46 ⟨Nat.le_of_ble_eq_true rfl, Nat.le_of_ble_eq_true rfl⟩) hS hFc hFc rfl (fun t H1 locs ht hB hk1 hS => ?_)
        obtain ⟨q_4, hP1, hD1⟩ := hB
        rw [ht] at hP1
        obtain ⟨hP, hD⟩ := va_join (wr := [(oa (a 5) cI 201 st), (oa (a 6) cZ 201 tn)]) (w1 := [(om k0 a I0 J0), (oa (a 1) cI 201 kd), (oa (a 11) cI 201 mn), (oa (a 12) cI 8040 cx), (oa (a 13) cI 8040 cy), (oa (a 32) cI 8 q_4)]) hP hD [0, 3, 4, 5, 6, 7] [1, 2] rfl rfl (by decide) (by decide) hk1 hFc hP1 hD1
        clear hk1 hPc hDc hFc hP1 hD1 ht
        generalize H1 = H at hP hS ⊢
        have hP := hP.sub (ws' := [(om k0 a I0 J0), (oa (a 5) cI 201 st), (oa (a 6) cZ 201 tn), (oa (a 1) cI 201 kd), (oa (a 11) cI 201 mn), (oa (a 12) cI 8040 cx), (oa (a 13) cI 8040 cy), (oa (a 32) cI 8 q_4)]) [2, 0, 1, 3, 4, 5, 6, 7] rfl
        have hD := hD.sub (ws' := [(om k0 a I0 J0), (oa (a 5) cI 201 st), (oa (a 6) cZ 201 tn), (oa (a 1) cI 201 kd), (oa (a 11) cI 201 mn), (oa (a 12) cI 8040 cx), (oa (a 13) cI 8040 cy), (oa (a 32) cI 8 q_4)]) [2, 0, 1, 3, 4, 5, 6, 7] (by decide) rfl
        have hP : va_P (dC, dI) classes [(om k0 a I0 J0), (oa (a 5) cI 201 st), (oa (a 6) cZ 201 tn), (oa (a 1) cI 201 kd), (oa (a 11) cI 201 mn), (oa (a 12) cI 8040 cx), (oa (a 13) cI 8040 cy), (oa (a 32) cI 8 q_4)] H := hP
        have hD : va_D A [(om k0 a I0 J0), (oa (a 5) cI 201 st), (oa (a 6) cZ 201 tn), (oa (a 1) cI 201 kd), (oa (a 11) cI 201 mn), (oa (a 12) cI 8040 cx), (oa (a 13) cI 8040 cy), (oa (a 32) cI 8 q_4)] := hD
        refine lv_if_ne (tgt := 59) hx hb dX11_done_49 (by decide) (fun c_5 => ?_) (fun c_5 => ?_)
        · have c_5 : mSm (kd f).toInt n (cF40 cx f) (cF40 cy f) := zp_1 c_5
          exact absurd ⟨by omega, by omega, by assumption⟩ hbad
        · have c_5 : ¬ (mSm (kd f).toInt n (cF40 cx f) (cF40 cy f)) := zp_0 c_5
          refine lv_aload_n hx hb dX11_done_52 rfl (lv_at hl 0 rfl) ?_
          refine lv_bipush (v := 6) hx hb dX11_done_53 (by decide) ?_
          have hPc := hP.sub (ws' := [(om k0 a I0 J0)]) [0] rfl
          have hDc := hD.sub (ws' := [(om k0 a I0 J0)]) [0] (by decide) rfl
          have hFc := va_free (wc := [(om k0 a I0 J0)]) hD hS hA [0] rfl
          refine zcall (st1 := [.int 0]) (va_runV (As := [.int 6]) (rest := []) ⟨hx, hb, hml, hown, hts⟩ (k_M_no l dC dI cI cZ cF H.size k0 a I0 J0 6 (by decide)) (cwV 1 hts (zz_gV mw_1353 mw_1355 mw_38 mw_110 mc_yX11_no) rfl rfl rfl (by decide +kernel) ⟨Nat.le_of_ble_eq_true rfl, Nat.le_of_ble_eq_true rfl⟩) (zPV2 (q0 := 0) (ci := 9) hPc hDc hK hXN rfl rfl) rfl rfl hl.1 rfl (lv_room (Nat.le_of_ble_eq_true rfl)) dX11_done_55 ⟨Nat.le_of_ble_eq_true rfl, Nat.le_of_ble_eq_true rfl⟩) hS hFc hFc rfl (fun t H1 locs ht hB hk1 hS => ?_)
          obtain ⟨hP1, hD1⟩ := hB
          rw [ht] at hP1
          obtain ⟨hP, hD⟩ := va_join (wr := [(oa (a 5) cI 201 st), (oa (a 6) cZ 201 tn), (oa (a 1) cI 201 kd), (oa (a 11) cI 201 mn), (oa (a 12) cI 8040 cx), (oa (a 13) cI 8040 cy), (oa (a 32) cI 8 q_4)]) (w1 := [(om k0 a (upd (upd I0 14 6) 15 (I0 15)) J0)]) hP hD [0] [1, 2, 3, 4, 5, 6, 7] rfl rfl (by decide) (by decide) hk1 hFc hP1 hD1
          clear hk1 hPc hDc hFc hP1 hD1 ht
          generalize H1 = H at hP hS ⊢
          have hP := hP.sub (ws' := [(om k0 a (upd (upd I0 14 6) 15 (I0 15)) J0), (oa (a 5) cI 201 st), (oa (a 6) cZ 201 tn), (oa (a 1) cI 201 kd), (oa (a 11) cI 201 mn), (oa (a 12) cI 8040 cx), (oa (a 13) cI 8040 cy), (oa (a 32) cI 8 q_4)]) [7, 0, 1, 2, 3, 4, 5, 6] rfl
          have hD := hD.sub (ws' := [(om k0 a (upd (upd I0 14 6) 15 (I0 15)) J0), (oa (a 5) cI 201 st), (oa (a 6) cZ 201 tn), (oa (a 1) cI 201 kd), (oa (a 11) cI 201 mn), (oa (a 12) cI 8040 cx), (oa (a 13) cI 8040 cy), (oa (a 32) cI 8 q_4)]) [7, 0, 1, 2, 3, 4, 5, 6] (by decide) rfl
          have hP : va_P (dC, dI) classes [(om k0 a (upd (upd I0 14 6) 15 (I0 15)) J0), (oa (a 5) cI 201 st), (oa (a 6) cZ 201 tn), (oa (a 1) cI 201 kd), (oa (a 11) cI 201 mn), (oa (a 12) cI 8040 cx), (oa (a 13) cI 8040 cy), (oa (a 32) cI 8 q_4)] H := hP
          have hD : va_D A [(om k0 a (upd (upd I0 14 6) 15 (I0 15)) J0), (oa (a 5) cI 201 st), (oa (a 6) cZ 201 tn), (oa (a 1) cI 201 kd), (oa (a 11) cI 201 mn), (oa (a 12) cI 8040 cx), (oa (a 13) cI 8040 cy), (oa (a 32) cI 8 q_4)] := hD
          have hP9 := hP.sub (ws' := [(om k0 a (upd (upd I0 14 6) 15 (I0 15)) J0), (oa (a 5) cI 201 st), (oa (a 6) cZ 201 tn), (oa (a 1) cI 201 kd), (oa (a 11) cI 201 mn), (oa (a 12) cI 8040 cx), (oa (a 13) cI 8040 cy), (oa (a 32) cI 8 q_4)]) [0, 1, 2, 3, 4, 5, 6, 7] rfl
          have hD9 := hD.sub (ws' := [(om k0 a (upd (upd I0 14 6) 15 (I0 15)) J0), (oa (a 5) cI 201 st), (oa (a 6) cZ 201 tn), (oa (a 1) cI 201 kd), (oa (a 11) cI 201 mn), (oa (a 12) cI 8040 cx), (oa (a 13) cI 8040 cy), (oa (a 32) cI 8 q_4)]) [0, 1, 2, 3, 4, 5, 6, 7] (by decide) rfl
          rw [hQ9]
          exact W.zret (ty := .boolean) (v := 0) hx hb hr (rfl) (fun t ht hW => ⟨⟨rfl, 6, q_4, by rw [ht]; exact hP9, hD9⟩, hS.F ht⟩) hS.2.2 dX11_done_58
      · have c_3 : ¬ (tn f).toInt = 0 := zc_ne rfl (by decide) c_3
        refine lv_aload_n hx hb dX11_done_38 rfl (lv_at hl 0 rfl) ?_
        refine lv_iconst (v := 5) hx hb dX11_done_39 (by decide) ?_
        have hPc := hP.sub (ws' := [(om k0 a I0 J0)]) [0] rfl
        have hDc := hD.sub (ws' := [(om k0 a I0 J0)]) [0] (by decide) rfl
        have hFc := va_free (wc := [(om k0 a I0 J0)]) hD hS hA [0] rfl
        refine zcall (st1 := [.int 0]) (va_runV (As := [.int 5]) (rest := []) ⟨hx, hb, hml, hown, hts⟩ (k_M_no l dC dI cI cZ cF H.size k0 a I0 J0 5 (by decide)) (cwV 1 hts (zz_gV mw_1353 mw_1355 mw_38 mw_110 mc_yX11_no) rfl rfl rfl (by decide +kernel) ⟨Nat.le_of_ble_eq_true rfl, Nat.le_of_ble_eq_true rfl⟩) (zPV2 (q0 := 0) (ci := 9) hPc hDc hK hXN rfl rfl) rfl rfl hl.1 rfl (lv_room (Nat.le_of_ble_eq_true rfl)) dX11_done_40 ⟨Nat.le_of_ble_eq_true rfl, Nat.le_of_ble_eq_true rfl⟩) hS hFc hFc rfl (fun t H1 locs ht hB hk1 hS => ?_)
        obtain ⟨hP1, hD1⟩ := hB
        rw [ht] at hP1
        obtain ⟨hP, hD⟩ := va_join (wr := [(oa (a 5) cI 201 st), (oa (a 6) cZ 201 tn), (oa (a 1) cI 201 kd), (oa (a 11) cI 201 mn), (oa (a 12) cI 8040 cx), (oa (a 13) cI 8040 cy), (oa (a 32) cI 8 S0)]) (w1 := [(om k0 a (upd (upd I0 14 5) 15 (I0 15)) J0)]) hP hD [0] [1, 2, 3, 4, 5, 6, 7] rfl rfl (by decide) (by decide) hk1 hFc hP1 hD1
        clear hk1 hPc hDc hFc hP1 hD1 ht
        generalize H1 = H at hP hS ⊢
        have hP := hP.sub (ws' := [(om k0 a (upd (upd I0 14 5) 15 (I0 15)) J0), (oa (a 5) cI 201 st), (oa (a 6) cZ 201 tn), (oa (a 1) cI 201 kd), (oa (a 11) cI 201 mn), (oa (a 12) cI 8040 cx), (oa (a 13) cI 8040 cy), (oa (a 32) cI 8 S0)]) [7, 0, 1, 2, 3, 4, 5, 6] rfl
        have hD := hD.sub (ws' := [(om k0 a (upd (upd I0 14 5) 15 (I0 15)) J0), (oa (a 5) cI 201 st), (oa (a 6) cZ 201 tn), (oa (a 1) cI 201 kd), (oa (a 11) cI 201 mn), (oa (a 12) cI 8040 cx), (oa (a 13) cI 8040 cy), (oa (a 32) cI 8 S0)]) [7, 0, 1, 2, 3, 4, 5, 6] (by decide) rfl
        have hP : va_P (dC, dI) classes [(om k0 a (upd (upd I0 14 5) 15 (I0 15)) J0), (oa (a 5) cI 201 st), (oa (a 6) cZ 201 tn), (oa (a 1) cI 201 kd), (oa (a 11) cI 201 mn), (oa (a 12) cI 8040 cx), (oa (a 13) cI 8040 cy), (oa (a 32) cI 8 S0)] H := hP
        have hD : va_D A [(om k0 a (upd (upd I0 14 5) 15 (I0 15)) J0), (oa (a 5) cI 201 st), (oa (a 6) cZ 201 tn), (oa (a 1) cI 201 kd), (oa (a 11) cI 201 mn), (oa (a 12) cI 8040 cx), (oa (a 13) cI 8040 cy), (oa (a 32) cI 8 S0)] := hD
        have hP9 := hP.sub (ws' := [(om k0 a (upd (upd I0 14 5) 15 (I0 15)) J0), (oa (a 5) cI 201 st), (oa (a 6) cZ 201 tn), (oa (a 1) cI 201 kd), (oa (a 11) cI 201 mn), (oa (a 12) cI 8040 cx), (oa (a 13) cI 8040 cy), (oa (a 32) cI 8 S0)]) [0, 1, 2, 3, 4, 5, 6, 7] rfl
        have hD9 := hD.sub (ws' := [(om k0 a (upd (upd I0 14 5) 15 (I0 15)) J0), (oa (a 5) cI 201 st), (oa (a 6) cZ 201 tn), (oa (a 1) cI 201 kd), (oa (a 11) cI 201 mn), (oa (a 12) cI 8040 cx), (oa (a 13) cI 8040 cy), (oa (a 32) cI 8 S0)]) [0, 1, 2, 3, 4, 5, 6, 7] (by decide) rfl
        rw [hQ9]
        exact W.zret (ty := .boolean) (v := 0) hx hb hr (rfl) (fun t ht hW => ⟨⟨rfl, 5, S0, by rw [ht]; exact hP9, hD9⟩, hS.F ht⟩) hS.2.2 dX11_done_43
    · have c_2 : ¬ (st f).toInt = 0 := zc_ne rfl (by decide) c_2
      refine lv_aload_n hx hb dX11_done_23 rfl (lv_at hl 0 rfl) ?_
      refine lv_iconst (v := 2) hx hb dX11_done_24 (by decide) ?_
      have hPc := hP.sub (ws' := [(om k0 a I0 J0)]) [0] rfl
      have hDc := hD.sub (ws' := [(om k0 a I0 J0)]) [0] (by decide) rfl
      have hFc := va_free (wc := [(om k0 a I0 J0)]) hD hS hA [0] rfl
      refine zcall (st1 := [.int 0]) (va_runV (As := [.int 2]) (rest := []) ⟨hx, hb, hml, hown, hts⟩ (k_M_no l dC dI cI cZ cF H.size k0 a I0 J0 2 (by decide)) (cwV 1 hts (zz_gV mw_1353 mw_1355 mw_38 mw_110 mc_yX11_no) rfl rfl rfl (by decide +kernel) ⟨Nat.le_of_ble_eq_true rfl, Nat.le_of_ble_eq_true rfl⟩) (zPV2 (q0 := 0) (ci := 9) hPc hDc hK hXN rfl rfl) rfl rfl hl.1 rfl (lv_room (Nat.le_of_ble_eq_true rfl)) dX11_done_25 ⟨Nat.le_of_ble_eq_true rfl, Nat.le_of_ble_eq_true rfl⟩) hS hFc hFc rfl (fun t H1 locs ht hB hk1 hS => ?_)
      obtain ⟨hP1, hD1⟩ := hB
      rw [ht] at hP1
      obtain ⟨hP, hD⟩ := va_join (wr := [(oa (a 5) cI 201 st), (oa (a 6) cZ 201 tn), (oa (a 1) cI 201 kd), (oa (a 11) cI 201 mn), (oa (a 12) cI 8040 cx), (oa (a 13) cI 8040 cy), (oa (a 32) cI 8 S0)]) (w1 := [(om k0 a (upd (upd I0 14 2) 15 (I0 15)) J0)]) hP hD [0] [1, 2, 3, 4, 5, 6, 7] rfl rfl (by decide) (by decide) hk1 hFc hP1 hD1
      clear hk1 hPc hDc hFc hP1 hD1 ht
      generalize H1 = H at hP hS ⊢
      have hP := hP.sub (ws' := [(om k0 a (upd (upd I0 14 2) 15 (I0 15)) J0), (oa (a 5) cI 201 st), (oa (a 6) cZ 201 tn), (oa (a 1) cI 201 kd), (oa (a 11) cI 201 mn), (oa (a 12) cI 8040 cx), (oa (a 13) cI 8040 cy), (oa (a 32) cI 8 S0)]) [7, 0, 1, 2, 3, 4, 5, 6] rfl
      have hD := hD.sub (ws' := [(om k0 a (upd (upd I0 14 2) 15 (I0 15)) J0), (oa (a 5) cI 201 st), (oa (a 6) cZ 201 tn), (oa (a 1) cI 201 kd), (oa (a 11) cI 201 mn), (oa (a 12) cI 8040 cx), (oa (a 13) cI 8040 cy), (oa (a 32) cI 8 S0)]) [7, 0, 1, 2, 3, 4, 5, 6] (by decide) rfl
      have hP : va_P (dC, dI) classes [(om k0 a (upd (upd I0 14 2) 15 (I0 15)) J0), (oa (a 5) cI 201 st), (oa (a 6) cZ 201 tn), (oa (a 1) cI 201 kd), (oa (a 11) cI 201 mn), (oa (a 12) cI 8040 cx), (oa (a 13) cI 8040 cy), (oa (a 32) cI 8 S0)] H := hP
      have hD : va_D A [(om k0 a (upd (upd I0 14 2) 15 (I0 15)) J0), (oa (a 5) cI 201 st), (oa (a 6) cZ 201 tn), (oa (a 1) cI 201 kd), (oa (a 11) cI 201 mn), (oa (a 12) cI 8040 cx), (oa (a 13) cI 8040 cy), (oa (a 32) cI 8 S0)] := hD
      have hP9 := hP.sub (ws' := [(om k0 a (upd (upd I0 14 2) 15 (I0 15)) J0), (oa (a 5) cI 201 st), (oa (a 6) cZ 201 tn), (oa (a 1) cI 201 kd), (oa (a 11) cI 201 mn), (oa (a 12) cI 8040 cx), (oa (a 13) cI 8040 cy), (oa (a 32) cI 8 S0)]) [0, 1, 2, 3, 4, 5, 6, 7] rfl
      have hD9 := hD.sub (ws' := [(om k0 a (upd (upd I0 14 2) 15 (I0 15)) J0), (oa (a 5) cI 201 st), (oa (a 6) cZ 201 tn), (oa (a 1) cI 201 kd), (oa (a 11) cI 201 mn), (oa (a 12) cI 8040 cx), (oa (a 13) cI 8040 cy), (oa (a 32) cI 8 S0)]) [0, 1, 2, 3, 4, 5, 6, 7] (by decide) rfl
      rw [hQ9]
      exact W.zret (ty := .boolean) (v := 0) hx hb hr (rfl) (fun t ht hW => ⟨⟨rfl, 2, S0, by rw [ht]; exact hP9, hD9⟩, hS.F ht⟩) hS.2.2 dX11_done_28
  · have c_1 : ¬ (f < ft) := zp_0 c_1
    exfalso; omega
set_option maxHeartbeats 4000000 in
set_option maxRecDepth 100000 in
theorem k_M_done_ok (l : Launch) (dC : Nat → ClassId) (dI : Nat → Nat → Nat) (cI cZ cF : ClassId) (sz : Nat) (k0 : Nat) (a : Nat → Nat) (I0 : Nat → Int32) (J0 : Nat → Int64) (f : Nat) (n : Nat) (ft : Nat) (st : Nat → Int32) (tn : Nat → Int32) (kd : Nat → Int32) (mn : Nat → Int32) (cx : Nat → Int32) (cy : Nat → Int32) (S0 : Nat → Int32) (sa : Nat → Int32) (hft : I0 0 = nI ft) (h200 : ft ≤ 200) (hf_t : f < ft) (hm_f : mn f = nI n) (hn_f : n ≤ 40) (hp_f : (st f).toInt = 0 → (tn f).toInt = 0 → pls n (cF40 cx f) (cF40 cy f)) (hgood : (st f).toInt = 0 ∧ (tn f).toInt = 0 ∧ mSm (kd f).toInt n (cF40 cx f) (cF40 cy f)) : Met l yX11_done (.code yX11_done cX11_done 2 (some .boolean) :: ws0) ({ frames := 5, cells := 0, slots := 0, locals := 131 } : Room) (va_Pc [.ref k0, .int (nI f)] (zPre (dC, dI) classes (zTy cI cZ cF) [(om k0 a I0 J0), (oa (a 5) cI 201 st), (oa (a 6) cZ 201 tn), (oa (a 1) cI 201 kd), (oa (a 11) cI 201 mn), (oa (a 12) cI 8040 cx), (oa (a 13) cI 8040 cy), (oa (a 32) cI 8 S0), (oa (a 27) cI 516 sa)] sz zXN)) (zQ (some (.int 1)) (fun t => ∃ (S1 : Nat → Int32), va_P (dC, dI) classes [(om k0 a (upd (upd (upd I0 14 0) 20 0) 21 (I0 19)) J0), (oa (a 5) cI 201 (upd st f 1)), (oa (a 6) cZ 201 tn), (oa (a 1) cI 201 kd), (oa (a 11) cI 201 mn), (oa (a 12) cI 8040 cx), (oa (a 13) cI 8040 cy), (oa (a 32) cI 8 S1), (oa (a 27) cI 516 (upd sa 0 0))] t.heap ∧ va_D (va_A [(om k0 a I0 J0), (oa (a 5) cI 201 st), (oa (a 6) cZ 201 tn), (oa (a 1) cI 201 kd), (oa (a 11) cI 201 mn), (oa (a 12) cI 8040 cx), (oa (a 13) cI 8040 cy), (oa (a 32) cI 8 S0), (oa (a 27) cI 516 sa)] sz) [(om k0 a (upd (upd (upd I0 14 0) 20 0) 21 (I0 19)) J0), (oa (a 5) cI 201 (upd st f 1)), (oa (a 6) cZ 201 tn), (oa (a 1) cI 201 kd), (oa (a 11) cI 201 mn), (oa (a 12) cI 8040 cx), (oa (a 13) cI 8040 cy), (oa (a 32) cI 8 S1), (oa (a 27) cI 516 (upd sa 0 0))]) (va_A [(om k0 a I0 J0), (oa (a 5) cI 201 st), (oa (a 6) cZ 201 tn), (oa (a 1) cI 201 kd), (oa (a 11) cI 201 mn), (oa (a 12) cI 8040 cx), (oa (a 13) cI 8040 cy), (oa (a 32) cI 8 S0), (oa (a 27) cI 516 sa)] sz)) 0 0 (va_A [(om k0 a I0 J0), (oa (a 5) cI 201 st), (oa (a 6) cZ 201 tn), (oa (a 1) cI 201 kd), (oa (a 11) cI 201 mn), (oa (a 12) cI 8040 cx), (oa (a 13) cI 8040 cy), (oa (a 32) cI 8 S0), (oa (a 27) cI 516 sa)] sz) := by
  refine Met.ofW (cc := cX11_done) (maxL := 2) (ret := (some .boolean)) (by decide) rfl ?_
  intro p e s m args below meth c s₁ B hml hv
  obtain ⟨rfl, hsz, hP, hK, hD0, hXN⟩ := hv
  have hx := B.exec
  have hb := B.bytes
  have hr := B.returns
  have hts0 := atoms_spec (ws := .code yX11_done cX11_done 2 (some .boolean) :: ws0) B.pre
  have hts : ∀ w9 ∈ ws0, w9.before ([.ref k0, .int (nI f)] : List Value).toArray s = true := fun w9 h => hts0 w9 (List.mem_cons_of_mem _ h)
  have hown : s.vm.findClass "ScaleShopModel" = some m.cls := findClass_of_methodNamed B.named
  have hlocks := B.notSynchronized
  subst hsz
  have hD := hD0.self (sz := s.heap.size)
  clear hD0
  generalize hAe : va_A [(om k0 a I0 J0), (oa (a 5) cI 201 st), (oa (a 6) cZ 201 tn), (oa (a 1) cI 201 kd), (oa (a 11) cI 201 mn), (oa (a 12) cI 8040 cx), (oa (a 13) cI 8040 cy), (oa (a 32) cI 8 S0), (oa (a 27) cI 516 sa)] s.heap.size = A at hD ⊢
  have hA : ∀ q : Nat, s.heap.size ≤ q → A q := fun q h => by rw [← hAe]; exact Or.inr h
  clear hAe
  have hS : va_S A s.heap s.heap [] := va_S.rf
  have hP : va_P (dC, dI) classes [(om k0 a I0 J0), (oa (a 5) cI 201 st), (oa (a 6) cZ 201 tn), (oa (a 1) cI 201 kd), (oa (a 11) cI 201 mn), (oa (a 12) cI 8040 cx), (oa (a 13) cI 8040 cy), (oa (a 32) cI 8 S0), (oa (a 27) cI 516 sa)] s.heap := hP
  obtain ⟨Q9, hQ9⟩ : ∃ Q9 : State → Prop, Q9 = MQ below (zQ (some (.int 1)) (fun t => ∃ (S1 : Nat → Int32), va_P (dC, dI) classes [(om k0 a (upd (upd (upd I0 14 0) 20 0) 21 (I0 19)) J0), (oa (a 5) cI 201 (upd st f 1)), (oa (a 6) cZ 201 tn), (oa (a 1) cI 201 kd), (oa (a 11) cI 201 mn), (oa (a 12) cI 8040 cx), (oa (a 13) cI 8040 cy), (oa (a 32) cI 8 S1), (oa (a 27) cI 516 (upd sa 0 0))] t.heap ∧ va_D A [(om k0 a (upd (upd (upd I0 14 0) 20 0) 21 (I0 19)) J0), (oa (a 5) cI 201 (upd st f 1)), (oa (a 6) cZ 201 tn), (oa (a 1) cI 201 kd), (oa (a 11) cI 201 mn), (oa (a 12) cI 8040 cx), (oa (a 13) cI 8040 cy), (oa (a 32) cI 8 S1), (oa (a 27) cI 516 (upd sa 0 0))]) A) ([.ref k0, .int (nI f)] : List Value).toArray s 0 0 A := ⟨_, rfl⟩
  rw [← hQ9]
  have hl := lv_entry ([.ref k0, .int (nI f)]) (n := 2) (Nat.le_of_ble_eq_true rfl)
  rw [lg_entry_eq]
  generalize (lg_sl ([.ref k0, .int (nI f)]) ++ List.replicate (2 - (lg_sl ([.ref k0, .int (nI f)])).length) Slot.unset).toArray = ls at hl ⊢
  have hl : lv_has ls 2 [(0, .ref k0), (1, .int (nI f))] := hl
  refine lv_aload_n hx hb dX11_done_0 rfl (lv_at hl 0 rfl) ?_
  refine lv_iload_n hx hb dX11_done_1 rfl (lv_at hl 1 rfl) ?_
  have hPc := hP.sub (ws' := [(om k0 a I0 J0)]) [0] rfl
  have hDc := hD.sub (ws' := [(om k0 a I0 J0)]) [0] (by decide) rfl
  have hFc := va_free (wc := [(om k0 a I0 J0)]) hD hS hA [0] rfl
  refine zcall (st1 := [.int (pI (f < ft))]) (va_runV (As := [.int (nI f)]) (rest := []) ⟨hx, hb, hml, hown, hts⟩ (k_M_isFeature_n l dC dI cI cZ cF s.heap.size k0 a I0 J0 f ft (by assumption) (by omega) (by omega)) (cwV 1 hts (zz_gV mw_1345 mw_1347 mw_37 mw_110 mc_yX11_isFeature) rfl rfl rfl (by decide +kernel) ⟨Nat.le_of_ble_eq_true rfl, Nat.le_of_ble_eq_true rfl⟩) (zPV2 (q0 := 0) (ci := 9) hPc hDc hK hXN rfl rfl) rfl rfl hl.1 rfl (lv_room (Nat.le_of_ble_eq_true rfl)) dX11_done_2 ⟨Nat.le_of_ble_eq_true rfl, Nat.le_of_ble_eq_true rfl⟩) hS hFc hFc rfl (fun t H1 locs ht hB hk1 hS => ?_)
  obtain ⟨hP1, hD1⟩ := hB
  rw [ht] at hP1
  obtain ⟨hP, hD⟩ := va_join (wr := [(oa (a 5) cI 201 st), (oa (a 6) cZ 201 tn), (oa (a 1) cI 201 kd), (oa (a 11) cI 201 mn), (oa (a 12) cI 8040 cx), (oa (a 13) cI 8040 cy), (oa (a 32) cI 8 S0), (oa (a 27) cI 516 sa)]) (w1 := [(om k0 a I0 J0)]) hP hD [0] [1, 2, 3, 4, 5, 6, 7, 8] rfl rfl (by decide) (by decide) hk1 hFc hP1 hD1
  clear hk1 hPc hDc hFc hP1 hD1 ht
  generalize H1 = H at hP hS ⊢
  have hP := hP.sub (ws' := [(om k0 a I0 J0), (oa (a 5) cI 201 st), (oa (a 6) cZ 201 tn), (oa (a 1) cI 201 kd), (oa (a 11) cI 201 mn), (oa (a 12) cI 8040 cx), (oa (a 13) cI 8040 cy), (oa (a 32) cI 8 S0), (oa (a 27) cI 516 sa)]) [8, 0, 1, 2, 3, 4, 5, 6, 7] rfl
  have hD := hD.sub (ws' := [(om k0 a I0 J0), (oa (a 5) cI 201 st), (oa (a 6) cZ 201 tn), (oa (a 1) cI 201 kd), (oa (a 11) cI 201 mn), (oa (a 12) cI 8040 cx), (oa (a 13) cI 8040 cy), (oa (a 32) cI 8 S0), (oa (a 27) cI 516 sa)]) [8, 0, 1, 2, 3, 4, 5, 6, 7] (by decide) rfl
  have hP : va_P (dC, dI) classes [(om k0 a I0 J0), (oa (a 5) cI 201 st), (oa (a 6) cZ 201 tn), (oa (a 1) cI 201 kd), (oa (a 11) cI 201 mn), (oa (a 12) cI 8040 cx), (oa (a 13) cI 8040 cy), (oa (a 32) cI 8 S0), (oa (a 27) cI 516 sa)] H := hP
  have hD : va_D A [(om k0 a I0 J0), (oa (a 5) cI 201 st), (oa (a 6) cZ 201 tn), (oa (a 1) cI 201 kd), (oa (a 11) cI 201 mn), (oa (a 12) cI 8040 cx), (oa (a 13) cI 8040 cy), (oa (a 32) cI 8 S0), (oa (a 27) cI 516 sa)] := hD
  refine lv_if_ne (tgt := 14) hx hb dX11_done_5 (by decide) (fun c_1 => ?_) (fun c_1 => ?_)
  · have c_1 : f < ft := zp_1 c_1
    refine lv_aload_n hx hb dX11_done_14 rfl (lv_at hl 0 rfl) ?_
    refine va_get (D := (dC, dI)) (ci := 9) (v := .ref (a 5)) (C := RX11) (T := TX11) (N := 55) hx hb hts inX11 hown hK hP 0 rfl rfl 5 (by decide) (hts _ mw_1164) (fun _ h9 => h9) rfl dX11_done_15 ?_
    refine lv_iload_n hx hb dX11_done_18 rfl (lv_at hl 1 rfl) ?_
    refine z_iald hx hb hK hP 1 0 rfl rfl (e := f) rfl (by omega) (by omega) dX11_done_19 ?_
    refine lv_if_eq (tgt := 29) hx hb dX11_done_20 (by decide) (fun c_2 => ?_) (fun c_2 => ?_)
    · have c_2 : (st f).toInt = 0 := zc_eq rfl (by decide) c_2
      refine lv_aload_n hx hb dX11_done_29 rfl (lv_at hl 0 rfl) ?_
      refine va_get (D := (dC, dI)) (ci := 9) (v := .ref (a 6)) (C := RX11) (T := TX11) (N := 55) hx hb hts inX11 hown hK hP 0 rfl rfl 6 (by decide) (hts _ mw_1165) (fun _ h9 => h9) rfl dX11_done_30 ?_
      refine lv_iload_n hx hb dX11_done_33 rfl (lv_at hl 1 rfl) ?_
      refine z_zald hx hb hK hP 2 1 rfl rfl (e := f) rfl (by omega) (by omega) dX11_done_34 ?_
      refine lv_if_eq (tgt := 44) hx hb dX11_done_35 (by decide) (fun c_3 => ?_) (fun c_3 => ?_)
      · have c_3 : (tn f).toInt = 0 := zc_eq rfl (by decide) c_3
        refine lv_aload_n hx hb dX11_done_44 rfl (lv_at hl 0 rfl) ?_
        refine lv_iload_n hx hb dX11_done_45 rfl (lv_at hl 1 rfl) ?_
        have hPc := hP.sub (ws' := [(om k0 a I0 J0), (oa (a 1) cI 201 kd), (oa (a 11) cI 201 mn), (oa (a 12) cI 8040 cx), (oa (a 13) cI 8040 cy), (oa (a 32) cI 8 S0)]) [0, 3, 4, 5, 6, 7] rfl
        have hDc := hD.sub (ws' := [(om k0 a I0 J0), (oa (a 1) cI 201 kd), (oa (a 11) cI 201 mn), (oa (a 12) cI 8040 cx), (oa (a 13) cI 8040 cy), (oa (a 32) cI 8 S0)]) [0, 3, 4, 5, 6, 7] (by decide) rfl
        have hFc := va_free (wc := [(om k0 a I0 J0), (oa (a 1) cI 201 kd), (oa (a 11) cI 201 mn), (oa (a 12) cI 8040 cx), (oa (a 13) cI 8040 cy), (oa (a 32) cI 8 S0)]) hD hS hA [0, 3, 4, 5, 6, 7] rfl
        refine zcall (st1 := [.int (pI (mSm (kd f).toInt n (cF40 cx f) (cF40 cy f)))]) (va_runV (As := [.int (nI f)]) (rest := []) ⟨hx, hb, hml, hown, hts⟩ (k_M_isSimple l dC dI cI cZ cF H.size k0 a I0 J0 f n kd mn cx cy S0 (by omega) (by assumption) (hp_f (by omega) (by omega)) (by omega)) (cwV 1 hts (zz_gV mw_1361 mw_1363 mw_39 mw_110 mc_yX11_isSimple) rfl rfl rfl (by decide +kernel) ⟨Nat.le_of_ble_eq_true rfl, Nat.le_of_ble_eq_true rfl⟩) (zPV2 (q0 := 0) (ci := 9) hPc hDc hK hXN rfl rfl) rfl rfl hl.1 rfl (lv_room (Nat.le_of_ble_eq_true rfl)) dX11_done_46 ⟨Nat.le_of_ble_eq_true rfl, Nat.le_of_ble_eq_true rfl⟩) hS hFc hFc rfl (fun t H1 locs ht hB hk1 hS => ?_)
        obtain ⟨q_4, hP1, hD1⟩ := hB
        rw [ht] at hP1
        obtain ⟨hP, hD⟩ := va_join (wr := [(oa (a 5) cI 201 st), (oa (a 6) cZ 201 tn), (oa (a 27) cI 516 sa)]) (w1 := [(om k0 a I0 J0), (oa (a 1) cI 201 kd), (oa (a 11) cI 201 mn), (oa (a 12) cI 8040 cx), (oa (a 13) cI 8040 cy), (oa (a 32) cI 8 q_4)]) hP hD [0, 3, 4, 5, 6, 7] [1, 2, 8] rfl rfl (by decide) (by decide) hk1 hFc hP1 hD1
        clear hk1 hPc hDc hFc hP1 hD1 ht
        generalize H1 = H at hP hS ⊢
        have hP := hP.sub (ws' := [(om k0 a I0 J0), (oa (a 5) cI 201 st), (oa (a 6) cZ 201 tn), (oa (a 1) cI 201 kd), (oa (a 11) cI 201 mn), (oa (a 12) cI 8040 cx), (oa (a 13) cI 8040 cy), (oa (a 32) cI 8 q_4), (oa (a 27) cI 516 sa)]) [3, 0, 1, 4, 5, 6, 7, 8, 2] rfl
        have hD := hD.sub (ws' := [(om k0 a I0 J0), (oa (a 5) cI 201 st), (oa (a 6) cZ 201 tn), (oa (a 1) cI 201 kd), (oa (a 11) cI 201 mn), (oa (a 12) cI 8040 cx), (oa (a 13) cI 8040 cy), (oa (a 32) cI 8 q_4), (oa (a 27) cI 516 sa)]) [3, 0, 1, 4, 5, 6, 7, 8, 2] (by decide) rfl
        have hP : va_P (dC, dI) classes [(om k0 a I0 J0), (oa (a 5) cI 201 st), (oa (a 6) cZ 201 tn), (oa (a 1) cI 201 kd), (oa (a 11) cI 201 mn), (oa (a 12) cI 8040 cx), (oa (a 13) cI 8040 cy), (oa (a 32) cI 8 q_4), (oa (a 27) cI 516 sa)] H := hP
        have hD : va_D A [(om k0 a I0 J0), (oa (a 5) cI 201 st), (oa (a 6) cZ 201 tn), (oa (a 1) cI 201 kd), (oa (a 11) cI 201 mn), (oa (a 12) cI 8040 cx), (oa (a 13) cI 8040 cy), (oa (a 32) cI 8 q_4), (oa (a 27) cI 516 sa)] := hD
        refine lv_if_ne (tgt := 59) hx hb dX11_done_49 (by decide) (fun c_5 => ?_) (fun c_5 => ?_)
        · have c_5 : mSm (kd f).toInt n (cF40 cx f) (cF40 cy f) := zp_1 c_5
          refine lv_aload_n hx hb dX11_done_59 rfl (lv_at hl 0 rfl) ?_
          refine va_get (D := (dC, dI)) (ci := 9) (v := .ref (a 5)) (C := RX11) (T := TX11) (N := 55) hx hb hts inX11 hown hK hP 0 rfl rfl 5 (by decide) (hts _ mw_1164) (fun _ h9 => h9) rfl dX11_done_60 ?_
          refine lv_iload_n hx hb dX11_done_63 rfl (lv_at hl 1 rfl) ?_
          refine lv_iconst (v := 1) hx hb dX11_done_64 (by decide) ?_
          refine z_iast hx hb hK hP hD hS 1 0 rfl rfl (e := f) (x := 1) rfl (by omega) (by omega) dX11_done_65 (fun H locs hP hD hS => ?_)
          have hP : va_P (dC, dI) classes [(om k0 a I0 J0), (oa (a 5) cI 201 (upd st f 1)), (oa (a 6) cZ 201 tn), (oa (a 1) cI 201 kd), (oa (a 11) cI 201 mn), (oa (a 12) cI 8040 cx), (oa (a 13) cI 8040 cy), (oa (a 32) cI 8 q_4), (oa (a 27) cI 516 sa)] H := hP
          have hD : va_D A [(om k0 a I0 J0), (oa (a 5) cI 201 (upd st f 1)), (oa (a 6) cZ 201 tn), (oa (a 1) cI 201 kd), (oa (a 11) cI 201 mn), (oa (a 12) cI 8040 cx), (oa (a 13) cI 8040 cy), (oa (a 32) cI 8 q_4), (oa (a 27) cI 516 sa)] := hD
          refine lv_aload_n hx hb dX11_done_66 rfl (lv_at hl 0 rfl) ?_
          have hPc := hP.sub (ws' := [(om k0 a I0 J0), (oa (a 27) cI 516 sa)]) [0, 8] rfl
          have hDc := hD.sub (ws' := [(om k0 a I0 J0), (oa (a 27) cI 516 sa)]) [0, 8] (by decide) rfl
          have hFc := va_free (wc := [(om k0 a I0 J0), (oa (a 27) cI 516 sa)]) hD hS hA [0, 8] rfl
          refine zcall (st1 := []) (va_runV (As := []) (rest := []) ⟨hx, hb, hml, hown, hts⟩ (k_M_settle l dC dI cI cZ cF H.size k0 a I0 J0 sa ) (cwV 0 hts (zz_gV mw_1337 mw_1339 mw_36 mw_110 mc_yX11_settle) rfl rfl rfl (by decide +kernel) ⟨Nat.le_of_ble_eq_true rfl, Nat.le_of_ble_eq_true rfl⟩) (zPV2 (q0 := 0) (ci := 9) hPc hDc hK hXN rfl rfl) rfl rfl hl.1 rfl (lv_room (Nat.le_of_ble_eq_true rfl)) dX11_done_67 ⟨Nat.le_of_ble_eq_true rfl, Nat.le_of_ble_eq_true rfl⟩) hS hFc hFc rfl (fun t H1 locs ht hB hk1 hS => ?_)
          obtain ⟨hP1, hD1⟩ := hB
          rw [ht] at hP1
          obtain ⟨hP, hD⟩ := va_join (wr := [(oa (a 5) cI 201 (upd st f 1)), (oa (a 6) cZ 201 tn), (oa (a 1) cI 201 kd), (oa (a 11) cI 201 mn), (oa (a 12) cI 8040 cx), (oa (a 13) cI 8040 cy), (oa (a 32) cI 8 q_4)]) (w1 := [(om k0 a (upd (upd I0 20 0) 21 (I0 19)) J0), (oa (a 27) cI 516 (upd sa 0 0))]) hP hD [0, 8] [1, 2, 3, 4, 5, 6, 7] rfl rfl (by decide) (by decide) hk1 hFc hP1 hD1
          clear hk1 hPc hDc hFc hP1 hD1 ht
          generalize H1 = H at hP hS ⊢
          have hP := hP.sub (ws' := [(om k0 a (upd (upd I0 20 0) 21 (I0 19)) J0), (oa (a 5) cI 201 (upd st f 1)), (oa (a 6) cZ 201 tn), (oa (a 1) cI 201 kd), (oa (a 11) cI 201 mn), (oa (a 12) cI 8040 cx), (oa (a 13) cI 8040 cy), (oa (a 32) cI 8 q_4), (oa (a 27) cI 516 (upd sa 0 0))]) [7, 0, 1, 2, 3, 4, 5, 6, 8] rfl
          have hD := hD.sub (ws' := [(om k0 a (upd (upd I0 20 0) 21 (I0 19)) J0), (oa (a 5) cI 201 (upd st f 1)), (oa (a 6) cZ 201 tn), (oa (a 1) cI 201 kd), (oa (a 11) cI 201 mn), (oa (a 12) cI 8040 cx), (oa (a 13) cI 8040 cy), (oa (a 32) cI 8 q_4), (oa (a 27) cI 516 (upd sa 0 0))]) [7, 0, 1, 2, 3, 4, 5, 6, 8] (by decide) rfl
          have hP : va_P (dC, dI) classes [(om k0 a (upd (upd I0 20 0) 21 (I0 19)) J0), (oa (a 5) cI 201 (upd st f 1)), (oa (a 6) cZ 201 tn), (oa (a 1) cI 201 kd), (oa (a 11) cI 201 mn), (oa (a 12) cI 8040 cx), (oa (a 13) cI 8040 cy), (oa (a 32) cI 8 q_4), (oa (a 27) cI 516 (upd sa 0 0))] H := hP
          have hD : va_D A [(om k0 a (upd (upd I0 20 0) 21 (I0 19)) J0), (oa (a 5) cI 201 (upd st f 1)), (oa (a 6) cZ 201 tn), (oa (a 1) cI 201 kd), (oa (a 11) cI 201 mn), (oa (a 12) cI 8040 cx), (oa (a 13) cI 8040 cy), (oa (a 32) cI 8 q_4), (oa (a 27) cI 516 (upd sa 0 0))] := hD
          refine lv_aload_n hx hb dX11_done_70 rfl (lv_at hl 0 rfl) ?_
          refine lv_iconst (v := 0) hx hb dX11_done_71 (by decide) ?_
          refine va_put (D := (dC, dI)) (ci := 9) (v := .int 0) (ty := .int) (C := RX11) (T := TX11) (N := 55) hx hb hts inX11 tyX11 tyX11_ok nmX11 hown hK hP hD hS 0 rfl rfl 14 (by decide) (hts _ mw_1173) (fun _ h9 => h9) rfl (by decide +kernel) rfl rfl (Nat.le_of_ble_eq_true rfl) dX11_done_72 (fun H locs hP hD hS => ?_)
          have hP : va_P (dC, dI) classes [(om k0 a (upd (upd (upd I0 14 0) 20 0) 21 (I0 19)) J0), (oa (a 5) cI 201 (upd st f 1)), (oa (a 6) cZ 201 tn), (oa (a 1) cI 201 kd), (oa (a 11) cI 201 mn), (oa (a 12) cI 8040 cx), (oa (a 13) cI 8040 cy), (oa (a 32) cI 8 q_4), (oa (a 27) cI 516 (upd sa 0 0))] H := hP
          have hD : va_D A [(om k0 a (upd (upd (upd I0 14 0) 20 0) 21 (I0 19)) J0), (oa (a 5) cI 201 (upd st f 1)), (oa (a 6) cZ 201 tn), (oa (a 1) cI 201 kd), (oa (a 11) cI 201 mn), (oa (a 12) cI 8040 cx), (oa (a 13) cI 8040 cy), (oa (a 32) cI 8 q_4), (oa (a 27) cI 516 (upd sa 0 0))] := hD
          refine lv_iconst (v := 1) hx hb dX11_done_75 (by decide) ?_
          have hP9 := hP.sub (ws' := [(om k0 a (upd (upd (upd I0 14 0) 20 0) 21 (I0 19)) J0), (oa (a 5) cI 201 (upd st f 1)), (oa (a 6) cZ 201 tn), (oa (a 1) cI 201 kd), (oa (a 11) cI 201 mn), (oa (a 12) cI 8040 cx), (oa (a 13) cI 8040 cy), (oa (a 32) cI 8 q_4), (oa (a 27) cI 516 (upd sa 0 0))]) [0, 1, 2, 3, 4, 5, 6, 7, 8] rfl
          have hD9 := hD.sub (ws' := [(om k0 a (upd (upd (upd I0 14 0) 20 0) 21 (I0 19)) J0), (oa (a 5) cI 201 (upd st f 1)), (oa (a 6) cZ 201 tn), (oa (a 1) cI 201 kd), (oa (a 11) cI 201 mn), (oa (a 12) cI 8040 cx), (oa (a 13) cI 8040 cy), (oa (a 32) cI 8 q_4), (oa (a 27) cI 516 (upd sa 0 0))]) [0, 1, 2, 3, 4, 5, 6, 7, 8] (by decide) rfl
          rw [hQ9]
          exact W.zret (ty := .boolean) (v := 1) hx hb hr (rfl) (fun t ht hW => ⟨⟨rfl, q_4, by rw [ht]; exact hP9, hD9⟩, hS.F ht⟩) hS.2.2 dX11_done_76
        · have c_5 : ¬ (mSm (kd f).toInt n (cF40 cx f) (cF40 cy f)) := zp_0 c_5
          exact absurd hgood.2.2 (by assumption)
      · have c_3 : ¬ (tn f).toInt = 0 := zc_ne rfl (by decide) c_3
        exact absurd hgood.2.1 (by omega)
    · have c_2 : ¬ (st f).toInt = 0 := zc_ne rfl (by decide) c_2
      exact absurd hgood.1 (by omega)
  · have c_1 : ¬ (f < ft) := zp_0 c_1
    exfalso; omega
