set_option maxHeartbeats 4000000 in
set_option maxRecDepth 100000 in
theorem k_M_plainer_r (l : Launch) (dC : Nat → ClassId) (dI : Nat → Nat → Nat) (cI cZ cF : ClassId) (sz : Nat) (k0 : Nat) (a : Nat → Nat) (I0 : Nat → Int32) (J0 : Nat → Int64) (f : Nat) (ft : Nat) (lim : Int32) (st : Nat → Int32) (tn : Nat → Int32) (kd : Nat → Int32) (hft : I0 0 = nI ft) (h200 : ft ≤ 200) (hf_t : f < ft) (hbad : ¬ ((st f).toInt = 1 ∧ (¬ (kd f).toInt = 0 ∧ ¬ (kd f).toInt = 6) ∧ 0 ≤ lim.toInt ∧ (tn f).toInt = 0)) : Met l yX11_plainer (.code yX11_plainer cX11_plainer 4 (some .int) :: ws0) ({ frames := 2, cells := 0, slots := 0, locals := 42 } : Room) (va_Pc [.ref k0, .int (nI f), .int lim] (zPre (dC, dI) classes (zTy cI cZ cF) [(om k0 a I0 J0), (oa (a 5) cI 201 st), (oa (a 6) cZ 201 tn), (oa (a 1) cI 201 kd)] sz zXN)) (zQ (some (.int (-1))) (fun t => ∃ (z9 : Int32), va_P (dC, dI) classes [(om k0 a (upd (upd I0 14 z9) 15 (I0 15)) J0), (oa (a 5) cI 201 st), (oa (a 6) cZ 201 tn), (oa (a 1) cI 201 kd)] t.heap ∧ va_D (va_A [(om k0 a I0 J0), (oa (a 5) cI 201 st), (oa (a 6) cZ 201 tn), (oa (a 1) cI 201 kd)] sz) [(om k0 a (upd (upd I0 14 z9) 15 (I0 15)) J0), (oa (a 5) cI 201 st), (oa (a 6) cZ 201 tn), (oa (a 1) cI 201 kd)]) (va_A [(om k0 a I0 J0), (oa (a 5) cI 201 st), (oa (a 6) cZ 201 tn), (oa (a 1) cI 201 kd)] sz)) 0 0 (va_A [(om k0 a I0 J0), (oa (a 5) cI 201 st), (oa (a 6) cZ 201 tn), (oa (a 1) cI 201 kd)] sz) := by
  refine Met.ofW (cc := cX11_plainer) (maxL := 4) (ret := (some .int)) (by decide) rfl ?_
  intro p e s m args below meth c s₁ B hml hv
  obtain ⟨rfl, hsz, hP, hK, hD0, hXN⟩ := hv
  have hx := B.exec
  have hb := B.bytes
  have hr := B.returns
  have hts0 := atoms_spec (ws := .code yX11_plainer cX11_plainer 4 (some .int) :: ws0) B.pre
  have hts : ∀ w9 ∈ ws0, w9.before ([.ref k0, .int (nI f), .int lim] : List Value).toArray s = true := fun w9 h => hts0 w9 (List.mem_cons_of_mem _ h)
  have hown : s.vm.findClass "ScaleShopModel" = some m.cls := findClass_of_methodNamed B.named
  have hlocks := B.notSynchronized
  subst hsz
  have hD := hD0.self (sz := s.heap.size)
  clear hD0
  generalize hAe : va_A [(om k0 a I0 J0), (oa (a 5) cI 201 st), (oa (a 6) cZ 201 tn), (oa (a 1) cI 201 kd)] s.heap.size = A at hD ⊢
  have hA : ∀ q : Nat, s.heap.size ≤ q → A q := fun q h => by rw [← hAe]; exact Or.inr h
  clear hAe
  have hS : va_S A s.heap s.heap [] := va_S.rf
  have hP : va_P (dC, dI) classes [(om k0 a I0 J0), (oa (a 5) cI 201 st), (oa (a 6) cZ 201 tn), (oa (a 1) cI 201 kd)] s.heap := hP
  obtain ⟨Q9, hQ9⟩ : ∃ Q9 : State → Prop, Q9 = MQ below (zQ (some (.int (-1))) (fun t => ∃ (z9 : Int32), va_P (dC, dI) classes [(om k0 a (upd (upd I0 14 z9) 15 (I0 15)) J0), (oa (a 5) cI 201 st), (oa (a 6) cZ 201 tn), (oa (a 1) cI 201 kd)] t.heap ∧ va_D A [(om k0 a (upd (upd I0 14 z9) 15 (I0 15)) J0), (oa (a 5) cI 201 st), (oa (a 6) cZ 201 tn), (oa (a 1) cI 201 kd)]) A) ([.ref k0, .int (nI f), .int lim] : List Value).toArray s 0 0 A := ⟨_, rfl⟩
  rw [← hQ9]
  have hl := lv_entry ([.ref k0, .int (nI f), .int lim]) (n := 4) (Nat.le_of_ble_eq_true rfl)
  rw [lg_entry_eq]
  generalize (lg_sl ([.ref k0, .int (nI f), .int lim]) ++ List.replicate (4 - (lg_sl ([.ref k0, .int (nI f), .int lim])).length) Slot.unset).toArray = ls at hl ⊢
  have hl : lv_has ls 4 [(0, .ref k0), (1, .int (nI f)), (2, .int lim)] := hl
  refine lv_aload_n hx hb dX11_plainer_0 rfl (lv_at hl 0 rfl) ?_
  refine lv_iload_n hx hb dX11_plainer_1 rfl (lv_at hl 1 rfl) ?_
  have hPc := hP.sub (ws' := [(om k0 a I0 J0), (oa (a 5) cI 201 st)]) [0, 1] rfl
  have hDc := hD.sub (ws' := [(om k0 a I0 J0), (oa (a 5) cI 201 st)]) [0, 1] (by decide) rfl
  have hFc := va_free (wc := [(om k0 a I0 J0), (oa (a 5) cI 201 st)]) hD hS hA [0, 1] rfl
  refine zcall (st1 := [.int (wrN (st f))]) (va_runV (As := [.int (nI f)]) (rest := []) ⟨hx, hb, hml, hown, hts⟩ (k_M_wrong l dC dI cI cZ cF s.heap.size k0 a I0 J0 f ft st (by assumption) (by omega) (by omega)) (cwV 1 hts (zz_gV mw_1407 mw_1409 mw_46 mw_110 mc_yX11_wrong) rfl rfl rfl (by decide +kernel) ⟨Nat.le_of_ble_eq_true rfl, Nat.le_of_ble_eq_true rfl⟩) (zPV2 (q0 := 0) (ci := 9) hPc hDc hK hXN rfl rfl) rfl rfl hl.1 rfl (lv_room (Nat.le_of_ble_eq_true rfl)) dX11_plainer_2 ⟨Nat.le_of_ble_eq_true rfl, Nat.le_of_ble_eq_true rfl⟩) hS hFc hFc rfl (fun t H1 locs ht hB hk1 hS => ?_)
  obtain ⟨hP1, hD1⟩ := hB
  rw [ht] at hP1
  obtain ⟨hP, hD⟩ := va_join (wr := [(oa (a 6) cZ 201 tn), (oa (a 1) cI 201 kd)]) (w1 := [(om k0 a I0 J0), (oa (a 5) cI 201 st)]) hP hD [0, 1] [2, 3] rfl rfl (by decide) (by decide) hk1 hFc hP1 hD1
  clear hk1 hPc hDc hFc hP1 hD1 ht
  generalize H1 = H at hP hS ⊢
  have hP := hP.sub (ws' := [(om k0 a I0 J0), (oa (a 5) cI 201 st), (oa (a 6) cZ 201 tn), (oa (a 1) cI 201 kd)]) [2, 3, 0, 1] rfl
  have hD := hD.sub (ws' := [(om k0 a I0 J0), (oa (a 5) cI 201 st), (oa (a 6) cZ 201 tn), (oa (a 1) cI 201 kd)]) [2, 3, 0, 1] (by decide) rfl
  have hP : va_P (dC, dI) classes [(om k0 a I0 J0), (oa (a 5) cI 201 st), (oa (a 6) cZ 201 tn), (oa (a 1) cI 201 kd)] H := hP
  have hD : va_D A [(om k0 a I0 J0), (oa (a 5) cI 201 st), (oa (a 6) cZ 201 tn), (oa (a 1) cI 201 kd)] := hD
  refine zz_i2 (wrN_s (st f)) (fun hs9 => ?_) (fun hs9 => ?_)
  · skip
    refine lv_istore_n (lv' := [(3, .int 0), (0, .ref k0), (1, .int (nI f)), (2, .int lim)]) hx hb dX11_plainer_5 rfl hl (by decide) rfl (fun ls hl => ?_)
    refine lv_iload_n hx hb dX11_plainer_6 rfl (lv_at hl 0 rfl) ?_
    refine lv_if_le (tgt := 14) hx hb dX11_plainer_7 (by decide) (fun c_1 => ?_) (fun c_1 => ?_)
    · refine lv_aload_n hx hb dX11_plainer_14 rfl (lv_at hl 1 rfl) ?_
      refine lv_iload_n hx hb dX11_plainer_15 rfl (lv_at hl 2 rfl) ?_
      have hPc := hP.sub (ws' := [(om k0 a I0 J0), (oa (a 1) cI 201 kd)]) [0, 3] rfl
      have hDc := hD.sub (ws' := [(om k0 a I0 J0), (oa (a 1) cI 201 kd)]) [0, 3] (by decide) rfl
      have hFc := va_free (wc := [(om k0 a I0 J0), (oa (a 1) cI 201 kd)]) hD hS hA [0, 3] rfl
      refine zcall (st1 := [.int (pI (¬ (kd f).toInt = 0 ∧ ¬ (kd f).toInt = 6))]) (va_runV (As := [.int (nI f)]) (rest := []) ⟨hx, hb, hml, hown, hts⟩ (k_M_isPlainable l dC dI cI cZ cF H.size k0 a I0 J0 f kd (by omega)) (cwV 1 hts (zz_gV mw_1411 mw_1413 mw_47 mw_110 mc_yX11_isPlainable) rfl rfl rfl (by decide +kernel) ⟨Nat.le_of_ble_eq_true rfl, Nat.le_of_ble_eq_true rfl⟩) (zPV2 (q0 := 0) (ci := 9) hPc hDc hK hXN rfl rfl) rfl rfl hl.1 rfl (lv_room (Nat.le_of_ble_eq_true rfl)) dX11_plainer_16 ⟨Nat.le_of_ble_eq_true rfl, Nat.le_of_ble_eq_true rfl⟩) hS hFc hFc rfl (fun t H1 locs ht hB hk1 hS => ?_)
      obtain ⟨hP1, hD1⟩ := hB
      rw [ht] at hP1
      obtain ⟨hP, hD⟩ := va_join (wr := [(oa (a 5) cI 201 st), (oa (a 6) cZ 201 tn)]) (w1 := [(om k0 a I0 J0), (oa (a 1) cI 201 kd)]) hP hD [0, 3] [1, 2] rfl rfl (by decide) (by decide) hk1 hFc hP1 hD1
      clear hk1 hPc hDc hFc hP1 hD1 ht
      generalize H1 = H at hP hS ⊢
      have hP := hP.sub (ws' := [(om k0 a I0 J0), (oa (a 5) cI 201 st), (oa (a 6) cZ 201 tn), (oa (a 1) cI 201 kd)]) [2, 0, 1, 3] rfl
      have hD := hD.sub (ws' := [(om k0 a I0 J0), (oa (a 5) cI 201 st), (oa (a 6) cZ 201 tn), (oa (a 1) cI 201 kd)]) [2, 0, 1, 3] (by decide) rfl
      have hP : va_P (dC, dI) classes [(om k0 a I0 J0), (oa (a 5) cI 201 st), (oa (a 6) cZ 201 tn), (oa (a 1) cI 201 kd)] H := hP
      have hD : va_D A [(om k0 a I0 J0), (oa (a 5) cI 201 st), (oa (a 6) cZ 201 tn), (oa (a 1) cI 201 kd)] := hD
      refine lv_if_ne (tgt := 26) hx hb dX11_plainer_19 (by decide) (fun c_2 => ?_) (fun c_2 => ?_)
      · have c_2 : ¬ (kd f).toInt = 0 ∧ ¬ (kd f).toInt = 6 := zp_1 c_2
        refine lv_iload_n hx hb dX11_plainer_26 rfl (lv_at hl 3 rfl) ?_
        refine lv_if_ge (tgt := 34) hx hb dX11_plainer_27 (by decide) (fun c_3 => ?_) (fun c_3 => ?_)
        · have c_3 : 0 ≤ lim.toInt := zc_le (by decide) rfl c_3
          refine lv_aload_n hx hb dX11_plainer_34 rfl (lv_at hl 1 rfl) ?_
          refine va_get (D := (dC, dI)) (ci := 9) (v := .ref (a 6)) (C := RX11) (T := TX11) (N := 55) hx hb hts inX11 hown hK hP 0 rfl rfl 6 (by decide) (hts _ mw_1165) (fun _ h9 => h9) rfl dX11_plainer_35 ?_
          refine lv_iload_n hx hb dX11_plainer_38 rfl (lv_at hl 2 rfl) ?_
          refine z_zald hx hb hK hP 2 1 rfl rfl (e := f) rfl (by omega) (by omega) dX11_plainer_39 ?_
          refine lv_if_eq (tgt := 47) hx hb dX11_plainer_40 (by decide) (fun c_4 => ?_) (fun c_4 => ?_)
          · have c_4 : (tn f).toInt = 0 := zc_eq rfl (by decide) c_4
            refine lv_iconst (v := 0) hx hb dX11_plainer_47 (by decide) ?_
            refine lv_istore_n (lv' := [(3, .int 0), (0, .ref k0), (1, .int (nI f)), (2, .int lim)]) hx hb dX11_plainer_48 rfl hl (by decide) rfl (fun ls hl => ?_)
            refine lv_iload_n hx hb dX11_plainer_49 rfl (lv_at hl 0 rfl) ?_
            refine lv_if_le (tgt := 59) hx hb dX11_plainer_50 (by decide) (fun c_5 => ?_) (fun c_5 => ?_)
            · exfalso; omega
            · exact absurd (by decide) c_5
          · have c_4 : ¬ (tn f).toInt = 0 := zc_ne rfl (by decide) c_4
            refine lv_iconst (v := 5) hx hb dX11_plainer_43 (by decide) ?_
            refine lv_goto (tgt := 48) hx hb dX11_plainer_44 (by decide) ?_
            refine lv_istore_n (lv' := [(3, .int 5), (0, .ref k0), (1, .int (nI f)), (2, .int lim)]) hx hb dX11_plainer_48 rfl hl (by decide) rfl (fun ls hl => ?_)
            refine lv_iload_n hx hb dX11_plainer_49 rfl (lv_at hl 0 rfl) ?_
            refine lv_if_le (tgt := 59) hx hb dX11_plainer_50 (by decide) (fun c_6 => ?_) (fun c_6 => ?_)
            · exact absurd c_6 (by decide)
            · refine lv_aload_n hx hb dX11_plainer_53 rfl (lv_at hl 1 rfl) ?_
              refine lv_iload_n hx hb dX11_plainer_54 rfl (lv_at hl 0 rfl) ?_
              have hPc := hP.sub (ws' := [(om k0 a I0 J0)]) [0] rfl
              have hDc := hD.sub (ws' := [(om k0 a I0 J0)]) [0] (by decide) rfl
              have hFc := va_free (wc := [(om k0 a I0 J0)]) hD hS hA [0] rfl
              refine zcall (st1 := [.int (-1)]) (va_runV (As := [.int 5]) (rest := []) ⟨hx, hb, hml, hown, hts⟩ (k_M_refuse l dC dI cI cZ cF H.size k0 a I0 J0 5 (by decide)) (cwV 1 hts (zz_gV mw_1329 mw_1331 mw_34 mw_110 mc_yX11_refuse) rfl rfl rfl (by decide +kernel) ⟨Nat.le_of_ble_eq_true rfl, Nat.le_of_ble_eq_true rfl⟩) (zPV2 (q0 := 0) (ci := 9) hPc hDc hK hXN rfl rfl) rfl rfl hl.1 rfl (lv_room (Nat.le_of_ble_eq_true rfl)) dX11_plainer_55 ⟨Nat.le_of_ble_eq_true rfl, Nat.le_of_ble_eq_true rfl⟩) hS hFc hFc rfl (fun t H1 locs ht hB hk1 hS => ?_)
              obtain ⟨hP1, hD1⟩ := hB
              rw [ht] at hP1
              obtain ⟨hP, hD⟩ := va_join (wr := [(oa (a 5) cI 201 st), (oa (a 6) cZ 201 tn), (oa (a 1) cI 201 kd)]) (w1 := [(om k0 a (upd (upd I0 14 5) 15 (I0 15)) J0)]) hP hD [0] [1, 2, 3] rfl rfl (by decide) (by decide) hk1 hFc hP1 hD1
              clear hk1 hPc hDc hFc hP1 hD1 ht
              generalize H1 = H at hP hS ⊢
              have hP := hP.sub (ws' := [(om k0 a (upd (upd I0 14 5) 15 (I0 15)) J0), (oa (a 5) cI 201 st), (oa (a 6) cZ 201 tn), (oa (a 1) cI 201 kd)]) [3, 0, 1, 2] rfl
              have hD := hD.sub (ws' := [(om k0 a (upd (upd I0 14 5) 15 (I0 15)) J0), (oa (a 5) cI 201 st), (oa (a 6) cZ 201 tn), (oa (a 1) cI 201 kd)]) [3, 0, 1, 2] (by decide) rfl
              have hP : va_P (dC, dI) classes [(om k0 a (upd (upd I0 14 5) 15 (I0 15)) J0), (oa (a 5) cI 201 st), (oa (a 6) cZ 201 tn), (oa (a 1) cI 201 kd)] H := hP
              have hD : va_D A [(om k0 a (upd (upd I0 14 5) 15 (I0 15)) J0), (oa (a 5) cI 201 st), (oa (a 6) cZ 201 tn), (oa (a 1) cI 201 kd)] := hD
              have hP9 := hP.sub (ws' := [(om k0 a (upd (upd I0 14 5) 15 (I0 15)) J0), (oa (a 5) cI 201 st), (oa (a 6) cZ 201 tn), (oa (a 1) cI 201 kd)]) [0, 1, 2, 3] rfl
              have hD9 := hD.sub (ws' := [(om k0 a (upd (upd I0 14 5) 15 (I0 15)) J0), (oa (a 5) cI 201 st), (oa (a 6) cZ 201 tn), (oa (a 1) cI 201 kd)]) [0, 1, 2, 3] (by decide) rfl
              rw [hQ9]
              exact W.iret (v := (-1)) hx hb hr (fun t ht hW => ⟨⟨rfl, 5, by rw [ht]; exact hP9, hD9⟩, hS.F ht⟩) hS.2.2 dX11_plainer_58
        · have c_3 : lim.toInt < 0 := zc_nle (by decide) rfl c_3
          refine lv_iconst (v := 4) hx hb dX11_plainer_30 (by decide) ?_
          refine lv_goto (tgt := 48) hx hb dX11_plainer_31 (by decide) ?_
          refine lv_istore_n (lv' := [(3, .int 4), (0, .ref k0), (1, .int (nI f)), (2, .int lim)]) hx hb dX11_plainer_48 rfl hl (by decide) rfl (fun ls hl => ?_)
          refine lv_iload_n hx hb dX11_plainer_49 rfl (lv_at hl 0 rfl) ?_
          refine lv_if_le (tgt := 59) hx hb dX11_plainer_50 (by decide) (fun c_7 => ?_) (fun c_7 => ?_)
          · exact absurd c_7 (by decide)
          · refine lv_aload_n hx hb dX11_plainer_53 rfl (lv_at hl 1 rfl) ?_
            refine lv_iload_n hx hb dX11_plainer_54 rfl (lv_at hl 0 rfl) ?_
            have hPc := hP.sub (ws' := [(om k0 a I0 J0)]) [0] rfl
            have hDc := hD.sub (ws' := [(om k0 a I0 J0)]) [0] (by decide) rfl
            have hFc := va_free (wc := [(om k0 a I0 J0)]) hD hS hA [0] rfl
            refine zcall (st1 := [.int (-1)]) (va_runV (As := [.int 4]) (rest := []) ⟨hx, hb, hml, hown, hts⟩ (k_M_refuse l dC dI cI cZ cF H.size k0 a I0 J0 4 (by decide)) (cwV 1 hts (zz_gV mw_1329 mw_1331 mw_34 mw_110 mc_yX11_refuse) rfl rfl rfl (by decide +kernel) ⟨Nat.le_of_ble_eq_true rfl, Nat.le_of_ble_eq_true rfl⟩) (zPV2 (q0 := 0) (ci := 9) hPc hDc hK hXN rfl rfl) rfl rfl hl.1 rfl (lv_room (Nat.le_of_ble_eq_true rfl)) dX11_plainer_55 ⟨Nat.le_of_ble_eq_true rfl, Nat.le_of_ble_eq_true rfl⟩) hS hFc hFc rfl (fun t H1 locs ht hB hk1 hS => ?_)
            obtain ⟨hP1, hD1⟩ := hB
            rw [ht] at hP1
            obtain ⟨hP, hD⟩ := va_join (wr := [(oa (a 5) cI 201 st), (oa (a 6) cZ 201 tn), (oa (a 1) cI 201 kd)]) (w1 := [(om k0 a (upd (upd I0 14 4) 15 (I0 15)) J0)]) hP hD [0] [1, 2, 3] rfl rfl (by decide) (by decide) hk1 hFc hP1 hD1
            clear hk1 hPc hDc hFc hP1 hD1 ht
            generalize H1 = H at hP hS ⊢
            have hP := hP.sub (ws' := [(om k0 a (upd (upd I0 14 4) 15 (I0 15)) J0), (oa (a 5) cI 201 st), (oa (a 6) cZ 201 tn), (oa (a 1) cI 201 kd)]) [3, 0, 1, 2] rfl
            have hD := hD.sub (ws' := [(om k0 a (upd (upd I0 14 4) 15 (I0 15)) J0), (oa (a 5) cI 201 st), (oa (a 6) cZ 201 tn), (oa (a 1) cI 201 kd)]) [3, 0, 1, 2] (by decide) rfl
            have hP : va_P (dC, dI) classes [(om k0 a (upd (upd I0 14 4) 15 (I0 15)) J0), (oa (a 5) cI 201 st), (oa (a 6) cZ 201 tn), (oa (a 1) cI 201 kd)] H := hP
            have hD : va_D A [(om k0 a (upd (upd I0 14 4) 15 (I0 15)) J0), (oa (a 5) cI 201 st), (oa (a 6) cZ 201 tn), (oa (a 1) cI 201 kd)] := hD
            have hP9 := hP.sub (ws' := [(om k0 a (upd (upd I0 14 4) 15 (I0 15)) J0), (oa (a 5) cI 201 st), (oa (a 6) cZ 201 tn), (oa (a 1) cI 201 kd)]) [0, 1, 2, 3] rfl
            have hD9 := hD.sub (ws' := [(om k0 a (upd (upd I0 14 4) 15 (I0 15)) J0), (oa (a 5) cI 201 st), (oa (a 6) cZ 201 tn), (oa (a 1) cI 201 kd)]) [0, 1, 2, 3] (by decide) rfl
            rw [hQ9]
            exact W.iret (v := (-1)) hx hb hr (fun t ht hW => ⟨⟨rfl, 4, by rw [ht]; exact hP9, hD9⟩, hS.F ht⟩) hS.2.2 dX11_plainer_58
      · have c_2 : ¬ (¬ (kd f).toInt = 0 ∧ ¬ (kd f).toInt = 6) := zp_0 c_2
        refine lv_iconst (v := 3) hx hb dX11_plainer_22 (by decide) ?_
        refine lv_goto (tgt := 48) hx hb dX11_plainer_23 (by decide) ?_
        refine lv_istore_n (lv' := [(3, .int 3), (0, .ref k0), (1, .int (nI f)), (2, .int lim)]) hx hb dX11_plainer_48 rfl hl (by decide) rfl (fun ls hl => ?_)
        refine lv_iload_n hx hb dX11_plainer_49 rfl (lv_at hl 0 rfl) ?_
        refine lv_if_le (tgt := 59) hx hb dX11_plainer_50 (by decide) (fun c_8 => ?_) (fun c_8 => ?_)
        · exact absurd c_8 (by decide)
        · refine lv_aload_n hx hb dX11_plainer_53 rfl (lv_at hl 1 rfl) ?_
          refine lv_iload_n hx hb dX11_plainer_54 rfl (lv_at hl 0 rfl) ?_
          have hPc := hP.sub (ws' := [(om k0 a I0 J0)]) [0] rfl
          have hDc := hD.sub (ws' := [(om k0 a I0 J0)]) [0] (by decide) rfl
          have hFc := va_free (wc := [(om k0 a I0 J0)]) hD hS hA [0] rfl
          refine zcall (st1 := [.int (-1)]) (va_runV (As := [.int 3]) (rest := []) ⟨hx, hb, hml, hown, hts⟩ (k_M_refuse l dC dI cI cZ cF H.size k0 a I0 J0 3 (by decide)) (cwV 1 hts (zz_gV mw_1329 mw_1331 mw_34 mw_110 mc_yX11_refuse) rfl rfl rfl (by decide +kernel) ⟨Nat.le_of_ble_eq_true rfl, Nat.le_of_ble_eq_true rfl⟩) (zPV2 (q0 := 0) (ci := 9) hPc hDc hK hXN rfl rfl) rfl rfl hl.1 rfl (lv_room (Nat.le_of_ble_eq_true rfl)) dX11_plainer_55 ⟨Nat.le_of_ble_eq_true rfl, Nat.le_of_ble_eq_true rfl⟩) hS hFc hFc rfl (fun t H1 locs ht hB hk1 hS => ?_)
          obtain ⟨hP1, hD1⟩ := hB
          rw [ht] at hP1
          obtain ⟨hP, hD⟩ := va_join (wr := [(oa (a 5) cI 201 st), (oa (a 6) cZ 201 tn), (oa (a 1) cI 201 kd)]) (w1 := [(om k0 a (upd (upd I0 14 3) 15 (I0 15)) J0)]) hP hD [0] [1, 2, 3] rfl rfl (by decide) (by decide) hk1 hFc hP1 hD1
          clear hk1 hPc hDc hFc hP1 hD1 ht
          generalize H1 = H at hP hS ⊢
          have hP := hP.sub (ws' := [(om k0 a (upd (upd I0 14 3) 15 (I0 15)) J0), (oa (a 5) cI 201 st), (oa (a 6) cZ 201 tn), (oa (a 1) cI 201 kd)]) [3, 0, 1, 2] rfl
          have hD := hD.sub (ws' := [(om k0 a (upd (upd I0 14 3) 15 (I0 15)) J0), (oa (a 5) cI 201 st), (oa (a 6) cZ 201 tn), (oa (a 1) cI 201 kd)]) [3, 0, 1, 2] (by decide) rfl
          have hP : va_P (dC, dI) classes [(om k0 a (upd (upd I0 14 3) 15 (I0 15)) J0), (oa (a 5) cI 201 st), (oa (a 6) cZ 201 tn), (oa (a 1) cI 201 kd)] H := hP
          have hD : va_D A [(om k0 a (upd (upd I0 14 3) 15 (I0 15)) J0), (oa (a 5) cI 201 st), (oa (a 6) cZ 201 tn), (oa (a 1) cI 201 kd)] := hD
          have hP9 := hP.sub (ws' := [(om k0 a (upd (upd I0 14 3) 15 (I0 15)) J0), (oa (a 5) cI 201 st), (oa (a 6) cZ 201 tn), (oa (a 1) cI 201 kd)]) [0, 1, 2, 3] rfl
          have hD9 := hD.sub (ws' := [(om k0 a (upd (upd I0 14 3) 15 (I0 15)) J0), (oa (a 5) cI 201 st), (oa (a 6) cZ 201 tn), (oa (a 1) cI 201 kd)]) [0, 1, 2, 3] (by decide) rfl
          rw [hQ9]
          exact W.iret (v := (-1)) hx hb hr (fun t ht hW => ⟨⟨rfl, 3, by rw [ht]; exact hP9, hD9⟩, hS.F ht⟩) hS.2.2 dX11_plainer_58
    · exact absurd (by decide) c_1
  · skip
    refine lv_istore_n (lv' := [(3, .int 2), (0, .ref k0), (1, .int (nI f)), (2, .int lim)]) hx hb dX11_plainer_5 rfl hl (by decide) rfl (fun ls hl => ?_)
    refine lv_iload_n hx hb dX11_plainer_6 rfl (lv_at hl 0 rfl) ?_
    refine lv_if_le (tgt := 14) hx hb dX11_plainer_7 (by decide) (fun c_9 => ?_) (fun c_9 => ?_)
    · exact absurd c_9 (by decide)
    · refine lv_iload_n hx hb dX11_plainer_10 rfl (lv_at hl 0 rfl) ?_
      refine lv_goto (tgt := 48) hx hb dX11_plainer_11 (by decide) ?_
      refine lv_istore_n (lv' := [(3, .int 2), (0, .ref k0), (1, .int (nI f)), (2, .int lim)]) hx hb dX11_plainer_48 rfl hl (by decide) rfl (fun ls hl => ?_)
      refine lv_iload_n hx hb dX11_plainer_49 rfl (lv_at hl 0 rfl) ?_
      refine lv_if_le (tgt := 59) hx hb dX11_plainer_50 (by decide) (fun c_10 => ?_) (fun c_10 => ?_)
      · exact absurd c_10 (by decide)
      · refine lv_aload_n hx hb dX11_plainer_53 rfl (lv_at hl 1 rfl) ?_
        refine lv_iload_n hx hb dX11_plainer_54 rfl (lv_at hl 0 rfl) ?_
        have hPc := hP.sub (ws' := [(om k0 a I0 J0)]) [0] rfl
        have hDc := hD.sub (ws' := [(om k0 a I0 J0)]) [0] (by decide) rfl
        have hFc := va_free (wc := [(om k0 a I0 J0)]) hD hS hA [0] rfl
        refine zcall (st1 := [.int (-1)]) (va_runV (As := [.int 2]) (rest := []) ⟨hx, hb, hml, hown, hts⟩ (k_M_refuse l dC dI cI cZ cF H.size k0 a I0 J0 2 (by decide)) (cwV 1 hts (zz_gV mw_1329 mw_1331 mw_34 mw_110 mc_yX11_refuse) rfl rfl rfl (by decide +kernel) ⟨Nat.le_of_ble_eq_true rfl, Nat.le_of_ble_eq_true rfl⟩) (zPV2 (q0 := 0) (ci := 9) hPc hDc hK hXN rfl rfl) rfl rfl hl.1 rfl (lv_room (Nat.le_of_ble_eq_true rfl)) dX11_plainer_55 ⟨Nat.le_of_ble_eq_true rfl, Nat.le_of_ble_eq_true rfl⟩) hS hFc hFc rfl (fun t H1 locs ht hB hk1 hS => ?_)
        obtain ⟨hP1, hD1⟩ := hB
        rw [ht] at hP1
        obtain ⟨hP, hD⟩ := va_join (wr := [(oa (a 5) cI 201 st), (oa (a 6) cZ 201 tn), (oa (a 1) cI 201 kd)]) (w1 := [(om k0 a (upd (upd I0 14 2) 15 (I0 15)) J0)]) hP hD [0] [1, 2, 3] rfl rfl (by decide) (by decide) hk1 hFc hP1 hD1
        clear hk1 hPc hDc hFc hP1 hD1 ht
        generalize H1 = H at hP hS ⊢
        have hP := hP.sub (ws' := [(om k0 a (upd (upd I0 14 2) 15 (I0 15)) J0), (oa (a 5) cI 201 st), (oa (a 6) cZ 201 tn), (oa (a 1) cI 201 kd)]) [3, 0, 1, 2] rfl
        have hD := hD.sub (ws' := [(om k0 a (upd (upd I0 14 2) 15 (I0 15)) J0), (oa (a 5) cI 201 st), (oa (a 6) cZ 201 tn), (oa (a 1) cI 201 kd)]) [3, 0, 1, 2] (by decide) rfl
        have hP : va_P (dC, dI) classes [(om k0 a (upd (upd I0 14 2) 15 (I0 15)) J0), (oa (a 5) cI 201 st), (oa (a 6) cZ 201 tn), (oa (a 1) cI 201 kd)] H := hP
        have hD : va_D A [(om k0 a (upd (upd I0 14 2) 15 (I0 15)) J0), (oa (a 5) cI 201 st), (oa (a 6) cZ 201 tn), (oa (a 1) cI 201 kd)] := hD
        have hP9 := hP.sub (ws' := [(om k0 a (upd (upd I0 14 2) 15 (I0 15)) J0), (oa (a 5) cI 201 st), (oa (a 6) cZ 201 tn), (oa (a 1) cI 201 kd)]) [0, 1, 2, 3] rfl
        have hD9 := hD.sub (ws' := [(om k0 a (upd (upd I0 14 2) 15 (I0 15)) J0), (oa (a 5) cI 201 st), (oa (a 6) cZ 201 tn), (oa (a 1) cI 201 kd)]) [0, 1, 2, 3] (by decide) rfl
        rw [hQ9]
        exact W.iret (v := (-1)) hx hb hr (fun t ht hW => ⟨⟨rfl, 2, by rw [ht]; exact hP9, hD9⟩, hS.F ht⟩) hS.2.2 dX11_plainer_58
set_option maxHeartbeats 4000000 in
set_option maxRecDepth 100000 in
theorem k_M_smooth_r (l : Launch) (dC : Nat → ClassId) (dI : Nat → Nat → Nat) (cI cZ cF : ClassId) (sz : Nat) (k0 : Nat) (a : Nat → Nat) (I0 : Nat → Int32) (J0 : Nat → Int64) (f : Nat) (ft : Nat) (st : Nat → Int32) (tn : Nat → Int32) (kd : Nat → Int32) (hft : I0 0 = nI ft) (h200 : ft ≤ 200) (hf_t : f < ft) (hbad : ¬ ((st f).toInt = 1 ∧ (¬ (kd f).toInt = 0 ∧ ¬ (kd f).toInt = 6) ∧ (tn f).toInt = 0)) : Met l yX11_smooth (.code yX11_smooth cX11_smooth 6 (some .boolean) :: ws0) ({ frames := 2, cells := 0, slots := 0, locals := 42 } : Room) (va_Pc [.ref k0, .int (nI f)] (zPre (dC, dI) classes (zTy cI cZ cF) [(om k0 a I0 J0), (oa (a 5) cI 201 st), (oa (a 6) cZ 201 tn), (oa (a 1) cI 201 kd)] sz zXN)) (zQ (some (.int 0)) (fun t => ∃ (z9 : Int32), va_P (dC, dI) classes [(om k0 a (upd (upd I0 14 z9) 15 (I0 15)) J0), (oa (a 5) cI 201 st), (oa (a 6) cZ 201 tn), (oa (a 1) cI 201 kd)] t.heap ∧ va_D (va_A [(om k0 a I0 J0), (oa (a 5) cI 201 st), (oa (a 6) cZ 201 tn), (oa (a 1) cI 201 kd)] sz) [(om k0 a (upd (upd I0 14 z9) 15 (I0 15)) J0), (oa (a 5) cI 201 st), (oa (a 6) cZ 201 tn), (oa (a 1) cI 201 kd)]) (va_A [(om k0 a I0 J0), (oa (a 5) cI 201 st), (oa (a 6) cZ 201 tn), (oa (a 1) cI 201 kd)] sz)) 0 0 (va_A [(om k0 a I0 J0), (oa (a 5) cI 201 st), (oa (a 6) cZ 201 tn), (oa (a 1) cI 201 kd)] sz) := by
  refine Met.ofW (cc := cX11_smooth) (maxL := 6) (ret := (some .boolean)) (by decide) rfl ?_
  intro p e s m args below meth c s₁ B hml hv
  obtain ⟨rfl, hsz, hP, hK, hD0, hXN⟩ := hv
  have hx := B.exec
  have hb := B.bytes
  have hr := B.returns
  have hts0 := atoms_spec (ws := .code yX11_smooth cX11_smooth 6 (some .boolean) :: ws0) B.pre
  have hts : ∀ w9 ∈ ws0, w9.before ([.ref k0, .int (nI f)] : List Value).toArray s = true := fun w9 h => hts0 w9 (List.mem_cons_of_mem _ h)
  have hown : s.vm.findClass "ScaleShopModel" = some m.cls := findClass_of_methodNamed B.named
  have hlocks := B.notSynchronized
  subst hsz
  have hD := hD0.self (sz := s.heap.size)
  clear hD0
  generalize hAe : va_A [(om k0 a I0 J0), (oa (a 5) cI 201 st), (oa (a 6) cZ 201 tn), (oa (a 1) cI 201 kd)] s.heap.size = A at hD ⊢
  have hA : ∀ q : Nat, s.heap.size ≤ q → A q := fun q h => by rw [← hAe]; exact Or.inr h
  clear hAe
  have hS : va_S A s.heap s.heap [] := va_S.rf
  have hP : va_P (dC, dI) classes [(om k0 a I0 J0), (oa (a 5) cI 201 st), (oa (a 6) cZ 201 tn), (oa (a 1) cI 201 kd)] s.heap := hP
  obtain ⟨Q9, hQ9⟩ : ∃ Q9 : State → Prop, Q9 = MQ below (zQ (some (.int 0)) (fun t => ∃ (z9 : Int32), va_P (dC, dI) classes [(om k0 a (upd (upd I0 14 z9) 15 (I0 15)) J0), (oa (a 5) cI 201 st), (oa (a 6) cZ 201 tn), (oa (a 1) cI 201 kd)] t.heap ∧ va_D A [(om k0 a (upd (upd I0 14 z9) 15 (I0 15)) J0), (oa (a 5) cI 201 st), (oa (a 6) cZ 201 tn), (oa (a 1) cI 201 kd)]) A) ([.ref k0, .int (nI f)] : List Value).toArray s 0 0 A := ⟨_, rfl⟩
  rw [← hQ9]
  have hl := lv_entry ([.ref k0, .int (nI f)]) (n := 6) (Nat.le_of_ble_eq_true rfl)
  rw [lg_entry_eq]
  generalize (lg_sl ([.ref k0, .int (nI f)]) ++ List.replicate (6 - (lg_sl ([.ref k0, .int (nI f)])).length) Slot.unset).toArray = ls at hl ⊢
  have hl : lv_has ls 6 [(0, .ref k0), (1, .int (nI f))] := hl
  refine lv_aload_n hx hb dX11_smooth_0 rfl (lv_at hl 0 rfl) ?_
  refine lv_iload_n hx hb dX11_smooth_1 rfl (lv_at hl 1 rfl) ?_
  have hPc := hP.sub (ws' := [(om k0 a I0 J0), (oa (a 5) cI 201 st)]) [0, 1] rfl
  have hDc := hD.sub (ws' := [(om k0 a I0 J0), (oa (a 5) cI 201 st)]) [0, 1] (by decide) rfl
  have hFc := va_free (wc := [(om k0 a I0 J0), (oa (a 5) cI 201 st)]) hD hS hA [0, 1] rfl
  refine zcall (st1 := [.int (wrN (st f))]) (va_runV (As := [.int (nI f)]) (rest := []) ⟨hx, hb, hml, hown, hts⟩ (k_M_wrong l dC dI cI cZ cF s.heap.size k0 a I0 J0 f ft st (by assumption) (by omega) (by omega)) (cwV 1 hts (zz_gV mw_1407 mw_1409 mw_46 mw_110 mc_yX11_wrong) rfl rfl rfl (by decide +kernel) ⟨Nat.le_of_ble_eq_true rfl, Nat.le_of_ble_eq_true rfl⟩) (zPV2 (q0 := 0) (ci := 9) hPc hDc hK hXN rfl rfl) rfl rfl hl.1 rfl (lv_room (Nat.le_of_ble_eq_true rfl)) dX11_smooth_2 ⟨Nat.le_of_ble_eq_true rfl, Nat.le_of_ble_eq_true rfl⟩) hS hFc hFc rfl (fun t H1 locs ht hB hk1 hS => ?_)
  obtain ⟨hP1, hD1⟩ := hB
  rw [ht] at hP1
  obtain ⟨hP, hD⟩ := va_join (wr := [(oa (a 6) cZ 201 tn), (oa (a 1) cI 201 kd)]) (w1 := [(om k0 a I0 J0), (oa (a 5) cI 201 st)]) hP hD [0, 1] [2, 3] rfl rfl (by decide) (by decide) hk1 hFc hP1 hD1
  clear hk1 hPc hDc hFc hP1 hD1 ht
  generalize H1 = H at hP hS ⊢
  have hP := hP.sub (ws' := [(om k0 a I0 J0), (oa (a 5) cI 201 st), (oa (a 6) cZ 201 tn), (oa (a 1) cI 201 kd)]) [2, 3, 0, 1] rfl
  have hD := hD.sub (ws' := [(om k0 a I0 J0), (oa (a 5) cI 201 st), (oa (a 6) cZ 201 tn), (oa (a 1) cI 201 kd)]) [2, 3, 0, 1] (by decide) rfl
  have hP : va_P (dC, dI) classes [(om k0 a I0 J0), (oa (a 5) cI 201 st), (oa (a 6) cZ 201 tn), (oa (a 1) cI 201 kd)] H := hP
  have hD : va_D A [(om k0 a I0 J0), (oa (a 5) cI 201 st), (oa (a 6) cZ 201 tn), (oa (a 1) cI 201 kd)] := hD
  refine zz_i2 (wrN_s (st f)) (fun hs9 => ?_) (fun hs9 => ?_)
  · skip
    refine lv_istore_n (lv' := [(2, .int 0), (0, .ref k0), (1, .int (nI f))]) hx hb dX11_smooth_5 rfl hl (by decide) rfl (fun ls hl => ?_)
    refine lv_iload_n hx hb dX11_smooth_6 rfl (lv_at hl 0 rfl) ?_
    refine lv_if_le (tgt := 14) hx hb dX11_smooth_7 (by decide) (fun c_1 => ?_) (fun c_1 => ?_)
    · refine lv_aload_n hx hb dX11_smooth_14 rfl (lv_at hl 1 rfl) ?_
      refine lv_iload_n hx hb dX11_smooth_15 rfl (lv_at hl 2 rfl) ?_
      have hPc := hP.sub (ws' := [(om k0 a I0 J0), (oa (a 1) cI 201 kd)]) [0, 3] rfl
      have hDc := hD.sub (ws' := [(om k0 a I0 J0), (oa (a 1) cI 201 kd)]) [0, 3] (by decide) rfl
      have hFc := va_free (wc := [(om k0 a I0 J0), (oa (a 1) cI 201 kd)]) hD hS hA [0, 3] rfl
      refine zcall (st1 := [.int (pI (¬ (kd f).toInt = 0 ∧ ¬ (kd f).toInt = 6))]) (va_runV (As := [.int (nI f)]) (rest := []) ⟨hx, hb, hml, hown, hts⟩ (k_M_isPlainable l dC dI cI cZ cF H.size k0 a I0 J0 f kd (by omega)) (cwV 1 hts (zz_gV mw_1411 mw_1413 mw_47 mw_110 mc_yX11_isPlainable) rfl rfl rfl (by decide +kernel) ⟨Nat.le_of_ble_eq_true rfl, Nat.le_of_ble_eq_true rfl⟩) (zPV2 (q0 := 0) (ci := 9) hPc hDc hK hXN rfl rfl) rfl rfl hl.1 rfl (lv_room (Nat.le_of_ble_eq_true rfl)) dX11_smooth_16 ⟨Nat.le_of_ble_eq_true rfl, Nat.le_of_ble_eq_true rfl⟩) hS hFc hFc rfl (fun t H1 locs ht hB hk1 hS => ?_)
      obtain ⟨hP1, hD1⟩ := hB
      rw [ht] at hP1
      obtain ⟨hP, hD⟩ := va_join (wr := [(oa (a 5) cI 201 st), (oa (a 6) cZ 201 tn)]) (w1 := [(om k0 a I0 J0), (oa (a 1) cI 201 kd)]) hP hD [0, 3] [1, 2] rfl rfl (by decide) (by decide) hk1 hFc hP1 hD1
      clear hk1 hPc hDc hFc hP1 hD1 ht
      generalize H1 = H at hP hS ⊢
      have hP := hP.sub (ws' := [(om k0 a I0 J0), (oa (a 5) cI 201 st), (oa (a 6) cZ 201 tn), (oa (a 1) cI 201 kd)]) [2, 0, 1, 3] rfl
      have hD := hD.sub (ws' := [(om k0 a I0 J0), (oa (a 5) cI 201 st), (oa (a 6) cZ 201 tn), (oa (a 1) cI 201 kd)]) [2, 0, 1, 3] (by decide) rfl
      have hP : va_P (dC, dI) classes [(om k0 a I0 J0), (oa (a 5) cI 201 st), (oa (a 6) cZ 201 tn), (oa (a 1) cI 201 kd)] H := hP
      have hD : va_D A [(om k0 a I0 J0), (oa (a 5) cI 201 st), (oa (a 6) cZ 201 tn), (oa (a 1) cI 201 kd)] := hD
      refine lv_if_ne (tgt := 26) hx hb dX11_smooth_19 (by decide) (fun c_2 => ?_) (fun c_2 => ?_)
      · have c_2 : ¬ (kd f).toInt = 0 ∧ ¬ (kd f).toInt = 6 := zp_1 c_2
        refine lv_aload_n hx hb dX11_smooth_26 rfl (lv_at hl 1 rfl) ?_
        refine va_get (D := (dC, dI)) (ci := 9) (v := .ref (a 6)) (C := RX11) (T := TX11) (N := 55) hx hb hts inX11 hown hK hP 0 rfl rfl 6 (by decide) (hts _ mw_1165) (fun _ h9 => h9) rfl dX11_smooth_27 ?_
        refine lv_iload_n hx hb dX11_smooth_30 rfl (lv_at hl 2 rfl) ?_
        refine z_zald hx hb hK hP 2 1 rfl rfl (e := f) rfl (by omega) (by omega) dX11_smooth_31 ?_
        refine lv_if_eq (tgt := 39) hx hb dX11_smooth_32 (by decide) (fun c_3 => ?_) (fun c_3 => ?_)
        · have c_3 : (tn f).toInt = 0 := zc_eq rfl (by decide) c_3
          refine lv_iconst (v := 0) hx hb dX11_smooth_39 (by decide) ?_
          refine lv_istore_n (lv' := [(2, .int 0), (0, .ref k0), (1, .int (nI f))]) hx hb dX11_smooth_40 rfl hl (by decide) rfl (fun ls hl => ?_)
          refine lv_iload_n hx hb dX11_smooth_41 rfl (lv_at hl 0 rfl) ?_
          refine lv_if_le (tgt := 51) hx hb dX11_smooth_42 (by decide) (fun c_4 => ?_) (fun c_4 => ?_)
          · exfalso; omega
          · exact absurd (by decide) c_4
        · have c_3 : ¬ (tn f).toInt = 0 := zc_ne rfl (by decide) c_3
          refine lv_iconst (v := 5) hx hb dX11_smooth_35 (by decide) ?_
          refine lv_goto (tgt := 40) hx hb dX11_smooth_36 (by decide) ?_
          refine lv_istore_n (lv' := [(2, .int 5), (0, .ref k0), (1, .int (nI f))]) hx hb dX11_smooth_40 rfl hl (by decide) rfl (fun ls hl => ?_)
          refine lv_iload_n hx hb dX11_smooth_41 rfl (lv_at hl 0 rfl) ?_
          refine lv_if_le (tgt := 51) hx hb dX11_smooth_42 (by decide) (fun c_5 => ?_) (fun c_5 => ?_)
          · exact absurd c_5 (by decide)
          · refine lv_aload_n hx hb dX11_smooth_45 rfl (lv_at hl 1 rfl) ?_
            refine lv_iload_n hx hb dX11_smooth_46 rfl (lv_at hl 0 rfl) ?_
            have hPc := hP.sub (ws' := [(om k0 a I0 J0)]) [0] rfl
            have hDc := hD.sub (ws' := [(om k0 a I0 J0)]) [0] (by decide) rfl
            have hFc := va_free (wc := [(om k0 a I0 J0)]) hD hS hA [0] rfl
            refine zcall (st1 := [.int 0]) (va_runV (As := [.int 5]) (rest := []) ⟨hx, hb, hml, hown, hts⟩ (k_M_no l dC dI cI cZ cF H.size k0 a I0 J0 5 (by decide)) (cwV 1 hts (zz_gV mw_1353 mw_1355 mw_38 mw_110 mc_yX11_no) rfl rfl rfl (by decide +kernel) ⟨Nat.le_of_ble_eq_true rfl, Nat.le_of_ble_eq_true rfl⟩) (zPV2 (q0 := 0) (ci := 9) hPc hDc hK hXN rfl rfl) rfl rfl hl.1 rfl (lv_room (Nat.le_of_ble_eq_true rfl)) dX11_smooth_47 ⟨Nat.le_of_ble_eq_true rfl, Nat.le_of_ble_eq_true rfl⟩) hS hFc hFc rfl (fun t H1 locs ht hB hk1 hS => ?_)
            obtain ⟨hP1, hD1⟩ := hB
            rw [ht] at hP1
            obtain ⟨hP, hD⟩ := va_join (wr := [(oa (a 5) cI 201 st), (oa (a 6) cZ 201 tn), (oa (a 1) cI 201 kd)]) (w1 := [(om k0 a (upd (upd I0 14 5) 15 (I0 15)) J0)]) hP hD [0] [1, 2, 3] rfl rfl (by decide) (by decide) hk1 hFc hP1 hD1
            clear hk1 hPc hDc hFc hP1 hD1 ht
            generalize H1 = H at hP hS ⊢
            have hP := hP.sub (ws' := [(om k0 a (upd (upd I0 14 5) 15 (I0 15)) J0), (oa (a 5) cI 201 st), (oa (a 6) cZ 201 tn), (oa (a 1) cI 201 kd)]) [3, 0, 1, 2] rfl
            have hD := hD.sub (ws' := [(om k0 a (upd (upd I0 14 5) 15 (I0 15)) J0), (oa (a 5) cI 201 st), (oa (a 6) cZ 201 tn), (oa (a 1) cI 201 kd)]) [3, 0, 1, 2] (by decide) rfl
            have hP : va_P (dC, dI) classes [(om k0 a (upd (upd I0 14 5) 15 (I0 15)) J0), (oa (a 5) cI 201 st), (oa (a 6) cZ 201 tn), (oa (a 1) cI 201 kd)] H := hP
            have hD : va_D A [(om k0 a (upd (upd I0 14 5) 15 (I0 15)) J0), (oa (a 5) cI 201 st), (oa (a 6) cZ 201 tn), (oa (a 1) cI 201 kd)] := hD
            have hP9 := hP.sub (ws' := [(om k0 a (upd (upd I0 14 5) 15 (I0 15)) J0), (oa (a 5) cI 201 st), (oa (a 6) cZ 201 tn), (oa (a 1) cI 201 kd)]) [0, 1, 2, 3] rfl
            have hD9 := hD.sub (ws' := [(om k0 a (upd (upd I0 14 5) 15 (I0 15)) J0), (oa (a 5) cI 201 st), (oa (a 6) cZ 201 tn), (oa (a 1) cI 201 kd)]) [0, 1, 2, 3] (by decide) rfl
            rw [hQ9]
            exact W.zret (ty := .boolean) (v := 0) hx hb hr (rfl) (fun t ht hW => ⟨⟨rfl, 5, by rw [ht]; exact hP9, hD9⟩, hS.F ht⟩) hS.2.2 dX11_smooth_50
      · have c_2 : ¬ (¬ (kd f).toInt = 0 ∧ ¬ (kd f).toInt = 6) := zp_0 c_2
        refine lv_iconst (v := 3) hx hb dX11_smooth_22 (by decide) ?_
        refine lv_goto (tgt := 40) hx hb dX11_smooth_23 (by decide) ?_
        refine lv_istore_n (lv' := [(2, .int 3), (0, .ref k0), (1, .int (nI f))]) hx hb dX11_smooth_40 rfl hl (by decide) rfl (fun ls hl => ?_)
        refine lv_iload_n hx hb dX11_smooth_41 rfl (lv_at hl 0 rfl) ?_
        refine lv_if_le (tgt := 51) hx hb dX11_smooth_42 (by decide) (fun c_6 => ?_) (fun c_6 => ?_)
        · exact absurd c_6 (by decide)
        · refine lv_aload_n hx hb dX11_smooth_45 rfl (lv_at hl 1 rfl) ?_
          refine lv_iload_n hx hb dX11_smooth_46 rfl (lv_at hl 0 rfl) ?_
          have hPc := hP.sub (ws' := [(om k0 a I0 J0)]) [0] rfl
          have hDc := hD.sub (ws' := [(om k0 a I0 J0)]) [0] (by decide) rfl
          have hFc := va_free (wc := [(om k0 a I0 J0)]) hD hS hA [0] rfl
          refine zcall (st1 := [.int 0]) (va_runV (As := [.int 3]) (rest := []) ⟨hx, hb, hml, hown, hts⟩ (k_M_no l dC dI cI cZ cF H.size k0 a I0 J0 3 (by decide)) (cwV 1 hts (zz_gV mw_1353 mw_1355 mw_38 mw_110 mc_yX11_no) rfl rfl rfl (by decide +kernel) ⟨Nat.le_of_ble_eq_true rfl, Nat.le_of_ble_eq_true rfl⟩) (zPV2 (q0 := 0) (ci := 9) hPc hDc hK hXN rfl rfl) rfl rfl hl.1 rfl (lv_room (Nat.le_of_ble_eq_true rfl)) dX11_smooth_47 ⟨Nat.le_of_ble_eq_true rfl, Nat.le_of_ble_eq_true rfl⟩) hS hFc hFc rfl (fun t H1 locs ht hB hk1 hS => ?_)
          obtain ⟨hP1, hD1⟩ := hB
          rw [ht] at hP1
          obtain ⟨hP, hD⟩ := va_join (wr := [(oa (a 5) cI 201 st), (oa (a 6) cZ 201 tn), (oa (a 1) cI 201 kd)]) (w1 := [(om k0 a (upd (upd I0 14 3) 15 (I0 15)) J0)]) hP hD [0] [1, 2, 3] rfl rfl (by decide) (by decide) hk1 hFc hP1 hD1
          clear hk1 hPc hDc hFc hP1 hD1 ht
          generalize H1 = H at hP hS ⊢
          have hP := hP.sub (ws' := [(om k0 a (upd (upd I0 14 3) 15 (I0 15)) J0), (oa (a 5) cI 201 st), (oa (a 6) cZ 201 tn), (oa (a 1) cI 201 kd)]) [3, 0, 1, 2] rfl
          have hD := hD.sub (ws' := [(om k0 a (upd (upd I0 14 3) 15 (I0 15)) J0), (oa (a 5) cI 201 st), (oa (a 6) cZ 201 tn), (oa (a 1) cI 201 kd)]) [3, 0, 1, 2] (by decide) rfl
          have hP : va_P (dC, dI) classes [(om k0 a (upd (upd I0 14 3) 15 (I0 15)) J0), (oa (a 5) cI 201 st), (oa (a 6) cZ 201 tn), (oa (a 1) cI 201 kd)] H := hP
          have hD : va_D A [(om k0 a (upd (upd I0 14 3) 15 (I0 15)) J0), (oa (a 5) cI 201 st), (oa (a 6) cZ 201 tn), (oa (a 1) cI 201 kd)] := hD
          have hP9 := hP.sub (ws' := [(om k0 a (upd (upd I0 14 3) 15 (I0 15)) J0), (oa (a 5) cI 201 st), (oa (a 6) cZ 201 tn), (oa (a 1) cI 201 kd)]) [0, 1, 2, 3] rfl
          have hD9 := hD.sub (ws' := [(om k0 a (upd (upd I0 14 3) 15 (I0 15)) J0), (oa (a 5) cI 201 st), (oa (a 6) cZ 201 tn), (oa (a 1) cI 201 kd)]) [0, 1, 2, 3] (by decide) rfl
          rw [hQ9]
          exact W.zret (ty := .boolean) (v := 0) hx hb hr (rfl) (fun t ht hW => ⟨⟨rfl, 3, by rw [ht]; exact hP9, hD9⟩, hS.F ht⟩) hS.2.2 dX11_smooth_50
    · exact absurd (by decide) c_1
  · skip
    refine lv_istore_n (lv' := [(2, .int 2), (0, .ref k0), (1, .int (nI f))]) hx hb dX11_smooth_5 rfl hl (by decide) rfl (fun ls hl => ?_)
    refine lv_iload_n hx hb dX11_smooth_6 rfl (lv_at hl 0 rfl) ?_
    refine lv_if_le (tgt := 14) hx hb dX11_smooth_7 (by decide) (fun c_7 => ?_) (fun c_7 => ?_)
    · exact absurd c_7 (by decide)
    · refine lv_iload_n hx hb dX11_smooth_10 rfl (lv_at hl 0 rfl) ?_
      refine lv_goto (tgt := 40) hx hb dX11_smooth_11 (by decide) ?_
      refine lv_istore_n (lv' := [(2, .int 2), (0, .ref k0), (1, .int (nI f))]) hx hb dX11_smooth_40 rfl hl (by decide) rfl (fun ls hl => ?_)
      refine lv_iload_n hx hb dX11_smooth_41 rfl (lv_at hl 0 rfl) ?_
      refine lv_if_le (tgt := 51) hx hb dX11_smooth_42 (by decide) (fun c_8 => ?_) (fun c_8 => ?_)
      · exact absurd c_8 (by decide)
      · refine lv_aload_n hx hb dX11_smooth_45 rfl (lv_at hl 1 rfl) ?_
        refine lv_iload_n hx hb dX11_smooth_46 rfl (lv_at hl 0 rfl) ?_
        have hPc := hP.sub (ws' := [(om k0 a I0 J0)]) [0] rfl
        have hDc := hD.sub (ws' := [(om k0 a I0 J0)]) [0] (by decide) rfl
        have hFc := va_free (wc := [(om k0 a I0 J0)]) hD hS hA [0] rfl
        refine zcall (st1 := [.int 0]) (va_runV (As := [.int 2]) (rest := []) ⟨hx, hb, hml, hown, hts⟩ (k_M_no l dC dI cI cZ cF H.size k0 a I0 J0 2 (by decide)) (cwV 1 hts (zz_gV mw_1353 mw_1355 mw_38 mw_110 mc_yX11_no) rfl rfl rfl (by decide +kernel) ⟨Nat.le_of_ble_eq_true rfl, Nat.le_of_ble_eq_true rfl⟩) (zPV2 (q0 := 0) (ci := 9) hPc hDc hK hXN rfl rfl) rfl rfl hl.1 rfl (lv_room (Nat.le_of_ble_eq_true rfl)) dX11_smooth_47 ⟨Nat.le_of_ble_eq_true rfl, Nat.le_of_ble_eq_true rfl⟩) hS hFc hFc rfl (fun t H1 locs ht hB hk1 hS => ?_)
        obtain ⟨hP1, hD1⟩ := hB
        rw [ht] at hP1
        obtain ⟨hP, hD⟩ := va_join (wr := [(oa (a 5) cI 201 st), (oa (a 6) cZ 201 tn), (oa (a 1) cI 201 kd)]) (w1 := [(om k0 a (upd (upd I0 14 2) 15 (I0 15)) J0)]) hP hD [0] [1, 2, 3] rfl rfl (by decide) (by decide) hk1 hFc hP1 hD1
        clear hk1 hPc hDc hFc hP1 hD1 ht
        generalize H1 = H at hP hS ⊢
        have hP := hP.sub (ws' := [(om k0 a (upd (upd I0 14 2) 15 (I0 15)) J0), (oa (a 5) cI 201 st), (oa (a 6) cZ 201 tn), (oa (a 1) cI 201 kd)]) [3, 0, 1, 2] rfl
        have hD := hD.sub (ws' := [(om k0 a (upd (upd I0 14 2) 15 (I0 15)) J0), (oa (a 5) cI 201 st), (oa (a 6) cZ 201 tn), (oa (a 1) cI 201 kd)]) [3, 0, 1, 2] (by decide) rfl
        have hP : va_P (dC, dI) classes [(om k0 a (upd (upd I0 14 2) 15 (I0 15)) J0), (oa (a 5) cI 201 st), (oa (a 6) cZ 201 tn), (oa (a 1) cI 201 kd)] H := hP
        have hD : va_D A [(om k0 a (upd (upd I0 14 2) 15 (I0 15)) J0), (oa (a 5) cI 201 st), (oa (a 6) cZ 201 tn), (oa (a 1) cI 201 kd)] := hD
        have hP9 := hP.sub (ws' := [(om k0 a (upd (upd I0 14 2) 15 (I0 15)) J0), (oa (a 5) cI 201 st), (oa (a 6) cZ 201 tn), (oa (a 1) cI 201 kd)]) [0, 1, 2, 3] rfl
        have hD9 := hD.sub (ws' := [(om k0 a (upd (upd I0 14 2) 15 (I0 15)) J0), (oa (a 5) cI 201 st), (oa (a 6) cZ 201 tn), (oa (a 1) cI 201 kd)]) [0, 1, 2, 3] (by decide) rfl
        rw [hQ9]
        exact W.zret (ty := .boolean) (v := 0) hx hb hr (rfl) (fun t ht hW => ⟨⟨rfl, 2, by rw [ht]; exact hP9, hD9⟩, hS.F ht⟩) hS.2.2 dX11_smooth_50
set_option maxHeartbeats 4000000 in
set_option maxRecDepth 100000 in
theorem k_M_grow_r (l : Launch) (dC : Nat → ClassId) (dI : Nat → Nat → Nat) (cI cZ cF : ClassId) (sz : Nat) (k0 : Nat) (a : Nat → Nat) (I0 : Nat → Int32) (J0 : Nat → Int64) (f : Nat) (ft : Nat) (st : Nat → Int32) (tn : Nat → Int32) (kd : Nat → Int32) (hft : I0 0 = nI ft) (h200 : ft ≤ 200) (hf_t : f < ft) (hbad : ¬ ((st f).toInt = 1 ∧ (kd f).toInt = 6 ∧ (tn f).toInt = 0)) : Met l yX11_grow (.code yX11_grow cX11_grow 4 (some .boolean) :: ws0) ({ frames := 2, cells := 0, slots := 0, locals := 42 } : Room) (va_Pc [.ref k0, .int (nI f)] (zPre (dC, dI) classes (zTy cI cZ cF) [(om k0 a I0 J0), (oa (a 5) cI 201 st), (oa (a 6) cZ 201 tn), (oa (a 1) cI 201 kd)] sz zXN)) (zQ (some (.int 0)) (fun t => ∃ (z9 : Int32), va_P (dC, dI) classes [(om k0 a (upd (upd I0 14 z9) 15 (I0 15)) J0), (oa (a 5) cI 201 st), (oa (a 6) cZ 201 tn), (oa (a 1) cI 201 kd)] t.heap ∧ va_D (va_A [(om k0 a I0 J0), (oa (a 5) cI 201 st), (oa (a 6) cZ 201 tn), (oa (a 1) cI 201 kd)] sz) [(om k0 a (upd (upd I0 14 z9) 15 (I0 15)) J0), (oa (a 5) cI 201 st), (oa (a 6) cZ 201 tn), (oa (a 1) cI 201 kd)]) (va_A [(om k0 a I0 J0), (oa (a 5) cI 201 st), (oa (a 6) cZ 201 tn), (oa (a 1) cI 201 kd)] sz)) 0 0 (va_A [(om k0 a I0 J0), (oa (a 5) cI 201 st), (oa (a 6) cZ 201 tn), (oa (a 1) cI 201 kd)] sz) := by
  refine Met.ofW (cc := cX11_grow) (maxL := 4) (ret := (some .boolean)) (by decide) rfl ?_
  intro p e s m args below meth c s₁ B hml hv
  obtain ⟨rfl, hsz, hP, hK, hD0, hXN⟩ := hv
  have hx := B.exec
  have hb := B.bytes
  have hr := B.returns
  have hts0 := atoms_spec (ws := .code yX11_grow cX11_grow 4 (some .boolean) :: ws0) B.pre
  have hts : ∀ w9 ∈ ws0, w9.before ([.ref k0, .int (nI f)] : List Value).toArray s = true := fun w9 h => hts0 w9 (List.mem_cons_of_mem _ h)
  have hown : s.vm.findClass "ScaleShopModel" = some m.cls := findClass_of_methodNamed B.named
  have hlocks := B.notSynchronized
  subst hsz
  have hD := hD0.self (sz := s.heap.size)
  clear hD0
  generalize hAe : va_A [(om k0 a I0 J0), (oa (a 5) cI 201 st), (oa (a 6) cZ 201 tn), (oa (a 1) cI 201 kd)] s.heap.size = A at hD ⊢
  have hA : ∀ q : Nat, s.heap.size ≤ q → A q := fun q h => by rw [← hAe]; exact Or.inr h
  clear hAe
  have hS : va_S A s.heap s.heap [] := va_S.rf
  have hP : va_P (dC, dI) classes [(om k0 a I0 J0), (oa (a 5) cI 201 st), (oa (a 6) cZ 201 tn), (oa (a 1) cI 201 kd)] s.heap := hP
  obtain ⟨Q9, hQ9⟩ : ∃ Q9 : State → Prop, Q9 = MQ below (zQ (some (.int 0)) (fun t => ∃ (z9 : Int32), va_P (dC, dI) classes [(om k0 a (upd (upd I0 14 z9) 15 (I0 15)) J0), (oa (a 5) cI 201 st), (oa (a 6) cZ 201 tn), (oa (a 1) cI 201 kd)] t.heap ∧ va_D A [(om k0 a (upd (upd I0 14 z9) 15 (I0 15)) J0), (oa (a 5) cI 201 st), (oa (a 6) cZ 201 tn), (oa (a 1) cI 201 kd)]) A) ([.ref k0, .int (nI f)] : List Value).toArray s 0 0 A := ⟨_, rfl⟩
  rw [← hQ9]
  have hl := lv_entry ([.ref k0, .int (nI f)]) (n := 4) (Nat.le_of_ble_eq_true rfl)
  rw [lg_entry_eq]
  generalize (lg_sl ([.ref k0, .int (nI f)]) ++ List.replicate (4 - (lg_sl ([.ref k0, .int (nI f)])).length) Slot.unset).toArray = ls at hl ⊢
  have hl : lv_has ls 4 [(0, .ref k0), (1, .int (nI f))] := hl
  refine lv_aload_n hx hb dX11_grow_0 rfl (lv_at hl 0 rfl) ?_
  refine lv_iload_n hx hb dX11_grow_1 rfl (lv_at hl 1 rfl) ?_
  have hPc := hP.sub (ws' := [(om k0 a I0 J0), (oa (a 5) cI 201 st)]) [0, 1] rfl
  have hDc := hD.sub (ws' := [(om k0 a I0 J0), (oa (a 5) cI 201 st)]) [0, 1] (by decide) rfl
  have hFc := va_free (wc := [(om k0 a I0 J0), (oa (a 5) cI 201 st)]) hD hS hA [0, 1] rfl
  refine zcall (st1 := [.int (wrN (st f))]) (va_runV (As := [.int (nI f)]) (rest := []) ⟨hx, hb, hml, hown, hts⟩ (k_M_wrong l dC dI cI cZ cF s.heap.size k0 a I0 J0 f ft st (by assumption) (by omega) (by omega)) (cwV 1 hts (zz_gV mw_1407 mw_1409 mw_46 mw_110 mc_yX11_wrong) rfl rfl rfl (by decide +kernel) ⟨Nat.le_of_ble_eq_true rfl, Nat.le_of_ble_eq_true rfl⟩) (zPV2 (q0 := 0) (ci := 9) hPc hDc hK hXN rfl rfl) rfl rfl hl.1 rfl (lv_room (Nat.le_of_ble_eq_true rfl)) dX11_grow_2 ⟨Nat.le_of_ble_eq_true rfl, Nat.le_of_ble_eq_true rfl⟩) hS hFc hFc rfl (fun t H1 locs ht hB hk1 hS => ?_)
  obtain ⟨hP1, hD1⟩ := hB
  rw [ht] at hP1
  obtain ⟨hP, hD⟩ := va_join (wr := [(oa (a 6) cZ 201 tn), (oa (a 1) cI 201 kd)]) (w1 := [(om k0 a I0 J0), (oa (a 5) cI 201 st)]) hP hD [0, 1] [2, 3] rfl rfl (by decide) (by decide) hk1 hFc hP1 hD1
  clear hk1 hPc hDc hFc hP1 hD1 ht
  generalize H1 = H at hP hS ⊢
  have hP := hP.sub (ws' := [(om k0 a I0 J0), (oa (a 5) cI 201 st), (oa (a 6) cZ 201 tn), (oa (a 1) cI 201 kd)]) [2, 3, 0, 1] rfl
  have hD := hD.sub (ws' := [(om k0 a I0 J0), (oa (a 5) cI 201 st), (oa (a 6) cZ 201 tn), (oa (a 1) cI 201 kd)]) [2, 3, 0, 1] (by decide) rfl
  have hP : va_P (dC, dI) classes [(om k0 a I0 J0), (oa (a 5) cI 201 st), (oa (a 6) cZ 201 tn), (oa (a 1) cI 201 kd)] H := hP
  have hD : va_D A [(om k0 a I0 J0), (oa (a 5) cI 201 st), (oa (a 6) cZ 201 tn), (oa (a 1) cI 201 kd)] := hD
  refine zz_i2 (wrN_s (st f)) (fun hs9 => ?_) (fun hs9 => ?_)
  · skip
    refine lv_istore_n (lv' := [(2, .int 0), (0, .ref k0), (1, .int (nI f))]) hx hb dX11_grow_5 rfl hl (by decide) rfl (fun ls hl => ?_)
    refine lv_iload_n hx hb dX11_grow_6 rfl (lv_at hl 0 rfl) ?_
    refine lv_if_le (tgt := 14) hx hb dX11_grow_7 (by decide) (fun c_1 => ?_) (fun c_1 => ?_)
    · refine lv_aload_n hx hb dX11_grow_14 rfl (lv_at hl 1 rfl) ?_
      refine va_get (D := (dC, dI)) (ci := 9) (v := .ref (a 1)) (C := RX11) (T := TX11) (N := 55) hx hb hts inX11 hown hK hP 0 rfl rfl 1 (by decide) (hts _ mw_1160) (fun _ h9 => h9) rfl dX11_grow_15 ?_
      refine lv_iload_n hx hb dX11_grow_18 rfl (lv_at hl 2 rfl) ?_
      refine z_iald hx hb hK hP 3 0 rfl rfl (e := f) rfl (by omega) (by omega) dX11_grow_19 ?_
      refine lv_bipush (v := 6) hx hb dX11_grow_20 (by decide) ?_
      refine lv_icmp_eq (tgt := 29) hx hb dX11_grow_22 (by decide) (fun c_2 => ?_) (fun c_2 => ?_)
      · have c_2 : (kd f).toInt = 6 := zc_eq rfl (by decide) c_2
        refine lv_aload_n hx hb dX11_grow_29 rfl (lv_at hl 1 rfl) ?_
        refine va_get (D := (dC, dI)) (ci := 9) (v := .ref (a 6)) (C := RX11) (T := TX11) (N := 55) hx hb hts inX11 hown hK hP 0 rfl rfl 6 (by decide) (hts _ mw_1165) (fun _ h9 => h9) rfl dX11_grow_30 ?_
        refine lv_iload_n hx hb dX11_grow_33 rfl (lv_at hl 2 rfl) ?_
        refine z_zald hx hb hK hP 2 1 rfl rfl (e := f) rfl (by omega) (by omega) dX11_grow_34 ?_
        refine lv_if_eq (tgt := 42) hx hb dX11_grow_35 (by decide) (fun c_3 => ?_) (fun c_3 => ?_)
        · have c_3 : (tn f).toInt = 0 := zc_eq rfl (by decide) c_3
          refine lv_iconst (v := 0) hx hb dX11_grow_42 (by decide) ?_
          refine lv_istore_n (lv' := [(2, .int 0), (0, .ref k0), (1, .int (nI f))]) hx hb dX11_grow_43 rfl hl (by decide) rfl (fun ls hl => ?_)
          refine lv_iload_n hx hb dX11_grow_44 rfl (lv_at hl 0 rfl) ?_
          refine lv_if_le (tgt := 54) hx hb dX11_grow_45 (by decide) (fun c_4 => ?_) (fun c_4 => ?_)
          · exfalso; omega
          · exact absurd (by decide) c_4
        · have c_3 : ¬ (tn f).toInt = 0 := zc_ne rfl (by decide) c_3
          refine lv_iconst (v := 5) hx hb dX11_grow_38 (by decide) ?_
          refine lv_goto (tgt := 43) hx hb dX11_grow_39 (by decide) ?_
          refine lv_istore_n (lv' := [(2, .int 5), (0, .ref k0), (1, .int (nI f))]) hx hb dX11_grow_43 rfl hl (by decide) rfl (fun ls hl => ?_)
          refine lv_iload_n hx hb dX11_grow_44 rfl (lv_at hl 0 rfl) ?_
          refine lv_if_le (tgt := 54) hx hb dX11_grow_45 (by decide) (fun c_5 => ?_) (fun c_5 => ?_)
          · exact absurd c_5 (by decide)
          · refine lv_aload_n hx hb dX11_grow_48 rfl (lv_at hl 1 rfl) ?_
            refine lv_iload_n hx hb dX11_grow_49 rfl (lv_at hl 0 rfl) ?_
            have hPc := hP.sub (ws' := [(om k0 a I0 J0)]) [0] rfl
            have hDc := hD.sub (ws' := [(om k0 a I0 J0)]) [0] (by decide) rfl
            have hFc := va_free (wc := [(om k0 a I0 J0)]) hD hS hA [0] rfl
            refine zcall (st1 := [.int 0]) (va_runV (As := [.int 5]) (rest := []) ⟨hx, hb, hml, hown, hts⟩ (k_M_no l dC dI cI cZ cF H.size k0 a I0 J0 5 (by decide)) (cwV 1 hts (zz_gV mw_1353 mw_1355 mw_38 mw_110 mc_yX11_no) rfl rfl rfl (by decide +kernel) ⟨Nat.le_of_ble_eq_true rfl, Nat.le_of_ble_eq_true rfl⟩) (zPV2 (q0 := 0) (ci := 9) hPc hDc hK hXN rfl rfl) rfl rfl hl.1 rfl (lv_room (Nat.le_of_ble_eq_true rfl)) dX11_grow_50 ⟨Nat.le_of_ble_eq_true rfl, Nat.le_of_ble_eq_true rfl⟩) hS hFc hFc rfl (fun t H1 locs ht hB hk1 hS => ?_)
            obtain ⟨hP1, hD1⟩ := hB
            rw [ht] at hP1
            obtain ⟨hP, hD⟩ := va_join (wr := [(oa (a 5) cI 201 st), (oa (a 6) cZ 201 tn), (oa (a 1) cI 201 kd)]) (w1 := [(om k0 a (upd (upd I0 14 5) 15 (I0 15)) J0)]) hP hD [0] [1, 2, 3] rfl rfl (by decide) (by decide) hk1 hFc hP1 hD1
            clear hk1 hPc hDc hFc hP1 hD1 ht
            generalize H1 = H at hP hS ⊢
            have hP := hP.sub (ws' := [(om k0 a (upd (upd I0 14 5) 15 (I0 15)) J0), (oa (a 5) cI 201 st), (oa (a 6) cZ 201 tn), (oa (a 1) cI 201 kd)]) [3, 0, 1, 2] rfl
            have hD := hD.sub (ws' := [(om k0 a (upd (upd I0 14 5) 15 (I0 15)) J0), (oa (a 5) cI 201 st), (oa (a 6) cZ 201 tn), (oa (a 1) cI 201 kd)]) [3, 0, 1, 2] (by decide) rfl
            have hP : va_P (dC, dI) classes [(om k0 a (upd (upd I0 14 5) 15 (I0 15)) J0), (oa (a 5) cI 201 st), (oa (a 6) cZ 201 tn), (oa (a 1) cI 201 kd)] H := hP
            have hD : va_D A [(om k0 a (upd (upd I0 14 5) 15 (I0 15)) J0), (oa (a 5) cI 201 st), (oa (a 6) cZ 201 tn), (oa (a 1) cI 201 kd)] := hD
            have hP9 := hP.sub (ws' := [(om k0 a (upd (upd I0 14 5) 15 (I0 15)) J0), (oa (a 5) cI 201 st), (oa (a 6) cZ 201 tn), (oa (a 1) cI 201 kd)]) [0, 1, 2, 3] rfl
            have hD9 := hD.sub (ws' := [(om k0 a (upd (upd I0 14 5) 15 (I0 15)) J0), (oa (a 5) cI 201 st), (oa (a 6) cZ 201 tn), (oa (a 1) cI 201 kd)]) [0, 1, 2, 3] (by decide) rfl
            rw [hQ9]
            exact W.zret (ty := .boolean) (v := 0) hx hb hr (rfl) (fun t ht hW => ⟨⟨rfl, 5, by rw [ht]; exact hP9, hD9⟩, hS.F ht⟩) hS.2.2 dX11_grow_53
      · have c_2 : ¬ (kd f).toInt = 6 := zc_ne rfl (by decide) c_2
        refine lv_iconst (v := 3) hx hb dX11_grow_25 (by decide) ?_
        refine lv_goto (tgt := 43) hx hb dX11_grow_26 (by decide) ?_
        refine lv_istore_n (lv' := [(2, .int 3), (0, .ref k0), (1, .int (nI f))]) hx hb dX11_grow_43 rfl hl (by decide) rfl (fun ls hl => ?_)
        refine lv_iload_n hx hb dX11_grow_44 rfl (lv_at hl 0 rfl) ?_
        refine lv_if_le (tgt := 54) hx hb dX11_grow_45 (by decide) (fun c_6 => ?_) (fun c_6 => ?_)
        · exact absurd c_6 (by decide)
        · refine lv_aload_n hx hb dX11_grow_48 rfl (lv_at hl 1 rfl) ?_
          refine lv_iload_n hx hb dX11_grow_49 rfl (lv_at hl 0 rfl) ?_
          have hPc := hP.sub (ws' := [(om k0 a I0 J0)]) [0] rfl
          have hDc := hD.sub (ws' := [(om k0 a I0 J0)]) [0] (by decide) rfl
          have hFc := va_free (wc := [(om k0 a I0 J0)]) hD hS hA [0] rfl
          refine zcall (st1 := [.int 0]) (va_runV (As := [.int 3]) (rest := []) ⟨hx, hb, hml, hown, hts⟩ (k_M_no l dC dI cI cZ cF H.size k0 a I0 J0 3 (by decide)) (cwV 1 hts (zz_gV mw_1353 mw_1355 mw_38 mw_110 mc_yX11_no) rfl rfl rfl (by decide +kernel) ⟨Nat.le_of_ble_eq_true rfl, Nat.le_of_ble_eq_true rfl⟩) (zPV2 (q0 := 0) (ci := 9) hPc hDc hK hXN rfl rfl) rfl rfl hl.1 rfl (lv_room (Nat.le_of_ble_eq_true rfl)) dX11_grow_50 ⟨Nat.le_of_ble_eq_true rfl, Nat.le_of_ble_eq_true rfl⟩) hS hFc hFc rfl (fun t H1 locs ht hB hk1 hS => ?_)
          obtain ⟨hP1, hD1⟩ := hB
          rw [ht] at hP1
          obtain ⟨hP, hD⟩ := va_join (wr := [(oa (a 5) cI 201 st), (oa (a 6) cZ 201 tn), (oa (a 1) cI 201 kd)]) (w1 := [(om k0 a (upd (upd I0 14 3) 15 (I0 15)) J0)]) hP hD [0] [1, 2, 3] rfl rfl (by decide) (by decide) hk1 hFc hP1 hD1
          clear hk1 hPc hDc hFc hP1 hD1 ht
          generalize H1 = H at hP hS ⊢
          have hP := hP.sub (ws' := [(om k0 a (upd (upd I0 14 3) 15 (I0 15)) J0), (oa (a 5) cI 201 st), (oa (a 6) cZ 201 tn), (oa (a 1) cI 201 kd)]) [3, 0, 1, 2] rfl
          have hD := hD.sub (ws' := [(om k0 a (upd (upd I0 14 3) 15 (I0 15)) J0), (oa (a 5) cI 201 st), (oa (a 6) cZ 201 tn), (oa (a 1) cI 201 kd)]) [3, 0, 1, 2] (by decide) rfl
          have hP : va_P (dC, dI) classes [(om k0 a (upd (upd I0 14 3) 15 (I0 15)) J0), (oa (a 5) cI 201 st), (oa (a 6) cZ 201 tn), (oa (a 1) cI 201 kd)] H := hP
          have hD : va_D A [(om k0 a (upd (upd I0 14 3) 15 (I0 15)) J0), (oa (a 5) cI 201 st), (oa (a 6) cZ 201 tn), (oa (a 1) cI 201 kd)] := hD
          have hP9 := hP.sub (ws' := [(om k0 a (upd (upd I0 14 3) 15 (I0 15)) J0), (oa (a 5) cI 201 st), (oa (a 6) cZ 201 tn), (oa (a 1) cI 201 kd)]) [0, 1, 2, 3] rfl
          have hD9 := hD.sub (ws' := [(om k0 a (upd (upd I0 14 3) 15 (I0 15)) J0), (oa (a 5) cI 201 st), (oa (a 6) cZ 201 tn), (oa (a 1) cI 201 kd)]) [0, 1, 2, 3] (by decide) rfl
          rw [hQ9]
          exact W.zret (ty := .boolean) (v := 0) hx hb hr (rfl) (fun t ht hW => ⟨⟨rfl, 3, by rw [ht]; exact hP9, hD9⟩, hS.F ht⟩) hS.2.2 dX11_grow_53
    · exact absurd (by decide) c_1
  · skip
    refine lv_istore_n (lv' := [(2, .int 2), (0, .ref k0), (1, .int (nI f))]) hx hb dX11_grow_5 rfl hl (by decide) rfl (fun ls hl => ?_)
    refine lv_iload_n hx hb dX11_grow_6 rfl (lv_at hl 0 rfl) ?_
    refine lv_if_le (tgt := 14) hx hb dX11_grow_7 (by decide) (fun c_7 => ?_) (fun c_7 => ?_)
    · exact absurd c_7 (by decide)
    · refine lv_iload_n hx hb dX11_grow_10 rfl (lv_at hl 0 rfl) ?_
      refine lv_goto (tgt := 43) hx hb dX11_grow_11 (by decide) ?_
      refine lv_istore_n (lv' := [(2, .int 2), (0, .ref k0), (1, .int (nI f))]) hx hb dX11_grow_43 rfl hl (by decide) rfl (fun ls hl => ?_)
      refine lv_iload_n hx hb dX11_grow_44 rfl (lv_at hl 0 rfl) ?_
      refine lv_if_le (tgt := 54) hx hb dX11_grow_45 (by decide) (fun c_8 => ?_) (fun c_8 => ?_)
      · exact absurd c_8 (by decide)
      · refine lv_aload_n hx hb dX11_grow_48 rfl (lv_at hl 1 rfl) ?_
        refine lv_iload_n hx hb dX11_grow_49 rfl (lv_at hl 0 rfl) ?_
        have hPc := hP.sub (ws' := [(om k0 a I0 J0)]) [0] rfl
        have hDc := hD.sub (ws' := [(om k0 a I0 J0)]) [0] (by decide) rfl
        have hFc := va_free (wc := [(om k0 a I0 J0)]) hD hS hA [0] rfl
        refine zcall (st1 := [.int 0]) (va_runV (As := [.int 2]) (rest := []) ⟨hx, hb, hml, hown, hts⟩ (k_M_no l dC dI cI cZ cF H.size k0 a I0 J0 2 (by decide)) (cwV 1 hts (zz_gV mw_1353 mw_1355 mw_38 mw_110 mc_yX11_no) rfl rfl rfl (by decide +kernel) ⟨Nat.le_of_ble_eq_true rfl, Nat.le_of_ble_eq_true rfl⟩) (zPV2 (q0 := 0) (ci := 9) hPc hDc hK hXN rfl rfl) rfl rfl hl.1 rfl (lv_room (Nat.le_of_ble_eq_true rfl)) dX11_grow_50 ⟨Nat.le_of_ble_eq_true rfl, Nat.le_of_ble_eq_true rfl⟩) hS hFc hFc rfl (fun t H1 locs ht hB hk1 hS => ?_)
        obtain ⟨hP1, hD1⟩ := hB
        rw [ht] at hP1
        obtain ⟨hP, hD⟩ := va_join (wr := [(oa (a 5) cI 201 st), (oa (a 6) cZ 201 tn), (oa (a 1) cI 201 kd)]) (w1 := [(om k0 a (upd (upd I0 14 2) 15 (I0 15)) J0)]) hP hD [0] [1, 2, 3] rfl rfl (by decide) (by decide) hk1 hFc hP1 hD1
        clear hk1 hPc hDc hFc hP1 hD1 ht
        generalize H1 = H at hP hS ⊢
        have hP := hP.sub (ws' := [(om k0 a (upd (upd I0 14 2) 15 (I0 15)) J0), (oa (a 5) cI 201 st), (oa (a 6) cZ 201 tn), (oa (a 1) cI 201 kd)]) [3, 0, 1, 2] rfl
        have hD := hD.sub (ws' := [(om k0 a (upd (upd I0 14 2) 15 (I0 15)) J0), (oa (a 5) cI 201 st), (oa (a 6) cZ 201 tn), (oa (a 1) cI 201 kd)]) [3, 0, 1, 2] (by decide) rfl
        have hP : va_P (dC, dI) classes [(om k0 a (upd (upd I0 14 2) 15 (I0 15)) J0), (oa (a 5) cI 201 st), (oa (a 6) cZ 201 tn), (oa (a 1) cI 201 kd)] H := hP
        have hD : va_D A [(om k0 a (upd (upd I0 14 2) 15 (I0 15)) J0), (oa (a 5) cI 201 st), (oa (a 6) cZ 201 tn), (oa (a 1) cI 201 kd)] := hD
        have hP9 := hP.sub (ws' := [(om k0 a (upd (upd I0 14 2) 15 (I0 15)) J0), (oa (a 5) cI 201 st), (oa (a 6) cZ 201 tn), (oa (a 1) cI 201 kd)]) [0, 1, 2, 3] rfl
        have hD9 := hD.sub (ws' := [(om k0 a (upd (upd I0 14 2) 15 (I0 15)) J0), (oa (a 5) cI 201 st), (oa (a 6) cZ 201 tn), (oa (a 1) cI 201 kd)]) [0, 1, 2, 3] (by decide) rfl
        rw [hQ9]
        exact W.zret (ty := .boolean) (v := 0) hx hb hr (rfl) (fun t ht hW => ⟨⟨rfl, 2, by rw [ht]; exact hP9, hD9⟩, hS.F ht⟩) hS.2.2 dX11_grow_53
set_option maxHeartbeats 4000000 in
set_option maxRecDepth 100000 in
theorem k_M_square_r (l : Launch) (dC : Nat → ClassId) (dI : Nat → Nat → Nat) (cI cZ cF : ClassId) (sz : Nat) (k0 : Nat) (a : Nat → Nat) (I0 : Nat → Int32) (J0 : Nat → Int64) (f : Nat) (ft : Nat) (ms : Int32) (st : Nat → Int32) (tn : Nat → Int32) (kd : Nat → Int32) (hft : I0 0 = nI ft) (h200 : ft ≤ 200) (hf_t : f < ft) (hbad : ¬ ((st f).toInt = 1 ∧ (kd f).toInt = 5 ∧ 0 ≤ ms.toInt ∧ (tn f).toInt = 0)) : Met l yX11_square (.code yX11_square cX11_square 6 (some .boolean) :: ws0) ({ frames := 2, cells := 0, slots := 0, locals := 42 } : Room) (va_Pc [.ref k0, .int (nI f), .int ms] (zPre (dC, dI) classes (zTy cI cZ cF) [(om k0 a I0 J0), (oa (a 5) cI 201 st), (oa (a 6) cZ 201 tn), (oa (a 1) cI 201 kd)] sz zXN)) (zQ (some (.int 0)) (fun t => ∃ (z9 : Int32), va_P (dC, dI) classes [(om k0 a (upd (upd I0 14 z9) 15 (I0 15)) J0), (oa (a 5) cI 201 st), (oa (a 6) cZ 201 tn), (oa (a 1) cI 201 kd)] t.heap ∧ va_D (va_A [(om k0 a I0 J0), (oa (a 5) cI 201 st), (oa (a 6) cZ 201 tn), (oa (a 1) cI 201 kd)] sz) [(om k0 a (upd (upd I0 14 z9) 15 (I0 15)) J0), (oa (a 5) cI 201 st), (oa (a 6) cZ 201 tn), (oa (a 1) cI 201 kd)]) (va_A [(om k0 a I0 J0), (oa (a 5) cI 201 st), (oa (a 6) cZ 201 tn), (oa (a 1) cI 201 kd)] sz)) 0 0 (va_A [(om k0 a I0 J0), (oa (a 5) cI 201 st), (oa (a 6) cZ 201 tn), (oa (a 1) cI 201 kd)] sz) := by
  refine Met.ofW (cc := cX11_square) (maxL := 6) (ret := (some .boolean)) (by decide) rfl ?_
  intro p e s m args below meth c s₁ B hml hv
  obtain ⟨rfl, hsz, hP, hK, hD0, hXN⟩ := hv
  have hx := B.exec
  have hb := B.bytes
  have hr := B.returns
  have hts0 := atoms_spec (ws := .code yX11_square cX11_square 6 (some .boolean) :: ws0) B.pre
  have hts : ∀ w9 ∈ ws0, w9.before ([.ref k0, .int (nI f), .int ms] : List Value).toArray s = true := fun w9 h => hts0 w9 (List.mem_cons_of_mem _ h)
  have hown : s.vm.findClass "ScaleShopModel" = some m.cls := findClass_of_methodNamed B.named
  have hlocks := B.notSynchronized
  subst hsz
  have hD := hD0.self (sz := s.heap.size)
  clear hD0
  generalize hAe : va_A [(om k0 a I0 J0), (oa (a 5) cI 201 st), (oa (a 6) cZ 201 tn), (oa (a 1) cI 201 kd)] s.heap.size = A at hD ⊢
  have hA : ∀ q : Nat, s.heap.size ≤ q → A q := fun q h => by rw [← hAe]; exact Or.inr h
  clear hAe
  have hS : va_S A s.heap s.heap [] := va_S.rf
  have hP : va_P (dC, dI) classes [(om k0 a I0 J0), (oa (a 5) cI 201 st), (oa (a 6) cZ 201 tn), (oa (a 1) cI 201 kd)] s.heap := hP
  obtain ⟨Q9, hQ9⟩ : ∃ Q9 : State → Prop, Q9 = MQ below (zQ (some (.int 0)) (fun t => ∃ (z9 : Int32), va_P (dC, dI) classes [(om k0 a (upd (upd I0 14 z9) 15 (I0 15)) J0), (oa (a 5) cI 201 st), (oa (a 6) cZ 201 tn), (oa (a 1) cI 201 kd)] t.heap ∧ va_D A [(om k0 a (upd (upd I0 14 z9) 15 (I0 15)) J0), (oa (a 5) cI 201 st), (oa (a 6) cZ 201 tn), (oa (a 1) cI 201 kd)]) A) ([.ref k0, .int (nI f), .int ms] : List Value).toArray s 0 0 A := ⟨_, rfl⟩
  rw [← hQ9]
  have hl := lv_entry ([.ref k0, .int (nI f), .int ms]) (n := 6) (Nat.le_of_ble_eq_true rfl)
  rw [lg_entry_eq]
  generalize (lg_sl ([.ref k0, .int (nI f), .int ms]) ++ List.replicate (6 - (lg_sl ([.ref k0, .int (nI f), .int ms])).length) Slot.unset).toArray = ls at hl ⊢
  have hl : lv_has ls 6 [(0, .ref k0), (1, .int (nI f)), (2, .int ms)] := hl
  refine lv_aload_n hx hb dX11_square_0 rfl (lv_at hl 0 rfl) ?_
  refine lv_iload_n hx hb dX11_square_1 rfl (lv_at hl 1 rfl) ?_
  have hPc := hP.sub (ws' := [(om k0 a I0 J0), (oa (a 5) cI 201 st)]) [0, 1] rfl
  have hDc := hD.sub (ws' := [(om k0 a I0 J0), (oa (a 5) cI 201 st)]) [0, 1] (by decide) rfl
  have hFc := va_free (wc := [(om k0 a I0 J0), (oa (a 5) cI 201 st)]) hD hS hA [0, 1] rfl
  refine zcall (st1 := [.int (wrN (st f))]) (va_runV (As := [.int (nI f)]) (rest := []) ⟨hx, hb, hml, hown, hts⟩ (k_M_wrong l dC dI cI cZ cF s.heap.size k0 a I0 J0 f ft st (by assumption) (by omega) (by omega)) (cwV 1 hts (zz_gV mw_1407 mw_1409 mw_46 mw_110 mc_yX11_wrong) rfl rfl rfl (by decide +kernel) ⟨Nat.le_of_ble_eq_true rfl, Nat.le_of_ble_eq_true rfl⟩) (zPV2 (q0 := 0) (ci := 9) hPc hDc hK hXN rfl rfl) rfl rfl hl.1 rfl (lv_room (Nat.le_of_ble_eq_true rfl)) dX11_square_2 ⟨Nat.le_of_ble_eq_true rfl, Nat.le_of_ble_eq_true rfl⟩) hS hFc hFc rfl (fun t H1 locs ht hB hk1 hS => ?_)
  obtain ⟨hP1, hD1⟩ := hB
  rw [ht] at hP1
  obtain ⟨hP, hD⟩ := va_join (wr := [(oa (a 6) cZ 201 tn), (oa (a 1) cI 201 kd)]) (w1 := [(om k0 a I0 J0), (oa (a 5) cI 201 st)]) hP hD [0, 1] [2, 3] rfl rfl (by decide) (by decide) hk1 hFc hP1 hD1
  clear hk1 hPc hDc hFc hP1 hD1 ht
  generalize H1 = H at hP hS ⊢
  have hP := hP.sub (ws' := [(om k0 a I0 J0), (oa (a 5) cI 201 st), (oa (a 6) cZ 201 tn), (oa (a 1) cI 201 kd)]) [2, 3, 0, 1] rfl
  have hD := hD.sub (ws' := [(om k0 a I0 J0), (oa (a 5) cI 201 st), (oa (a 6) cZ 201 tn), (oa (a 1) cI 201 kd)]) [2, 3, 0, 1] (by decide) rfl
  have hP : va_P (dC, dI) classes [(om k0 a I0 J0), (oa (a 5) cI 201 st), (oa (a 6) cZ 201 tn), (oa (a 1) cI 201 kd)] H := hP
  have hD : va_D A [(om k0 a I0 J0), (oa (a 5) cI 201 st), (oa (a 6) cZ 201 tn), (oa (a 1) cI 201 kd)] := hD
  refine zz_i2 (wrN_s (st f)) (fun hs9 => ?_) (fun hs9 => ?_)
  · skip
    refine lv_istore_n (lv' := [(3, .int 0), (0, .ref k0), (1, .int (nI f)), (2, .int ms)]) hx hb dX11_square_5 rfl hl (by decide) rfl (fun ls hl => ?_)
    refine lv_iload_n hx hb dX11_square_6 rfl (lv_at hl 0 rfl) ?_
    refine lv_if_le (tgt := 14) hx hb dX11_square_7 (by decide) (fun c_1 => ?_) (fun c_1 => ?_)
    · refine lv_aload_n hx hb dX11_square_14 rfl (lv_at hl 1 rfl) ?_
      refine va_get (D := (dC, dI)) (ci := 9) (v := .ref (a 1)) (C := RX11) (T := TX11) (N := 55) hx hb hts inX11 hown hK hP 0 rfl rfl 1 (by decide) (hts _ mw_1160) (fun _ h9 => h9) rfl dX11_square_15 ?_
      refine lv_iload_n hx hb dX11_square_18 rfl (lv_at hl 2 rfl) ?_
      refine z_iald hx hb hK hP 3 0 rfl rfl (e := f) rfl (by omega) (by omega) dX11_square_19 ?_
      refine lv_iconst (v := 5) hx hb dX11_square_20 (by decide) ?_
      refine lv_icmp_eq (tgt := 28) hx hb dX11_square_21 (by decide) (fun c_2 => ?_) (fun c_2 => ?_)
      · have c_2 : (kd f).toInt = 5 := zc_eq rfl (by decide) c_2
        refine lv_iload_n hx hb dX11_square_28 rfl (lv_at hl 3 rfl) ?_
        refine lv_if_ge (tgt := 36) hx hb dX11_square_29 (by decide) (fun c_3 => ?_) (fun c_3 => ?_)
        · have c_3 : 0 ≤ ms.toInt := zc_le (by decide) rfl c_3
          refine lv_iconst (v := 0) hx hb dX11_square_36 (by decide) ?_
          refine lv_istore_n (lv' := [(3, .int 0), (0, .ref k0), (1, .int (nI f)), (2, .int ms)]) hx hb dX11_square_37 rfl hl (by decide) rfl (fun ls hl => ?_)
          refine lv_iload_n hx hb dX11_square_38 rfl (lv_at hl 0 rfl) ?_
          refine lv_if_le (tgt := 48) hx hb dX11_square_39 (by decide) (fun c_4 => ?_) (fun c_4 => ?_)
          · refine lv_aload_n hx hb dX11_square_48 rfl (lv_at hl 1 rfl) ?_
            refine va_get (D := (dC, dI)) (ci := 9) (v := .ref (a 6)) (C := RX11) (T := TX11) (N := 55) hx hb hts inX11 hown hK hP 0 rfl rfl 6 (by decide) (hts _ mw_1165) (fun _ h9 => h9) rfl dX11_square_49 ?_
            refine lv_iload_n hx hb dX11_square_52 rfl (lv_at hl 2 rfl) ?_
            refine z_zald hx hb hK hP 2 1 rfl rfl (e := f) rfl (by omega) (by omega) dX11_square_53 ?_
            refine lv_if_eq (tgt := 63) hx hb dX11_square_54 (by decide) (fun c_5 => ?_) (fun c_5 => ?_)
            · have c_5 : (tn f).toInt = 0 := zc_eq rfl (by decide) c_5
              exfalso; omega
            · have c_5 : ¬ (tn f).toInt = 0 := zc_ne rfl (by decide) c_5
              refine lv_aload_n hx hb dX11_square_57 rfl (lv_at hl 1 rfl) ?_
              refine lv_iconst (v := 5) hx hb dX11_square_58 (by decide) ?_
              have hPc := hP.sub (ws' := [(om k0 a I0 J0)]) [0] rfl
              have hDc := hD.sub (ws' := [(om k0 a I0 J0)]) [0] (by decide) rfl
              have hFc := va_free (wc := [(om k0 a I0 J0)]) hD hS hA [0] rfl
              refine zcall (st1 := [.int 0]) (va_runV (As := [.int 5]) (rest := []) ⟨hx, hb, hml, hown, hts⟩ (k_M_no l dC dI cI cZ cF H.size k0 a I0 J0 5 (by decide)) (cwV 1 hts (zz_gV mw_1353 mw_1355 mw_38 mw_110 mc_yX11_no) rfl rfl rfl (by decide +kernel) ⟨Nat.le_of_ble_eq_true rfl, Nat.le_of_ble_eq_true rfl⟩) (zPV2 (q0 := 0) (ci := 9) hPc hDc hK hXN rfl rfl) rfl rfl hl.1 rfl (lv_room (Nat.le_of_ble_eq_true rfl)) dX11_square_59 ⟨Nat.le_of_ble_eq_true rfl, Nat.le_of_ble_eq_true rfl⟩) hS hFc hFc rfl (fun t H1 locs ht hB hk1 hS => ?_)
              obtain ⟨hP1, hD1⟩ := hB
              rw [ht] at hP1
              obtain ⟨hP, hD⟩ := va_join (wr := [(oa (a 5) cI 201 st), (oa (a 6) cZ 201 tn), (oa (a 1) cI 201 kd)]) (w1 := [(om k0 a (upd (upd I0 14 5) 15 (I0 15)) J0)]) hP hD [0] [1, 2, 3] rfl rfl (by decide) (by decide) hk1 hFc hP1 hD1
              clear hk1 hPc hDc hFc hP1 hD1 ht
              generalize H1 = H at hP hS ⊢
              have hP := hP.sub (ws' := [(om k0 a (upd (upd I0 14 5) 15 (I0 15)) J0), (oa (a 5) cI 201 st), (oa (a 6) cZ 201 tn), (oa (a 1) cI 201 kd)]) [3, 0, 1, 2] rfl
              have hD := hD.sub (ws' := [(om k0 a (upd (upd I0 14 5) 15 (I0 15)) J0), (oa (a 5) cI 201 st), (oa (a 6) cZ 201 tn), (oa (a 1) cI 201 kd)]) [3, 0, 1, 2] (by decide) rfl
              have hP : va_P (dC, dI) classes [(om k0 a (upd (upd I0 14 5) 15 (I0 15)) J0), (oa (a 5) cI 201 st), (oa (a 6) cZ 201 tn), (oa (a 1) cI 201 kd)] H := hP
              have hD : va_D A [(om k0 a (upd (upd I0 14 5) 15 (I0 15)) J0), (oa (a 5) cI 201 st), (oa (a 6) cZ 201 tn), (oa (a 1) cI 201 kd)] := hD
              have hP9 := hP.sub (ws' := [(om k0 a (upd (upd I0 14 5) 15 (I0 15)) J0), (oa (a 5) cI 201 st), (oa (a 6) cZ 201 tn), (oa (a 1) cI 201 kd)]) [0, 1, 2, 3] rfl
              have hD9 := hD.sub (ws' := [(om k0 a (upd (upd I0 14 5) 15 (I0 15)) J0), (oa (a 5) cI 201 st), (oa (a 6) cZ 201 tn), (oa (a 1) cI 201 kd)]) [0, 1, 2, 3] (by decide) rfl
              rw [hQ9]
              exact W.zret (ty := .boolean) (v := 0) hx hb hr (rfl) (fun t ht hW => ⟨⟨rfl, 5, by rw [ht]; exact hP9, hD9⟩, hS.F ht⟩) hS.2.2 dX11_square_62
          · exact absurd (by decide) c_4
        · have c_3 : ms.toInt < 0 := zc_nle (by decide) rfl c_3
          refine lv_iconst (v := 4) hx hb dX11_square_32 (by decide) ?_
          refine lv_goto (tgt := 37) hx hb dX11_square_33 (by decide) ?_
          refine lv_istore_n (lv' := [(3, .int 4), (0, .ref k0), (1, .int (nI f)), (2, .int ms)]) hx hb dX11_square_37 rfl hl (by decide) rfl (fun ls hl => ?_)
          refine lv_iload_n hx hb dX11_square_38 rfl (lv_at hl 0 rfl) ?_
          refine lv_if_le (tgt := 48) hx hb dX11_square_39 (by decide) (fun c_6 => ?_) (fun c_6 => ?_)
          · exact absurd c_6 (by decide)
          · refine lv_aload_n hx hb dX11_square_42 rfl (lv_at hl 1 rfl) ?_
            refine lv_iload_n hx hb dX11_square_43 rfl (lv_at hl 0 rfl) ?_
            have hPc := hP.sub (ws' := [(om k0 a I0 J0)]) [0] rfl
            have hDc := hD.sub (ws' := [(om k0 a I0 J0)]) [0] (by decide) rfl
            have hFc := va_free (wc := [(om k0 a I0 J0)]) hD hS hA [0] rfl
            refine zcall (st1 := [.int 0]) (va_runV (As := [.int 4]) (rest := []) ⟨hx, hb, hml, hown, hts⟩ (k_M_no l dC dI cI cZ cF H.size k0 a I0 J0 4 (by decide)) (cwV 1 hts (zz_gV mw_1353 mw_1355 mw_38 mw_110 mc_yX11_no) rfl rfl rfl (by decide +kernel) ⟨Nat.le_of_ble_eq_true rfl, Nat.le_of_ble_eq_true rfl⟩) (zPV2 (q0 := 0) (ci := 9) hPc hDc hK hXN rfl rfl) rfl rfl hl.1 rfl (lv_room (Nat.le_of_ble_eq_true rfl)) dX11_square_44 ⟨Nat.le_of_ble_eq_true rfl, Nat.le_of_ble_eq_true rfl⟩) hS hFc hFc rfl (fun t H1 locs ht hB hk1 hS => ?_)
            obtain ⟨hP1, hD1⟩ := hB
            rw [ht] at hP1
            obtain ⟨hP, hD⟩ := va_join (wr := [(oa (a 5) cI 201 st), (oa (a 6) cZ 201 tn), (oa (a 1) cI 201 kd)]) (w1 := [(om k0 a (upd (upd I0 14 4) 15 (I0 15)) J0)]) hP hD [0] [1, 2, 3] rfl rfl (by decide) (by decide) hk1 hFc hP1 hD1
            clear hk1 hPc hDc hFc hP1 hD1 ht
            generalize H1 = H at hP hS ⊢
            have hP := hP.sub (ws' := [(om k0 a (upd (upd I0 14 4) 15 (I0 15)) J0), (oa (a 5) cI 201 st), (oa (a 6) cZ 201 tn), (oa (a 1) cI 201 kd)]) [3, 0, 1, 2] rfl
            have hD := hD.sub (ws' := [(om k0 a (upd (upd I0 14 4) 15 (I0 15)) J0), (oa (a 5) cI 201 st), (oa (a 6) cZ 201 tn), (oa (a 1) cI 201 kd)]) [3, 0, 1, 2] (by decide) rfl
            have hP : va_P (dC, dI) classes [(om k0 a (upd (upd I0 14 4) 15 (I0 15)) J0), (oa (a 5) cI 201 st), (oa (a 6) cZ 201 tn), (oa (a 1) cI 201 kd)] H := hP
            have hD : va_D A [(om k0 a (upd (upd I0 14 4) 15 (I0 15)) J0), (oa (a 5) cI 201 st), (oa (a 6) cZ 201 tn), (oa (a 1) cI 201 kd)] := hD
            have hP9 := hP.sub (ws' := [(om k0 a (upd (upd I0 14 4) 15 (I0 15)) J0), (oa (a 5) cI 201 st), (oa (a 6) cZ 201 tn), (oa (a 1) cI 201 kd)]) [0, 1, 2, 3] rfl
            have hD9 := hD.sub (ws' := [(om k0 a (upd (upd I0 14 4) 15 (I0 15)) J0), (oa (a 5) cI 201 st), (oa (a 6) cZ 201 tn), (oa (a 1) cI 201 kd)]) [0, 1, 2, 3] (by decide) rfl
            rw [hQ9]
            exact W.zret (ty := .boolean) (v := 0) hx hb hr (rfl) (fun t ht hW => ⟨⟨rfl, 4, by rw [ht]; exact hP9, hD9⟩, hS.F ht⟩) hS.2.2 dX11_square_47
      · have c_2 : ¬ (kd f).toInt = 5 := zc_ne rfl (by decide) c_2
        refine lv_iconst (v := 3) hx hb dX11_square_24 (by decide) ?_
        refine lv_goto (tgt := 37) hx hb dX11_square_25 (by decide) ?_
        refine lv_istore_n (lv' := [(3, .int 3), (0, .ref k0), (1, .int (nI f)), (2, .int ms)]) hx hb dX11_square_37 rfl hl (by decide) rfl (fun ls hl => ?_)
        refine lv_iload_n hx hb dX11_square_38 rfl (lv_at hl 0 rfl) ?_
        refine lv_if_le (tgt := 48) hx hb dX11_square_39 (by decide) (fun c_7 => ?_) (fun c_7 => ?_)
        · exact absurd c_7 (by decide)
        · refine lv_aload_n hx hb dX11_square_42 rfl (lv_at hl 1 rfl) ?_
          refine lv_iload_n hx hb dX11_square_43 rfl (lv_at hl 0 rfl) ?_
          have hPc := hP.sub (ws' := [(om k0 a I0 J0)]) [0] rfl
          have hDc := hD.sub (ws' := [(om k0 a I0 J0)]) [0] (by decide) rfl
          have hFc := va_free (wc := [(om k0 a I0 J0)]) hD hS hA [0] rfl
          refine zcall (st1 := [.int 0]) (va_runV (As := [.int 3]) (rest := []) ⟨hx, hb, hml, hown, hts⟩ (k_M_no l dC dI cI cZ cF H.size k0 a I0 J0 3 (by decide)) (cwV 1 hts (zz_gV mw_1353 mw_1355 mw_38 mw_110 mc_yX11_no) rfl rfl rfl (by decide +kernel) ⟨Nat.le_of_ble_eq_true rfl, Nat.le_of_ble_eq_true rfl⟩) (zPV2 (q0 := 0) (ci := 9) hPc hDc hK hXN rfl rfl) rfl rfl hl.1 rfl (lv_room (Nat.le_of_ble_eq_true rfl)) dX11_square_44 ⟨Nat.le_of_ble_eq_true rfl, Nat.le_of_ble_eq_true rfl⟩) hS hFc hFc rfl (fun t H1 locs ht hB hk1 hS => ?_)
          obtain ⟨hP1, hD1⟩ := hB
          rw [ht] at hP1
          obtain ⟨hP, hD⟩ := va_join (wr := [(oa (a 5) cI 201 st), (oa (a 6) cZ 201 tn), (oa (a 1) cI 201 kd)]) (w1 := [(om k0 a (upd (upd I0 14 3) 15 (I0 15)) J0)]) hP hD [0] [1, 2, 3] rfl rfl (by decide) (by decide) hk1 hFc hP1 hD1
          clear hk1 hPc hDc hFc hP1 hD1 ht
          generalize H1 = H at hP hS ⊢
          have hP := hP.sub (ws' := [(om k0 a (upd (upd I0 14 3) 15 (I0 15)) J0), (oa (a 5) cI 201 st), (oa (a 6) cZ 201 tn), (oa (a 1) cI 201 kd)]) [3, 0, 1, 2] rfl
          have hD := hD.sub (ws' := [(om k0 a (upd (upd I0 14 3) 15 (I0 15)) J0), (oa (a 5) cI 201 st), (oa (a 6) cZ 201 tn), (oa (a 1) cI 201 kd)]) [3, 0, 1, 2] (by decide) rfl
          have hP : va_P (dC, dI) classes [(om k0 a (upd (upd I0 14 3) 15 (I0 15)) J0), (oa (a 5) cI 201 st), (oa (a 6) cZ 201 tn), (oa (a 1) cI 201 kd)] H := hP
          have hD : va_D A [(om k0 a (upd (upd I0 14 3) 15 (I0 15)) J0), (oa (a 5) cI 201 st), (oa (a 6) cZ 201 tn), (oa (a 1) cI 201 kd)] := hD
          have hP9 := hP.sub (ws' := [(om k0 a (upd (upd I0 14 3) 15 (I0 15)) J0), (oa (a 5) cI 201 st), (oa (a 6) cZ 201 tn), (oa (a 1) cI 201 kd)]) [0, 1, 2, 3] rfl
          have hD9 := hD.sub (ws' := [(om k0 a (upd (upd I0 14 3) 15 (I0 15)) J0), (oa (a 5) cI 201 st), (oa (a 6) cZ 201 tn), (oa (a 1) cI 201 kd)]) [0, 1, 2, 3] (by decide) rfl
          rw [hQ9]
          exact W.zret (ty := .boolean) (v := 0) hx hb hr (rfl) (fun t ht hW => ⟨⟨rfl, 3, by rw [ht]; exact hP9, hD9⟩, hS.F ht⟩) hS.2.2 dX11_square_47
    · exact absurd (by decide) c_1
  · skip
    refine lv_istore_n (lv' := [(3, .int 2), (0, .ref k0), (1, .int (nI f)), (2, .int ms)]) hx hb dX11_square_5 rfl hl (by decide) rfl (fun ls hl => ?_)
    refine lv_iload_n hx hb dX11_square_6 rfl (lv_at hl 0 rfl) ?_
    refine lv_if_le (tgt := 14) hx hb dX11_square_7 (by decide) (fun c_8 => ?_) (fun c_8 => ?_)
    · exact absurd c_8 (by decide)
    · refine lv_iload_n hx hb dX11_square_10 rfl (lv_at hl 0 rfl) ?_
      refine lv_goto (tgt := 37) hx hb dX11_square_11 (by decide) ?_
      refine lv_istore_n (lv' := [(3, .int 2), (0, .ref k0), (1, .int (nI f)), (2, .int ms)]) hx hb dX11_square_37 rfl hl (by decide) rfl (fun ls hl => ?_)
      refine lv_iload_n hx hb dX11_square_38 rfl (lv_at hl 0 rfl) ?_
      refine lv_if_le (tgt := 48) hx hb dX11_square_39 (by decide) (fun c_9 => ?_) (fun c_9 => ?_)
      · exact absurd c_9 (by decide)
      · refine lv_aload_n hx hb dX11_square_42 rfl (lv_at hl 1 rfl) ?_
        refine lv_iload_n hx hb dX11_square_43 rfl (lv_at hl 0 rfl) ?_
        have hPc := hP.sub (ws' := [(om k0 a I0 J0)]) [0] rfl
        have hDc := hD.sub (ws' := [(om k0 a I0 J0)]) [0] (by decide) rfl
        have hFc := va_free (wc := [(om k0 a I0 J0)]) hD hS hA [0] rfl
        refine zcall (st1 := [.int 0]) (va_runV (As := [.int 2]) (rest := []) ⟨hx, hb, hml, hown, hts⟩ (k_M_no l dC dI cI cZ cF H.size k0 a I0 J0 2 (by decide)) (cwV 1 hts (zz_gV mw_1353 mw_1355 mw_38 mw_110 mc_yX11_no) rfl rfl rfl (by decide +kernel) ⟨Nat.le_of_ble_eq_true rfl, Nat.le_of_ble_eq_true rfl⟩) (zPV2 (q0 := 0) (ci := 9) hPc hDc hK hXN rfl rfl) rfl rfl hl.1 rfl (lv_room (Nat.le_of_ble_eq_true rfl)) dX11_square_44 ⟨Nat.le_of_ble_eq_true rfl, Nat.le_of_ble_eq_true rfl⟩) hS hFc hFc rfl (fun t H1 locs ht hB hk1 hS => ?_)
        obtain ⟨hP1, hD1⟩ := hB
        rw [ht] at hP1
        obtain ⟨hP, hD⟩ := va_join (wr := [(oa (a 5) cI 201 st), (oa (a 6) cZ 201 tn), (oa (a 1) cI 201 kd)]) (w1 := [(om k0 a (upd (upd I0 14 2) 15 (I0 15)) J0)]) hP hD [0] [1, 2, 3] rfl rfl (by decide) (by decide) hk1 hFc hP1 hD1
        clear hk1 hPc hDc hFc hP1 hD1 ht
        generalize H1 = H at hP hS ⊢
        have hP := hP.sub (ws' := [(om k0 a (upd (upd I0 14 2) 15 (I0 15)) J0), (oa (a 5) cI 201 st), (oa (a 6) cZ 201 tn), (oa (a 1) cI 201 kd)]) [3, 0, 1, 2] rfl
        have hD := hD.sub (ws' := [(om k0 a (upd (upd I0 14 2) 15 (I0 15)) J0), (oa (a 5) cI 201 st), (oa (a 6) cZ 201 tn), (oa (a 1) cI 201 kd)]) [3, 0, 1, 2] (by decide) rfl
        have hP : va_P (dC, dI) classes [(om k0 a (upd (upd I0 14 2) 15 (I0 15)) J0), (oa (a 5) cI 201 st), (oa (a 6) cZ 201 tn), (oa (a 1) cI 201 kd)] H := hP
        have hD : va_D A [(om k0 a (upd (upd I0 14 2) 15 (I0 15)) J0), (oa (a 5) cI 201 st), (oa (a 6) cZ 201 tn), (oa (a 1) cI 201 kd)] := hD
        have hP9 := hP.sub (ws' := [(om k0 a (upd (upd I0 14 2) 15 (I0 15)) J0), (oa (a 5) cI 201 st), (oa (a 6) cZ 201 tn), (oa (a 1) cI 201 kd)]) [0, 1, 2, 3] rfl
        have hD9 := hD.sub (ws' := [(om k0 a (upd (upd I0 14 2) 15 (I0 15)) J0), (oa (a 5) cI 201 st), (oa (a 6) cZ 201 tn), (oa (a 1) cI 201 kd)]) [0, 1, 2, 3] (by decide) rfl
        rw [hQ9]
        exact W.zret (ty := .boolean) (v := 0) hx hb hr (rfl) (fun t ht hW => ⟨⟨rfl, 2, by rw [ht]; exact hP9, hD9⟩, hS.F ht⟩) hS.2.2 dX11_square_47
set_option maxHeartbeats 4000000 in
set_option maxRecDepth 100000 in
theorem k_M_shift_r (l : Launch) (dC : Nat → ClassId) (dI : Nat → Nat → Nat) (cI cZ cF : ClassId) (sz : Nat) (k0 : Nat) (a : Nat → Nat) (I0 : Nat → Int32) (J0 : Nat → Int64) (f : Nat) (ft : Nat) (n : Nat) (kv : Int32) (dx : Int32) (dy : Int32) (rv : Int32) (st : Nat → Int32) (tn : Nat → Int32) (mn : Nat → Int32) (hft : I0 0 = nI ft) (h200 : ft ≤ 200) (hf_t : f < ft) (hm_f : mn f = nI n) (hn_f : n ≤ 40) (hbad : ¬ (((tn f).toInt = 0 ∧ 0 ≤ kv.toInt ∧ kv.toInt < ((n : Nat) : Int)) ∧ (st f).toInt = 1 ∧ ¬ (¬ ((-200 ≤ dx.toInt ∧ dx.toInt ≤ 200) ∧ (-200 ≤ dy.toInt ∧ dy.toInt ≤ 200) ∧ (0 ≤ rv.toInt ∧ rv.toInt ≤ 20))))) : Met l yX11_shift (.code yX11_shift cX11_shift 13 (some .boolean) :: ws0) ({ frames := 2, cells := 0, slots := 0, locals := 42 } : Room) (va_Pc [.ref k0, .int (nI f), .int kv, .int dx, .int dy, .int rv] (zPre (dC, dI) classes (zTy cI cZ cF) [(om k0 a I0 J0), (oa (a 5) cI 201 st), (oa (a 6) cZ 201 tn), (oa (a 11) cI 201 mn)] sz zXN)) (zQ (some (.int 0)) (fun t => ∃ (z9 : Int32), va_P (dC, dI) classes [(om k0 a (upd (upd I0 14 z9) 15 (I0 15)) J0), (oa (a 5) cI 201 st), (oa (a 6) cZ 201 tn), (oa (a 11) cI 201 mn)] t.heap ∧ va_D (va_A [(om k0 a I0 J0), (oa (a 5) cI 201 st), (oa (a 6) cZ 201 tn), (oa (a 11) cI 201 mn)] sz) [(om k0 a (upd (upd I0 14 z9) 15 (I0 15)) J0), (oa (a 5) cI 201 st), (oa (a 6) cZ 201 tn), (oa (a 11) cI 201 mn)]) (va_A [(om k0 a I0 J0), (oa (a 5) cI 201 st), (oa (a 6) cZ 201 tn), (oa (a 11) cI 201 mn)] sz)) 0 0 (va_A [(om k0 a I0 J0), (oa (a 5) cI 201 st), (oa (a 6) cZ 201 tn), (oa (a 11) cI 201 mn)] sz) := by
  refine Met.ofW (cc := cX11_shift) (maxL := 13) (ret := (some .boolean)) (by decide) rfl ?_
  intro p e s m args below meth c s₁ B hml hv
  obtain ⟨rfl, hsz, hP, hK, hD0, hXN⟩ := hv
  have hx := B.exec
  have hb := B.bytes
  have hr := B.returns
  have hts0 := atoms_spec (ws := .code yX11_shift cX11_shift 13 (some .boolean) :: ws0) B.pre
  have hts : ∀ w9 ∈ ws0, w9.before ([.ref k0, .int (nI f), .int kv, .int dx, .int dy, .int rv] : List Value).toArray s = true := fun w9 h => hts0 w9 (List.mem_cons_of_mem _ h)
  have hown : s.vm.findClass "ScaleShopModel" = some m.cls := findClass_of_methodNamed B.named
  have hlocks := B.notSynchronized
  subst hsz
  have hD := hD0.self (sz := s.heap.size)
  clear hD0
  generalize hAe : va_A [(om k0 a I0 J0), (oa (a 5) cI 201 st), (oa (a 6) cZ 201 tn), (oa (a 11) cI 201 mn)] s.heap.size = A at hD ⊢
  have hA : ∀ q : Nat, s.heap.size ≤ q → A q := fun q h => by rw [← hAe]; exact Or.inr h
  clear hAe
  have hS : va_S A s.heap s.heap [] := va_S.rf
  have hP : va_P (dC, dI) classes [(om k0 a I0 J0), (oa (a 5) cI 201 st), (oa (a 6) cZ 201 tn), (oa (a 11) cI 201 mn)] s.heap := hP
  obtain ⟨Q9, hQ9⟩ : ∃ Q9 : State → Prop, Q9 = MQ below (zQ (some (.int 0)) (fun t => ∃ (z9 : Int32), va_P (dC, dI) classes [(om k0 a (upd (upd I0 14 z9) 15 (I0 15)) J0), (oa (a 5) cI 201 st), (oa (a 6) cZ 201 tn), (oa (a 11) cI 201 mn)] t.heap ∧ va_D A [(om k0 a (upd (upd I0 14 z9) 15 (I0 15)) J0), (oa (a 5) cI 201 st), (oa (a 6) cZ 201 tn), (oa (a 11) cI 201 mn)]) A) ([.ref k0, .int (nI f), .int kv, .int dx, .int dy, .int rv] : List Value).toArray s 0 0 A := ⟨_, rfl⟩
  rw [← hQ9]
  have hl := lv_entry ([.ref k0, .int (nI f), .int kv, .int dx, .int dy, .int rv]) (n := 13) (Nat.le_of_ble_eq_true rfl)
  rw [lg_entry_eq]
  generalize (lg_sl ([.ref k0, .int (nI f), .int kv, .int dx, .int dy, .int rv]) ++ List.replicate (13 - (lg_sl ([.ref k0, .int (nI f), .int kv, .int dx, .int dy, .int rv])).length) Slot.unset).toArray = ls at hl ⊢
  have hl : lv_has ls 13 [(0, .ref k0), (1, .int (nI f)), (2, .int kv), (3, .int dx), (4, .int dy), (5, .int rv)] := hl
  refine lv_aload_n hx hb dX11_shift_0 rfl (lv_at hl 0 rfl) ?_
  refine lv_iload_n hx hb dX11_shift_1 rfl (lv_at hl 1 rfl) ?_
  have hPc := hP.sub (ws' := [(om k0 a I0 J0)]) [0] rfl
  have hDc := hD.sub (ws' := [(om k0 a I0 J0)]) [0] (by decide) rfl
  have hFc := va_free (wc := [(om k0 a I0 J0)]) hD hS hA [0] rfl
  refine zcall (st1 := [.int (pI (f < ft))]) (va_runV (As := [.int (nI f)]) (rest := []) ⟨hx, hb, hml, hown, hts⟩ (k_M_isFeature_n l dC dI cI cZ cF s.heap.size k0 a I0 J0 f ft (by assumption) (by omega) (by omega)) (cwV 1 hts (zz_gV mw_1345 mw_1347 mw_37 mw_110 mc_yX11_isFeature) rfl rfl rfl (by decide +kernel) ⟨Nat.le_of_ble_eq_true rfl, Nat.le_of_ble_eq_true rfl⟩) (zPV2 (q0 := 0) (ci := 9) hPc hDc hK hXN rfl rfl) rfl rfl hl.1 rfl (lv_room (Nat.le_of_ble_eq_true rfl)) dX11_shift_2 ⟨Nat.le_of_ble_eq_true rfl, Nat.le_of_ble_eq_true rfl⟩) hS hFc hFc rfl (fun t H1 locs ht hB hk1 hS => ?_)
  obtain ⟨hP1, hD1⟩ := hB
  rw [ht] at hP1
  obtain ⟨hP, hD⟩ := va_join (wr := [(oa (a 5) cI 201 st), (oa (a 6) cZ 201 tn), (oa (a 11) cI 201 mn)]) (w1 := [(om k0 a I0 J0)]) hP hD [0] [1, 2, 3] rfl rfl (by decide) (by decide) hk1 hFc hP1 hD1
  clear hk1 hPc hDc hFc hP1 hD1 ht
  generalize H1 = H at hP hS ⊢
  have hP := hP.sub (ws' := [(om k0 a I0 J0), (oa (a 5) cI 201 st), (oa (a 6) cZ 201 tn), (oa (a 11) cI 201 mn)]) [3, 0, 1, 2] rfl
  have hD := hD.sub (ws' := [(om k0 a I0 J0), (oa (a 5) cI 201 st), (oa (a 6) cZ 201 tn), (oa (a 11) cI 201 mn)]) [3, 0, 1, 2] (by decide) rfl
  have hP : va_P (dC, dI) classes [(om k0 a I0 J0), (oa (a 5) cI 201 st), (oa (a 6) cZ 201 tn), (oa (a 11) cI 201 mn)] H := hP
  have hD : va_D A [(om k0 a I0 J0), (oa (a 5) cI 201 st), (oa (a 6) cZ 201 tn), (oa (a 11) cI 201 mn)] := hD
  have hj_1 : W p l e ((headSpec (.code yX11_shift cX11_shift 13 (some .boolean) :: ws0) ({ frames := 2, cells := 0, slots := 0, locals := 42 } : Room)).room) s m ([.ref k0, .int (nI f), .int kv, .int dx, .int dy, .int rv] : List Value).toArray below meth c H locs 0 0 Q9 (F0 m 36 ls [.int (pI ((tn f).toInt = 0 ∧ ¬ (0 ≤ kv.toInt ∧ kv.toInt < ((n : Nat) : Int))))]) := by
    refine lv_istore (lv' := [(6, .int (pI ((tn f).toInt = 0 ∧ ¬ (0 ≤ kv.toInt ∧ kv.toInt < ((n : Nat) : Int))))), (0, .ref k0), (1, .int (nI f)), (2, .int kv), (3, .int dx), (4, .int dy), (5, .int rv)]) hx hb dX11_shift_36 hl (by decide) rfl (fun ls hl => ?_)
    refine lv_aload_n hx hb dX11_shift_38 rfl (lv_at hl 1 rfl) ?_
    refine lv_iload_n hx hb dX11_shift_39 rfl (lv_at hl 2 rfl) ?_
    have hPc := hP.sub (ws' := [(om k0 a I0 J0)]) [0] rfl
    have hDc := hD.sub (ws' := [(om k0 a I0 J0)]) [0] (by decide) rfl
    have hFc := va_free (wc := [(om k0 a I0 J0)]) hD hS hA [0] rfl
    refine zcall (st1 := [.int (pI (f < ft))]) (va_runV (As := [.int (nI f)]) (rest := []) ⟨hx, hb, hml, hown, hts⟩ (k_M_isFeature_n l dC dI cI cZ cF H.size k0 a I0 J0 f ft (by assumption) (by omega) (by omega)) (cwV 1 hts (zz_gV mw_1345 mw_1347 mw_37 mw_110 mc_yX11_isFeature) rfl rfl rfl (by decide +kernel) ⟨Nat.le_of_ble_eq_true rfl, Nat.le_of_ble_eq_true rfl⟩) (zPV2 (q0 := 0) (ci := 9) hPc hDc hK hXN rfl rfl) rfl rfl hl.1 rfl (lv_room (Nat.le_of_ble_eq_true rfl)) dX11_shift_40 ⟨Nat.le_of_ble_eq_true rfl, Nat.le_of_ble_eq_true rfl⟩) hS hFc hFc rfl (fun t H1 locs ht hB hk1 hS => ?_)
    obtain ⟨hP1, hD1⟩ := hB
    rw [ht] at hP1
    obtain ⟨hP, hD⟩ := va_join (wr := [(oa (a 5) cI 201 st), (oa (a 6) cZ 201 tn), (oa (a 11) cI 201 mn)]) (w1 := [(om k0 a I0 J0)]) hP hD [0] [1, 2, 3] rfl rfl (by decide) (by decide) hk1 hFc hP1 hD1
    clear hk1 hPc hDc hFc hP1 hD1 ht
    generalize H1 = H at hP hS ⊢
    have hP := hP.sub (ws' := [(om k0 a I0 J0), (oa (a 5) cI 201 st), (oa (a 6) cZ 201 tn), (oa (a 11) cI 201 mn)]) [3, 0, 1, 2] rfl
    have hD := hD.sub (ws' := [(om k0 a I0 J0), (oa (a 5) cI 201 st), (oa (a 6) cZ 201 tn), (oa (a 11) cI 201 mn)]) [3, 0, 1, 2] (by decide) rfl
    have hP : va_P (dC, dI) classes [(om k0 a I0 J0), (oa (a 5) cI 201 st), (oa (a 6) cZ 201 tn), (oa (a 11) cI 201 mn)] H := hP
    have hD : va_D A [(om k0 a I0 J0), (oa (a 5) cI 201 st), (oa (a 6) cZ 201 tn), (oa (a 11) cI 201 mn)] := hD
    refine lv_if_eq (tgt := 51) hx hb dX11_shift_43 (by decide) (fun c_2 => ?_) (fun c_2 => ?_)
    · have c_2 : ¬ (f < ft) := zp_0 c_2
      exfalso; omega
    · have c_2 : f < ft := zp_1 c_2
      refine lv_iload hx hb dX11_shift_46 (lv_at hl 0 rfl) ?_
      refine lv_if_eq (tgt := 55) hx hb dX11_shift_48 (by decide) (fun c_3 => ?_) (fun c_3 => ?_)
      · have c_3 : ¬ ((tn f).toInt = 0 ∧ ¬ (0 ≤ kv.toInt ∧ kv.toInt < ((n : Nat) : Int))) := zp_0 c_3
        refine lv_aload_n hx hb dX11_shift_55 rfl (lv_at hl 1 rfl) ?_
        refine va_get (D := (dC, dI)) (ci := 9) (v := .ref (a 5)) (C := RX11) (T := TX11) (N := 55) hx hb hts inX11 hown hK hP 0 rfl rfl 5 (by decide) (hts _ mw_1164) (fun _ h9 => h9) rfl dX11_shift_56 ?_
        refine lv_iload_n hx hb dX11_shift_59 rfl (lv_at hl 2 rfl) ?_
        refine z_iald hx hb hK hP 1 0 rfl rfl (e := f) rfl (by omega) (by omega) dX11_shift_60 ?_
        refine lv_iconst (v := 1) hx hb dX11_shift_61 (by decide) ?_
        refine lv_icmp_eq (tgt := 69) hx hb dX11_shift_62 (by decide) (fun c_4 => ?_) (fun c_4 => ?_)
        · have c_4 : (st f).toInt = 1 := zc_eq rfl (by decide) c_4
          refine lv_iconst (v := 0) hx hb dX11_shift_69 (by decide) ?_
          refine lv_istore (lv' := [(7, .int 0), (6, .int (pI ((tn f).toInt = 0 ∧ ¬ (0 ≤ kv.toInt ∧ kv.toInt < ((n : Nat) : Int))))), (0, .ref k0), (1, .int (nI f)), (2, .int kv), (3, .int dx), (4, .int dy), (5, .int rv)]) hx hb dX11_shift_70 hl (by decide) rfl (fun ls hl => ?_)
          have hj_5 : W p l e ((headSpec (.code yX11_shift cX11_shift 13 (some .boolean) :: ws0) ({ frames := 2, cells := 0, slots := 0, locals := 42 } : Room)).room) s m ([.ref k0, .int (nI f), .int kv, .int dx, .int dy, .int rv] : List Value).toArray below meth c H locs 0 0 Q9 (F0 m 119 ls [.int (pI (¬ ((-200 ≤ dx.toInt ∧ dx.toInt ≤ 200) ∧ (-200 ≤ dy.toInt ∧ dy.toInt ≤ 200) ∧ (0 ≤ rv.toInt ∧ rv.toInt ≤ 20))))]) := by
            refine lv_istore (lv' := [(8, .int (pI (¬ ((-200 ≤ dx.toInt ∧ dx.toInt ≤ 200) ∧ (-200 ≤ dy.toInt ∧ dy.toInt ≤ 200) ∧ (0 ≤ rv.toInt ∧ rv.toInt ≤ 20))))), (7, .int 0), (6, .int (pI ((tn f).toInt = 0 ∧ ¬ (0 ≤ kv.toInt ∧ kv.toInt < ((n : Nat) : Int))))), (0, .ref k0), (1, .int (nI f)), (2, .int kv), (3, .int dx), (4, .int dy), (5, .int rv)]) hx hb dX11_shift_119 hl (by decide) rfl (fun ls hl => ?_)
            refine lv_iload hx hb dX11_shift_121 (lv_at hl 1 rfl) ?_
            refine lv_if_le (tgt := 131) hx hb dX11_shift_123 (by decide) (fun c_6 => ?_) (fun c_6 => ?_)
            · refine lv_iload hx hb dX11_shift_131 (lv_at hl 0 rfl) ?_
              refine lv_if_eq (tgt := 140) hx hb dX11_shift_133 (by decide) (fun c_7 => ?_) (fun c_7 => ?_)
              · have c_7 : ¬ (¬ ((-200 ≤ dx.toInt ∧ dx.toInt ≤ 200) ∧ (-200 ≤ dy.toInt ∧ dy.toInt ≤ 200) ∧ (0 ≤ rv.toInt ∧ rv.toInt ≤ 20))) := zp_0 c_7
                refine lv_aload_n hx hb dX11_shift_140 rfl (lv_at hl 3 rfl) ?_
                refine va_get (D := (dC, dI)) (ci := 9) (v := .ref (a 6)) (C := RX11) (T := TX11) (N := 55) hx hb hts inX11 hown hK hP 0 rfl rfl 6 (by decide) (hts _ mw_1165) (fun _ h9 => h9) rfl dX11_shift_141 ?_
                refine lv_iload_n hx hb dX11_shift_144 rfl (lv_at hl 4 rfl) ?_
                refine z_zald hx hb hK hP 2 1 rfl rfl (e := f) rfl (by omega) (by omega) dX11_shift_145 ?_
                refine lv_if_eq (tgt := 153) hx hb dX11_shift_146 (by decide) (fun c_8 => ?_) (fun c_8 => ?_)
                · have c_8 : (tn f).toInt = 0 := zc_eq rfl (by decide) c_8
                  refine lv_iconst (v := 0) hx hb dX11_shift_153 (by decide) ?_
                  refine lv_istore (lv' := [(7, .int 0), (8, .int (pI (¬ ((-200 ≤ dx.toInt ∧ dx.toInt ≤ 200) ∧ (-200 ≤ dy.toInt ∧ dy.toInt ≤ 200) ∧ (0 ≤ rv.toInt ∧ rv.toInt ≤ 20))))), (6, .int (pI ((tn f).toInt = 0 ∧ ¬ (0 ≤ kv.toInt ∧ kv.toInt < ((n : Nat) : Int))))), (0, .ref k0), (1, .int (nI f)), (2, .int kv), (3, .int dx), (4, .int dy), (5, .int rv)]) hx hb dX11_shift_154 hl (by decide) rfl (fun ls hl => ?_)
                  refine lv_iload hx hb dX11_shift_156 (lv_at hl 0 rfl) ?_
                  refine lv_if_le (tgt := 168) hx hb dX11_shift_158 (by decide) (fun c_9 => ?_) (fun c_9 => ?_)
                  · exfalso; omega
                  · exact absurd (by decide) c_9
                · have c_8 : ¬ (tn f).toInt = 0 := zc_ne rfl (by decide) c_8
                  refine lv_iconst (v := 5) hx hb dX11_shift_149 (by decide) ?_
                  refine lv_goto (tgt := 154) hx hb dX11_shift_150 (by decide) ?_
                  refine lv_istore (lv' := [(7, .int 5), (8, .int (pI (¬ ((-200 ≤ dx.toInt ∧ dx.toInt ≤ 200) ∧ (-200 ≤ dy.toInt ∧ dy.toInt ≤ 200) ∧ (0 ≤ rv.toInt ∧ rv.toInt ≤ 20))))), (6, .int (pI ((tn f).toInt = 0 ∧ ¬ (0 ≤ kv.toInt ∧ kv.toInt < ((n : Nat) : Int))))), (0, .ref k0), (1, .int (nI f)), (2, .int kv), (3, .int dx), (4, .int dy), (5, .int rv)]) hx hb dX11_shift_154 hl (by decide) rfl (fun ls hl => ?_)
                  refine lv_iload hx hb dX11_shift_156 (lv_at hl 0 rfl) ?_
                  refine lv_if_le (tgt := 168) hx hb dX11_shift_158 (by decide) (fun c_10 => ?_) (fun c_10 => ?_)
                  · exact absurd c_10 (by decide)
                  · refine lv_aload_n hx hb dX11_shift_161 rfl (lv_at hl 3 rfl) ?_
                    refine lv_iload hx hb dX11_shift_162 (lv_at hl 0 rfl) ?_
                    have hPc := hP.sub (ws' := [(om k0 a I0 J0)]) [0] rfl
                    have hDc := hD.sub (ws' := [(om k0 a I0 J0)]) [0] (by decide) rfl
                    have hFc := va_free (wc := [(om k0 a I0 J0)]) hD hS hA [0] rfl
                    refine zcall (st1 := [.int 0]) (va_runV (As := [.int 5]) (rest := []) ⟨hx, hb, hml, hown, hts⟩ (k_M_no l dC dI cI cZ cF H.size k0 a I0 J0 5 (by decide)) (cwV 1 hts (zz_gV mw_1353 mw_1355 mw_38 mw_110 mc_yX11_no) rfl rfl rfl (by decide +kernel) ⟨Nat.le_of_ble_eq_true rfl, Nat.le_of_ble_eq_true rfl⟩) (zPV2 (q0 := 0) (ci := 9) hPc hDc hK hXN rfl rfl) rfl rfl hl.1 rfl (lv_room (Nat.le_of_ble_eq_true rfl)) dX11_shift_164 ⟨Nat.le_of_ble_eq_true rfl, Nat.le_of_ble_eq_true rfl⟩) hS hFc hFc rfl (fun t H1 locs ht hB hk1 hS => ?_)
                    obtain ⟨hP1, hD1⟩ := hB
                    rw [ht] at hP1
                    obtain ⟨hP, hD⟩ := va_join (wr := [(oa (a 5) cI 201 st), (oa (a 6) cZ 201 tn), (oa (a 11) cI 201 mn)]) (w1 := [(om k0 a (upd (upd I0 14 5) 15 (I0 15)) J0)]) hP hD [0] [1, 2, 3] rfl rfl (by decide) (by decide) hk1 hFc hP1 hD1
                    clear hk1 hPc hDc hFc hP1 hD1 ht
                    generalize H1 = H at hP hS ⊢
                    have hP := hP.sub (ws' := [(om k0 a (upd (upd I0 14 5) 15 (I0 15)) J0), (oa (a 5) cI 201 st), (oa (a 6) cZ 201 tn), (oa (a 11) cI 201 mn)]) [3, 0, 1, 2] rfl
                    have hD := hD.sub (ws' := [(om k0 a (upd (upd I0 14 5) 15 (I0 15)) J0), (oa (a 5) cI 201 st), (oa (a 6) cZ 201 tn), (oa (a 11) cI 201 mn)]) [3, 0, 1, 2] (by decide) rfl
                    have hP : va_P (dC, dI) classes [(om k0 a (upd (upd I0 14 5) 15 (I0 15)) J0), (oa (a 5) cI 201 st), (oa (a 6) cZ 201 tn), (oa (a 11) cI 201 mn)] H := hP
                    have hD : va_D A [(om k0 a (upd (upd I0 14 5) 15 (I0 15)) J0), (oa (a 5) cI 201 st), (oa (a 6) cZ 201 tn), (oa (a 11) cI 201 mn)] := hD
                    have hP9 := hP.sub (ws' := [(om k0 a (upd (upd I0 14 5) 15 (I0 15)) J0), (oa (a 5) cI 201 st), (oa (a 6) cZ 201 tn), (oa (a 11) cI 201 mn)]) [0, 1, 2, 3] rfl
                    have hD9 := hD.sub (ws' := [(om k0 a (upd (upd I0 14 5) 15 (I0 15)) J0), (oa (a 5) cI 201 st), (oa (a 6) cZ 201 tn), (oa (a 11) cI 201 mn)]) [0, 1, 2, 3] (by decide) rfl
                    rw [hQ9]
                    exact W.zret (ty := .boolean) (v := 0) hx hb hr (rfl) (fun t ht hW => ⟨⟨rfl, 5, by rw [ht]; exact hP9, hD9⟩, hS.F ht⟩) hS.2.2 dX11_shift_167
              · have c_7 : ¬ ((-200 ≤ dx.toInt ∧ dx.toInt ≤ 200) ∧ (-200 ≤ dy.toInt ∧ dy.toInt ≤ 200) ∧ (0 ≤ rv.toInt ∧ rv.toInt ≤ 20)) := zp_1 c_7
                refine lv_iconst (v := 4) hx hb dX11_shift_136 (by decide) ?_
                refine lv_goto (tgt := 154) hx hb dX11_shift_137 (by decide) ?_
                refine lv_istore (lv' := [(7, .int 4), (8, .int (pI (¬ ((-200 ≤ dx.toInt ∧ dx.toInt ≤ 200) ∧ (-200 ≤ dy.toInt ∧ dy.toInt ≤ 200) ∧ (0 ≤ rv.toInt ∧ rv.toInt ≤ 20))))), (6, .int (pI ((tn f).toInt = 0 ∧ ¬ (0 ≤ kv.toInt ∧ kv.toInt < ((n : Nat) : Int))))), (0, .ref k0), (1, .int (nI f)), (2, .int kv), (3, .int dx), (4, .int dy), (5, .int rv)]) hx hb dX11_shift_154 hl (by decide) rfl (fun ls hl => ?_)
                refine lv_iload hx hb dX11_shift_156 (lv_at hl 0 rfl) ?_
                refine lv_if_le (tgt := 168) hx hb dX11_shift_158 (by decide) (fun c_11 => ?_) (fun c_11 => ?_)
                · exact absurd c_11 (by decide)
                · refine lv_aload_n hx hb dX11_shift_161 rfl (lv_at hl 3 rfl) ?_
                  refine lv_iload hx hb dX11_shift_162 (lv_at hl 0 rfl) ?_
                  have hPc := hP.sub (ws' := [(om k0 a I0 J0)]) [0] rfl
                  have hDc := hD.sub (ws' := [(om k0 a I0 J0)]) [0] (by decide) rfl
                  have hFc := va_free (wc := [(om k0 a I0 J0)]) hD hS hA [0] rfl
                  refine zcall (st1 := [.int 0]) (va_runV (As := [.int 4]) (rest := []) ⟨hx, hb, hml, hown, hts⟩ (k_M_no l dC dI cI cZ cF H.size k0 a I0 J0 4 (by decide)) (cwV 1 hts (zz_gV mw_1353 mw_1355 mw_38 mw_110 mc_yX11_no) rfl rfl rfl (by decide +kernel) ⟨Nat.le_of_ble_eq_true rfl, Nat.le_of_ble_eq_true rfl⟩) (zPV2 (q0 := 0) (ci := 9) hPc hDc hK hXN rfl rfl) rfl rfl hl.1 rfl (lv_room (Nat.le_of_ble_eq_true rfl)) dX11_shift_164 ⟨Nat.le_of_ble_eq_true rfl, Nat.le_of_ble_eq_true rfl⟩) hS hFc hFc rfl (fun t H1 locs ht hB hk1 hS => ?_)
                  obtain ⟨hP1, hD1⟩ := hB
                  rw [ht] at hP1
                  obtain ⟨hP, hD⟩ := va_join (wr := [(oa (a 5) cI 201 st), (oa (a 6) cZ 201 tn), (oa (a 11) cI 201 mn)]) (w1 := [(om k0 a (upd (upd I0 14 4) 15 (I0 15)) J0)]) hP hD [0] [1, 2, 3] rfl rfl (by decide) (by decide) hk1 hFc hP1 hD1
                  clear hk1 hPc hDc hFc hP1 hD1 ht
                  generalize H1 = H at hP hS ⊢
                  have hP := hP.sub (ws' := [(om k0 a (upd (upd I0 14 4) 15 (I0 15)) J0), (oa (a 5) cI 201 st), (oa (a 6) cZ 201 tn), (oa (a 11) cI 201 mn)]) [3, 0, 1, 2] rfl
                  have hD := hD.sub (ws' := [(om k0 a (upd (upd I0 14 4) 15 (I0 15)) J0), (oa (a 5) cI 201 st), (oa (a 6) cZ 201 tn), (oa (a 11) cI 201 mn)]) [3, 0, 1, 2] (by decide) rfl
                  have hP : va_P (dC, dI) classes [(om k0 a (upd (upd I0 14 4) 15 (I0 15)) J0), (oa (a 5) cI 201 st), (oa (a 6) cZ 201 tn), (oa (a 11) cI 201 mn)] H := hP
                  have hD : va_D A [(om k0 a (upd (upd I0 14 4) 15 (I0 15)) J0), (oa (a 5) cI 201 st), (oa (a 6) cZ 201 tn), (oa (a 11) cI 201 mn)] := hD
                  have hP9 := hP.sub (ws' := [(om k0 a (upd (upd I0 14 4) 15 (I0 15)) J0), (oa (a 5) cI 201 st), (oa (a 6) cZ 201 tn), (oa (a 11) cI 201 mn)]) [0, 1, 2, 3] rfl
                  have hD9 := hD.sub (ws' := [(om k0 a (upd (upd I0 14 4) 15 (I0 15)) J0), (oa (a 5) cI 201 st), (oa (a 6) cZ 201 tn), (oa (a 11) cI 201 mn)]) [0, 1, 2, 3] (by decide) rfl
                  rw [hQ9]
                  exact W.zret (ty := .boolean) (v := 0) hx hb hr (rfl) (fun t ht hW => ⟨⟨rfl, 4, by rw [ht]; exact hP9, hD9⟩, hS.F ht⟩) hS.2.2 dX11_shift_167
            · exact absurd (by decide) c_6
          refine lv_iload_n hx hb dX11_shift_72 rfl (lv_at hl 5 rfl) ?_
          refine lv_sipush (v := (-200)) hx hb dX11_shift_73 (by decide) ?_
          refine lv_icmp_lt (tgt := 114) hx hb dX11_shift_76 (by decide) (fun c_12 => ?_) (fun c_12 => ?_)
          · have c_12 : dx.toInt < (-200) := zc_lt rfl (by decide) c_12
            refine lv_iconst (v := 1) hx hb dX11_shift_114 (by decide) ?_
            refine lv_goto (tgt := 119) hx hb dX11_shift_115 (by decide) ?_
            refine zz_i (v := pI (¬ ((-200 ≤ dx.toInt ∧ dx.toInt ≤ 200) ∧ (-200 ≤ dy.toInt ∧ dy.toInt ≤ 200) ∧ (0 ≤ rv.toInt ∧ rv.toInt ≤ 20)))) (by first | exact (zp_t (by omega)).symm | exact (zp_f (by omega)).symm) ?_
            exact hj_5 
          · have c_12 : (-200) ≤ dx.toInt := zc_nlt rfl (by decide) c_12
            refine lv_iload_n hx hb dX11_shift_79 rfl (lv_at hl 5 rfl) ?_
            refine lv_sipush (v := 200) hx hb dX11_shift_80 (by decide) ?_
            refine lv_icmp_gt (tgt := 114) hx hb dX11_shift_83 (by decide) (fun c_13 => ?_) (fun c_13 => ?_)
            · have c_13 : 200 < dx.toInt := zc_lt (by decide) rfl c_13
              refine lv_iconst (v := 1) hx hb dX11_shift_114 (by decide) ?_
              refine lv_goto (tgt := 119) hx hb dX11_shift_115 (by decide) ?_
              refine zz_i (v := pI (¬ ((-200 ≤ dx.toInt ∧ dx.toInt ≤ 200) ∧ (-200 ≤ dy.toInt ∧ dy.toInt ≤ 200) ∧ (0 ≤ rv.toInt ∧ rv.toInt ≤ 20)))) (by first | exact (zp_t (by omega)).symm | exact (zp_f (by omega)).symm) ?_
              exact hj_5 
            · have c_13 : dx.toInt ≤ 200 := zc_nlt (by decide) rfl c_13
              refine lv_iload hx hb dX11_shift_86 (lv_at hl 6 rfl) ?_
              refine lv_sipush (v := (-200)) hx hb dX11_shift_88 (by decide) ?_
              refine lv_icmp_lt (tgt := 114) hx hb dX11_shift_91 (by decide) (fun c_14 => ?_) (fun c_14 => ?_)
              · have c_14 : dy.toInt < (-200) := zc_lt rfl (by decide) c_14
                refine lv_iconst (v := 1) hx hb dX11_shift_114 (by decide) ?_
                refine lv_goto (tgt := 119) hx hb dX11_shift_115 (by decide) ?_
                refine zz_i (v := pI (¬ ((-200 ≤ dx.toInt ∧ dx.toInt ≤ 200) ∧ (-200 ≤ dy.toInt ∧ dy.toInt ≤ 200) ∧ (0 ≤ rv.toInt ∧ rv.toInt ≤ 20)))) (by first | exact (zp_t (by omega)).symm | exact (zp_f (by omega)).symm) ?_
                exact hj_5 
              · have c_14 : (-200) ≤ dy.toInt := zc_nlt rfl (by decide) c_14
                refine lv_iload hx hb dX11_shift_94 (lv_at hl 6 rfl) ?_
                refine lv_sipush (v := 200) hx hb dX11_shift_96 (by decide) ?_
                refine lv_icmp_gt (tgt := 114) hx hb dX11_shift_99 (by decide) (fun c_15 => ?_) (fun c_15 => ?_)
                · have c_15 : 200 < dy.toInt := zc_lt (by decide) rfl c_15
                  refine lv_iconst (v := 1) hx hb dX11_shift_114 (by decide) ?_
                  refine lv_goto (tgt := 119) hx hb dX11_shift_115 (by decide) ?_
                  refine zz_i (v := pI (¬ ((-200 ≤ dx.toInt ∧ dx.toInt ≤ 200) ∧ (-200 ≤ dy.toInt ∧ dy.toInt ≤ 200) ∧ (0 ≤ rv.toInt ∧ rv.toInt ≤ 20)))) (by first | exact (zp_t (by omega)).symm | exact (zp_f (by omega)).symm) ?_
                  exact hj_5 
                · have c_15 : dy.toInt ≤ 200 := zc_nlt (by decide) rfl c_15
                  refine lv_iload hx hb dX11_shift_102 (lv_at hl 7 rfl) ?_
                  refine lv_if_lt (tgt := 114) hx hb dX11_shift_104 (by decide) (fun c_16 => ?_) (fun c_16 => ?_)
                  · have c_16 : rv.toInt < 0 := zc_lt rfl (by decide) c_16
                    refine lv_iconst (v := 1) hx hb dX11_shift_114 (by decide) ?_
                    refine lv_goto (tgt := 119) hx hb dX11_shift_115 (by decide) ?_
                    refine zz_i (v := pI (¬ ((-200 ≤ dx.toInt ∧ dx.toInt ≤ 200) ∧ (-200 ≤ dy.toInt ∧ dy.toInt ≤ 200) ∧ (0 ≤ rv.toInt ∧ rv.toInt ≤ 20)))) (by first | exact (zp_t (by omega)).symm | exact (zp_f (by omega)).symm) ?_
                    exact hj_5 
                  · have c_16 : 0 ≤ rv.toInt := zc_nlt rfl (by decide) c_16
                    refine lv_iload hx hb dX11_shift_107 (lv_at hl 7 rfl) ?_
                    refine lv_bipush (v := 20) hx hb dX11_shift_109 (by decide) ?_
                    refine lv_icmp_le (tgt := 118) hx hb dX11_shift_111 (by decide) (fun c_17 => ?_) (fun c_17 => ?_)
                    · have c_17 : rv.toInt ≤ 20 := zc_le rfl (by decide) c_17
                      refine lv_iconst (v := 0) hx hb dX11_shift_118 (by decide) ?_
                      refine zz_i (v := pI (¬ ((-200 ≤ dx.toInt ∧ dx.toInt ≤ 200) ∧ (-200 ≤ dy.toInt ∧ dy.toInt ≤ 200) ∧ (0 ≤ rv.toInt ∧ rv.toInt ≤ 20)))) (by first | exact (zp_t (by omega)).symm | exact (zp_f (by omega)).symm) ?_
                      exact hj_5 
                    · have c_17 : 20 < rv.toInt := zc_nle rfl (by decide) c_17
                      refine lv_iconst (v := 1) hx hb dX11_shift_114 (by decide) ?_
                      refine lv_goto (tgt := 119) hx hb dX11_shift_115 (by decide) ?_
                      refine zz_i (v := pI (¬ ((-200 ≤ dx.toInt ∧ dx.toInt ≤ 200) ∧ (-200 ≤ dy.toInt ∧ dy.toInt ≤ 200) ∧ (0 ≤ rv.toInt ∧ rv.toInt ≤ 20)))) (by first | exact (zp_t (by omega)).symm | exact (zp_f (by omega)).symm) ?_
                      exact hj_5 
        · have c_4 : ¬ (st f).toInt = 1 := zc_ne rfl (by decide) c_4
          refine lv_iconst (v := 2) hx hb dX11_shift_65 (by decide) ?_
          refine lv_goto (tgt := 70) hx hb dX11_shift_66 (by decide) ?_
          refine lv_istore (lv' := [(7, .int 2), (6, .int (pI ((tn f).toInt = 0 ∧ ¬ (0 ≤ kv.toInt ∧ kv.toInt < ((n : Nat) : Int))))), (0, .ref k0), (1, .int (nI f)), (2, .int kv), (3, .int dx), (4, .int dy), (5, .int rv)]) hx hb dX11_shift_70 hl (by decide) rfl (fun ls hl => ?_)
          have hj_18 : W p l e ((headSpec (.code yX11_shift cX11_shift 13 (some .boolean) :: ws0) ({ frames := 2, cells := 0, slots := 0, locals := 42 } : Room)).room) s m ([.ref k0, .int (nI f), .int kv, .int dx, .int dy, .int rv] : List Value).toArray below meth c H locs 0 0 Q9 (F0 m 119 ls [.int (pI (¬ ((-200 ≤ dx.toInt ∧ dx.toInt ≤ 200) ∧ (-200 ≤ dy.toInt ∧ dy.toInt ≤ 200) ∧ (0 ≤ rv.toInt ∧ rv.toInt ≤ 20))))]) := by
            refine lv_istore (lv' := [(8, .int (pI (¬ ((-200 ≤ dx.toInt ∧ dx.toInt ≤ 200) ∧ (-200 ≤ dy.toInt ∧ dy.toInt ≤ 200) ∧ (0 ≤ rv.toInt ∧ rv.toInt ≤ 20))))), (7, .int 2), (6, .int (pI ((tn f).toInt = 0 ∧ ¬ (0 ≤ kv.toInt ∧ kv.toInt < ((n : Nat) : Int))))), (0, .ref k0), (1, .int (nI f)), (2, .int kv), (3, .int dx), (4, .int dy), (5, .int rv)]) hx hb dX11_shift_119 hl (by decide) rfl (fun ls hl => ?_)
            refine lv_iload hx hb dX11_shift_121 (lv_at hl 1 rfl) ?_
            refine lv_if_le (tgt := 131) hx hb dX11_shift_123 (by decide) (fun c_19 => ?_) (fun c_19 => ?_)
            · exact absurd c_19 (by decide)
            · refine lv_iload hx hb dX11_shift_126 (lv_at hl 1 rfl) ?_
              refine lv_goto (tgt := 154) hx hb dX11_shift_128 (by decide) ?_
              refine lv_istore (lv' := [(7, .int 2), (8, .int (pI (¬ ((-200 ≤ dx.toInt ∧ dx.toInt ≤ 200) ∧ (-200 ≤ dy.toInt ∧ dy.toInt ≤ 200) ∧ (0 ≤ rv.toInt ∧ rv.toInt ≤ 20))))), (6, .int (pI ((tn f).toInt = 0 ∧ ¬ (0 ≤ kv.toInt ∧ kv.toInt < ((n : Nat) : Int))))), (0, .ref k0), (1, .int (nI f)), (2, .int kv), (3, .int dx), (4, .int dy), (5, .int rv)]) hx hb dX11_shift_154 hl (by decide) rfl (fun ls hl => ?_)
              refine lv_iload hx hb dX11_shift_156 (lv_at hl 0 rfl) ?_
              refine lv_if_le (tgt := 168) hx hb dX11_shift_158 (by decide) (fun c_20 => ?_) (fun c_20 => ?_)
              · exact absurd c_20 (by decide)
              · refine lv_aload_n hx hb dX11_shift_161 rfl (lv_at hl 3 rfl) ?_
                refine lv_iload hx hb dX11_shift_162 (lv_at hl 0 rfl) ?_
                have hPc := hP.sub (ws' := [(om k0 a I0 J0)]) [0] rfl
                have hDc := hD.sub (ws' := [(om k0 a I0 J0)]) [0] (by decide) rfl
                have hFc := va_free (wc := [(om k0 a I0 J0)]) hD hS hA [0] rfl
                refine zcall (st1 := [.int 0]) (va_runV (As := [.int 2]) (rest := []) ⟨hx, hb, hml, hown, hts⟩ (k_M_no l dC dI cI cZ cF H.size k0 a I0 J0 2 (by decide)) (cwV 1 hts (zz_gV mw_1353 mw_1355 mw_38 mw_110 mc_yX11_no) rfl rfl rfl (by decide +kernel) ⟨Nat.le_of_ble_eq_true rfl, Nat.le_of_ble_eq_true rfl⟩) (zPV2 (q0 := 0) (ci := 9) hPc hDc hK hXN rfl rfl) rfl rfl hl.1 rfl (lv_room (Nat.le_of_ble_eq_true rfl)) dX11_shift_164 ⟨Nat.le_of_ble_eq_true rfl, Nat.le_of_ble_eq_true rfl⟩) hS hFc hFc rfl (fun t H1 locs ht hB hk1 hS => ?_)
                obtain ⟨hP1, hD1⟩ := hB
                rw [ht] at hP1
                obtain ⟨hP, hD⟩ := va_join (wr := [(oa (a 5) cI 201 st), (oa (a 6) cZ 201 tn), (oa (a 11) cI 201 mn)]) (w1 := [(om k0 a (upd (upd I0 14 2) 15 (I0 15)) J0)]) hP hD [0] [1, 2, 3] rfl rfl (by decide) (by decide) hk1 hFc hP1 hD1
                clear hk1 hPc hDc hFc hP1 hD1 ht
                generalize H1 = H at hP hS ⊢
                have hP := hP.sub (ws' := [(om k0 a (upd (upd I0 14 2) 15 (I0 15)) J0), (oa (a 5) cI 201 st), (oa (a 6) cZ 201 tn), (oa (a 11) cI 201 mn)]) [3, 0, 1, 2] rfl
                have hD := hD.sub (ws' := [(om k0 a (upd (upd I0 14 2) 15 (I0 15)) J0), (oa (a 5) cI 201 st), (oa (a 6) cZ 201 tn), (oa (a 11) cI 201 mn)]) [3, 0, 1, 2] (by decide) rfl
                have hP : va_P (dC, dI) classes [(om k0 a (upd (upd I0 14 2) 15 (I0 15)) J0), (oa (a 5) cI 201 st), (oa (a 6) cZ 201 tn), (oa (a 11) cI 201 mn)] H := hP
                have hD : va_D A [(om k0 a (upd (upd I0 14 2) 15 (I0 15)) J0), (oa (a 5) cI 201 st), (oa (a 6) cZ 201 tn), (oa (a 11) cI 201 mn)] := hD
                have hP9 := hP.sub (ws' := [(om k0 a (upd (upd I0 14 2) 15 (I0 15)) J0), (oa (a 5) cI 201 st), (oa (a 6) cZ 201 tn), (oa (a 11) cI 201 mn)]) [0, 1, 2, 3] rfl
                have hD9 := hD.sub (ws' := [(om k0 a (upd (upd I0 14 2) 15 (I0 15)) J0), (oa (a 5) cI 201 st), (oa (a 6) cZ 201 tn), (oa (a 11) cI 201 mn)]) [0, 1, 2, 3] (by decide) rfl
                rw [hQ9]
                exact W.zret (ty := .boolean) (v := 0) hx hb hr (rfl) (fun t ht hW => ⟨⟨rfl, 2, by rw [ht]; exact hP9, hD9⟩, hS.F ht⟩) hS.2.2 dX11_shift_167
          refine lv_iload_n hx hb dX11_shift_72 rfl (lv_at hl 5 rfl) ?_
          refine lv_sipush (v := (-200)) hx hb dX11_shift_73 (by decide) ?_
          refine lv_icmp_lt (tgt := 114) hx hb dX11_shift_76 (by decide) (fun c_21 => ?_) (fun c_21 => ?_)
          · have c_21 : dx.toInt < (-200) := zc_lt rfl (by decide) c_21
            refine lv_iconst (v := 1) hx hb dX11_shift_114 (by decide) ?_
            refine lv_goto (tgt := 119) hx hb dX11_shift_115 (by decide) ?_
            refine zz_i (v := pI (¬ ((-200 ≤ dx.toInt ∧ dx.toInt ≤ 200) ∧ (-200 ≤ dy.toInt ∧ dy.toInt ≤ 200) ∧ (0 ≤ rv.toInt ∧ rv.toInt ≤ 20)))) (by first | exact (zp_t (by omega)).symm | exact (zp_f (by omega)).symm) ?_
            exact hj_18 
          · have c_21 : (-200) ≤ dx.toInt := zc_nlt rfl (by decide) c_21
            refine lv_iload_n hx hb dX11_shift_79 rfl (lv_at hl 5 rfl) ?_
            refine lv_sipush (v := 200) hx hb dX11_shift_80 (by decide) ?_
            refine lv_icmp_gt (tgt := 114) hx hb dX11_shift_83 (by decide) (fun c_22 => ?_) (fun c_22 => ?_)
            · have c_22 : 200 < dx.toInt := zc_lt (by decide) rfl c_22
              refine lv_iconst (v := 1) hx hb dX11_shift_114 (by decide) ?_
              refine lv_goto (tgt := 119) hx hb dX11_shift_115 (by decide) ?_
              refine zz_i (v := pI (¬ ((-200 ≤ dx.toInt ∧ dx.toInt ≤ 200) ∧ (-200 ≤ dy.toInt ∧ dy.toInt ≤ 200) ∧ (0 ≤ rv.toInt ∧ rv.toInt ≤ 20)))) (by first | exact (zp_t (by omega)).symm | exact (zp_f (by omega)).symm) ?_
              exact hj_18 
            · have c_22 : dx.toInt ≤ 200 := zc_nlt (by decide) rfl c_22
              refine lv_iload hx hb dX11_shift_86 (lv_at hl 6 rfl) ?_
              refine lv_sipush (v := (-200)) hx hb dX11_shift_88 (by decide) ?_
              refine lv_icmp_lt (tgt := 114) hx hb dX11_shift_91 (by decide) (fun c_23 => ?_) (fun c_23 => ?_)
              · have c_23 : dy.toInt < (-200) := zc_lt rfl (by decide) c_23
                refine lv_iconst (v := 1) hx hb dX11_shift_114 (by decide) ?_
                refine lv_goto (tgt := 119) hx hb dX11_shift_115 (by decide) ?_
                refine zz_i (v := pI (¬ ((-200 ≤ dx.toInt ∧ dx.toInt ≤ 200) ∧ (-200 ≤ dy.toInt ∧ dy.toInt ≤ 200) ∧ (0 ≤ rv.toInt ∧ rv.toInt ≤ 20)))) (by first | exact (zp_t (by omega)).symm | exact (zp_f (by omega)).symm) ?_
                exact hj_18 
              · have c_23 : (-200) ≤ dy.toInt := zc_nlt rfl (by decide) c_23
                refine lv_iload hx hb dX11_shift_94 (lv_at hl 6 rfl) ?_
                refine lv_sipush (v := 200) hx hb dX11_shift_96 (by decide) ?_
                refine lv_icmp_gt (tgt := 114) hx hb dX11_shift_99 (by decide) (fun c_24 => ?_) (fun c_24 => ?_)
                · have c_24 : 200 < dy.toInt := zc_lt (by decide) rfl c_24
                  refine lv_iconst (v := 1) hx hb dX11_shift_114 (by decide) ?_
                  refine lv_goto (tgt := 119) hx hb dX11_shift_115 (by decide) ?_
                  refine zz_i (v := pI (¬ ((-200 ≤ dx.toInt ∧ dx.toInt ≤ 200) ∧ (-200 ≤ dy.toInt ∧ dy.toInt ≤ 200) ∧ (0 ≤ rv.toInt ∧ rv.toInt ≤ 20)))) (by first | exact (zp_t (by omega)).symm | exact (zp_f (by omega)).symm) ?_
                  exact hj_18 
                · have c_24 : dy.toInt ≤ 200 := zc_nlt (by decide) rfl c_24
                  refine lv_iload hx hb dX11_shift_102 (lv_at hl 7 rfl) ?_
                  refine lv_if_lt (tgt := 114) hx hb dX11_shift_104 (by decide) (fun c_25 => ?_) (fun c_25 => ?_)
                  · have c_25 : rv.toInt < 0 := zc_lt rfl (by decide) c_25
                    refine lv_iconst (v := 1) hx hb dX11_shift_114 (by decide) ?_
                    refine lv_goto (tgt := 119) hx hb dX11_shift_115 (by decide) ?_
                    refine zz_i (v := pI (¬ ((-200 ≤ dx.toInt ∧ dx.toInt ≤ 200) ∧ (-200 ≤ dy.toInt ∧ dy.toInt ≤ 200) ∧ (0 ≤ rv.toInt ∧ rv.toInt ≤ 20)))) (by first | exact (zp_t (by omega)).symm | exact (zp_f (by omega)).symm) ?_
                    exact hj_18 
                  · have c_25 : 0 ≤ rv.toInt := zc_nlt rfl (by decide) c_25
                    refine lv_iload hx hb dX11_shift_107 (lv_at hl 7 rfl) ?_
                    refine lv_bipush (v := 20) hx hb dX11_shift_109 (by decide) ?_
                    refine lv_icmp_le (tgt := 118) hx hb dX11_shift_111 (by decide) (fun c_26 => ?_) (fun c_26 => ?_)
                    · have c_26 : rv.toInt ≤ 20 := zc_le rfl (by decide) c_26
                      refine lv_iconst (v := 0) hx hb dX11_shift_118 (by decide) ?_
                      refine zz_i (v := pI (¬ ((-200 ≤ dx.toInt ∧ dx.toInt ≤ 200) ∧ (-200 ≤ dy.toInt ∧ dy.toInt ≤ 200) ∧ (0 ≤ rv.toInt ∧ rv.toInt ≤ 20)))) (by first | exact (zp_t (by omega)).symm | exact (zp_f (by omega)).symm) ?_
                      exact hj_18 
                    · have c_26 : 20 < rv.toInt := zc_nle rfl (by decide) c_26
                      refine lv_iconst (v := 1) hx hb dX11_shift_114 (by decide) ?_
                      refine lv_goto (tgt := 119) hx hb dX11_shift_115 (by decide) ?_
                      refine zz_i (v := pI (¬ ((-200 ≤ dx.toInt ∧ dx.toInt ≤ 200) ∧ (-200 ≤ dy.toInt ∧ dy.toInt ≤ 200) ∧ (0 ≤ rv.toInt ∧ rv.toInt ≤ 20)))) (by first | exact (zp_t (by omega)).symm | exact (zp_f (by omega)).symm) ?_
                      exact hj_18 
      · have c_3 : (tn f).toInt = 0 ∧ ¬ (0 ≤ kv.toInt ∧ kv.toInt < ((n : Nat) : Int)) := zp_1 c_3
        refine lv_iconst (v := 1) hx hb dX11_shift_51 (by decide) ?_
        refine lv_goto (tgt := 70) hx hb dX11_shift_52 (by decide) ?_
        refine lv_istore (lv' := [(7, .int 1), (6, .int (pI ((tn f).toInt = 0 ∧ ¬ (0 ≤ kv.toInt ∧ kv.toInt < ((n : Nat) : Int))))), (0, .ref k0), (1, .int (nI f)), (2, .int kv), (3, .int dx), (4, .int dy), (5, .int rv)]) hx hb dX11_shift_70 hl (by decide) rfl (fun ls hl => ?_)
        have hj_27 : W p l e ((headSpec (.code yX11_shift cX11_shift 13 (some .boolean) :: ws0) ({ frames := 2, cells := 0, slots := 0, locals := 42 } : Room)).room) s m ([.ref k0, .int (nI f), .int kv, .int dx, .int dy, .int rv] : List Value).toArray below meth c H locs 0 0 Q9 (F0 m 119 ls [.int (pI (¬ ((-200 ≤ dx.toInt ∧ dx.toInt ≤ 200) ∧ (-200 ≤ dy.toInt ∧ dy.toInt ≤ 200) ∧ (0 ≤ rv.toInt ∧ rv.toInt ≤ 20))))]) := by
          refine lv_istore (lv' := [(8, .int (pI (¬ ((-200 ≤ dx.toInt ∧ dx.toInt ≤ 200) ∧ (-200 ≤ dy.toInt ∧ dy.toInt ≤ 200) ∧ (0 ≤ rv.toInt ∧ rv.toInt ≤ 20))))), (7, .int 1), (6, .int (pI ((tn f).toInt = 0 ∧ ¬ (0 ≤ kv.toInt ∧ kv.toInt < ((n : Nat) : Int))))), (0, .ref k0), (1, .int (nI f)), (2, .int kv), (3, .int dx), (4, .int dy), (5, .int rv)]) hx hb dX11_shift_119 hl (by decide) rfl (fun ls hl => ?_)
          refine lv_iload hx hb dX11_shift_121 (lv_at hl 1 rfl) ?_
          refine lv_if_le (tgt := 131) hx hb dX11_shift_123 (by decide) (fun c_28 => ?_) (fun c_28 => ?_)
          · exact absurd c_28 (by decide)
          · refine lv_iload hx hb dX11_shift_126 (lv_at hl 1 rfl) ?_
            refine lv_goto (tgt := 154) hx hb dX11_shift_128 (by decide) ?_
            refine lv_istore (lv' := [(7, .int 1), (8, .int (pI (¬ ((-200 ≤ dx.toInt ∧ dx.toInt ≤ 200) ∧ (-200 ≤ dy.toInt ∧ dy.toInt ≤ 200) ∧ (0 ≤ rv.toInt ∧ rv.toInt ≤ 20))))), (6, .int (pI ((tn f).toInt = 0 ∧ ¬ (0 ≤ kv.toInt ∧ kv.toInt < ((n : Nat) : Int))))), (0, .ref k0), (1, .int (nI f)), (2, .int kv), (3, .int dx), (4, .int dy), (5, .int rv)]) hx hb dX11_shift_154 hl (by decide) rfl (fun ls hl => ?_)
            refine lv_iload hx hb dX11_shift_156 (lv_at hl 0 rfl) ?_
            refine lv_if_le (tgt := 168) hx hb dX11_shift_158 (by decide) (fun c_29 => ?_) (fun c_29 => ?_)
            · exact absurd c_29 (by decide)
            · refine lv_aload_n hx hb dX11_shift_161 rfl (lv_at hl 3 rfl) ?_
              refine lv_iload hx hb dX11_shift_162 (lv_at hl 0 rfl) ?_
              have hPc := hP.sub (ws' := [(om k0 a I0 J0)]) [0] rfl
              have hDc := hD.sub (ws' := [(om k0 a I0 J0)]) [0] (by decide) rfl
              have hFc := va_free (wc := [(om k0 a I0 J0)]) hD hS hA [0] rfl
              refine zcall (st1 := [.int 0]) (va_runV (As := [.int 1]) (rest := []) ⟨hx, hb, hml, hown, hts⟩ (k_M_no l dC dI cI cZ cF H.size k0 a I0 J0 1 (by decide)) (cwV 1 hts (zz_gV mw_1353 mw_1355 mw_38 mw_110 mc_yX11_no) rfl rfl rfl (by decide +kernel) ⟨Nat.le_of_ble_eq_true rfl, Nat.le_of_ble_eq_true rfl⟩) (zPV2 (q0 := 0) (ci := 9) hPc hDc hK hXN rfl rfl) rfl rfl hl.1 rfl (lv_room (Nat.le_of_ble_eq_true rfl)) dX11_shift_164 ⟨Nat.le_of_ble_eq_true rfl, Nat.le_of_ble_eq_true rfl⟩) hS hFc hFc rfl (fun t H1 locs ht hB hk1 hS => ?_)
              obtain ⟨hP1, hD1⟩ := hB
              rw [ht] at hP1
              obtain ⟨hP, hD⟩ := va_join (wr := [(oa (a 5) cI 201 st), (oa (a 6) cZ 201 tn), (oa (a 11) cI 201 mn)]) (w1 := [(om k0 a (upd (upd I0 14 1) 15 (I0 15)) J0)]) hP hD [0] [1, 2, 3] rfl rfl (by decide) (by decide) hk1 hFc hP1 hD1
              clear hk1 hPc hDc hFc hP1 hD1 ht
              generalize H1 = H at hP hS ⊢
              have hP := hP.sub (ws' := [(om k0 a (upd (upd I0 14 1) 15 (I0 15)) J0), (oa (a 5) cI 201 st), (oa (a 6) cZ 201 tn), (oa (a 11) cI 201 mn)]) [3, 0, 1, 2] rfl
              have hD := hD.sub (ws' := [(om k0 a (upd (upd I0 14 1) 15 (I0 15)) J0), (oa (a 5) cI 201 st), (oa (a 6) cZ 201 tn), (oa (a 11) cI 201 mn)]) [3, 0, 1, 2] (by decide) rfl
              have hP : va_P (dC, dI) classes [(om k0 a (upd (upd I0 14 1) 15 (I0 15)) J0), (oa (a 5) cI 201 st), (oa (a 6) cZ 201 tn), (oa (a 11) cI 201 mn)] H := hP
              have hD : va_D A [(om k0 a (upd (upd I0 14 1) 15 (I0 15)) J0), (oa (a 5) cI 201 st), (oa (a 6) cZ 201 tn), (oa (a 11) cI 201 mn)] := hD
              have hP9 := hP.sub (ws' := [(om k0 a (upd (upd I0 14 1) 15 (I0 15)) J0), (oa (a 5) cI 201 st), (oa (a 6) cZ 201 tn), (oa (a 11) cI 201 mn)]) [0, 1, 2, 3] rfl
              have hD9 := hD.sub (ws' := [(om k0 a (upd (upd I0 14 1) 15 (I0 15)) J0), (oa (a 5) cI 201 st), (oa (a 6) cZ 201 tn), (oa (a 11) cI 201 mn)]) [0, 1, 2, 3] (by decide) rfl
              rw [hQ9]
              exact W.zret (ty := .boolean) (v := 0) hx hb hr (rfl) (fun t ht hW => ⟨⟨rfl, 1, by rw [ht]; exact hP9, hD9⟩, hS.F ht⟩) hS.2.2 dX11_shift_167
        refine lv_iload_n hx hb dX11_shift_72 rfl (lv_at hl 5 rfl) ?_
        refine lv_sipush (v := (-200)) hx hb dX11_shift_73 (by decide) ?_
        refine lv_icmp_lt (tgt := 114) hx hb dX11_shift_76 (by decide) (fun c_30 => ?_) (fun c_30 => ?_)
        · have c_30 : dx.toInt < (-200) := zc_lt rfl (by decide) c_30
          refine lv_iconst (v := 1) hx hb dX11_shift_114 (by decide) ?_
          refine lv_goto (tgt := 119) hx hb dX11_shift_115 (by decide) ?_
          refine zz_i (v := pI (¬ ((-200 ≤ dx.toInt ∧ dx.toInt ≤ 200) ∧ (-200 ≤ dy.toInt ∧ dy.toInt ≤ 200) ∧ (0 ≤ rv.toInt ∧ rv.toInt ≤ 20)))) (by first | exact (zp_t (by omega)).symm | exact (zp_f (by omega)).symm) ?_
          exact hj_27 
        · have c_30 : (-200) ≤ dx.toInt := zc_nlt rfl (by decide) c_30
          refine lv_iload_n hx hb dX11_shift_79 rfl (lv_at hl 5 rfl) ?_
          refine lv_sipush (v := 200) hx hb dX11_shift_80 (by decide) ?_
          refine lv_icmp_gt (tgt := 114) hx hb dX11_shift_83 (by decide) (fun c_31 => ?_) (fun c_31 => ?_)
          · have c_31 : 200 < dx.toInt := zc_lt (by decide) rfl c_31
            refine lv_iconst (v := 1) hx hb dX11_shift_114 (by decide) ?_
            refine lv_goto (tgt := 119) hx hb dX11_shift_115 (by decide) ?_
            refine zz_i (v := pI (¬ ((-200 ≤ dx.toInt ∧ dx.toInt ≤ 200) ∧ (-200 ≤ dy.toInt ∧ dy.toInt ≤ 200) ∧ (0 ≤ rv.toInt ∧ rv.toInt ≤ 20)))) (by first | exact (zp_t (by omega)).symm | exact (zp_f (by omega)).symm) ?_
            exact hj_27 
          · have c_31 : dx.toInt ≤ 200 := zc_nlt (by decide) rfl c_31
            refine lv_iload hx hb dX11_shift_86 (lv_at hl 6 rfl) ?_
            refine lv_sipush (v := (-200)) hx hb dX11_shift_88 (by decide) ?_
            refine lv_icmp_lt (tgt := 114) hx hb dX11_shift_91 (by decide) (fun c_32 => ?_) (fun c_32 => ?_)
            · have c_32 : dy.toInt < (-200) := zc_lt rfl (by decide) c_32
              refine lv_iconst (v := 1) hx hb dX11_shift_114 (by decide) ?_
              refine lv_goto (tgt := 119) hx hb dX11_shift_115 (by decide) ?_
              refine zz_i (v := pI (¬ ((-200 ≤ dx.toInt ∧ dx.toInt ≤ 200) ∧ (-200 ≤ dy.toInt ∧ dy.toInt ≤ 200) ∧ (0 ≤ rv.toInt ∧ rv.toInt ≤ 20)))) (by first | exact (zp_t (by omega)).symm | exact (zp_f (by omega)).symm) ?_
              exact hj_27 
            · have c_32 : (-200) ≤ dy.toInt := zc_nlt rfl (by decide) c_32
              refine lv_iload hx hb dX11_shift_94 (lv_at hl 6 rfl) ?_
              refine lv_sipush (v := 200) hx hb dX11_shift_96 (by decide) ?_
              refine lv_icmp_gt (tgt := 114) hx hb dX11_shift_99 (by decide) (fun c_33 => ?_) (fun c_33 => ?_)
              · have c_33 : 200 < dy.toInt := zc_lt (by decide) rfl c_33
                refine lv_iconst (v := 1) hx hb dX11_shift_114 (by decide) ?_
                refine lv_goto (tgt := 119) hx hb dX11_shift_115 (by decide) ?_
                refine zz_i (v := pI (¬ ((-200 ≤ dx.toInt ∧ dx.toInt ≤ 200) ∧ (-200 ≤ dy.toInt ∧ dy.toInt ≤ 200) ∧ (0 ≤ rv.toInt ∧ rv.toInt ≤ 20)))) (by first | exact (zp_t (by omega)).symm | exact (zp_f (by omega)).symm) ?_
                exact hj_27 
              · have c_33 : dy.toInt ≤ 200 := zc_nlt (by decide) rfl c_33
                refine lv_iload hx hb dX11_shift_102 (lv_at hl 7 rfl) ?_
                refine lv_if_lt (tgt := 114) hx hb dX11_shift_104 (by decide) (fun c_34 => ?_) (fun c_34 => ?_)
                · have c_34 : rv.toInt < 0 := zc_lt rfl (by decide) c_34
                  refine lv_iconst (v := 1) hx hb dX11_shift_114 (by decide) ?_
                  refine lv_goto (tgt := 119) hx hb dX11_shift_115 (by decide) ?_
                  refine zz_i (v := pI (¬ ((-200 ≤ dx.toInt ∧ dx.toInt ≤ 200) ∧ (-200 ≤ dy.toInt ∧ dy.toInt ≤ 200) ∧ (0 ≤ rv.toInt ∧ rv.toInt ≤ 20)))) (by first | exact (zp_t (by omega)).symm | exact (zp_f (by omega)).symm) ?_
                  exact hj_27 
                · have c_34 : 0 ≤ rv.toInt := zc_nlt rfl (by decide) c_34
                  refine lv_iload hx hb dX11_shift_107 (lv_at hl 7 rfl) ?_
                  refine lv_bipush (v := 20) hx hb dX11_shift_109 (by decide) ?_
                  refine lv_icmp_le (tgt := 118) hx hb dX11_shift_111 (by decide) (fun c_35 => ?_) (fun c_35 => ?_)
                  · have c_35 : rv.toInt ≤ 20 := zc_le rfl (by decide) c_35
                    refine lv_iconst (v := 0) hx hb dX11_shift_118 (by decide) ?_
                    refine zz_i (v := pI (¬ ((-200 ≤ dx.toInt ∧ dx.toInt ≤ 200) ∧ (-200 ≤ dy.toInt ∧ dy.toInt ≤ 200) ∧ (0 ≤ rv.toInt ∧ rv.toInt ≤ 20)))) (by first | exact (zp_t (by omega)).symm | exact (zp_f (by omega)).symm) ?_
                    exact hj_27 
                  · have c_35 : 20 < rv.toInt := zc_nle rfl (by decide) c_35
                    refine lv_iconst (v := 1) hx hb dX11_shift_114 (by decide) ?_
                    refine lv_goto (tgt := 119) hx hb dX11_shift_115 (by decide) ?_
                    refine zz_i (v := pI (¬ ((-200 ≤ dx.toInt ∧ dx.toInt ≤ 200) ∧ (-200 ≤ dy.toInt ∧ dy.toInt ≤ 200) ∧ (0 ≤ rv.toInt ∧ rv.toInt ≤ 20)))) (by first | exact (zp_t (by omega)).symm | exact (zp_f (by omega)).symm) ?_
                    exact hj_27 
  refine lv_if_eq (tgt := 35) hx hb dX11_shift_5 (by decide) (fun c_36 => ?_) (fun c_36 => ?_)
  · have c_36 : ¬ (f < ft) := zp_0 c_36
    exfalso; omega
  · have c_36 : f < ft := zp_1 c_36
    refine lv_aload_n hx hb dX11_shift_8 rfl (lv_at hl 0 rfl) ?_
    refine va_get (D := (dC, dI)) (ci := 9) (v := .ref (a 6)) (C := RX11) (T := TX11) (N := 55) hx hb hts inX11 hown hK hP 0 rfl rfl 6 (by decide) (hts _ mw_1165) (fun _ h9 => h9) rfl dX11_shift_9 ?_
    refine lv_iload_n hx hb dX11_shift_12 rfl (lv_at hl 1 rfl) ?_
    refine z_zald hx hb hK hP 2 1 rfl rfl (e := f) rfl (by omega) (by omega) dX11_shift_13 ?_
    refine lv_if_ne (tgt := 35) hx hb dX11_shift_14 (by decide) (fun c_37 => ?_) (fun c_37 => ?_)
    · have c_37 : ¬ (tn f).toInt = 0 := zc_ne rfl (by decide) c_37
      refine lv_iconst (v := 0) hx hb dX11_shift_35 (by decide) ?_
      refine zz_i (v := pI ((tn f).toInt = 0 ∧ ¬ (0 ≤ kv.toInt ∧ kv.toInt < ((n : Nat) : Int)))) (by first | exact (zp_t (by omega)).symm | exact (zp_f (by omega)).symm) ?_
      exact hj_1 
    · have c_37 : (tn f).toInt = 0 := zc_eq rfl (by decide) c_37
      refine lv_iload_n hx hb dX11_shift_17 rfl (lv_at hl 2 rfl) ?_
      refine lv_if_lt (tgt := 31) hx hb dX11_shift_18 (by decide) (fun c_38 => ?_) (fun c_38 => ?_)
      · have c_38 : kv.toInt < 0 := zc_lt rfl (by decide) c_38
        refine lv_iconst (v := 1) hx hb dX11_shift_31 (by decide) ?_
        refine lv_goto (tgt := 36) hx hb dX11_shift_32 (by decide) ?_
        refine zz_i (v := pI ((tn f).toInt = 0 ∧ ¬ (0 ≤ kv.toInt ∧ kv.toInt < ((n : Nat) : Int)))) (by first | exact (zp_t (by omega)).symm | exact (zp_f (by omega)).symm) ?_
        exact hj_1 
      · have c_38 : 0 ≤ kv.toInt := zc_nlt rfl (by decide) c_38
        refine lv_iload_n hx hb dX11_shift_21 rfl (lv_at hl 2 rfl) ?_
        refine lv_aload_n hx hb dX11_shift_22 rfl (lv_at hl 0 rfl) ?_
        refine va_get (D := (dC, dI)) (ci := 9) (v := .ref (a 11)) (C := RX11) (T := TX11) (N := 55) hx hb hts inX11 hown hK hP 0 rfl rfl 11 (by decide) (hts _ mw_1170) (fun _ h9 => h9) rfl dX11_shift_23 ?_
        refine lv_iload_n hx hb dX11_shift_26 rfl (lv_at hl 1 rfl) ?_
        refine z_iald hx hb hK hP 3 0 rfl rfl (e := f) rfl (by omega) (by omega) dX11_shift_27 ?_
        refine zz_i (v := nI n) (hm_f) ?_
        refine lv_icmp_lt (tgt := 35) hx hb dX11_shift_28 (by decide) (fun c_39 => ?_) (fun c_39 => ?_)
        · have c_39 : kv.toInt < ((n : Nat) : Int) := zc_lt rfl (nI_toInt (by omega)) c_39
          refine lv_iconst (v := 0) hx hb dX11_shift_35 (by decide) ?_
          refine zz_i (v := pI ((tn f).toInt = 0 ∧ ¬ (0 ≤ kv.toInt ∧ kv.toInt < ((n : Nat) : Int)))) (by first | exact (zp_t (by omega)).symm | exact (zp_f (by omega)).symm) ?_
          exact hj_1 
        · have c_39 : ((n : Nat) : Int) ≤ kv.toInt := zc_nlt rfl (nI_toInt (by omega)) c_39
          refine lv_iconst (v := 1) hx hb dX11_shift_31 (by decide) ?_
          refine lv_goto (tgt := 36) hx hb dX11_shift_32 (by decide) ?_
          refine zz_i (v := pI ((tn f).toInt = 0 ∧ ¬ (0 ≤ kv.toInt ∧ kv.toInt < ((n : Nat) : Int)))) (by first | exact (zp_t (by omega)).symm | exact (zp_f (by omega)).symm) ?_
          exact hj_1 
set_option maxHeartbeats 4000000 in
set_option maxRecDepth 100000 in
theorem k_M_plainer_x (l : Launch) (dC : Nat → ClassId) (dI : Nat → Nat → Nat) (cI cZ cF : ClassId) (sz : Nat) (k0 : Nat) (a : Nat → Nat) (I0 : Nat → Int32) (J0 : Nat → Int64) (ft : Nat) (v : Int32) (lim : Int32) (hft : I0 0 = nI ft) (h200 : ft ≤ 200) (hv : ¬ (0 ≤ v.toInt ∧ v.toInt < (ft : Int))) : Met l yX11_plainer (.code yX11_plainer cX11_plainer 4 (some .int) :: ws0) ({ frames := 2, cells := 0, slots := 0, locals := 42 } : Room) (va_Pc [.ref k0, .int v, .int lim] (zPre (dC, dI) classes (zTy cI cZ cF) [(om k0 a I0 J0)] sz zXN)) (zQ (some (.int (-1))) (fun t => va_P (dC, dI) classes [(om k0 a (upd (upd I0 14 1) 15 (I0 15)) J0)] t.heap ∧ va_D (va_A [(om k0 a I0 J0)] sz) [(om k0 a (upd (upd I0 14 1) 15 (I0 15)) J0)]) (va_A [(om k0 a I0 J0)] sz)) 0 0 (va_A [(om k0 a I0 J0)] sz) := by
  refine Met.ofW (cc := cX11_plainer) (maxL := 4) (ret := (some .int)) (by decide) rfl ?_
  intro p e s m args below meth c s₁ B hml hv
  obtain ⟨rfl, hsz, hP, hK, hD0, hXN⟩ := hv
  have hx := B.exec
  have hb := B.bytes
  have hr := B.returns
  have hts0 := atoms_spec (ws := .code yX11_plainer cX11_plainer 4 (some .int) :: ws0) B.pre
  have hts : ∀ w9 ∈ ws0, w9.before ([.ref k0, .int v, .int lim] : List Value).toArray s = true := fun w9 h => hts0 w9 (List.mem_cons_of_mem _ h)
  have hown : s.vm.findClass "ScaleShopModel" = some m.cls := findClass_of_methodNamed B.named
  have hlocks := B.notSynchronized
  subst hsz
  have hD := hD0.self (sz := s.heap.size)
  clear hD0
  generalize hAe : va_A [(om k0 a I0 J0)] s.heap.size = A at hD ⊢
  have hA : ∀ q : Nat, s.heap.size ≤ q → A q := fun q h => by rw [← hAe]; exact Or.inr h
  clear hAe
  have hS : va_S A s.heap s.heap [] := va_S.rf
  have hP : va_P (dC, dI) classes [(om k0 a I0 J0)] s.heap := hP
  obtain ⟨Q9, hQ9⟩ : ∃ Q9 : State → Prop, Q9 = MQ below (zQ (some (.int (-1))) (fun t => va_P (dC, dI) classes [(om k0 a (upd (upd I0 14 1) 15 (I0 15)) J0)] t.heap ∧ va_D A [(om k0 a (upd (upd I0 14 1) 15 (I0 15)) J0)]) A) ([.ref k0, .int v, .int lim] : List Value).toArray s 0 0 A := ⟨_, rfl⟩
  rw [← hQ9]
  have hl := lv_entry ([.ref k0, .int v, .int lim]) (n := 4) (Nat.le_of_ble_eq_true rfl)
  rw [lg_entry_eq]
  generalize (lg_sl ([.ref k0, .int v, .int lim]) ++ List.replicate (4 - (lg_sl ([.ref k0, .int v, .int lim])).length) Slot.unset).toArray = ls at hl ⊢
  have hl : lv_has ls 4 [(0, .ref k0), (1, .int v), (2, .int lim)] := hl
  refine lv_aload_n hx hb dX11_plainer_0 rfl (lv_at hl 0 rfl) ?_
  refine lv_iload_n hx hb dX11_plainer_1 rfl (lv_at hl 1 rfl) ?_
  have hPc := hP.sub (ws' := [(om k0 a I0 J0)]) [0] rfl
  have hDc := hD.sub (ws' := [(om k0 a I0 J0)]) [0] (by decide) rfl
  have hFc := va_free (wc := [(om k0 a I0 J0)]) hD hS hA [0] rfl
  refine zcall (st1 := [.int 1]) (va_runV (As := [.int v]) (rest := []) ⟨hx, hb, hml, hown, hts⟩ (k_M_wrong_x l dC dI cI cZ cF s.heap.size k0 a I0 J0 ft v (by assumption) (by omega) (by assumption)) (cwV 1 hts (zz_gV mw_1407 mw_1409 mw_46 mw_110 mc_yX11_wrong) rfl rfl rfl (by decide +kernel) ⟨Nat.le_of_ble_eq_true rfl, Nat.le_of_ble_eq_true rfl⟩) (zPV2 (q0 := 0) (ci := 9) hPc hDc hK hXN rfl rfl) rfl rfl hl.1 rfl (lv_room (Nat.le_of_ble_eq_true rfl)) dX11_plainer_2 ⟨Nat.le_of_ble_eq_true rfl, Nat.le_of_ble_eq_true rfl⟩) hS hFc hFc rfl (fun t H1 locs ht hB hk1 hS => ?_)
  obtain ⟨hP1, hD1⟩ := hB
  rw [ht] at hP1
  obtain ⟨hP, hD⟩ := va_join (wr := []) (w1 := [(om k0 a I0 J0)]) hP hD [0] [] rfl rfl (by decide) (by decide) hk1 hFc hP1 hD1
  clear hk1 hPc hDc hFc hP1 hD1 ht
  generalize H1 = H at hP hS ⊢
  have hP : va_P (dC, dI) classes [(om k0 a I0 J0)] H := hP
  have hD : va_D A [(om k0 a I0 J0)] := hD
  refine lv_istore_n (lv' := [(3, .int 1), (0, .ref k0), (1, .int v), (2, .int lim)]) hx hb dX11_plainer_5 rfl hl (by decide) rfl (fun ls hl => ?_)
  refine lv_iload_n hx hb dX11_plainer_6 rfl (lv_at hl 0 rfl) ?_
  refine lv_if_le (tgt := 14) hx hb dX11_plainer_7 (by decide) (fun c_1 => ?_) (fun c_1 => ?_)
  · exact absurd c_1 (by decide)
  · refine lv_iload_n hx hb dX11_plainer_10 rfl (lv_at hl 0 rfl) ?_
    refine lv_goto (tgt := 48) hx hb dX11_plainer_11 (by decide) ?_
    refine lv_istore_n (lv' := [(3, .int 1), (0, .ref k0), (1, .int v), (2, .int lim)]) hx hb dX11_plainer_48 rfl hl (by decide) rfl (fun ls hl => ?_)
    refine lv_iload_n hx hb dX11_plainer_49 rfl (lv_at hl 0 rfl) ?_
    refine lv_if_le (tgt := 59) hx hb dX11_plainer_50 (by decide) (fun c_2 => ?_) (fun c_2 => ?_)
    · exact absurd c_2 (by decide)
    · refine lv_aload_n hx hb dX11_plainer_53 rfl (lv_at hl 1 rfl) ?_
      refine lv_iload_n hx hb dX11_plainer_54 rfl (lv_at hl 0 rfl) ?_
      have hPc := hP.sub (ws' := [(om k0 a I0 J0)]) [0] rfl
      have hDc := hD.sub (ws' := [(om k0 a I0 J0)]) [0] (by decide) rfl
      have hFc := va_free (wc := [(om k0 a I0 J0)]) hD hS hA [0] rfl
      refine zcall (st1 := [.int (-1)]) (va_runV (As := [.int 1]) (rest := []) ⟨hx, hb, hml, hown, hts⟩ (k_M_refuse l dC dI cI cZ cF H.size k0 a I0 J0 1 (by decide)) (cwV 1 hts (zz_gV mw_1329 mw_1331 mw_34 mw_110 mc_yX11_refuse) rfl rfl rfl (by decide +kernel) ⟨Nat.le_of_ble_eq_true rfl, Nat.le_of_ble_eq_true rfl⟩) (zPV2 (q0 := 0) (ci := 9) hPc hDc hK hXN rfl rfl) rfl rfl hl.1 rfl (lv_room (Nat.le_of_ble_eq_true rfl)) dX11_plainer_55 ⟨Nat.le_of_ble_eq_true rfl, Nat.le_of_ble_eq_true rfl⟩) hS hFc hFc rfl (fun t H1 locs ht hB hk1 hS => ?_)
      obtain ⟨hP1, hD1⟩ := hB
      rw [ht] at hP1
      obtain ⟨hP, hD⟩ := va_join (wr := []) (w1 := [(om k0 a (upd (upd I0 14 1) 15 (I0 15)) J0)]) hP hD [0] [] rfl rfl (by decide) (by decide) hk1 hFc hP1 hD1
      clear hk1 hPc hDc hFc hP1 hD1 ht
      generalize H1 = H at hP hS ⊢
      have hP : va_P (dC, dI) classes [(om k0 a (upd (upd I0 14 1) 15 (I0 15)) J0)] H := hP
      have hD : va_D A [(om k0 a (upd (upd I0 14 1) 15 (I0 15)) J0)] := hD
      have hP9 := hP.sub (ws' := [(om k0 a (upd (upd I0 14 1) 15 (I0 15)) J0)]) [0] rfl
      have hD9 := hD.sub (ws' := [(om k0 a (upd (upd I0 14 1) 15 (I0 15)) J0)]) [0] (by decide) rfl
      rw [hQ9]
      exact W.iret (v := (-1)) hx hb hr (fun t ht hW => ⟨⟨rfl, by rw [ht]; exact hP9, hD9⟩, hS.F ht⟩) hS.2.2 dX11_plainer_58
set_option maxHeartbeats 4000000 in
set_option maxRecDepth 100000 in
theorem k_M_smooth_x (l : Launch) (dC : Nat → ClassId) (dI : Nat → Nat → Nat) (cI cZ cF : ClassId) (sz : Nat) (k0 : Nat) (a : Nat → Nat) (I0 : Nat → Int32) (J0 : Nat → Int64) (ft : Nat) (v : Int32) (hft : I0 0 = nI ft) (h200 : ft ≤ 200) (hv : ¬ (0 ≤ v.toInt ∧ v.toInt < (ft : Int))) : Met l yX11_smooth (.code yX11_smooth cX11_smooth 6 (some .boolean) :: ws0) ({ frames := 2, cells := 0, slots := 0, locals := 42 } : Room) (va_Pc [.ref k0, .int v] (zPre (dC, dI) classes (zTy cI cZ cF) [(om k0 a I0 J0)] sz zXN)) (zQ (some (.int 0)) (fun t => va_P (dC, dI) classes [(om k0 a (upd (upd I0 14 1) 15 (I0 15)) J0)] t.heap ∧ va_D (va_A [(om k0 a I0 J0)] sz) [(om k0 a (upd (upd I0 14 1) 15 (I0 15)) J0)]) (va_A [(om k0 a I0 J0)] sz)) 0 0 (va_A [(om k0 a I0 J0)] sz) := by
  refine Met.ofW (cc := cX11_smooth) (maxL := 6) (ret := (some .boolean)) (by decide) rfl ?_
  intro p e s m args below meth c s₁ B hml hv
  obtain ⟨rfl, hsz, hP, hK, hD0, hXN⟩ := hv
  have hx := B.exec
  have hb := B.bytes
  have hr := B.returns
  have hts0 := atoms_spec (ws := .code yX11_smooth cX11_smooth 6 (some .boolean) :: ws0) B.pre
  have hts : ∀ w9 ∈ ws0, w9.before ([.ref k0, .int v] : List Value).toArray s = true := fun w9 h => hts0 w9 (List.mem_cons_of_mem _ h)
  have hown : s.vm.findClass "ScaleShopModel" = some m.cls := findClass_of_methodNamed B.named
  have hlocks := B.notSynchronized
  subst hsz
  have hD := hD0.self (sz := s.heap.size)
  clear hD0
  generalize hAe : va_A [(om k0 a I0 J0)] s.heap.size = A at hD ⊢
  have hA : ∀ q : Nat, s.heap.size ≤ q → A q := fun q h => by rw [← hAe]; exact Or.inr h
  clear hAe
  have hS : va_S A s.heap s.heap [] := va_S.rf
  have hP : va_P (dC, dI) classes [(om k0 a I0 J0)] s.heap := hP
  obtain ⟨Q9, hQ9⟩ : ∃ Q9 : State → Prop, Q9 = MQ below (zQ (some (.int 0)) (fun t => va_P (dC, dI) classes [(om k0 a (upd (upd I0 14 1) 15 (I0 15)) J0)] t.heap ∧ va_D A [(om k0 a (upd (upd I0 14 1) 15 (I0 15)) J0)]) A) ([.ref k0, .int v] : List Value).toArray s 0 0 A := ⟨_, rfl⟩
  rw [← hQ9]
  have hl := lv_entry ([.ref k0, .int v]) (n := 6) (Nat.le_of_ble_eq_true rfl)
  rw [lg_entry_eq]
  generalize (lg_sl ([.ref k0, .int v]) ++ List.replicate (6 - (lg_sl ([.ref k0, .int v])).length) Slot.unset).toArray = ls at hl ⊢
  have hl : lv_has ls 6 [(0, .ref k0), (1, .int v)] := hl
  refine lv_aload_n hx hb dX11_smooth_0 rfl (lv_at hl 0 rfl) ?_
  refine lv_iload_n hx hb dX11_smooth_1 rfl (lv_at hl 1 rfl) ?_
  have hPc := hP.sub (ws' := [(om k0 a I0 J0)]) [0] rfl
  have hDc := hD.sub (ws' := [(om k0 a I0 J0)]) [0] (by decide) rfl
  have hFc := va_free (wc := [(om k0 a I0 J0)]) hD hS hA [0] rfl
  refine zcall (st1 := [.int 1]) (va_runV (As := [.int v]) (rest := []) ⟨hx, hb, hml, hown, hts⟩ (k_M_wrong_x l dC dI cI cZ cF s.heap.size k0 a I0 J0 ft v (by assumption) (by omega) (by assumption)) (cwV 1 hts (zz_gV mw_1407 mw_1409 mw_46 mw_110 mc_yX11_wrong) rfl rfl rfl (by decide +kernel) ⟨Nat.le_of_ble_eq_true rfl, Nat.le_of_ble_eq_true rfl⟩) (zPV2 (q0 := 0) (ci := 9) hPc hDc hK hXN rfl rfl) rfl rfl hl.1 rfl (lv_room (Nat.le_of_ble_eq_true rfl)) dX11_smooth_2 ⟨Nat.le_of_ble_eq_true rfl, Nat.le_of_ble_eq_true rfl⟩) hS hFc hFc rfl (fun t H1 locs ht hB hk1 hS => ?_)
  obtain ⟨hP1, hD1⟩ := hB
  rw [ht] at hP1
  obtain ⟨hP, hD⟩ := va_join (wr := []) (w1 := [(om k0 a I0 J0)]) hP hD [0] [] rfl rfl (by decide) (by decide) hk1 hFc hP1 hD1
  clear hk1 hPc hDc hFc hP1 hD1 ht
  generalize H1 = H at hP hS ⊢
  have hP : va_P (dC, dI) classes [(om k0 a I0 J0)] H := hP
  have hD : va_D A [(om k0 a I0 J0)] := hD
  refine lv_istore_n (lv' := [(2, .int 1), (0, .ref k0), (1, .int v)]) hx hb dX11_smooth_5 rfl hl (by decide) rfl (fun ls hl => ?_)
  refine lv_iload_n hx hb dX11_smooth_6 rfl (lv_at hl 0 rfl) ?_
  refine lv_if_le (tgt := 14) hx hb dX11_smooth_7 (by decide) (fun c_1 => ?_) (fun c_1 => ?_)
  · exact absurd c_1 (by decide)
  · refine lv_iload_n hx hb dX11_smooth_10 rfl (lv_at hl 0 rfl) ?_
    refine lv_goto (tgt := 40) hx hb dX11_smooth_11 (by decide) ?_
    refine lv_istore_n (lv' := [(2, .int 1), (0, .ref k0), (1, .int v)]) hx hb dX11_smooth_40 rfl hl (by decide) rfl (fun ls hl => ?_)
    refine lv_iload_n hx hb dX11_smooth_41 rfl (lv_at hl 0 rfl) ?_
    refine lv_if_le (tgt := 51) hx hb dX11_smooth_42 (by decide) (fun c_2 => ?_) (fun c_2 => ?_)
    · exact absurd c_2 (by decide)
    · refine lv_aload_n hx hb dX11_smooth_45 rfl (lv_at hl 1 rfl) ?_
      refine lv_iload_n hx hb dX11_smooth_46 rfl (lv_at hl 0 rfl) ?_
      have hPc := hP.sub (ws' := [(om k0 a I0 J0)]) [0] rfl
      have hDc := hD.sub (ws' := [(om k0 a I0 J0)]) [0] (by decide) rfl
      have hFc := va_free (wc := [(om k0 a I0 J0)]) hD hS hA [0] rfl
      refine zcall (st1 := [.int 0]) (va_runV (As := [.int 1]) (rest := []) ⟨hx, hb, hml, hown, hts⟩ (k_M_no l dC dI cI cZ cF H.size k0 a I0 J0 1 (by decide)) (cwV 1 hts (zz_gV mw_1353 mw_1355 mw_38 mw_110 mc_yX11_no) rfl rfl rfl (by decide +kernel) ⟨Nat.le_of_ble_eq_true rfl, Nat.le_of_ble_eq_true rfl⟩) (zPV2 (q0 := 0) (ci := 9) hPc hDc hK hXN rfl rfl) rfl rfl hl.1 rfl (lv_room (Nat.le_of_ble_eq_true rfl)) dX11_smooth_47 ⟨Nat.le_of_ble_eq_true rfl, Nat.le_of_ble_eq_true rfl⟩) hS hFc hFc rfl (fun t H1 locs ht hB hk1 hS => ?_)
      obtain ⟨hP1, hD1⟩ := hB
      rw [ht] at hP1
      obtain ⟨hP, hD⟩ := va_join (wr := []) (w1 := [(om k0 a (upd (upd I0 14 1) 15 (I0 15)) J0)]) hP hD [0] [] rfl rfl (by decide) (by decide) hk1 hFc hP1 hD1
      clear hk1 hPc hDc hFc hP1 hD1 ht
      generalize H1 = H at hP hS ⊢
      have hP : va_P (dC, dI) classes [(om k0 a (upd (upd I0 14 1) 15 (I0 15)) J0)] H := hP
      have hD : va_D A [(om k0 a (upd (upd I0 14 1) 15 (I0 15)) J0)] := hD
      have hP9 := hP.sub (ws' := [(om k0 a (upd (upd I0 14 1) 15 (I0 15)) J0)]) [0] rfl
      have hD9 := hD.sub (ws' := [(om k0 a (upd (upd I0 14 1) 15 (I0 15)) J0)]) [0] (by decide) rfl
      rw [hQ9]
      exact W.zret (ty := .boolean) (v := 0) hx hb hr (rfl) (fun t ht hW => ⟨⟨rfl, by rw [ht]; exact hP9, hD9⟩, hS.F ht⟩) hS.2.2 dX11_smooth_50
set_option maxHeartbeats 4000000 in
set_option maxRecDepth 100000 in
theorem k_M_grow_x (l : Launch) (dC : Nat → ClassId) (dI : Nat → Nat → Nat) (cI cZ cF : ClassId) (sz : Nat) (k0 : Nat) (a : Nat → Nat) (I0 : Nat → Int32) (J0 : Nat → Int64) (ft : Nat) (v : Int32) (hft : I0 0 = nI ft) (h200 : ft ≤ 200) (hv : ¬ (0 ≤ v.toInt ∧ v.toInt < (ft : Int))) : Met l yX11_grow (.code yX11_grow cX11_grow 4 (some .boolean) :: ws0) ({ frames := 2, cells := 0, slots := 0, locals := 42 } : Room) (va_Pc [.ref k0, .int v] (zPre (dC, dI) classes (zTy cI cZ cF) [(om k0 a I0 J0)] sz zXN)) (zQ (some (.int 0)) (fun t => va_P (dC, dI) classes [(om k0 a (upd (upd I0 14 1) 15 (I0 15)) J0)] t.heap ∧ va_D (va_A [(om k0 a I0 J0)] sz) [(om k0 a (upd (upd I0 14 1) 15 (I0 15)) J0)]) (va_A [(om k0 a I0 J0)] sz)) 0 0 (va_A [(om k0 a I0 J0)] sz) := by
  refine Met.ofW (cc := cX11_grow) (maxL := 4) (ret := (some .boolean)) (by decide) rfl ?_
  intro p e s m args below meth c s₁ B hml hv
  obtain ⟨rfl, hsz, hP, hK, hD0, hXN⟩ := hv
  have hx := B.exec
  have hb := B.bytes
  have hr := B.returns
  have hts0 := atoms_spec (ws := .code yX11_grow cX11_grow 4 (some .boolean) :: ws0) B.pre
  have hts : ∀ w9 ∈ ws0, w9.before ([.ref k0, .int v] : List Value).toArray s = true := fun w9 h => hts0 w9 (List.mem_cons_of_mem _ h)
  have hown : s.vm.findClass "ScaleShopModel" = some m.cls := findClass_of_methodNamed B.named
  have hlocks := B.notSynchronized
  subst hsz
  have hD := hD0.self (sz := s.heap.size)
  clear hD0
  generalize hAe : va_A [(om k0 a I0 J0)] s.heap.size = A at hD ⊢
  have hA : ∀ q : Nat, s.heap.size ≤ q → A q := fun q h => by rw [← hAe]; exact Or.inr h
  clear hAe
  have hS : va_S A s.heap s.heap [] := va_S.rf
  have hP : va_P (dC, dI) classes [(om k0 a I0 J0)] s.heap := hP
  obtain ⟨Q9, hQ9⟩ : ∃ Q9 : State → Prop, Q9 = MQ below (zQ (some (.int 0)) (fun t => va_P (dC, dI) classes [(om k0 a (upd (upd I0 14 1) 15 (I0 15)) J0)] t.heap ∧ va_D A [(om k0 a (upd (upd I0 14 1) 15 (I0 15)) J0)]) A) ([.ref k0, .int v] : List Value).toArray s 0 0 A := ⟨_, rfl⟩
  rw [← hQ9]
  have hl := lv_entry ([.ref k0, .int v]) (n := 4) (Nat.le_of_ble_eq_true rfl)
  rw [lg_entry_eq]
  generalize (lg_sl ([.ref k0, .int v]) ++ List.replicate (4 - (lg_sl ([.ref k0, .int v])).length) Slot.unset).toArray = ls at hl ⊢
  have hl : lv_has ls 4 [(0, .ref k0), (1, .int v)] := hl
  refine lv_aload_n hx hb dX11_grow_0 rfl (lv_at hl 0 rfl) ?_
  refine lv_iload_n hx hb dX11_grow_1 rfl (lv_at hl 1 rfl) ?_
  have hPc := hP.sub (ws' := [(om k0 a I0 J0)]) [0] rfl
  have hDc := hD.sub (ws' := [(om k0 a I0 J0)]) [0] (by decide) rfl
  have hFc := va_free (wc := [(om k0 a I0 J0)]) hD hS hA [0] rfl
  refine zcall (st1 := [.int 1]) (va_runV (As := [.int v]) (rest := []) ⟨hx, hb, hml, hown, hts⟩ (k_M_wrong_x l dC dI cI cZ cF s.heap.size k0 a I0 J0 ft v (by assumption) (by omega) (by assumption)) (cwV 1 hts (zz_gV mw_1407 mw_1409 mw_46 mw_110 mc_yX11_wrong) rfl rfl rfl (by decide +kernel) ⟨Nat.le_of_ble_eq_true rfl, Nat.le_of_ble_eq_true rfl⟩) (zPV2 (q0 := 0) (ci := 9) hPc hDc hK hXN rfl rfl) rfl rfl hl.1 rfl (lv_room (Nat.le_of_ble_eq_true rfl)) dX11_grow_2 ⟨Nat.le_of_ble_eq_true rfl, Nat.le_of_ble_eq_true rfl⟩) hS hFc hFc rfl (fun t H1 locs ht hB hk1 hS => ?_)
  obtain ⟨hP1, hD1⟩ := hB
  rw [ht] at hP1
  obtain ⟨hP, hD⟩ := va_join (wr := []) (w1 := [(om k0 a I0 J0)]) hP hD [0] [] rfl rfl (by decide) (by decide) hk1 hFc hP1 hD1
  clear hk1 hPc hDc hFc hP1 hD1 ht
  generalize H1 = H at hP hS ⊢
  have hP : va_P (dC, dI) classes [(om k0 a I0 J0)] H := hP
  have hD : va_D A [(om k0 a I0 J0)] := hD
  refine lv_istore_n (lv' := [(2, .int 1), (0, .ref k0), (1, .int v)]) hx hb dX11_grow_5 rfl hl (by decide) rfl (fun ls hl => ?_)
  refine lv_iload_n hx hb dX11_grow_6 rfl (lv_at hl 0 rfl) ?_
  refine lv_if_le (tgt := 14) hx hb dX11_grow_7 (by decide) (fun c_1 => ?_) (fun c_1 => ?_)
  · exact absurd c_1 (by decide)
  · refine lv_iload_n hx hb dX11_grow_10 rfl (lv_at hl 0 rfl) ?_
    refine lv_goto (tgt := 43) hx hb dX11_grow_11 (by decide) ?_
    refine lv_istore_n (lv' := [(2, .int 1), (0, .ref k0), (1, .int v)]) hx hb dX11_grow_43 rfl hl (by decide) rfl (fun ls hl => ?_)
    refine lv_iload_n hx hb dX11_grow_44 rfl (lv_at hl 0 rfl) ?_
    refine lv_if_le (tgt := 54) hx hb dX11_grow_45 (by decide) (fun c_2 => ?_) (fun c_2 => ?_)
    · exact absurd c_2 (by decide)
    · refine lv_aload_n hx hb dX11_grow_48 rfl (lv_at hl 1 rfl) ?_
      refine lv_iload_n hx hb dX11_grow_49 rfl (lv_at hl 0 rfl) ?_
      have hPc := hP.sub (ws' := [(om k0 a I0 J0)]) [0] rfl
      have hDc := hD.sub (ws' := [(om k0 a I0 J0)]) [0] (by decide) rfl
      have hFc := va_free (wc := [(om k0 a I0 J0)]) hD hS hA [0] rfl
      refine zcall (st1 := [.int 0]) (va_runV (As := [.int 1]) (rest := []) ⟨hx, hb, hml, hown, hts⟩ (k_M_no l dC dI cI cZ cF H.size k0 a I0 J0 1 (by decide)) (cwV 1 hts (zz_gV mw_1353 mw_1355 mw_38 mw_110 mc_yX11_no) rfl rfl rfl (by decide +kernel) ⟨Nat.le_of_ble_eq_true rfl, Nat.le_of_ble_eq_true rfl⟩) (zPV2 (q0 := 0) (ci := 9) hPc hDc hK hXN rfl rfl) rfl rfl hl.1 rfl (lv_room (Nat.le_of_ble_eq_true rfl)) dX11_grow_50 ⟨Nat.le_of_ble_eq_true rfl, Nat.le_of_ble_eq_true rfl⟩) hS hFc hFc rfl (fun t H1 locs ht hB hk1 hS => ?_)
      obtain ⟨hP1, hD1⟩ := hB
      rw [ht] at hP1
      obtain ⟨hP, hD⟩ := va_join (wr := []) (w1 := [(om k0 a (upd (upd I0 14 1) 15 (I0 15)) J0)]) hP hD [0] [] rfl rfl (by decide) (by decide) hk1 hFc hP1 hD1
      clear hk1 hPc hDc hFc hP1 hD1 ht
      generalize H1 = H at hP hS ⊢
      have hP : va_P (dC, dI) classes [(om k0 a (upd (upd I0 14 1) 15 (I0 15)) J0)] H := hP
      have hD : va_D A [(om k0 a (upd (upd I0 14 1) 15 (I0 15)) J0)] := hD
      have hP9 := hP.sub (ws' := [(om k0 a (upd (upd I0 14 1) 15 (I0 15)) J0)]) [0] rfl
      have hD9 := hD.sub (ws' := [(om k0 a (upd (upd I0 14 1) 15 (I0 15)) J0)]) [0] (by decide) rfl
      rw [hQ9]
      exact W.zret (ty := .boolean) (v := 0) hx hb hr (rfl) (fun t ht hW => ⟨⟨rfl, by rw [ht]; exact hP9, hD9⟩, hS.F ht⟩) hS.2.2 dX11_grow_53
set_option maxHeartbeats 4000000 in
set_option maxRecDepth 100000 in
theorem k_M_square_x (l : Launch) (dC : Nat → ClassId) (dI : Nat → Nat → Nat) (cI cZ cF : ClassId) (sz : Nat) (k0 : Nat) (a : Nat → Nat) (I0 : Nat → Int32) (J0 : Nat → Int64) (ft : Nat) (v : Int32) (ms : Int32) (hft : I0 0 = nI ft) (h200 : ft ≤ 200) (hv : ¬ (0 ≤ v.toInt ∧ v.toInt < (ft : Int))) : Met l yX11_square (.code yX11_square cX11_square 6 (some .boolean) :: ws0) ({ frames := 2, cells := 0, slots := 0, locals := 42 } : Room) (va_Pc [.ref k0, .int v, .int ms] (zPre (dC, dI) classes (zTy cI cZ cF) [(om k0 a I0 J0)] sz zXN)) (zQ (some (.int 0)) (fun t => va_P (dC, dI) classes [(om k0 a (upd (upd I0 14 1) 15 (I0 15)) J0)] t.heap ∧ va_D (va_A [(om k0 a I0 J0)] sz) [(om k0 a (upd (upd I0 14 1) 15 (I0 15)) J0)]) (va_A [(om k0 a I0 J0)] sz)) 0 0 (va_A [(om k0 a I0 J0)] sz) := by
  refine Met.ofW (cc := cX11_square) (maxL := 6) (ret := (some .boolean)) (by decide) rfl ?_
  intro p e s m args below meth c s₁ B hml hv
  obtain ⟨rfl, hsz, hP, hK, hD0, hXN⟩ := hv
  have hx := B.exec
  have hb := B.bytes
  have hr := B.returns
  have hts0 := atoms_spec (ws := .code yX11_square cX11_square 6 (some .boolean) :: ws0) B.pre
  have hts : ∀ w9 ∈ ws0, w9.before ([.ref k0, .int v, .int ms] : List Value).toArray s = true := fun w9 h => hts0 w9 (List.mem_cons_of_mem _ h)
  have hown : s.vm.findClass "ScaleShopModel" = some m.cls := findClass_of_methodNamed B.named
  have hlocks := B.notSynchronized
  subst hsz
  have hD := hD0.self (sz := s.heap.size)
  clear hD0
  generalize hAe : va_A [(om k0 a I0 J0)] s.heap.size = A at hD ⊢
  have hA : ∀ q : Nat, s.heap.size ≤ q → A q := fun q h => by rw [← hAe]; exact Or.inr h
  clear hAe
  have hS : va_S A s.heap s.heap [] := va_S.rf
  have hP : va_P (dC, dI) classes [(om k0 a I0 J0)] s.heap := hP
  obtain ⟨Q9, hQ9⟩ : ∃ Q9 : State → Prop, Q9 = MQ below (zQ (some (.int 0)) (fun t => va_P (dC, dI) classes [(om k0 a (upd (upd I0 14 1) 15 (I0 15)) J0)] t.heap ∧ va_D A [(om k0 a (upd (upd I0 14 1) 15 (I0 15)) J0)]) A) ([.ref k0, .int v, .int ms] : List Value).toArray s 0 0 A := ⟨_, rfl⟩
  rw [← hQ9]
  have hl := lv_entry ([.ref k0, .int v, .int ms]) (n := 6) (Nat.le_of_ble_eq_true rfl)
  rw [lg_entry_eq]
  generalize (lg_sl ([.ref k0, .int v, .int ms]) ++ List.replicate (6 - (lg_sl ([.ref k0, .int v, .int ms])).length) Slot.unset).toArray = ls at hl ⊢
  have hl : lv_has ls 6 [(0, .ref k0), (1, .int v), (2, .int ms)] := hl
  refine lv_aload_n hx hb dX11_square_0 rfl (lv_at hl 0 rfl) ?_
  refine lv_iload_n hx hb dX11_square_1 rfl (lv_at hl 1 rfl) ?_
  have hPc := hP.sub (ws' := [(om k0 a I0 J0)]) [0] rfl
  have hDc := hD.sub (ws' := [(om k0 a I0 J0)]) [0] (by decide) rfl
  have hFc := va_free (wc := [(om k0 a I0 J0)]) hD hS hA [0] rfl
  refine zcall (st1 := [.int 1]) (va_runV (As := [.int v]) (rest := []) ⟨hx, hb, hml, hown, hts⟩ (k_M_wrong_x l dC dI cI cZ cF s.heap.size k0 a I0 J0 ft v (by assumption) (by omega) (by assumption)) (cwV 1 hts (zz_gV mw_1407 mw_1409 mw_46 mw_110 mc_yX11_wrong) rfl rfl rfl (by decide +kernel) ⟨Nat.le_of_ble_eq_true rfl, Nat.le_of_ble_eq_true rfl⟩) (zPV2 (q0 := 0) (ci := 9) hPc hDc hK hXN rfl rfl) rfl rfl hl.1 rfl (lv_room (Nat.le_of_ble_eq_true rfl)) dX11_square_2 ⟨Nat.le_of_ble_eq_true rfl, Nat.le_of_ble_eq_true rfl⟩) hS hFc hFc rfl (fun t H1 locs ht hB hk1 hS => ?_)
  obtain ⟨hP1, hD1⟩ := hB
  rw [ht] at hP1
  obtain ⟨hP, hD⟩ := va_join (wr := []) (w1 := [(om k0 a I0 J0)]) hP hD [0] [] rfl rfl (by decide) (by decide) hk1 hFc hP1 hD1
  clear hk1 hPc hDc hFc hP1 hD1 ht
  generalize H1 = H at hP hS ⊢
  have hP : va_P (dC, dI) classes [(om k0 a I0 J0)] H := hP
  have hD : va_D A [(om k0 a I0 J0)] := hD
  refine lv_istore_n (lv' := [(3, .int 1), (0, .ref k0), (1, .int v), (2, .int ms)]) hx hb dX11_square_5 rfl hl (by decide) rfl (fun ls hl => ?_)
  refine lv_iload_n hx hb dX11_square_6 rfl (lv_at hl 0 rfl) ?_
  refine lv_if_le (tgt := 14) hx hb dX11_square_7 (by decide) (fun c_1 => ?_) (fun c_1 => ?_)
  · exact absurd c_1 (by decide)
  · refine lv_iload_n hx hb dX11_square_10 rfl (lv_at hl 0 rfl) ?_
    refine lv_goto (tgt := 37) hx hb dX11_square_11 (by decide) ?_
    refine lv_istore_n (lv' := [(3, .int 1), (0, .ref k0), (1, .int v), (2, .int ms)]) hx hb dX11_square_37 rfl hl (by decide) rfl (fun ls hl => ?_)
    refine lv_iload_n hx hb dX11_square_38 rfl (lv_at hl 0 rfl) ?_
    refine lv_if_le (tgt := 48) hx hb dX11_square_39 (by decide) (fun c_2 => ?_) (fun c_2 => ?_)
    · exact absurd c_2 (by decide)
    · refine lv_aload_n hx hb dX11_square_42 rfl (lv_at hl 1 rfl) ?_
      refine lv_iload_n hx hb dX11_square_43 rfl (lv_at hl 0 rfl) ?_
      have hPc := hP.sub (ws' := [(om k0 a I0 J0)]) [0] rfl
      have hDc := hD.sub (ws' := [(om k0 a I0 J0)]) [0] (by decide) rfl
      have hFc := va_free (wc := [(om k0 a I0 J0)]) hD hS hA [0] rfl
      refine zcall (st1 := [.int 0]) (va_runV (As := [.int 1]) (rest := []) ⟨hx, hb, hml, hown, hts⟩ (k_M_no l dC dI cI cZ cF H.size k0 a I0 J0 1 (by decide)) (cwV 1 hts (zz_gV mw_1353 mw_1355 mw_38 mw_110 mc_yX11_no) rfl rfl rfl (by decide +kernel) ⟨Nat.le_of_ble_eq_true rfl, Nat.le_of_ble_eq_true rfl⟩) (zPV2 (q0 := 0) (ci := 9) hPc hDc hK hXN rfl rfl) rfl rfl hl.1 rfl (lv_room (Nat.le_of_ble_eq_true rfl)) dX11_square_44 ⟨Nat.le_of_ble_eq_true rfl, Nat.le_of_ble_eq_true rfl⟩) hS hFc hFc rfl (fun t H1 locs ht hB hk1 hS => ?_)
      obtain ⟨hP1, hD1⟩ := hB
      rw [ht] at hP1
      obtain ⟨hP, hD⟩ := va_join (wr := []) (w1 := [(om k0 a (upd (upd I0 14 1) 15 (I0 15)) J0)]) hP hD [0] [] rfl rfl (by decide) (by decide) hk1 hFc hP1 hD1
      clear hk1 hPc hDc hFc hP1 hD1 ht
      generalize H1 = H at hP hS ⊢
      have hP : va_P (dC, dI) classes [(om k0 a (upd (upd I0 14 1) 15 (I0 15)) J0)] H := hP
      have hD : va_D A [(om k0 a (upd (upd I0 14 1) 15 (I0 15)) J0)] := hD
      have hP9 := hP.sub (ws' := [(om k0 a (upd (upd I0 14 1) 15 (I0 15)) J0)]) [0] rfl
      have hD9 := hD.sub (ws' := [(om k0 a (upd (upd I0 14 1) 15 (I0 15)) J0)]) [0] (by decide) rfl
      rw [hQ9]
      exact W.zret (ty := .boolean) (v := 0) hx hb hr (rfl) (fun t ht hW => ⟨⟨rfl, by rw [ht]; exact hP9, hD9⟩, hS.F ht⟩) hS.2.2 dX11_square_47
set_option maxHeartbeats 4000000 in
set_option maxRecDepth 100000 in
theorem k_M_drop_x (l : Launch) (dC : Nat → ClassId) (dI : Nat → Nat → Nat) (cI cZ cF : ClassId) (sz : Nat) (k0 : Nat) (a : Nat → Nat) (I0 : Nat → Int32) (J0 : Nat → Int64) (ft : Nat) (v : Int32) (hft : I0 0 = nI ft) (h200 : ft ≤ 200) (hv : ¬ (0 ≤ v.toInt ∧ v.toInt < (ft : Int))) : Met l yX11_drop (.code yX11_drop cX11_drop 4 (some .boolean) :: ws0) ({ frames := 2, cells := 0, slots := 0, locals := 42 } : Room) (va_Pc [.ref k0, .int v] (zPre (dC, dI) classes (zTy cI cZ cF) [(om k0 a I0 J0)] sz zXN)) (zQ (some (.int 0)) (fun t => va_P (dC, dI) classes [(om k0 a (upd (upd I0 14 1) 15 (I0 15)) J0)] t.heap ∧ va_D (va_A [(om k0 a I0 J0)] sz) [(om k0 a (upd (upd I0 14 1) 15 (I0 15)) J0)]) (va_A [(om k0 a I0 J0)] sz)) 0 0 (va_A [(om k0 a I0 J0)] sz) := by
  refine Met.ofW (cc := cX11_drop) (maxL := 4) (ret := (some .boolean)) (by decide) rfl ?_
  intro p e s m args below meth c s₁ B hml hv
  obtain ⟨rfl, hsz, hP, hK, hD0, hXN⟩ := hv
  have hx := B.exec
  have hb := B.bytes
  have hr := B.returns
  have hts0 := atoms_spec (ws := .code yX11_drop cX11_drop 4 (some .boolean) :: ws0) B.pre
  have hts : ∀ w9 ∈ ws0, w9.before ([.ref k0, .int v] : List Value).toArray s = true := fun w9 h => hts0 w9 (List.mem_cons_of_mem _ h)
  have hown : s.vm.findClass "ScaleShopModel" = some m.cls := findClass_of_methodNamed B.named
  have hlocks := B.notSynchronized
  subst hsz
  have hD := hD0.self (sz := s.heap.size)
  clear hD0
  generalize hAe : va_A [(om k0 a I0 J0)] s.heap.size = A at hD ⊢
  have hA : ∀ q : Nat, s.heap.size ≤ q → A q := fun q h => by rw [← hAe]; exact Or.inr h
  clear hAe
  have hS : va_S A s.heap s.heap [] := va_S.rf
  have hP : va_P (dC, dI) classes [(om k0 a I0 J0)] s.heap := hP
  obtain ⟨Q9, hQ9⟩ : ∃ Q9 : State → Prop, Q9 = MQ below (zQ (some (.int 0)) (fun t => va_P (dC, dI) classes [(om k0 a (upd (upd I0 14 1) 15 (I0 15)) J0)] t.heap ∧ va_D A [(om k0 a (upd (upd I0 14 1) 15 (I0 15)) J0)]) A) ([.ref k0, .int v] : List Value).toArray s 0 0 A := ⟨_, rfl⟩
  rw [← hQ9]
  have hl := lv_entry ([.ref k0, .int v]) (n := 4) (Nat.le_of_ble_eq_true rfl)
  rw [lg_entry_eq]
  generalize (lg_sl ([.ref k0, .int v]) ++ List.replicate (4 - (lg_sl ([.ref k0, .int v])).length) Slot.unset).toArray = ls at hl ⊢
  have hl : lv_has ls 4 [(0, .ref k0), (1, .int v)] := hl
  refine lv_aload_n hx hb dX11_drop_0 rfl (lv_at hl 0 rfl) ?_
  refine lv_iload_n hx hb dX11_drop_1 rfl (lv_at hl 1 rfl) ?_
  have hPc := hP.sub (ws' := [(om k0 a I0 J0)]) [0] rfl
  have hDc := hD.sub (ws' := [(om k0 a I0 J0)]) [0] (by decide) rfl
  have hFc := va_free (wc := [(om k0 a I0 J0)]) hD hS hA [0] rfl
  refine zcall (st1 := [.int 1]) (va_runV (As := [.int v]) (rest := []) ⟨hx, hb, hml, hown, hts⟩ (k_M_wrong_x l dC dI cI cZ cF s.heap.size k0 a I0 J0 ft v (by assumption) (by omega) (by assumption)) (cwV 1 hts (zz_gV mw_1407 mw_1409 mw_46 mw_110 mc_yX11_wrong) rfl rfl rfl (by decide +kernel) ⟨Nat.le_of_ble_eq_true rfl, Nat.le_of_ble_eq_true rfl⟩) (zPV2 (q0 := 0) (ci := 9) hPc hDc hK hXN rfl rfl) rfl rfl hl.1 rfl (lv_room (Nat.le_of_ble_eq_true rfl)) dX11_drop_2 ⟨Nat.le_of_ble_eq_true rfl, Nat.le_of_ble_eq_true rfl⟩) hS hFc hFc rfl (fun t H1 locs ht hB hk1 hS => ?_)
  obtain ⟨hP1, hD1⟩ := hB
  rw [ht] at hP1
  obtain ⟨hP, hD⟩ := va_join (wr := []) (w1 := [(om k0 a I0 J0)]) hP hD [0] [] rfl rfl (by decide) (by decide) hk1 hFc hP1 hD1
  clear hk1 hPc hDc hFc hP1 hD1 ht
  generalize H1 = H at hP hS ⊢
  have hP : va_P (dC, dI) classes [(om k0 a I0 J0)] H := hP
  have hD : va_D A [(om k0 a I0 J0)] := hD
  refine lv_istore_n (lv' := [(2, .int 1), (0, .ref k0), (1, .int v)]) hx hb dX11_drop_5 rfl hl (by decide) rfl (fun ls hl => ?_)
  refine lv_iload_n hx hb dX11_drop_6 rfl (lv_at hl 0 rfl) ?_
  refine lv_if_le (tgt := 14) hx hb dX11_drop_7 (by decide) (fun c_1 => ?_) (fun c_1 => ?_)
  · exact absurd c_1 (by decide)
  · refine lv_iload_n hx hb dX11_drop_10 rfl (lv_at hl 0 rfl) ?_
    refine lv_goto (tgt := 28) hx hb dX11_drop_11 (by decide) ?_
    refine lv_istore_n (lv' := [(2, .int 1), (0, .ref k0), (1, .int v)]) hx hb dX11_drop_28 rfl hl (by decide) rfl (fun ls hl => ?_)
    refine lv_iload_n hx hb dX11_drop_29 rfl (lv_at hl 0 rfl) ?_
    refine lv_if_le (tgt := 39) hx hb dX11_drop_30 (by decide) (fun c_2 => ?_) (fun c_2 => ?_)
    · exact absurd c_2 (by decide)
    · refine lv_aload_n hx hb dX11_drop_33 rfl (lv_at hl 1 rfl) ?_
      refine lv_iload_n hx hb dX11_drop_34 rfl (lv_at hl 0 rfl) ?_
      have hPc := hP.sub (ws' := [(om k0 a I0 J0)]) [0] rfl
      have hDc := hD.sub (ws' := [(om k0 a I0 J0)]) [0] (by decide) rfl
      have hFc := va_free (wc := [(om k0 a I0 J0)]) hD hS hA [0] rfl
      refine zcall (st1 := [.int 0]) (va_runV (As := [.int 1]) (rest := []) ⟨hx, hb, hml, hown, hts⟩ (k_M_no l dC dI cI cZ cF H.size k0 a I0 J0 1 (by decide)) (cwV 1 hts (zz_gV mw_1353 mw_1355 mw_38 mw_110 mc_yX11_no) rfl rfl rfl (by decide +kernel) ⟨Nat.le_of_ble_eq_true rfl, Nat.le_of_ble_eq_true rfl⟩) (zPV2 (q0 := 0) (ci := 9) hPc hDc hK hXN rfl rfl) rfl rfl hl.1 rfl (lv_room (Nat.le_of_ble_eq_true rfl)) dX11_drop_35 ⟨Nat.le_of_ble_eq_true rfl, Nat.le_of_ble_eq_true rfl⟩) hS hFc hFc rfl (fun t H1 locs ht hB hk1 hS => ?_)
      obtain ⟨hP1, hD1⟩ := hB
      rw [ht] at hP1
      obtain ⟨hP, hD⟩ := va_join (wr := []) (w1 := [(om k0 a (upd (upd I0 14 1) 15 (I0 15)) J0)]) hP hD [0] [] rfl rfl (by decide) (by decide) hk1 hFc hP1 hD1
      clear hk1 hPc hDc hFc hP1 hD1 ht
      generalize H1 = H at hP hS ⊢
      have hP : va_P (dC, dI) classes [(om k0 a (upd (upd I0 14 1) 15 (I0 15)) J0)] H := hP
      have hD : va_D A [(om k0 a (upd (upd I0 14 1) 15 (I0 15)) J0)] := hD
      have hP9 := hP.sub (ws' := [(om k0 a (upd (upd I0 14 1) 15 (I0 15)) J0)]) [0] rfl
      have hD9 := hD.sub (ws' := [(om k0 a (upd (upd I0 14 1) 15 (I0 15)) J0)]) [0] (by decide) rfl
      rw [hQ9]
      exact W.zret (ty := .boolean) (v := 0) hx hb hr (rfl) (fun t ht hW => ⟨⟨rfl, by rw [ht]; exact hP9, hD9⟩, hS.F ht⟩) hS.2.2 dX11_drop_38
set_option maxHeartbeats 4000000 in
set_option maxRecDepth 100000 in
theorem k_M_shift_x (l : Launch) (dC : Nat → ClassId) (dI : Nat → Nat → Nat) (cI cZ cF : ClassId) (sz : Nat) (k0 : Nat) (a : Nat → Nat) (I0 : Nat → Int32) (J0 : Nat → Int64) (ft : Nat) (v : Int32) (kv : Int32) (dx : Int32) (dy : Int32) (rv : Int32) (hft : I0 0 = nI ft) (h200 : ft ≤ 200) (hv : ¬ (0 ≤ v.toInt ∧ v.toInt < (ft : Int))) : Met l yX11_shift (.code yX11_shift cX11_shift 13 (some .boolean) :: ws0) ({ frames := 2, cells := 0, slots := 0, locals := 42 } : Room) (va_Pc [.ref k0, .int v, .int kv, .int dx, .int dy, .int rv] (zPre (dC, dI) classes (zTy cI cZ cF) [(om k0 a I0 J0)] sz zXN)) (zQ (some (.int 0)) (fun t => va_P (dC, dI) classes [(om k0 a (upd (upd I0 14 1) 15 (I0 15)) J0)] t.heap ∧ va_D (va_A [(om k0 a I0 J0)] sz) [(om k0 a (upd (upd I0 14 1) 15 (I0 15)) J0)]) (va_A [(om k0 a I0 J0)] sz)) 0 0 (va_A [(om k0 a I0 J0)] sz) := by
  refine Met.ofW (cc := cX11_shift) (maxL := 13) (ret := (some .boolean)) (by decide) rfl ?_
  intro p e s m args below meth c s₁ B hml hv
  obtain ⟨rfl, hsz, hP, hK, hD0, hXN⟩ := hv
  have hx := B.exec
  have hb := B.bytes
  have hr := B.returns
  have hts0 := atoms_spec (ws := .code yX11_shift cX11_shift 13 (some .boolean) :: ws0) B.pre
  have hts : ∀ w9 ∈ ws0, w9.before ([.ref k0, .int v, .int kv, .int dx, .int dy, .int rv] : List Value).toArray s = true := fun w9 h => hts0 w9 (List.mem_cons_of_mem _ h)
  have hown : s.vm.findClass "ScaleShopModel" = some m.cls := findClass_of_methodNamed B.named
  have hlocks := B.notSynchronized
  subst hsz
  have hD := hD0.self (sz := s.heap.size)
  clear hD0
  generalize hAe : va_A [(om k0 a I0 J0)] s.heap.size = A at hD ⊢
  have hA : ∀ q : Nat, s.heap.size ≤ q → A q := fun q h => by rw [← hAe]; exact Or.inr h
  clear hAe
  have hS : va_S A s.heap s.heap [] := va_S.rf
  have hP : va_P (dC, dI) classes [(om k0 a I0 J0)] s.heap := hP
  obtain ⟨Q9, hQ9⟩ : ∃ Q9 : State → Prop, Q9 = MQ below (zQ (some (.int 0)) (fun t => va_P (dC, dI) classes [(om k0 a (upd (upd I0 14 1) 15 (I0 15)) J0)] t.heap ∧ va_D A [(om k0 a (upd (upd I0 14 1) 15 (I0 15)) J0)]) A) ([.ref k0, .int v, .int kv, .int dx, .int dy, .int rv] : List Value).toArray s 0 0 A := ⟨_, rfl⟩
  rw [← hQ9]
  have hl := lv_entry ([.ref k0, .int v, .int kv, .int dx, .int dy, .int rv]) (n := 13) (Nat.le_of_ble_eq_true rfl)
  rw [lg_entry_eq]
  generalize (lg_sl ([.ref k0, .int v, .int kv, .int dx, .int dy, .int rv]) ++ List.replicate (13 - (lg_sl ([.ref k0, .int v, .int kv, .int dx, .int dy, .int rv])).length) Slot.unset).toArray = ls at hl ⊢
  have hl : lv_has ls 13 [(0, .ref k0), (1, .int v), (2, .int kv), (3, .int dx), (4, .int dy), (5, .int rv)] := hl
  refine lv_aload_n hx hb dX11_shift_0 rfl (lv_at hl 0 rfl) ?_
  refine lv_iload_n hx hb dX11_shift_1 rfl (lv_at hl 1 rfl) ?_
  have hPc := hP.sub (ws' := [(om k0 a I0 J0)]) [0] rfl
  have hDc := hD.sub (ws' := [(om k0 a I0 J0)]) [0] (by decide) rfl
  have hFc := va_free (wc := [(om k0 a I0 J0)]) hD hS hA [0] rfl
  refine zcall (st1 := [.int (pI (0 ≤ v.toInt ∧ v.toInt < (ft : Int)))]) (va_runV (As := [.int v]) (rest := []) ⟨hx, hb, hml, hown, hts⟩ (k_M_isFeature l dC dI cI cZ cF s.heap.size k0 a I0 J0 ft v (by assumption) (by omega)) (cwV 1 hts (zz_gV mw_1345 mw_1347 mw_37 mw_110 mc_yX11_isFeature) rfl rfl rfl (by decide +kernel) ⟨Nat.le_of_ble_eq_true rfl, Nat.le_of_ble_eq_true rfl⟩) (zPV2 (q0 := 0) (ci := 9) hPc hDc hK hXN rfl rfl) rfl rfl hl.1 rfl (lv_room (Nat.le_of_ble_eq_true rfl)) dX11_shift_2 ⟨Nat.le_of_ble_eq_true rfl, Nat.le_of_ble_eq_true rfl⟩) hS hFc hFc rfl (fun t H1 locs ht hB hk1 hS => ?_)
  obtain ⟨hP1, hD1⟩ := hB
  rw [ht] at hP1
  obtain ⟨hP, hD⟩ := va_join (wr := []) (w1 := [(om k0 a I0 J0)]) hP hD [0] [] rfl rfl (by decide) (by decide) hk1 hFc hP1 hD1
  clear hk1 hPc hDc hFc hP1 hD1 ht
  generalize H1 = H at hP hS ⊢
  have hP : va_P (dC, dI) classes [(om k0 a I0 J0)] H := hP
  have hD : va_D A [(om k0 a I0 J0)] := hD
  refine lv_if_eq (tgt := 35) hx hb dX11_shift_5 (by decide) (fun c_1 => ?_) (fun c_1 => ?_)
  · have c_1 : ¬ (0 ≤ v.toInt ∧ v.toInt < (ft : Int)) := zp_0 c_1
    refine lv_iconst (v := 0) hx hb dX11_shift_35 (by decide) ?_
    refine lv_istore (lv' := [(6, .int 0), (0, .ref k0), (1, .int v), (2, .int kv), (3, .int dx), (4, .int dy), (5, .int rv)]) hx hb dX11_shift_36 hl (by decide) rfl (fun ls hl => ?_)
    refine lv_aload_n hx hb dX11_shift_38 rfl (lv_at hl 1 rfl) ?_
    refine lv_iload_n hx hb dX11_shift_39 rfl (lv_at hl 2 rfl) ?_
    have hPc := hP.sub (ws' := [(om k0 a I0 J0)]) [0] rfl
    have hDc := hD.sub (ws' := [(om k0 a I0 J0)]) [0] (by decide) rfl
    have hFc := va_free (wc := [(om k0 a I0 J0)]) hD hS hA [0] rfl
    refine zcall (st1 := [.int (pI (0 ≤ v.toInt ∧ v.toInt < (ft : Int)))]) (va_runV (As := [.int v]) (rest := []) ⟨hx, hb, hml, hown, hts⟩ (k_M_isFeature l dC dI cI cZ cF H.size k0 a I0 J0 ft v (by assumption) (by omega)) (cwV 1 hts (zz_gV mw_1345 mw_1347 mw_37 mw_110 mc_yX11_isFeature) rfl rfl rfl (by decide +kernel) ⟨Nat.le_of_ble_eq_true rfl, Nat.le_of_ble_eq_true rfl⟩) (zPV2 (q0 := 0) (ci := 9) hPc hDc hK hXN rfl rfl) rfl rfl hl.1 rfl (lv_room (Nat.le_of_ble_eq_true rfl)) dX11_shift_40 ⟨Nat.le_of_ble_eq_true rfl, Nat.le_of_ble_eq_true rfl⟩) hS hFc hFc rfl (fun t H1 locs ht hB hk1 hS => ?_)
    obtain ⟨hP1, hD1⟩ := hB
    rw [ht] at hP1
    obtain ⟨hP, hD⟩ := va_join (wr := []) (w1 := [(om k0 a I0 J0)]) hP hD [0] [] rfl rfl (by decide) (by decide) hk1 hFc hP1 hD1
    clear hk1 hPc hDc hFc hP1 hD1 ht
    generalize H1 = H at hP hS ⊢
    have hP : va_P (dC, dI) classes [(om k0 a I0 J0)] H := hP
    have hD : va_D A [(om k0 a I0 J0)] := hD
    refine lv_if_eq (tgt := 51) hx hb dX11_shift_43 (by decide) (fun c_2 => ?_) (fun c_2 => ?_)
    · have c_2 : ¬ (0 ≤ v.toInt ∧ v.toInt < (ft : Int)) := zp_0 c_2
      refine lv_iconst (v := 1) hx hb dX11_shift_51 (by decide) ?_
      refine lv_goto (tgt := 70) hx hb dX11_shift_52 (by decide) ?_
      refine lv_istore (lv' := [(7, .int 1), (6, .int 0), (0, .ref k0), (1, .int v), (2, .int kv), (3, .int dx), (4, .int dy), (5, .int rv)]) hx hb dX11_shift_70 hl (by decide) rfl (fun ls hl => ?_)
      have hj_3 : W p l e ((headSpec (.code yX11_shift cX11_shift 13 (some .boolean) :: ws0) ({ frames := 2, cells := 0, slots := 0, locals := 42 } : Room)).room) s m ([.ref k0, .int v, .int kv, .int dx, .int dy, .int rv] : List Value).toArray below meth c H locs 0 0 Q9 (F0 m 119 ls [.int (pI (¬ ((-200 ≤ dx.toInt ∧ dx.toInt ≤ 200) ∧ (-200 ≤ dy.toInt ∧ dy.toInt ≤ 200) ∧ (0 ≤ rv.toInt ∧ rv.toInt ≤ 20))))]) := by
        refine lv_istore (lv' := [(8, .int (pI (¬ ((-200 ≤ dx.toInt ∧ dx.toInt ≤ 200) ∧ (-200 ≤ dy.toInt ∧ dy.toInt ≤ 200) ∧ (0 ≤ rv.toInt ∧ rv.toInt ≤ 20))))), (7, .int 1), (6, .int 0), (0, .ref k0), (1, .int v), (2, .int kv), (3, .int dx), (4, .int dy), (5, .int rv)]) hx hb dX11_shift_119 hl (by decide) rfl (fun ls hl => ?_)
        refine lv_iload hx hb dX11_shift_121 (lv_at hl 1 rfl) ?_
        refine lv_if_le (tgt := 131) hx hb dX11_shift_123 (by decide) (fun c_4 => ?_) (fun c_4 => ?_)
        · exact absurd c_4 (by decide)
        · refine lv_iload hx hb dX11_shift_126 (lv_at hl 1 rfl) ?_
          refine lv_goto (tgt := 154) hx hb dX11_shift_128 (by decide) ?_
          refine lv_istore (lv' := [(7, .int 1), (8, .int (pI (¬ ((-200 ≤ dx.toInt ∧ dx.toInt ≤ 200) ∧ (-200 ≤ dy.toInt ∧ dy.toInt ≤ 200) ∧ (0 ≤ rv.toInt ∧ rv.toInt ≤ 20))))), (6, .int 0), (0, .ref k0), (1, .int v), (2, .int kv), (3, .int dx), (4, .int dy), (5, .int rv)]) hx hb dX11_shift_154 hl (by decide) rfl (fun ls hl => ?_)
          refine lv_iload hx hb dX11_shift_156 (lv_at hl 0 rfl) ?_
          refine lv_if_le (tgt := 168) hx hb dX11_shift_158 (by decide) (fun c_5 => ?_) (fun c_5 => ?_)
          · exact absurd c_5 (by decide)
          · refine lv_aload_n hx hb dX11_shift_161 rfl (lv_at hl 3 rfl) ?_
            refine lv_iload hx hb dX11_shift_162 (lv_at hl 0 rfl) ?_
            have hPc := hP.sub (ws' := [(om k0 a I0 J0)]) [0] rfl
            have hDc := hD.sub (ws' := [(om k0 a I0 J0)]) [0] (by decide) rfl
            have hFc := va_free (wc := [(om k0 a I0 J0)]) hD hS hA [0] rfl
            refine zcall (st1 := [.int 0]) (va_runV (As := [.int 1]) (rest := []) ⟨hx, hb, hml, hown, hts⟩ (k_M_no l dC dI cI cZ cF H.size k0 a I0 J0 1 (by decide)) (cwV 1 hts (zz_gV mw_1353 mw_1355 mw_38 mw_110 mc_yX11_no) rfl rfl rfl (by decide +kernel) ⟨Nat.le_of_ble_eq_true rfl, Nat.le_of_ble_eq_true rfl⟩) (zPV2 (q0 := 0) (ci := 9) hPc hDc hK hXN rfl rfl) rfl rfl hl.1 rfl (lv_room (Nat.le_of_ble_eq_true rfl)) dX11_shift_164 ⟨Nat.le_of_ble_eq_true rfl, Nat.le_of_ble_eq_true rfl⟩) hS hFc hFc rfl (fun t H1 locs ht hB hk1 hS => ?_)
            obtain ⟨hP1, hD1⟩ := hB
            rw [ht] at hP1
            obtain ⟨hP, hD⟩ := va_join (wr := []) (w1 := [(om k0 a (upd (upd I0 14 1) 15 (I0 15)) J0)]) hP hD [0] [] rfl rfl (by decide) (by decide) hk1 hFc hP1 hD1
            clear hk1 hPc hDc hFc hP1 hD1 ht
            generalize H1 = H at hP hS ⊢
            have hP : va_P (dC, dI) classes [(om k0 a (upd (upd I0 14 1) 15 (I0 15)) J0)] H := hP
            have hD : va_D A [(om k0 a (upd (upd I0 14 1) 15 (I0 15)) J0)] := hD
            have hP9 := hP.sub (ws' := [(om k0 a (upd (upd I0 14 1) 15 (I0 15)) J0)]) [0] rfl
            have hD9 := hD.sub (ws' := [(om k0 a (upd (upd I0 14 1) 15 (I0 15)) J0)]) [0] (by decide) rfl
            rw [hQ9]
            exact W.zret (ty := .boolean) (v := 0) hx hb hr (rfl) (fun t ht hW => ⟨⟨rfl, by rw [ht]; exact hP9, hD9⟩, hS.F ht⟩) hS.2.2 dX11_shift_167
      refine lv_iload_n hx hb dX11_shift_72 rfl (lv_at hl 5 rfl) ?_
      refine lv_sipush (v := (-200)) hx hb dX11_shift_73 (by decide) ?_
      refine lv_icmp_lt (tgt := 114) hx hb dX11_shift_76 (by decide) (fun c_6 => ?_) (fun c_6 => ?_)
      · have c_6 : dx.toInt < (-200) := zc_lt rfl (by decide) c_6
        refine lv_iconst (v := 1) hx hb dX11_shift_114 (by decide) ?_
        refine lv_goto (tgt := 119) hx hb dX11_shift_115 (by decide) ?_
        refine zz_i (v := pI (¬ ((-200 ≤ dx.toInt ∧ dx.toInt ≤ 200) ∧ (-200 ≤ dy.toInt ∧ dy.toInt ≤ 200) ∧ (0 ≤ rv.toInt ∧ rv.toInt ≤ 20)))) (by first | exact (zp_t (by omega)).symm | exact (zp_f (by omega)).symm) ?_
        exact hj_3 
      · have c_6 : (-200) ≤ dx.toInt := zc_nlt rfl (by decide) c_6
        refine lv_iload_n hx hb dX11_shift_79 rfl (lv_at hl 5 rfl) ?_
        refine lv_sipush (v := 200) hx hb dX11_shift_80 (by decide) ?_
        refine lv_icmp_gt (tgt := 114) hx hb dX11_shift_83 (by decide) (fun c_7 => ?_) (fun c_7 => ?_)
        · have c_7 : 200 < dx.toInt := zc_lt (by decide) rfl c_7
          refine lv_iconst (v := 1) hx hb dX11_shift_114 (by decide) ?_
          refine lv_goto (tgt := 119) hx hb dX11_shift_115 (by decide) ?_
          refine zz_i (v := pI (¬ ((-200 ≤ dx.toInt ∧ dx.toInt ≤ 200) ∧ (-200 ≤ dy.toInt ∧ dy.toInt ≤ 200) ∧ (0 ≤ rv.toInt ∧ rv.toInt ≤ 20)))) (by first | exact (zp_t (by omega)).symm | exact (zp_f (by omega)).symm) ?_
          exact hj_3 
        · have c_7 : dx.toInt ≤ 200 := zc_nlt (by decide) rfl c_7
          refine lv_iload hx hb dX11_shift_86 (lv_at hl 6 rfl) ?_
          refine lv_sipush (v := (-200)) hx hb dX11_shift_88 (by decide) ?_
          refine lv_icmp_lt (tgt := 114) hx hb dX11_shift_91 (by decide) (fun c_8 => ?_) (fun c_8 => ?_)
          · have c_8 : dy.toInt < (-200) := zc_lt rfl (by decide) c_8
            refine lv_iconst (v := 1) hx hb dX11_shift_114 (by decide) ?_
            refine lv_goto (tgt := 119) hx hb dX11_shift_115 (by decide) ?_
            refine zz_i (v := pI (¬ ((-200 ≤ dx.toInt ∧ dx.toInt ≤ 200) ∧ (-200 ≤ dy.toInt ∧ dy.toInt ≤ 200) ∧ (0 ≤ rv.toInt ∧ rv.toInt ≤ 20)))) (by first | exact (zp_t (by omega)).symm | exact (zp_f (by omega)).symm) ?_
            exact hj_3 
          · have c_8 : (-200) ≤ dy.toInt := zc_nlt rfl (by decide) c_8
            refine lv_iload hx hb dX11_shift_94 (lv_at hl 6 rfl) ?_
            refine lv_sipush (v := 200) hx hb dX11_shift_96 (by decide) ?_
            refine lv_icmp_gt (tgt := 114) hx hb dX11_shift_99 (by decide) (fun c_9 => ?_) (fun c_9 => ?_)
            · have c_9 : 200 < dy.toInt := zc_lt (by decide) rfl c_9
              refine lv_iconst (v := 1) hx hb dX11_shift_114 (by decide) ?_
              refine lv_goto (tgt := 119) hx hb dX11_shift_115 (by decide) ?_
              refine zz_i (v := pI (¬ ((-200 ≤ dx.toInt ∧ dx.toInt ≤ 200) ∧ (-200 ≤ dy.toInt ∧ dy.toInt ≤ 200) ∧ (0 ≤ rv.toInt ∧ rv.toInt ≤ 20)))) (by first | exact (zp_t (by omega)).symm | exact (zp_f (by omega)).symm) ?_
              exact hj_3 
            · have c_9 : dy.toInt ≤ 200 := zc_nlt (by decide) rfl c_9
              refine lv_iload hx hb dX11_shift_102 (lv_at hl 7 rfl) ?_
              refine lv_if_lt (tgt := 114) hx hb dX11_shift_104 (by decide) (fun c_10 => ?_) (fun c_10 => ?_)
              · have c_10 : rv.toInt < 0 := zc_lt rfl (by decide) c_10
                refine lv_iconst (v := 1) hx hb dX11_shift_114 (by decide) ?_
                refine lv_goto (tgt := 119) hx hb dX11_shift_115 (by decide) ?_
                refine zz_i (v := pI (¬ ((-200 ≤ dx.toInt ∧ dx.toInt ≤ 200) ∧ (-200 ≤ dy.toInt ∧ dy.toInt ≤ 200) ∧ (0 ≤ rv.toInt ∧ rv.toInt ≤ 20)))) (by first | exact (zp_t (by omega)).symm | exact (zp_f (by omega)).symm) ?_
                exact hj_3 
              · have c_10 : 0 ≤ rv.toInt := zc_nlt rfl (by decide) c_10
                refine lv_iload hx hb dX11_shift_107 (lv_at hl 7 rfl) ?_
                refine lv_bipush (v := 20) hx hb dX11_shift_109 (by decide) ?_
                refine lv_icmp_le (tgt := 118) hx hb dX11_shift_111 (by decide) (fun c_11 => ?_) (fun c_11 => ?_)
                · have c_11 : rv.toInt ≤ 20 := zc_le rfl (by decide) c_11
                  refine lv_iconst (v := 0) hx hb dX11_shift_118 (by decide) ?_
                  refine zz_i (v := pI (¬ ((-200 ≤ dx.toInt ∧ dx.toInt ≤ 200) ∧ (-200 ≤ dy.toInt ∧ dy.toInt ≤ 200) ∧ (0 ≤ rv.toInt ∧ rv.toInt ≤ 20)))) (by first | exact (zp_t (by omega)).symm | exact (zp_f (by omega)).symm) ?_
                  exact hj_3 
                · have c_11 : 20 < rv.toInt := zc_nle rfl (by decide) c_11
                  refine lv_iconst (v := 1) hx hb dX11_shift_114 (by decide) ?_
                  refine lv_goto (tgt := 119) hx hb dX11_shift_115 (by decide) ?_
                  refine zz_i (v := pI (¬ ((-200 ≤ dx.toInt ∧ dx.toInt ≤ 200) ∧ (-200 ≤ dy.toInt ∧ dy.toInt ≤ 200) ∧ (0 ≤ rv.toInt ∧ rv.toInt ≤ 20)))) (by first | exact (zp_t (by omega)).symm | exact (zp_f (by omega)).symm) ?_
                  exact hj_3 
    · have c_2 : 0 ≤ v.toInt ∧ v.toInt < (ft : Int) := zp_1 c_2
      exfalso; exact absurd (by assumption) hv
  · have c_1 : 0 ≤ v.toInt ∧ v.toInt < (ft : Int) := zp_1 c_1
    exfalso; exact absurd (by assumption) hv
set_option maxHeartbeats 4000000 in
set_option maxRecDepth 100000 in
theorem k_M_run_4 (l : Launch) (dC : Nat → ClassId) (dI : Nat → Nat → Nat) (cI cZ cF : ClassId) (sz : Nat) (k0 : Nat) (a : Nat → Nat) (I0 : Nat → Int32) (J0 : Nat → Int64) (lim : Int32) (hl9 : lim.toInt < 0) : Met l yX11_run (.code yX11_run cX11_run 2 (some .int) :: ws0) ({ frames := 1, cells := 0, slots := 0, locals := 21 } : Room) (va_Pc [.ref k0, .int lim] (zPre (dC, dI) classes (zTy cI cZ cF) [(om k0 a I0 J0)] sz zXN)) (zQ (some (.int (-1))) (fun t => va_P (dC, dI) classes [(om k0 a (upd (upd I0 14 4) 15 (I0 15)) J0)] t.heap ∧ va_D (va_A [(om k0 a I0 J0)] sz) [(om k0 a (upd (upd I0 14 4) 15 (I0 15)) J0)]) (va_A [(om k0 a I0 J0)] sz)) 0 0 (va_A [(om k0 a I0 J0)] sz) := by
  refine Met.ofW (cc := cX11_run) (maxL := 2) (ret := (some .int)) (by decide) rfl ?_
  intro p e s m args below meth c s₁ B hml hv
  obtain ⟨rfl, hsz, hP, hK, hD0, hXN⟩ := hv
  have hx := B.exec
  have hb := B.bytes
  have hr := B.returns
  have hts0 := atoms_spec (ws := .code yX11_run cX11_run 2 (some .int) :: ws0) B.pre
  have hts : ∀ w9 ∈ ws0, w9.before ([.ref k0, .int lim] : List Value).toArray s = true := fun w9 h => hts0 w9 (List.mem_cons_of_mem _ h)
  have hown : s.vm.findClass "ScaleShopModel" = some m.cls := findClass_of_methodNamed B.named
  have hlocks := B.notSynchronized
  subst hsz
  have hD := hD0.self (sz := s.heap.size)
  clear hD0
  generalize hAe : va_A [(om k0 a I0 J0)] s.heap.size = A at hD ⊢
  have hA : ∀ q : Nat, s.heap.size ≤ q → A q := fun q h => by rw [← hAe]; exact Or.inr h
  clear hAe
  have hS : va_S A s.heap s.heap [] := va_S.rf
  have hP : va_P (dC, dI) classes [(om k0 a I0 J0)] s.heap := hP
  obtain ⟨Q9, hQ9⟩ : ∃ Q9 : State → Prop, Q9 = MQ below (zQ (some (.int (-1))) (fun t => va_P (dC, dI) classes [(om k0 a (upd (upd I0 14 4) 15 (I0 15)) J0)] t.heap ∧ va_D A [(om k0 a (upd (upd I0 14 4) 15 (I0 15)) J0)]) A) ([.ref k0, .int lim] : List Value).toArray s 0 0 A := ⟨_, rfl⟩
  rw [← hQ9]
  have hl := lv_entry ([.ref k0, .int lim]) (n := 2) (Nat.le_of_ble_eq_true rfl)
  rw [lg_entry_eq]
  generalize (lg_sl ([.ref k0, .int lim]) ++ List.replicate (2 - (lg_sl ([.ref k0, .int lim])).length) Slot.unset).toArray = ls at hl ⊢
  have hl : lv_has ls 2 [(0, .ref k0), (1, .int lim)] := hl
  refine lv_iload_n hx hb dX11_run_0 rfl (lv_at hl 1 rfl) ?_
  refine lv_if_ge (tgt := 10) hx hb dX11_run_1 (by decide) (fun c_1 => ?_) (fun c_1 => ?_)
  · have c_1 : 0 ≤ lim.toInt := zc_le (by decide) rfl c_1
    exfalso; omega
  · have c_1 : lim.toInt < 0 := zc_nle (by decide) rfl c_1
    refine lv_aload_n hx hb dX11_run_4 rfl (lv_at hl 0 rfl) ?_
    refine lv_iconst (v := 4) hx hb dX11_run_5 (by decide) ?_
    have hPc := hP.sub (ws' := [(om k0 a I0 J0)]) [0] rfl
    have hDc := hD.sub (ws' := [(om k0 a I0 J0)]) [0] (by decide) rfl
    have hFc := va_free (wc := [(om k0 a I0 J0)]) hD hS hA [0] rfl
    refine zcall (st1 := [.int (-1)]) (va_runV (As := [.int 4]) (rest := []) ⟨hx, hb, hml, hown, hts⟩ (k_M_refuse l dC dI cI cZ cF s.heap.size k0 a I0 J0 4 (by decide)) (cwV 1 hts (zz_gV mw_1329 mw_1331 mw_34 mw_110 mc_yX11_refuse) rfl rfl rfl (by decide +kernel) ⟨Nat.le_of_ble_eq_true rfl, Nat.le_of_ble_eq_true rfl⟩) (zPV2 (q0 := 0) (ci := 9) hPc hDc hK hXN rfl rfl) rfl rfl hl.1 rfl (lv_room (Nat.le_of_ble_eq_true rfl)) dX11_run_6 ⟨Nat.le_of_ble_eq_true rfl, Nat.le_of_ble_eq_true rfl⟩) hS hFc hFc rfl (fun t H1 locs ht hB hk1 hS => ?_)
    obtain ⟨hP1, hD1⟩ := hB
    rw [ht] at hP1
    obtain ⟨hP, hD⟩ := va_join (wr := []) (w1 := [(om k0 a (upd (upd I0 14 4) 15 (I0 15)) J0)]) hP hD [0] [] rfl rfl (by decide) (by decide) hk1 hFc hP1 hD1
    clear hk1 hPc hDc hFc hP1 hD1 ht
    generalize H1 = H at hP hS ⊢
    have hP : va_P (dC, dI) classes [(om k0 a (upd (upd I0 14 4) 15 (I0 15)) J0)] H := hP
    have hD : va_D A [(om k0 a (upd (upd I0 14 4) 15 (I0 15)) J0)] := hD
    have hP9 := hP.sub (ws' := [(om k0 a (upd (upd I0 14 4) 15 (I0 15)) J0)]) [0] rfl
    have hD9 := hD.sub (ws' := [(om k0 a (upd (upd I0 14 4) 15 (I0 15)) J0)]) [0] (by decide) rfl
    rw [hQ9]
    exact W.iret (v := (-1)) hx hb hr (fun t ht hW => ⟨⟨rfl, by rw [ht]; exact hP9, hD9⟩, hS.F ht⟩) hS.2.2 dX11_run_9
set_option maxHeartbeats 4000000 in
set_option maxRecDepth 100000 in
theorem k_M_few_4 (l : Launch) (dC : Nat → ClassId) (dI : Nat → Nat → Nat) (cI cZ cF : ClassId) (sz : Nat) (k0 : Nat) (a : Nat → Nat) (I0 : Nat → Int32) (J0 : Nat → Int64) (le9 : Int32) (mv9 : Int32) (hbad : ¬ (0 ≤ le9.toInt ∧ 0 ≤ mv9.toInt ∧ mv9.toInt ≤ 200)) : Met l yX11_few (.code yX11_few cX11_few 9 (some .int) :: ws0) ({ frames := 1, cells := 0, slots := 0, locals := 21 } : Room) (va_Pc [.ref k0, .int le9, .int mv9] (zPre (dC, dI) classes (zTy cI cZ cF) [(om k0 a I0 J0)] sz zXN)) (zQ (some (.int (-1))) (fun t => va_P (dC, dI) classes [(om k0 a (upd (upd I0 14 4) 15 (I0 15)) J0)] t.heap ∧ va_D (va_A [(om k0 a I0 J0)] sz) [(om k0 a (upd (upd I0 14 4) 15 (I0 15)) J0)]) (va_A [(om k0 a I0 J0)] sz)) 0 0 (va_A [(om k0 a I0 J0)] sz) := by
  refine Met.ofW (cc := cX11_few) (maxL := 9) (ret := (some .int)) (by decide) rfl ?_
  intro p e s m args below meth c s₁ B hml hv
  obtain ⟨rfl, hsz, hP, hK, hD0, hXN⟩ := hv
  have hx := B.exec
  have hb := B.bytes
  have hr := B.returns
  have hts0 := atoms_spec (ws := .code yX11_few cX11_few 9 (some .int) :: ws0) B.pre
  have hts : ∀ w9 ∈ ws0, w9.before ([.ref k0, .int le9, .int mv9] : List Value).toArray s = true := fun w9 h => hts0 w9 (List.mem_cons_of_mem _ h)
  have hown : s.vm.findClass "ScaleShopModel" = some m.cls := findClass_of_methodNamed B.named
  have hlocks := B.notSynchronized
  subst hsz
  have hD := hD0.self (sz := s.heap.size)
  clear hD0
  generalize hAe : va_A [(om k0 a I0 J0)] s.heap.size = A at hD ⊢
  have hA : ∀ q : Nat, s.heap.size ≤ q → A q := fun q h => by rw [← hAe]; exact Or.inr h
  clear hAe
  have hS : va_S A s.heap s.heap [] := va_S.rf
  have hP : va_P (dC, dI) classes [(om k0 a I0 J0)] s.heap := hP
  obtain ⟨Q9, hQ9⟩ : ∃ Q9 : State → Prop, Q9 = MQ below (zQ (some (.int (-1))) (fun t => va_P (dC, dI) classes [(om k0 a (upd (upd I0 14 4) 15 (I0 15)) J0)] t.heap ∧ va_D A [(om k0 a (upd (upd I0 14 4) 15 (I0 15)) J0)]) A) ([.ref k0, .int le9, .int mv9] : List Value).toArray s 0 0 A := ⟨_, rfl⟩
  rw [← hQ9]
  have hl := lv_entry ([.ref k0, .int le9, .int mv9]) (n := 9) (Nat.le_of_ble_eq_true rfl)
  rw [lg_entry_eq]
  generalize (lg_sl ([.ref k0, .int le9, .int mv9]) ++ List.replicate (9 - (lg_sl ([.ref k0, .int le9, .int mv9])).length) Slot.unset).toArray = ls at hl ⊢
  have hl : lv_has ls 9 [(0, .ref k0), (1, .int le9), (2, .int mv9)] := hl
  refine lv_iload_n hx hb dX11_few_0 rfl (lv_at hl 1 rfl) ?_
  refine lv_if_lt (tgt := 15) hx hb dX11_few_1 (by decide) (fun c_1 => ?_) (fun c_1 => ?_)
  · have c_1 : le9.toInt < 0 := zc_lt rfl (by decide) c_1
    refine lv_aload_n hx hb dX11_few_15 rfl (lv_at hl 0 rfl) ?_
    refine lv_iconst (v := 4) hx hb dX11_few_16 (by decide) ?_
    have hPc := hP.sub (ws' := [(om k0 a I0 J0)]) [0] rfl
    have hDc := hD.sub (ws' := [(om k0 a I0 J0)]) [0] (by decide) rfl
    have hFc := va_free (wc := [(om k0 a I0 J0)]) hD hS hA [0] rfl
    refine zcall (st1 := [.int (-1)]) (va_runV (As := [.int 4]) (rest := []) ⟨hx, hb, hml, hown, hts⟩ (k_M_refuse l dC dI cI cZ cF s.heap.size k0 a I0 J0 4 (by decide)) (cwV 1 hts (zz_gV mw_1329 mw_1331 mw_34 mw_110 mc_yX11_refuse) rfl rfl rfl (by decide +kernel) ⟨Nat.le_of_ble_eq_true rfl, Nat.le_of_ble_eq_true rfl⟩) (zPV2 (q0 := 0) (ci := 9) hPc hDc hK hXN rfl rfl) rfl rfl hl.1 rfl (lv_room (Nat.le_of_ble_eq_true rfl)) dX11_few_17 ⟨Nat.le_of_ble_eq_true rfl, Nat.le_of_ble_eq_true rfl⟩) hS hFc hFc rfl (fun t H1 locs ht hB hk1 hS => ?_)
    obtain ⟨hP1, hD1⟩ := hB
    rw [ht] at hP1
    obtain ⟨hP, hD⟩ := va_join (wr := []) (w1 := [(om k0 a (upd (upd I0 14 4) 15 (I0 15)) J0)]) hP hD [0] [] rfl rfl (by decide) (by decide) hk1 hFc hP1 hD1
    clear hk1 hPc hDc hFc hP1 hD1 ht
    generalize H1 = H at hP hS ⊢
    have hP : va_P (dC, dI) classes [(om k0 a (upd (upd I0 14 4) 15 (I0 15)) J0)] H := hP
    have hD : va_D A [(om k0 a (upd (upd I0 14 4) 15 (I0 15)) J0)] := hD
    have hP9 := hP.sub (ws' := [(om k0 a (upd (upd I0 14 4) 15 (I0 15)) J0)]) [0] rfl
    have hD9 := hD.sub (ws' := [(om k0 a (upd (upd I0 14 4) 15 (I0 15)) J0)]) [0] (by decide) rfl
    rw [hQ9]
    exact W.iret (v := (-1)) hx hb hr (fun t ht hW => ⟨⟨rfl, by rw [ht]; exact hP9, hD9⟩, hS.F ht⟩) hS.2.2 dX11_few_20
  · have c_1 : 0 ≤ le9.toInt := zc_nlt rfl (by decide) c_1
    refine lv_iload_n hx hb dX11_few_4 rfl (lv_at hl 2 rfl) ?_
    refine lv_if_lt (tgt := 15) hx hb dX11_few_5 (by decide) (fun c_2 => ?_) (fun c_2 => ?_)
    · have c_2 : mv9.toInt < 0 := zc_lt rfl (by decide) c_2
      refine lv_aload_n hx hb dX11_few_15 rfl (lv_at hl 0 rfl) ?_
      refine lv_iconst (v := 4) hx hb dX11_few_16 (by decide) ?_
      have hPc := hP.sub (ws' := [(om k0 a I0 J0)]) [0] rfl
      have hDc := hD.sub (ws' := [(om k0 a I0 J0)]) [0] (by decide) rfl
      have hFc := va_free (wc := [(om k0 a I0 J0)]) hD hS hA [0] rfl
      refine zcall (st1 := [.int (-1)]) (va_runV (As := [.int 4]) (rest := []) ⟨hx, hb, hml, hown, hts⟩ (k_M_refuse l dC dI cI cZ cF s.heap.size k0 a I0 J0 4 (by decide)) (cwV 1 hts (zz_gV mw_1329 mw_1331 mw_34 mw_110 mc_yX11_refuse) rfl rfl rfl (by decide +kernel) ⟨Nat.le_of_ble_eq_true rfl, Nat.le_of_ble_eq_true rfl⟩) (zPV2 (q0 := 0) (ci := 9) hPc hDc hK hXN rfl rfl) rfl rfl hl.1 rfl (lv_room (Nat.le_of_ble_eq_true rfl)) dX11_few_17 ⟨Nat.le_of_ble_eq_true rfl, Nat.le_of_ble_eq_true rfl⟩) hS hFc hFc rfl (fun t H1 locs ht hB hk1 hS => ?_)
      obtain ⟨hP1, hD1⟩ := hB
      rw [ht] at hP1
      obtain ⟨hP, hD⟩ := va_join (wr := []) (w1 := [(om k0 a (upd (upd I0 14 4) 15 (I0 15)) J0)]) hP hD [0] [] rfl rfl (by decide) (by decide) hk1 hFc hP1 hD1
      clear hk1 hPc hDc hFc hP1 hD1 ht
      generalize H1 = H at hP hS ⊢
      have hP : va_P (dC, dI) classes [(om k0 a (upd (upd I0 14 4) 15 (I0 15)) J0)] H := hP
      have hD : va_D A [(om k0 a (upd (upd I0 14 4) 15 (I0 15)) J0)] := hD
      have hP9 := hP.sub (ws' := [(om k0 a (upd (upd I0 14 4) 15 (I0 15)) J0)]) [0] rfl
      have hD9 := hD.sub (ws' := [(om k0 a (upd (upd I0 14 4) 15 (I0 15)) J0)]) [0] (by decide) rfl
      rw [hQ9]
      exact W.iret (v := (-1)) hx hb hr (fun t ht hW => ⟨⟨rfl, by rw [ht]; exact hP9, hD9⟩, hS.F ht⟩) hS.2.2 dX11_few_20
    · have c_2 : 0 ≤ mv9.toInt := zc_nlt rfl (by decide) c_2
      refine lv_iload_n hx hb dX11_few_8 rfl (lv_at hl 2 rfl) ?_
      refine lv_sipush (v := 200) hx hb dX11_few_9 (by decide) ?_
      refine lv_icmp_le (tgt := 21) hx hb dX11_few_12 (by decide) (fun c_3 => ?_) (fun c_3 => ?_)
      · have c_3 : mv9.toInt ≤ 200 := zc_le rfl (by decide) c_3
        exfalso; omega
      · have c_3 : 200 < mv9.toInt := zc_nle rfl (by decide) c_3
        refine lv_aload_n hx hb dX11_few_15 rfl (lv_at hl 0 rfl) ?_
        refine lv_iconst (v := 4) hx hb dX11_few_16 (by decide) ?_
        have hPc := hP.sub (ws' := [(om k0 a I0 J0)]) [0] rfl
        have hDc := hD.sub (ws' := [(om k0 a I0 J0)]) [0] (by decide) rfl
        have hFc := va_free (wc := [(om k0 a I0 J0)]) hD hS hA [0] rfl
        refine zcall (st1 := [.int (-1)]) (va_runV (As := [.int 4]) (rest := []) ⟨hx, hb, hml, hown, hts⟩ (k_M_refuse l dC dI cI cZ cF s.heap.size k0 a I0 J0 4 (by decide)) (cwV 1 hts (zz_gV mw_1329 mw_1331 mw_34 mw_110 mc_yX11_refuse) rfl rfl rfl (by decide +kernel) ⟨Nat.le_of_ble_eq_true rfl, Nat.le_of_ble_eq_true rfl⟩) (zPV2 (q0 := 0) (ci := 9) hPc hDc hK hXN rfl rfl) rfl rfl hl.1 rfl (lv_room (Nat.le_of_ble_eq_true rfl)) dX11_few_17 ⟨Nat.le_of_ble_eq_true rfl, Nat.le_of_ble_eq_true rfl⟩) hS hFc hFc rfl (fun t H1 locs ht hB hk1 hS => ?_)
        obtain ⟨hP1, hD1⟩ := hB
        rw [ht] at hP1
        obtain ⟨hP, hD⟩ := va_join (wr := []) (w1 := [(om k0 a (upd (upd I0 14 4) 15 (I0 15)) J0)]) hP hD [0] [] rfl rfl (by decide) (by decide) hk1 hFc hP1 hD1
        clear hk1 hPc hDc hFc hP1 hD1 ht
        generalize H1 = H at hP hS ⊢
        have hP : va_P (dC, dI) classes [(om k0 a (upd (upd I0 14 4) 15 (I0 15)) J0)] H := hP
        have hD : va_D A [(om k0 a (upd (upd I0 14 4) 15 (I0 15)) J0)] := hD
        have hP9 := hP.sub (ws' := [(om k0 a (upd (upd I0 14 4) 15 (I0 15)) J0)]) [0] rfl
        have hD9 := hD.sub (ws' := [(om k0 a (upd (upd I0 14 4) 15 (I0 15)) J0)]) [0] (by decide) rfl
        rw [hQ9]
        exact W.iret (v := (-1)) hx hb hr (fun t ht hW => ⟨⟨rfl, by rw [ht]; exact hP9, hD9⟩, hS.F ht⟩) hS.2.2 dX11_few_20
