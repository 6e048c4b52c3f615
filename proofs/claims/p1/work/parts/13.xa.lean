set_option maxHeartbeats 4000000 in
set_option maxRecDepth 100000 in
theorem k_x_feature (l : Launch) (dC : Nat → ClassId) (dI : Nat → Nat → Nat) (cI cZ cF : ClassId) (sz : Nat) (h0 : Nat) (a1 : Nat) (a2 : Nat) (a3 : Nat) (a4 : Nat) (a5 : Nat) (a6 : Nat) (a7 : Nat) (a8 : Nat) (a9 : Nat) (f0 : Nat) (e0 : Nat) (kk : Int32) (rr : Int32) (ww : Int32) (tt : Int32) : Met l yX10_feature (.code yX10_feature cX10_feature 6 (some .int) :: ws0) ({ frames := 3, cells := 8, slots := 182, locals := 61 }) (va_Pc [.ref h0, .int kk, .int rr, .int ww, .int tt] (zPre (dC, dI) classes (zTy cI cZ cF) [(h0, .inr (8, [.ref a1, .ref a2, .ref a3, .ref a4, .ref a5, .ref a6, .ref a7, .ref a8, .ref a9, .int 0, .int 0, .int 0, .int 0])), (a1, .inr (7, [.ref f0, .int 0])), (f0, .inl (cF, 200, .inr (.inr (.inr (.inr (fun _ => none)))))), (a9, .inr (10, [.int 0, .ref e0, .int 0]))] sz zTrue)) (zQ (some (.int (zft kk rr ww tt))) (fun t => va_P (dC, dI) classes [] t.heap ∧ va_D (va_A [(h0, .inr (8, [.ref a1, .ref a2, .ref a3, .ref a4, .ref a5, .ref a6, .ref a7, .ref a8, .ref a9, .int 0, .int 0, .int 0, .int 0])), (a1, .inr (7, [.ref f0, .int 0])), (f0, .inl (cF, 200, .inr (.inr (.inr (.inr (fun _ => none)))))), (a9, .inr (10, [.int 0, .ref e0, .int 0]))] sz) []) (va_A [(h0, .inr (8, [.ref a1, .ref a2, .ref a3, .ref a4, .ref a5, .ref a6, .ref a7, .ref a8, .ref a9, .int 0, .int 0, .int 0, .int 0])), (a1, .inr (7, [.ref f0, .int 0])), (f0, .inl (cF, 200, .inr (.inr (.inr (.inr (fun _ => none)))))), (a9, .inr (10, [.int 0, .ref e0, .int 0]))] sz)) 8 182 (va_A [(h0, .inr (8, [.ref a1, .ref a2, .ref a3, .ref a4, .ref a5, .ref a6, .ref a7, .ref a8, .ref a9, .int 0, .int 0, .int 0, .int 0])), (a1, .inr (7, [.ref f0, .int 0])), (f0, .inl (cF, 200, .inr (.inr (.inr (.inr (fun _ => none)))))), (a9, .inr (10, [.int 0, .ref e0, .int 0]))] sz) := by
  refine Met.ofW (cc := cX10_feature) (maxL := 6) (ret := (some .int)) (by decide) rfl ?_
  intro p e s m args below meth c s₁ B hml hv
  obtain ⟨rfl, hsz, hP, hK, hD0, hXX⟩ := hv
  have hx := B.exec
  have hb := B.bytes
  have hr := B.returns
  have hts0 := atoms_spec (ws := .code yX10_feature cX10_feature 6 (some .int) :: ws0) B.pre
  have hts : ∀ w9 ∈ ws0, w9.before ([.ref h0, .int kk, .int rr, .int ww, .int tt] : List Value).toArray s = true := fun w9 h => hts0 w9 (List.mem_cons_of_mem _ h)
  have hown : s.vm.findClass "ScaleShop" = some m.cls := findClass_of_methodNamed B.named
  have hlocks := B.notSynchronized
  subst hsz
  have hD := hD0.self (sz := s.heap.size)
  generalize hAe : va_A [(h0, .inr (8, [.ref a1, .ref a2, .ref a3, .ref a4, .ref a5, .ref a6, .ref a7, .ref a8, .ref a9, .int 0, .int 0, .int 0, .int 0])), (a1, .inr (7, [.ref f0, .int 0])), (f0, .inl (cF, 200, .inr (.inr (.inr (.inr (fun _ => none)))))), (a9, .inr (10, [.int 0, .ref e0, .int 0]))] s.heap.size = A at hD ⊢
  have hA : ∀ q : Nat, s.heap.size ≤ q → A q := fun q h => by rw [← hAe]; exact Or.inr h
  have hS : va_S A s.heap s.heap [] := va_S.rf
  have hP : va_P (dC, dI) classes [(h0, .inr (8, [.ref a1, .ref a2, .ref a3, .ref a4, .ref a5, .ref a6, .ref a7, .ref a8, .ref a9, .int 0, .int 0, .int 0, .int 0])), (a1, .inr (7, [.ref f0, .int 0])), (f0, .inl (cF, 200, .inr (.inr (.inr (.inr (fun _ => none)))))), (a9, .inr (10, [.int 0, .ref e0, .int 0]))] s.heap := hP
  have hl := lv_entry ([.ref h0, .int kk, .int rr, .int ww, .int tt]) (n := 6) (Nat.le_of_ble_eq_true rfl)
  rw [lg_entry_eq]
  generalize (lg_sl ([.ref h0, .int kk, .int rr, .int ww, .int tt]) ++ List.replicate (6 - (lg_sl ([.ref h0, .int kk, .int rr, .int ww, .int tt])).length) Slot.unset).toArray = ls at hl ⊢
  have hl : lv_has ls 6 [(0, .ref h0), (1, .int kk), (2, .int rr), (3, .int ww), (4, .int tt)] := hl
  refine lv_iload_n hx hb dX10_feature_0 rfl (lv_at hl 1 rfl) ?_
  refine lv_iconst (v := 0) hx hb dX10_feature_1 (by decide) ?_
  refine lv_bipush (v := 6) hx hb dX10_feature_2 (by decide) ?_
  have hPc := hP.sub (ws' := []) [] rfl
  have hDc := hD.sub (ws' := []) [] (by decide) rfl
  have hFc := va_free (wc := []) hD hS hA [] rfl
  refine zcall (st1 := [.int (zw kk 0 6)]) (va_runS (As := [.int kk, .int 0, .int 6]) (rest := []) ⟨hx, hb, hml, hown, hts⟩ (k_isWithin l dC dI cI cZ cF s.heap.size kk 0 6 ) (va_cwS 3 hts (zz_gS mw_353 mw_354 mw_99 mc_yX10_isWithin) rfl rfl rfl (by decide +kernel) ⟨Nat.le_of_ble_eq_true rfl, Nat.le_of_ble_eq_true rfl⟩) (zPS hPc hDc hK) rfl rfl hl.1 rfl (lv_room (Nat.le_of_ble_eq_true rfl)) dX10_feature_4 ⟨Nat.le_of_ble_eq_true rfl, Nat.le_of_ble_eq_true rfl⟩) hS hFc hFc rfl (fun t H1 locs ht hB hk1 hS => ?_)
  obtain ⟨hP1, hD1⟩ := hB
  rw [ht] at hP1
  obtain ⟨hP, hD⟩ := va_join (wr := [(h0, .inr (8, [.ref a1, .ref a2, .ref a3, .ref a4, .ref a5, .ref a6, .ref a7, .ref a8, .ref a9, .int 0, .int 0, .int 0, .int 0])), (a1, .inr (7, [.ref f0, .int 0])), (f0, .inl (cF, 200, .inr (.inr (.inr (.inr (fun _ => none)))))), (a9, .inr (10, [.int 0, .ref e0, .int 0]))]) (w1 := []) hP hD [] [0, 1, 2, 3] rfl rfl (by decide) (by decide) hk1 hFc hP1 hD1
  clear hk1 hPc hDc hFc hP1 hD1 ht
  generalize H1 = H at hP hS ⊢
  have hP : va_P (dC, dI) classes [(h0, .inr (8, [.ref a1, .ref a2, .ref a3, .ref a4, .ref a5, .ref a6, .ref a7, .ref a8, .ref a9, .int 0, .int 0, .int 0, .int 0])), (a1, .inr (7, [.ref f0, .int 0])), (f0, .inl (cF, 200, .inr (.inr (.inr (.inr (fun _ => none)))))), (a9, .inr (10, [.int 0, .ref e0, .int 0]))] H := hP
  have hD : va_D A [(h0, .inr (8, [.ref a1, .ref a2, .ref a3, .ref a4, .ref a5, .ref a6, .ref a7, .ref a8, .ref a9, .int 0, .int 0, .int 0, .int 0])), (a1, .inr (7, [.ref f0, .int 0])), (f0, .inl (cF, 200, .inr (.inr (.inr (.inr (fun _ => none)))))), (a9, .inr (10, [.int 0, .ref e0, .int 0]))] := hD
  refine lv_if_eq (tgt := 20) hx hb dX10_feature_7 (by decide) (fun c_1 => ?_) (fun c_1 => ?_)
  · refine lv_aload_n hx hb dX10_feature_20 rfl (lv_at hl 0 rfl) ?_
    refine lv_iconst (v := 4) hx hb dX10_feature_21 (by decide) ?_
    have hPc := hP.sub (ws' := [(h0, .inr (8, [.ref a1, .ref a2, .ref a3, .ref a4, .ref a5, .ref a6, .ref a7, .ref a8, .ref a9, .int 0, .int 0, .int 0, .int 0]))]) [0] rfl
    have hDc := hD.sub (ws' := [(h0, .inr (8, [.ref a1, .ref a2, .ref a3, .ref a4, .ref a5, .ref a6, .ref a7, .ref a8, .ref a9, .int 0, .int 0, .int 0, .int 0]))]) [0] (by decide) rfl
    have hFc := va_free (wc := [(h0, .inr (8, [.ref a1, .ref a2, .ref a3, .ref a4, .ref a5, .ref a6, .ref a7, .ref a8, .ref a9, .int 0, .int 0, .int 0, .int 0]))]) hD hS hA [0] rfl
    refine zcall (st1 := [.int (-1)]) (va_runV (As := [.int 4]) (rest := []) ⟨hx, hb, hml, hown, hts⟩ (k_refuse l dC dI cI cZ cF H.size h0 a1 a2 a3 a4 a5 a6 a7 a8 a9 4 (by decide)) (cwV 1 hts (zz_gV mw_356 mw_358 mw_0 mw_99 mc_yX10_refuse) rfl rfl rfl (by decide +kernel) ⟨Nat.le_of_ble_eq_true rfl, Nat.le_of_ble_eq_true rfl⟩) (zPV (q0 := 0) (ci := 8) hPc hDc hK rfl rfl) rfl rfl hl.1 rfl (lv_room (Nat.le_of_ble_eq_true rfl)) dX10_feature_22 ⟨Nat.le_of_ble_eq_true rfl, Nat.le_of_ble_eq_true rfl⟩) hS hFc hFc rfl (fun t H1 locs ht hB hk1 hS => ?_)
    obtain ⟨hP1, hD1⟩ := hB
    rw [ht] at hP1
    obtain ⟨hP, hD⟩ := va_join (wr := [(a1, .inr (7, [.ref f0, .int 0])), (f0, .inl (cF, 200, .inr (.inr (.inr (.inr (fun _ => none)))))), (a9, .inr (10, [.int 0, .ref e0, .int 0]))]) (w1 := [(h0, .inr (8, [.ref a1, .ref a2, .ref a3, .ref a4, .ref a5, .ref a6, .ref a7, .ref a8, .ref a9, .int 0, .int 0, .int 0, .int 4]))]) hP hD [0] [1, 2, 3] rfl rfl (by decide) (by decide) hk1 hFc hP1 hD1
    clear hk1 hPc hDc hFc hP1 hD1 ht
    generalize H1 = H at hP hS ⊢
    have hP : va_P (dC, dI) classes [(a1, .inr (7, [.ref f0, .int 0])), (f0, .inl (cF, 200, .inr (.inr (.inr (.inr (fun _ => none)))))), (a9, .inr (10, [.int 0, .ref e0, .int 0])), (h0, .inr (8, [.ref a1, .ref a2, .ref a3, .ref a4, .ref a5, .ref a6, .ref a7, .ref a8, .ref a9, .int 0, .int 0, .int 0, .int 4]))] H := hP
    have hD : va_D A [(a1, .inr (7, [.ref f0, .int 0])), (f0, .inl (cF, 200, .inr (.inr (.inr (.inr (fun _ => none)))))), (a9, .inr (10, [.int 0, .ref e0, .int 0])), (h0, .inr (8, [.ref a1, .ref a2, .ref a3, .ref a4, .ref a5, .ref a6, .ref a7, .ref a8, .ref a9, .int 0, .int 0, .int 0, .int 4]))] := hD
    refine W.widen (k := 8) (n := 182) (by decide) (by decide) ?_
    have hP9 := hP.sub (ws' := []) [] rfl
    have hD9 := hD.sub (ws' := []) [] (by decide) rfl
    exact W.iret (v := (-1)) hx hb hr (fun t ht hW => ⟨⟨(congrArg (fun z => Outcome.returned (some (Value.int z))) (show ((-1) : Int32) = (zft kk rr ww tt) from by simp [zft, c_1])), by rw [ht]; exact hP9, hD9⟩, hS.F ht⟩) hS.2.2 dX10_feature_25
  · refine lv_iload_n hx hb dX10_feature_10 rfl (lv_at hl 2 rfl) ?_
    refine lv_iconst (v := 0) hx hb dX10_feature_11 (by decide) ?_
    refine lv_bipush (v := 9) hx hb dX10_feature_12 (by decide) ?_
    have hPc := hP.sub (ws' := []) [] rfl
    have hDc := hD.sub (ws' := []) [] (by decide) rfl
    have hFc := va_free (wc := []) hD hS hA [] rfl
    refine zcall (st1 := [.int (zw rr 0 9)]) (va_runS (As := [.int rr, .int 0, .int 9]) (rest := []) ⟨hx, hb, hml, hown, hts⟩ (k_isWithin l dC dI cI cZ cF H.size rr 0 9 ) (va_cwS 3 hts (zz_gS mw_353 mw_354 mw_99 mc_yX10_isWithin) rfl rfl rfl (by decide +kernel) ⟨Nat.le_of_ble_eq_true rfl, Nat.le_of_ble_eq_true rfl⟩) (zPS hPc hDc hK) rfl rfl hl.1 rfl (lv_room (Nat.le_of_ble_eq_true rfl)) dX10_feature_14 ⟨Nat.le_of_ble_eq_true rfl, Nat.le_of_ble_eq_true rfl⟩) hS hFc hFc rfl (fun t H1 locs ht hB hk1 hS => ?_)
    obtain ⟨hP1, hD1⟩ := hB
    rw [ht] at hP1
    obtain ⟨hP, hD⟩ := va_join (wr := [(h0, .inr (8, [.ref a1, .ref a2, .ref a3, .ref a4, .ref a5, .ref a6, .ref a7, .ref a8, .ref a9, .int 0, .int 0, .int 0, .int 0])), (a1, .inr (7, [.ref f0, .int 0])), (f0, .inl (cF, 200, .inr (.inr (.inr (.inr (fun _ => none)))))), (a9, .inr (10, [.int 0, .ref e0, .int 0]))]) (w1 := []) hP hD [] [0, 1, 2, 3] rfl rfl (by decide) (by decide) hk1 hFc hP1 hD1
    clear hk1 hPc hDc hFc hP1 hD1 ht
    generalize H1 = H at hP hS ⊢
    have hP : va_P (dC, dI) classes [(h0, .inr (8, [.ref a1, .ref a2, .ref a3, .ref a4, .ref a5, .ref a6, .ref a7, .ref a8, .ref a9, .int 0, .int 0, .int 0, .int 0])), (a1, .inr (7, [.ref f0, .int 0])), (f0, .inl (cF, 200, .inr (.inr (.inr (.inr (fun _ => none)))))), (a9, .inr (10, [.int 0, .ref e0, .int 0]))] H := hP
    have hD : va_D A [(h0, .inr (8, [.ref a1, .ref a2, .ref a3, .ref a4, .ref a5, .ref a6, .ref a7, .ref a8, .ref a9, .int 0, .int 0, .int 0, .int 0])), (a1, .inr (7, [.ref f0, .int 0])), (f0, .inl (cF, 200, .inr (.inr (.inr (.inr (fun _ => none)))))), (a9, .inr (10, [.int 0, .ref e0, .int 0]))] := hD
    refine lv_if_ne (tgt := 26) hx hb dX10_feature_17 (by decide) (fun c_2 => ?_) (fun c_2 => ?_)
    · refine lv_iload_n hx hb dX10_feature_26 rfl (lv_at hl 3 rfl) ?_
      refine lv_iconst (v := 0) hx hb dX10_feature_27 (by decide) ?_
      refine lv_bipush (v := 100) hx hb dX10_feature_28 (by decide) ?_
      have hPc := hP.sub (ws' := []) [] rfl
      have hDc := hD.sub (ws' := []) [] (by decide) rfl
      have hFc := va_free (wc := []) hD hS hA [] rfl
      refine zcall (st1 := [.int (zw ww 0 100)]) (va_runS (As := [.int ww, .int 0, .int 100]) (rest := []) ⟨hx, hb, hml, hown, hts⟩ (k_isWithin l dC dI cI cZ cF H.size ww 0 100 ) (va_cwS 3 hts (zz_gS mw_353 mw_354 mw_99 mc_yX10_isWithin) rfl rfl rfl (by decide +kernel) ⟨Nat.le_of_ble_eq_true rfl, Nat.le_of_ble_eq_true rfl⟩) (zPS hPc hDc hK) rfl rfl hl.1 rfl (lv_room (Nat.le_of_ble_eq_true rfl)) dX10_feature_30 ⟨Nat.le_of_ble_eq_true rfl, Nat.le_of_ble_eq_true rfl⟩) hS hFc hFc rfl (fun t H1 locs ht hB hk1 hS => ?_)
      obtain ⟨hP1, hD1⟩ := hB
      rw [ht] at hP1
      obtain ⟨hP, hD⟩ := va_join (wr := [(h0, .inr (8, [.ref a1, .ref a2, .ref a3, .ref a4, .ref a5, .ref a6, .ref a7, .ref a8, .ref a9, .int 0, .int 0, .int 0, .int 0])), (a1, .inr (7, [.ref f0, .int 0])), (f0, .inl (cF, 200, .inr (.inr (.inr (.inr (fun _ => none)))))), (a9, .inr (10, [.int 0, .ref e0, .int 0]))]) (w1 := []) hP hD [] [0, 1, 2, 3] rfl rfl (by decide) (by decide) hk1 hFc hP1 hD1
      clear hk1 hPc hDc hFc hP1 hD1 ht
      generalize H1 = H at hP hS ⊢
      have hP : va_P (dC, dI) classes [(h0, .inr (8, [.ref a1, .ref a2, .ref a3, .ref a4, .ref a5, .ref a6, .ref a7, .ref a8, .ref a9, .int 0, .int 0, .int 0, .int 0])), (a1, .inr (7, [.ref f0, .int 0])), (f0, .inl (cF, 200, .inr (.inr (.inr (.inr (fun _ => none)))))), (a9, .inr (10, [.int 0, .ref e0, .int 0]))] H := hP
      have hD : va_D A [(h0, .inr (8, [.ref a1, .ref a2, .ref a3, .ref a4, .ref a5, .ref a6, .ref a7, .ref a8, .ref a9, .int 0, .int 0, .int 0, .int 0])), (a1, .inr (7, [.ref f0, .int 0])), (f0, .inl (cF, 200, .inr (.inr (.inr (.inr (fun _ => none)))))), (a9, .inr (10, [.int 0, .ref e0, .int 0]))] := hD
      refine lv_if_eq (tgt := 47) hx hb dX10_feature_33 (by decide) (fun c_3 => ?_) (fun c_3 => ?_)
      · refine lv_aload_n hx hb dX10_feature_47 rfl (lv_at hl 0 rfl) ?_
        refine lv_iconst (v := 4) hx hb dX10_feature_48 (by decide) ?_
        have hPc := hP.sub (ws' := [(h0, .inr (8, [.ref a1, .ref a2, .ref a3, .ref a4, .ref a5, .ref a6, .ref a7, .ref a8, .ref a9, .int 0, .int 0, .int 0, .int 0]))]) [0] rfl
        have hDc := hD.sub (ws' := [(h0, .inr (8, [.ref a1, .ref a2, .ref a3, .ref a4, .ref a5, .ref a6, .ref a7, .ref a8, .ref a9, .int 0, .int 0, .int 0, .int 0]))]) [0] (by decide) rfl
        have hFc := va_free (wc := [(h0, .inr (8, [.ref a1, .ref a2, .ref a3, .ref a4, .ref a5, .ref a6, .ref a7, .ref a8, .ref a9, .int 0, .int 0, .int 0, .int 0]))]) hD hS hA [0] rfl
        refine zcall (st1 := [.int (-1)]) (va_runV (As := [.int 4]) (rest := []) ⟨hx, hb, hml, hown, hts⟩ (k_refuse l dC dI cI cZ cF H.size h0 a1 a2 a3 a4 a5 a6 a7 a8 a9 4 (by decide)) (cwV 1 hts (zz_gV mw_356 mw_358 mw_0 mw_99 mc_yX10_refuse) rfl rfl rfl (by decide +kernel) ⟨Nat.le_of_ble_eq_true rfl, Nat.le_of_ble_eq_true rfl⟩) (zPV (q0 := 0) (ci := 8) hPc hDc hK rfl rfl) rfl rfl hl.1 rfl (lv_room (Nat.le_of_ble_eq_true rfl)) dX10_feature_49 ⟨Nat.le_of_ble_eq_true rfl, Nat.le_of_ble_eq_true rfl⟩) hS hFc hFc rfl (fun t H1 locs ht hB hk1 hS => ?_)
        obtain ⟨hP1, hD1⟩ := hB
        rw [ht] at hP1
        obtain ⟨hP, hD⟩ := va_join (wr := [(a1, .inr (7, [.ref f0, .int 0])), (f0, .inl (cF, 200, .inr (.inr (.inr (.inr (fun _ => none)))))), (a9, .inr (10, [.int 0, .ref e0, .int 0]))]) (w1 := [(h0, .inr (8, [.ref a1, .ref a2, .ref a3, .ref a4, .ref a5, .ref a6, .ref a7, .ref a8, .ref a9, .int 0, .int 0, .int 0, .int 4]))]) hP hD [0] [1, 2, 3] rfl rfl (by decide) (by decide) hk1 hFc hP1 hD1
        clear hk1 hPc hDc hFc hP1 hD1 ht
        generalize H1 = H at hP hS ⊢
        have hP : va_P (dC, dI) classes [(a1, .inr (7, [.ref f0, .int 0])), (f0, .inl (cF, 200, .inr (.inr (.inr (.inr (fun _ => none)))))), (a9, .inr (10, [.int 0, .ref e0, .int 0])), (h0, .inr (8, [.ref a1, .ref a2, .ref a3, .ref a4, .ref a5, .ref a6, .ref a7, .ref a8, .ref a9, .int 0, .int 0, .int 0, .int 4]))] H := hP
        have hD : va_D A [(a1, .inr (7, [.ref f0, .int 0])), (f0, .inl (cF, 200, .inr (.inr (.inr (.inr (fun _ => none)))))), (a9, .inr (10, [.int 0, .ref e0, .int 0])), (h0, .inr (8, [.ref a1, .ref a2, .ref a3, .ref a4, .ref a5, .ref a6, .ref a7, .ref a8, .ref a9, .int 0, .int 0, .int 0, .int 4]))] := hD
        refine W.widen (k := 8) (n := 182) (by decide) (by decide) ?_
        have hP9 := hP.sub (ws' := []) [] rfl
        have hD9 := hD.sub (ws' := []) [] (by decide) rfl
        exact W.iret (v := (-1)) hx hb hr (fun t ht hW => ⟨⟨(congrArg (fun z => Outcome.returned (some (Value.int z))) (show ((-1) : Int32) = (zft kk rr ww tt) from by simp [zft, c_1, c_2, c_3])), by rw [ht]; exact hP9, hD9⟩, hS.F ht⟩) hS.2.2 dX10_feature_52
      · refine lv_iload hx hb dX10_feature_36 (lv_at hl 4 rfl) ?_
        refine lv_iconst (v := 0) hx hb dX10_feature_38 (by decide) ?_
        refine lv_bipush (v := 9) hx hb dX10_feature_39 (by decide) ?_
        have hPc := hP.sub (ws' := []) [] rfl
        have hDc := hD.sub (ws' := []) [] (by decide) rfl
        have hFc := va_free (wc := []) hD hS hA [] rfl
        refine zcall (st1 := [.int (zw tt 0 9)]) (va_runS (As := [.int tt, .int 0, .int 9]) (rest := []) ⟨hx, hb, hml, hown, hts⟩ (k_isWithin l dC dI cI cZ cF H.size tt 0 9 ) (va_cwS 3 hts (zz_gS mw_353 mw_354 mw_99 mc_yX10_isWithin) rfl rfl rfl (by decide +kernel) ⟨Nat.le_of_ble_eq_true rfl, Nat.le_of_ble_eq_true rfl⟩) (zPS hPc hDc hK) rfl rfl hl.1 rfl (lv_room (Nat.le_of_ble_eq_true rfl)) dX10_feature_41 ⟨Nat.le_of_ble_eq_true rfl, Nat.le_of_ble_eq_true rfl⟩) hS hFc hFc rfl (fun t H1 locs ht hB hk1 hS => ?_)
        obtain ⟨hP1, hD1⟩ := hB
        rw [ht] at hP1
        obtain ⟨hP, hD⟩ := va_join (wr := [(h0, .inr (8, [.ref a1, .ref a2, .ref a3, .ref a4, .ref a5, .ref a6, .ref a7, .ref a8, .ref a9, .int 0, .int 0, .int 0, .int 0])), (a1, .inr (7, [.ref f0, .int 0])), (f0, .inl (cF, 200, .inr (.inr (.inr (.inr (fun _ => none)))))), (a9, .inr (10, [.int 0, .ref e0, .int 0]))]) (w1 := []) hP hD [] [0, 1, 2, 3] rfl rfl (by decide) (by decide) hk1 hFc hP1 hD1
        clear hk1 hPc hDc hFc hP1 hD1 ht
        generalize H1 = H at hP hS ⊢
        have hP : va_P (dC, dI) classes [(h0, .inr (8, [.ref a1, .ref a2, .ref a3, .ref a4, .ref a5, .ref a6, .ref a7, .ref a8, .ref a9, .int 0, .int 0, .int 0, .int 0])), (a1, .inr (7, [.ref f0, .int 0])), (f0, .inl (cF, 200, .inr (.inr (.inr (.inr (fun _ => none)))))), (a9, .inr (10, [.int 0, .ref e0, .int 0]))] H := hP
        have hD : va_D A [(h0, .inr (8, [.ref a1, .ref a2, .ref a3, .ref a4, .ref a5, .ref a6, .ref a7, .ref a8, .ref a9, .int 0, .int 0, .int 0, .int 0])), (a1, .inr (7, [.ref f0, .int 0])), (f0, .inl (cF, 200, .inr (.inr (.inr (.inr (fun _ => none)))))), (a9, .inr (10, [.int 0, .ref e0, .int 0]))] := hD
        refine lv_if_ne (tgt := 53) hx hb dX10_feature_44 (by decide) (fun c_4 => ?_) (fun c_4 => ?_)
        · refine lv_aload_n hx hb dX10_feature_53 rfl (lv_at hl 0 rfl) ?_
          refine va_get (D := (dC, dI)) (ci := 8) (v := .ref a1) (C := RX10) (T := TX10) (N := 13) hx hb hts inX10 hown hK hP 0 rfl rfl 0 (by decide) (hts _ mw_309) (fun _ h9 => h9) rfl dX10_feature_54 ?_
          have hPc := hP.sub (ws' := [(a1, .inr (7, [.ref f0, .int 0])), (f0, .inl (cF, 200, .inr (.inr (.inr (.inr (fun _ => none))))))]) [1, 2] rfl
          have hDc := hD.sub (ws' := [(a1, .inr (7, [.ref f0, .int 0])), (f0, .inl (cF, 200, .inr (.inr (.inr (.inr (fun _ => none))))))]) [1, 2] (by decide) rfl
          have hFc := va_free (wc := [(a1, .inr (7, [.ref f0, .int 0])), (f0, .inl (cF, 200, .inr (.inr (.inr (.inr (fun _ => none))))))]) hD hS hA [1, 2] rfl
          refine zcall (st1 := [.int 0]) (va_runV (As := []) (rest := []) ⟨hx, hb, hml, hown, hts⟩ (k_isFull l dC dI cI cZ cF H.size a1 f0 ) (cwV 0 hts (zz_gV mw_360 mw_361 mw_362 mw_100 mc_yX8_isFull) rfl rfl rfl (by decide +kernel) ⟨Nat.le_of_ble_eq_true rfl, Nat.le_of_ble_eq_true rfl⟩) (zPV (q0 := 0) (ci := 7) hPc hDc hK rfl rfl) rfl rfl hl.1 rfl (lv_room (Nat.le_of_ble_eq_true rfl)) dX10_feature_57 ⟨Nat.le_of_ble_eq_true rfl, Nat.le_of_ble_eq_true rfl⟩) hS hFc hFc rfl (fun t H1 locs ht hB hk1 hS => ?_)
          obtain ⟨hP1, hD1⟩ := hB
          rw [ht] at hP1
          obtain ⟨hP, hD⟩ := va_join (wr := [(h0, .inr (8, [.ref a1, .ref a2, .ref a3, .ref a4, .ref a5, .ref a6, .ref a7, .ref a8, .ref a9, .int 0, .int 0, .int 0, .int 0])), (a9, .inr (10, [.int 0, .ref e0, .int 0]))]) (w1 := [(a1, .inr (7, [.ref f0, .int 0])), (f0, .inl (cF, 200, .inr (.inr (.inr (.inr (fun _ => none))))))]) hP hD [1, 2] [0, 3] rfl rfl (by decide) (by decide) hk1 hFc hP1 hD1
          clear hk1 hPc hDc hFc hP1 hD1 ht
          generalize H1 = H at hP hS ⊢
          have hP : va_P (dC, dI) classes [(h0, .inr (8, [.ref a1, .ref a2, .ref a3, .ref a4, .ref a5, .ref a6, .ref a7, .ref a8, .ref a9, .int 0, .int 0, .int 0, .int 0])), (a9, .inr (10, [.int 0, .ref e0, .int 0])), (a1, .inr (7, [.ref f0, .int 0])), (f0, .inl (cF, 200, .inr (.inr (.inr (.inr (fun _ => none))))))] H := hP
          have hD : va_D A [(h0, .inr (8, [.ref a1, .ref a2, .ref a3, .ref a4, .ref a5, .ref a6, .ref a7, .ref a8, .ref a9, .int 0, .int 0, .int 0, .int 0])), (a9, .inr (10, [.int 0, .ref e0, .int 0])), (a1, .inr (7, [.ref f0, .int 0])), (f0, .inl (cF, 200, .inr (.inr (.inr (.inr (fun _ => none))))))] := hD
          refine lv_if_eq (tgt := 70) hx hb dX10_feature_60 (by decide) (fun c_5 => ?_) (fun c_5 => ?_)
          · refine va_new (ci := 1) (fs := [.int 0, .int 0, .int 0, .int 0, .int 0, .null, .null, .null]) (C := RX2) (T := TX2) (N := 8) hx hb hts inX2 tyX2 tyX2_ok hown (hts _ mw_364) (hts _ mw_365) (hts _ mw_111) hK hP hD hS hA rfl dfX2 (Nat.le_of_ble_eq_true rfl) (Nat.le_of_ble_eq_true rfl) dX10_feature_70 (fun q_6 H hP hD hS => ?_)
            have hP : va_P (dC, dI) classes [(h0, .inr (8, [.ref a1, .ref a2, .ref a3, .ref a4, .ref a5, .ref a6, .ref a7, .ref a8, .ref a9, .int 0, .int 0, .int 0, .int 0])), (a9, .inr (10, [.int 0, .ref e0, .int 0])), (a1, .inr (7, [.ref f0, .int 0])), (f0, .inl (cF, 200, .inr (.inr (.inr (.inr (fun _ => none)))))), (q_6, .inr (1, [.int 0, .int 0, .int 0, .int 0, .int 0, .null, .null, .null]))] H := hP
            have hD : va_D A [(h0, .inr (8, [.ref a1, .ref a2, .ref a3, .ref a4, .ref a5, .ref a6, .ref a7, .ref a8, .ref a9, .int 0, .int 0, .int 0, .int 0])), (a9, .inr (10, [.int 0, .ref e0, .int 0])), (a1, .inr (7, [.ref f0, .int 0])), (f0, .inl (cF, 200, .inr (.inr (.inr (.inr (fun _ => none)))))), (q_6, .inr (1, [.int 0, .int 0, .int 0, .int 0, .int 0, .null, .null, .null]))] := hD
            refine lv_dup hx hb dX10_feature_73 rfl ?_
            refine lv_iload_n hx hb dX10_feature_74 rfl (lv_at hl 1 rfl) ?_
            refine lv_iload_n hx hb dX10_feature_75 rfl (lv_at hl 2 rfl) ?_
            refine lv_iload_n hx hb dX10_feature_76 rfl (lv_at hl 3 rfl) ?_
            refine lv_iload hx hb dX10_feature_77 (lv_at hl 4 rfl) ?_
            have hPc := hP.sub (ws' := [(q_6, .inr (1, [.int 0, .int 0, .int 0, .int 0, .int 0, .null, .null, .null]))]) [4] rfl
            have hDc := hD.sub (ws' := [(q_6, .inr (1, [.int 0, .int 0, .int 0, .int 0, .int 0, .null, .null, .null]))]) [4] (by decide) rfl
            have hFc := va_free (wc := [(q_6, .inr (1, [.int 0, .int 0, .int 0, .int 0, .int 0, .null, .null, .null]))]) hD hS hA [4] rfl
            refine zcall (st1 := [.ref q_6]) (va_runI (As := [.int kk, .int rr, .int ww, .int tt]) (rest := [.ref q_6]) ⟨hx, hb, hml, hown, hts⟩ (k_Feature_init l dC dI cI cZ cF H.size q_6 kk rr ww tt ) (cwI 4 hts (zz_gC mc_yX2_init) rfl rfl rfl (hts _ mw_111) (hts _ mw_366) (hts _ mw_367) rfl (by decide +kernel) ⟨Nat.le_of_ble_eq_true rfl, Nat.le_of_ble_eq_true rfl⟩) (zPS hPc hDc hK) rfl rfl hl.1 rfl (lv_room (Nat.le_of_ble_eq_true rfl)) dX10_feature_79 ⟨Nat.le_of_ble_eq_true rfl, Nat.le_of_ble_eq_true rfl⟩) hS hFc hFc rfl (fun t H1 locs ht hB hk1 hS => ?_)
            obtain ⟨q_7, q_8, hP1, hD1⟩ := hB
            rw [ht] at hP1
            obtain ⟨hP, hD⟩ := va_join (wr := [(h0, .inr (8, [.ref a1, .ref a2, .ref a3, .ref a4, .ref a5, .ref a6, .ref a7, .ref a8, .ref a9, .int 0, .int 0, .int 0, .int 0])), (a9, .inr (10, [.int 0, .ref e0, .int 0])), (a1, .inr (7, [.ref f0, .int 0])), (f0, .inl (cF, 200, .inr (.inr (.inr (.inr (fun _ => none))))))]) (w1 := [(q_6, .inr (1, [.int rr, .int ww, .int tt, .int (-1), .int (-1), .ref q_7, .ref q_8, .null])), (q_8, .inr (4, [.int kk, .int 0, .null, .int 0, .int (-1), .int 0]))]) hP hD [4] [0, 1, 2, 3] rfl rfl (by decide) (by decide) hk1 hFc hP1 hD1
            clear hk1 hPc hDc hFc hP1 hD1 ht
            generalize H1 = H at hP hS ⊢
            have hP : va_P (dC, dI) classes [(h0, .inr (8, [.ref a1, .ref a2, .ref a3, .ref a4, .ref a5, .ref a6, .ref a7, .ref a8, .ref a9, .int 0, .int 0, .int 0, .int 0])), (a9, .inr (10, [.int 0, .ref e0, .int 0])), (a1, .inr (7, [.ref f0, .int 0])), (f0, .inl (cF, 200, .inr (.inr (.inr (.inr (fun _ => none)))))), (q_6, .inr (1, [.int rr, .int ww, .int tt, .int (-1), .int (-1), .ref q_7, .ref q_8, .null])), (q_8, .inr (4, [.int kk, .int 0, .null, .int 0, .int (-1), .int 0]))] H := hP
            have hD : va_D A [(h0, .inr (8, [.ref a1, .ref a2, .ref a3, .ref a4, .ref a5, .ref a6, .ref a7, .ref a8, .ref a9, .int 0, .int 0, .int 0, .int 0])), (a9, .inr (10, [.int 0, .ref e0, .int 0])), (a1, .inr (7, [.ref f0, .int 0])), (f0, .inl (cF, 200, .inr (.inr (.inr (.inr (fun _ => none)))))), (q_6, .inr (1, [.int rr, .int ww, .int tt, .int (-1), .int (-1), .ref q_7, .ref q_8, .null])), (q_8, .inr (4, [.int kk, .int 0, .null, .int 0, .int (-1), .int 0]))] := hD
            refine lv_astore (lv' := [(5, .ref q_6), (0, .ref h0), (1, .int kk), (2, .int rr), (3, .int ww), (4, .int tt)]) hx hb dX10_feature_82 hl (by decide) rfl (fun ls hl => ?_)
            refine lv_aload hx hb dX10_feature_84 (lv_at hl 0 rfl) ?_
            refine va_get (D := (dC, dI)) (ci := 1) (v := .ref q_8) (C := RX2) (T := TX2) (N := 8) hx hb hts inX2 hown hK hP 4 rfl rfl 6 (by decide) (hts _ mw_433) (fun _ h9 => h9) rfl dX10_feature_86 ?_
            refine va_new (ci := 6) (fs := [.null, .null, .int 0, .int 0]) (C := RX7) (T := TX7) (N := 4) hx hb hts inX7 tyX7 tyX7_ok hown (hts _ mw_455) (hts _ mw_153) (hts _ mw_102) hK hP hD hS hA rfl dfX7 (Nat.le_of_ble_eq_true rfl) (Nat.le_of_ble_eq_true rfl) dX10_feature_89 (fun q_9 H hP hD hS => ?_)
            have hP : va_P (dC, dI) classes [(h0, .inr (8, [.ref a1, .ref a2, .ref a3, .ref a4, .ref a5, .ref a6, .ref a7, .ref a8, .ref a9, .int 0, .int 0, .int 0, .int 0])), (a9, .inr (10, [.int 0, .ref e0, .int 0])), (a1, .inr (7, [.ref f0, .int 0])), (f0, .inl (cF, 200, .inr (.inr (.inr (.inr (fun _ => none)))))), (q_6, .inr (1, [.int rr, .int ww, .int tt, .int (-1), .int (-1), .ref q_7, .ref q_8, .null])), (q_8, .inr (4, [.int kk, .int 0, .null, .int 0, .int (-1), .int 0])), (q_9, .inr (6, [.null, .null, .int 0, .int 0]))] H := hP
            have hD : va_D A [(h0, .inr (8, [.ref a1, .ref a2, .ref a3, .ref a4, .ref a5, .ref a6, .ref a7, .ref a8, .ref a9, .int 0, .int 0, .int 0, .int 0])), (a9, .inr (10, [.int 0, .ref e0, .int 0])), (a1, .inr (7, [.ref f0, .int 0])), (f0, .inl (cF, 200, .inr (.inr (.inr (.inr (fun _ => none)))))), (q_6, .inr (1, [.int rr, .int ww, .int tt, .int (-1), .int (-1), .ref q_7, .ref q_8, .null])), (q_8, .inr (4, [.int kk, .int 0, .null, .int 0, .int (-1), .int 0])), (q_9, .inr (6, [.null, .null, .int 0, .int 0]))] := hD
            refine lv_dup hx hb dX10_feature_92 rfl ?_
            refine lv_iload_n hx hb dX10_feature_93 rfl (lv_at hl 2 rfl) ?_
            have hPc := hP.sub (ws' := []) [] rfl
            have hDc := hD.sub (ws' := []) [] (by decide) rfl
            have hFc := va_free (wc := []) hD hS hA [] rfl
            refine zcall (st1 := [.int (zmc kk), .ref q_9, .ref q_9, .ref q_8]) (va_runS (As := [.int kk]) (rest := [.ref q_9, .ref q_9, .ref q_8]) ⟨hx, hb, hml, hown, hts⟩ (k_mostCorners l dC dI cI cZ cF H.size kk ) (va_cwS 1 hts (zz_gS mw_456 mw_457 mw_99 mc_yX10_mostCorners) rfl rfl rfl (by decide +kernel) ⟨Nat.le_of_ble_eq_true rfl, Nat.le_of_ble_eq_true rfl⟩) (zPS hPc hDc hK) rfl rfl hl.1 rfl (lv_room (Nat.le_of_ble_eq_true rfl)) dX10_feature_94 ⟨Nat.le_of_ble_eq_true rfl, Nat.le_of_ble_eq_true rfl⟩) hS hFc hFc rfl (fun t H1 locs ht hB hk1 hS => ?_)
            obtain ⟨hP1, hD1⟩ := hB
            rw [ht] at hP1
            obtain ⟨hP, hD⟩ := va_join (wr := [(h0, .inr (8, [.ref a1, .ref a2, .ref a3, .ref a4, .ref a5, .ref a6, .ref a7, .ref a8, .ref a9, .int 0, .int 0, .int 0, .int 0])), (a9, .inr (10, [.int 0, .ref e0, .int 0])), (a1, .inr (7, [.ref f0, .int 0])), (f0, .inl (cF, 200, .inr (.inr (.inr (.inr (fun _ => none)))))), (q_6, .inr (1, [.int rr, .int ww, .int tt, .int (-1), .int (-1), .ref q_7, .ref q_8, .null])), (q_8, .inr (4, [.int kk, .int 0, .null, .int 0, .int (-1), .int 0])), (q_9, .inr (6, [.null, .null, .int 0, .int 0]))]) (w1 := []) hP hD [] [0, 1, 2, 3, 4, 5, 6] rfl rfl (by decide) (by decide) hk1 hFc hP1 hD1
            clear hk1 hPc hDc hFc hP1 hD1 ht
            generalize H1 = H at hP hS ⊢
            have hP : va_P (dC, dI) classes [(h0, .inr (8, [.ref a1, .ref a2, .ref a3, .ref a4, .ref a5, .ref a6, .ref a7, .ref a8, .ref a9, .int 0, .int 0, .int 0, .int 0])), (a9, .inr (10, [.int 0, .ref e0, .int 0])), (a1, .inr (7, [.ref f0, .int 0])), (f0, .inl (cF, 200, .inr (.inr (.inr (.inr (fun _ => none)))))), (q_6, .inr (1, [.int rr, .int ww, .int tt, .int (-1), .int (-1), .ref q_7, .ref q_8, .null])), (q_8, .inr (4, [.int kk, .int 0, .null, .int 0, .int (-1), .int 0])), (q_9, .inr (6, [.null, .null, .int 0, .int 0]))] H := hP
            have hD : va_D A [(h0, .inr (8, [.ref a1, .ref a2, .ref a3, .ref a4, .ref a5, .ref a6, .ref a7, .ref a8, .ref a9, .int 0, .int 0, .int 0, .int 0])), (a9, .inr (10, [.int 0, .ref e0, .int 0])), (a1, .inr (7, [.ref f0, .int 0])), (f0, .inl (cF, 200, .inr (.inr (.inr (.inr (fun _ => none)))))), (q_6, .inr (1, [.int rr, .int ww, .int tt, .int (-1), .int (-1), .ref q_7, .ref q_8, .null])), (q_8, .inr (4, [.int kk, .int 0, .null, .int 0, .int (-1), .int 0])), (q_9, .inr (6, [.null, .null, .int 0, .int 0]))] := hD
            by_cases h_10 : kk = 0
            · refine zz_i (v := 1) (by simp [zmc, h_10]) ?_
              refine lv_iload_n hx hb dX10_feature_97 rfl (lv_at hl 2 rfl) ?_
              refine lv_iconst (v := 5) hx hb dX10_feature_98 (by decide) ?_
              refine lv_icmp_lt (tgt := 106) hx hb dX10_feature_99 (by decide) (fun c_11 => ?_) (fun c_11 => ?_)
              · refine lv_iconst (v := 0) hx hb dX10_feature_106 (by decide) ?_
                have hPc := hP.sub (ws' := [(q_9, .inr (6, [.null, .null, .int 0, .int 0]))]) [6] rfl
                have hDc := hD.sub (ws' := [(q_9, .inr (6, [.null, .null, .int 0, .int 0]))]) [6] (by decide) rfl
                have hFc := va_free (wc := [(q_9, .inr (6, [.null, .null, .int 0, .int 0]))]) hD hS hA [6] rfl
                refine zcall (st1 := [.ref q_9, .ref q_8]) (va_runI (As := [.int 1, .int 0]) (rest := [.ref q_9, .ref q_8]) ⟨hx, hb, hml, hown, hts⟩ (k_Row_init_1_0 l dC dI cI cZ cF H.size q_9 ) (cwI 2 hts (zz_gC mc_yX7_init) rfl rfl rfl (hts _ mw_102) (hts _ mw_459) (hts _ mw_155) rfl (by decide +kernel) ⟨Nat.le_of_ble_eq_true rfl, Nat.le_of_ble_eq_true rfl⟩) (zPS hPc hDc hK) rfl rfl hl.1 rfl (lv_room (Nat.le_of_ble_eq_true rfl)) dX10_feature_107 ⟨Nat.le_of_ble_eq_true rfl, Nat.le_of_ble_eq_true rfl⟩) hS hFc hFc rfl (fun t H1 locs ht hB hk1 hS => ?_)
                obtain ⟨hP1, hD1⟩ := hB
                rw [ht] at hP1
                obtain ⟨hP, hD⟩ := va_join (wr := [(h0, .inr (8, [.ref a1, .ref a2, .ref a3, .ref a4, .ref a5, .ref a6, .ref a7, .ref a8, .ref a9, .int 0, .int 0, .int 0, .int 0])), (a9, .inr (10, [.int 0, .ref e0, .int 0])), (a1, .inr (7, [.ref f0, .int 0])), (f0, .inl (cF, 200, .inr (.inr (.inr (.inr (fun _ => none)))))), (q_6, .inr (1, [.int rr, .int ww, .int tt, .int (-1), .int (-1), .ref q_7, .ref q_8, .null])), (q_8, .inr (4, [.int kk, .int 0, .null, .int 0, .int (-1), .int 0]))]) (w1 := []) hP hD [6] [0, 1, 2, 3, 4, 5] rfl rfl (by decide) (by decide) hk1 hFc hP1 hD1
                clear hk1 hPc hDc hFc hP1 hD1 ht
                generalize H1 = H at hP hS ⊢
                have hP : va_P (dC, dI) classes [(h0, .inr (8, [.ref a1, .ref a2, .ref a3, .ref a4, .ref a5, .ref a6, .ref a7, .ref a8, .ref a9, .int 0, .int 0, .int 0, .int 0])), (a9, .inr (10, [.int 0, .ref e0, .int 0])), (a1, .inr (7, [.ref f0, .int 0])), (f0, .inl (cF, 200, .inr (.inr (.inr (.inr (fun _ => none)))))), (q_6, .inr (1, [.int rr, .int ww, .int tt, .int (-1), .int (-1), .ref q_7, .ref q_8, .null])), (q_8, .inr (4, [.int kk, .int 0, .null, .int 0, .int (-1), .int 0]))] H := hP
                have hD : va_D A [(h0, .inr (8, [.ref a1, .ref a2, .ref a3, .ref a4, .ref a5, .ref a6, .ref a7, .ref a8, .ref a9, .int 0, .int 0, .int 0, .int 0])), (a9, .inr (10, [.int 0, .ref e0, .int 0])), (a1, .inr (7, [.ref f0, .int 0])), (f0, .inl (cF, 200, .inr (.inr (.inr (.inr (fun _ => none)))))), (q_6, .inr (1, [.int rr, .int ww, .int tt, .int (-1), .int (-1), .ref q_7, .ref q_8, .null])), (q_8, .inr (4, [.int kk, .int 0, .null, .int 0, .int (-1), .int 0]))] := hD
                refine va_put (D := (dC, dI)) (ci := 4) (v := .ref q_9) (ty := .object "ScaleShop$Row") (C := RX5) (T := TX5) (N := 6) hx hb hts inX5 tyX5 tyX5_ok nmX5 hown hK hP hD hS 5 rfl rfl 2 (by decide) (hts _ mw_391) (fun _ h9 => h9) rfl (by decide +kernel) rfl rfl (Nat.le_of_ble_eq_true rfl) dX10_feature_110 (fun H locs hP hD hS => ?_)
                have hP : va_P (dC, dI) classes [(h0, .inr (8, [.ref a1, .ref a2, .ref a3, .ref a4, .ref a5, .ref a6, .ref a7, .ref a8, .ref a9, .int 0, .int 0, .int 0, .int 0])), (a9, .inr (10, [.int 0, .ref e0, .int 0])), (a1, .inr (7, [.ref f0, .int 0])), (f0, .inl (cF, 200, .inr (.inr (.inr (.inr (fun _ => none)))))), (q_6, .inr (1, [.int rr, .int ww, .int tt, .int (-1), .int (-1), .ref q_7, .ref q_8, .null])), (q_8, .inr (4, [.int kk, .int 0, .ref q_9, .int 0, .int (-1), .int 0]))] H := hP
                have hD : va_D A [(h0, .inr (8, [.ref a1, .ref a2, .ref a3, .ref a4, .ref a5, .ref a6, .ref a7, .ref a8, .ref a9, .int 0, .int 0, .int 0, .int 0])), (a9, .inr (10, [.int 0, .ref e0, .int 0])), (a1, .inr (7, [.ref f0, .int 0])), (f0, .inl (cF, 200, .inr (.inr (.inr (.inr (fun _ => none)))))), (q_6, .inr (1, [.int rr, .int ww, .int tt, .int (-1), .int (-1), .ref q_7, .ref q_8, .null])), (q_8, .inr (4, [.int kk, .int 0, .ref q_9, .int 0, .int (-1), .int 0]))] := hD
                refine lv_aload_n hx hb dX10_feature_113 rfl (lv_at hl 1 rfl) ?_
                have hPc := hP.sub (ws' := [(h0, .inr (8, [.ref a1, .ref a2, .ref a3, .ref a4, .ref a5, .ref a6, .ref a7, .ref a8, .ref a9, .int 0, .int 0, .int 0, .int 0])), (a9, .inr (10, [.int 0, .ref e0, .int 0]))]) [0, 1] rfl
                have hDc := hD.sub (ws' := [(h0, .inr (8, [.ref a1, .ref a2, .ref a3, .ref a4, .ref a5, .ref a6, .ref a7, .ref a8, .ref a9, .int 0, .int 0, .int 0, .int 0])), (a9, .inr (10, [.int 0, .ref e0, .int 0]))]) [0, 1] (by decide) rfl
                have hFc := va_free (wc := [(h0, .inr (8, [.ref a1, .ref a2, .ref a3, .ref a4, .ref a5, .ref a6, .ref a7, .ref a8, .ref a9, .int 0, .int 0, .int 0, .int 0])), (a9, .inr (10, [.int 0, .ref e0, .int 0]))]) hD hS hA [0, 1] rfl
                refine zcall (st1 := [.int 1]) (va_runV (As := []) (rest := []) ⟨hx, hb, hml, hown, hts⟩ (k_seal l dC dI cI cZ cF H.size h0 a1 a2 a3 a4 a5 a6 a7 a8 a9 e0 ) (cwV 0 hts (zz_gV mw_460 mw_462 mw_1 mw_99 mc_yX10_seal) rfl rfl rfl (by decide +kernel) ⟨Nat.le_of_ble_eq_true rfl, Nat.le_of_ble_eq_true rfl⟩) (zPV (q0 := 0) (ci := 8) hPc hDc hK rfl rfl) rfl rfl hl.1 rfl (lv_room (Nat.le_of_ble_eq_true rfl)) dX10_feature_114 ⟨Nat.le_of_ble_eq_true rfl, Nat.le_of_ble_eq_true rfl⟩) hS hFc hFc rfl (fun t H1 locs ht hB hk1 hS => ?_)
                obtain ⟨hP1, hD1⟩ := hB
                rw [ht] at hP1
                obtain ⟨hP, hD⟩ := va_join (wr := [(a1, .inr (7, [.ref f0, .int 0])), (f0, .inl (cF, 200, .inr (.inr (.inr (.inr (fun _ => none)))))), (q_6, .inr (1, [.int rr, .int ww, .int tt, .int (-1), .int (-1), .ref q_7, .ref q_8, .null])), (q_8, .inr (4, [.int kk, .int 0, .ref q_9, .int 0, .int (-1), .int 0]))]) (w1 := [(h0, .inr (8, [.ref a1, .ref a2, .ref a3, .ref a4, .ref a5, .ref a6, .ref a7, .ref a8, .ref a9, .int 0, .int 0, .int 0, .int 0])), (a9, .inr (10, [.int 0, .ref e0, .int 0]))]) hP hD [0, 1] [2, 3, 4, 5] rfl rfl (by decide) (by decide) hk1 hFc hP1 hD1
                clear hk1 hPc hDc hFc hP1 hD1 ht
                generalize H1 = H at hP hS ⊢
                have hP : va_P (dC, dI) classes [(a1, .inr (7, [.ref f0, .int 0])), (f0, .inl (cF, 200, .inr (.inr (.inr (.inr (fun _ => none)))))), (q_6, .inr (1, [.int rr, .int ww, .int tt, .int (-1), .int (-1), .ref q_7, .ref q_8, .null])), (q_8, .inr (4, [.int kk, .int 0, .ref q_9, .int 0, .int (-1), .int 0])), (h0, .inr (8, [.ref a1, .ref a2, .ref a3, .ref a4, .ref a5, .ref a6, .ref a7, .ref a8, .ref a9, .int 0, .int 0, .int 0, .int 0])), (a9, .inr (10, [.int 0, .ref e0, .int 0]))] H := hP
                have hD : va_D A [(a1, .inr (7, [.ref f0, .int 0])), (f0, .inl (cF, 200, .inr (.inr (.inr (.inr (fun _ => none)))))), (q_6, .inr (1, [.int rr, .int ww, .int tt, .int (-1), .int (-1), .ref q_7, .ref q_8, .null])), (q_8, .inr (4, [.int kk, .int 0, .ref q_9, .int 0, .int (-1), .int 0])), (h0, .inr (8, [.ref a1, .ref a2, .ref a3, .ref a4, .ref a5, .ref a6, .ref a7, .ref a8, .ref a9, .int 0, .int 0, .int 0, .int 0])), (a9, .inr (10, [.int 0, .ref e0, .int 0]))] := hD
                refine lv_pop hx hb dX10_feature_117 rfl ?_
                refine lv_aload_n hx hb dX10_feature_118 rfl (lv_at hl 1 rfl) ?_
                refine va_get (D := (dC, dI)) (ci := 8) (v := .ref a1) (C := RX10) (T := TX10) (N := 13) hx hb hts inX10 hown hK hP 4 rfl rfl 0 (by decide) (hts _ mw_309) (fun _ h9 => h9) rfl dX10_feature_119 ?_
                refine lv_aload hx hb dX10_feature_122 (lv_at hl 0 rfl) ?_
                have hPc := hP.sub (ws' := [(a1, .inr (7, [.ref f0, .int 0])), (f0, .inl (cF, 200, .inr (.inr (.inr (.inr (fun _ => none)))))), (q_6, .inr (1, [.int rr, .int ww, .int tt, .int (-1), .int (-1), .ref q_7, .ref q_8, .null]))]) [0, 1, 2] rfl
                have hDc := hD.sub (ws' := [(a1, .inr (7, [.ref f0, .int 0])), (f0, .inl (cF, 200, .inr (.inr (.inr (.inr (fun _ => none)))))), (q_6, .inr (1, [.int rr, .int ww, .int tt, .int (-1), .int (-1), .ref q_7, .ref q_8, .null]))]) [0, 1, 2] (by decide) rfl
                have hFc := va_free (wc := [(a1, .inr (7, [.ref f0, .int 0])), (f0, .inl (cF, 200, .inr (.inr (.inr (.inr (fun _ => none)))))), (q_6, .inr (1, [.int rr, .int ww, .int tt, .int (-1), .int (-1), .ref q_7, .ref q_8, .null]))]) hD hS hA [0, 1, 2] rfl
                refine zcall (st1 := [.int 0]) (va_runV (As := [.ref q_6]) (rest := []) ⟨hx, hb, hml, hown, hts⟩ (k_add l dC dI cI cZ cF H.size a1 f0 q_6 q_7 q_8 rr ww tt ) (cwV 1 hts (zz_gV mw_489 mw_490 mw_491 mw_100 mc_yX8_add) rfl rfl rfl (by decide +kernel) ⟨Nat.le_of_ble_eq_true rfl, Nat.le_of_ble_eq_true rfl⟩) (zPV (q0 := 0) (ci := 7) hPc hDc hK rfl rfl) rfl rfl hl.1 rfl (lv_room (Nat.le_of_ble_eq_true rfl)) dX10_feature_124 ⟨Nat.le_of_ble_eq_true rfl, Nat.le_of_ble_eq_true rfl⟩) hS hFc hFc rfl (fun t H1 locs ht hB hk1 hS => ?_)
                obtain ⟨hP1, hD1⟩ := hB
                rw [ht] at hP1
                obtain ⟨hP, hD⟩ := va_join (wr := [(q_8, .inr (4, [.int kk, .int 0, .ref q_9, .int 0, .int (-1), .int 0])), (h0, .inr (8, [.ref a1, .ref a2, .ref a3, .ref a4, .ref a5, .ref a6, .ref a7, .ref a8, .ref a9, .int 0, .int 0, .int 0, .int 0])), (a9, .inr (10, [.int 0, .ref e0, .int 0]))]) (w1 := []) hP hD [0, 1, 2] [3, 4, 5] rfl rfl (by decide) (by decide) hk1 hFc hP1 hD1
                clear hk1 hPc hDc hFc hP1 hD1 ht
                generalize H1 = H at hP hS ⊢
                have hP : va_P (dC, dI) classes [(q_8, .inr (4, [.int kk, .int 0, .ref q_9, .int 0, .int (-1), .int 0])), (h0, .inr (8, [.ref a1, .ref a2, .ref a3, .ref a4, .ref a5, .ref a6, .ref a7, .ref a8, .ref a9, .int 0, .int 0, .int 0, .int 0])), (a9, .inr (10, [.int 0, .ref e0, .int 0]))] H := hP
                have hD : va_D A [(q_8, .inr (4, [.int kk, .int 0, .ref q_9, .int 0, .int (-1), .int 0])), (h0, .inr (8, [.ref a1, .ref a2, .ref a3, .ref a4, .ref a5, .ref a6, .ref a7, .ref a8, .ref a9, .int 0, .int 0, .int 0, .int 0])), (a9, .inr (10, [.int 0, .ref e0, .int 0]))] := hD
                refine W.widen (k := 8) (n := 182) (by decide) (by decide) ?_
                have hP9 := hP.sub (ws' := []) [] rfl
                have hD9 := hD.sub (ws' := []) [] (by decide) rfl
                exact W.iret (v := 0) hx hb hr (fun t ht hW => ⟨⟨(congrArg (fun z => Outcome.returned (some (Value.int z))) (show (0 : Int32) = (zft kk rr ww tt) from by simp [zft, c_1, c_2, c_3, c_4, c_5, c_11])), by rw [ht]; exact hP9, hD9⟩, hS.F ht⟩) hS.2.2 dX10_feature_127
              · refine lv_iconst (v := 1) hx hb dX10_feature_102 (by decide) ?_
                refine lv_goto (tgt := 107) hx hb dX10_feature_103 (by decide) ?_
                have hPc := hP.sub (ws' := [(q_9, .inr (6, [.null, .null, .int 0, .int 0]))]) [6] rfl
                have hDc := hD.sub (ws' := [(q_9, .inr (6, [.null, .null, .int 0, .int 0]))]) [6] (by decide) rfl
                have hFc := va_free (wc := [(q_9, .inr (6, [.null, .null, .int 0, .int 0]))]) hD hS hA [6] rfl
                refine zcall (st1 := [.ref q_9, .ref q_8]) (va_runI (As := [.int 1, .int 1]) (rest := [.ref q_9, .ref q_8]) ⟨hx, hb, hml, hown, hts⟩ (k_Row_init_1_1 l dC dI cI cZ cF H.size q_9 ) (cwI 2 hts (zz_gC mc_yX7_init) rfl rfl rfl (hts _ mw_102) (hts _ mw_459) (hts _ mw_155) rfl (by decide +kernel) ⟨Nat.le_of_ble_eq_true rfl, Nat.le_of_ble_eq_true rfl⟩) (zPS hPc hDc hK) rfl rfl hl.1 rfl (lv_room (Nat.le_of_ble_eq_true rfl)) dX10_feature_107 ⟨Nat.le_of_ble_eq_true rfl, Nat.le_of_ble_eq_true rfl⟩) hS hFc hFc rfl (fun t H1 locs ht hB hk1 hS => ?_)
                obtain ⟨hP1, hD1⟩ := hB
                rw [ht] at hP1
                obtain ⟨hP, hD⟩ := va_join (wr := [(h0, .inr (8, [.ref a1, .ref a2, .ref a3, .ref a4, .ref a5, .ref a6, .ref a7, .ref a8, .ref a9, .int 0, .int 0, .int 0, .int 0])), (a9, .inr (10, [.int 0, .ref e0, .int 0])), (a1, .inr (7, [.ref f0, .int 0])), (f0, .inl (cF, 200, .inr (.inr (.inr (.inr (fun _ => none)))))), (q_6, .inr (1, [.int rr, .int ww, .int tt, .int (-1), .int (-1), .ref q_7, .ref q_8, .null])), (q_8, .inr (4, [.int kk, .int 0, .null, .int 0, .int (-1), .int 0]))]) (w1 := []) hP hD [6] [0, 1, 2, 3, 4, 5] rfl rfl (by decide) (by decide) hk1 hFc hP1 hD1
                clear hk1 hPc hDc hFc hP1 hD1 ht
                generalize H1 = H at hP hS ⊢
                have hP : va_P (dC, dI) classes [(h0, .inr (8, [.ref a1, .ref a2, .ref a3, .ref a4, .ref a5, .ref a6, .ref a7, .ref a8, .ref a9, .int 0, .int 0, .int 0, .int 0])), (a9, .inr (10, [.int 0, .ref e0, .int 0])), (a1, .inr (7, [.ref f0, .int 0])), (f0, .inl (cF, 200, .inr (.inr (.inr (.inr (fun _ => none)))))), (q_6, .inr (1, [.int rr, .int ww, .int tt, .int (-1), .int (-1), .ref q_7, .ref q_8, .null])), (q_8, .inr (4, [.int kk, .int 0, .null, .int 0, .int (-1), .int 0]))] H := hP
                have hD : va_D A [(h0, .inr (8, [.ref a1, .ref a2, .ref a3, .ref a4, .ref a5, .ref a6, .ref a7, .ref a8, .ref a9, .int 0, .int 0, .int 0, .int 0])), (a9, .inr (10, [.int 0, .ref e0, .int 0])), (a1, .inr (7, [.ref f0, .int 0])), (f0, .inl (cF, 200, .inr (.inr (.inr (.inr (fun _ => none)))))), (q_6, .inr (1, [.int rr, .int ww, .int tt, .int (-1), .int (-1), .ref q_7, .ref q_8, .null])), (q_8, .inr (4, [.int kk, .int 0, .null, .int 0, .int (-1), .int 0]))] := hD
                refine va_put (D := (dC, dI)) (ci := 4) (v := .ref q_9) (ty := .object "ScaleShop$Row") (C := RX5) (T := TX5) (N := 6) hx hb hts inX5 tyX5 tyX5_ok nmX5 hown hK hP hD hS 5 rfl rfl 2 (by decide) (hts _ mw_391) (fun _ h9 => h9) rfl (by decide +kernel) rfl rfl (Nat.le_of_ble_eq_true rfl) dX10_feature_110 (fun H locs hP hD hS => ?_)
                have hP : va_P (dC, dI) classes [(h0, .inr (8, [.ref a1, .ref a2, .ref a3, .ref a4, .ref a5, .ref a6, .ref a7, .ref a8, .ref a9, .int 0, .int 0, .int 0, .int 0])), (a9, .inr (10, [.int 0, .ref e0, .int 0])), (a1, .inr (7, [.ref f0, .int 0])), (f0, .inl (cF, 200, .inr (.inr (.inr (.inr (fun _ => none)))))), (q_6, .inr (1, [.int rr, .int ww, .int tt, .int (-1), .int (-1), .ref q_7, .ref q_8, .null])), (q_8, .inr (4, [.int kk, .int 0, .ref q_9, .int 0, .int (-1), .int 0]))] H := hP
                have hD : va_D A [(h0, .inr (8, [.ref a1, .ref a2, .ref a3, .ref a4, .ref a5, .ref a6, .ref a7, .ref a8, .ref a9, .int 0, .int 0, .int 0, .int 0])), (a9, .inr (10, [.int 0, .ref e0, .int 0])), (a1, .inr (7, [.ref f0, .int 0])), (f0, .inl (cF, 200, .inr (.inr (.inr (.inr (fun _ => none)))))), (q_6, .inr (1, [.int rr, .int ww, .int tt, .int (-1), .int (-1), .ref q_7, .ref q_8, .null])), (q_8, .inr (4, [.int kk, .int 0, .ref q_9, .int 0, .int (-1), .int 0]))] := hD
                refine lv_aload_n hx hb dX10_feature_113 rfl (lv_at hl 1 rfl) ?_
                have hPc := hP.sub (ws' := [(h0, .inr (8, [.ref a1, .ref a2, .ref a3, .ref a4, .ref a5, .ref a6, .ref a7, .ref a8, .ref a9, .int 0, .int 0, .int 0, .int 0])), (a9, .inr (10, [.int 0, .ref e0, .int 0]))]) [0, 1] rfl
                have hDc := hD.sub (ws' := [(h0, .inr (8, [.ref a1, .ref a2, .ref a3, .ref a4, .ref a5, .ref a6, .ref a7, .ref a8, .ref a9, .int 0, .int 0, .int 0, .int 0])), (a9, .inr (10, [.int 0, .ref e0, .int 0]))]) [0, 1] (by decide) rfl
                have hFc := va_free (wc := [(h0, .inr (8, [.ref a1, .ref a2, .ref a3, .ref a4, .ref a5, .ref a6, .ref a7, .ref a8, .ref a9, .int 0, .int 0, .int 0, .int 0])), (a9, .inr (10, [.int 0, .ref e0, .int 0]))]) hD hS hA [0, 1] rfl
                refine zcall (st1 := [.int 1]) (va_runV (As := []) (rest := []) ⟨hx, hb, hml, hown, hts⟩ (k_seal l dC dI cI cZ cF H.size h0 a1 a2 a3 a4 a5 a6 a7 a8 a9 e0 ) (cwV 0 hts (zz_gV mw_460 mw_462 mw_1 mw_99 mc_yX10_seal) rfl rfl rfl (by decide +kernel) ⟨Nat.le_of_ble_eq_true rfl, Nat.le_of_ble_eq_true rfl⟩) (zPV (q0 := 0) (ci := 8) hPc hDc hK rfl rfl) rfl rfl hl.1 rfl (lv_room (Nat.le_of_ble_eq_true rfl)) dX10_feature_114 ⟨Nat.le_of_ble_eq_true rfl, Nat.le_of_ble_eq_true rfl⟩) hS hFc hFc rfl (fun t H1 locs ht hB hk1 hS => ?_)
                obtain ⟨hP1, hD1⟩ := hB
                rw [ht] at hP1
                obtain ⟨hP, hD⟩ := va_join (wr := [(a1, .inr (7, [.ref f0, .int 0])), (f0, .inl (cF, 200, .inr (.inr (.inr (.inr (fun _ => none)))))), (q_6, .inr (1, [.int rr, .int ww, .int tt, .int (-1), .int (-1), .ref q_7, .ref q_8, .null])), (q_8, .inr (4, [.int kk, .int 0, .ref q_9, .int 0, .int (-1), .int 0]))]) (w1 := [(h0, .inr (8, [.ref a1, .ref a2, .ref a3, .ref a4, .ref a5, .ref a6, .ref a7, .ref a8, .ref a9, .int 0, .int 0, .int 0, .int 0])), (a9, .inr (10, [.int 0, .ref e0, .int 0]))]) hP hD [0, 1] [2, 3, 4, 5] rfl rfl (by decide) (by decide) hk1 hFc hP1 hD1
                clear hk1 hPc hDc hFc hP1 hD1 ht
                generalize H1 = H at hP hS ⊢
                have hP : va_P (dC, dI) classes [(a1, .inr (7, [.ref f0, .int 0])), (f0, .inl (cF, 200, .inr (.inr (.inr (.inr (fun _ => none)))))), (q_6, .inr (1, [.int rr, .int ww, .int tt, .int (-1), .int (-1), .ref q_7, .ref q_8, .null])), (q_8, .inr (4, [.int kk, .int 0, .ref q_9, .int 0, .int (-1), .int 0])), (h0, .inr (8, [.ref a1, .ref a2, .ref a3, .ref a4, .ref a5, .ref a6, .ref a7, .ref a8, .ref a9, .int 0, .int 0, .int 0, .int 0])), (a9, .inr (10, [.int 0, .ref e0, .int 0]))] H := hP
                have hD : va_D A [(a1, .inr (7, [.ref f0, .int 0])), (f0, .inl (cF, 200, .inr (.inr (.inr (.inr (fun _ => none)))))), (q_6, .inr (1, [.int rr, .int ww, .int tt, .int (-1), .int (-1), .ref q_7, .ref q_8, .null])), (q_8, .inr (4, [.int kk, .int 0, .ref q_9, .int 0, .int (-1), .int 0])), (h0, .inr (8, [.ref a1, .ref a2, .ref a3, .ref a4, .ref a5, .ref a6, .ref a7, .ref a8, .ref a9, .int 0, .int 0, .int 0, .int 0])), (a9, .inr (10, [.int 0, .ref e0, .int 0]))] := hD
                refine lv_pop hx hb dX10_feature_117 rfl ?_
                refine lv_aload_n hx hb dX10_feature_118 rfl (lv_at hl 1 rfl) ?_
                refine va_get (D := (dC, dI)) (ci := 8) (v := .ref a1) (C := RX10) (T := TX10) (N := 13) hx hb hts inX10 hown hK hP 4 rfl rfl 0 (by decide) (hts _ mw_309) (fun _ h9 => h9) rfl dX10_feature_119 ?_
                refine lv_aload hx hb dX10_feature_122 (lv_at hl 0 rfl) ?_
                have hPc := hP.sub (ws' := [(a1, .inr (7, [.ref f0, .int 0])), (f0, .inl (cF, 200, .inr (.inr (.inr (.inr (fun _ => none)))))), (q_6, .inr (1, [.int rr, .int ww, .int tt, .int (-1), .int (-1), .ref q_7, .ref q_8, .null]))]) [0, 1, 2] rfl
                have hDc := hD.sub (ws' := [(a1, .inr (7, [.ref f0, .int 0])), (f0, .inl (cF, 200, .inr (.inr (.inr (.inr (fun _ => none)))))), (q_6, .inr (1, [.int rr, .int ww, .int tt, .int (-1), .int (-1), .ref q_7, .ref q_8, .null]))]) [0, 1, 2] (by decide) rfl
                have hFc := va_free (wc := [(a1, .inr (7, [.ref f0, .int 0])), (f0, .inl (cF, 200, .inr (.inr (.inr (.inr (fun _ => none)))))), (q_6, .inr (1, [.int rr, .int ww, .int tt, .int (-1), .int (-1), .ref q_7, .ref q_8, .null]))]) hD hS hA [0, 1, 2] rfl
                refine zcall (st1 := [.int 0]) (va_runV (As := [.ref q_6]) (rest := []) ⟨hx, hb, hml, hown, hts⟩ (k_add l dC dI cI cZ cF H.size a1 f0 q_6 q_7 q_8 rr ww tt ) (cwV 1 hts (zz_gV mw_489 mw_490 mw_491 mw_100 mc_yX8_add) rfl rfl rfl (by decide +kernel) ⟨Nat.le_of_ble_eq_true rfl, Nat.le_of_ble_eq_true rfl⟩) (zPV (q0 := 0) (ci := 7) hPc hDc hK rfl rfl) rfl rfl hl.1 rfl (lv_room (Nat.le_of_ble_eq_true rfl)) dX10_feature_124 ⟨Nat.le_of_ble_eq_true rfl, Nat.le_of_ble_eq_true rfl⟩) hS hFc hFc rfl (fun t H1 locs ht hB hk1 hS => ?_)
                obtain ⟨hP1, hD1⟩ := hB
                rw [ht] at hP1
                obtain ⟨hP, hD⟩ := va_join (wr := [(q_8, .inr (4, [.int kk, .int 0, .ref q_9, .int 0, .int (-1), .int 0])), (h0, .inr (8, [.ref a1, .ref a2, .ref a3, .ref a4, .ref a5, .ref a6, .ref a7, .ref a8, .ref a9, .int 0, .int 0, .int 0, .int 0])), (a9, .inr (10, [.int 0, .ref e0, .int 0]))]) (w1 := []) hP hD [0, 1, 2] [3, 4, 5] rfl rfl (by decide) (by decide) hk1 hFc hP1 hD1
                clear hk1 hPc hDc hFc hP1 hD1 ht
                generalize H1 = H at hP hS ⊢
                have hP : va_P (dC, dI) classes [(q_8, .inr (4, [.int kk, .int 0, .ref q_9, .int 0, .int (-1), .int 0])), (h0, .inr (8, [.ref a1, .ref a2, .ref a3, .ref a4, .ref a5, .ref a6, .ref a7, .ref a8, .ref a9, .int 0, .int 0, .int 0, .int 0])), (a9, .inr (10, [.int 0, .ref e0, .int 0]))] H := hP
                have hD : va_D A [(q_8, .inr (4, [.int kk, .int 0, .ref q_9, .int 0, .int (-1), .int 0])), (h0, .inr (8, [.ref a1, .ref a2, .ref a3, .ref a4, .ref a5, .ref a6, .ref a7, .ref a8, .ref a9, .int 0, .int 0, .int 0, .int 0])), (a9, .inr (10, [.int 0, .ref e0, .int 0]))] := hD
                refine W.widen (k := 8) (n := 182) (by decide) (by decide) ?_
                have hP9 := hP.sub (ws' := []) [] rfl
                have hD9 := hD.sub (ws' := []) [] (by decide) rfl
                exact W.iret (v := 0) hx hb hr (fun t ht hW => ⟨⟨(congrArg (fun z => Outcome.returned (some (Value.int z))) (show (0 : Int32) = (zft kk rr ww tt) from by simp [zft, c_1, c_2, c_3, c_4, c_5, c_11])), by rw [ht]; exact hP9, hD9⟩, hS.F ht⟩) hS.2.2 dX10_feature_127
            · refine zz_i (v := 40) (by simp [zmc, h_10]) ?_
              refine lv_iload_n hx hb dX10_feature_97 rfl (lv_at hl 2 rfl) ?_
              refine lv_iconst (v := 5) hx hb dX10_feature_98 (by decide) ?_
              refine lv_icmp_lt (tgt := 106) hx hb dX10_feature_99 (by decide) (fun c_12 => ?_) (fun c_12 => ?_)
              · refine lv_iconst (v := 0) hx hb dX10_feature_106 (by decide) ?_
                have hPc := hP.sub (ws' := [(q_9, .inr (6, [.null, .null, .int 0, .int 0]))]) [6] rfl
                have hDc := hD.sub (ws' := [(q_9, .inr (6, [.null, .null, .int 0, .int 0]))]) [6] (by decide) rfl
                have hFc := va_free (wc := [(q_9, .inr (6, [.null, .null, .int 0, .int 0]))]) hD hS hA [6] rfl
                refine zcall (st1 := [.ref q_9, .ref q_8]) (va_runI (As := [.int 40, .int 0]) (rest := [.ref q_9, .ref q_8]) ⟨hx, hb, hml, hown, hts⟩ (k_Row_init_40_0 l dC dI cI cZ cF H.size q_9 ) (cwI 2 hts (zz_gC mc_yX7_init) rfl rfl rfl (hts _ mw_102) (hts _ mw_459) (hts _ mw_155) rfl (by decide +kernel) ⟨Nat.le_of_ble_eq_true rfl, Nat.le_of_ble_eq_true rfl⟩) (zPS hPc hDc hK) rfl rfl hl.1 rfl (lv_room (Nat.le_of_ble_eq_true rfl)) dX10_feature_107 ⟨Nat.le_of_ble_eq_true rfl, Nat.le_of_ble_eq_true rfl⟩) hS hFc hFc rfl (fun t H1 locs ht hB hk1 hS => ?_)
                obtain ⟨hP1, hD1⟩ := hB
                rw [ht] at hP1
                obtain ⟨hP, hD⟩ := va_join (wr := [(h0, .inr (8, [.ref a1, .ref a2, .ref a3, .ref a4, .ref a5, .ref a6, .ref a7, .ref a8, .ref a9, .int 0, .int 0, .int 0, .int 0])), (a9, .inr (10, [.int 0, .ref e0, .int 0])), (a1, .inr (7, [.ref f0, .int 0])), (f0, .inl (cF, 200, .inr (.inr (.inr (.inr (fun _ => none)))))), (q_6, .inr (1, [.int rr, .int ww, .int tt, .int (-1), .int (-1), .ref q_7, .ref q_8, .null])), (q_8, .inr (4, [.int kk, .int 0, .null, .int 0, .int (-1), .int 0]))]) (w1 := []) hP hD [6] [0, 1, 2, 3, 4, 5] rfl rfl (by decide) (by decide) hk1 hFc hP1 hD1
                clear hk1 hPc hDc hFc hP1 hD1 ht
                generalize H1 = H at hP hS ⊢
                have hP : va_P (dC, dI) classes [(h0, .inr (8, [.ref a1, .ref a2, .ref a3, .ref a4, .ref a5, .ref a6, .ref a7, .ref a8, .ref a9, .int 0, .int 0, .int 0, .int 0])), (a9, .inr (10, [.int 0, .ref e0, .int 0])), (a1, .inr (7, [.ref f0, .int 0])), (f0, .inl (cF, 200, .inr (.inr (.inr (.inr (fun _ => none)))))), (q_6, .inr (1, [.int rr, .int ww, .int tt, .int (-1), .int (-1), .ref q_7, .ref q_8, .null])), (q_8, .inr (4, [.int kk, .int 0, .null, .int 0, .int (-1), .int 0]))] H := hP
                have hD : va_D A [(h0, .inr (8, [.ref a1, .ref a2, .ref a3, .ref a4, .ref a5, .ref a6, .ref a7, .ref a8, .ref a9, .int 0, .int 0, .int 0, .int 0])), (a9, .inr (10, [.int 0, .ref e0, .int 0])), (a1, .inr (7, [.ref f0, .int 0])), (f0, .inl (cF, 200, .inr (.inr (.inr (.inr (fun _ => none)))))), (q_6, .inr (1, [.int rr, .int ww, .int tt, .int (-1), .int (-1), .ref q_7, .ref q_8, .null])), (q_8, .inr (4, [.int kk, .int 0, .null, .int 0, .int (-1), .int 0]))] := hD
                refine va_put (D := (dC, dI)) (ci := 4) (v := .ref q_9) (ty := .object "ScaleShop$Row") (C := RX5) (T := TX5) (N := 6) hx hb hts inX5 tyX5 tyX5_ok nmX5 hown hK hP hD hS 5 rfl rfl 2 (by decide) (hts _ mw_391) (fun _ h9 => h9) rfl (by decide +kernel) rfl rfl (Nat.le_of_ble_eq_true rfl) dX10_feature_110 (fun H locs hP hD hS => ?_)
                have hP : va_P (dC, dI) classes [(h0, .inr (8, [.ref a1, .ref a2, .ref a3, .ref a4, .ref a5, .ref a6, .ref a7, .ref a8, .ref a9, .int 0, .int 0, .int 0, .int 0])), (a9, .inr (10, [.int 0, .ref e0, .int 0])), (a1, .inr (7, [.ref f0, .int 0])), (f0, .inl (cF, 200, .inr (.inr (.inr (.inr (fun _ => none)))))), (q_6, .inr (1, [.int rr, .int ww, .int tt, .int (-1), .int (-1), .ref q_7, .ref q_8, .null])), (q_8, .inr (4, [.int kk, .int 0, .ref q_9, .int 0, .int (-1), .int 0]))] H := hP
                have hD : va_D A [(h0, .inr (8, [.ref a1, .ref a2, .ref a3, .ref a4, .ref a5, .ref a6, .ref a7, .ref a8, .ref a9, .int 0, .int 0, .int 0, .int 0])), (a9, .inr (10, [.int 0, .ref e0, .int 0])), (a1, .inr (7, [.ref f0, .int 0])), (f0, .inl (cF, 200, .inr (.inr (.inr (.inr (fun _ => none)))))), (q_6, .inr (1, [.int rr, .int ww, .int tt, .int (-1), .int (-1), .ref q_7, .ref q_8, .null])), (q_8, .inr (4, [.int kk, .int 0, .ref q_9, .int 0, .int (-1), .int 0]))] := hD
                refine lv_aload_n hx hb dX10_feature_113 rfl (lv_at hl 1 rfl) ?_
                have hPc := hP.sub (ws' := [(h0, .inr (8, [.ref a1, .ref a2, .ref a3, .ref a4, .ref a5, .ref a6, .ref a7, .ref a8, .ref a9, .int 0, .int 0, .int 0, .int 0])), (a9, .inr (10, [.int 0, .ref e0, .int 0]))]) [0, 1] rfl
                have hDc := hD.sub (ws' := [(h0, .inr (8, [.ref a1, .ref a2, .ref a3, .ref a4, .ref a5, .ref a6, .ref a7, .ref a8, .ref a9, .int 0, .int 0, .int 0, .int 0])), (a9, .inr (10, [.int 0, .ref e0, .int 0]))]) [0, 1] (by decide) rfl
                have hFc := va_free (wc := [(h0, .inr (8, [.ref a1, .ref a2, .ref a3, .ref a4, .ref a5, .ref a6, .ref a7, .ref a8, .ref a9, .int 0, .int 0, .int 0, .int 0])), (a9, .inr (10, [.int 0, .ref e0, .int 0]))]) hD hS hA [0, 1] rfl
                refine zcall (st1 := [.int 1]) (va_runV (As := []) (rest := []) ⟨hx, hb, hml, hown, hts⟩ (k_seal l dC dI cI cZ cF H.size h0 a1 a2 a3 a4 a5 a6 a7 a8 a9 e0 ) (cwV 0 hts (zz_gV mw_460 mw_462 mw_1 mw_99 mc_yX10_seal) rfl rfl rfl (by decide +kernel) ⟨Nat.le_of_ble_eq_true rfl, Nat.le_of_ble_eq_true rfl⟩) (zPV (q0 := 0) (ci := 8) hPc hDc hK rfl rfl) rfl rfl hl.1 rfl (lv_room (Nat.le_of_ble_eq_true rfl)) dX10_feature_114 ⟨Nat.le_of_ble_eq_true rfl, Nat.le_of_ble_eq_true rfl⟩) hS hFc hFc rfl (fun t H1 locs ht hB hk1 hS => ?_)
                obtain ⟨hP1, hD1⟩ := hB
                rw [ht] at hP1
                obtain ⟨hP, hD⟩ := va_join (wr := [(a1, .inr (7, [.ref f0, .int 0])), (f0, .inl (cF, 200, .inr (.inr (.inr (.inr (fun _ => none)))))), (q_6, .inr (1, [.int rr, .int ww, .int tt, .int (-1), .int (-1), .ref q_7, .ref q_8, .null])), (q_8, .inr (4, [.int kk, .int 0, .ref q_9, .int 0, .int (-1), .int 0]))]) (w1 := [(h0, .inr (8, [.ref a1, .ref a2, .ref a3, .ref a4, .ref a5, .ref a6, .ref a7, .ref a8, .ref a9, .int 0, .int 0, .int 0, .int 0])), (a9, .inr (10, [.int 0, .ref e0, .int 0]))]) hP hD [0, 1] [2, 3, 4, 5] rfl rfl (by decide) (by decide) hk1 hFc hP1 hD1
                clear hk1 hPc hDc hFc hP1 hD1 ht
                generalize H1 = H at hP hS ⊢
                have hP : va_P (dC, dI) classes [(a1, .inr (7, [.ref f0, .int 0])), (f0, .inl (cF, 200, .inr (.inr (.inr (.inr (fun _ => none)))))), (q_6, .inr (1, [.int rr, .int ww, .int tt, .int (-1), .int (-1), .ref q_7, .ref q_8, .null])), (q_8, .inr (4, [.int kk, .int 0, .ref q_9, .int 0, .int (-1), .int 0])), (h0, .inr (8, [.ref a1, .ref a2, .ref a3, .ref a4, .ref a5, .ref a6, .ref a7, .ref a8, .ref a9, .int 0, .int 0, .int 0, .int 0])), (a9, .inr (10, [.int 0, .ref e0, .int 0]))] H := hP
                have hD : va_D A [(a1, .inr (7, [.ref f0, .int 0])), (f0, .inl (cF, 200, .inr (.inr (.inr (.inr (fun _ => none)))))), (q_6, .inr (1, [.int rr, .int ww, .int tt, .int (-1), .int (-1), .ref q_7, .ref q_8, .null])), (q_8, .inr (4, [.int kk, .int 0, .ref q_9, .int 0, .int (-1), .int 0])), (h0, .inr (8, [.ref a1, .ref a2, .ref a3, .ref a4, .ref a5, .ref a6, .ref a7, .ref a8, .ref a9, .int 0, .int 0, .int 0, .int 0])), (a9, .inr (10, [.int 0, .ref e0, .int 0]))] := hD
                refine lv_pop hx hb dX10_feature_117 rfl ?_
                refine lv_aload_n hx hb dX10_feature_118 rfl (lv_at hl 1 rfl) ?_
                refine va_get (D := (dC, dI)) (ci := 8) (v := .ref a1) (C := RX10) (T := TX10) (N := 13) hx hb hts inX10 hown hK hP 4 rfl rfl 0 (by decide) (hts _ mw_309) (fun _ h9 => h9) rfl dX10_feature_119 ?_
                refine lv_aload hx hb dX10_feature_122 (lv_at hl 0 rfl) ?_
                have hPc := hP.sub (ws' := [(a1, .inr (7, [.ref f0, .int 0])), (f0, .inl (cF, 200, .inr (.inr (.inr (.inr (fun _ => none)))))), (q_6, .inr (1, [.int rr, .int ww, .int tt, .int (-1), .int (-1), .ref q_7, .ref q_8, .null]))]) [0, 1, 2] rfl
                have hDc := hD.sub (ws' := [(a1, .inr (7, [.ref f0, .int 0])), (f0, .inl (cF, 200, .inr (.inr (.inr (.inr (fun _ => none)))))), (q_6, .inr (1, [.int rr, .int ww, .int tt, .int (-1), .int (-1), .ref q_7, .ref q_8, .null]))]) [0, 1, 2] (by decide) rfl
                have hFc := va_free (wc := [(a1, .inr (7, [.ref f0, .int 0])), (f0, .inl (cF, 200, .inr (.inr (.inr (.inr (fun _ => none)))))), (q_6, .inr (1, [.int rr, .int ww, .int tt, .int (-1), .int (-1), .ref q_7, .ref q_8, .null]))]) hD hS hA [0, 1, 2] rfl
                refine zcall (st1 := [.int 0]) (va_runV (As := [.ref q_6]) (rest := []) ⟨hx, hb, hml, hown, hts⟩ (k_add l dC dI cI cZ cF H.size a1 f0 q_6 q_7 q_8 rr ww tt ) (cwV 1 hts (zz_gV mw_489 mw_490 mw_491 mw_100 mc_yX8_add) rfl rfl rfl (by decide +kernel) ⟨Nat.le_of_ble_eq_true rfl, Nat.le_of_ble_eq_true rfl⟩) (zPV (q0 := 0) (ci := 7) hPc hDc hK rfl rfl) rfl rfl hl.1 rfl (lv_room (Nat.le_of_ble_eq_true rfl)) dX10_feature_124 ⟨Nat.le_of_ble_eq_true rfl, Nat.le_of_ble_eq_true rfl⟩) hS hFc hFc rfl (fun t H1 locs ht hB hk1 hS => ?_)
                obtain ⟨hP1, hD1⟩ := hB
                rw [ht] at hP1
                obtain ⟨hP, hD⟩ := va_join (wr := [(q_8, .inr (4, [.int kk, .int 0, .ref q_9, .int 0, .int (-1), .int 0])), (h0, .inr (8, [.ref a1, .ref a2, .ref a3, .ref a4, .ref a5, .ref a6, .ref a7, .ref a8, .ref a9, .int 0, .int 0, .int 0, .int 0])), (a9, .inr (10, [.int 0, .ref e0, .int 0]))]) (w1 := []) hP hD [0, 1, 2] [3, 4, 5] rfl rfl (by decide) (by decide) hk1 hFc hP1 hD1
                clear hk1 hPc hDc hFc hP1 hD1 ht
                generalize H1 = H at hP hS ⊢
                have hP : va_P (dC, dI) classes [(q_8, .inr (4, [.int kk, .int 0, .ref q_9, .int 0, .int (-1), .int 0])), (h0, .inr (8, [.ref a1, .ref a2, .ref a3, .ref a4, .ref a5, .ref a6, .ref a7, .ref a8, .ref a9, .int 0, .int 0, .int 0, .int 0])), (a9, .inr (10, [.int 0, .ref e0, .int 0]))] H := hP
                have hD : va_D A [(q_8, .inr (4, [.int kk, .int 0, .ref q_9, .int 0, .int (-1), .int 0])), (h0, .inr (8, [.ref a1, .ref a2, .ref a3, .ref a4, .ref a5, .ref a6, .ref a7, .ref a8, .ref a9, .int 0, .int 0, .int 0, .int 0])), (a9, .inr (10, [.int 0, .ref e0, .int 0]))] := hD
                refine W.widen (k := 8) (n := 182) (by decide) (by decide) ?_
                have hP9 := hP.sub (ws' := []) [] rfl
                have hD9 := hD.sub (ws' := []) [] (by decide) rfl
                exact W.iret (v := 0) hx hb hr (fun t ht hW => ⟨⟨(congrArg (fun z => Outcome.returned (some (Value.int z))) (show (0 : Int32) = (zft kk rr ww tt) from by simp [zft, c_1, c_2, c_3, c_4, c_5, c_12])), by rw [ht]; exact hP9, hD9⟩, hS.F ht⟩) hS.2.2 dX10_feature_127
              · refine lv_iconst (v := 1) hx hb dX10_feature_102 (by decide) ?_
                refine lv_goto (tgt := 107) hx hb dX10_feature_103 (by decide) ?_
                have hPc := hP.sub (ws' := [(q_9, .inr (6, [.null, .null, .int 0, .int 0]))]) [6] rfl
                have hDc := hD.sub (ws' := [(q_9, .inr (6, [.null, .null, .int 0, .int 0]))]) [6] (by decide) rfl
                have hFc := va_free (wc := [(q_9, .inr (6, [.null, .null, .int 0, .int 0]))]) hD hS hA [6] rfl
                refine zcall (st1 := [.ref q_9, .ref q_8]) (va_runI (As := [.int 40, .int 1]) (rest := [.ref q_9, .ref q_8]) ⟨hx, hb, hml, hown, hts⟩ (k_Row_init_40_1 l dC dI cI cZ cF H.size q_9 ) (cwI 2 hts (zz_gC mc_yX7_init) rfl rfl rfl (hts _ mw_102) (hts _ mw_459) (hts _ mw_155) rfl (by decide +kernel) ⟨Nat.le_of_ble_eq_true rfl, Nat.le_of_ble_eq_true rfl⟩) (zPS hPc hDc hK) rfl rfl hl.1 rfl (lv_room (Nat.le_of_ble_eq_true rfl)) dX10_feature_107 ⟨Nat.le_of_ble_eq_true rfl, Nat.le_of_ble_eq_true rfl⟩) hS hFc hFc rfl (fun t H1 locs ht hB hk1 hS => ?_)
                obtain ⟨hP1, hD1⟩ := hB
                rw [ht] at hP1
                obtain ⟨hP, hD⟩ := va_join (wr := [(h0, .inr (8, [.ref a1, .ref a2, .ref a3, .ref a4, .ref a5, .ref a6, .ref a7, .ref a8, .ref a9, .int 0, .int 0, .int 0, .int 0])), (a9, .inr (10, [.int 0, .ref e0, .int 0])), (a1, .inr (7, [.ref f0, .int 0])), (f0, .inl (cF, 200, .inr (.inr (.inr (.inr (fun _ => none)))))), (q_6, .inr (1, [.int rr, .int ww, .int tt, .int (-1), .int (-1), .ref q_7, .ref q_8, .null])), (q_8, .inr (4, [.int kk, .int 0, .null, .int 0, .int (-1), .int 0]))]) (w1 := []) hP hD [6] [0, 1, 2, 3, 4, 5] rfl rfl (by decide) (by decide) hk1 hFc hP1 hD1
                clear hk1 hPc hDc hFc hP1 hD1 ht
                generalize H1 = H at hP hS ⊢
                have hP : va_P (dC, dI) classes [(h0, .inr (8, [.ref a1, .ref a2, .ref a3, .ref a4, .ref a5, .ref a6, .ref a7, .ref a8, .ref a9, .int 0, .int 0, .int 0, .int 0])), (a9, .inr (10, [.int 0, .ref e0, .int 0])), (a1, .inr (7, [.ref f0, .int 0])), (f0, .inl (cF, 200, .inr (.inr (.inr (.inr (fun _ => none)))))), (q_6, .inr (1, [.int rr, .int ww, .int tt, .int (-1), .int (-1), .ref q_7, .ref q_8, .null])), (q_8, .inr (4, [.int kk, .int 0, .null, .int 0, .int (-1), .int 0]))] H := hP
                have hD : va_D A [(h0, .inr (8, [.ref a1, .ref a2, .ref a3, .ref a4, .ref a5, .ref a6, .ref a7, .ref a8, .ref a9, .int 0, .int 0, .int 0, .int 0])), (a9, .inr (10, [.int 0, .ref e0, .int 0])), (a1, .inr (7, [.ref f0, .int 0])), (f0, .inl (cF, 200, .inr (.inr (.inr (.inr (fun _ => none)))))), (q_6, .inr (1, [.int rr, .int ww, .int tt, .int (-1), .int (-1), .ref q_7, .ref q_8, .null])), (q_8, .inr (4, [.int kk, .int 0, .null, .int 0, .int (-1), .int 0]))] := hD
                refine va_put (D := (dC, dI)) (ci := 4) (v := .ref q_9) (ty := .object "ScaleShop$Row") (C := RX5) (T := TX5) (N := 6) hx hb hts inX5 tyX5 tyX5_ok nmX5 hown hK hP hD hS 5 rfl rfl 2 (by decide) (hts _ mw_391) (fun _ h9 => h9) rfl (by decide +kernel) rfl rfl (Nat.le_of_ble_eq_true rfl) dX10_feature_110 (fun H locs hP hD hS => ?_)
                have hP : va_P (dC, dI) classes [(h0, .inr (8, [.ref a1, .ref a2, .ref a3, .ref a4, .ref a5, .ref a6, .ref a7, .ref a8, .ref a9, .int 0, .int 0, .int 0, .int 0])), (a9, .inr (10, [.int 0, .ref e0, .int 0])), (a1, .inr (7, [.ref f0, .int 0])), (f0, .inl (cF, 200, .inr (.inr (.inr (.inr (fun _ => none)))))), (q_6, .inr (1, [.int rr, .int ww, .int tt, .int (-1), .int (-1), .ref q_7, .ref q_8, .null])), (q_8, .inr (4, [.int kk, .int 0, .ref q_9, .int 0, .int (-1), .int 0]))] H := hP
                have hD : va_D A [(h0, .inr (8, [.ref a1, .ref a2, .ref a3, .ref a4, .ref a5, .ref a6, .ref a7, .ref a8, .ref a9, .int 0, .int 0, .int 0, .int 0])), (a9, .inr (10, [.int 0, .ref e0, .int 0])), (a1, .inr (7, [.ref f0, .int 0])), (f0, .inl (cF, 200, .inr (.inr (.inr (.inr (fun _ => none)))))), (q_6, .inr (1, [.int rr, .int ww, .int tt, .int (-1), .int (-1), .ref q_7, .ref q_8, .null])), (q_8, .inr (4, [.int kk, .int 0, .ref q_9, .int 0, .int (-1), .int 0]))] := hD
                refine lv_aload_n hx hb dX10_feature_113 rfl (lv_at hl 1 rfl) ?_
                have hPc := hP.sub (ws' := [(h0, .inr (8, [.ref a1, .ref a2, .ref a3, .ref a4, .ref a5, .ref a6, .ref a7, .ref a8, .ref a9, .int 0, .int 0, .int 0, .int 0])), (a9, .inr (10, [.int 0, .ref e0, .int 0]))]) [0, 1] rfl
                have hDc := hD.sub (ws' := [(h0, .inr (8, [.ref a1, .ref a2, .ref a3, .ref a4, .ref a5, .ref a6, .ref a7, .ref a8, .ref a9, .int 0, .int 0, .int 0, .int 0])), (a9, .inr (10, [.int 0, .ref e0, .int 0]))]) [0, 1] (by decide) rfl
                have hFc := va_free (wc := [(h0, .inr (8, [.ref a1, .ref a2, .ref a3, .ref a4, .ref a5, .ref a6, .ref a7, .ref a8, .ref a9, .int 0, .int 0, .int 0, .int 0])), (a9, .inr (10, [.int 0, .ref e0, .int 0]))]) hD hS hA [0, 1] rfl
                refine zcall (st1 := [.int 1]) (va_runV (As := []) (rest := []) ⟨hx, hb, hml, hown, hts⟩ (k_seal l dC dI cI cZ cF H.size h0 a1 a2 a3 a4 a5 a6 a7 a8 a9 e0 ) (cwV 0 hts (zz_gV mw_460 mw_462 mw_1 mw_99 mc_yX10_seal) rfl rfl rfl (by decide +kernel) ⟨Nat.le_of_ble_eq_true rfl, Nat.le_of_ble_eq_true rfl⟩) (zPV (q0 := 0) (ci := 8) hPc hDc hK rfl rfl) rfl rfl hl.1 rfl (lv_room (Nat.le_of_ble_eq_true rfl)) dX10_feature_114 ⟨Nat.le_of_ble_eq_true rfl, Nat.le_of_ble_eq_true rfl⟩) hS hFc hFc rfl (fun t H1 locs ht hB hk1 hS => ?_)
                obtain ⟨hP1, hD1⟩ := hB
                rw [ht] at hP1
                obtain ⟨hP, hD⟩ := va_join (wr := [(a1, .inr (7, [.ref f0, .int 0])), (f0, .inl (cF, 200, .inr (.inr (.inr (.inr (fun _ => none)))))), (q_6, .inr (1, [.int rr, .int ww, .int tt, .int (-1), .int (-1), .ref q_7, .ref q_8, .null])), (q_8, .inr (4, [.int kk, .int 0, .ref q_9, .int 0, .int (-1), .int 0]))]) (w1 := [(h0, .inr (8, [.ref a1, .ref a2, .ref a3, .ref a4, .ref a5, .ref a6, .ref a7, .ref a8, .ref a9, .int 0, .int 0, .int 0, .int 0])), (a9, .inr (10, [.int 0, .ref e0, .int 0]))]) hP hD [0, 1] [2, 3, 4, 5] rfl rfl (by decide) (by decide) hk1 hFc hP1 hD1
                clear hk1 hPc hDc hFc hP1 hD1 ht
                generalize H1 = H at hP hS ⊢
                have hP : va_P (dC, dI) classes [(a1, .inr (7, [.ref f0, .int 0])), (f0, .inl (cF, 200, .inr (.inr (.inr (.inr (fun _ => none)))))), (q_6, .inr (1, [.int rr, .int ww, .int tt, .int (-1), .int (-1), .ref q_7, .ref q_8, .null])), (q_8, .inr (4, [.int kk, .int 0, .ref q_9, .int 0, .int (-1), .int 0])), (h0, .inr (8, [.ref a1, .ref a2, .ref a3, .ref a4, .ref a5, .ref a6, .ref a7, .ref a8, .ref a9, .int 0, .int 0, .int 0, .int 0])), (a9, .inr (10, [.int 0, .ref e0, .int 0]))] H := hP
                have hD : va_D A [(a1, .inr (7, [.ref f0, .int 0])), (f0, .inl (cF, 200, .inr (.inr (.inr (.inr (fun _ => none)))))), (q_6, .inr (1, [.int rr, .int ww, .int tt, .int (-1), .int (-1), .ref q_7, .ref q_8, .null])), (q_8, .inr (4, [.int kk, .int 0, .ref q_9, .int 0, .int (-1), .int 0])), (h0, .inr (8, [.ref a1, .ref a2, .ref a3, .ref a4, .ref a5, .ref a6, .ref a7, .ref a8, .ref a9, .int 0, .int 0, .int 0, .int 0])), (a9, .inr (10, [.int 0, .ref e0, .int 0]))] := hD
                refine lv_pop hx hb dX10_feature_117 rfl ?_
                refine lv_aload_n hx hb dX10_feature_118 rfl (lv_at hl 1 rfl) ?_
                refine va_get (D := (dC, dI)) (ci := 8) (v := .ref a1) (C := RX10) (T := TX10) (N := 13) hx hb hts inX10 hown hK hP 4 rfl rfl 0 (by decide) (hts _ mw_309) (fun _ h9 => h9) rfl dX10_feature_119 ?_
                refine lv_aload hx hb dX10_feature_122 (lv_at hl 0 rfl) ?_
                have hPc := hP.sub (ws' := [(a1, .inr (7, [.ref f0, .int 0])), (f0, .inl (cF, 200, .inr (.inr (.inr (.inr (fun _ => none)))))), (q_6, .inr (1, [.int rr, .int ww, .int tt, .int (-1), .int (-1), .ref q_7, .ref q_8, .null]))]) [0, 1, 2] rfl
                have hDc := hD.sub (ws' := [(a1, .inr (7, [.ref f0, .int 0])), (f0, .inl (cF, 200, .inr (.inr (.inr (.inr (fun _ => none)))))), (q_6, .inr (1, [.int rr, .int ww, .int tt, .int (-1), .int (-1), .ref q_7, .ref q_8, .null]))]) [0, 1, 2] (by decide) rfl
                have hFc := va_free (wc := [(a1, .inr (7, [.ref f0, .int 0])), (f0, .inl (cF, 200, .inr (.inr (.inr (.inr (fun _ => none)))))), (q_6, .inr (1, [.int rr, .int ww, .int tt, .int (-1), .int (-1), .ref q_7, .ref q_8, .null]))]) hD hS hA [0, 1, 2] rfl
                refine zcall (st1 := [.int 0]) (va_runV (As := [.ref q_6]) (rest := []) ⟨hx, hb, hml, hown, hts⟩ (k_add l dC dI cI cZ cF H.size a1 f0 q_6 q_7 q_8 rr ww tt ) (cwV 1 hts (zz_gV mw_489 mw_490 mw_491 mw_100 mc_yX8_add) rfl rfl rfl (by decide +kernel) ⟨Nat.le_of_ble_eq_true rfl, Nat.le_of_ble_eq_true rfl⟩) (zPV (q0 := 0) (ci := 7) hPc hDc hK rfl rfl) rfl rfl hl.1 rfl (lv_room (Nat.le_of_ble_eq_true rfl)) dX10_feature_124 ⟨Nat.le_of_ble_eq_true rfl, Nat.le_of_ble_eq_true rfl⟩) hS hFc hFc rfl (fun t H1 locs ht hB hk1 hS => ?_)
                obtain ⟨hP1, hD1⟩ := hB
                rw [ht] at hP1
                obtain ⟨hP, hD⟩ := va_join (wr := [(q_8, .inr (4, [.int kk, .int 0, .ref q_9, .int 0, .int (-1), .int 0])), (h0, .inr (8, [.ref a1, .ref a2, .ref a3, .ref a4, .ref a5, .ref a6, .ref a7, .ref a8, .ref a9, .int 0, .int 0, .int 0, .int 0])), (a9, .inr (10, [.int 0, .ref e0, .int 0]))]) (w1 := []) hP hD [0, 1, 2] [3, 4, 5] rfl rfl (by decide) (by decide) hk1 hFc hP1 hD1
                clear hk1 hPc hDc hFc hP1 hD1 ht
                generalize H1 = H at hP hS ⊢
                have hP : va_P (dC, dI) classes [(q_8, .inr (4, [.int kk, .int 0, .ref q_9, .int 0, .int (-1), .int 0])), (h0, .inr (8, [.ref a1, .ref a2, .ref a3, .ref a4, .ref a5, .ref a6, .ref a7, .ref a8, .ref a9, .int 0, .int 0, .int 0, .int 0])), (a9, .inr (10, [.int 0, .ref e0, .int 0]))] H := hP
                have hD : va_D A [(q_8, .inr (4, [.int kk, .int 0, .ref q_9, .int 0, .int (-1), .int 0])), (h0, .inr (8, [.ref a1, .ref a2, .ref a3, .ref a4, .ref a5, .ref a6, .ref a7, .ref a8, .ref a9, .int 0, .int 0, .int 0, .int 0])), (a9, .inr (10, [.int 0, .ref e0, .int 0]))] := hD
                refine W.widen (k := 8) (n := 182) (by decide) (by decide) ?_
                have hP9 := hP.sub (ws' := []) [] rfl
                have hD9 := hD.sub (ws' := []) [] (by decide) rfl
                exact W.iret (v := 0) hx hb hr (fun t ht hW => ⟨⟨(congrArg (fun z => Outcome.returned (some (Value.int z))) (show (0 : Int32) = (zft kk rr ww tt) from by simp [zft, c_1, c_2, c_3, c_4, c_5, c_12])), by rw [ht]; exact hP9, hD9⟩, hS.F ht⟩) hS.2.2 dX10_feature_127
          · exact absurd (by decide) c_5
        · refine lv_aload_n hx hb dX10_feature_47 rfl (lv_at hl 0 rfl) ?_
          refine lv_iconst (v := 4) hx hb dX10_feature_48 (by decide) ?_
          have hPc := hP.sub (ws' := [(h0, .inr (8, [.ref a1, .ref a2, .ref a3, .ref a4, .ref a5, .ref a6, .ref a7, .ref a8, .ref a9, .int 0, .int 0, .int 0, .int 0]))]) [0] rfl
          have hDc := hD.sub (ws' := [(h0, .inr (8, [.ref a1, .ref a2, .ref a3, .ref a4, .ref a5, .ref a6, .ref a7, .ref a8, .ref a9, .int 0, .int 0, .int 0, .int 0]))]) [0] (by decide) rfl
          have hFc := va_free (wc := [(h0, .inr (8, [.ref a1, .ref a2, .ref a3, .ref a4, .ref a5, .ref a6, .ref a7, .ref a8, .ref a9, .int 0, .int 0, .int 0, .int 0]))]) hD hS hA [0] rfl
          refine zcall (st1 := [.int (-1)]) (va_runV (As := [.int 4]) (rest := []) ⟨hx, hb, hml, hown, hts⟩ (k_refuse l dC dI cI cZ cF H.size h0 a1 a2 a3 a4 a5 a6 a7 a8 a9 4 (by decide)) (cwV 1 hts (zz_gV mw_356 mw_358 mw_0 mw_99 mc_yX10_refuse) rfl rfl rfl (by decide +kernel) ⟨Nat.le_of_ble_eq_true rfl, Nat.le_of_ble_eq_true rfl⟩) (zPV (q0 := 0) (ci := 8) hPc hDc hK rfl rfl) rfl rfl hl.1 rfl (lv_room (Nat.le_of_ble_eq_true rfl)) dX10_feature_49 ⟨Nat.le_of_ble_eq_true rfl, Nat.le_of_ble_eq_true rfl⟩) hS hFc hFc rfl (fun t H1 locs ht hB hk1 hS => ?_)
          obtain ⟨hP1, hD1⟩ := hB
          rw [ht] at hP1
          obtain ⟨hP, hD⟩ := va_join (wr := [(a1, .inr (7, [.ref f0, .int 0])), (f0, .inl (cF, 200, .inr (.inr (.inr (.inr (fun _ => none)))))), (a9, .inr (10, [.int 0, .ref e0, .int 0]))]) (w1 := [(h0, .inr (8, [.ref a1, .ref a2, .ref a3, .ref a4, .ref a5, .ref a6, .ref a7, .ref a8, .ref a9, .int 0, .int 0, .int 0, .int 4]))]) hP hD [0] [1, 2, 3] rfl rfl (by decide) (by decide) hk1 hFc hP1 hD1
          clear hk1 hPc hDc hFc hP1 hD1 ht
          generalize H1 = H at hP hS ⊢
          have hP : va_P (dC, dI) classes [(a1, .inr (7, [.ref f0, .int 0])), (f0, .inl (cF, 200, .inr (.inr (.inr (.inr (fun _ => none)))))), (a9, .inr (10, [.int 0, .ref e0, .int 0])), (h0, .inr (8, [.ref a1, .ref a2, .ref a3, .ref a4, .ref a5, .ref a6, .ref a7, .ref a8, .ref a9, .int 0, .int 0, .int 0, .int 4]))] H := hP
          have hD : va_D A [(a1, .inr (7, [.ref f0, .int 0])), (f0, .inl (cF, 200, .inr (.inr (.inr (.inr (fun _ => none)))))), (a9, .inr (10, [.int 0, .ref e0, .int 0])), (h0, .inr (8, [.ref a1, .ref a2, .ref a3, .ref a4, .ref a5, .ref a6, .ref a7, .ref a8, .ref a9, .int 0, .int 0, .int 0, .int 4]))] := hD
          refine W.widen (k := 8) (n := 182) (by decide) (by decide) ?_
          have hP9 := hP.sub (ws' := []) [] rfl
          have hD9 := hD.sub (ws' := []) [] (by decide) rfl
          exact W.iret (v := (-1)) hx hb hr (fun t ht hW => ⟨⟨(congrArg (fun z => Outcome.returned (some (Value.int z))) (show ((-1) : Int32) = (zft kk rr ww tt) from by simp [zft, c_1, c_2, c_3, c_4])), by rw [ht]; exact hP9, hD9⟩, hS.F ht⟩) hS.2.2 dX10_feature_52
    · refine lv_aload_n hx hb dX10_feature_20 rfl (lv_at hl 0 rfl) ?_
      refine lv_iconst (v := 4) hx hb dX10_feature_21 (by decide) ?_
      have hPc := hP.sub (ws' := [(h0, .inr (8, [.ref a1, .ref a2, .ref a3, .ref a4, .ref a5, .ref a6, .ref a7, .ref a8, .ref a9, .int 0, .int 0, .int 0, .int 0]))]) [0] rfl
      have hDc := hD.sub (ws' := [(h0, .inr (8, [.ref a1, .ref a2, .ref a3, .ref a4, .ref a5, .ref a6, .ref a7, .ref a8, .ref a9, .int 0, .int 0, .int 0, .int 0]))]) [0] (by decide) rfl
      have hFc := va_free (wc := [(h0, .inr (8, [.ref a1, .ref a2, .ref a3, .ref a4, .ref a5, .ref a6, .ref a7, .ref a8, .ref a9, .int 0, .int 0, .int 0, .int 0]))]) hD hS hA [0] rfl
      refine zcall (st1 := [.int (-1)]) (va_runV (As := [.int 4]) (rest := []) ⟨hx, hb, hml, hown, hts⟩ (k_refuse l dC dI cI cZ cF H.size h0 a1 a2 a3 a4 a5 a6 a7 a8 a9 4 (by decide)) (cwV 1 hts (zz_gV mw_356 mw_358 mw_0 mw_99 mc_yX10_refuse) rfl rfl rfl (by decide +kernel) ⟨Nat.le_of_ble_eq_true rfl, Nat.le_of_ble_eq_true rfl⟩) (zPV (q0 := 0) (ci := 8) hPc hDc hK rfl rfl) rfl rfl hl.1 rfl (lv_room (Nat.le_of_ble_eq_true rfl)) dX10_feature_22 ⟨Nat.le_of_ble_eq_true rfl, Nat.le_of_ble_eq_true rfl⟩) hS hFc hFc rfl (fun t H1 locs ht hB hk1 hS => ?_)
      obtain ⟨hP1, hD1⟩ := hB
      rw [ht] at hP1
      obtain ⟨hP, hD⟩ := va_join (wr := [(a1, .inr (7, [.ref f0, .int 0])), (f0, .inl (cF, 200, .inr (.inr (.inr (.inr (fun _ => none)))))), (a9, .inr (10, [.int 0, .ref e0, .int 0]))]) (w1 := [(h0, .inr (8, [.ref a1, .ref a2, .ref a3, .ref a4, .ref a5, .ref a6, .ref a7, .ref a8, .ref a9, .int 0, .int 0, .int 0, .int 4]))]) hP hD [0] [1, 2, 3] rfl rfl (by decide) (by decide) hk1 hFc hP1 hD1
      clear hk1 hPc hDc hFc hP1 hD1 ht
      generalize H1 = H at hP hS ⊢
      have hP : va_P (dC, dI) classes [(a1, .inr (7, [.ref f0, .int 0])), (f0, .inl (cF, 200, .inr (.inr (.inr (.inr (fun _ => none)))))), (a9, .inr (10, [.int 0, .ref e0, .int 0])), (h0, .inr (8, [.ref a1, .ref a2, .ref a3, .ref a4, .ref a5, .ref a6, .ref a7, .ref a8, .ref a9, .int 0, .int 0, .int 0, .int 4]))] H := hP
      have hD : va_D A [(a1, .inr (7, [.ref f0, .int 0])), (f0, .inl (cF, 200, .inr (.inr (.inr (.inr (fun _ => none)))))), (a9, .inr (10, [.int 0, .ref e0, .int 0])), (h0, .inr (8, [.ref a1, .ref a2, .ref a3, .ref a4, .ref a5, .ref a6, .ref a7, .ref a8, .ref a9, .int 0, .int 0, .int 0, .int 4]))] := hD
      refine W.widen (k := 8) (n := 182) (by decide) (by decide) ?_
      have hP9 := hP.sub (ws' := []) [] rfl
      have hD9 := hD.sub (ws' := []) [] (by decide) rfl
      exact W.iret (v := (-1)) hx hb hr (fun t ht hW => ⟨⟨(congrArg (fun z => Outcome.returned (some (Value.int z))) (show ((-1) : Int32) = (zft kk rr ww tt) from by simp [zft, c_1, c_2])), by rw [ht]; exact hP9, hD9⟩, hS.F ht⟩) hS.2.2 dX10_feature_25
set_option maxHeartbeats 4000000 in
set_option maxRecDepth 100000 in
theorem k_x_corner (l : Launch) (dC : Nat → ClassId) (dI : Nat → Nat → Nat) (cI cZ cF : ClassId) (sz : Nat) (h0 : Nat) (a1 : Nat) (a2 : Nat) (a3 : Nat) (a4 : Nat) (a5 : Nat) (a6 : Nat) (a7 : Nat) (a8 : Nat) (a9 : Nat) (f0 : Nat) (i1 : Int32) (i2 : Int32) (i3 : Int32) : Met l yX10_corner (.code yX10_corner cX10_corner 6 (some .int) :: ws0) ({ frames := 1, cells := 0, slots := 0, locals := 21 }) (va_Pc [.ref h0, .int i1, .int i2, .int i3] (zPre (dC, dI) classes (zTy cI cZ cF) [(h0, .inr (8, [.ref a1, .ref a2, .ref a3, .ref a4, .ref a5, .ref a6, .ref a7, .ref a8, .ref a9, .int 0, .int 0, .int 0, .int 0])), (a1, .inr (7, [.ref f0, .int 0]))] sz zTrue)) (zQ (some (.int (-1))) (fun t => va_P (dC, dI) classes [] t.heap ∧ va_D (va_A [(h0, .inr (8, [.ref a1, .ref a2, .ref a3, .ref a4, .ref a5, .ref a6, .ref a7, .ref a8, .ref a9, .int 0, .int 0, .int 0, .int 0])), (a1, .inr (7, [.ref f0, .int 0]))] sz) []) (va_A [(h0, .inr (8, [.ref a1, .ref a2, .ref a3, .ref a4, .ref a5, .ref a6, .ref a7, .ref a8, .ref a9, .int 0, .int 0, .int 0, .int 0])), (a1, .inr (7, [.ref f0, .int 0]))] sz)) 0 0 (va_A [(h0, .inr (8, [.ref a1, .ref a2, .ref a3, .ref a4, .ref a5, .ref a6, .ref a7, .ref a8, .ref a9, .int 0, .int 0, .int 0, .int 0])), (a1, .inr (7, [.ref f0, .int 0]))] sz) := by
  refine Met.ofW (cc := cX10_corner) (maxL := 6) (ret := (some .int)) (by decide) rfl ?_
  intro p e s m args below meth c s₁ B hml hv
  obtain ⟨rfl, hsz, hP, hK, hD0, hXX⟩ := hv
  have hx := B.exec
  have hb := B.bytes
  have hr := B.returns
  have hts0 := atoms_spec (ws := .code yX10_corner cX10_corner 6 (some .int) :: ws0) B.pre
  have hts : ∀ w9 ∈ ws0, w9.before ([.ref h0, .int i1, .int i2, .int i3] : List Value).toArray s = true := fun w9 h => hts0 w9 (List.mem_cons_of_mem _ h)
  have hown : s.vm.findClass "ScaleShop" = some m.cls := findClass_of_methodNamed B.named
  have hlocks := B.notSynchronized
  subst hsz
  have hD := hD0.self (sz := s.heap.size)
  generalize hAe : va_A [(h0, .inr (8, [.ref a1, .ref a2, .ref a3, .ref a4, .ref a5, .ref a6, .ref a7, .ref a8, .ref a9, .int 0, .int 0, .int 0, .int 0])), (a1, .inr (7, [.ref f0, .int 0]))] s.heap.size = A at hD ⊢
  have hA : ∀ q : Nat, s.heap.size ≤ q → A q := fun q h => by rw [← hAe]; exact Or.inr h
  have hS : va_S A s.heap s.heap [] := va_S.rf
  have hP : va_P (dC, dI) classes [(h0, .inr (8, [.ref a1, .ref a2, .ref a3, .ref a4, .ref a5, .ref a6, .ref a7, .ref a8, .ref a9, .int 0, .int 0, .int 0, .int 0])), (a1, .inr (7, [.ref f0, .int 0]))] s.heap := hP
  have hl := lv_entry ([.ref h0, .int i1, .int i2, .int i3]) (n := 6) (Nat.le_of_ble_eq_true rfl)
  rw [lg_entry_eq]
  generalize (lg_sl ([.ref h0, .int i1, .int i2, .int i3]) ++ List.replicate (6 - (lg_sl ([.ref h0, .int i1, .int i2, .int i3])).length) Slot.unset).toArray = ls at hl ⊢
  have hl : lv_has ls 6 [(0, .ref h0), (1, .int i1), (2, .int i2), (3, .int i3)] := hl
  refine lv_aload_n hx hb dX10_corner_0 rfl (lv_at hl 0 rfl) ?_
  refine va_get (D := (dC, dI)) (ci := 8) (v := .ref a1) (C := RX10) (T := TX10) (N := 13) hx hb hts inX10 hown hK hP 0 rfl rfl 0 (by decide) (hts _ mw_309) (fun _ h9 => h9) rfl dX10_corner_1 ?_
  refine lv_iload_n hx hb dX10_corner_4 rfl (lv_at hl 1 rfl) ?_
  have hPc := hP.sub (ws' := [(a1, .inr (7, [.ref f0, .int 0]))]) [1] rfl
  have hDc := hD.sub (ws' := [(a1, .inr (7, [.ref f0, .int 0]))]) [1] (by decide) rfl
  have hFc := va_free (wc := [(a1, .inr (7, [.ref f0, .int 0]))]) hD hS hA [1] rfl
  refine zcall (st1 := [.null]) (va_runV (As := [.int i1]) (rest := []) ⟨hx, hb, hml, hown, hts⟩ (k_find l dC dI cI cZ cF s.heap.size a1 f0 i1 ) (cwV 1 hts (zz_gV mw_498 mw_499 mw_500 mw_100 mc_yX8_find) rfl rfl rfl (by decide +kernel) ⟨Nat.le_of_ble_eq_true rfl, Nat.le_of_ble_eq_true rfl⟩) (zPV (q0 := 0) (ci := 7) hPc hDc hK rfl rfl) rfl rfl hl.1 rfl (lv_room (Nat.le_of_ble_eq_true rfl)) dX10_corner_5 ⟨Nat.le_of_ble_eq_true rfl, Nat.le_of_ble_eq_true rfl⟩) hS hFc hFc rfl (fun t H1 locs ht hB hk1 hS => ?_)
  obtain ⟨hP1, hD1⟩ := hB
  rw [ht] at hP1
  obtain ⟨hP, hD⟩ := va_join (wr := [(h0, .inr (8, [.ref a1, .ref a2, .ref a3, .ref a4, .ref a5, .ref a6, .ref a7, .ref a8, .ref a9, .int 0, .int 0, .int 0, .int 0]))]) (w1 := [(a1, .inr (7, [.ref f0, .int 0]))]) hP hD [1] [0] rfl rfl (by decide) (by decide) hk1 hFc hP1 hD1
  clear hk1 hPc hDc hFc hP1 hD1 ht
  generalize H1 = H at hP hS ⊢
  have hP : va_P (dC, dI) classes [(h0, .inr (8, [.ref a1, .ref a2, .ref a3, .ref a4, .ref a5, .ref a6, .ref a7, .ref a8, .ref a9, .int 0, .int 0, .int 0, .int 0])), (a1, .inr (7, [.ref f0, .int 0]))] H := hP
  have hD : va_D A [(h0, .inr (8, [.ref a1, .ref a2, .ref a3, .ref a4, .ref a5, .ref a6, .ref a7, .ref a8, .ref a9, .int 0, .int 0, .int 0, .int 0])), (a1, .inr (7, [.ref f0, .int 0]))] := hD
  refine lv_astoreN (lv' := [(4, .null), (0, .ref h0), (1, .int i1), (2, .int i2), (3, .int i3)]) hx hb dX10_corner_8 hl (by decide) rfl (fun ls hl => ?_)
  refine lv_aloadN hx hb dX10_corner_10 (lv_at hl 0 rfl) ?_
  refine lv_ifnonnullN hx hb dX10_corner_12 ?_
  refine lv_aload_n hx hb dX10_corner_15 rfl (lv_at hl 1 rfl) ?_
  refine lv_iconst (v := 1) hx hb dX10_corner_16 (by decide) ?_
  have hPc := hP.sub (ws' := [(h0, .inr (8, [.ref a1, .ref a2, .ref a3, .ref a4, .ref a5, .ref a6, .ref a7, .ref a8, .ref a9, .int 0, .int 0, .int 0, .int 0]))]) [0] rfl
  have hDc := hD.sub (ws' := [(h0, .inr (8, [.ref a1, .ref a2, .ref a3, .ref a4, .ref a5, .ref a6, .ref a7, .ref a8, .ref a9, .int 0, .int 0, .int 0, .int 0]))]) [0] (by decide) rfl
  have hFc := va_free (wc := [(h0, .inr (8, [.ref a1, .ref a2, .ref a3, .ref a4, .ref a5, .ref a6, .ref a7, .ref a8, .ref a9, .int 0, .int 0, .int 0, .int 0]))]) hD hS hA [0] rfl
  refine zcall (st1 := [.int (-1)]) (va_runV (As := [.int 1]) (rest := []) ⟨hx, hb, hml, hown, hts⟩ (k_refuse l dC dI cI cZ cF H.size h0 a1 a2 a3 a4 a5 a6 a7 a8 a9 1 (by decide)) (cwV 1 hts (zz_gV mw_356 mw_358 mw_0 mw_99 mc_yX10_refuse) rfl rfl rfl (by decide +kernel) ⟨Nat.le_of_ble_eq_true rfl, Nat.le_of_ble_eq_true rfl⟩) (zPV (q0 := 0) (ci := 8) hPc hDc hK rfl rfl) rfl rfl hl.1 rfl (lv_room (Nat.le_of_ble_eq_true rfl)) dX10_corner_17 ⟨Nat.le_of_ble_eq_true rfl, Nat.le_of_ble_eq_true rfl⟩) hS hFc hFc rfl (fun t H1 locs ht hB hk1 hS => ?_)
  obtain ⟨hP1, hD1⟩ := hB
  rw [ht] at hP1
  obtain ⟨hP, hD⟩ := va_join (wr := [(a1, .inr (7, [.ref f0, .int 0]))]) (w1 := [(h0, .inr (8, [.ref a1, .ref a2, .ref a3, .ref a4, .ref a5, .ref a6, .ref a7, .ref a8, .ref a9, .int 0, .int 0, .int 0, .int 1]))]) hP hD [0] [1] rfl rfl (by decide) (by decide) hk1 hFc hP1 hD1
  clear hk1 hPc hDc hFc hP1 hD1 ht
  generalize H1 = H at hP hS ⊢
  have hP : va_P (dC, dI) classes [(a1, .inr (7, [.ref f0, .int 0])), (h0, .inr (8, [.ref a1, .ref a2, .ref a3, .ref a4, .ref a5, .ref a6, .ref a7, .ref a8, .ref a9, .int 0, .int 0, .int 0, .int 1]))] H := hP
  have hD : va_D A [(a1, .inr (7, [.ref f0, .int 0])), (h0, .inr (8, [.ref a1, .ref a2, .ref a3, .ref a4, .ref a5, .ref a6, .ref a7, .ref a8, .ref a9, .int 0, .int 0, .int 0, .int 1]))] := hD
  refine W.widen (k := 0) (n := 0) (by decide) (by decide) ?_
  have hP9 := hP.sub (ws' := []) [] rfl
  have hD9 := hD.sub (ws' := []) [] (by decide) rfl
  exact W.iret (v := (-1)) hx hb hr (fun t ht hW => ⟨⟨rfl, by rw [ht]; exact hP9, hD9⟩, hS.F ht⟩) hS.2.2 dX10_corner_20
set_option maxHeartbeats 4000000 in
set_option maxRecDepth 100000 in
theorem k_x_tear (l : Launch) (dC : Nat → ClassId) (dI : Nat → Nat → Nat) (cI cZ cF : ClassId) (sz : Nat) (h0 : Nat) (a1 : Nat) (a2 : Nat) (a3 : Nat) (a4 : Nat) (a5 : Nat) (a6 : Nat) (a7 : Nat) (a8 : Nat) (a9 : Nat) (f0 : Nat) (i1 : Int32) : Met l yX10_tear (.code yX10_tear cX10_tear 3 (some .boolean) :: ws0) ({ frames := 2, cells := 0, slots := 0, locals := 42 }) (va_Pc [.ref h0, .int i1] (zPre (dC, dI) classes (zTy cI cZ cF) [(h0, .inr (8, [.ref a1, .ref a2, .ref a3, .ref a4, .ref a5, .ref a6, .ref a7, .ref a8, .ref a9, .int 0, .int 0, .int 0, .int 0])), (a1, .inr (7, [.ref f0, .int 0]))] sz zTrue)) (zQ (some (.int 0)) (fun t => va_P (dC, dI) classes [] t.heap ∧ va_D (va_A [(h0, .inr (8, [.ref a1, .ref a2, .ref a3, .ref a4, .ref a5, .ref a6, .ref a7, .ref a8, .ref a9, .int 0, .int 0, .int 0, .int 0])), (a1, .inr (7, [.ref f0, .int 0]))] sz) []) (va_A [(h0, .inr (8, [.ref a1, .ref a2, .ref a3, .ref a4, .ref a5, .ref a6, .ref a7, .ref a8, .ref a9, .int 0, .int 0, .int 0, .int 0])), (a1, .inr (7, [.ref f0, .int 0]))] sz)) 0 0 (va_A [(h0, .inr (8, [.ref a1, .ref a2, .ref a3, .ref a4, .ref a5, .ref a6, .ref a7, .ref a8, .ref a9, .int 0, .int 0, .int 0, .int 0])), (a1, .inr (7, [.ref f0, .int 0]))] sz) := by
  refine Met.ofW (cc := cX10_tear) (maxL := 3) (ret := (some .boolean)) (by decide) rfl ?_
  intro p e s m args below meth c s₁ B hml hv
  obtain ⟨rfl, hsz, hP, hK, hD0, hXX⟩ := hv
  have hx := B.exec
  have hb := B.bytes
  have hr := B.returns
  have hts0 := atoms_spec (ws := .code yX10_tear cX10_tear 3 (some .boolean) :: ws0) B.pre
  have hts : ∀ w9 ∈ ws0, w9.before ([.ref h0, .int i1] : List Value).toArray s = true := fun w9 h => hts0 w9 (List.mem_cons_of_mem _ h)
  have hown : s.vm.findClass "ScaleShop" = some m.cls := findClass_of_methodNamed B.named
  have hlocks := B.notSynchronized
  subst hsz
  have hD := hD0.self (sz := s.heap.size)
  generalize hAe : va_A [(h0, .inr (8, [.ref a1, .ref a2, .ref a3, .ref a4, .ref a5, .ref a6, .ref a7, .ref a8, .ref a9, .int 0, .int 0, .int 0, .int 0])), (a1, .inr (7, [.ref f0, .int 0]))] s.heap.size = A at hD ⊢
  have hA : ∀ q : Nat, s.heap.size ≤ q → A q := fun q h => by rw [← hAe]; exact Or.inr h
  have hS : va_S A s.heap s.heap [] := va_S.rf
  have hP : va_P (dC, dI) classes [(h0, .inr (8, [.ref a1, .ref a2, .ref a3, .ref a4, .ref a5, .ref a6, .ref a7, .ref a8, .ref a9, .int 0, .int 0, .int 0, .int 0])), (a1, .inr (7, [.ref f0, .int 0]))] s.heap := hP
  have hl := lv_entry ([.ref h0, .int i1]) (n := 3) (Nat.le_of_ble_eq_true rfl)
  rw [lg_entry_eq]
  generalize (lg_sl ([.ref h0, .int i1]) ++ List.replicate (3 - (lg_sl ([.ref h0, .int i1])).length) Slot.unset).toArray = ls at hl ⊢
  have hl : lv_has ls 3 [(0, .ref h0), (1, .int i1)] := hl
  refine lv_aload_n hx hb dX10_tear_0 rfl (lv_at hl 0 rfl) ?_
  refine va_get (D := (dC, dI)) (ci := 8) (v := .ref a1) (C := RX10) (T := TX10) (N := 13) hx hb hts inX10 hown hK hP 0 rfl rfl 0 (by decide) (hts _ mw_309) (fun _ h9 => h9) rfl dX10_tear_1 ?_
  refine lv_iload_n hx hb dX10_tear_4 rfl (lv_at hl 1 rfl) ?_
  have hPc := hP.sub (ws' := [(a1, .inr (7, [.ref f0, .int 0]))]) [1] rfl
  have hDc := hD.sub (ws' := [(a1, .inr (7, [.ref f0, .int 0]))]) [1] (by decide) rfl
  have hFc := va_free (wc := [(a1, .inr (7, [.ref f0, .int 0]))]) hD hS hA [1] rfl
  refine zcall (st1 := [.null]) (va_runV (As := [.int i1]) (rest := []) ⟨hx, hb, hml, hown, hts⟩ (k_find l dC dI cI cZ cF s.heap.size a1 f0 i1 ) (cwV 1 hts (zz_gV mw_498 mw_499 mw_500 mw_100 mc_yX8_find) rfl rfl rfl (by decide +kernel) ⟨Nat.le_of_ble_eq_true rfl, Nat.le_of_ble_eq_true rfl⟩) (zPV (q0 := 0) (ci := 7) hPc hDc hK rfl rfl) rfl rfl hl.1 rfl (lv_room (Nat.le_of_ble_eq_true rfl)) dX10_tear_5 ⟨Nat.le_of_ble_eq_true rfl, Nat.le_of_ble_eq_true rfl⟩) hS hFc hFc rfl (fun t H1 locs ht hB hk1 hS => ?_)
  obtain ⟨hP1, hD1⟩ := hB
  rw [ht] at hP1
  obtain ⟨hP, hD⟩ := va_join (wr := [(h0, .inr (8, [.ref a1, .ref a2, .ref a3, .ref a4, .ref a5, .ref a6, .ref a7, .ref a8, .ref a9, .int 0, .int 0, .int 0, .int 0]))]) (w1 := [(a1, .inr (7, [.ref f0, .int 0]))]) hP hD [1] [0] rfl rfl (by decide) (by decide) hk1 hFc hP1 hD1
  clear hk1 hPc hDc hFc hP1 hD1 ht
  generalize H1 = H at hP hS ⊢
  have hP : va_P (dC, dI) classes [(h0, .inr (8, [.ref a1, .ref a2, .ref a3, .ref a4, .ref a5, .ref a6, .ref a7, .ref a8, .ref a9, .int 0, .int 0, .int 0, .int 0])), (a1, .inr (7, [.ref f0, .int 0]))] H := hP
  have hD : va_D A [(h0, .inr (8, [.ref a1, .ref a2, .ref a3, .ref a4, .ref a5, .ref a6, .ref a7, .ref a8, .ref a9, .int 0, .int 0, .int 0, .int 0])), (a1, .inr (7, [.ref f0, .int 0]))] := hD
  refine lv_astore_nN (lv' := [(2, .null), (0, .ref h0), (1, .int i1)]) hx hb dX10_tear_8 rfl hl (by decide) rfl (fun ls hl => ?_)
  refine lv_aload_nN hx hb dX10_tear_9 rfl (lv_at hl 0 rfl) ?_
  refine lv_ifnonnullN hx hb dX10_tear_10 ?_
  refine lv_aload_n hx hb dX10_tear_13 rfl (lv_at hl 1 rfl) ?_
  refine lv_iconst (v := 1) hx hb dX10_tear_14 (by decide) ?_
  have hPc := hP.sub (ws' := [(h0, .inr (8, [.ref a1, .ref a2, .ref a3, .ref a4, .ref a5, .ref a6, .ref a7, .ref a8, .ref a9, .int 0, .int 0, .int 0, .int 0]))]) [0] rfl
  have hDc := hD.sub (ws' := [(h0, .inr (8, [.ref a1, .ref a2, .ref a3, .ref a4, .ref a5, .ref a6, .ref a7, .ref a8, .ref a9, .int 0, .int 0, .int 0, .int 0]))]) [0] (by decide) rfl
  have hFc := va_free (wc := [(h0, .inr (8, [.ref a1, .ref a2, .ref a3, .ref a4, .ref a5, .ref a6, .ref a7, .ref a8, .ref a9, .int 0, .int 0, .int 0, .int 0]))]) hD hS hA [0] rfl
  refine zcall (st1 := [.int 0]) (va_runV (As := [.int 1]) (rest := []) ⟨hx, hb, hml, hown, hts⟩ (k_deny l dC dI cI cZ cF H.size h0 a1 a2 a3 a4 a5 a6 a7 a8 a9 1 (by decide)) (cwV 1 hts (zz_gV mw_513 mw_515 mw_4 mw_99 mc_yX10_deny) rfl rfl rfl (by decide +kernel) ⟨Nat.le_of_ble_eq_true rfl, Nat.le_of_ble_eq_true rfl⟩) (zPV (q0 := 0) (ci := 8) hPc hDc hK rfl rfl) rfl rfl hl.1 rfl (lv_room (Nat.le_of_ble_eq_true rfl)) dX10_tear_15 ⟨Nat.le_of_ble_eq_true rfl, Nat.le_of_ble_eq_true rfl⟩) hS hFc hFc rfl (fun t H1 locs ht hB hk1 hS => ?_)
  obtain ⟨hP1, hD1⟩ := hB
  rw [ht] at hP1
  obtain ⟨hP, hD⟩ := va_join (wr := [(a1, .inr (7, [.ref f0, .int 0]))]) (w1 := [(h0, .inr (8, [.ref a1, .ref a2, .ref a3, .ref a4, .ref a5, .ref a6, .ref a7, .ref a8, .ref a9, .int 0, .int 0, .int 0, .int 1]))]) hP hD [0] [1] rfl rfl (by decide) (by decide) hk1 hFc hP1 hD1
  clear hk1 hPc hDc hFc hP1 hD1 ht
  generalize H1 = H at hP hS ⊢
  have hP : va_P (dC, dI) classes [(a1, .inr (7, [.ref f0, .int 0])), (h0, .inr (8, [.ref a1, .ref a2, .ref a3, .ref a4, .ref a5, .ref a6, .ref a7, .ref a8, .ref a9, .int 0, .int 0, .int 0, .int 1]))] H := hP
  have hD : va_D A [(a1, .inr (7, [.ref f0, .int 0])), (h0, .inr (8, [.ref a1, .ref a2, .ref a3, .ref a4, .ref a5, .ref a6, .ref a7, .ref a8, .ref a9, .int 0, .int 0, .int 0, .int 1]))] := hD
  refine W.widen (k := 0) (n := 0) (by decide) (by decide) ?_
  have hP9 := hP.sub (ws' := []) [] rfl
  have hD9 := hD.sub (ws' := []) [] (by decide) rfl
  exact W.zret (ty := .boolean) (v := 0) hx hb hr rfl (fun t ht hW => ⟨⟨rfl, by rw [ht]; exact hP9, hD9⟩, hS.F ht⟩) hS.2.2 dX10_tear_18
set_option maxHeartbeats 4000000 in
set_option maxRecDepth 100000 in
theorem k_x_done (l : Launch) (dC : Nat → ClassId) (dI : Nat → Nat → Nat) (cI cZ cF : ClassId) (sz : Nat) (h0 : Nat) (a1 : Nat) (a2 : Nat) (a3 : Nat) (a4 : Nat) (a5 : Nat) (a6 : Nat) (a7 : Nat) (a8 : Nat) (a9 : Nat) (f0 : Nat) (i1 : Int32) : Met l yX10_done (.code yX10_done cX10_done 4 (some .boolean) :: ws0) ({ frames := 2, cells := 0, slots := 0, locals := 42 }) (va_Pc [.ref h0, .int i1] (zPre (dC, dI) classes (zTy cI cZ cF) [(h0, .inr (8, [.ref a1, .ref a2, .ref a3, .ref a4, .ref a5, .ref a6, .ref a7, .ref a8, .ref a9, .int 0, .int 0, .int 0, .int 0])), (a1, .inr (7, [.ref f0, .int 0]))] sz zTrue)) (zQ (some (.int 0)) (fun t => va_P (dC, dI) classes [] t.heap ∧ va_D (va_A [(h0, .inr (8, [.ref a1, .ref a2, .ref a3, .ref a4, .ref a5, .ref a6, .ref a7, .ref a8, .ref a9, .int 0, .int 0, .int 0, .int 0])), (a1, .inr (7, [.ref f0, .int 0]))] sz) []) (va_A [(h0, .inr (8, [.ref a1, .ref a2, .ref a3, .ref a4, .ref a5, .ref a6, .ref a7, .ref a8, .ref a9, .int 0, .int 0, .int 0, .int 0])), (a1, .inr (7, [.ref f0, .int 0]))] sz)) 0 0 (va_A [(h0, .inr (8, [.ref a1, .ref a2, .ref a3, .ref a4, .ref a5, .ref a6, .ref a7, .ref a8, .ref a9, .int 0, .int 0, .int 0, .int 0])), (a1, .inr (7, [.ref f0, .int 0]))] sz) := by
  refine Met.ofW (cc := cX10_done) (maxL := 4) (ret := (some .boolean)) (by decide) rfl ?_
  intro p e s m args below meth c s₁ B hml hv
  obtain ⟨rfl, hsz, hP, hK, hD0, hXX⟩ := hv
  have hx := B.exec
  have hb := B.bytes
  have hr := B.returns
  have hts0 := atoms_spec (ws := .code yX10_done cX10_done 4 (some .boolean) :: ws0) B.pre
  have hts : ∀ w9 ∈ ws0, w9.before ([.ref h0, .int i1] : List Value).toArray s = true := fun w9 h => hts0 w9 (List.mem_cons_of_mem _ h)
  have hown : s.vm.findClass "ScaleShop" = some m.cls := findClass_of_methodNamed B.named
  have hlocks := B.notSynchronized
  subst hsz
  have hD := hD0.self (sz := s.heap.size)
  generalize hAe : va_A [(h0, .inr (8, [.ref a1, .ref a2, .ref a3, .ref a4, .ref a5, .ref a6, .ref a7, .ref a8, .ref a9, .int 0, .int 0, .int 0, .int 0])), (a1, .inr (7, [.ref f0, .int 0]))] s.heap.size = A at hD ⊢
  have hA : ∀ q : Nat, s.heap.size ≤ q → A q := fun q h => by rw [← hAe]; exact Or.inr h
  have hS : va_S A s.heap s.heap [] := va_S.rf
  have hP : va_P (dC, dI) classes [(h0, .inr (8, [.ref a1, .ref a2, .ref a3, .ref a4, .ref a5, .ref a6, .ref a7, .ref a8, .ref a9, .int 0, .int 0, .int 0, .int 0])), (a1, .inr (7, [.ref f0, .int 0]))] s.heap := hP
  have hl := lv_entry ([.ref h0, .int i1]) (n := 4) (Nat.le_of_ble_eq_true rfl)
  rw [lg_entry_eq]
  generalize (lg_sl ([.ref h0, .int i1]) ++ List.replicate (4 - (lg_sl ([.ref h0, .int i1])).length) Slot.unset).toArray = ls at hl ⊢
  have hl : lv_has ls 4 [(0, .ref h0), (1, .int i1)] := hl
  refine lv_aload_n hx hb dX10_done_0 rfl (lv_at hl 0 rfl) ?_
  refine va_get (D := (dC, dI)) (ci := 8) (v := .ref a1) (C := RX10) (T := TX10) (N := 13) hx hb hts inX10 hown hK hP 0 rfl rfl 0 (by decide) (hts _ mw_309) (fun _ h9 => h9) rfl dX10_done_1 ?_
  refine lv_iload_n hx hb dX10_done_4 rfl (lv_at hl 1 rfl) ?_
  have hPc := hP.sub (ws' := [(a1, .inr (7, [.ref f0, .int 0]))]) [1] rfl
  have hDc := hD.sub (ws' := [(a1, .inr (7, [.ref f0, .int 0]))]) [1] (by decide) rfl
  have hFc := va_free (wc := [(a1, .inr (7, [.ref f0, .int 0]))]) hD hS hA [1] rfl
  refine zcall (st1 := [.null]) (va_runV (As := [.int i1]) (rest := []) ⟨hx, hb, hml, hown, hts⟩ (k_find l dC dI cI cZ cF s.heap.size a1 f0 i1 ) (cwV 1 hts (zz_gV mw_498 mw_499 mw_500 mw_100 mc_yX8_find) rfl rfl rfl (by decide +kernel) ⟨Nat.le_of_ble_eq_true rfl, Nat.le_of_ble_eq_true rfl⟩) (zPV (q0 := 0) (ci := 7) hPc hDc hK rfl rfl) rfl rfl hl.1 rfl (lv_room (Nat.le_of_ble_eq_true rfl)) dX10_done_5 ⟨Nat.le_of_ble_eq_true rfl, Nat.le_of_ble_eq_true rfl⟩) hS hFc hFc rfl (fun t H1 locs ht hB hk1 hS => ?_)
  obtain ⟨hP1, hD1⟩ := hB
  rw [ht] at hP1
  obtain ⟨hP, hD⟩ := va_join (wr := [(h0, .inr (8, [.ref a1, .ref a2, .ref a3, .ref a4, .ref a5, .ref a6, .ref a7, .ref a8, .ref a9, .int 0, .int 0, .int 0, .int 0]))]) (w1 := [(a1, .inr (7, [.ref f0, .int 0]))]) hP hD [1] [0] rfl rfl (by decide) (by decide) hk1 hFc hP1 hD1
  clear hk1 hPc hDc hFc hP1 hD1 ht
  generalize H1 = H at hP hS ⊢
  have hP : va_P (dC, dI) classes [(h0, .inr (8, [.ref a1, .ref a2, .ref a3, .ref a4, .ref a5, .ref a6, .ref a7, .ref a8, .ref a9, .int 0, .int 0, .int 0, .int 0])), (a1, .inr (7, [.ref f0, .int 0]))] H := hP
  have hD : va_D A [(h0, .inr (8, [.ref a1, .ref a2, .ref a3, .ref a4, .ref a5, .ref a6, .ref a7, .ref a8, .ref a9, .int 0, .int 0, .int 0, .int 0])), (a1, .inr (7, [.ref f0, .int 0]))] := hD
  refine lv_astore_nN (lv' := [(2, .null), (0, .ref h0), (1, .int i1)]) hx hb dX10_done_8 rfl hl (by decide) rfl (fun ls hl => ?_)
  refine lv_aload_nN hx hb dX10_done_9 rfl (lv_at hl 0 rfl) ?_
  refine lv_ifnonnullN hx hb dX10_done_10 ?_
  refine lv_aload_n hx hb dX10_done_13 rfl (lv_at hl 1 rfl) ?_
  refine lv_iconst (v := 1) hx hb dX10_done_14 (by decide) ?_
  have hPc := hP.sub (ws' := [(h0, .inr (8, [.ref a1, .ref a2, .ref a3, .ref a4, .ref a5, .ref a6, .ref a7, .ref a8, .ref a9, .int 0, .int 0, .int 0, .int 0]))]) [0] rfl
  have hDc := hD.sub (ws' := [(h0, .inr (8, [.ref a1, .ref a2, .ref a3, .ref a4, .ref a5, .ref a6, .ref a7, .ref a8, .ref a9, .int 0, .int 0, .int 0, .int 0]))]) [0] (by decide) rfl
  have hFc := va_free (wc := [(h0, .inr (8, [.ref a1, .ref a2, .ref a3, .ref a4, .ref a5, .ref a6, .ref a7, .ref a8, .ref a9, .int 0, .int 0, .int 0, .int 0]))]) hD hS hA [0] rfl
  refine zcall (st1 := [.int 0]) (va_runV (As := [.int 1]) (rest := []) ⟨hx, hb, hml, hown, hts⟩ (k_deny l dC dI cI cZ cF H.size h0 a1 a2 a3 a4 a5 a6 a7 a8 a9 1 (by decide)) (cwV 1 hts (zz_gV mw_513 mw_515 mw_4 mw_99 mc_yX10_deny) rfl rfl rfl (by decide +kernel) ⟨Nat.le_of_ble_eq_true rfl, Nat.le_of_ble_eq_true rfl⟩) (zPV (q0 := 0) (ci := 8) hPc hDc hK rfl rfl) rfl rfl hl.1 rfl (lv_room (Nat.le_of_ble_eq_true rfl)) dX10_done_15 ⟨Nat.le_of_ble_eq_true rfl, Nat.le_of_ble_eq_true rfl⟩) hS hFc hFc rfl (fun t H1 locs ht hB hk1 hS => ?_)
  obtain ⟨hP1, hD1⟩ := hB
  rw [ht] at hP1
  obtain ⟨hP, hD⟩ := va_join (wr := [(a1, .inr (7, [.ref f0, .int 0]))]) (w1 := [(h0, .inr (8, [.ref a1, .ref a2, .ref a3, .ref a4, .ref a5, .ref a6, .ref a7, .ref a8, .ref a9, .int 0, .int 0, .int 0, .int 1]))]) hP hD [0] [1] rfl rfl (by decide) (by decide) hk1 hFc hP1 hD1
  clear hk1 hPc hDc hFc hP1 hD1 ht
  generalize H1 = H at hP hS ⊢
  have hP : va_P (dC, dI) classes [(a1, .inr (7, [.ref f0, .int 0])), (h0, .inr (8, [.ref a1, .ref a2, .ref a3, .ref a4, .ref a5, .ref a6, .ref a7, .ref a8, .ref a9, .int 0, .int 0, .int 0, .int 1]))] H := hP
  have hD : va_D A [(a1, .inr (7, [.ref f0, .int 0])), (h0, .inr (8, [.ref a1, .ref a2, .ref a3, .ref a4, .ref a5, .ref a6, .ref a7, .ref a8, .ref a9, .int 0, .int 0, .int 0, .int 1]))] := hD
  refine W.widen (k := 0) (n := 0) (by decide) (by decide) ?_
  have hP9 := hP.sub (ws' := []) [] rfl
  have hD9 := hD.sub (ws' := []) [] (by decide) rfl
  exact W.zret (ty := .boolean) (v := 0) hx hb hr rfl (fun t ht hW => ⟨⟨rfl, by rw [ht]; exact hP9, hD9⟩, hS.F ht⟩) hS.2.2 dX10_done_18
set_option maxHeartbeats 4000000 in
set_option maxRecDepth 100000 in
theorem k_x_plainer (l : Launch) (dC : Nat → ClassId) (dI : Nat → Nat → Nat) (cI cZ cF : ClassId) (sz : Nat) (h0 : Nat) (a1 : Nat) (a2 : Nat) (a3 : Nat) (a4 : Nat) (a5 : Nat) (a6 : Nat) (a7 : Nat) (a8 : Nat) (a9 : Nat) (f0 : Nat) (i1 : Int32) (i2 : Int32) : Met l yX10_plainer (.code yX10_plainer cX10_plainer 5 (some .int) :: ws0) ({ frames := 1, cells := 0, slots := 0, locals := 21 }) (va_Pc [.ref h0, .int i1, .int i2] (zPre (dC, dI) classes (zTy cI cZ cF) [(h0, .inr (8, [.ref a1, .ref a2, .ref a3, .ref a4, .ref a5, .ref a6, .ref a7, .ref a8, .ref a9, .int 0, .int 0, .int 0, .int 0])), (a1, .inr (7, [.ref f0, .int 0]))] sz zTrue)) (zQ (some (.int (-1))) (fun t => va_P (dC, dI) classes [] t.heap ∧ va_D (va_A [(h0, .inr (8, [.ref a1, .ref a2, .ref a3, .ref a4, .ref a5, .ref a6, .ref a7, .ref a8, .ref a9, .int 0, .int 0, .int 0, .int 0])), (a1, .inr (7, [.ref f0, .int 0]))] sz) []) (va_A [(h0, .inr (8, [.ref a1, .ref a2, .ref a3, .ref a4, .ref a5, .ref a6, .ref a7, .ref a8, .ref a9, .int 0, .int 0, .int 0, .int 0])), (a1, .inr (7, [.ref f0, .int 0]))] sz)) 0 0 (va_A [(h0, .inr (8, [.ref a1, .ref a2, .ref a3, .ref a4, .ref a5, .ref a6, .ref a7, .ref a8, .ref a9, .int 0, .int 0, .int 0, .int 0])), (a1, .inr (7, [.ref f0, .int 0]))] sz) := by
  refine Met.ofW (cc := cX10_plainer) (maxL := 5) (ret := (some .int)) (by decide) rfl ?_
  intro p e s m args below meth c s₁ B hml hv
  obtain ⟨rfl, hsz, hP, hK, hD0, hXX⟩ := hv
  have hx := B.exec
  have hb := B.bytes
  have hr := B.returns
  have hts0 := atoms_spec (ws := .code yX10_plainer cX10_plainer 5 (some .int) :: ws0) B.pre
  have hts : ∀ w9 ∈ ws0, w9.before ([.ref h0, .int i1, .int i2] : List Value).toArray s = true := fun w9 h => hts0 w9 (List.mem_cons_of_mem _ h)
  have hown : s.vm.findClass "ScaleShop" = some m.cls := findClass_of_methodNamed B.named
  have hlocks := B.notSynchronized
  subst hsz
  have hD := hD0.self (sz := s.heap.size)
  generalize hAe : va_A [(h0, .inr (8, [.ref a1, .ref a2, .ref a3, .ref a4, .ref a5, .ref a6, .ref a7, .ref a8, .ref a9, .int 0, .int 0, .int 0, .int 0])), (a1, .inr (7, [.ref f0, .int 0]))] s.heap.size = A at hD ⊢
  have hA : ∀ q : Nat, s.heap.size ≤ q → A q := fun q h => by rw [← hAe]; exact Or.inr h
  have hS : va_S A s.heap s.heap [] := va_S.rf
  have hP : va_P (dC, dI) classes [(h0, .inr (8, [.ref a1, .ref a2, .ref a3, .ref a4, .ref a5, .ref a6, .ref a7, .ref a8, .ref a9, .int 0, .int 0, .int 0, .int 0])), (a1, .inr (7, [.ref f0, .int 0]))] s.heap := hP
  have hl := lv_entry ([.ref h0, .int i1, .int i2]) (n := 5) (Nat.le_of_ble_eq_true rfl)
  rw [lg_entry_eq]
  generalize (lg_sl ([.ref h0, .int i1, .int i2]) ++ List.replicate (5 - (lg_sl ([.ref h0, .int i1, .int i2])).length) Slot.unset).toArray = ls at hl ⊢
  have hl : lv_has ls 5 [(0, .ref h0), (1, .int i1), (2, .int i2)] := hl
  refine lv_aload_n hx hb dX10_plainer_0 rfl (lv_at hl 0 rfl) ?_
  refine va_get (D := (dC, dI)) (ci := 8) (v := .ref a1) (C := RX10) (T := TX10) (N := 13) hx hb hts inX10 hown hK hP 0 rfl rfl 0 (by decide) (hts _ mw_309) (fun _ h9 => h9) rfl dX10_plainer_1 ?_
  refine lv_iload_n hx hb dX10_plainer_4 rfl (lv_at hl 1 rfl) ?_
  have hPc := hP.sub (ws' := [(a1, .inr (7, [.ref f0, .int 0]))]) [1] rfl
  have hDc := hD.sub (ws' := [(a1, .inr (7, [.ref f0, .int 0]))]) [1] (by decide) rfl
  have hFc := va_free (wc := [(a1, .inr (7, [.ref f0, .int 0]))]) hD hS hA [1] rfl
  refine zcall (st1 := [.null]) (va_runV (As := [.int i1]) (rest := []) ⟨hx, hb, hml, hown, hts⟩ (k_find l dC dI cI cZ cF s.heap.size a1 f0 i1 ) (cwV 1 hts (zz_gV mw_498 mw_499 mw_500 mw_100 mc_yX8_find) rfl rfl rfl (by decide +kernel) ⟨Nat.le_of_ble_eq_true rfl, Nat.le_of_ble_eq_true rfl⟩) (zPV (q0 := 0) (ci := 7) hPc hDc hK rfl rfl) rfl rfl hl.1 rfl (lv_room (Nat.le_of_ble_eq_true rfl)) dX10_plainer_5 ⟨Nat.le_of_ble_eq_true rfl, Nat.le_of_ble_eq_true rfl⟩) hS hFc hFc rfl (fun t H1 locs ht hB hk1 hS => ?_)
  obtain ⟨hP1, hD1⟩ := hB
  rw [ht] at hP1
  obtain ⟨hP, hD⟩ := va_join (wr := [(h0, .inr (8, [.ref a1, .ref a2, .ref a3, .ref a4, .ref a5, .ref a6, .ref a7, .ref a8, .ref a9, .int 0, .int 0, .int 0, .int 0]))]) (w1 := [(a1, .inr (7, [.ref f0, .int 0]))]) hP hD [1] [0] rfl rfl (by decide) (by decide) hk1 hFc hP1 hD1
  clear hk1 hPc hDc hFc hP1 hD1 ht
  generalize H1 = H at hP hS ⊢
  have hP : va_P (dC, dI) classes [(h0, .inr (8, [.ref a1, .ref a2, .ref a3, .ref a4, .ref a5, .ref a6, .ref a7, .ref a8, .ref a9, .int 0, .int 0, .int 0, .int 0])), (a1, .inr (7, [.ref f0, .int 0]))] H := hP
  have hD : va_D A [(h0, .inr (8, [.ref a1, .ref a2, .ref a3, .ref a4, .ref a5, .ref a6, .ref a7, .ref a8, .ref a9, .int 0, .int 0, .int 0, .int 0])), (a1, .inr (7, [.ref f0, .int 0]))] := hD
  refine lv_astore_nN (lv' := [(3, .null), (0, .ref h0), (1, .int i1), (2, .int i2)]) hx hb dX10_plainer_8 rfl hl (by decide) rfl (fun ls hl => ?_)
  refine lv_aload_nN hx hb dX10_plainer_9 rfl (lv_at hl 0 rfl) ?_
  refine lv_ifnonnullN hx hb dX10_plainer_10 ?_
  refine lv_aload_n hx hb dX10_plainer_13 rfl (lv_at hl 1 rfl) ?_
  refine lv_iconst (v := 1) hx hb dX10_plainer_14 (by decide) ?_
  have hPc := hP.sub (ws' := [(h0, .inr (8, [.ref a1, .ref a2, .ref a3, .ref a4, .ref a5, .ref a6, .ref a7, .ref a8, .ref a9, .int 0, .int 0, .int 0, .int 0]))]) [0] rfl
  have hDc := hD.sub (ws' := [(h0, .inr (8, [.ref a1, .ref a2, .ref a3, .ref a4, .ref a5, .ref a6, .ref a7, .ref a8, .ref a9, .int 0, .int 0, .int 0, .int 0]))]) [0] (by decide) rfl
  have hFc := va_free (wc := [(h0, .inr (8, [.ref a1, .ref a2, .ref a3, .ref a4, .ref a5, .ref a6, .ref a7, .ref a8, .ref a9, .int 0, .int 0, .int 0, .int 0]))]) hD hS hA [0] rfl
  refine zcall (st1 := [.int (-1)]) (va_runV (As := [.int 1]) (rest := []) ⟨hx, hb, hml, hown, hts⟩ (k_refuse l dC dI cI cZ cF H.size h0 a1 a2 a3 a4 a5 a6 a7 a8 a9 1 (by decide)) (cwV 1 hts (zz_gV mw_356 mw_358 mw_0 mw_99 mc_yX10_refuse) rfl rfl rfl (by decide +kernel) ⟨Nat.le_of_ble_eq_true rfl, Nat.le_of_ble_eq_true rfl⟩) (zPV (q0 := 0) (ci := 8) hPc hDc hK rfl rfl) rfl rfl hl.1 rfl (lv_room (Nat.le_of_ble_eq_true rfl)) dX10_plainer_15 ⟨Nat.le_of_ble_eq_true rfl, Nat.le_of_ble_eq_true rfl⟩) hS hFc hFc rfl (fun t H1 locs ht hB hk1 hS => ?_)
  obtain ⟨hP1, hD1⟩ := hB
  rw [ht] at hP1
  obtain ⟨hP, hD⟩ := va_join (wr := [(a1, .inr (7, [.ref f0, .int 0]))]) (w1 := [(h0, .inr (8, [.ref a1, .ref a2, .ref a3, .ref a4, .ref a5, .ref a6, .ref a7, .ref a8, .ref a9, .int 0, .int 0, .int 0, .int 1]))]) hP hD [0] [1] rfl rfl (by decide) (by decide) hk1 hFc hP1 hD1
  clear hk1 hPc hDc hFc hP1 hD1 ht
  generalize H1 = H at hP hS ⊢
  have hP : va_P (dC, dI) classes [(a1, .inr (7, [.ref f0, .int 0])), (h0, .inr (8, [.ref a1, .ref a2, .ref a3, .ref a4, .ref a5, .ref a6, .ref a7, .ref a8, .ref a9, .int 0, .int 0, .int 0, .int 1]))] H := hP
  have hD : va_D A [(a1, .inr (7, [.ref f0, .int 0])), (h0, .inr (8, [.ref a1, .ref a2, .ref a3, .ref a4, .ref a5, .ref a6, .ref a7, .ref a8, .ref a9, .int 0, .int 0, .int 0, .int 1]))] := hD
  refine W.widen (k := 0) (n := 0) (by decide) (by decide) ?_
  have hP9 := hP.sub (ws' := []) [] rfl
  have hD9 := hD.sub (ws' := []) [] (by decide) rfl
  exact W.iret (v := (-1)) hx hb hr (fun t ht hW => ⟨⟨rfl, by rw [ht]; exact hP9, hD9⟩, hS.F ht⟩) hS.2.2 dX10_plainer_18
set_option maxHeartbeats 4000000 in
set_option maxRecDepth 100000 in
theorem k_x_smooth (l : Launch) (dC : Nat → ClassId) (dI : Nat → Nat → Nat) (cI cZ cF : ClassId) (sz : Nat) (h0 : Nat) (a1 : Nat) (a2 : Nat) (a3 : Nat) (a4 : Nat) (a5 : Nat) (a6 : Nat) (a7 : Nat) (a8 : Nat) (a9 : Nat) (f0 : Nat) (i1 : Int32) : Met l yX10_smooth (.code yX10_smooth cX10_smooth 4 (some .boolean) :: ws0) ({ frames := 2, cells := 0, slots := 0, locals := 42 }) (va_Pc [.ref h0, .int i1] (zPre (dC, dI) classes (zTy cI cZ cF) [(h0, .inr (8, [.ref a1, .ref a2, .ref a3, .ref a4, .ref a5, .ref a6, .ref a7, .ref a8, .ref a9, .int 0, .int 0, .int 0, .int 0])), (a1, .inr (7, [.ref f0, .int 0]))] sz zTrue)) (zQ (some (.int 0)) (fun t => va_P (dC, dI) classes [] t.heap ∧ va_D (va_A [(h0, .inr (8, [.ref a1, .ref a2, .ref a3, .ref a4, .ref a5, .ref a6, .ref a7, .ref a8, .ref a9, .int 0, .int 0, .int 0, .int 0])), (a1, .inr (7, [.ref f0, .int 0]))] sz) []) (va_A [(h0, .inr (8, [.ref a1, .ref a2, .ref a3, .ref a4, .ref a5, .ref a6, .ref a7, .ref a8, .ref a9, .int 0, .int 0, .int 0, .int 0])), (a1, .inr (7, [.ref f0, .int 0]))] sz)) 0 0 (va_A [(h0, .inr (8, [.ref a1, .ref a2, .ref a3, .ref a4, .ref a5, .ref a6, .ref a7, .ref a8, .ref a9, .int 0, .int 0, .int 0, .int 0])), (a1, .inr (7, [.ref f0, .int 0]))] sz) := by
  refine Met.ofW (cc := cX10_smooth) (maxL := 4) (ret := (some .boolean)) (by decide) rfl ?_
  intro p e s m args below meth c s₁ B hml hv
  obtain ⟨rfl, hsz, hP, hK, hD0, hXX⟩ := hv
  have hx := B.exec
  have hb := B.bytes
  have hr := B.returns
  have hts0 := atoms_spec (ws := .code yX10_smooth cX10_smooth 4 (some .boolean) :: ws0) B.pre
  have hts : ∀ w9 ∈ ws0, w9.before ([.ref h0, .int i1] : List Value).toArray s = true := fun w9 h => hts0 w9 (List.mem_cons_of_mem _ h)
  have hown : s.vm.findClass "ScaleShop" = some m.cls := findClass_of_methodNamed B.named
  have hlocks := B.notSynchronized
  subst hsz
  have hD := hD0.self (sz := s.heap.size)
  generalize hAe : va_A [(h0, .inr (8, [.ref a1, .ref a2, .ref a3, .ref a4, .ref a5, .ref a6, .ref a7, .ref a8, .ref a9, .int 0, .int 0, .int 0, .int 0])), (a1, .inr (7, [.ref f0, .int 0]))] s.heap.size = A at hD ⊢
  have hA : ∀ q : Nat, s.heap.size ≤ q → A q := fun q h => by rw [← hAe]; exact Or.inr h
  have hS : va_S A s.heap s.heap [] := va_S.rf
  have hP : va_P (dC, dI) classes [(h0, .inr (8, [.ref a1, .ref a2, .ref a3, .ref a4, .ref a5, .ref a6, .ref a7, .ref a8, .ref a9, .int 0, .int 0, .int 0, .int 0])), (a1, .inr (7, [.ref f0, .int 0]))] s.heap := hP
  have hl := lv_entry ([.ref h0, .int i1]) (n := 4) (Nat.le_of_ble_eq_true rfl)
  rw [lg_entry_eq]
  generalize (lg_sl ([.ref h0, .int i1]) ++ List.replicate (4 - (lg_sl ([.ref h0, .int i1])).length) Slot.unset).toArray = ls at hl ⊢
  have hl : lv_has ls 4 [(0, .ref h0), (1, .int i1)] := hl
  refine lv_aload_n hx hb dX10_smooth_0 rfl (lv_at hl 0 rfl) ?_
  refine va_get (D := (dC, dI)) (ci := 8) (v := .ref a1) (C := RX10) (T := TX10) (N := 13) hx hb hts inX10 hown hK hP 0 rfl rfl 0 (by decide) (hts _ mw_309) (fun _ h9 => h9) rfl dX10_smooth_1 ?_
  refine lv_iload_n hx hb dX10_smooth_4 rfl (lv_at hl 1 rfl) ?_
  have hPc := hP.sub (ws' := [(a1, .inr (7, [.ref f0, .int 0]))]) [1] rfl
  have hDc := hD.sub (ws' := [(a1, .inr (7, [.ref f0, .int 0]))]) [1] (by decide) rfl
  have hFc := va_free (wc := [(a1, .inr (7, [.ref f0, .int 0]))]) hD hS hA [1] rfl
  refine zcall (st1 := [.null]) (va_runV (As := [.int i1]) (rest := []) ⟨hx, hb, hml, hown, hts⟩ (k_find l dC dI cI cZ cF s.heap.size a1 f0 i1 ) (cwV 1 hts (zz_gV mw_498 mw_499 mw_500 mw_100 mc_yX8_find) rfl rfl rfl (by decide +kernel) ⟨Nat.le_of_ble_eq_true rfl, Nat.le_of_ble_eq_true rfl⟩) (zPV (q0 := 0) (ci := 7) hPc hDc hK rfl rfl) rfl rfl hl.1 rfl (lv_room (Nat.le_of_ble_eq_true rfl)) dX10_smooth_5 ⟨Nat.le_of_ble_eq_true rfl, Nat.le_of_ble_eq_true rfl⟩) hS hFc hFc rfl (fun t H1 locs ht hB hk1 hS => ?_)
  obtain ⟨hP1, hD1⟩ := hB
  rw [ht] at hP1
  obtain ⟨hP, hD⟩ := va_join (wr := [(h0, .inr (8, [.ref a1, .ref a2, .ref a3, .ref a4, .ref a5, .ref a6, .ref a7, .ref a8, .ref a9, .int 0, .int 0, .int 0, .int 0]))]) (w1 := [(a1, .inr (7, [.ref f0, .int 0]))]) hP hD [1] [0] rfl rfl (by decide) (by decide) hk1 hFc hP1 hD1
  clear hk1 hPc hDc hFc hP1 hD1 ht
  generalize H1 = H at hP hS ⊢
  have hP : va_P (dC, dI) classes [(h0, .inr (8, [.ref a1, .ref a2, .ref a3, .ref a4, .ref a5, .ref a6, .ref a7, .ref a8, .ref a9, .int 0, .int 0, .int 0, .int 0])), (a1, .inr (7, [.ref f0, .int 0]))] H := hP
  have hD : va_D A [(h0, .inr (8, [.ref a1, .ref a2, .ref a3, .ref a4, .ref a5, .ref a6, .ref a7, .ref a8, .ref a9, .int 0, .int 0, .int 0, .int 0])), (a1, .inr (7, [.ref f0, .int 0]))] := hD
  refine lv_astore_nN (lv' := [(2, .null), (0, .ref h0), (1, .int i1)]) hx hb dX10_smooth_8 rfl hl (by decide) rfl (fun ls hl => ?_)
  refine lv_aload_nN hx hb dX10_smooth_9 rfl (lv_at hl 0 rfl) ?_
  refine lv_ifnonnullN hx hb dX10_smooth_10 ?_
  refine lv_aload_n hx hb dX10_smooth_13 rfl (lv_at hl 1 rfl) ?_
  refine lv_iconst (v := 1) hx hb dX10_smooth_14 (by decide) ?_
  have hPc := hP.sub (ws' := [(h0, .inr (8, [.ref a1, .ref a2, .ref a3, .ref a4, .ref a5, .ref a6, .ref a7, .ref a8, .ref a9, .int 0, .int 0, .int 0, .int 0]))]) [0] rfl
  have hDc := hD.sub (ws' := [(h0, .inr (8, [.ref a1, .ref a2, .ref a3, .ref a4, .ref a5, .ref a6, .ref a7, .ref a8, .ref a9, .int 0, .int 0, .int 0, .int 0]))]) [0] (by decide) rfl
  have hFc := va_free (wc := [(h0, .inr (8, [.ref a1, .ref a2, .ref a3, .ref a4, .ref a5, .ref a6, .ref a7, .ref a8, .ref a9, .int 0, .int 0, .int 0, .int 0]))]) hD hS hA [0] rfl
  refine zcall (st1 := [.int 0]) (va_runV (As := [.int 1]) (rest := []) ⟨hx, hb, hml, hown, hts⟩ (k_deny l dC dI cI cZ cF H.size h0 a1 a2 a3 a4 a5 a6 a7 a8 a9 1 (by decide)) (cwV 1 hts (zz_gV mw_513 mw_515 mw_4 mw_99 mc_yX10_deny) rfl rfl rfl (by decide +kernel) ⟨Nat.le_of_ble_eq_true rfl, Nat.le_of_ble_eq_true rfl⟩) (zPV (q0 := 0) (ci := 8) hPc hDc hK rfl rfl) rfl rfl hl.1 rfl (lv_room (Nat.le_of_ble_eq_true rfl)) dX10_smooth_15 ⟨Nat.le_of_ble_eq_true rfl, Nat.le_of_ble_eq_true rfl⟩) hS hFc hFc rfl (fun t H1 locs ht hB hk1 hS => ?_)
  obtain ⟨hP1, hD1⟩ := hB
  rw [ht] at hP1
  obtain ⟨hP, hD⟩ := va_join (wr := [(a1, .inr (7, [.ref f0, .int 0]))]) (w1 := [(h0, .inr (8, [.ref a1, .ref a2, .ref a3, .ref a4, .ref a5, .ref a6, .ref a7, .ref a8, .ref a9, .int 0, .int 0, .int 0, .int 1]))]) hP hD [0] [1] rfl rfl (by decide) (by decide) hk1 hFc hP1 hD1
  clear hk1 hPc hDc hFc hP1 hD1 ht
  generalize H1 = H at hP hS ⊢
  have hP : va_P (dC, dI) classes [(a1, .inr (7, [.ref f0, .int 0])), (h0, .inr (8, [.ref a1, .ref a2, .ref a3, .ref a4, .ref a5, .ref a6, .ref a7, .ref a8, .ref a9, .int 0, .int 0, .int 0, .int 1]))] H := hP
  have hD : va_D A [(a1, .inr (7, [.ref f0, .int 0])), (h0, .inr (8, [.ref a1, .ref a2, .ref a3, .ref a4, .ref a5, .ref a6, .ref a7, .ref a8, .ref a9, .int 0, .int 0, .int 0, .int 1]))] := hD
  refine W.widen (k := 0) (n := 0) (by decide) (by decide) ?_
  have hP9 := hP.sub (ws' := []) [] rfl
  have hD9 := hD.sub (ws' := []) [] (by decide) rfl
  exact W.zret (ty := .boolean) (v := 0) hx hb hr rfl (fun t ht hW => ⟨⟨rfl, by rw [ht]; exact hP9, hD9⟩, hS.F ht⟩) hS.2.2 dX10_smooth_18
set_option maxHeartbeats 4000000 in
set_option maxRecDepth 100000 in
theorem k_x_shift (l : Launch) (dC : Nat → ClassId) (dI : Nat → Nat → Nat) (cI cZ cF : ClassId) (sz : Nat) (h0 : Nat) (a1 : Nat) (a2 : Nat) (a3 : Nat) (a4 : Nat) (a5 : Nat) (a6 : Nat) (a7 : Nat) (a8 : Nat) (a9 : Nat) (f0 : Nat) (i1 : Int32) (i2 : Int32) (i3 : Int32) (i4 : Int32) (i5 : Int32) : Met l yX10_shift (.code yX10_shift cX10_shift 8 (some .boolean) :: ws0) ({ frames := 2, cells := 0, slots := 0, locals := 42 }) (va_Pc [.ref h0, .int i1, .int i2, .int i3, .int i4, .int i5] (zPre (dC, dI) classes (zTy cI cZ cF) [(h0, .inr (8, [.ref a1, .ref a2, .ref a3, .ref a4, .ref a5, .ref a6, .ref a7, .ref a8, .ref a9, .int 0, .int 0, .int 0, .int 0])), (a1, .inr (7, [.ref f0, .int 0]))] sz zTrue)) (zQ (some (.int 0)) (fun t => va_P (dC, dI) classes [] t.heap ∧ va_D (va_A [(h0, .inr (8, [.ref a1, .ref a2, .ref a3, .ref a4, .ref a5, .ref a6, .ref a7, .ref a8, .ref a9, .int 0, .int 0, .int 0, .int 0])), (a1, .inr (7, [.ref f0, .int 0]))] sz) []) (va_A [(h0, .inr (8, [.ref a1, .ref a2, .ref a3, .ref a4, .ref a5, .ref a6, .ref a7, .ref a8, .ref a9, .int 0, .int 0, .int 0, .int 0])), (a1, .inr (7, [.ref f0, .int 0]))] sz)) 0 0 (va_A [(h0, .inr (8, [.ref a1, .ref a2, .ref a3, .ref a4, .ref a5, .ref a6, .ref a7, .ref a8, .ref a9, .int 0, .int 0, .int 0, .int 0])), (a1, .inr (7, [.ref f0, .int 0]))] sz) := by
  refine Met.ofW (cc := cX10_shift) (maxL := 8) (ret := (some .boolean)) (by decide) rfl ?_
  intro p e s m args below meth c s₁ B hml hv
  obtain ⟨rfl, hsz, hP, hK, hD0, hXX⟩ := hv
  have hx := B.exec
  have hb := B.bytes
  have hr := B.returns
  have hts0 := atoms_spec (ws := .code yX10_shift cX10_shift 8 (some .boolean) :: ws0) B.pre
  have hts : ∀ w9 ∈ ws0, w9.before ([.ref h0, .int i1, .int i2, .int i3, .int i4, .int i5] : List Value).toArray s = true := fun w9 h => hts0 w9 (List.mem_cons_of_mem _ h)
  have hown : s.vm.findClass "ScaleShop" = some m.cls := findClass_of_methodNamed B.named
  have hlocks := B.notSynchronized
  subst hsz
  have hD := hD0.self (sz := s.heap.size)
  generalize hAe : va_A [(h0, .inr (8, [.ref a1, .ref a2, .ref a3, .ref a4, .ref a5, .ref a6, .ref a7, .ref a8, .ref a9, .int 0, .int 0, .int 0, .int 0])), (a1, .inr (7, [.ref f0, .int 0]))] s.heap.size = A at hD ⊢
  have hA : ∀ q : Nat, s.heap.size ≤ q → A q := fun q h => by rw [← hAe]; exact Or.inr h
  have hS : va_S A s.heap s.heap [] := va_S.rf
  have hP : va_P (dC, dI) classes [(h0, .inr (8, [.ref a1, .ref a2, .ref a3, .ref a4, .ref a5, .ref a6, .ref a7, .ref a8, .ref a9, .int 0, .int 0, .int 0, .int 0])), (a1, .inr (7, [.ref f0, .int 0]))] s.heap := hP
  have hl := lv_entry ([.ref h0, .int i1, .int i2, .int i3, .int i4, .int i5]) (n := 8) (Nat.le_of_ble_eq_true rfl)
  rw [lg_entry_eq]
  generalize (lg_sl ([.ref h0, .int i1, .int i2, .int i3, .int i4, .int i5]) ++ List.replicate (8 - (lg_sl ([.ref h0, .int i1, .int i2, .int i3, .int i4, .int i5])).length) Slot.unset).toArray = ls at hl ⊢
  have hl : lv_has ls 8 [(0, .ref h0), (1, .int i1), (2, .int i2), (3, .int i3), (4, .int i4), (5, .int i5)] := hl
  refine lv_aload_n hx hb dX10_shift_0 rfl (lv_at hl 0 rfl) ?_
  refine va_get (D := (dC, dI)) (ci := 8) (v := .ref a1) (C := RX10) (T := TX10) (N := 13) hx hb hts inX10 hown hK hP 0 rfl rfl 0 (by decide) (hts _ mw_309) (fun _ h9 => h9) rfl dX10_shift_1 ?_
  refine lv_iload_n hx hb dX10_shift_4 rfl (lv_at hl 1 rfl) ?_
  have hPc := hP.sub (ws' := [(a1, .inr (7, [.ref f0, .int 0]))]) [1] rfl
  have hDc := hD.sub (ws' := [(a1, .inr (7, [.ref f0, .int 0]))]) [1] (by decide) rfl
  have hFc := va_free (wc := [(a1, .inr (7, [.ref f0, .int 0]))]) hD hS hA [1] rfl
  refine zcall (st1 := [.null]) (va_runV (As := [.int i1]) (rest := []) ⟨hx, hb, hml, hown, hts⟩ (k_find l dC dI cI cZ cF s.heap.size a1 f0 i1 ) (cwV 1 hts (zz_gV mw_498 mw_499 mw_500 mw_100 mc_yX8_find) rfl rfl rfl (by decide +kernel) ⟨Nat.le_of_ble_eq_true rfl, Nat.le_of_ble_eq_true rfl⟩) (zPV (q0 := 0) (ci := 7) hPc hDc hK rfl rfl) rfl rfl hl.1 rfl (lv_room (Nat.le_of_ble_eq_true rfl)) dX10_shift_5 ⟨Nat.le_of_ble_eq_true rfl, Nat.le_of_ble_eq_true rfl⟩) hS hFc hFc rfl (fun t H1 locs ht hB hk1 hS => ?_)
  obtain ⟨hP1, hD1⟩ := hB
  rw [ht] at hP1
  obtain ⟨hP, hD⟩ := va_join (wr := [(h0, .inr (8, [.ref a1, .ref a2, .ref a3, .ref a4, .ref a5, .ref a6, .ref a7, .ref a8, .ref a9, .int 0, .int 0, .int 0, .int 0]))]) (w1 := [(a1, .inr (7, [.ref f0, .int 0]))]) hP hD [1] [0] rfl rfl (by decide) (by decide) hk1 hFc hP1 hD1
  clear hk1 hPc hDc hFc hP1 hD1 ht
  generalize H1 = H at hP hS ⊢
  have hP : va_P (dC, dI) classes [(h0, .inr (8, [.ref a1, .ref a2, .ref a3, .ref a4, .ref a5, .ref a6, .ref a7, .ref a8, .ref a9, .int 0, .int 0, .int 0, .int 0])), (a1, .inr (7, [.ref f0, .int 0]))] H := hP
  have hD : va_D A [(h0, .inr (8, [.ref a1, .ref a2, .ref a3, .ref a4, .ref a5, .ref a6, .ref a7, .ref a8, .ref a9, .int 0, .int 0, .int 0, .int 0])), (a1, .inr (7, [.ref f0, .int 0]))] := hD
  refine lv_astoreN (lv' := [(6, .null), (0, .ref h0), (1, .int i1), (2, .int i2), (3, .int i3), (4, .int i4), (5, .int i5)]) hx hb dX10_shift_8 hl (by decide) rfl (fun ls hl => ?_)
  refine lv_aloadN hx hb dX10_shift_10 (lv_at hl 0 rfl) ?_
  refine lv_ifnullN (tgt := 24) hx hb dX10_shift_12 (by decide) ?_
  refine lv_aload_n hx hb dX10_shift_24 rfl (lv_at hl 1 rfl) ?_
  refine lv_iconst (v := 1) hx hb dX10_shift_25 (by decide) ?_
  have hPc := hP.sub (ws' := [(h0, .inr (8, [.ref a1, .ref a2, .ref a3, .ref a4, .ref a5, .ref a6, .ref a7, .ref a8, .ref a9, .int 0, .int 0, .int 0, .int 0]))]) [0] rfl
  have hDc := hD.sub (ws' := [(h0, .inr (8, [.ref a1, .ref a2, .ref a3, .ref a4, .ref a5, .ref a6, .ref a7, .ref a8, .ref a9, .int 0, .int 0, .int 0, .int 0]))]) [0] (by decide) rfl
  have hFc := va_free (wc := [(h0, .inr (8, [.ref a1, .ref a2, .ref a3, .ref a4, .ref a5, .ref a6, .ref a7, .ref a8, .ref a9, .int 0, .int 0, .int 0, .int 0]))]) hD hS hA [0] rfl
  refine zcall (st1 := [.int 0]) (va_runV (As := [.int 1]) (rest := []) ⟨hx, hb, hml, hown, hts⟩ (k_deny l dC dI cI cZ cF H.size h0 a1 a2 a3 a4 a5 a6 a7 a8 a9 1 (by decide)) (cwV 1 hts (zz_gV mw_513 mw_515 mw_4 mw_99 mc_yX10_deny) rfl rfl rfl (by decide +kernel) ⟨Nat.le_of_ble_eq_true rfl, Nat.le_of_ble_eq_true rfl⟩) (zPV (q0 := 0) (ci := 8) hPc hDc hK rfl rfl) rfl rfl hl.1 rfl (lv_room (Nat.le_of_ble_eq_true rfl)) dX10_shift_26 ⟨Nat.le_of_ble_eq_true rfl, Nat.le_of_ble_eq_true rfl⟩) hS hFc hFc rfl (fun t H1 locs ht hB hk1 hS => ?_)
  obtain ⟨hP1, hD1⟩ := hB
  rw [ht] at hP1
  obtain ⟨hP, hD⟩ := va_join (wr := [(a1, .inr (7, [.ref f0, .int 0]))]) (w1 := [(h0, .inr (8, [.ref a1, .ref a2, .ref a3, .ref a4, .ref a5, .ref a6, .ref a7, .ref a8, .ref a9, .int 0, .int 0, .int 0, .int 1]))]) hP hD [0] [1] rfl rfl (by decide) (by decide) hk1 hFc hP1 hD1
  clear hk1 hPc hDc hFc hP1 hD1 ht
  generalize H1 = H at hP hS ⊢
  have hP : va_P (dC, dI) classes [(a1, .inr (7, [.ref f0, .int 0])), (h0, .inr (8, [.ref a1, .ref a2, .ref a3, .ref a4, .ref a5, .ref a6, .ref a7, .ref a8, .ref a9, .int 0, .int 0, .int 0, .int 1]))] H := hP
  have hD : va_D A [(a1, .inr (7, [.ref f0, .int 0])), (h0, .inr (8, [.ref a1, .ref a2, .ref a3, .ref a4, .ref a5, .ref a6, .ref a7, .ref a8, .ref a9, .int 0, .int 0, .int 0, .int 1]))] := hD
  refine W.widen (k := 0) (n := 0) (by decide) (by decide) ?_
  have hP9 := hP.sub (ws' := []) [] rfl
  have hD9 := hD.sub (ws' := []) [] (by decide) rfl
  exact W.zret (ty := .boolean) (v := 0) hx hb hr rfl (fun t ht hW => ⟨⟨rfl, by rw [ht]; exact hP9, hD9⟩, hS.F ht⟩) hS.2.2 dX10_shift_29
