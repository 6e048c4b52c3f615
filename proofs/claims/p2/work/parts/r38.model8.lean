set_option maxHeartbeats 4000000 in
set_option maxRecDepth 100000 in
theorem k_M_isFreeWay (l : Launch) (dC : Nat → ClassId) (dI : Nat → Nat → Nat) (cI cZ cF : ClassId) (sz : Nat) (k0 : Nat) (a : Nat → Nat) (I0 : Nat → Int32) (J0 : Nat → Int64) (f : Nat) (g : Nat) (m2 : Nat) (kd : Nat → Int32) (mn : Nat → Int32) (cx : Nat → Int32) (cy : Nat → Int32) (S0 : Nat → Int32) (ox : Nat → Int32) (oy : Nat → Int32) (hf_f : f ≤ 200) (k1 : pl (ox 0)) (k2 : pl (oy 0)) (k3 : pl (cx (40 * f))) (k4 : pl (cy (40 * f))) (hf_g : g ≤ 200) (hm_g : mn g = nI m2) (hn_g : 1 ≤ m2 ∧ m2 ≤ 40) (hp_g : pls m2 (cF40 cx g) (cF40 cy g)) : Met l yX11_isFreeWay (.code yX11_isFreeWay cX11_isFreeWay 8 (some .boolean) :: ws0) ({ frames := 3, cells := 0, slots := 0, locals := 81 } : Room) (va_Pc [.ref k0, .int (nI f), .int (nI g)] (zPre (dC, dI) classes (zTy cI cZ cF) [(om k0 a I0 J0), (oa (a 1) cI 201 kd), (oa (a 11) cI 201 mn), (oa (a 12) cI 8040 cx), (oa (a 13) cI 8040 cy), (oa (a 32) cI 8 S0), (oa (a 33) cI 42 ox), (oa (a 34) cI 42 oy)] sz zXN)) (zQ (some (.int (pI (∀ k, k < eO (kd g).toInt m2 → fWy (ox 0).toInt (oy 0).toInt (cx (40 * f)).toInt (cy (40 * f)).toInt m2 (cF40 cx g) (cF40 cy g) k)))) (fun t => ∃ (S1 : Nat → Int32), va_P (dC, dI) classes [(om k0 a I0 J0), (oa (a 1) cI 201 kd), (oa (a 11) cI 201 mn), (oa (a 12) cI 8040 cx), (oa (a 13) cI 8040 cy), (oa (a 32) cI 8 S1), (oa (a 33) cI 42 ox), (oa (a 34) cI 42 oy)] t.heap ∧ va_D (va_A [(om k0 a I0 J0), (oa (a 1) cI 201 kd), (oa (a 11) cI 201 mn), (oa (a 12) cI 8040 cx), (oa (a 13) cI 8040 cy), (oa (a 32) cI 8 S0), (oa (a 33) cI 42 ox), (oa (a 34) cI 42 oy)] sz) [(om k0 a I0 J0), (oa (a 1) cI 201 kd), (oa (a 11) cI 201 mn), (oa (a 12) cI 8040 cx), (oa (a 13) cI 8040 cy), (oa (a 32) cI 8 S1), (oa (a 33) cI 42 ox), (oa (a 34) cI 42 oy)]) (va_A [(om k0 a I0 J0), (oa (a 1) cI 201 kd), (oa (a 11) cI 201 mn), (oa (a 12) cI 8040 cx), (oa (a 13) cI 8040 cy), (oa (a 32) cI 8 S0), (oa (a 33) cI 42 ox), (oa (a 34) cI 42 oy)] sz)) 0 0 (va_A [(om k0 a I0 J0), (oa (a 1) cI 201 kd), (oa (a 11) cI 201 mn), (oa (a 12) cI 8040 cx), (oa (a 13) cI 8040 cy), (oa (a 32) cI 8 S0), (oa (a 33) cI 42 ox), (oa (a 34) cI 42 oy)] sz) := by
  refine Met.ofW (cc := cX11_isFreeWay) (maxL := 8) (ret := (some .boolean)) (by decide) rfl ?_
  intro p e s m args below meth c s₁ B hml hv
  obtain ⟨rfl, hsz, hP, hK, hD0, hXN⟩ := hv
  have hx := B.exec
  have hb := B.bytes
  have hr := B.returns
  have hts0 := atoms_spec (ws := .code yX11_isFreeWay cX11_isFreeWay 8 (some .boolean) :: ws0) B.pre
  have hts : ∀ w9 ∈ ws0, w9.before ([.ref k0, .int (nI f), .int (nI g)] : List Value).toArray s = true := fun w9 h => hts0 w9 (List.mem_cons_of_mem _ h)
  have hown : s.vm.findClass "ScaleShopModel" = some m.cls := findClass_of_methodNamed B.named
  have hlocks := B.notSynchronized
  subst hsz
  have hD := hD0.self (sz := s.heap.size)
  clear hD0
  generalize hAe : va_A [(om k0 a I0 J0), (oa (a 1) cI 201 kd), (oa (a 11) cI 201 mn), (oa (a 12) cI 8040 cx), (oa (a 13) cI 8040 cy), (oa (a 32) cI 8 S0), (oa (a 33) cI 42 ox), (oa (a 34) cI 42 oy)] s.heap.size = A at hD ⊢
  have hA : ∀ q : Nat, s.heap.size ≤ q → A q := fun q h => by rw [← hAe]; exact Or.inr h
  clear hAe
  have hS : va_S A s.heap s.heap [] := va_S.rf
  have hP : va_P (dC, dI) classes [(om k0 a I0 J0), (oa (a 1) cI 201 kd), (oa (a 11) cI 201 mn), (oa (a 12) cI 8040 cx), (oa (a 13) cI 8040 cy), (oa (a 32) cI 8 S0), (oa (a 33) cI 42 ox), (oa (a 34) cI 42 oy)] s.heap := hP
  obtain ⟨Q9, hQ9⟩ : ∃ Q9 : State → Prop, Q9 = MQ below (zQ (some (.int (pI (∀ k, k < eO (kd g).toInt m2 → fWy (ox 0).toInt (oy 0).toInt (cx (40 * f)).toInt (cy (40 * f)).toInt m2 (cF40 cx g) (cF40 cy g) k)))) (fun t => ∃ (S1 : Nat → Int32), va_P (dC, dI) classes [(om k0 a I0 J0), (oa (a 1) cI 201 kd), (oa (a 11) cI 201 mn), (oa (a 12) cI 8040 cx), (oa (a 13) cI 8040 cy), (oa (a 32) cI 8 S1), (oa (a 33) cI 42 ox), (oa (a 34) cI 42 oy)] t.heap ∧ va_D A [(om k0 a I0 J0), (oa (a 1) cI 201 kd), (oa (a 11) cI 201 mn), (oa (a 12) cI 8040 cx), (oa (a 13) cI 8040 cy), (oa (a 32) cI 8 S1), (oa (a 33) cI 42 ox), (oa (a 34) cI 42 oy)]) A) ([.ref k0, .int (nI f), .int (nI g)] : List Value).toArray s 0 0 A := ⟨_, rfl⟩
  rw [← hQ9]
  have hl := lv_entry ([.ref k0, .int (nI f), .int (nI g)]) (n := 8) (Nat.le_of_ble_eq_true rfl)
  rw [lg_entry_eq]
  generalize (lg_sl ([.ref k0, .int (nI f), .int (nI g)]) ++ List.replicate (8 - (lg_sl ([.ref k0, .int (nI f), .int (nI g)])).length) Slot.unset).toArray = ls at hl ⊢
  have hl : lv_has ls 8 [(0, .ref k0), (1, .int (nI f)), (2, .int (nI g))] := hl
  have heg := eO_le (k := (kd g).toInt) hn_g.1
  refine lv_aload_n hx hb dX11_isFreeWay_0 rfl (lv_at hl 0 rfl) ?_
  refine va_get (D := (dC, dI)) (ci := 9) (v := .ref (a 33)) (C := RX11) (T := TX11) (N := 55) hx hb hts inX11 hown hK hP 0 rfl rfl 33 (by decide) (hts _ mw_1192) (fun _ h9 => h9) rfl dX11_isFreeWay_1 ?_
  refine lv_iconst (v := 0) hx hb dX11_isFreeWay_4 (by decide) ?_
  refine z_iald hx hb hK hP 6 0 rfl rfl (e := 0) rfl (by omega) (by omega) dX11_isFreeWay_5 ?_
  refine lv_istore_n (lv' := [(3, .int (ox 0)), (0, .ref k0), (1, .int (nI f)), (2, .int (nI g))]) hx hb dX11_isFreeWay_6 rfl hl (by decide) rfl (fun ls hl => ?_)
  refine lv_aload_n hx hb dX11_isFreeWay_7 rfl (lv_at hl 1 rfl) ?_
  refine va_get (D := (dC, dI)) (ci := 9) (v := .ref (a 34)) (C := RX11) (T := TX11) (N := 55) hx hb hts inX11 hown hK hP 0 rfl rfl 34 (by decide) (hts _ mw_1193) (fun _ h9 => h9) rfl dX11_isFreeWay_8 ?_
  refine lv_iconst (v := 0) hx hb dX11_isFreeWay_11 (by decide) ?_
  refine z_iald hx hb hK hP 7 0 rfl rfl (e := 0) rfl (by omega) (by omega) dX11_isFreeWay_12 ?_
  refine lv_istore (lv' := [(4, .int (oy 0)), (3, .int (ox 0)), (0, .ref k0), (1, .int (nI f)), (2, .int (nI g))]) hx hb dX11_isFreeWay_13 hl (by decide) rfl (fun ls hl => ?_)
  refine lv_aload_n hx hb dX11_isFreeWay_15 rfl (lv_at hl 2 rfl) ?_
  refine va_get (D := (dC, dI)) (ci := 9) (v := .ref (a 12)) (C := RX11) (T := TX11) (N := 55) hx hb hts inX11 hown hK hP 0 rfl rfl 12 (by decide) (hts _ mw_1171) (fun _ h9 => h9) rfl dX11_isFreeWay_16 ?_
  refine lv_bipush (v := 40) hx hb dX11_isFreeWay_19 (by decide) ?_
  refine lv_iload_n hx hb dX11_isFreeWay_21 rfl (lv_at hl 3 rfl) ?_
  refine lv_imul hx hb dX11_isFreeWay_22 ?_
  refine zz_i (v := nI (40 * f)) (pk_mul 40 f) ?_
  refine z_iald hx hb hK hP 3 0 rfl rfl (e := 40 * f) rfl (by omega) (by omega) dX11_isFreeWay_23 ?_
  refine lv_istore (lv' := [(5, .int (cx (40 * f))), (4, .int (oy 0)), (3, .int (ox 0)), (0, .ref k0), (1, .int (nI f)), (2, .int (nI g))]) hx hb dX11_isFreeWay_24 hl (by decide) rfl (fun ls hl => ?_)
  refine lv_aload_n hx hb dX11_isFreeWay_26 rfl (lv_at hl 3 rfl) ?_
  refine va_get (D := (dC, dI)) (ci := 9) (v := .ref (a 13)) (C := RX11) (T := TX11) (N := 55) hx hb hts inX11 hown hK hP 0 rfl rfl 13 (by decide) (hts _ mw_1172) (fun _ h9 => h9) rfl dX11_isFreeWay_27 ?_
  refine lv_bipush (v := 40) hx hb dX11_isFreeWay_30 (by decide) ?_
  refine lv_iload_n hx hb dX11_isFreeWay_32 rfl (lv_at hl 4 rfl) ?_
  refine lv_imul hx hb dX11_isFreeWay_33 ?_
  refine zz_i (v := nI (40 * f)) (pk_mul 40 f) ?_
  refine z_iald hx hb hK hP 4 0 rfl rfl (e := 40 * f) rfl (by omega) (by omega) dX11_isFreeWay_34 ?_
  refine lv_istore (lv' := [(6, .int (cy (40 * f))), (5, .int (cx (40 * f))), (4, .int (oy 0)), (3, .int (ox 0)), (0, .ref k0), (1, .int (nI f)), (2, .int (nI g))]) hx hb dX11_isFreeWay_35 hl (by decide) rfl (fun ls hl => ?_)
  refine lv_iconst (v := 0) hx hb dX11_isFreeWay_37 (by decide) ?_
  refine lv_istore (lv' := [(7, .int 0), (6, .int (cy (40 * f))), (5, .int (cx (40 * f))), (4, .int (oy 0)), (3, .int (ox 0)), (0, .ref k0), (1, .int (nI f)), (2, .int (nI g))]) hx hb dX11_isFreeWay_38 hl (by decide) rfl (fun ls hl => ?_)
  have hl_40 : ∀ (n9 : Nat) (k : Nat) (S1 : Nat → Int32) (H : Heap) (locs : List Loc) (ls : Array Slot), eO (kd g).toInt m2 - k < n9 → (k ≤ eO (kd g).toInt m2) → (∀ j, j < k → fWy (ox 0).toInt (oy 0).toInt (cx (40 * f)).toInt (cy (40 * f)).toInt m2 (cF40 cx g) (cF40 cy g) j) → va_P (dC, dI) classes [(om k0 a I0 J0), (oa (a 1) cI 201 kd), (oa (a 11) cI 201 mn), (oa (a 12) cI 8040 cx), (oa (a 13) cI 8040 cy), (oa (a 32) cI 8 S1), (oa (a 33) cI 42 ox), (oa (a 34) cI 42 oy)] H → va_D A [(om k0 a I0 J0), (oa (a 1) cI 201 kd), (oa (a 11) cI 201 mn), (oa (a 12) cI 8040 cx), (oa (a 13) cI 8040 cy), (oa (a 32) cI 8 S1), (oa (a 33) cI 42 ox), (oa (a 34) cI 42 oy)] → va_S A s.heap H locs → lv_has ls 8 [(7, .int (nI k)), (6, .int (cy (40 * f))), (5, .int (cx (40 * f))), (4, .int (oy 0)), (3, .int (ox 0)), (0, .ref k0), (1, .int (nI f)), (2, .int (nI g))] → W p l e ((headSpec (.code yX11_isFreeWay cX11_isFreeWay 8 (some .boolean) :: ws0) ({ frames := 3, cells := 0, slots := 0, locals := 81 } : Room)).room) s m ([.ref k0, .int (nI f), .int (nI g)] : List Value).toArray below meth c H locs 0 0 Q9 (F0 m 40 ls []) := by
    intro n9
    induction n9 with
    | zero => intro k S1 H locs ls hm; exact absurd hm (Nat.not_lt_zero _)
    | succ n9 ih_40 =>
      intro k S1 H locs ls hm hk hall hP hD hS hl
      refine lv_iload hx hb dX11_isFreeWay_40 (lv_at hl 0 rfl) ?_
      refine lv_aload_n hx hb dX11_isFreeWay_42 rfl (lv_at hl 5 rfl) ?_
      refine lv_iload_n hx hb dX11_isFreeWay_43 rfl (lv_at hl 7 rfl) ?_
      have hPc := hP.sub (ws' := [(om k0 a I0 J0), (oa (a 1) cI 201 kd), (oa (a 11) cI 201 mn)]) [0, 1, 2] rfl
      have hDc := hD.sub (ws' := [(om k0 a I0 J0), (oa (a 1) cI 201 kd), (oa (a 11) cI 201 mn)]) [0, 1, 2] (by decide) rfl
      have hFc := va_free (wc := [(om k0 a I0 J0), (oa (a 1) cI 201 kd), (oa (a 11) cI 201 mn)]) hD hS hA [0, 1, 2] rfl
      refine zcall (st1 := [.int (nI (eO (kd g).toInt m2)), .int (nI k)]) (va_runV (As := [.int (nI g)]) (rest := [.int (nI k)]) ⟨hx, hb, hml, hown, hts⟩ (k_M_edgesOf l dC dI cI cZ cF H.size k0 a I0 J0 g m2 kd mn (by omega) (by assumption) (by omega)) (cwV 1 hts (zz_gV mw_1369 mw_1371 mw_41 mw_110 mc_yX11_edgesOf) rfl rfl rfl (by decide +kernel) ⟨Nat.le_of_ble_eq_true rfl, Nat.le_of_ble_eq_true rfl⟩) (zPV2 (q0 := 0) (ci := 9) hPc hDc hK hXN rfl rfl) rfl rfl hl.1 rfl (lv_room (Nat.le_of_ble_eq_true rfl)) dX11_isFreeWay_44 ⟨Nat.le_of_ble_eq_true rfl, Nat.le_of_ble_eq_true rfl⟩) hS hFc hFc rfl (fun t H1 locs ht hB hk1 hS => ?_)
      obtain ⟨hP1, hD1⟩ := hB
      rw [ht] at hP1
      obtain ⟨hP, hD⟩ := va_join (wr := [(oa (a 12) cI 8040 cx), (oa (a 13) cI 8040 cy), (oa (a 32) cI 8 S1), (oa (a 33) cI 42 ox), (oa (a 34) cI 42 oy)]) (w1 := [(om k0 a I0 J0), (oa (a 1) cI 201 kd), (oa (a 11) cI 201 mn)]) hP hD [0, 1, 2] [3, 4, 5, 6, 7] rfl rfl (by decide) (by decide) hk1 hFc hP1 hD1
      clear hk1 hPc hDc hFc hP1 hD1 ht
      generalize H1 = H at hP hS ⊢
      have hP := hP.sub (ws' := [(om k0 a I0 J0), (oa (a 1) cI 201 kd), (oa (a 11) cI 201 mn), (oa (a 12) cI 8040 cx), (oa (a 13) cI 8040 cy), (oa (a 32) cI 8 S1), (oa (a 33) cI 42 ox), (oa (a 34) cI 42 oy)]) [5, 6, 7, 0, 1, 2, 3, 4] rfl
      have hD := hD.sub (ws' := [(om k0 a I0 J0), (oa (a 1) cI 201 kd), (oa (a 11) cI 201 mn), (oa (a 12) cI 8040 cx), (oa (a 13) cI 8040 cy), (oa (a 32) cI 8 S1), (oa (a 33) cI 42 ox), (oa (a 34) cI 42 oy)]) [5, 6, 7, 0, 1, 2, 3, 4] (by decide) rfl
      have hP : va_P (dC, dI) classes [(om k0 a I0 J0), (oa (a 1) cI 201 kd), (oa (a 11) cI 201 mn), (oa (a 12) cI 8040 cx), (oa (a 13) cI 8040 cy), (oa (a 32) cI 8 S1), (oa (a 33) cI 42 ox), (oa (a 34) cI 42 oy)] H := hP
      have hD : va_D A [(om k0 a I0 J0), (oa (a 1) cI 201 kd), (oa (a 11) cI 201 mn), (oa (a 12) cI 8040 cx), (oa (a 13) cI 8040 cy), (oa (a 32) cI 8 S1), (oa (a 33) cI 42 ox), (oa (a 34) cI 42 oy)] := hD
      refine lv_icmp_ge (tgt := 117) hx hb dX11_isFreeWay_47 (by decide) (fun c_1 => ?_) (fun c_1 => ?_)
      · have c_1 : ((eO (kd g).toInt m2 : Nat) : Int) ≤ ((k : Nat) : Int) := zc_le (nI_toInt (by omega)) (nI_toInt (by omega)) c_1
        refine lv_iconst (v := 1) hx hb dX11_isFreeWay_117 (by decide) ?_
        have hP9 := hP.sub (ws' := [(om k0 a I0 J0), (oa (a 1) cI 201 kd), (oa (a 11) cI 201 mn), (oa (a 12) cI 8040 cx), (oa (a 13) cI 8040 cy), (oa (a 32) cI 8 S1), (oa (a 33) cI 42 ox), (oa (a 34) cI 42 oy)]) [0, 1, 2, 3, 4, 5, 6, 7] rfl
        have hD9 := hD.sub (ws' := [(om k0 a I0 J0), (oa (a 1) cI 201 kd), (oa (a 11) cI 201 mn), (oa (a 12) cI 8040 cx), (oa (a 13) cI 8040 cy), (oa (a 32) cI 8 S1), (oa (a 33) cI 42 ox), (oa (a 34) cI 42 oy)]) [0, 1, 2, 3, 4, 5, 6, 7] (by decide) rfl
        rw [hQ9]
        exact W.zret (ty := .boolean) (v := 1) hx hb hr (rfl) (fun t ht hW => ⟨⟨congrArg (fun z => Outcome.returned (some (Value.int z))) (show (1 : Int32) = pI (∀ k, k < eO (kd g).toInt m2 → fWy (ox 0).toInt (oy 0).toInt (cx (40 * f)).toInt (cy (40 * f)).toInt m2 (cF40 cx g) (cF40 cy g) k) from (zp_t (fun j hj => hall j (by omega))).symm), S1, by rw [ht]; exact hP9, hD9⟩, hS.F ht⟩) hS.2.2 dX11_isFreeWay_118
      · have c_1 : ((k : Nat) : Int) < ((eO (kd g).toInt m2 : Nat) : Int) := zc_nle (nI_toInt (by omega)) (nI_toInt (by omega)) c_1
        have hk9 : k < m2 := (by omega)
        have hnk := nxt_lt (n := m2) (i := k) (by omega)
        refine lv_aload_n hx hb dX11_isFreeWay_50 rfl (lv_at hl 5 rfl) ?_
        refine lv_iload_n hx hb dX11_isFreeWay_51 rfl (lv_at hl 7 rfl) ?_
        refine lv_iload hx hb dX11_isFreeWay_52 (lv_at hl 0 rfl) ?_
        refine lv_iconst (v := 4) hx hb dX11_isFreeWay_54 (by decide) ?_
        have hPc := hP.sub (ws' := [(om k0 a I0 J0), (oa (a 11) cI 201 mn), (oa (a 12) cI 8040 cx), (oa (a 13) cI 8040 cy), (oa (a 32) cI 8 S1)]) [0, 2, 3, 4, 5] rfl
        have hDc := hD.sub (ws' := [(om k0 a I0 J0), (oa (a 11) cI 201 mn), (oa (a 12) cI 8040 cx), (oa (a 13) cI 8040 cy), (oa (a 32) cI 8 S1)]) [0, 2, 3, 4, 5] (by decide) rfl
        have hFc := va_free (wc := [(om k0 a I0 J0), (oa (a 11) cI 201 mn), (oa (a 12) cI 8040 cx), (oa (a 13) cI 8040 cy), (oa (a 32) cI 8 S1)]) hD hS hA [0, 2, 3, 4, 5] rfl
        refine zcall (st1 := []) (va_runV (As := [.int (nI g), .int (nI k), .int 4]) (rest := []) ⟨hx, hb, hml, hown, hts⟩ (k_M_edge l dC dI cI cZ cF H.size k0 a I0 J0 g m2 k 4 mn cx cy S1 (by omega) (by assumption) (by omega) (by omega) (by omega)) (cwV 3 hts (zz_gV mw_1373 mw_1375 mw_42 mw_110 mc_yX11_edge) rfl rfl rfl (by decide +kernel) ⟨Nat.le_of_ble_eq_true rfl, Nat.le_of_ble_eq_true rfl⟩) (zPV2 (q0 := 0) (ci := 9) hPc hDc hK hXN rfl rfl) rfl rfl hl.1 rfl (lv_room (Nat.le_of_ble_eq_true rfl)) dX11_isFreeWay_55 ⟨Nat.le_of_ble_eq_true rfl, Nat.le_of_ble_eq_true rfl⟩) hS hFc hFc rfl (fun t H1 locs ht hB hk1 hS => ?_)
        obtain ⟨S2, u0, u1, u2, u3, ur, hP1, hD1⟩ := hB
        rw [ht] at hP1
        obtain ⟨hP, hD⟩ := va_join (wr := [(oa (a 1) cI 201 kd), (oa (a 33) cI 42 ox), (oa (a 34) cI 42 oy)]) (w1 := [(om k0 a I0 J0), (oa (a 11) cI 201 mn), (oa (a 12) cI 8040 cx), (oa (a 13) cI 8040 cy), (oa (a 32) cI 8 S2)]) hP hD [0, 2, 3, 4, 5] [1, 6, 7] rfl rfl (by decide) (by decide) hk1 hFc hP1 hD1
        clear hk1 hPc hDc hFc hP1 hD1 ht
        generalize H1 = H at hP hS ⊢
        have hP := hP.sub (ws' := [(om k0 a I0 J0), (oa (a 1) cI 201 kd), (oa (a 11) cI 201 mn), (oa (a 12) cI 8040 cx), (oa (a 13) cI 8040 cy), (oa (a 32) cI 8 S2), (oa (a 33) cI 42 ox), (oa (a 34) cI 42 oy)]) [3, 0, 4, 5, 6, 7, 1, 2] rfl
        have hD := hD.sub (ws' := [(om k0 a I0 J0), (oa (a 1) cI 201 kd), (oa (a 11) cI 201 mn), (oa (a 12) cI 8040 cx), (oa (a 13) cI 8040 cy), (oa (a 32) cI 8 S2), (oa (a 33) cI 42 ox), (oa (a 34) cI 42 oy)]) [3, 0, 4, 5, 6, 7, 1, 2] (by decide) rfl
        have hP : va_P (dC, dI) classes [(om k0 a I0 J0), (oa (a 1) cI 201 kd), (oa (a 11) cI 201 mn), (oa (a 12) cI 8040 cx), (oa (a 13) cI 8040 cy), (oa (a 32) cI 8 S2), (oa (a 33) cI 42 ox), (oa (a 34) cI 42 oy)] H := hP
        have hD : va_D A [(om k0 a I0 J0), (oa (a 1) cI 201 kd), (oa (a 11) cI 201 mn), (oa (a 12) cI 8040 cx), (oa (a 13) cI 8040 cy), (oa (a 32) cI 8 S2), (oa (a 33) cI 42 ox), (oa (a 34) cI 42 oy)] := hD
        refine lv_aload_n hx hb dX11_isFreeWay_58 rfl (lv_at hl 5 rfl) ?_
        refine va_get (D := (dC, dI)) (ci := 9) (v := .ref (a 32)) (C := RX11) (T := TX11) (N := 55) hx hb hts inX11 hown hK hP 0 rfl rfl 32 (by decide) (hts _ mw_1191) (fun _ h9 => h9) rfl dX11_isFreeWay_59 ?_
        refine lv_iconst (v := 0) hx hb dX11_isFreeWay_62 (by decide) ?_
        refine lv_iload_n hx hb dX11_isFreeWay_63 rfl (lv_at hl 4 rfl) ?_
        refine z_iast hx hb hK hP hD hS 5 0 rfl rfl (e := 0) (x := ox 0) rfl (by omega) (by omega) dX11_isFreeWay_64 (fun H locs hP hD hS => ?_)
        have hP : va_P (dC, dI) classes [(om k0 a I0 J0), (oa (a 1) cI 201 kd), (oa (a 11) cI 201 mn), (oa (a 12) cI 8040 cx), (oa (a 13) cI 8040 cy), (oa (a 32) cI 8 (upd S2 0 (ox 0))), (oa (a 33) cI 42 ox), (oa (a 34) cI 42 oy)] H := hP
        have hD : va_D A [(om k0 a I0 J0), (oa (a 1) cI 201 kd), (oa (a 11) cI 201 mn), (oa (a 12) cI 8040 cx), (oa (a 13) cI 8040 cy), (oa (a 32) cI 8 (upd S2 0 (ox 0))), (oa (a 33) cI 42 ox), (oa (a 34) cI 42 oy)] := hD
        refine lv_aload_n hx hb dX11_isFreeWay_65 rfl (lv_at hl 5 rfl) ?_
        refine va_get (D := (dC, dI)) (ci := 9) (v := .ref (a 32)) (C := RX11) (T := TX11) (N := 55) hx hb hts inX11 hown hK hP 0 rfl rfl 32 (by decide) (hts _ mw_1191) (fun _ h9 => h9) rfl dX11_isFreeWay_66 ?_
        refine lv_iconst (v := 1) hx hb dX11_isFreeWay_69 (by decide) ?_
        refine lv_iload hx hb dX11_isFreeWay_70 (lv_at hl 3 rfl) ?_
        refine z_iast hx hb hK hP hD hS 5 0 rfl rfl (e := 1) (x := oy 0) rfl (by omega) (by omega) dX11_isFreeWay_72 (fun H locs hP hD hS => ?_)
        have hP : va_P (dC, dI) classes [(om k0 a I0 J0), (oa (a 1) cI 201 kd), (oa (a 11) cI 201 mn), (oa (a 12) cI 8040 cx), (oa (a 13) cI 8040 cy), (oa (a 32) cI 8 (upd (upd S2 0 (ox 0)) 1 (oy 0))), (oa (a 33) cI 42 ox), (oa (a 34) cI 42 oy)] H := hP
        have hD : va_D A [(om k0 a I0 J0), (oa (a 1) cI 201 kd), (oa (a 11) cI 201 mn), (oa (a 12) cI 8040 cx), (oa (a 13) cI 8040 cy), (oa (a 32) cI 8 (upd (upd S2 0 (ox 0)) 1 (oy 0))), (oa (a 33) cI 42 ox), (oa (a 34) cI 42 oy)] := hD
        refine lv_aload_n hx hb dX11_isFreeWay_73 rfl (lv_at hl 5 rfl) ?_
        refine va_get (D := (dC, dI)) (ci := 9) (v := .ref (a 32)) (C := RX11) (T := TX11) (N := 55) hx hb hts inX11 hown hK hP 0 rfl rfl 32 (by decide) (hts _ mw_1191) (fun _ h9 => h9) rfl dX11_isFreeWay_74 ?_
        refine lv_iconst (v := 2) hx hb dX11_isFreeWay_77 (by decide) ?_
        refine lv_iload hx hb dX11_isFreeWay_78 (lv_at hl 2 rfl) ?_
        refine z_iast hx hb hK hP hD hS 5 0 rfl rfl (e := 2) (x := cx (40 * f)) rfl (by omega) (by omega) dX11_isFreeWay_80 (fun H locs hP hD hS => ?_)
        have hP : va_P (dC, dI) classes [(om k0 a I0 J0), (oa (a 1) cI 201 kd), (oa (a 11) cI 201 mn), (oa (a 12) cI 8040 cx), (oa (a 13) cI 8040 cy), (oa (a 32) cI 8 (upd (upd (upd S2 0 (ox 0)) 1 (oy 0)) 2 (cx (40 * f)))), (oa (a 33) cI 42 ox), (oa (a 34) cI 42 oy)] H := hP
        have hD : va_D A [(om k0 a I0 J0), (oa (a 1) cI 201 kd), (oa (a 11) cI 201 mn), (oa (a 12) cI 8040 cx), (oa (a 13) cI 8040 cy), (oa (a 32) cI 8 (upd (upd (upd S2 0 (ox 0)) 1 (oy 0)) 2 (cx (40 * f)))), (oa (a 33) cI 42 ox), (oa (a 34) cI 42 oy)] := hD
        refine lv_aload_n hx hb dX11_isFreeWay_81 rfl (lv_at hl 5 rfl) ?_
        refine va_get (D := (dC, dI)) (ci := 9) (v := .ref (a 32)) (C := RX11) (T := TX11) (N := 55) hx hb hts inX11 hown hK hP 0 rfl rfl 32 (by decide) (hts _ mw_1191) (fun _ h9 => h9) rfl dX11_isFreeWay_82 ?_
        refine lv_iconst (v := 3) hx hb dX11_isFreeWay_85 (by decide) ?_
        refine lv_iload hx hb dX11_isFreeWay_86 (lv_at hl 1 rfl) ?_
        refine z_iast hx hb hK hP hD hS 5 0 rfl rfl (e := 3) (x := cy (40 * f)) rfl (by omega) (by omega) dX11_isFreeWay_88 (fun H locs hP hD hS => ?_)
        have hP : va_P (dC, dI) classes [(om k0 a I0 J0), (oa (a 1) cI 201 kd), (oa (a 11) cI 201 mn), (oa (a 12) cI 8040 cx), (oa (a 13) cI 8040 cy), (oa (a 32) cI 8 (upd (upd (upd (upd S2 0 (ox 0)) 1 (oy 0)) 2 (cx (40 * f))) 3 (cy (40 * f)))), (oa (a 33) cI 42 ox), (oa (a 34) cI 42 oy)] H := hP
        have hD : va_D A [(om k0 a I0 J0), (oa (a 1) cI 201 kd), (oa (a 11) cI 201 mn), (oa (a 12) cI 8040 cx), (oa (a 13) cI 8040 cy), (oa (a 32) cI 8 (upd (upd (upd (upd S2 0 (ox 0)) 1 (oy 0)) 2 (cx (40 * f))) 3 (cy (40 * f)))), (oa (a 33) cI 42 ox), (oa (a 34) cI 42 oy)] := hD
        have w4 : (upd (upd (upd (upd S2 0 (ox 0)) 1 (oy 0)) 2 (cx (40 * f))) 3 (cy (40 * f))) 4 = cF40 cx g k := u0
        have w5 : (upd (upd (upd (upd S2 0 (ox 0)) 1 (oy 0)) 2 (cx (40 * f))) 3 (cy (40 * f))) 5 = cF40 cy g k := u1
        have w6 : (upd (upd (upd (upd S2 0 (ox 0)) 1 (oy 0)) 2 (cx (40 * f))) 3 (cy (40 * f))) 6 = cF40 cx g (nxt m2 k) := u2
        have w7 : (upd (upd (upd (upd S2 0 (ox 0)) 1 (oy 0)) 2 (cx (40 * f))) 3 (cy (40 * f))) 7 = cF40 cy g (nxt m2 k) := u3
        have hs3 := sPl (S := upd (upd (upd (upd S2 0 (ox 0)) 1 (oy 0)) 2 (cx (40 * f))) 3 (cy (40 * f))) k1 k2 k3 k4 (by rw [w4]; exact (hp_g k hk9).1) (by rw [w5]; exact (hp_g k hk9).2) (by rw [w6]; exact (hp_g _ hnk).1) (by rw [w7]; exact (hp_g _ hnk).2)
        refine lv_aload_n hx hb dX11_isFreeWay_89 rfl (lv_at hl 5 rfl) ?_
        refine va_get (D := (dC, dI)) (ci := 9) (v := .ref (a 32)) (C := RX11) (T := TX11) (N := 55) hx hb hts inX11 hown hK hP 0 rfl rfl 32 (by decide) (hts _ mw_1191) (fun _ h9 => h9) rfl dX11_isFreeWay_90 ?_
        have hPc := hP.sub (ws' := [(oa (a 32) cI 8 (upd (upd (upd (upd S2 0 (ox 0)) 1 (oy 0)) 2 (cx (40 * f))) 3 (cy (40 * f))))]) [5] rfl
        have hDc := hD.sub (ws' := [(oa (a 32) cI 8 (upd (upd (upd (upd S2 0 (ox 0)) 1 (oy 0)) 2 (cx (40 * f))) 3 (cy (40 * f))))]) [5] (by decide) rfl
        have hFc := va_free (wc := [(oa (a 32) cI 8 (upd (upd (upd (upd S2 0 (ox 0)) 1 (oy 0)) 2 (cx (40 * f))) 3 (cy (40 * f))))]) hD hS hA [5] rfl
        refine zcall (st1 := [.int (pI (mtC ((upd (upd (upd (upd S2 0 (ox 0)) 1 (oy 0)) 2 (cx (40 * f))) 3 (cy (40 * f))) 0).toInt ((upd (upd (upd (upd S2 0 (ox 0)) 1 (oy 0)) 2 (cx (40 * f))) 3 (cy (40 * f))) 1).toInt ((upd (upd (upd (upd S2 0 (ox 0)) 1 (oy 0)) 2 (cx (40 * f))) 3 (cy (40 * f))) 2).toInt ((upd (upd (upd (upd S2 0 (ox 0)) 1 (oy 0)) 2 (cx (40 * f))) 3 (cy (40 * f))) 3).toInt ((upd (upd (upd (upd S2 0 (ox 0)) 1 (oy 0)) 2 (cx (40 * f))) 3 (cy (40 * f))) 4).toInt ((upd (upd (upd (upd S2 0 (ox 0)) 1 (oy 0)) 2 (cx (40 * f))) 3 (cy (40 * f))) 5).toInt ((upd (upd (upd (upd S2 0 (ox 0)) 1 (oy 0)) 2 (cx (40 * f))) 3 (cy (40 * f))) 6).toInt ((upd (upd (upd (upd S2 0 (ox 0)) 1 (oy 0)) 2 (cx (40 * f))) 3 (cy (40 * f))) 7).toInt))]) (va_runS (As := [.ref (a 32)]) (rest := []) ⟨hx, hb, hml, hown, hts⟩ (k_M_touch l dC dI cI cZ cF H.size (a 32) (upd (upd (upd (upd S2 0 (ox 0)) 1 (oy 0)) 2 (cx (40 * f))) 3 (cy (40 * f))) (hs3)) (va_cwS 1 hts (zz_gS mw_1388 mw_1389 mw_110 mc_yX11_touch) rfl rfl rfl (by decide +kernel) ⟨Nat.le_of_ble_eq_true rfl, Nat.le_of_ble_eq_true rfl⟩) (zPS2 hPc hDc hK hXN) rfl rfl hl.1 rfl (lv_room (Nat.le_of_ble_eq_true rfl)) dX11_isFreeWay_93 ⟨Nat.le_of_ble_eq_true rfl, Nat.le_of_ble_eq_true rfl⟩) hS hFc hFc rfl (fun t H1 locs ht hB hk1 hS => ?_)
        obtain ⟨hP1, hD1⟩ := hB
        rw [ht] at hP1
        obtain ⟨hP, hD⟩ := va_join (wr := [(om k0 a I0 J0), (oa (a 1) cI 201 kd), (oa (a 11) cI 201 mn), (oa (a 12) cI 8040 cx), (oa (a 13) cI 8040 cy), (oa (a 33) cI 42 ox), (oa (a 34) cI 42 oy)]) (w1 := [(oa (a 32) cI 8 (upd (upd (upd (upd S2 0 (ox 0)) 1 (oy 0)) 2 (cx (40 * f))) 3 (cy (40 * f))))]) hP hD [5] [0, 1, 2, 3, 4, 6, 7] rfl rfl (by decide) (by decide) hk1 hFc hP1 hD1
        clear hk1 hPc hDc hFc hP1 hD1 ht
        generalize H1 = H at hP hS ⊢
        have hP := hP.sub (ws' := [(om k0 a I0 J0), (oa (a 1) cI 201 kd), (oa (a 11) cI 201 mn), (oa (a 12) cI 8040 cx), (oa (a 13) cI 8040 cy), (oa (a 32) cI 8 (upd (upd (upd (upd S2 0 (ox 0)) 1 (oy 0)) 2 (cx (40 * f))) 3 (cy (40 * f)))), (oa (a 33) cI 42 ox), (oa (a 34) cI 42 oy)]) [0, 1, 2, 3, 4, 7, 5, 6] rfl
        have hD := hD.sub (ws' := [(om k0 a I0 J0), (oa (a 1) cI 201 kd), (oa (a 11) cI 201 mn), (oa (a 12) cI 8040 cx), (oa (a 13) cI 8040 cy), (oa (a 32) cI 8 (upd (upd (upd (upd S2 0 (ox 0)) 1 (oy 0)) 2 (cx (40 * f))) 3 (cy (40 * f)))), (oa (a 33) cI 42 ox), (oa (a 34) cI 42 oy)]) [0, 1, 2, 3, 4, 7, 5, 6] (by decide) rfl
        have hP : va_P (dC, dI) classes [(om k0 a I0 J0), (oa (a 1) cI 201 kd), (oa (a 11) cI 201 mn), (oa (a 12) cI 8040 cx), (oa (a 13) cI 8040 cy), (oa (a 32) cI 8 (upd (upd (upd (upd S2 0 (ox 0)) 1 (oy 0)) 2 (cx (40 * f))) 3 (cy (40 * f)))), (oa (a 33) cI 42 ox), (oa (a 34) cI 42 oy)] H := hP
        have hD : va_D A [(om k0 a I0 J0), (oa (a 1) cI 201 kd), (oa (a 11) cI 201 mn), (oa (a 12) cI 8040 cx), (oa (a 13) cI 8040 cy), (oa (a 32) cI 8 (upd (upd (upd (upd S2 0 (ox 0)) 1 (oy 0)) 2 (cx (40 * f))) 3 (cy (40 * f)))), (oa (a 33) cI 42 ox), (oa (a 34) cI 42 oy)] := hD
        refine zz_i (v := pI (mtC (ox 0).toInt (oy 0).toInt (cx (40 * f)).toInt (cy (40 * f)).toInt (cF40 cx g k).toInt (cF40 cy g k).toInt (cF40 cx g (nxt m2 k)).toInt (cF40 cy g (nxt m2 k)).toInt)) (zp_iff (mt_cg (S := upd (upd (upd (upd S2 0 (ox 0)) 1 (oy 0)) 2 (cx (40 * f))) 3 (cy (40 * f))) rfl rfl rfl rfl w4 w5 w6 w7)) ?_
        refine lv_if_eq (tgt := 111) hx hb dX11_isFreeWay_96 (by decide) (fun c_2 => ?_) (fun c_2 => ?_)
        · have c_2 : ¬ (mtC (ox 0).toInt (oy 0).toInt (cx (40 * f)).toInt (cy (40 * f)).toInt (cF40 cx g k).toInt (cF40 cy g k).toInt (cF40 cx g (nxt m2 k)).toInt (cF40 cy g (nxt m2 k)).toInt) := zp_0 c_2
          refine lv_iinc (v := nI (k + 1)) (lv' := [(7, .int (nI (k + 1))), (6, .int (cy (40 * f))), (5, .int (cx (40 * f))), (4, .int (oy 0)), (3, .int (ox 0)), (0, .ref k0), (1, .int (nI f)), (2, .int (nI g))]) hx hb dX11_isFreeWay_111 hl (k := 0) rfl (nI_add k 1) (by decide) rfl (fun ls hl => ?_)
          refine lv_goto (tgt := 40) hx hb dX11_isFreeWay_114 (by decide) ?_
          exact ih_40 (k + 1) (upd (upd (upd (upd S2 0 (ox 0)) 1 (oy 0)) 2 (cx (40 * f))) 3 (cy (40 * f))) H locs ls (by omega) (by omega) (by intro j hj; rcases Nat.lt_or_ge j k with h | h; exact hall j h; rw [show j = k by omega]; unfold fWy; first | exact fun h => absurd h (by assumption) | exact fun _ => (by assumption)) hP hD hS (lv_sub hl [0, 1, 2, 3, 4, 5, 6, 7] rfl)
        · have c_2 : mtC (ox 0).toInt (oy 0).toInt (cx (40 * f)).toInt (cy (40 * f)).toInt (cF40 cx g k).toInt (cF40 cy g k).toInt (cF40 cx g (nxt m2 k)).toInt (cF40 cy g (nxt m2 k)).toInt := zp_1 c_2
          refine lv_aload_n hx hb dX11_isFreeWay_99 rfl (lv_at hl 5 rfl) ?_
          refine lv_iload_n hx hb dX11_isFreeWay_100 rfl (lv_at hl 4 rfl) ?_
          refine lv_iload hx hb dX11_isFreeWay_101 (lv_at hl 3 rfl) ?_
          have hPc := hP.sub (ws' := [(om k0 a I0 J0), (oa (a 32) cI 8 (upd (upd (upd (upd S2 0 (ox 0)) 1 (oy 0)) 2 (cx (40 * f))) 3 (cy (40 * f))))]) [0, 5] rfl
          have hDc := hD.sub (ws' := [(om k0 a I0 J0), (oa (a 32) cI 8 (upd (upd (upd (upd S2 0 (ox 0)) 1 (oy 0)) 2 (cx (40 * f))) 3 (cy (40 * f))))]) [0, 5] (by decide) rfl
          have hFc := va_free (wc := [(om k0 a I0 J0), (oa (a 32) cI 8 (upd (upd (upd (upd S2 0 (ox 0)) 1 (oy 0)) 2 (cx (40 * f))) 3 (cy (40 * f))))]) hD hS hA [0, 5] rfl
          refine zcall (st1 := [.int (pI (oAt ((upd (upd (upd (upd S2 0 (ox 0)) 1 (oy 0)) 2 (cx (40 * f))) 3 (cy (40 * f))) 0).toInt ((upd (upd (upd (upd S2 0 (ox 0)) 1 (oy 0)) 2 (cx (40 * f))) 3 (cy (40 * f))) 1).toInt ((upd (upd (upd (upd S2 0 (ox 0)) 1 (oy 0)) 2 (cx (40 * f))) 3 (cy (40 * f))) 2).toInt ((upd (upd (upd (upd S2 0 (ox 0)) 1 (oy 0)) 2 (cx (40 * f))) 3 (cy (40 * f))) 3).toInt ((upd (upd (upd (upd S2 0 (ox 0)) 1 (oy 0)) 2 (cx (40 * f))) 3 (cy (40 * f))) 4).toInt ((upd (upd (upd (upd S2 0 (ox 0)) 1 (oy 0)) 2 (cx (40 * f))) 3 (cy (40 * f))) 5).toInt ((upd (upd (upd (upd S2 0 (ox 0)) 1 (oy 0)) 2 (cx (40 * f))) 3 (cy (40 * f))) 6).toInt ((upd (upd (upd (upd S2 0 (ox 0)) 1 (oy 0)) 2 (cx (40 * f))) 3 (cy (40 * f))) 7).toInt (ox 0).toInt (oy 0).toInt))]) (va_runV (As := [.int (ox 0), .int (oy 0)]) (rest := []) ⟨hx, hb, hml, hown, hts⟩ (k_M_isOnlyAt l dC dI cI cZ cF H.size k0 a I0 J0 (ox 0) (oy 0) (upd (upd (upd (upd S2 0 (ox 0)) 1 (oy 0)) 2 (cx (40 * f))) 3 (cy (40 * f))) (hs3) (k1) (k2)) (cwV 2 hts (zz_gV mw_1510 mw_1512 mw_71 mw_110 mc_yX11_isOnlyAt) rfl rfl rfl (by decide +kernel) ⟨Nat.le_of_ble_eq_true rfl, Nat.le_of_ble_eq_true rfl⟩) (zPV2 (q0 := 0) (ci := 9) hPc hDc hK hXN rfl rfl) rfl rfl hl.1 rfl (lv_room (Nat.le_of_ble_eq_true rfl)) dX11_isFreeWay_103 ⟨Nat.le_of_ble_eq_true rfl, Nat.le_of_ble_eq_true rfl⟩) hS hFc hFc rfl (fun t H1 locs ht hB hk1 hS => ?_)
          obtain ⟨hP1, hD1⟩ := hB
          rw [ht] at hP1
          obtain ⟨hP, hD⟩ := va_join (wr := [(oa (a 1) cI 201 kd), (oa (a 11) cI 201 mn), (oa (a 12) cI 8040 cx), (oa (a 13) cI 8040 cy), (oa (a 33) cI 42 ox), (oa (a 34) cI 42 oy)]) (w1 := [(om k0 a I0 J0), (oa (a 32) cI 8 (upd (upd (upd (upd S2 0 (ox 0)) 1 (oy 0)) 2 (cx (40 * f))) 3 (cy (40 * f))))]) hP hD [0, 5] [1, 2, 3, 4, 6, 7] rfl rfl (by decide) (by decide) hk1 hFc hP1 hD1
          clear hk1 hPc hDc hFc hP1 hD1 ht
          generalize H1 = H at hP hS ⊢
          have hP := hP.sub (ws' := [(om k0 a I0 J0), (oa (a 1) cI 201 kd), (oa (a 11) cI 201 mn), (oa (a 12) cI 8040 cx), (oa (a 13) cI 8040 cy), (oa (a 32) cI 8 (upd (upd (upd (upd S2 0 (ox 0)) 1 (oy 0)) 2 (cx (40 * f))) 3 (cy (40 * f)))), (oa (a 33) cI 42 ox), (oa (a 34) cI 42 oy)]) [6, 0, 1, 2, 3, 7, 4, 5] rfl
          have hD := hD.sub (ws' := [(om k0 a I0 J0), (oa (a 1) cI 201 kd), (oa (a 11) cI 201 mn), (oa (a 12) cI 8040 cx), (oa (a 13) cI 8040 cy), (oa (a 32) cI 8 (upd (upd (upd (upd S2 0 (ox 0)) 1 (oy 0)) 2 (cx (40 * f))) 3 (cy (40 * f)))), (oa (a 33) cI 42 ox), (oa (a 34) cI 42 oy)]) [6, 0, 1, 2, 3, 7, 4, 5] (by decide) rfl
          have hP : va_P (dC, dI) classes [(om k0 a I0 J0), (oa (a 1) cI 201 kd), (oa (a 11) cI 201 mn), (oa (a 12) cI 8040 cx), (oa (a 13) cI 8040 cy), (oa (a 32) cI 8 (upd (upd (upd (upd S2 0 (ox 0)) 1 (oy 0)) 2 (cx (40 * f))) 3 (cy (40 * f)))), (oa (a 33) cI 42 ox), (oa (a 34) cI 42 oy)] H := hP
          have hD : va_D A [(om k0 a I0 J0), (oa (a 1) cI 201 kd), (oa (a 11) cI 201 mn), (oa (a 12) cI 8040 cx), (oa (a 13) cI 8040 cy), (oa (a 32) cI 8 (upd (upd (upd (upd S2 0 (ox 0)) 1 (oy 0)) 2 (cx (40 * f))) 3 (cy (40 * f)))), (oa (a 33) cI 42 ox), (oa (a 34) cI 42 oy)] := hD
          refine zz_i (v := pI (oAt (ox 0).toInt (oy 0).toInt (cx (40 * f)).toInt (cy (40 * f)).toInt (cF40 cx g k).toInt (cF40 cy g k).toInt (cF40 cx g (nxt m2 k)).toInt (cF40 cy g (nxt m2 k)).toInt (ox 0).toInt (oy 0).toInt)) (zp_iff (oa_cg (S := upd (upd (upd (upd S2 0 (ox 0)) 1 (oy 0)) 2 (cx (40 * f))) 3 (cy (40 * f))) rfl rfl rfl rfl w4 w5 w6 w7)) ?_
          refine lv_if_ne (tgt := 111) hx hb dX11_isFreeWay_106 (by decide) (fun c_3 => ?_) (fun c_3 => ?_)
          · have c_3 : oAt (ox 0).toInt (oy 0).toInt (cx (40 * f)).toInt (cy (40 * f)).toInt (cF40 cx g k).toInt (cF40 cy g k).toInt (cF40 cx g (nxt m2 k)).toInt (cF40 cy g (nxt m2 k)).toInt (ox 0).toInt (oy 0).toInt := zp_1 c_3
            refine lv_iinc (v := nI (k + 1)) (lv' := [(7, .int (nI (k + 1))), (6, .int (cy (40 * f))), (5, .int (cx (40 * f))), (4, .int (oy 0)), (3, .int (ox 0)), (0, .ref k0), (1, .int (nI f)), (2, .int (nI g))]) hx hb dX11_isFreeWay_111 hl (k := 0) rfl (nI_add k 1) (by decide) rfl (fun ls hl => ?_)
            refine lv_goto (tgt := 40) hx hb dX11_isFreeWay_114 (by decide) ?_
            exact ih_40 (k + 1) (upd (upd (upd (upd S2 0 (ox 0)) 1 (oy 0)) 2 (cx (40 * f))) 3 (cy (40 * f))) H locs ls (by omega) (by omega) (by intro j hj; rcases Nat.lt_or_ge j k with h | h; exact hall j h; rw [show j = k by omega]; unfold fWy; first | exact fun h => absurd h (by assumption) | exact fun _ => (by assumption)) hP hD hS (lv_sub hl [0, 1, 2, 3, 4, 5, 6, 7] rfl)
          · have c_3 : ¬ (oAt (ox 0).toInt (oy 0).toInt (cx (40 * f)).toInt (cy (40 * f)).toInt (cF40 cx g k).toInt (cF40 cy g k).toInt (cF40 cx g (nxt m2 k)).toInt (cF40 cy g (nxt m2 k)).toInt (ox 0).toInt (oy 0).toInt) := zp_0 c_3
            refine lv_iconst (v := 0) hx hb dX11_isFreeWay_109 (by decide) ?_
            have hP9 := hP.sub (ws' := [(om k0 a I0 J0), (oa (a 1) cI 201 kd), (oa (a 11) cI 201 mn), (oa (a 12) cI 8040 cx), (oa (a 13) cI 8040 cy), (oa (a 32) cI 8 (upd (upd (upd (upd S2 0 (ox 0)) 1 (oy 0)) 2 (cx (40 * f))) 3 (cy (40 * f)))), (oa (a 33) cI 42 ox), (oa (a 34) cI 42 oy)]) [0, 1, 2, 3, 4, 5, 6, 7] rfl
            have hD9 := hD.sub (ws' := [(om k0 a I0 J0), (oa (a 1) cI 201 kd), (oa (a 11) cI 201 mn), (oa (a 12) cI 8040 cx), (oa (a 13) cI 8040 cy), (oa (a 32) cI 8 (upd (upd (upd (upd S2 0 (ox 0)) 1 (oy 0)) 2 (cx (40 * f))) 3 (cy (40 * f)))), (oa (a 33) cI 42 ox), (oa (a 34) cI 42 oy)]) [0, 1, 2, 3, 4, 5, 6, 7] (by decide) rfl
            rw [hQ9]
            exact W.zret (ty := .boolean) (v := 0) hx hb hr (rfl) (fun t ht hW => ⟨⟨congrArg (fun z => Outcome.returned (some (Value.int z))) (show (0 : Int32) = pI (∀ k, k < eO (kd g).toInt m2 → fWy (ox 0).toInt (oy 0).toInt (cx (40 * f)).toInt (cy (40 * f)).toInt m2 (cF40 cx g) (cF40 cy g) k) from (zp_f (fun h => absurd (h k (by omega) (by assumption)) (by assumption))).symm), (upd (upd (upd (upd S2 0 (ox 0)) 1 (oy 0)) 2 (cx (40 * f))) 3 (cy (40 * f))), by rw [ht]; exact hP9, hD9⟩, hS.F ht⟩) hS.2.2 dX11_isFreeWay_110
  exact hl_40 _ 0 S0 s.heap [] ls (Nat.lt_succ_self _) (by omega) (by intro j hj; omega) hP hD hS (lv_sub hl [0, 1, 2, 3, 4, 5, 6, 7] rfl)
set_option maxHeartbeats 4000000 in
set_option maxRecDepth 100000 in
theorem k_M_isFeature_n (l : Launch) (dC : Nat → ClassId) (dI : Nat → Nat → Nat) (cI cZ cF : ClassId) (sz : Nat) (k0 : Nat) (a : Nat → Nat) (I0 : Nat → Int32) (J0 : Nat → Int64) (f : Nat) (ft : Nat) (hft : I0 0 = nI ft) (h200 : ft ≤ 200) (hf31 : f < 2147483648) : Met l yX11_isFeature (.code yX11_isFeature cX11_isFeature 2 (some .boolean) :: ws0) ({ frames := 0, cells := 0, slots := 0, locals := 0 } : Room) (va_Pc [.ref k0, .int (nI f)] (zPre (dC, dI) classes (zTy cI cZ cF) [(om k0 a I0 J0)] sz zXN)) (zQ (some (.int (pI (f < ft)))) (fun t => va_P (dC, dI) classes [(om k0 a I0 J0)] t.heap ∧ va_D (va_A [(om k0 a I0 J0)] sz) [(om k0 a I0 J0)]) (va_A [(om k0 a I0 J0)] sz)) 0 0 (va_A [(om k0 a I0 J0)] sz) := by
  refine Met.ofW (cc := cX11_isFeature) (maxL := 2) (ret := (some .boolean)) (by decide) rfl ?_
  intro p e s m args below meth c s₁ B hml hv
  obtain ⟨rfl, hsz, hP, hK, hD0, hXN⟩ := hv
  have hx := B.exec
  have hb := B.bytes
  have hr := B.returns
  have hts0 := atoms_spec (ws := .code yX11_isFeature cX11_isFeature 2 (some .boolean) :: ws0) B.pre
  have hts : ∀ w9 ∈ ws0, w9.before ([.ref k0, .int (nI f)] : List Value).toArray s = true := fun w9 h => hts0 w9 (List.mem_cons_of_mem _ h)
  have hown : s.vm.findClass "ScaleShopModel" = some m.cls := findClass_of_methodNamed B.named
  have hlocks := B.notSynchronized
  subst hsz
  have hD := hD0.self (sz := s.heap.size)
  clear hD0
  generalize hAe : va_A [(om k0 a I0 J0)] s.heap.size = A at hD ⊢
  have hA : ∀ q : Nat, s.heap.size ≤ q → A q := fun q h => by rw [← hAe]; exact Or.inr h
  clear hAe
  have hS : va_S A s.heap s.heap [] := va_S.rf
  have hP : va_P (dC, dI) classes [(om k0 a I0 J0)] s.heap := hP
  obtain ⟨Q9, hQ9⟩ : ∃ Q9 : State → Prop, Q9 = MQ below (zQ (some (.int (pI (f < ft)))) (fun t => va_P (dC, dI) classes [(om k0 a I0 J0)] t.heap ∧ va_D A [(om k0 a I0 J0)]) A) ([.ref k0, .int (nI f)] : List Value).toArray s 0 0 A := ⟨_, rfl⟩
  rw [← hQ9]
  have hl := lv_entry ([.ref k0, .int (nI f)]) (n := 2) (Nat.le_of_ble_eq_true rfl)
  rw [lg_entry_eq]
  generalize (lg_sl ([.ref k0, .int (nI f)]) ++ List.replicate (2 - (lg_sl ([.ref k0, .int (nI f)])).length) Slot.unset).toArray = ls at hl ⊢
  have hl : lv_has ls 2 [(0, .ref k0), (1, .int (nI f))] := hl
  refine lv_iload_n hx hb dX11_isFeature_0 rfl (lv_at hl 1 rfl) ?_
  refine lv_if_lt (tgt := 16) hx hb dX11_isFeature_1 (by decide) (fun c_1 => ?_) (fun c_1 => ?_)
  · have c_1 : ((f : Nat) : Int) < 0 := zc_lt (nI_toInt (by omega)) (by decide) c_1
    exfalso; omega
  · have c_1 : 0 ≤ ((f : Nat) : Int) := zc_nlt (nI_toInt (by omega)) (by decide) c_1
    refine lv_iload_n hx hb dX11_isFeature_4 rfl (lv_at hl 1 rfl) ?_
    refine lv_aload_n hx hb dX11_isFeature_5 rfl (lv_at hl 0 rfl) ?_
    refine va_get (D := (dC, dI)) (ci := 9) (v := .int (I0 0)) (C := RX11) (T := TX11) (N := 55) hx hb hts inX11 hown hK hP 0 rfl rfl 0 (by decide) (hts _ mw_1159) (fun _ h9 => h9) rfl dX11_isFeature_6 ?_
    refine zz_i (v := nI ft) (hft) ?_
    refine lv_icmp_ge (tgt := 16) hx hb dX11_isFeature_9 (by decide) (fun c_2 => ?_) (fun c_2 => ?_)
    · have c_2 : ((ft : Nat) : Int) ≤ ((f : Nat) : Int) := zc_le (nI_toInt (by omega)) (nI_toInt (by omega)) c_2
      refine lv_iconst (v := 0) hx hb dX11_isFeature_16 (by decide) ?_
      have hP9 := hP.sub (ws' := [(om k0 a I0 J0)]) [0] rfl
      have hD9 := hD.sub (ws' := [(om k0 a I0 J0)]) [0] (by decide) rfl
      rw [hQ9]
      exact W.zret (ty := .boolean) (v := 0) hx hb hr (rfl) (fun t ht hW => ⟨⟨congrArg (fun z => Outcome.returned (some (Value.int z))) (show (0 : Int32) = pI (f < ft) from (zp_f (by omega)).symm), by rw [ht]; exact hP9, hD9⟩, hS.F ht⟩) hS.2.2 dX11_isFeature_17
    · have c_2 : ((f : Nat) : Int) < ((ft : Nat) : Int) := zc_nle (nI_toInt (by omega)) (nI_toInt (by omega)) c_2
      refine lv_iconst (v := 1) hx hb dX11_isFeature_12 (by decide) ?_
      refine lv_goto (tgt := 17) hx hb dX11_isFeature_13 (by decide) ?_
      have hP9 := hP.sub (ws' := [(om k0 a I0 J0)]) [0] rfl
      have hD9 := hD.sub (ws' := [(om k0 a I0 J0)]) [0] (by decide) rfl
      rw [hQ9]
      exact W.zret (ty := .boolean) (v := 1) hx hb hr (rfl) (fun t ht hW => ⟨⟨congrArg (fun z => Outcome.returned (some (Value.int z))) (show (1 : Int32) = pI (f < ft) from (zp_t (by omega)).symm), by rw [ht]; exact hP9, hD9⟩, hS.F ht⟩) hS.2.2 dX11_isFeature_17
set_option maxHeartbeats 4000000 in
set_option maxRecDepth 100000 in
theorem k_M_isFeature (l : Launch) (dC : Nat → ClassId) (dI : Nat → Nat → Nat) (cI cZ cF : ClassId) (sz : Nat) (k0 : Nat) (a : Nat → Nat) (I0 : Nat → Int32) (J0 : Nat → Int64) (ft : Nat) (v : Int32) (hft : I0 0 = nI ft) (h200 : ft ≤ 200) : Met l yX11_isFeature (.code yX11_isFeature cX11_isFeature 2 (some .boolean) :: ws0) ({ frames := 0, cells := 0, slots := 0, locals := 0 } : Room) (va_Pc [.ref k0, .int v] (zPre (dC, dI) classes (zTy cI cZ cF) [(om k0 a I0 J0)] sz zXN)) (zQ (some (.int (pI (0 ≤ v.toInt ∧ v.toInt < (ft : Int))))) (fun t => va_P (dC, dI) classes [(om k0 a I0 J0)] t.heap ∧ va_D (va_A [(om k0 a I0 J0)] sz) [(om k0 a I0 J0)]) (va_A [(om k0 a I0 J0)] sz)) 0 0 (va_A [(om k0 a I0 J0)] sz) := by
  refine Met.ofW (cc := cX11_isFeature) (maxL := 2) (ret := (some .boolean)) (by decide) rfl ?_
  intro p e s m args below meth c s₁ B hml hv
  obtain ⟨rfl, hsz, hP, hK, hD0, hXN⟩ := hv
  have hx := B.exec
  have hb := B.bytes
  have hr := B.returns
  have hts0 := atoms_spec (ws := .code yX11_isFeature cX11_isFeature 2 (some .boolean) :: ws0) B.pre
  have hts : ∀ w9 ∈ ws0, w9.before ([.ref k0, .int v] : List Value).toArray s = true := fun w9 h => hts0 w9 (List.mem_cons_of_mem _ h)
  have hown : s.vm.findClass "ScaleShopModel" = some m.cls := findClass_of_methodNamed B.named
  have hlocks := B.notSynchronized
  subst hsz
  have hD := hD0.self (sz := s.heap.size)
  clear hD0
  generalize hAe : va_A [(om k0 a I0 J0)] s.heap.size = A at hD ⊢
  have hA : ∀ q : Nat, s.heap.size ≤ q → A q := fun q h => by rw [← hAe]; exact Or.inr h
  clear hAe
  have hS : va_S A s.heap s.heap [] := va_S.rf
  have hP : va_P (dC, dI) classes [(om k0 a I0 J0)] s.heap := hP
  obtain ⟨Q9, hQ9⟩ : ∃ Q9 : State → Prop, Q9 = MQ below (zQ (some (.int (pI (0 ≤ v.toInt ∧ v.toInt < (ft : Int))))) (fun t => va_P (dC, dI) classes [(om k0 a I0 J0)] t.heap ∧ va_D A [(om k0 a I0 J0)]) A) ([.ref k0, .int v] : List Value).toArray s 0 0 A := ⟨_, rfl⟩
  rw [← hQ9]
  have hl := lv_entry ([.ref k0, .int v]) (n := 2) (Nat.le_of_ble_eq_true rfl)
  rw [lg_entry_eq]
  generalize (lg_sl ([.ref k0, .int v]) ++ List.replicate (2 - (lg_sl ([.ref k0, .int v])).length) Slot.unset).toArray = ls at hl ⊢
  have hl : lv_has ls 2 [(0, .ref k0), (1, .int v)] := hl
  refine lv_iload_n hx hb dX11_isFeature_0 rfl (lv_at hl 1 rfl) ?_
  refine lv_if_lt (tgt := 16) hx hb dX11_isFeature_1 (by decide) (fun c_1 => ?_) (fun c_1 => ?_)
  · have c_1 : v.toInt < 0 := zc_lt rfl (by decide) c_1
    refine lv_iconst (v := 0) hx hb dX11_isFeature_16 (by decide) ?_
    have hP9 := hP.sub (ws' := [(om k0 a I0 J0)]) [0] rfl
    have hD9 := hD.sub (ws' := [(om k0 a I0 J0)]) [0] (by decide) rfl
    rw [hQ9]
    exact W.zret (ty := .boolean) (v := 0) hx hb hr (rfl) (fun t ht hW => ⟨⟨congrArg (fun z => Outcome.returned (some (Value.int z))) (show (0 : Int32) = pI (0 ≤ v.toInt ∧ v.toInt < (ft : Int)) from (zp_f (by omega)).symm), by rw [ht]; exact hP9, hD9⟩, hS.F ht⟩) hS.2.2 dX11_isFeature_17
  · have c_1 : 0 ≤ v.toInt := zc_nlt rfl (by decide) c_1
    refine lv_iload_n hx hb dX11_isFeature_4 rfl (lv_at hl 1 rfl) ?_
    refine lv_aload_n hx hb dX11_isFeature_5 rfl (lv_at hl 0 rfl) ?_
    refine va_get (D := (dC, dI)) (ci := 9) (v := .int (I0 0)) (C := RX11) (T := TX11) (N := 55) hx hb hts inX11 hown hK hP 0 rfl rfl 0 (by decide) (hts _ mw_1159) (fun _ h9 => h9) rfl dX11_isFeature_6 ?_
    refine zz_i (v := nI ft) (hft) ?_
    refine lv_icmp_ge (tgt := 16) hx hb dX11_isFeature_9 (by decide) (fun c_2 => ?_) (fun c_2 => ?_)
    · have c_2 : ((ft : Nat) : Int) ≤ v.toInt := zc_le (nI_toInt (by omega)) rfl c_2
      refine lv_iconst (v := 0) hx hb dX11_isFeature_16 (by decide) ?_
      have hP9 := hP.sub (ws' := [(om k0 a I0 J0)]) [0] rfl
      have hD9 := hD.sub (ws' := [(om k0 a I0 J0)]) [0] (by decide) rfl
      rw [hQ9]
      exact W.zret (ty := .boolean) (v := 0) hx hb hr (rfl) (fun t ht hW => ⟨⟨congrArg (fun z => Outcome.returned (some (Value.int z))) (show (0 : Int32) = pI (0 ≤ v.toInt ∧ v.toInt < (ft : Int)) from (zp_f (by omega)).symm), by rw [ht]; exact hP9, hD9⟩, hS.F ht⟩) hS.2.2 dX11_isFeature_17
    · have c_2 : v.toInt < ((ft : Nat) : Int) := zc_nle (nI_toInt (by omega)) rfl c_2
      refine lv_iconst (v := 1) hx hb dX11_isFeature_12 (by decide) ?_
      refine lv_goto (tgt := 17) hx hb dX11_isFeature_13 (by decide) ?_
      have hP9 := hP.sub (ws' := [(om k0 a I0 J0)]) [0] rfl
      have hD9 := hD.sub (ws' := [(om k0 a I0 J0)]) [0] (by decide) rfl
      rw [hQ9]
      exact W.zret (ty := .boolean) (v := 1) hx hb hr (rfl) (fun t ht hW => ⟨⟨congrArg (fun z => Outcome.returned (some (Value.int z))) (show (1 : Int32) = pI (0 ≤ v.toInt ∧ v.toInt < (ft : Int)) from (zp_t (by omega)).symm), by rw [ht]; exact hP9, hD9⟩, hS.F ht⟩) hS.2.2 dX11_isFeature_17
set_option maxHeartbeats 4000000 in
set_option maxRecDepth 100000 in
theorem k_M_is_n (l : Launch) (dC : Nat → ClassId) (dI : Nat → Nat → Nat) (cI cZ cF : ClassId) (sz : Nat) (k0 : Nat) (a : Nat → Nat) (I0 : Nat → Int32) (J0 : Nat → Int64) (f : Nat) (ft : Nat) (st : Nat → Int32) (tn : Nat → Int32) (hft : I0 0 = nI ft) (h200 : ft ≤ 200) (hf31 : f < 2147483648) : Met l yX11_is (.code yX11_is cX11_is 2 (some .boolean) :: ws0) ({ frames := 1, cells := 0, slots := 0, locals := 21 } : Room) (va_Pc [.ref k0, .int (nI f)] (zPre (dC, dI) classes (zTy cI cZ cF) [(om k0 a I0 J0), (oa (a 5) cI 201 st), (oa (a 6) cZ 201 tn)] sz zXN)) (zQ (some (.int (pI (f < ft ∧ (st f).toInt = 1 ∧ (tn f).toInt = 0)))) (fun t => va_P (dC, dI) classes [(om k0 a I0 J0), (oa (a 5) cI 201 st), (oa (a 6) cZ 201 tn)] t.heap ∧ va_D (va_A [(om k0 a I0 J0), (oa (a 5) cI 201 st), (oa (a 6) cZ 201 tn)] sz) [(om k0 a I0 J0), (oa (a 5) cI 201 st), (oa (a 6) cZ 201 tn)]) (va_A [(om k0 a I0 J0), (oa (a 5) cI 201 st), (oa (a 6) cZ 201 tn)] sz)) 0 0 (va_A [(om k0 a I0 J0), (oa (a 5) cI 201 st), (oa (a 6) cZ 201 tn)] sz) := by
  refine Met.ofW (cc := cX11_is) (maxL := 2) (ret := (some .boolean)) (by decide) rfl ?_
  intro p e s m args below meth c s₁ B hml hv
  obtain ⟨rfl, hsz, hP, hK, hD0, hXN⟩ := hv
  have hx := B.exec
  have hb := B.bytes
  have hr := B.returns
  have hts0 := atoms_spec (ws := .code yX11_is cX11_is 2 (some .boolean) :: ws0) B.pre
  have hts : ∀ w9 ∈ ws0, w9.before ([.ref k0, .int (nI f)] : List Value).toArray s = true := fun w9 h => hts0 w9 (List.mem_cons_of_mem _ h)
  have hown : s.vm.findClass "ScaleShopModel" = some m.cls := findClass_of_methodNamed B.named
  have hlocks := B.notSynchronized
  subst hsz
  have hD := hD0.self (sz := s.heap.size)
  clear hD0
  generalize hAe : va_A [(om k0 a I0 J0), (oa (a 5) cI 201 st), (oa (a 6) cZ 201 tn)] s.heap.size = A at hD ⊢
  have hA : ∀ q : Nat, s.heap.size ≤ q → A q := fun q h => by rw [← hAe]; exact Or.inr h
  clear hAe
  have hS : va_S A s.heap s.heap [] := va_S.rf
  have hP : va_P (dC, dI) classes [(om k0 a I0 J0), (oa (a 5) cI 201 st), (oa (a 6) cZ 201 tn)] s.heap := hP
  obtain ⟨Q9, hQ9⟩ : ∃ Q9 : State → Prop, Q9 = MQ below (zQ (some (.int (pI (f < ft ∧ (st f).toInt = 1 ∧ (tn f).toInt = 0)))) (fun t => va_P (dC, dI) classes [(om k0 a I0 J0), (oa (a 5) cI 201 st), (oa (a 6) cZ 201 tn)] t.heap ∧ va_D A [(om k0 a I0 J0), (oa (a 5) cI 201 st), (oa (a 6) cZ 201 tn)]) A) ([.ref k0, .int (nI f)] : List Value).toArray s 0 0 A := ⟨_, rfl⟩
  rw [← hQ9]
  have hl := lv_entry ([.ref k0, .int (nI f)]) (n := 2) (Nat.le_of_ble_eq_true rfl)
  rw [lg_entry_eq]
  generalize (lg_sl ([.ref k0, .int (nI f)]) ++ List.replicate (2 - (lg_sl ([.ref k0, .int (nI f)])).length) Slot.unset).toArray = ls at hl ⊢
  have hl : lv_has ls 2 [(0, .ref k0), (1, .int (nI f))] := hl
  refine lv_aload_n hx hb dX11_is_0 rfl (lv_at hl 0 rfl) ?_
  refine lv_iload_n hx hb dX11_is_1 rfl (lv_at hl 1 rfl) ?_
  have hPc := hP.sub (ws' := [(om k0 a I0 J0)]) [0] rfl
  have hDc := hD.sub (ws' := [(om k0 a I0 J0)]) [0] (by decide) rfl
  have hFc := va_free (wc := [(om k0 a I0 J0)]) hD hS hA [0] rfl
  refine zcall (st1 := [.int (pI (f < ft))]) (va_runV (As := [.int (nI f)]) (rest := []) ⟨hx, hb, hml, hown, hts⟩ (k_M_isFeature_n l dC dI cI cZ cF s.heap.size k0 a I0 J0 f ft (by assumption) (by omega) (by omega)) (cwV 1 hts (zz_gV mw_1345 mw_1347 mw_37 mw_110 mc_yX11_isFeature) rfl rfl rfl (by decide +kernel) ⟨Nat.le_of_ble_eq_true rfl, Nat.le_of_ble_eq_true rfl⟩) (zPV2 (q0 := 0) (ci := 9) hPc hDc hK hXN rfl rfl) rfl rfl hl.1 rfl (lv_room (Nat.le_of_ble_eq_true rfl)) dX11_is_2 ⟨Nat.le_of_ble_eq_true rfl, Nat.le_of_ble_eq_true rfl⟩) hS hFc hFc rfl (fun t H1 locs ht hB hk1 hS => ?_)
  obtain ⟨hP1, hD1⟩ := hB
  rw [ht] at hP1
  obtain ⟨hP, hD⟩ := va_join (wr := [(oa (a 5) cI 201 st), (oa (a 6) cZ 201 tn)]) (w1 := [(om k0 a I0 J0)]) hP hD [0] [1, 2] rfl rfl (by decide) (by decide) hk1 hFc hP1 hD1
  clear hk1 hPc hDc hFc hP1 hD1 ht
  generalize H1 = H at hP hS ⊢
  have hP := hP.sub (ws' := [(om k0 a I0 J0), (oa (a 5) cI 201 st), (oa (a 6) cZ 201 tn)]) [2, 0, 1] rfl
  have hD := hD.sub (ws' := [(om k0 a I0 J0), (oa (a 5) cI 201 st), (oa (a 6) cZ 201 tn)]) [2, 0, 1] (by decide) rfl
  have hP : va_P (dC, dI) classes [(om k0 a I0 J0), (oa (a 5) cI 201 st), (oa (a 6) cZ 201 tn)] H := hP
  have hD : va_D A [(om k0 a I0 J0), (oa (a 5) cI 201 st), (oa (a 6) cZ 201 tn)] := hD
  refine lv_if_eq (tgt := 31) hx hb dX11_is_5 (by decide) (fun c_1 => ?_) (fun c_1 => ?_)
  · have c_1 : ¬ (f < ft) := zp_0 c_1
    refine lv_iconst (v := 0) hx hb dX11_is_31 (by decide) ?_
    have hP9 := hP.sub (ws' := [(om k0 a I0 J0), (oa (a 5) cI 201 st), (oa (a 6) cZ 201 tn)]) [0, 1, 2] rfl
    have hD9 := hD.sub (ws' := [(om k0 a I0 J0), (oa (a 5) cI 201 st), (oa (a 6) cZ 201 tn)]) [0, 1, 2] (by decide) rfl
    rw [hQ9]
    exact W.zret (ty := .boolean) (v := 0) hx hb hr (rfl) (fun t ht hW => ⟨⟨congrArg (fun z => Outcome.returned (some (Value.int z))) (show (0 : Int32) = pI (f < ft ∧ (st f).toInt = 1 ∧ (tn f).toInt = 0) from (zp_f (by omega)).symm), by rw [ht]; exact hP9, hD9⟩, hS.F ht⟩) hS.2.2 dX11_is_32
  · have c_1 : f < ft := zp_1 c_1
    refine lv_aload_n hx hb dX11_is_8 rfl (lv_at hl 0 rfl) ?_
    refine va_get (D := (dC, dI)) (ci := 9) (v := .ref (a 5)) (C := RX11) (T := TX11) (N := 55) hx hb hts inX11 hown hK hP 0 rfl rfl 5 (by decide) (hts _ mw_1164) (fun _ h9 => h9) rfl dX11_is_9 ?_
    refine lv_iload_n hx hb dX11_is_12 rfl (lv_at hl 1 rfl) ?_
    refine z_iald hx hb hK hP 1 0 rfl rfl (e := f) rfl (by omega) (by omega) dX11_is_13 ?_
    refine lv_iconst (v := 1) hx hb dX11_is_14 (by decide) ?_
    refine lv_icmp_ne (tgt := 31) hx hb dX11_is_15 (by decide) (fun c_2 => ?_) (fun c_2 => ?_)
    · have c_2 : ¬ (st f).toInt = 1 := zc_ne rfl (by decide) c_2
      refine lv_iconst (v := 0) hx hb dX11_is_31 (by decide) ?_
      have hP9 := hP.sub (ws' := [(om k0 a I0 J0), (oa (a 5) cI 201 st), (oa (a 6) cZ 201 tn)]) [0, 1, 2] rfl
      have hD9 := hD.sub (ws' := [(om k0 a I0 J0), (oa (a 5) cI 201 st), (oa (a 6) cZ 201 tn)]) [0, 1, 2] (by decide) rfl
      rw [hQ9]
      exact W.zret (ty := .boolean) (v := 0) hx hb hr (rfl) (fun t ht hW => ⟨⟨congrArg (fun z => Outcome.returned (some (Value.int z))) (show (0 : Int32) = pI (f < ft ∧ (st f).toInt = 1 ∧ (tn f).toInt = 0) from (zp_f (by omega)).symm), by rw [ht]; exact hP9, hD9⟩, hS.F ht⟩) hS.2.2 dX11_is_32
    · have c_2 : (st f).toInt = 1 := zc_eq rfl (by decide) c_2
      refine lv_aload_n hx hb dX11_is_18 rfl (lv_at hl 0 rfl) ?_
      refine va_get (D := (dC, dI)) (ci := 9) (v := .ref (a 6)) (C := RX11) (T := TX11) (N := 55) hx hb hts inX11 hown hK hP 0 rfl rfl 6 (by decide) (hts _ mw_1165) (fun _ h9 => h9) rfl dX11_is_19 ?_
      refine lv_iload_n hx hb dX11_is_22 rfl (lv_at hl 1 rfl) ?_
      refine z_zald hx hb hK hP 2 1 rfl rfl (e := f) rfl (by omega) (by omega) dX11_is_23 ?_
      refine lv_if_ne (tgt := 31) hx hb dX11_is_24 (by decide) (fun c_3 => ?_) (fun c_3 => ?_)
      · have c_3 : ¬ (tn f).toInt = 0 := zc_ne rfl (by decide) c_3
        refine lv_iconst (v := 0) hx hb dX11_is_31 (by decide) ?_
        have hP9 := hP.sub (ws' := [(om k0 a I0 J0), (oa (a 5) cI 201 st), (oa (a 6) cZ 201 tn)]) [0, 1, 2] rfl
        have hD9 := hD.sub (ws' := [(om k0 a I0 J0), (oa (a 5) cI 201 st), (oa (a 6) cZ 201 tn)]) [0, 1, 2] (by decide) rfl
        rw [hQ9]
        exact W.zret (ty := .boolean) (v := 0) hx hb hr (rfl) (fun t ht hW => ⟨⟨congrArg (fun z => Outcome.returned (some (Value.int z))) (show (0 : Int32) = pI (f < ft ∧ (st f).toInt = 1 ∧ (tn f).toInt = 0) from (zp_f (by omega)).symm), by rw [ht]; exact hP9, hD9⟩, hS.F ht⟩) hS.2.2 dX11_is_32
      · have c_3 : (tn f).toInt = 0 := zc_eq rfl (by decide) c_3
        refine lv_iconst (v := 1) hx hb dX11_is_27 (by decide) ?_
        refine lv_goto (tgt := 32) hx hb dX11_is_28 (by decide) ?_
        have hP9 := hP.sub (ws' := [(om k0 a I0 J0), (oa (a 5) cI 201 st), (oa (a 6) cZ 201 tn)]) [0, 1, 2] rfl
        have hD9 := hD.sub (ws' := [(om k0 a I0 J0), (oa (a 5) cI 201 st), (oa (a 6) cZ 201 tn)]) [0, 1, 2] (by decide) rfl
        rw [hQ9]
        exact W.zret (ty := .boolean) (v := 1) hx hb hr (rfl) (fun t ht hW => ⟨⟨congrArg (fun z => Outcome.returned (some (Value.int z))) (show (1 : Int32) = pI (f < ft ∧ (st f).toInt = 1 ∧ (tn f).toInt = 0) from (zp_t (by omega)).symm), by rw [ht]; exact hP9, hD9⟩, hS.F ht⟩) hS.2.2 dX11_is_32
