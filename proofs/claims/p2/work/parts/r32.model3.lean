set_option maxHeartbeats 4000000 in
set_option maxRecDepth 100000 in
theorem k_M_isInside (l : Launch) (dC : Nat → ClassId) (dI : Nat → Nat → Nat) (cI cZ cF : ClassId) (sz : Nat) (k0 : Nat) (a : Nat → Nat) (I0 : Nat → Int32) (J0 : Nat → Int64) (f : Nat) (n : Nat) (kd : Nat → Int32) (mn : Nat → Int32) (cx : Nat → Int32) (cy : Nat → Int32) (S0 : Nat → Int32) (px : Int32) (py : Int32) (hf_f : f ≤ 200) (hm_f : mn f = nI n) (hn_f : 1 ≤ n ∧ n ≤ 40) (hp_f : pls n (cF40 cx f) (cF40 cy f)) (hpx : pl px) (hpy : pl py) : Met l yX11_isInside (.code yX11_isInside cX11_isInside 8 (some .boolean) :: ws0) ({ frames := 3, cells := 0, slots := 0, locals := 80 } : Room) (va_Pc [.ref k0, .int (nI f), .int px, .int py] (zPre (dC, dI) classes (zTy cI cZ cF) [(om k0 a I0 J0), (oa (a 1) cI 201 kd), (oa (a 11) cI 201 mn), (oa (a 12) cI 8040 cx), (oa (a 13) cI 8040 cy), (oa (a 32) cI 8 S0)] sz zXN)) (zQ (some (.int (pI (¬ (∃ i, i < eO (kd f).toInt n ∧ eOn n (cF40 cx f) (cF40 cy f) i px.toInt py.toInt) ∧ par2 (eTg n (cF40 cx f) (cF40 cy f) px.toInt py.toInt) (eO (kd f).toInt n))))) (fun t => ∃ (S1 : Nat → Int32), va_P (dC, dI) classes [(om k0 a I0 J0), (oa (a 1) cI 201 kd), (oa (a 11) cI 201 mn), (oa (a 12) cI 8040 cx), (oa (a 13) cI 8040 cy), (oa (a 32) cI 8 S1)] t.heap ∧ va_D (va_A [(om k0 a I0 J0), (oa (a 1) cI 201 kd), (oa (a 11) cI 201 mn), (oa (a 12) cI 8040 cx), (oa (a 13) cI 8040 cy), (oa (a 32) cI 8 S0)] sz) [(om k0 a I0 J0), (oa (a 1) cI 201 kd), (oa (a 11) cI 201 mn), (oa (a 12) cI 8040 cx), (oa (a 13) cI 8040 cy), (oa (a 32) cI 8 S1)]) (va_A [(om k0 a I0 J0), (oa (a 1) cI 201 kd), (oa (a 11) cI 201 mn), (oa (a 12) cI 8040 cx), (oa (a 13) cI 8040 cy), (oa (a 32) cI 8 S0)] sz)) 0 0 (va_A [(om k0 a I0 J0), (oa (a 1) cI 201 kd), (oa (a 11) cI 201 mn), (oa (a 12) cI 8040 cx), (oa (a 13) cI 8040 cy), (oa (a 32) cI 8 S0)] sz) := by
  refine Met.ofW (cc := cX11_isInside) (maxL := 8) (ret := (some .boolean)) (by decide) rfl ?_
  intro p e s m args below meth c s₁ B hml hv
  obtain ⟨rfl, hsz, hP, hK, hD0, hXN⟩ := hv
  have hx := B.exec
  have hb := B.bytes
  have hr := B.returns
  have hts0 := atoms_spec (ws := .code yX11_isInside cX11_isInside 8 (some .boolean) :: ws0) B.pre
  have hts : ∀ w9 ∈ ws0, w9.before ([.ref k0, .int (nI f), .int px, .int py] : List Value).toArray s = true := fun w9 h => hts0 w9 (List.mem_cons_of_mem _ h)
  have hown : s.vm.findClass "ScaleShopModel" = some m.cls := findClass_of_methodNamed B.named
  have hlocks := B.notSynchronized
  subst hsz
  have hD := hD0.self (sz := s.heap.size)
  clear hD0
  generalize hAe : va_A [(om k0 a I0 J0), (oa (a 1) cI 201 kd), (oa (a 11) cI 201 mn), (oa (a 12) cI 8040 cx), (oa (a 13) cI 8040 cy), (oa (a 32) cI 8 S0)] s.heap.size = A at hD ⊢
  have hA : ∀ q : Nat, s.heap.size ≤ q → A q := fun q h => by rw [← hAe]; exact Or.inr h
  clear hAe
  have hS : va_S A s.heap s.heap [] := va_S.rf
  have hP : va_P (dC, dI) classes [(om k0 a I0 J0), (oa (a 1) cI 201 kd), (oa (a 11) cI 201 mn), (oa (a 12) cI 8040 cx), (oa (a 13) cI 8040 cy), (oa (a 32) cI 8 S0)] s.heap := hP
  obtain ⟨Q9, hQ9⟩ : ∃ Q9 : State → Prop, Q9 = MQ below (zQ (some (.int (pI (¬ (∃ i, i < eO (kd f).toInt n ∧ eOn n (cF40 cx f) (cF40 cy f) i px.toInt py.toInt) ∧ par2 (eTg n (cF40 cx f) (cF40 cy f) px.toInt py.toInt) (eO (kd f).toInt n))))) (fun t => ∃ (S1 : Nat → Int32), va_P (dC, dI) classes [(om k0 a I0 J0), (oa (a 1) cI 201 kd), (oa (a 11) cI 201 mn), (oa (a 12) cI 8040 cx), (oa (a 13) cI 8040 cy), (oa (a 32) cI 8 S1)] t.heap ∧ va_D A [(om k0 a I0 J0), (oa (a 1) cI 201 kd), (oa (a 11) cI 201 mn), (oa (a 12) cI 8040 cx), (oa (a 13) cI 8040 cy), (oa (a 32) cI 8 S1)]) A) ([.ref k0, .int (nI f), .int px, .int py] : List Value).toArray s 0 0 A := ⟨_, rfl⟩
  rw [← hQ9]
  have hl := lv_entry ([.ref k0, .int (nI f), .int px, .int py]) (n := 8) (Nat.le_of_ble_eq_true rfl)
  rw [lg_entry_eq]
  generalize (lg_sl ([.ref k0, .int (nI f), .int px, .int py]) ++ List.replicate (8 - (lg_sl ([.ref k0, .int (nI f), .int px, .int py])).length) Slot.unset).toArray = ls at hl ⊢
  have hl : lv_has ls 8 [(0, .ref k0), (1, .int (nI f)), (2, .int px), (3, .int py)] := hl
  have hef := eO_le (k := (kd f).toInt) hn_f.1
  refine lv_aload_n hx hb dX11_isInside_0 rfl (lv_at hl 0 rfl) ?_
  refine lv_iload_n hx hb dX11_isInside_1 rfl (lv_at hl 1 rfl) ?_
  refine lv_iload_n hx hb dX11_isInside_2 rfl (lv_at hl 2 rfl) ?_
  refine lv_iload_n hx hb dX11_isInside_3 rfl (lv_at hl 3 rfl) ?_
  have hPc := hP.sub (ws' := [(om k0 a I0 J0), (oa (a 1) cI 201 kd), (oa (a 11) cI 201 mn), (oa (a 12) cI 8040 cx), (oa (a 13) cI 8040 cy), (oa (a 32) cI 8 S0)]) [0, 1, 2, 3, 4, 5] rfl
  have hDc := hD.sub (ws' := [(om k0 a I0 J0), (oa (a 1) cI 201 kd), (oa (a 11) cI 201 mn), (oa (a 12) cI 8040 cx), (oa (a 13) cI 8040 cy), (oa (a 32) cI 8 S0)]) [0, 1, 2, 3, 4, 5] (by decide) rfl
  have hFc := va_free (wc := [(om k0 a I0 J0), (oa (a 1) cI 201 kd), (oa (a 11) cI 201 mn), (oa (a 12) cI 8040 cx), (oa (a 13) cI 8040 cy), (oa (a 32) cI 8 S0)]) hD hS hA [0, 1, 2, 3, 4, 5] rfl
  refine zcall (st1 := [.int (pI (∃ i, i < eO (kd f).toInt n ∧ eOn n (cF40 cx f) (cF40 cy f) i px.toInt py.toInt))]) (va_runV (As := [.int (nI f), .int px, .int py]) (rest := []) ⟨hx, hb, hml, hown, hts⟩ (k_M_isOnSet l dC dI cI cZ cF s.heap.size k0 a I0 J0 f n kd mn cx cy S0 px py (by omega) (by assumption) (by omega) (by assumption) (by assumption) (by assumption)) (cwV 3 hts (zz_gV mw_1451 mw_1453 mw_57 mw_110 mc_yX11_isOnSet) rfl rfl rfl (by decide +kernel) ⟨Nat.le_of_ble_eq_true rfl, Nat.le_of_ble_eq_true rfl⟩) (zPV2 (q0 := 0) (ci := 9) hPc hDc hK hXN rfl rfl) rfl rfl hl.1 rfl (lv_room (Nat.le_of_ble_eq_true rfl)) dX11_isInside_4 ⟨Nat.le_of_ble_eq_true rfl, Nat.le_of_ble_eq_true rfl⟩) hS hFc hFc rfl (fun t H1 locs ht hB hk1 hS => ?_)
  obtain ⟨q_1, hP1, hD1⟩ := hB
  rw [ht] at hP1
  obtain ⟨hP, hD⟩ := va_join (wr := []) (w1 := [(om k0 a I0 J0), (oa (a 1) cI 201 kd), (oa (a 11) cI 201 mn), (oa (a 12) cI 8040 cx), (oa (a 13) cI 8040 cy), (oa (a 32) cI 8 q_1)]) hP hD [0, 1, 2, 3, 4, 5] [] rfl rfl (by decide) (by decide) hk1 hFc hP1 hD1
  clear hk1 hPc hDc hFc hP1 hD1 ht
  generalize H1 = H at hP hS ⊢
  have hP : va_P (dC, dI) classes [(om k0 a I0 J0), (oa (a 1) cI 201 kd), (oa (a 11) cI 201 mn), (oa (a 12) cI 8040 cx), (oa (a 13) cI 8040 cy), (oa (a 32) cI 8 q_1)] H := hP
  have hD : va_D A [(om k0 a I0 J0), (oa (a 1) cI 201 kd), (oa (a 11) cI 201 mn), (oa (a 12) cI 8040 cx), (oa (a 13) cI 8040 cy), (oa (a 32) cI 8 q_1)] := hD
  refine lv_if_eq (tgt := 12) hx hb dX11_isInside_7 (by decide) (fun c_2 => ?_) (fun c_2 => ?_)
  · have c_2 : ¬ (∃ i, i < eO (kd f).toInt n ∧ eOn n (cF40 cx f) (cF40 cy f) i px.toInt py.toInt) := zp_0 c_2
    refine lv_iconst (v := 0) hx hb dX11_isInside_12 (by decide) ?_
    refine lv_istore (lv' := [(4, .int 0), (0, .ref k0), (1, .int (nI f)), (2, .int px), (3, .int py)]) hx hb dX11_isInside_13 hl (by decide) rfl (fun ls hl => ?_)
    refine lv_iconst (v := 0) hx hb dX11_isInside_15 (by decide) ?_
    refine lv_istore (lv' := [(5, .int 0), (4, .int 0), (0, .ref k0), (1, .int (nI f)), (2, .int px), (3, .int py)]) hx hb dX11_isInside_16 hl (by decide) rfl (fun ls hl => ?_)
    have hl_18 : ∀ (n9 : Nat) (i : Nat) (S1 : Nat → Int32) (H : Heap) (locs : List Loc) (ls : Array Slot), eO (kd f).toInt n - i < n9 → (i ≤ eO (kd f).toInt n) → va_P (dC, dI) classes [(om k0 a I0 J0), (oa (a 1) cI 201 kd), (oa (a 11) cI 201 mn), (oa (a 12) cI 8040 cx), (oa (a 13) cI 8040 cy), (oa (a 32) cI 8 S1)] H → va_D A [(om k0 a I0 J0), (oa (a 1) cI 201 kd), (oa (a 11) cI 201 mn), (oa (a 12) cI 8040 cx), (oa (a 13) cI 8040 cy), (oa (a 32) cI 8 S1)] → va_S A s.heap H locs → lv_has ls 8 [(5, .int (nI i)), (4, .int (pI (par2 (eTg n (cF40 cx f) (cF40 cy f) px.toInt py.toInt) i))), (0, .ref k0), (1, .int (nI f)), (2, .int px), (3, .int py)] → W p l e ((headSpec (.code yX11_isInside cX11_isInside 8 (some .boolean) :: ws0) ({ frames := 3, cells := 0, slots := 0, locals := 80 } : Room)).room) s m ([.ref k0, .int (nI f), .int px, .int py] : List Value).toArray below meth c H locs 0 0 Q9 (F0 m 18 ls []) := by
      intro n9
      induction n9 with
      | zero => intro i S1 H locs ls hm; exact absurd hm (Nat.not_lt_zero _)
      | succ n9 ih_18 =>
        intro i S1 H locs ls hm hi hP hD hS hl
        refine lv_iload hx hb dX11_isInside_18 (lv_at hl 0 rfl) ?_
        refine lv_aload_n hx hb dX11_isInside_20 rfl (lv_at hl 2 rfl) ?_
        refine lv_iload_n hx hb dX11_isInside_21 rfl (lv_at hl 3 rfl) ?_
        have hPc := hP.sub (ws' := [(om k0 a I0 J0), (oa (a 1) cI 201 kd), (oa (a 11) cI 201 mn)]) [0, 1, 2] rfl
        have hDc := hD.sub (ws' := [(om k0 a I0 J0), (oa (a 1) cI 201 kd), (oa (a 11) cI 201 mn)]) [0, 1, 2] (by decide) rfl
        have hFc := va_free (wc := [(om k0 a I0 J0), (oa (a 1) cI 201 kd), (oa (a 11) cI 201 mn)]) hD hS hA [0, 1, 2] rfl
        refine zcall (st1 := [.int (nI (eO (kd f).toInt n)), .int (nI i)]) (va_runV (As := [.int (nI f)]) (rest := [.int (nI i)]) ⟨hx, hb, hml, hown, hts⟩ (k_M_edgesOf l dC dI cI cZ cF H.size k0 a I0 J0 f n kd mn (by omega) (by assumption) (by omega)) (cwV 1 hts (zz_gV mw_1369 mw_1371 mw_41 mw_110 mc_yX11_edgesOf) rfl rfl rfl (by decide +kernel) ⟨Nat.le_of_ble_eq_true rfl, Nat.le_of_ble_eq_true rfl⟩) (zPV2 (q0 := 0) (ci := 9) hPc hDc hK hXN rfl rfl) rfl rfl hl.1 rfl (lv_room (Nat.le_of_ble_eq_true rfl)) dX11_isInside_22 ⟨Nat.le_of_ble_eq_true rfl, Nat.le_of_ble_eq_true rfl⟩) hS hFc hFc rfl (fun t H1 locs ht hB hk1 hS => ?_)
        obtain ⟨hP1, hD1⟩ := hB
        rw [ht] at hP1
        obtain ⟨hP, hD⟩ := va_join (wr := [(oa (a 12) cI 8040 cx), (oa (a 13) cI 8040 cy), (oa (a 32) cI 8 S1)]) (w1 := [(om k0 a I0 J0), (oa (a 1) cI 201 kd), (oa (a 11) cI 201 mn)]) hP hD [0, 1, 2] [3, 4, 5] rfl rfl (by decide) (by decide) hk1 hFc hP1 hD1
        clear hk1 hPc hDc hFc hP1 hD1 ht
        generalize H1 = H at hP hS ⊢
        have hP := hP.sub (ws' := [(om k0 a I0 J0), (oa (a 1) cI 201 kd), (oa (a 11) cI 201 mn), (oa (a 12) cI 8040 cx), (oa (a 13) cI 8040 cy), (oa (a 32) cI 8 S1)]) [3, 4, 5, 0, 1, 2] rfl
        have hD := hD.sub (ws' := [(om k0 a I0 J0), (oa (a 1) cI 201 kd), (oa (a 11) cI 201 mn), (oa (a 12) cI 8040 cx), (oa (a 13) cI 8040 cy), (oa (a 32) cI 8 S1)]) [3, 4, 5, 0, 1, 2] (by decide) rfl
        have hP : va_P (dC, dI) classes [(om k0 a I0 J0), (oa (a 1) cI 201 kd), (oa (a 11) cI 201 mn), (oa (a 12) cI 8040 cx), (oa (a 13) cI 8040 cy), (oa (a 32) cI 8 S1)] H := hP
        have hD : va_D A [(om k0 a I0 J0), (oa (a 1) cI 201 kd), (oa (a 11) cI 201 mn), (oa (a 12) cI 8040 cx), (oa (a 13) cI 8040 cy), (oa (a 32) cI 8 S1)] := hD
        refine lv_icmp_ge (tgt := 159) hx hb dX11_isInside_25 (by decide) (fun c_3 => ?_) (fun c_3 => ?_)
        · have c_3 : ((eO (kd f).toInt n : Nat) : Int) ≤ ((i : Nat) : Int) := zc_le (nI_toInt (by omega)) (nI_toInt (by omega)) c_3
          refine lv_iload hx hb dX11_isInside_159 (lv_at hl 1 rfl) ?_
          have hP9 := hP.sub (ws' := [(om k0 a I0 J0), (oa (a 1) cI 201 kd), (oa (a 11) cI 201 mn), (oa (a 12) cI 8040 cx), (oa (a 13) cI 8040 cy), (oa (a 32) cI 8 S1)]) [0, 1, 2, 3, 4, 5] rfl
          have hD9 := hD.sub (ws' := [(om k0 a I0 J0), (oa (a 1) cI 201 kd), (oa (a 11) cI 201 mn), (oa (a 12) cI 8040 cx), (oa (a 13) cI 8040 cy), (oa (a 32) cI 8 S1)]) [0, 1, 2, 3, 4, 5] (by decide) rfl
          rw [hQ9]
          exact W.zret (ty := .boolean) (v := pI (par2 (eTg n (cF40 cx f) (cF40 cy f) px.toInt py.toInt) i)) hx hb hr (zp_nar _) (fun t ht hW => ⟨⟨congrArg (fun z => Outcome.returned (some (Value.int z))) (show (pI (par2 (eTg n (cF40 cx f) (cF40 cy f) px.toInt py.toInt) i) : Int32) = pI (¬ (∃ i, i < eO (kd f).toInt n ∧ eOn n (cF40 cx f) (cF40 cy f) i px.toInt py.toInt) ∧ par2 (eTg n (cF40 cx f) (cF40 cy f) px.toInt py.toInt) (eO (kd f).toInt n)) from zp_iff ⟨fun h => ⟨by assumption, (by rw [show eO (kd f).toInt n = i by omega]; exact h)⟩, fun h => (by rw [show i = eO (kd f).toInt n by omega]; exact h.2)⟩), S1, by rw [ht]; exact hP9, hD9⟩, hS.F ht⟩) hS.2.2 dX11_isInside_161
        · have c_3 : ((i : Nat) : Int) < ((eO (kd f).toInt n : Nat) : Int) := zc_nle (nI_toInt (by omega)) (nI_toInt (by omega)) c_3
          have hin9 : i < n := (by omega)
          have hnx := nxt_lt (n := n) (i := i) (by omega)
          refine lv_aload_n hx hb dX11_isInside_28 rfl (lv_at hl 2 rfl) ?_
          refine lv_iload_n hx hb dX11_isInside_29 rfl (lv_at hl 3 rfl) ?_
          refine lv_iload hx hb dX11_isInside_30 (lv_at hl 0 rfl) ?_
          refine lv_iconst (v := 0) hx hb dX11_isInside_32 (by decide) ?_
          have hPc := hP.sub (ws' := [(om k0 a I0 J0), (oa (a 11) cI 201 mn), (oa (a 12) cI 8040 cx), (oa (a 13) cI 8040 cy), (oa (a 32) cI 8 S1)]) [0, 2, 3, 4, 5] rfl
          have hDc := hD.sub (ws' := [(om k0 a I0 J0), (oa (a 11) cI 201 mn), (oa (a 12) cI 8040 cx), (oa (a 13) cI 8040 cy), (oa (a 32) cI 8 S1)]) [0, 2, 3, 4, 5] (by decide) rfl
          have hFc := va_free (wc := [(om k0 a I0 J0), (oa (a 11) cI 201 mn), (oa (a 12) cI 8040 cx), (oa (a 13) cI 8040 cy), (oa (a 32) cI 8 S1)]) hD hS hA [0, 2, 3, 4, 5] rfl
          refine zcall (st1 := []) (va_runV (As := [.int (nI f), .int (nI i), .int 0]) (rest := []) ⟨hx, hb, hml, hown, hts⟩ (k_M_edge l dC dI cI cZ cF H.size k0 a I0 J0 f n i 0 mn cx cy S1 (by omega) (by assumption) (by omega) (by omega) (by omega)) (cwV 3 hts (zz_gV mw_1373 mw_1375 mw_42 mw_110 mc_yX11_edge) rfl rfl rfl (by decide +kernel) ⟨Nat.le_of_ble_eq_true rfl, Nat.le_of_ble_eq_true rfl⟩) (zPV2 (q0 := 0) (ci := 9) hPc hDc hK hXN rfl rfl) rfl rfl hl.1 rfl (lv_room (Nat.le_of_ble_eq_true rfl)) dX11_isInside_33 ⟨Nat.le_of_ble_eq_true rfl, Nat.le_of_ble_eq_true rfl⟩) hS hFc hFc rfl (fun t H1 locs ht hB hk1 hS => ?_)
          obtain ⟨S2, t0, t1, t2, t3, tr, hP1, hD1⟩ := hB
          rw [ht] at hP1
          obtain ⟨hP, hD⟩ := va_join (wr := [(oa (a 1) cI 201 kd)]) (w1 := [(om k0 a I0 J0), (oa (a 11) cI 201 mn), (oa (a 12) cI 8040 cx), (oa (a 13) cI 8040 cy), (oa (a 32) cI 8 S2)]) hP hD [0, 2, 3, 4, 5] [1] rfl rfl (by decide) (by decide) hk1 hFc hP1 hD1
          clear hk1 hPc hDc hFc hP1 hD1 ht
          generalize H1 = H at hP hS ⊢
          have hP := hP.sub (ws' := [(om k0 a I0 J0), (oa (a 1) cI 201 kd), (oa (a 11) cI 201 mn), (oa (a 12) cI 8040 cx), (oa (a 13) cI 8040 cy), (oa (a 32) cI 8 S2)]) [1, 0, 2, 3, 4, 5] rfl
          have hD := hD.sub (ws' := [(om k0 a I0 J0), (oa (a 1) cI 201 kd), (oa (a 11) cI 201 mn), (oa (a 12) cI 8040 cx), (oa (a 13) cI 8040 cy), (oa (a 32) cI 8 S2)]) [1, 0, 2, 3, 4, 5] (by decide) rfl
          have hP : va_P (dC, dI) classes [(om k0 a I0 J0), (oa (a 1) cI 201 kd), (oa (a 11) cI 201 mn), (oa (a 12) cI 8040 cx), (oa (a 13) cI 8040 cy), (oa (a 32) cI 8 S2)] H := hP
          have hD : va_D A [(om k0 a I0 J0), (oa (a 1) cI 201 kd), (oa (a 11) cI 201 mn), (oa (a 12) cI 8040 cx), (oa (a 13) cI 8040 cy), (oa (a 32) cI 8 S2)] := hD
          have v0 : S2 0 = cF40 cx f i := t0
          have v1 : S2 1 = cF40 cy f i := t1
          have v2 : S2 2 = cF40 cx f (nxt n i) := t2
          have v3 : S2 3 = cF40 cy f (nxt n i) := t3
          refine lv_aload_n hx hb dX11_isInside_36 rfl (lv_at hl 2 rfl) ?_
          refine va_get (D := (dC, dI)) (ci := 9) (v := .ref (a 32)) (C := RX11) (T := TX11) (N := 55) hx hb hts inX11 hown hK hP 0 rfl rfl 32 (by decide) (hts _ mw_1191) (fun _ h9 => h9) rfl dX11_isInside_37 ?_
          refine lv_iconst (v := 1) hx hb dX11_isInside_40 (by decide) ?_
          refine z_iald hx hb hK hP 5 0 rfl rfl (e := 1) rfl (by omega) (by omega) dX11_isInside_41 ?_
          refine zz_i (v := cF40 cy f i) (v1) ?_
          refine lv_iload_n hx hb dX11_isInside_42 rfl (lv_at hl 5 rfl) ?_
          refine lv_icmp_le (tgt := 50) hx hb dX11_isInside_43 (by decide) (fun c_4 => ?_) (fun c_4 => ?_)
          · have c_4 : (cF40 cy f i).toInt ≤ py.toInt := zc_le rfl rfl c_4
            refine lv_iconst (v := 0) hx hb dX11_isInside_50 (by decide) ?_
            refine lv_aload_n hx hb dX11_isInside_51 rfl (lv_at hl 2 rfl) ?_
            refine va_get (D := (dC, dI)) (ci := 9) (v := .ref (a 32)) (C := RX11) (T := TX11) (N := 55) hx hb hts inX11 hown hK hP 0 rfl rfl 32 (by decide) (hts _ mw_1191) (fun _ h9 => h9) rfl dX11_isInside_52 ?_
            refine lv_iconst (v := 3) hx hb dX11_isInside_55 (by decide) ?_
            refine z_iald hx hb hK hP 5 0 rfl rfl (e := 3) rfl (by omega) (by omega) dX11_isInside_56 ?_
            refine zz_i (v := cF40 cy f (nxt n i)) (v3) ?_
            refine lv_iload_n hx hb dX11_isInside_57 rfl (lv_at hl 5 rfl) ?_
            refine lv_icmp_le (tgt := 65) hx hb dX11_isInside_58 (by decide) (fun c_5 => ?_) (fun c_5 => ?_)
            · have c_5 : (cF40 cy f (nxt n i)).toInt ≤ py.toInt := zc_le rfl rfl c_5
              refine lv_iconst (v := 0) hx hb dX11_isInside_65 (by decide) ?_
              refine lv_icmp_ne (tgt := 72) hx hb dX11_isInside_66 (by decide) (fun c_6 => ?_) (fun c_6 => ?_)
              · exact absurd (by decide) c_6
              · refine lv_goto (tgt := 153) hx hb dX11_isInside_69 (by decide) ?_
                refine lv_iinc (v := nI (i + 1)) (lv' := [(5, .int (nI (i + 1))), (4, .int (pI (par2 (eTg n (cF40 cx f) (cF40 cy f) px.toInt py.toInt) i))), (0, .ref k0), (1, .int (nI f)), (2, .int px), (3, .int py)]) hx hb dX11_isInside_153 hl (k := 0) rfl (nI_add i 1) (by decide) rfl (fun ls hl => ?_)
                refine lv_goto (tgt := 18) hx hb dX11_isInside_156 (by decide) ?_
                have hl9 := lv_sub hl [0, 1, 2, 3, 4, 5] rfl
                have e9_4 : pI (par2 (eTg n (cF40 cx f) (cF40 cy f) px.toInt py.toInt) (i + 1)) = (pI (par2 (eTg n (cF40 cx f) (cF40 cy f) px.toInt py.toInt) i) : Int32) := by first | exact zp_iff (par2_n (by unfold eTg; omega)) | exact zp_t ((par2_y (P := (eTg n (cF40 cx f) (cF40 cy f) px.toInt py.toInt)) (i := i) (by unfold eTg; omega)).mpr (by assumption)) | exact zp_f (fun q => (par2_y (P := (eTg n (cF40 cx f) (cF40 cy f) px.toInt py.toInt)) (i := i) (by unfold eTg; omega)).mp q (by assumption))
                have hl9 : lv_has ls 8 [(5, .int (nI (i + 1))), (4, .int (pI (par2 (eTg n (cF40 cx f) (cF40 cy f) px.toInt py.toInt) (i + 1)))), (0, .ref k0), (1, .int (nI f)), (2, .int px), (3, .int py)] := by rw [e9_4]; exact hl9
                exact ih_18 (i + 1) S2 H locs ls (by omega) (by omega) hP hD hS hl9
            · have c_5 : py.toInt < (cF40 cy f (nxt n i)).toInt := zc_nle rfl rfl c_5
              refine lv_iconst (v := 1) hx hb dX11_isInside_61 (by decide) ?_
              refine lv_goto (tgt := 66) hx hb dX11_isInside_62 (by decide) ?_
              refine lv_icmp_ne (tgt := 72) hx hb dX11_isInside_66 (by decide) (fun c_7 => ?_) (fun c_7 => ?_)
              · refine lv_aload_n hx hb dX11_isInside_72 rfl (lv_at hl 2 rfl) ?_
                refine va_get (D := (dC, dI)) (ci := 9) (v := .ref (a 32)) (C := RX11) (T := TX11) (N := 55) hx hb hts inX11 hown hK hP 0 rfl rfl 32 (by decide) (hts _ mw_1191) (fun _ h9 => h9) rfl dX11_isInside_73 ?_
                refine lv_iconst (v := 0) hx hb dX11_isInside_76 (by decide) ?_
                refine z_iald hx hb hK hP 5 0 rfl rfl (e := 0) rfl (by omega) (by omega) dX11_isInside_77 ?_
                refine zz_i (v := cF40 cx f i) (v0) ?_
                refine lv_i2l (v := (cF40 cx f i).toInt64) hx hb dX11_isInside_78 (rfl) ?_
                refine lv_aload_n hx hb dX11_isInside_79 rfl (lv_at hl 2 rfl) ?_
                refine va_get (D := (dC, dI)) (ci := 9) (v := .ref (a 32)) (C := RX11) (T := TX11) (N := 55) hx hb hts inX11 hown hK hP 0 rfl rfl 32 (by decide) (hts _ mw_1191) (fun _ h9 => h9) rfl dX11_isInside_80 ?_
                refine lv_iconst (v := 1) hx hb dX11_isInside_83 (by decide) ?_
                refine z_iald hx hb hK hP 5 0 rfl rfl (e := 1) rfl (by omega) (by omega) dX11_isInside_84 ?_
                refine zz_i (v := cF40 cy f i) (v1) ?_
                refine lv_i2l (v := (cF40 cy f i).toInt64) hx hb dX11_isInside_85 (rfl) ?_
                refine lv_aload_n hx hb dX11_isInside_86 rfl (lv_at hl 2 rfl) ?_
                refine va_get (D := (dC, dI)) (ci := 9) (v := .ref (a 32)) (C := RX11) (T := TX11) (N := 55) hx hb hts inX11 hown hK hP 0 rfl rfl 32 (by decide) (hts _ mw_1191) (fun _ h9 => h9) rfl dX11_isInside_87 ?_
                refine lv_iconst (v := 2) hx hb dX11_isInside_90 (by decide) ?_
                refine z_iald hx hb hK hP 5 0 rfl rfl (e := 2) rfl (by omega) (by omega) dX11_isInside_91 ?_
                refine zz_i (v := cF40 cx f (nxt n i)) (v2) ?_
                refine lv_i2l (v := (cF40 cx f (nxt n i)).toInt64) hx hb dX11_isInside_92 (rfl) ?_
                refine lv_aload_n hx hb dX11_isInside_93 rfl (lv_at hl 2 rfl) ?_
                refine va_get (D := (dC, dI)) (ci := 9) (v := .ref (a 32)) (C := RX11) (T := TX11) (N := 55) hx hb hts inX11 hown hK hP 0 rfl rfl 32 (by decide) (hts _ mw_1191) (fun _ h9 => h9) rfl dX11_isInside_94 ?_
                refine lv_iconst (v := 3) hx hb dX11_isInside_97 (by decide) ?_
                refine z_iald hx hb hK hP 5 0 rfl rfl (e := 3) rfl (by omega) (by omega) dX11_isInside_98 ?_
                refine zz_i (v := cF40 cy f (nxt n i)) (v3) ?_
                refine lv_i2l (v := (cF40 cy f (nxt n i)).toInt64) hx hb dX11_isInside_99 (rfl) ?_
                refine lv_iload_n hx hb dX11_isInside_100 rfl (lv_at hl 4 rfl) ?_
                refine lv_i2l (v := px.toInt64) hx hb dX11_isInside_101 (rfl) ?_
                refine lv_iload_n hx hb dX11_isInside_102 rfl (lv_at hl 5 rfl) ?_
                refine lv_i2l (v := py.toInt64) hx hb dX11_isInside_103 (rfl) ?_
                have hB1 := crBp (hp_f i hin9).1 (hp_f i hin9).2 (hp_f _ hnx).1 (hp_f _ hnx).2 hpx hpy
                have hB1 : -2000000 ≤ eCr n (cF40 cx f) (cF40 cy f) i px.toInt py.toInt ∧ eCr n (cF40 cx f) (cF40 cy f) i px.toInt py.toInt ≤ 2000000 := hB1
                have hPc := hP.sub (ws' := []) [] rfl
                have hDc := hD.sub (ws' := []) [] (by decide) rfl
                have hFc := va_free (wc := []) hD hS hA [] rfl
                refine zcall (st1 := [.long (jI (cr (cF40 cx f i).toInt (cF40 cy f i).toInt (cF40 cx f (nxt n i)).toInt (cF40 cy f (nxt n i)).toInt px.toInt py.toInt))]) (va_runS (As := [.long ((cF40 cx f i).toInt64), .long ((cF40 cy f i).toInt64), .long ((cF40 cx f (nxt n i)).toInt64), .long ((cF40 cy f (nxt n i)).toInt64), .long px.toInt64, .long py.toInt64]) (rest := []) ⟨hx, hb, hml, hown, hts⟩ (k_M_cross l dC dI cI cZ cF H.size (cF40 cx f i) (cF40 cy f i) (cF40 cx f (nxt n i)) (cF40 cy f (nxt n i)) px py ((hp_f i hin9).1) ((hp_f i hin9).2) ((hp_f _ hnx).1) ((hp_f _ hnx).2) (hpx) (hpy)) (va_cwS 6 hts (zz_gS mw_1381 mw_1382 mw_110 mc_yX11_cross) rfl rfl rfl (by decide +kernel) ⟨Nat.le_of_ble_eq_true rfl, Nat.le_of_ble_eq_true rfl⟩) (zPS2 hPc hDc hK hXN) rfl rfl hl.1 rfl (lv_room (Nat.le_of_ble_eq_true rfl)) dX11_isInside_104 ⟨Nat.le_of_ble_eq_true rfl, Nat.le_of_ble_eq_true rfl⟩) hS hFc hFc rfl (fun t H1 locs ht hB hk1 hS => ?_)
                obtain ⟨hP1, hD1⟩ := hB
                rw [ht] at hP1
                obtain ⟨hP, hD⟩ := va_join (wr := [(om k0 a I0 J0), (oa (a 1) cI 201 kd), (oa (a 11) cI 201 mn), (oa (a 12) cI 8040 cx), (oa (a 13) cI 8040 cy), (oa (a 32) cI 8 S2)]) (w1 := []) hP hD [] [0, 1, 2, 3, 4, 5] rfl rfl (by decide) (by decide) hk1 hFc hP1 hD1
                clear hk1 hPc hDc hFc hP1 hD1 ht
                generalize H1 = H at hP hS ⊢
                have hP : va_P (dC, dI) classes [(om k0 a I0 J0), (oa (a 1) cI 201 kd), (oa (a 11) cI 201 mn), (oa (a 12) cI 8040 cx), (oa (a 13) cI 8040 cy), (oa (a 32) cI 8 S2)] H := hP
                have hD : va_D A [(om k0 a I0 J0), (oa (a 1) cI 201 kd), (oa (a 11) cI 201 mn), (oa (a 12) cI 8040 cx), (oa (a 13) cI 8040 cy), (oa (a 32) cI 8 S2)] := hD
                refine zz_l (v := jI (eCr n (cF40 cx f) (cF40 cy f) i px.toInt py.toInt)) (rfl) ?_
                refine lv_lstore (lv' := [(6, .long (jI (eCr n (cF40 cx f) (cF40 cy f) i px.toInt py.toInt))), (5, .int (nI i)), (4, .int (pI (par2 (eTg n (cF40 cx f) (cF40 cy f) px.toInt py.toInt) i))), (0, .ref k0), (1, .int (nI f)), (2, .int px), (3, .int py)]) hx hb dX11_isInside_107 hl (by decide) rfl (fun ls hl => ?_)
                refine lv_aload_n hx hb dX11_isInside_109 rfl (lv_at hl 3 rfl) ?_
                refine va_get (D := (dC, dI)) (ci := 9) (v := .ref (a 32)) (C := RX11) (T := TX11) (N := 55) hx hb hts inX11 hown hK hP 0 rfl rfl 32 (by decide) (hts _ mw_1191) (fun _ h9 => h9) rfl dX11_isInside_110 ?_
                refine lv_iconst (v := 3) hx hb dX11_isInside_113 (by decide) ?_
                refine z_iald hx hb hK hP 5 0 rfl rfl (e := 3) rfl (by omega) (by omega) dX11_isInside_114 ?_
                refine zz_i (v := cF40 cy f (nxt n i)) (v3) ?_
                refine lv_aload_n hx hb dX11_isInside_115 rfl (lv_at hl 3 rfl) ?_
                refine va_get (D := (dC, dI)) (ci := 9) (v := .ref (a 32)) (C := RX11) (T := TX11) (N := 55) hx hb hts inX11 hown hK hP 0 rfl rfl 32 (by decide) (hts _ mw_1191) (fun _ h9 => h9) rfl dX11_isInside_116 ?_
                refine lv_iconst (v := 1) hx hb dX11_isInside_119 (by decide) ?_
                refine z_iald hx hb hK hP 5 0 rfl rfl (e := 1) rfl (by omega) (by omega) dX11_isInside_120 ?_
                refine zz_i (v := cF40 cy f i) (v1) ?_
                refine lv_icmp_le (tgt := 134) hx hb dX11_isInside_121 (by decide) (fun c_8 => ?_) (fun c_8 => ?_)
                · have c_8 : (cF40 cy f (nxt n i)).toInt ≤ (cF40 cy f i).toInt := zc_le rfl rfl c_8
                  refine lv_lload hx hb dX11_isInside_134 (lv_at hl 0 rfl) ?_
                  refine lv_lconst (v := 0) hx hb dX11_isInside_136 (by decide) ?_
                  refine W.lcmp hx hb dX11_isInside_137 ?_
                  refine lv_if_ge (tgt := 153) hx hb dX11_isInside_138 (by decide) (fun c_9 => ?_) (fun c_9 => ?_)
                  · have c_9 : 0 ≤ (eCr n (cF40 cx f) (cF40 cy f) i px.toInt py.toInt) := zl_ge (jI_toInt (by omega)) (by decide) c_9
                    refine lv_iinc (v := nI (i + 1)) (lv' := [(5, .int (nI (i + 1))), (6, .long (jI (eCr n (cF40 cx f) (cF40 cy f) i px.toInt py.toInt))), (4, .int (pI (par2 (eTg n (cF40 cx f) (cF40 cy f) px.toInt py.toInt) i))), (0, .ref k0), (1, .int (nI f)), (2, .int px), (3, .int py)]) hx hb dX11_isInside_153 hl (k := 1) rfl (nI_add i 1) (by decide) rfl (fun ls hl => ?_)
                    refine lv_goto (tgt := 18) hx hb dX11_isInside_156 (by decide) ?_
                    have hl9 := lv_sub hl [0, 2, 3, 4, 5, 6] rfl
                    have e9_4 : pI (par2 (eTg n (cF40 cx f) (cF40 cy f) px.toInt py.toInt) (i + 1)) = (pI (par2 (eTg n (cF40 cx f) (cF40 cy f) px.toInt py.toInt) i) : Int32) := by first | exact zp_iff (par2_n (by unfold eTg; omega)) | exact zp_t ((par2_y (P := (eTg n (cF40 cx f) (cF40 cy f) px.toInt py.toInt)) (i := i) (by unfold eTg; omega)).mpr (by assumption)) | exact zp_f (fun q => (par2_y (P := (eTg n (cF40 cx f) (cF40 cy f) px.toInt py.toInt)) (i := i) (by unfold eTg; omega)).mp q (by assumption))
                    have hl9 : lv_has ls 8 [(5, .int (nI (i + 1))), (4, .int (pI (par2 (eTg n (cF40 cx f) (cF40 cy f) px.toInt py.toInt) (i + 1)))), (0, .ref k0), (1, .int (nI f)), (2, .int px), (3, .int py)] := by rw [e9_4]; exact hl9
                    exact ih_18 (i + 1) S2 H locs ls (by omega) (by omega) hP hD hS hl9
                  · have c_9 : (eCr n (cF40 cx f) (cF40 cy f) i px.toInt py.toInt) < 0 := zl_nge (jI_toInt (by omega)) (by decide) c_9
                    refine lv_iload hx hb dX11_isInside_141 (lv_at hl 2 rfl) ?_
                    refine lv_if_ne (tgt := 150) hx hb dX11_isInside_143 (by decide) (fun c_10 => ?_) (fun c_10 => ?_)
                    · have c_10 : par2 (eTg n (cF40 cx f) (cF40 cy f) px.toInt py.toInt) i := zp_1 c_10
                      refine lv_iconst (v := 0) hx hb dX11_isInside_150 (by decide) ?_
                      refine lv_istore (lv' := [(4, .int 0), (6, .long (jI (eCr n (cF40 cx f) (cF40 cy f) i px.toInt py.toInt))), (5, .int (nI i)), (0, .ref k0), (1, .int (nI f)), (2, .int px), (3, .int py)]) hx hb dX11_isInside_151 hl (by decide) rfl (fun ls hl => ?_)
                      refine lv_iinc (v := nI (i + 1)) (lv' := [(5, .int (nI (i + 1))), (4, .int 0), (6, .long (jI (eCr n (cF40 cx f) (cF40 cy f) i px.toInt py.toInt))), (0, .ref k0), (1, .int (nI f)), (2, .int px), (3, .int py)]) hx hb dX11_isInside_153 hl (k := 2) rfl (nI_add i 1) (by decide) rfl (fun ls hl => ?_)
                      refine lv_goto (tgt := 18) hx hb dX11_isInside_156 (by decide) ?_
                      have hl9 := lv_sub hl [0, 1, 3, 4, 5, 6] rfl
                      have e9_4 : pI (par2 (eTg n (cF40 cx f) (cF40 cy f) px.toInt py.toInt) (i + 1)) = (0 : Int32) := by first | exact zp_iff (par2_n (by unfold eTg; omega)) | exact zp_t ((par2_y (P := (eTg n (cF40 cx f) (cF40 cy f) px.toInt py.toInt)) (i := i) (by unfold eTg; omega)).mpr (by assumption)) | exact zp_f (fun q => (par2_y (P := (eTg n (cF40 cx f) (cF40 cy f) px.toInt py.toInt)) (i := i) (by unfold eTg; omega)).mp q (by assumption))
                      have hl9 : lv_has ls 8 [(5, .int (nI (i + 1))), (4, .int (pI (par2 (eTg n (cF40 cx f) (cF40 cy f) px.toInt py.toInt) (i + 1)))), (0, .ref k0), (1, .int (nI f)), (2, .int px), (3, .int py)] := by rw [e9_4]; exact hl9
                      exact ih_18 (i + 1) S2 H locs ls (by omega) (by omega) hP hD hS hl9
                    · have c_10 : ¬ (par2 (eTg n (cF40 cx f) (cF40 cy f) px.toInt py.toInt) i) := zp_0 c_10
                      refine lv_iconst (v := 1) hx hb dX11_isInside_146 (by decide) ?_
                      refine lv_goto (tgt := 151) hx hb dX11_isInside_147 (by decide) ?_
                      refine lv_istore (lv' := [(4, .int 1), (6, .long (jI (eCr n (cF40 cx f) (cF40 cy f) i px.toInt py.toInt))), (5, .int (nI i)), (0, .ref k0), (1, .int (nI f)), (2, .int px), (3, .int py)]) hx hb dX11_isInside_151 hl (by decide) rfl (fun ls hl => ?_)
                      refine lv_iinc (v := nI (i + 1)) (lv' := [(5, .int (nI (i + 1))), (4, .int 1), (6, .long (jI (eCr n (cF40 cx f) (cF40 cy f) i px.toInt py.toInt))), (0, .ref k0), (1, .int (nI f)), (2, .int px), (3, .int py)]) hx hb dX11_isInside_153 hl (k := 2) rfl (nI_add i 1) (by decide) rfl (fun ls hl => ?_)
                      refine lv_goto (tgt := 18) hx hb dX11_isInside_156 (by decide) ?_
                      have hl9 := lv_sub hl [0, 1, 3, 4, 5, 6] rfl
                      have e9_4 : pI (par2 (eTg n (cF40 cx f) (cF40 cy f) px.toInt py.toInt) (i + 1)) = (1 : Int32) := by first | exact zp_iff (par2_n (by unfold eTg; omega)) | exact zp_t ((par2_y (P := (eTg n (cF40 cx f) (cF40 cy f) px.toInt py.toInt)) (i := i) (by unfold eTg; omega)).mpr (by assumption)) | exact zp_f (fun q => (par2_y (P := (eTg n (cF40 cx f) (cF40 cy f) px.toInt py.toInt)) (i := i) (by unfold eTg; omega)).mp q (by assumption))
                      have hl9 : lv_has ls 8 [(5, .int (nI (i + 1))), (4, .int (pI (par2 (eTg n (cF40 cx f) (cF40 cy f) px.toInt py.toInt) (i + 1)))), (0, .ref k0), (1, .int (nI f)), (2, .int px), (3, .int py)] := by rw [e9_4]; exact hl9
                      exact ih_18 (i + 1) S2 H locs ls (by omega) (by omega) hP hD hS hl9
                · have c_8 : (cF40 cy f i).toInt < (cF40 cy f (nxt n i)).toInt := zc_nle rfl rfl c_8
                  refine lv_lload hx hb dX11_isInside_124 (lv_at hl 0 rfl) ?_
                  refine lv_lconst (v := 0) hx hb dX11_isInside_126 (by decide) ?_
                  refine W.lcmp hx hb dX11_isInside_127 ?_
                  refine lv_if_le (tgt := 153) hx hb dX11_isInside_128 (by decide) (fun c_11 => ?_) (fun c_11 => ?_)
                  · have c_11 : (eCr n (cF40 cx f) (cF40 cy f) i px.toInt py.toInt) ≤ 0 := zl_le (jI_toInt (by omega)) (by decide) c_11
                    refine lv_iinc (v := nI (i + 1)) (lv' := [(5, .int (nI (i + 1))), (6, .long (jI (eCr n (cF40 cx f) (cF40 cy f) i px.toInt py.toInt))), (4, .int (pI (par2 (eTg n (cF40 cx f) (cF40 cy f) px.toInt py.toInt) i))), (0, .ref k0), (1, .int (nI f)), (2, .int px), (3, .int py)]) hx hb dX11_isInside_153 hl (k := 1) rfl (nI_add i 1) (by decide) rfl (fun ls hl => ?_)
                    refine lv_goto (tgt := 18) hx hb dX11_isInside_156 (by decide) ?_
                    have hl9 := lv_sub hl [0, 2, 3, 4, 5, 6] rfl
                    have e9_4 : pI (par2 (eTg n (cF40 cx f) (cF40 cy f) px.toInt py.toInt) (i + 1)) = (pI (par2 (eTg n (cF40 cx f) (cF40 cy f) px.toInt py.toInt) i) : Int32) := by first | exact zp_iff (par2_n (by unfold eTg; omega)) | exact zp_t ((par2_y (P := (eTg n (cF40 cx f) (cF40 cy f) px.toInt py.toInt)) (i := i) (by unfold eTg; omega)).mpr (by assumption)) | exact zp_f (fun q => (par2_y (P := (eTg n (cF40 cx f) (cF40 cy f) px.toInt py.toInt)) (i := i) (by unfold eTg; omega)).mp q (by assumption))
                    have hl9 : lv_has ls 8 [(5, .int (nI (i + 1))), (4, .int (pI (par2 (eTg n (cF40 cx f) (cF40 cy f) px.toInt py.toInt) (i + 1)))), (0, .ref k0), (1, .int (nI f)), (2, .int px), (3, .int py)] := by rw [e9_4]; exact hl9
                    exact ih_18 (i + 1) S2 H locs ls (by omega) (by omega) hP hD hS hl9
                  · have c_11 : 0 < (eCr n (cF40 cx f) (cF40 cy f) i px.toInt py.toInt) := zl_nle (jI_toInt (by omega)) (by decide) c_11
                    refine lv_goto (tgt := 141) hx hb dX11_isInside_131 (by decide) ?_
                    refine lv_iload hx hb dX11_isInside_141 (lv_at hl 2 rfl) ?_
                    refine lv_if_ne (tgt := 150) hx hb dX11_isInside_143 (by decide) (fun c_12 => ?_) (fun c_12 => ?_)
                    · have c_12 : par2 (eTg n (cF40 cx f) (cF40 cy f) px.toInt py.toInt) i := zp_1 c_12
                      refine lv_iconst (v := 0) hx hb dX11_isInside_150 (by decide) ?_
                      refine lv_istore (lv' := [(4, .int 0), (6, .long (jI (eCr n (cF40 cx f) (cF40 cy f) i px.toInt py.toInt))), (5, .int (nI i)), (0, .ref k0), (1, .int (nI f)), (2, .int px), (3, .int py)]) hx hb dX11_isInside_151 hl (by decide) rfl (fun ls hl => ?_)
                      refine lv_iinc (v := nI (i + 1)) (lv' := [(5, .int (nI (i + 1))), (4, .int 0), (6, .long (jI (eCr n (cF40 cx f) (cF40 cy f) i px.toInt py.toInt))), (0, .ref k0), (1, .int (nI f)), (2, .int px), (3, .int py)]) hx hb dX11_isInside_153 hl (k := 2) rfl (nI_add i 1) (by decide) rfl (fun ls hl => ?_)
                      refine lv_goto (tgt := 18) hx hb dX11_isInside_156 (by decide) ?_
                      have hl9 := lv_sub hl [0, 1, 3, 4, 5, 6] rfl
                      have e9_4 : pI (par2 (eTg n (cF40 cx f) (cF40 cy f) px.toInt py.toInt) (i + 1)) = (0 : Int32) := by first | exact zp_iff (par2_n (by unfold eTg; omega)) | exact zp_t ((par2_y (P := (eTg n (cF40 cx f) (cF40 cy f) px.toInt py.toInt)) (i := i) (by unfold eTg; omega)).mpr (by assumption)) | exact zp_f (fun q => (par2_y (P := (eTg n (cF40 cx f) (cF40 cy f) px.toInt py.toInt)) (i := i) (by unfold eTg; omega)).mp q (by assumption))
                      have hl9 : lv_has ls 8 [(5, .int (nI (i + 1))), (4, .int (pI (par2 (eTg n (cF40 cx f) (cF40 cy f) px.toInt py.toInt) (i + 1)))), (0, .ref k0), (1, .int (nI f)), (2, .int px), (3, .int py)] := by rw [e9_4]; exact hl9
                      exact ih_18 (i + 1) S2 H locs ls (by omega) (by omega) hP hD hS hl9
                    · have c_12 : ¬ (par2 (eTg n (cF40 cx f) (cF40 cy f) px.toInt py.toInt) i) := zp_0 c_12
                      refine lv_iconst (v := 1) hx hb dX11_isInside_146 (by decide) ?_
                      refine lv_goto (tgt := 151) hx hb dX11_isInside_147 (by decide) ?_
                      refine lv_istore (lv' := [(4, .int 1), (6, .long (jI (eCr n (cF40 cx f) (cF40 cy f) i px.toInt py.toInt))), (5, .int (nI i)), (0, .ref k0), (1, .int (nI f)), (2, .int px), (3, .int py)]) hx hb dX11_isInside_151 hl (by decide) rfl (fun ls hl => ?_)
                      refine lv_iinc (v := nI (i + 1)) (lv' := [(5, .int (nI (i + 1))), (4, .int 1), (6, .long (jI (eCr n (cF40 cx f) (cF40 cy f) i px.toInt py.toInt))), (0, .ref k0), (1, .int (nI f)), (2, .int px), (3, .int py)]) hx hb dX11_isInside_153 hl (k := 2) rfl (nI_add i 1) (by decide) rfl (fun ls hl => ?_)
                      refine lv_goto (tgt := 18) hx hb dX11_isInside_156 (by decide) ?_
                      have hl9 := lv_sub hl [0, 1, 3, 4, 5, 6] rfl
                      have e9_4 : pI (par2 (eTg n (cF40 cx f) (cF40 cy f) px.toInt py.toInt) (i + 1)) = (1 : Int32) := by first | exact zp_iff (par2_n (by unfold eTg; omega)) | exact zp_t ((par2_y (P := (eTg n (cF40 cx f) (cF40 cy f) px.toInt py.toInt)) (i := i) (by unfold eTg; omega)).mpr (by assumption)) | exact zp_f (fun q => (par2_y (P := (eTg n (cF40 cx f) (cF40 cy f) px.toInt py.toInt)) (i := i) (by unfold eTg; omega)).mp q (by assumption))
                      have hl9 : lv_has ls 8 [(5, .int (nI (i + 1))), (4, .int (pI (par2 (eTg n (cF40 cx f) (cF40 cy f) px.toInt py.toInt) (i + 1)))), (0, .ref k0), (1, .int (nI f)), (2, .int px), (3, .int py)] := by rw [e9_4]; exact hl9
                      exact ih_18 (i + 1) S2 H locs ls (by omega) (by omega) hP hD hS hl9
              · exact absurd c_7 (by decide)
          · have c_4 : py.toInt < (cF40 cy f i).toInt := zc_nle rfl rfl c_4
            refine lv_iconst (v := 1) hx hb dX11_isInside_46 (by decide) ?_
            refine lv_goto (tgt := 51) hx hb dX11_isInside_47 (by decide) ?_
            refine lv_aload_n hx hb dX11_isInside_51 rfl (lv_at hl 2 rfl) ?_
            refine va_get (D := (dC, dI)) (ci := 9) (v := .ref (a 32)) (C := RX11) (T := TX11) (N := 55) hx hb hts inX11 hown hK hP 0 rfl rfl 32 (by decide) (hts _ mw_1191) (fun _ h9 => h9) rfl dX11_isInside_52 ?_
            refine lv_iconst (v := 3) hx hb dX11_isInside_55 (by decide) ?_
            refine z_iald hx hb hK hP 5 0 rfl rfl (e := 3) rfl (by omega) (by omega) dX11_isInside_56 ?_
            refine zz_i (v := cF40 cy f (nxt n i)) (v3) ?_
            refine lv_iload_n hx hb dX11_isInside_57 rfl (lv_at hl 5 rfl) ?_
            refine lv_icmp_le (tgt := 65) hx hb dX11_isInside_58 (by decide) (fun c_13 => ?_) (fun c_13 => ?_)
            · have c_13 : (cF40 cy f (nxt n i)).toInt ≤ py.toInt := zc_le rfl rfl c_13
              refine lv_iconst (v := 0) hx hb dX11_isInside_65 (by decide) ?_
              refine lv_icmp_ne (tgt := 72) hx hb dX11_isInside_66 (by decide) (fun c_14 => ?_) (fun c_14 => ?_)
              · refine lv_aload_n hx hb dX11_isInside_72 rfl (lv_at hl 2 rfl) ?_
                refine va_get (D := (dC, dI)) (ci := 9) (v := .ref (a 32)) (C := RX11) (T := TX11) (N := 55) hx hb hts inX11 hown hK hP 0 rfl rfl 32 (by decide) (hts _ mw_1191) (fun _ h9 => h9) rfl dX11_isInside_73 ?_
                refine lv_iconst (v := 0) hx hb dX11_isInside_76 (by decide) ?_
                refine z_iald hx hb hK hP 5 0 rfl rfl (e := 0) rfl (by omega) (by omega) dX11_isInside_77 ?_
                refine zz_i (v := cF40 cx f i) (v0) ?_
                refine lv_i2l (v := (cF40 cx f i).toInt64) hx hb dX11_isInside_78 (rfl) ?_
                refine lv_aload_n hx hb dX11_isInside_79 rfl (lv_at hl 2 rfl) ?_
                refine va_get (D := (dC, dI)) (ci := 9) (v := .ref (a 32)) (C := RX11) (T := TX11) (N := 55) hx hb hts inX11 hown hK hP 0 rfl rfl 32 (by decide) (hts _ mw_1191) (fun _ h9 => h9) rfl dX11_isInside_80 ?_
                refine lv_iconst (v := 1) hx hb dX11_isInside_83 (by decide) ?_
                refine z_iald hx hb hK hP 5 0 rfl rfl (e := 1) rfl (by omega) (by omega) dX11_isInside_84 ?_
                refine zz_i (v := cF40 cy f i) (v1) ?_
                refine lv_i2l (v := (cF40 cy f i).toInt64) hx hb dX11_isInside_85 (rfl) ?_
                refine lv_aload_n hx hb dX11_isInside_86 rfl (lv_at hl 2 rfl) ?_
                refine va_get (D := (dC, dI)) (ci := 9) (v := .ref (a 32)) (C := RX11) (T := TX11) (N := 55) hx hb hts inX11 hown hK hP 0 rfl rfl 32 (by decide) (hts _ mw_1191) (fun _ h9 => h9) rfl dX11_isInside_87 ?_
                refine lv_iconst (v := 2) hx hb dX11_isInside_90 (by decide) ?_
                refine z_iald hx hb hK hP 5 0 rfl rfl (e := 2) rfl (by omega) (by omega) dX11_isInside_91 ?_
                refine zz_i (v := cF40 cx f (nxt n i)) (v2) ?_
                refine lv_i2l (v := (cF40 cx f (nxt n i)).toInt64) hx hb dX11_isInside_92 (rfl) ?_
                refine lv_aload_n hx hb dX11_isInside_93 rfl (lv_at hl 2 rfl) ?_
                refine va_get (D := (dC, dI)) (ci := 9) (v := .ref (a 32)) (C := RX11) (T := TX11) (N := 55) hx hb hts inX11 hown hK hP 0 rfl rfl 32 (by decide) (hts _ mw_1191) (fun _ h9 => h9) rfl dX11_isInside_94 ?_
                refine lv_iconst (v := 3) hx hb dX11_isInside_97 (by decide) ?_
                refine z_iald hx hb hK hP 5 0 rfl rfl (e := 3) rfl (by omega) (by omega) dX11_isInside_98 ?_
                refine zz_i (v := cF40 cy f (nxt n i)) (v3) ?_
                refine lv_i2l (v := (cF40 cy f (nxt n i)).toInt64) hx hb dX11_isInside_99 (rfl) ?_
                refine lv_iload_n hx hb dX11_isInside_100 rfl (lv_at hl 4 rfl) ?_
                refine lv_i2l (v := px.toInt64) hx hb dX11_isInside_101 (rfl) ?_
                refine lv_iload_n hx hb dX11_isInside_102 rfl (lv_at hl 5 rfl) ?_
                refine lv_i2l (v := py.toInt64) hx hb dX11_isInside_103 (rfl) ?_
                have hB1 := crBp (hp_f i hin9).1 (hp_f i hin9).2 (hp_f _ hnx).1 (hp_f _ hnx).2 hpx hpy
                have hB1 : -2000000 ≤ eCr n (cF40 cx f) (cF40 cy f) i px.toInt py.toInt ∧ eCr n (cF40 cx f) (cF40 cy f) i px.toInt py.toInt ≤ 2000000 := hB1
                have hPc := hP.sub (ws' := []) [] rfl
                have hDc := hD.sub (ws' := []) [] (by decide) rfl
                have hFc := va_free (wc := []) hD hS hA [] rfl
                refine zcall (st1 := [.long (jI (cr (cF40 cx f i).toInt (cF40 cy f i).toInt (cF40 cx f (nxt n i)).toInt (cF40 cy f (nxt n i)).toInt px.toInt py.toInt))]) (va_runS (As := [.long ((cF40 cx f i).toInt64), .long ((cF40 cy f i).toInt64), .long ((cF40 cx f (nxt n i)).toInt64), .long ((cF40 cy f (nxt n i)).toInt64), .long px.toInt64, .long py.toInt64]) (rest := []) ⟨hx, hb, hml, hown, hts⟩ (k_M_cross l dC dI cI cZ cF H.size (cF40 cx f i) (cF40 cy f i) (cF40 cx f (nxt n i)) (cF40 cy f (nxt n i)) px py ((hp_f i hin9).1) ((hp_f i hin9).2) ((hp_f _ hnx).1) ((hp_f _ hnx).2) (hpx) (hpy)) (va_cwS 6 hts (zz_gS mw_1381 mw_1382 mw_110 mc_yX11_cross) rfl rfl rfl (by decide +kernel) ⟨Nat.le_of_ble_eq_true rfl, Nat.le_of_ble_eq_true rfl⟩) (zPS2 hPc hDc hK hXN) rfl rfl hl.1 rfl (lv_room (Nat.le_of_ble_eq_true rfl)) dX11_isInside_104 ⟨Nat.le_of_ble_eq_true rfl, Nat.le_of_ble_eq_true rfl⟩) hS hFc hFc rfl (fun t H1 locs ht hB hk1 hS => ?_)
                obtain ⟨hP1, hD1⟩ := hB
                rw [ht] at hP1
                obtain ⟨hP, hD⟩ := va_join (wr := [(om k0 a I0 J0), (oa (a 1) cI 201 kd), (oa (a 11) cI 201 mn), (oa (a 12) cI 8040 cx), (oa (a 13) cI 8040 cy), (oa (a 32) cI 8 S2)]) (w1 := []) hP hD [] [0, 1, 2, 3, 4, 5] rfl rfl (by decide) (by decide) hk1 hFc hP1 hD1
                clear hk1 hPc hDc hFc hP1 hD1 ht
                generalize H1 = H at hP hS ⊢
                have hP : va_P (dC, dI) classes [(om k0 a I0 J0), (oa (a 1) cI 201 kd), (oa (a 11) cI 201 mn), (oa (a 12) cI 8040 cx), (oa (a 13) cI 8040 cy), (oa (a 32) cI 8 S2)] H := hP
                have hD : va_D A [(om k0 a I0 J0), (oa (a 1) cI 201 kd), (oa (a 11) cI 201 mn), (oa (a 12) cI 8040 cx), (oa (a 13) cI 8040 cy), (oa (a 32) cI 8 S2)] := hD
                refine zz_l (v := jI (eCr n (cF40 cx f) (cF40 cy f) i px.toInt py.toInt)) (rfl) ?_
                refine lv_lstore (lv' := [(6, .long (jI (eCr n (cF40 cx f) (cF40 cy f) i px.toInt py.toInt))), (5, .int (nI i)), (4, .int (pI (par2 (eTg n (cF40 cx f) (cF40 cy f) px.toInt py.toInt) i))), (0, .ref k0), (1, .int (nI f)), (2, .int px), (3, .int py)]) hx hb dX11_isInside_107 hl (by decide) rfl (fun ls hl => ?_)
                refine lv_aload_n hx hb dX11_isInside_109 rfl (lv_at hl 3 rfl) ?_
                refine va_get (D := (dC, dI)) (ci := 9) (v := .ref (a 32)) (C := RX11) (T := TX11) (N := 55) hx hb hts inX11 hown hK hP 0 rfl rfl 32 (by decide) (hts _ mw_1191) (fun _ h9 => h9) rfl dX11_isInside_110 ?_
                refine lv_iconst (v := 3) hx hb dX11_isInside_113 (by decide) ?_
                refine z_iald hx hb hK hP 5 0 rfl rfl (e := 3) rfl (by omega) (by omega) dX11_isInside_114 ?_
                refine zz_i (v := cF40 cy f (nxt n i)) (v3) ?_
                refine lv_aload_n hx hb dX11_isInside_115 rfl (lv_at hl 3 rfl) ?_
                refine va_get (D := (dC, dI)) (ci := 9) (v := .ref (a 32)) (C := RX11) (T := TX11) (N := 55) hx hb hts inX11 hown hK hP 0 rfl rfl 32 (by decide) (hts _ mw_1191) (fun _ h9 => h9) rfl dX11_isInside_116 ?_
                refine lv_iconst (v := 1) hx hb dX11_isInside_119 (by decide) ?_
                refine z_iald hx hb hK hP 5 0 rfl rfl (e := 1) rfl (by omega) (by omega) dX11_isInside_120 ?_
                refine zz_i (v := cF40 cy f i) (v1) ?_
                refine lv_icmp_le (tgt := 134) hx hb dX11_isInside_121 (by decide) (fun c_15 => ?_) (fun c_15 => ?_)
                · have c_15 : (cF40 cy f (nxt n i)).toInt ≤ (cF40 cy f i).toInt := zc_le rfl rfl c_15
                  refine lv_lload hx hb dX11_isInside_134 (lv_at hl 0 rfl) ?_
                  refine lv_lconst (v := 0) hx hb dX11_isInside_136 (by decide) ?_
                  refine W.lcmp hx hb dX11_isInside_137 ?_
                  refine lv_if_ge (tgt := 153) hx hb dX11_isInside_138 (by decide) (fun c_16 => ?_) (fun c_16 => ?_)
                  · have c_16 : 0 ≤ (eCr n (cF40 cx f) (cF40 cy f) i px.toInt py.toInt) := zl_ge (jI_toInt (by omega)) (by decide) c_16
                    refine lv_iinc (v := nI (i + 1)) (lv' := [(5, .int (nI (i + 1))), (6, .long (jI (eCr n (cF40 cx f) (cF40 cy f) i px.toInt py.toInt))), (4, .int (pI (par2 (eTg n (cF40 cx f) (cF40 cy f) px.toInt py.toInt) i))), (0, .ref k0), (1, .int (nI f)), (2, .int px), (3, .int py)]) hx hb dX11_isInside_153 hl (k := 1) rfl (nI_add i 1) (by decide) rfl (fun ls hl => ?_)
                    refine lv_goto (tgt := 18) hx hb dX11_isInside_156 (by decide) ?_
                    have hl9 := lv_sub hl [0, 2, 3, 4, 5, 6] rfl
                    have e9_4 : pI (par2 (eTg n (cF40 cx f) (cF40 cy f) px.toInt py.toInt) (i + 1)) = (pI (par2 (eTg n (cF40 cx f) (cF40 cy f) px.toInt py.toInt) i) : Int32) := by first | exact zp_iff (par2_n (by unfold eTg; omega)) | exact zp_t ((par2_y (P := (eTg n (cF40 cx f) (cF40 cy f) px.toInt py.toInt)) (i := i) (by unfold eTg; omega)).mpr (by assumption)) | exact zp_f (fun q => (par2_y (P := (eTg n (cF40 cx f) (cF40 cy f) px.toInt py.toInt)) (i := i) (by unfold eTg; omega)).mp q (by assumption))
                    have hl9 : lv_has ls 8 [(5, .int (nI (i + 1))), (4, .int (pI (par2 (eTg n (cF40 cx f) (cF40 cy f) px.toInt py.toInt) (i + 1)))), (0, .ref k0), (1, .int (nI f)), (2, .int px), (3, .int py)] := by rw [e9_4]; exact hl9
                    exact ih_18 (i + 1) S2 H locs ls (by omega) (by omega) hP hD hS hl9
                  · have c_16 : (eCr n (cF40 cx f) (cF40 cy f) i px.toInt py.toInt) < 0 := zl_nge (jI_toInt (by omega)) (by decide) c_16
                    refine lv_iload hx hb dX11_isInside_141 (lv_at hl 2 rfl) ?_
                    refine lv_if_ne (tgt := 150) hx hb dX11_isInside_143 (by decide) (fun c_17 => ?_) (fun c_17 => ?_)
                    · have c_17 : par2 (eTg n (cF40 cx f) (cF40 cy f) px.toInt py.toInt) i := zp_1 c_17
                      refine lv_iconst (v := 0) hx hb dX11_isInside_150 (by decide) ?_
                      refine lv_istore (lv' := [(4, .int 0), (6, .long (jI (eCr n (cF40 cx f) (cF40 cy f) i px.toInt py.toInt))), (5, .int (nI i)), (0, .ref k0), (1, .int (nI f)), (2, .int px), (3, .int py)]) hx hb dX11_isInside_151 hl (by decide) rfl (fun ls hl => ?_)
                      refine lv_iinc (v := nI (i + 1)) (lv' := [(5, .int (nI (i + 1))), (4, .int 0), (6, .long (jI (eCr n (cF40 cx f) (cF40 cy f) i px.toInt py.toInt))), (0, .ref k0), (1, .int (nI f)), (2, .int px), (3, .int py)]) hx hb dX11_isInside_153 hl (k := 2) rfl (nI_add i 1) (by decide) rfl (fun ls hl => ?_)
                      refine lv_goto (tgt := 18) hx hb dX11_isInside_156 (by decide) ?_
                      have hl9 := lv_sub hl [0, 1, 3, 4, 5, 6] rfl
                      have e9_4 : pI (par2 (eTg n (cF40 cx f) (cF40 cy f) px.toInt py.toInt) (i + 1)) = (0 : Int32) := by first | exact zp_iff (par2_n (by unfold eTg; omega)) | exact zp_t ((par2_y (P := (eTg n (cF40 cx f) (cF40 cy f) px.toInt py.toInt)) (i := i) (by unfold eTg; omega)).mpr (by assumption)) | exact zp_f (fun q => (par2_y (P := (eTg n (cF40 cx f) (cF40 cy f) px.toInt py.toInt)) (i := i) (by unfold eTg; omega)).mp q (by assumption))
                      have hl9 : lv_has ls 8 [(5, .int (nI (i + 1))), (4, .int (pI (par2 (eTg n (cF40 cx f) (cF40 cy f) px.toInt py.toInt) (i + 1)))), (0, .ref k0), (1, .int (nI f)), (2, .int px), (3, .int py)] := by rw [e9_4]; exact hl9
                      exact ih_18 (i + 1) S2 H locs ls (by omega) (by omega) hP hD hS hl9
                    · have c_17 : ¬ (par2 (eTg n (cF40 cx f) (cF40 cy f) px.toInt py.toInt) i) := zp_0 c_17
                      refine lv_iconst (v := 1) hx hb dX11_isInside_146 (by decide) ?_
                      refine lv_goto (tgt := 151) hx hb dX11_isInside_147 (by decide) ?_
                      refine lv_istore (lv' := [(4, .int 1), (6, .long (jI (eCr n (cF40 cx f) (cF40 cy f) i px.toInt py.toInt))), (5, .int (nI i)), (0, .ref k0), (1, .int (nI f)), (2, .int px), (3, .int py)]) hx hb dX11_isInside_151 hl (by decide) rfl (fun ls hl => ?_)
                      refine lv_iinc (v := nI (i + 1)) (lv' := [(5, .int (nI (i + 1))), (4, .int 1), (6, .long (jI (eCr n (cF40 cx f) (cF40 cy f) i px.toInt py.toInt))), (0, .ref k0), (1, .int (nI f)), (2, .int px), (3, .int py)]) hx hb dX11_isInside_153 hl (k := 2) rfl (nI_add i 1) (by decide) rfl (fun ls hl => ?_)
                      refine lv_goto (tgt := 18) hx hb dX11_isInside_156 (by decide) ?_
                      have hl9 := lv_sub hl [0, 1, 3, 4, 5, 6] rfl
                      have e9_4 : pI (par2 (eTg n (cF40 cx f) (cF40 cy f) px.toInt py.toInt) (i + 1)) = (1 : Int32) := by first | exact zp_iff (par2_n (by unfold eTg; omega)) | exact zp_t ((par2_y (P := (eTg n (cF40 cx f) (cF40 cy f) px.toInt py.toInt)) (i := i) (by unfold eTg; omega)).mpr (by assumption)) | exact zp_f (fun q => (par2_y (P := (eTg n (cF40 cx f) (cF40 cy f) px.toInt py.toInt)) (i := i) (by unfold eTg; omega)).mp q (by assumption))
                      have hl9 : lv_has ls 8 [(5, .int (nI (i + 1))), (4, .int (pI (par2 (eTg n (cF40 cx f) (cF40 cy f) px.toInt py.toInt) (i + 1)))), (0, .ref k0), (1, .int (nI f)), (2, .int px), (3, .int py)] := by rw [e9_4]; exact hl9
                      exact ih_18 (i + 1) S2 H locs ls (by omega) (by omega) hP hD hS hl9
                · have c_15 : (cF40 cy f i).toInt < (cF40 cy f (nxt n i)).toInt := zc_nle rfl rfl c_15
                  refine lv_lload hx hb dX11_isInside_124 (lv_at hl 0 rfl) ?_
                  refine lv_lconst (v := 0) hx hb dX11_isInside_126 (by decide) ?_
                  refine W.lcmp hx hb dX11_isInside_127 ?_
                  refine lv_if_le (tgt := 153) hx hb dX11_isInside_128 (by decide) (fun c_18 => ?_) (fun c_18 => ?_)
                  · have c_18 : (eCr n (cF40 cx f) (cF40 cy f) i px.toInt py.toInt) ≤ 0 := zl_le (jI_toInt (by omega)) (by decide) c_18
                    refine lv_iinc (v := nI (i + 1)) (lv' := [(5, .int (nI (i + 1))), (6, .long (jI (eCr n (cF40 cx f) (cF40 cy f) i px.toInt py.toInt))), (4, .int (pI (par2 (eTg n (cF40 cx f) (cF40 cy f) px.toInt py.toInt) i))), (0, .ref k0), (1, .int (nI f)), (2, .int px), (3, .int py)]) hx hb dX11_isInside_153 hl (k := 1) rfl (nI_add i 1) (by decide) rfl (fun ls hl => ?_)
                    refine lv_goto (tgt := 18) hx hb dX11_isInside_156 (by decide) ?_
                    have hl9 := lv_sub hl [0, 2, 3, 4, 5, 6] rfl
                    have e9_4 : pI (par2 (eTg n (cF40 cx f) (cF40 cy f) px.toInt py.toInt) (i + 1)) = (pI (par2 (eTg n (cF40 cx f) (cF40 cy f) px.toInt py.toInt) i) : Int32) := by first | exact zp_iff (par2_n (by unfold eTg; omega)) | exact zp_t ((par2_y (P := (eTg n (cF40 cx f) (cF40 cy f) px.toInt py.toInt)) (i := i) (by unfold eTg; omega)).mpr (by assumption)) | exact zp_f (fun q => (par2_y (P := (eTg n (cF40 cx f) (cF40 cy f) px.toInt py.toInt)) (i := i) (by unfold eTg; omega)).mp q (by assumption))
                    have hl9 : lv_has ls 8 [(5, .int (nI (i + 1))), (4, .int (pI (par2 (eTg n (cF40 cx f) (cF40 cy f) px.toInt py.toInt) (i + 1)))), (0, .ref k0), (1, .int (nI f)), (2, .int px), (3, .int py)] := by rw [e9_4]; exact hl9
                    exact ih_18 (i + 1) S2 H locs ls (by omega) (by omega) hP hD hS hl9
                  · have c_18 : 0 < (eCr n (cF40 cx f) (cF40 cy f) i px.toInt py.toInt) := zl_nle (jI_toInt (by omega)) (by decide) c_18
                    refine lv_goto (tgt := 141) hx hb dX11_isInside_131 (by decide) ?_
                    refine lv_iload hx hb dX11_isInside_141 (lv_at hl 2 rfl) ?_
                    refine lv_if_ne (tgt := 150) hx hb dX11_isInside_143 (by decide) (fun c_19 => ?_) (fun c_19 => ?_)
                    · have c_19 : par2 (eTg n (cF40 cx f) (cF40 cy f) px.toInt py.toInt) i := zp_1 c_19
                      refine lv_iconst (v := 0) hx hb dX11_isInside_150 (by decide) ?_
                      refine lv_istore (lv' := [(4, .int 0), (6, .long (jI (eCr n (cF40 cx f) (cF40 cy f) i px.toInt py.toInt))), (5, .int (nI i)), (0, .ref k0), (1, .int (nI f)), (2, .int px), (3, .int py)]) hx hb dX11_isInside_151 hl (by decide) rfl (fun ls hl => ?_)
                      refine lv_iinc (v := nI (i + 1)) (lv' := [(5, .int (nI (i + 1))), (4, .int 0), (6, .long (jI (eCr n (cF40 cx f) (cF40 cy f) i px.toInt py.toInt))), (0, .ref k0), (1, .int (nI f)), (2, .int px), (3, .int py)]) hx hb dX11_isInside_153 hl (k := 2) rfl (nI_add i 1) (by decide) rfl (fun ls hl => ?_)
                      refine lv_goto (tgt := 18) hx hb dX11_isInside_156 (by decide) ?_
                      have hl9 := lv_sub hl [0, 1, 3, 4, 5, 6] rfl
                      have e9_4 : pI (par2 (eTg n (cF40 cx f) (cF40 cy f) px.toInt py.toInt) (i + 1)) = (0 : Int32) := by first | exact zp_iff (par2_n (by unfold eTg; omega)) | exact zp_t ((par2_y (P := (eTg n (cF40 cx f) (cF40 cy f) px.toInt py.toInt)) (i := i) (by unfold eTg; omega)).mpr (by assumption)) | exact zp_f (fun q => (par2_y (P := (eTg n (cF40 cx f) (cF40 cy f) px.toInt py.toInt)) (i := i) (by unfold eTg; omega)).mp q (by assumption))
                      have hl9 : lv_has ls 8 [(5, .int (nI (i + 1))), (4, .int (pI (par2 (eTg n (cF40 cx f) (cF40 cy f) px.toInt py.toInt) (i + 1)))), (0, .ref k0), (1, .int (nI f)), (2, .int px), (3, .int py)] := by rw [e9_4]; exact hl9
                      exact ih_18 (i + 1) S2 H locs ls (by omega) (by omega) hP hD hS hl9
                    · have c_19 : ¬ (par2 (eTg n (cF40 cx f) (cF40 cy f) px.toInt py.toInt) i) := zp_0 c_19
                      refine lv_iconst (v := 1) hx hb dX11_isInside_146 (by decide) ?_
                      refine lv_goto (tgt := 151) hx hb dX11_isInside_147 (by decide) ?_
                      refine lv_istore (lv' := [(4, .int 1), (6, .long (jI (eCr n (cF40 cx f) (cF40 cy f) i px.toInt py.toInt))), (5, .int (nI i)), (0, .ref k0), (1, .int (nI f)), (2, .int px), (3, .int py)]) hx hb dX11_isInside_151 hl (by decide) rfl (fun ls hl => ?_)
                      refine lv_iinc (v := nI (i + 1)) (lv' := [(5, .int (nI (i + 1))), (4, .int 1), (6, .long (jI (eCr n (cF40 cx f) (cF40 cy f) i px.toInt py.toInt))), (0, .ref k0), (1, .int (nI f)), (2, .int px), (3, .int py)]) hx hb dX11_isInside_153 hl (k := 2) rfl (nI_add i 1) (by decide) rfl (fun ls hl => ?_)
                      refine lv_goto (tgt := 18) hx hb dX11_isInside_156 (by decide) ?_
                      have hl9 := lv_sub hl [0, 1, 3, 4, 5, 6] rfl
                      have e9_4 : pI (par2 (eTg n (cF40 cx f) (cF40 cy f) px.toInt py.toInt) (i + 1)) = (1 : Int32) := by first | exact zp_iff (par2_n (by unfold eTg; omega)) | exact zp_t ((par2_y (P := (eTg n (cF40 cx f) (cF40 cy f) px.toInt py.toInt)) (i := i) (by unfold eTg; omega)).mpr (by assumption)) | exact zp_f (fun q => (par2_y (P := (eTg n (cF40 cx f) (cF40 cy f) px.toInt py.toInt)) (i := i) (by unfold eTg; omega)).mp q (by assumption))
                      have hl9 : lv_has ls 8 [(5, .int (nI (i + 1))), (4, .int (pI (par2 (eTg n (cF40 cx f) (cF40 cy f) px.toInt py.toInt) (i + 1)))), (0, .ref k0), (1, .int (nI f)), (2, .int px), (3, .int py)] := by rw [e9_4]; exact hl9
                      exact ih_18 (i + 1) S2 H locs ls (by omega) (by omega) hP hD hS hl9
              · exact absurd c_14 (by decide)
            · have c_13 : py.toInt < (cF40 cy f (nxt n i)).toInt := zc_nle rfl rfl c_13
              refine lv_iconst (v := 1) hx hb dX11_isInside_61 (by decide) ?_
              refine lv_goto (tgt := 66) hx hb dX11_isInside_62 (by decide) ?_
              refine lv_icmp_ne (tgt := 72) hx hb dX11_isInside_66 (by decide) (fun c_20 => ?_) (fun c_20 => ?_)
              · exact absurd (by decide) c_20
              · refine lv_goto (tgt := 153) hx hb dX11_isInside_69 (by decide) ?_
                refine lv_iinc (v := nI (i + 1)) (lv' := [(5, .int (nI (i + 1))), (4, .int (pI (par2 (eTg n (cF40 cx f) (cF40 cy f) px.toInt py.toInt) i))), (0, .ref k0), (1, .int (nI f)), (2, .int px), (3, .int py)]) hx hb dX11_isInside_153 hl (k := 0) rfl (nI_add i 1) (by decide) rfl (fun ls hl => ?_)
                refine lv_goto (tgt := 18) hx hb dX11_isInside_156 (by decide) ?_
                have hl9 := lv_sub hl [0, 1, 2, 3, 4, 5] rfl
                have e9_4 : pI (par2 (eTg n (cF40 cx f) (cF40 cy f) px.toInt py.toInt) (i + 1)) = (pI (par2 (eTg n (cF40 cx f) (cF40 cy f) px.toInt py.toInt) i) : Int32) := by first | exact zp_iff (par2_n (by unfold eTg; omega)) | exact zp_t ((par2_y (P := (eTg n (cF40 cx f) (cF40 cy f) px.toInt py.toInt)) (i := i) (by unfold eTg; omega)).mpr (by assumption)) | exact zp_f (fun q => (par2_y (P := (eTg n (cF40 cx f) (cF40 cy f) px.toInt py.toInt)) (i := i) (by unfold eTg; omega)).mp q (by assumption))
                have hl9 : lv_has ls 8 [(5, .int (nI (i + 1))), (4, .int (pI (par2 (eTg n (cF40 cx f) (cF40 cy f) px.toInt py.toInt) (i + 1)))), (0, .ref k0), (1, .int (nI f)), (2, .int px), (3, .int py)] := by rw [e9_4]; exact hl9
                exact ih_18 (i + 1) S2 H locs ls (by omega) (by omega) hP hD hS hl9
    have e9_4 : pI (par2 (eTg n (cF40 cx f) (cF40 cy f) px.toInt py.toInt) 0) = (0 : Int32) := by exact zp_f (fun h => h)
    have hl9 : lv_has ls 8 [(5, .int (nI 0)), (4, .int (pI (par2 (eTg n (cF40 cx f) (cF40 cy f) px.toInt py.toInt) 0))), (0, .ref k0), (1, .int (nI f)), (2, .int px), (3, .int py)] := by rw [e9_4]; exact lv_sub hl [0, 1, 2, 3, 4, 5] rfl
    exact hl_18 _ 0 q_1 H locs ls (Nat.lt_succ_self _) (by omega) hP hD hS hl9
  · have c_2 : ∃ i, i < eO (kd f).toInt n ∧ eOn n (cF40 cx f) (cF40 cy f) i px.toInt py.toInt := zp_1 c_2
    refine lv_iconst (v := 0) hx hb dX11_isInside_10 (by decide) ?_
    have hP9 := hP.sub (ws' := [(om k0 a I0 J0), (oa (a 1) cI 201 kd), (oa (a 11) cI 201 mn), (oa (a 12) cI 8040 cx), (oa (a 13) cI 8040 cy), (oa (a 32) cI 8 q_1)]) [0, 1, 2, 3, 4, 5] rfl
    have hD9 := hD.sub (ws' := [(om k0 a I0 J0), (oa (a 1) cI 201 kd), (oa (a 11) cI 201 mn), (oa (a 12) cI 8040 cx), (oa (a 13) cI 8040 cy), (oa (a 32) cI 8 q_1)]) [0, 1, 2, 3, 4, 5] (by decide) rfl
    rw [hQ9]
    exact W.zret (ty := .boolean) (v := 0) hx hb hr (rfl) (fun t ht hW => ⟨⟨congrArg (fun z => Outcome.returned (some (Value.int z))) (show (0 : Int32) = pI (¬ (∃ i, i < eO (kd f).toInt n ∧ eOn n (cF40 cx f) (cF40 cy f) i px.toInt py.toInt) ∧ par2 (eTg n (cF40 cx f) (cF40 cy f) px.toInt py.toInt) (eO (kd f).toInt n)) from (zp_f (fun h => h.1 (by assumption))).symm), q_1, by rw [ht]; exact hP9, hD9⟩, hS.F ht⟩) hS.2.2 dX11_isInside_11
set_option maxHeartbeats 4000000 in
set_option maxRecDepth 100000 in
theorem k_M_meetsEdge (l : Launch) (dC : Nat → ClassId) (dI : Nat → Nat → Nat) (cI cZ cF : ClassId) (sz : Nat) (k0 : Nat) (a : Nat → Nat) (I0 : Nat → Int32) (J0 : Nat → Int64) (f : Nat) (n : Nat) (i : Nat) (k : Nat) (mn : Nat → Int32) (cx : Nat → Int32) (cy : Nat → Int32) (S0 : Nat → Int32) (hf_f : f ≤ 200) (hm_f : mn f = nI n) (hn_f : 1 ≤ n ∧ n ≤ 40) (hp_f : pls n (cF40 cx f) (cF40 cy f)) (hi9 : i < n) (hk9 : k < n) : Met l yX11_meetsEdge (.code yX11_meetsEdge cX11_meetsEdge 4 (some .boolean) :: ws0) ({ frames := 3, cells := 0, slots := 0, locals := 81 } : Room) (va_Pc [.ref k0, .int (nI f), .int (nI i), .int (nI k)] (zPre (dC, dI) classes (zTy cI cZ cF) [(om k0 a I0 J0), (oa (a 11) cI 201 mn), (oa (a 12) cI 8040 cx), (oa (a 13) cI 8040 cy), (oa (a 32) cI 8 S0)] sz zXN)) (zQ (some (.int (pI (eMt n (cF40 cx f) (cF40 cy f) i n (cF40 cx f) (cF40 cy f) k)))) (fun t => ∃ (S1 : Nat → Int32), va_P (dC, dI) classes [(om k0 a I0 J0), (oa (a 11) cI 201 mn), (oa (a 12) cI 8040 cx), (oa (a 13) cI 8040 cy), (oa (a 32) cI 8 S1)] t.heap ∧ va_D (va_A [(om k0 a I0 J0), (oa (a 11) cI 201 mn), (oa (a 12) cI 8040 cx), (oa (a 13) cI 8040 cy), (oa (a 32) cI 8 S0)] sz) [(om k0 a I0 J0), (oa (a 11) cI 201 mn), (oa (a 12) cI 8040 cx), (oa (a 13) cI 8040 cy), (oa (a 32) cI 8 S1)]) (va_A [(om k0 a I0 J0), (oa (a 11) cI 201 mn), (oa (a 12) cI 8040 cx), (oa (a 13) cI 8040 cy), (oa (a 32) cI 8 S0)] sz)) 0 0 (va_A [(om k0 a I0 J0), (oa (a 11) cI 201 mn), (oa (a 12) cI 8040 cx), (oa (a 13) cI 8040 cy), (oa (a 32) cI 8 S0)] sz) := by
  refine Met.ofW (cc := cX11_meetsEdge) (maxL := 4) (ret := (some .boolean)) (by decide) rfl ?_
  intro p e s m args below meth c s₁ B hml hv
  obtain ⟨rfl, hsz, hP, hK, hD0, hXN⟩ := hv
  have hx := B.exec
  have hb := B.bytes
  have hr := B.returns
  have hts0 := atoms_spec (ws := .code yX11_meetsEdge cX11_meetsEdge 4 (some .boolean) :: ws0) B.pre
  have hts : ∀ w9 ∈ ws0, w9.before ([.ref k0, .int (nI f), .int (nI i), .int (nI k)] : List Value).toArray s = true := fun w9 h => hts0 w9 (List.mem_cons_of_mem _ h)
  have hown : s.vm.findClass "ScaleShopModel" = some m.cls := findClass_of_methodNamed B.named
  have hlocks := B.notSynchronized
  subst hsz
  have hD := hD0.self (sz := s.heap.size)
  clear hD0
  generalize hAe : va_A [(om k0 a I0 J0), (oa (a 11) cI 201 mn), (oa (a 12) cI 8040 cx), (oa (a 13) cI 8040 cy), (oa (a 32) cI 8 S0)] s.heap.size = A at hD ⊢
  have hA : ∀ q : Nat, s.heap.size ≤ q → A q := fun q h => by rw [← hAe]; exact Or.inr h
  clear hAe
  have hS : va_S A s.heap s.heap [] := va_S.rf
  have hP : va_P (dC, dI) classes [(om k0 a I0 J0), (oa (a 11) cI 201 mn), (oa (a 12) cI 8040 cx), (oa (a 13) cI 8040 cy), (oa (a 32) cI 8 S0)] s.heap := hP
  obtain ⟨Q9, hQ9⟩ : ∃ Q9 : State → Prop, Q9 = MQ below (zQ (some (.int (pI (eMt n (cF40 cx f) (cF40 cy f) i n (cF40 cx f) (cF40 cy f) k)))) (fun t => ∃ (S1 : Nat → Int32), va_P (dC, dI) classes [(om k0 a I0 J0), (oa (a 11) cI 201 mn), (oa (a 12) cI 8040 cx), (oa (a 13) cI 8040 cy), (oa (a 32) cI 8 S1)] t.heap ∧ va_D A [(om k0 a I0 J0), (oa (a 11) cI 201 mn), (oa (a 12) cI 8040 cx), (oa (a 13) cI 8040 cy), (oa (a 32) cI 8 S1)]) A) ([.ref k0, .int (nI f), .int (nI i), .int (nI k)] : List Value).toArray s 0 0 A := ⟨_, rfl⟩
  rw [← hQ9]
  have hl := lv_entry ([.ref k0, .int (nI f), .int (nI i), .int (nI k)]) (n := 4) (Nat.le_of_ble_eq_true rfl)
  rw [lg_entry_eq]
  generalize (lg_sl ([.ref k0, .int (nI f), .int (nI i), .int (nI k)]) ++ List.replicate (4 - (lg_sl ([.ref k0, .int (nI f), .int (nI i), .int (nI k)])).length) Slot.unset).toArray = ls at hl ⊢
  have hl : lv_has ls 4 [(0, .ref k0), (1, .int (nI f)), (2, .int (nI i)), (3, .int (nI k))] := hl
  have hnx := nxt_lt (n := n) (i := i) (by omega)
  have hnk := nxt_lt (n := n) (i := k) (by omega)
  refine lv_aload_n hx hb dX11_meetsEdge_0 rfl (lv_at hl 0 rfl) ?_
  refine lv_iload_n hx hb dX11_meetsEdge_1 rfl (lv_at hl 1 rfl) ?_
  refine lv_iload_n hx hb dX11_meetsEdge_2 rfl (lv_at hl 2 rfl) ?_
  refine lv_iconst (v := 0) hx hb dX11_meetsEdge_3 (by decide) ?_
  have hPc := hP.sub (ws' := [(om k0 a I0 J0), (oa (a 11) cI 201 mn), (oa (a 12) cI 8040 cx), (oa (a 13) cI 8040 cy), (oa (a 32) cI 8 S0)]) [0, 1, 2, 3, 4] rfl
  have hDc := hD.sub (ws' := [(om k0 a I0 J0), (oa (a 11) cI 201 mn), (oa (a 12) cI 8040 cx), (oa (a 13) cI 8040 cy), (oa (a 32) cI 8 S0)]) [0, 1, 2, 3, 4] (by decide) rfl
  have hFc := va_free (wc := [(om k0 a I0 J0), (oa (a 11) cI 201 mn), (oa (a 12) cI 8040 cx), (oa (a 13) cI 8040 cy), (oa (a 32) cI 8 S0)]) hD hS hA [0, 1, 2, 3, 4] rfl
  refine zcall (st1 := []) (va_runV (As := [.int (nI f), .int (nI i), .int 0]) (rest := []) ⟨hx, hb, hml, hown, hts⟩ (k_M_edge l dC dI cI cZ cF s.heap.size k0 a I0 J0 f n i 0 mn cx cy S0 (by omega) (by assumption) (by omega) (by omega) (by omega)) (cwV 3 hts (zz_gV mw_1373 mw_1375 mw_42 mw_110 mc_yX11_edge) rfl rfl rfl (by decide +kernel) ⟨Nat.le_of_ble_eq_true rfl, Nat.le_of_ble_eq_true rfl⟩) (zPV2 (q0 := 0) (ci := 9) hPc hDc hK hXN rfl rfl) rfl rfl hl.1 rfl (lv_room (Nat.le_of_ble_eq_true rfl)) dX11_meetsEdge_4 ⟨Nat.le_of_ble_eq_true rfl, Nat.le_of_ble_eq_true rfl⟩) hS hFc hFc rfl (fun t H1 locs ht hB hk1 hS => ?_)
  obtain ⟨S2, t0, t1, t2, t3, tr, hP1, hD1⟩ := hB
  rw [ht] at hP1
  obtain ⟨hP, hD⟩ := va_join (wr := []) (w1 := [(om k0 a I0 J0), (oa (a 11) cI 201 mn), (oa (a 12) cI 8040 cx), (oa (a 13) cI 8040 cy), (oa (a 32) cI 8 S2)]) hP hD [0, 1, 2, 3, 4] [] rfl rfl (by decide) (by decide) hk1 hFc hP1 hD1
  clear hk1 hPc hDc hFc hP1 hD1 ht
  generalize H1 = H at hP hS ⊢
  have hP : va_P (dC, dI) classes [(om k0 a I0 J0), (oa (a 11) cI 201 mn), (oa (a 12) cI 8040 cx), (oa (a 13) cI 8040 cy), (oa (a 32) cI 8 S2)] H := hP
  have hD : va_D A [(om k0 a I0 J0), (oa (a 11) cI 201 mn), (oa (a 12) cI 8040 cx), (oa (a 13) cI 8040 cy), (oa (a 32) cI 8 S2)] := hD
  refine lv_aload_n hx hb dX11_meetsEdge_7 rfl (lv_at hl 0 rfl) ?_
  refine lv_iload_n hx hb dX11_meetsEdge_8 rfl (lv_at hl 1 rfl) ?_
  refine lv_iload_n hx hb dX11_meetsEdge_9 rfl (lv_at hl 3 rfl) ?_
  refine lv_iconst (v := 4) hx hb dX11_meetsEdge_10 (by decide) ?_
  have hPc := hP.sub (ws' := [(om k0 a I0 J0), (oa (a 11) cI 201 mn), (oa (a 12) cI 8040 cx), (oa (a 13) cI 8040 cy), (oa (a 32) cI 8 S2)]) [0, 1, 2, 3, 4] rfl
  have hDc := hD.sub (ws' := [(om k0 a I0 J0), (oa (a 11) cI 201 mn), (oa (a 12) cI 8040 cx), (oa (a 13) cI 8040 cy), (oa (a 32) cI 8 S2)]) [0, 1, 2, 3, 4] (by decide) rfl
  have hFc := va_free (wc := [(om k0 a I0 J0), (oa (a 11) cI 201 mn), (oa (a 12) cI 8040 cx), (oa (a 13) cI 8040 cy), (oa (a 32) cI 8 S2)]) hD hS hA [0, 1, 2, 3, 4] rfl
  refine zcall (st1 := []) (va_runV (As := [.int (nI f), .int (nI k), .int 4]) (rest := []) ⟨hx, hb, hml, hown, hts⟩ (k_M_edge l dC dI cI cZ cF H.size k0 a I0 J0 f n k 4 mn cx cy S2 (by omega) (by assumption) (by omega) (by omega) (by omega)) (cwV 3 hts (zz_gV mw_1373 mw_1375 mw_42 mw_110 mc_yX11_edge) rfl rfl rfl (by decide +kernel) ⟨Nat.le_of_ble_eq_true rfl, Nat.le_of_ble_eq_true rfl⟩) (zPV2 (q0 := 0) (ci := 9) hPc hDc hK hXN rfl rfl) rfl rfl hl.1 rfl (lv_room (Nat.le_of_ble_eq_true rfl)) dX11_meetsEdge_11 ⟨Nat.le_of_ble_eq_true rfl, Nat.le_of_ble_eq_true rfl⟩) hS hFc hFc rfl (fun t H1 locs ht hB hk1 hS => ?_)
  obtain ⟨S3, u0, u1, u2, u3, ur, hP1, hD1⟩ := hB
  rw [ht] at hP1
  obtain ⟨hP, hD⟩ := va_join (wr := []) (w1 := [(om k0 a I0 J0), (oa (a 11) cI 201 mn), (oa (a 12) cI 8040 cx), (oa (a 13) cI 8040 cy), (oa (a 32) cI 8 S3)]) hP hD [0, 1, 2, 3, 4] [] rfl rfl (by decide) (by decide) hk1 hFc hP1 hD1
  clear hk1 hPc hDc hFc hP1 hD1 ht
  generalize H1 = H at hP hS ⊢
  have hP : va_P (dC, dI) classes [(om k0 a I0 J0), (oa (a 11) cI 201 mn), (oa (a 12) cI 8040 cx), (oa (a 13) cI 8040 cy), (oa (a 32) cI 8 S3)] H := hP
  have hD : va_D A [(om k0 a I0 J0), (oa (a 11) cI 201 mn), (oa (a 12) cI 8040 cx), (oa (a 13) cI 8040 cy), (oa (a 32) cI 8 S3)] := hD
  have v0 : S3 0 = cF40 cx f i := (ur 0 (by omega)).trans t0
  have v1 : S3 1 = cF40 cy f i := (ur 1 (by omega)).trans t1
  have v2 : S3 2 = cF40 cx f (nxt n i) := (ur 2 (by omega)).trans t2
  have v3 : S3 3 = cF40 cy f (nxt n i) := (ur 3 (by omega)).trans t3
  have v4 : S3 4 = cF40 cx f k := u0
  have v5 : S3 5 = cF40 cy f k := u1
  have v6 : S3 6 = cF40 cx f (nxt n k) := u2
  have v7 : S3 7 = cF40 cy f (nxt n k) := u3
  have hs3 := sPl (S := S3) (by rw [v0]; exact (hp_f i hi9).1) (by rw [v1]; exact (hp_f i hi9).2) (by rw [v2]; exact (hp_f _ hnx).1) (by rw [v3]; exact (hp_f _ hnx).2) (by rw [v4]; exact (hp_f k hk9).1) (by rw [v5]; exact (hp_f k hk9).2) (by rw [v6]; exact (hp_f _ hnk).1) (by rw [v7]; exact (hp_f _ hnk).2)
  refine lv_aload_n hx hb dX11_meetsEdge_14 rfl (lv_at hl 0 rfl) ?_
  refine va_get (D := (dC, dI)) (ci := 9) (v := .ref (a 32)) (C := RX11) (T := TX11) (N := 55) hx hb hts inX11 hown hK hP 0 rfl rfl 32 (by decide) (hts _ mw_1191) (fun _ h9 => h9) rfl dX11_meetsEdge_15 ?_
  have hPc := hP.sub (ws' := [(oa (a 32) cI 8 S3)]) [4] rfl
  have hDc := hD.sub (ws' := [(oa (a 32) cI 8 S3)]) [4] (by decide) rfl
  have hFc := va_free (wc := [(oa (a 32) cI 8 S3)]) hD hS hA [4] rfl
  refine zcall (st1 := [.int (pI (mtC (S3 0).toInt (S3 1).toInt (S3 2).toInt (S3 3).toInt (S3 4).toInt (S3 5).toInt (S3 6).toInt (S3 7).toInt))]) (va_runS (As := [.ref (a 32)]) (rest := []) ⟨hx, hb, hml, hown, hts⟩ (k_M_touch l dC dI cI cZ cF H.size (a 32) S3 (hs3)) (va_cwS 1 hts (zz_gS mw_1388 mw_1389 mw_110 mc_yX11_touch) rfl rfl rfl (by decide +kernel) ⟨Nat.le_of_ble_eq_true rfl, Nat.le_of_ble_eq_true rfl⟩) (zPS2 hPc hDc hK hXN) rfl rfl hl.1 rfl (lv_room (Nat.le_of_ble_eq_true rfl)) dX11_meetsEdge_18 ⟨Nat.le_of_ble_eq_true rfl, Nat.le_of_ble_eq_true rfl⟩) hS hFc hFc rfl (fun t H1 locs ht hB hk1 hS => ?_)
  obtain ⟨hP1, hD1⟩ := hB
  rw [ht] at hP1
  obtain ⟨hP, hD⟩ := va_join (wr := [(om k0 a I0 J0), (oa (a 11) cI 201 mn), (oa (a 12) cI 8040 cx), (oa (a 13) cI 8040 cy)]) (w1 := [(oa (a 32) cI 8 S3)]) hP hD [4] [0, 1, 2, 3] rfl rfl (by decide) (by decide) hk1 hFc hP1 hD1
  clear hk1 hPc hDc hFc hP1 hD1 ht
  generalize H1 = H at hP hS ⊢
  have hP : va_P (dC, dI) classes [(om k0 a I0 J0), (oa (a 11) cI 201 mn), (oa (a 12) cI 8040 cx), (oa (a 13) cI 8040 cy), (oa (a 32) cI 8 S3)] H := hP
  have hD : va_D A [(om k0 a I0 J0), (oa (a 11) cI 201 mn), (oa (a 12) cI 8040 cx), (oa (a 13) cI 8040 cy), (oa (a 32) cI 8 S3)] := hD
  refine zz_i (v := pI (eMt n (cF40 cx f) (cF40 cy f) i n (cF40 cx f) (cF40 cy f) k)) (zp_iff (met_of v0 v1 v2 v3 v4 v5 v6 v7)) ?_
  have hP9 := hP.sub (ws' := [(om k0 a I0 J0), (oa (a 11) cI 201 mn), (oa (a 12) cI 8040 cx), (oa (a 13) cI 8040 cy), (oa (a 32) cI 8 S3)]) [0, 1, 2, 3, 4] rfl
  have hD9 := hD.sub (ws' := [(om k0 a I0 J0), (oa (a 11) cI 201 mn), (oa (a 12) cI 8040 cx), (oa (a 13) cI 8040 cy), (oa (a 32) cI 8 S3)]) [0, 1, 2, 3, 4] (by decide) rfl
  rw [hQ9]
  exact W.zret (ty := .boolean) (v := pI (eMt n (cF40 cx f) (cF40 cy f) i n (cF40 cx f) (cF40 cy f) k)) hx hb hr (zp_nar _) (fun t ht hW => ⟨⟨rfl, S3, by rw [ht]; exact hP9, hD9⟩, hS.F ht⟩) hS.2.2 dX11_meetsEdge_21
set_option maxHeartbeats 4000000 in
set_option maxRecDepth 100000 in
theorem k_M_folds (l : Launch) (dC : Nat → ClassId) (dI : Nat → Nat → Nat) (cI cZ cF : ClassId) (sz : Nat) (k0 : Nat) (a : Nat → Nat) (I0 : Nat → Int32) (J0 : Nat → Int64) (f : Nat) (n : Nat) (i : Nat) (k : Nat) (mn : Nat → Int32) (cx : Nat → Int32) (cy : Nat → Int32) (S0 : Nat → Int32) (hf_f : f ≤ 200) (hm_f : mn f = nI n) (hn_f : 1 ≤ n ∧ n ≤ 40) (hp_f : pls n (cF40 cx f) (cF40 cy f)) (hi9 : i < n) (hk9 : k < n) : Met l yX11_folds (.code yX11_folds cX11_folds 6 (some .boolean) :: ws0) ({ frames := 1, cells := 0, slots := 0, locals := 31 } : Room) (va_Pc [.ref k0, .int (nI f), .int (nI i), .int (nI k)] (zPre (dC, dI) classes (zTy cI cZ cF) [(om k0 a I0 J0), (oa (a 11) cI 201 mn), (oa (a 12) cI 8040 cx), (oa (a 13) cI 8040 cy), (oa (a 32) cI 8 S0)] sz zXN)) (zQ (some (.int (pI (mFl n (cF40 cx f) (cF40 cy f) i k)))) (fun t => ∃ (S1 : Nat → Int32), va_P (dC, dI) classes [(om k0 a I0 J0), (oa (a 11) cI 201 mn), (oa (a 12) cI 8040 cx), (oa (a 13) cI 8040 cy), (oa (a 32) cI 8 S1)] t.heap ∧ va_D (va_A [(om k0 a I0 J0), (oa (a 11) cI 201 mn), (oa (a 12) cI 8040 cx), (oa (a 13) cI 8040 cy), (oa (a 32) cI 8 S0)] sz) [(om k0 a I0 J0), (oa (a 11) cI 201 mn), (oa (a 12) cI 8040 cx), (oa (a 13) cI 8040 cy), (oa (a 32) cI 8 S1)]) (va_A [(om k0 a I0 J0), (oa (a 11) cI 201 mn), (oa (a 12) cI 8040 cx), (oa (a 13) cI 8040 cy), (oa (a 32) cI 8 S0)] sz)) 0 0 (va_A [(om k0 a I0 J0), (oa (a 11) cI 201 mn), (oa (a 12) cI 8040 cx), (oa (a 13) cI 8040 cy), (oa (a 32) cI 8 S0)] sz) := by
  refine Met.ofW (cc := cX11_folds) (maxL := 6) (ret := (some .boolean)) (by decide) rfl ?_
  intro p e s m args below meth c s₁ B hml hv
  obtain ⟨rfl, hsz, hP, hK, hD0, hXN⟩ := hv
  have hx := B.exec
  have hb := B.bytes
  have hr := B.returns
  have hts0 := atoms_spec (ws := .code yX11_folds cX11_folds 6 (some .boolean) :: ws0) B.pre
  have hts : ∀ w9 ∈ ws0, w9.before ([.ref k0, .int (nI f), .int (nI i), .int (nI k)] : List Value).toArray s = true := fun w9 h => hts0 w9 (List.mem_cons_of_mem _ h)
  have hown : s.vm.findClass "ScaleShopModel" = some m.cls := findClass_of_methodNamed B.named
  have hlocks := B.notSynchronized
  subst hsz
  have hD := hD0.self (sz := s.heap.size)
  clear hD0
  generalize hAe : va_A [(om k0 a I0 J0), (oa (a 11) cI 201 mn), (oa (a 12) cI 8040 cx), (oa (a 13) cI 8040 cy), (oa (a 32) cI 8 S0)] s.heap.size = A at hD ⊢
  have hA : ∀ q : Nat, s.heap.size ≤ q → A q := fun q h => by rw [← hAe]; exact Or.inr h
  clear hAe
  have hS : va_S A s.heap s.heap [] := va_S.rf
  have hP : va_P (dC, dI) classes [(om k0 a I0 J0), (oa (a 11) cI 201 mn), (oa (a 12) cI 8040 cx), (oa (a 13) cI 8040 cy), (oa (a 32) cI 8 S0)] s.heap := hP
  obtain ⟨Q9, hQ9⟩ : ∃ Q9 : State → Prop, Q9 = MQ below (zQ (some (.int (pI (mFl n (cF40 cx f) (cF40 cy f) i k)))) (fun t => ∃ (S1 : Nat → Int32), va_P (dC, dI) classes [(om k0 a I0 J0), (oa (a 11) cI 201 mn), (oa (a 12) cI 8040 cx), (oa (a 13) cI 8040 cy), (oa (a 32) cI 8 S1)] t.heap ∧ va_D A [(om k0 a I0 J0), (oa (a 11) cI 201 mn), (oa (a 12) cI 8040 cx), (oa (a 13) cI 8040 cy), (oa (a 32) cI 8 S1)]) A) ([.ref k0, .int (nI f), .int (nI i), .int (nI k)] : List Value).toArray s 0 0 A := ⟨_, rfl⟩
  rw [← hQ9]
  have hl := lv_entry ([.ref k0, .int (nI f), .int (nI i), .int (nI k)]) (n := 6) (Nat.le_of_ble_eq_true rfl)
  rw [lg_entry_eq]
  generalize (lg_sl ([.ref k0, .int (nI f), .int (nI i), .int (nI k)]) ++ List.replicate (6 - (lg_sl ([.ref k0, .int (nI f), .int (nI i), .int (nI k)])).length) Slot.unset).toArray = ls at hl ⊢
  have hl : lv_has ls 6 [(0, .ref k0), (1, .int (nI f)), (2, .int (nI i)), (3, .int (nI k))] := hl
  have hnx := nxt_lt (n := n) (i := i) (by omega)
  have hnk := nxt_lt (n := n) (i := k) (by omega)
  refine lv_aload_n hx hb dX11_folds_0 rfl (lv_at hl 0 rfl) ?_
  refine lv_iload_n hx hb dX11_folds_1 rfl (lv_at hl 1 rfl) ?_
  refine lv_iload_n hx hb dX11_folds_2 rfl (lv_at hl 2 rfl) ?_
  refine lv_iconst (v := 0) hx hb dX11_folds_3 (by decide) ?_
  have hPc := hP.sub (ws' := [(om k0 a I0 J0), (oa (a 11) cI 201 mn), (oa (a 12) cI 8040 cx), (oa (a 13) cI 8040 cy), (oa (a 32) cI 8 S0)]) [0, 1, 2, 3, 4] rfl
  have hDc := hD.sub (ws' := [(om k0 a I0 J0), (oa (a 11) cI 201 mn), (oa (a 12) cI 8040 cx), (oa (a 13) cI 8040 cy), (oa (a 32) cI 8 S0)]) [0, 1, 2, 3, 4] (by decide) rfl
  have hFc := va_free (wc := [(om k0 a I0 J0), (oa (a 11) cI 201 mn), (oa (a 12) cI 8040 cx), (oa (a 13) cI 8040 cy), (oa (a 32) cI 8 S0)]) hD hS hA [0, 1, 2, 3, 4] rfl
  refine zcall (st1 := []) (va_runV (As := [.int (nI f), .int (nI i), .int 0]) (rest := []) ⟨hx, hb, hml, hown, hts⟩ (k_M_edge l dC dI cI cZ cF s.heap.size k0 a I0 J0 f n i 0 mn cx cy S0 (by omega) (by assumption) (by omega) (by omega) (by omega)) (cwV 3 hts (zz_gV mw_1373 mw_1375 mw_42 mw_110 mc_yX11_edge) rfl rfl rfl (by decide +kernel) ⟨Nat.le_of_ble_eq_true rfl, Nat.le_of_ble_eq_true rfl⟩) (zPV2 (q0 := 0) (ci := 9) hPc hDc hK hXN rfl rfl) rfl rfl hl.1 rfl (lv_room (Nat.le_of_ble_eq_true rfl)) dX11_folds_4 ⟨Nat.le_of_ble_eq_true rfl, Nat.le_of_ble_eq_true rfl⟩) hS hFc hFc rfl (fun t H1 locs ht hB hk1 hS => ?_)
  obtain ⟨S2, t0, t1, t2, t3, tr, hP1, hD1⟩ := hB
  rw [ht] at hP1
  obtain ⟨hP, hD⟩ := va_join (wr := []) (w1 := [(om k0 a I0 J0), (oa (a 11) cI 201 mn), (oa (a 12) cI 8040 cx), (oa (a 13) cI 8040 cy), (oa (a 32) cI 8 S2)]) hP hD [0, 1, 2, 3, 4] [] rfl rfl (by decide) (by decide) hk1 hFc hP1 hD1
  clear hk1 hPc hDc hFc hP1 hD1 ht
  generalize H1 = H at hP hS ⊢
  have hP : va_P (dC, dI) classes [(om k0 a I0 J0), (oa (a 11) cI 201 mn), (oa (a 12) cI 8040 cx), (oa (a 13) cI 8040 cy), (oa (a 32) cI 8 S2)] H := hP
  have hD : va_D A [(om k0 a I0 J0), (oa (a 11) cI 201 mn), (oa (a 12) cI 8040 cx), (oa (a 13) cI 8040 cy), (oa (a 32) cI 8 S2)] := hD
  refine lv_aload_n hx hb dX11_folds_7 rfl (lv_at hl 0 rfl) ?_
  refine lv_iload_n hx hb dX11_folds_8 rfl (lv_at hl 1 rfl) ?_
  refine lv_iload_n hx hb dX11_folds_9 rfl (lv_at hl 3 rfl) ?_
  refine lv_iconst (v := 4) hx hb dX11_folds_10 (by decide) ?_
  have hPc := hP.sub (ws' := [(om k0 a I0 J0), (oa (a 11) cI 201 mn), (oa (a 12) cI 8040 cx), (oa (a 13) cI 8040 cy), (oa (a 32) cI 8 S2)]) [0, 1, 2, 3, 4] rfl
  have hDc := hD.sub (ws' := [(om k0 a I0 J0), (oa (a 11) cI 201 mn), (oa (a 12) cI 8040 cx), (oa (a 13) cI 8040 cy), (oa (a 32) cI 8 S2)]) [0, 1, 2, 3, 4] (by decide) rfl
  have hFc := va_free (wc := [(om k0 a I0 J0), (oa (a 11) cI 201 mn), (oa (a 12) cI 8040 cx), (oa (a 13) cI 8040 cy), (oa (a 32) cI 8 S2)]) hD hS hA [0, 1, 2, 3, 4] rfl
  refine zcall (st1 := []) (va_runV (As := [.int (nI f), .int (nI k), .int 4]) (rest := []) ⟨hx, hb, hml, hown, hts⟩ (k_M_edge l dC dI cI cZ cF H.size k0 a I0 J0 f n k 4 mn cx cy S2 (by omega) (by assumption) (by omega) (by omega) (by omega)) (cwV 3 hts (zz_gV mw_1373 mw_1375 mw_42 mw_110 mc_yX11_edge) rfl rfl rfl (by decide +kernel) ⟨Nat.le_of_ble_eq_true rfl, Nat.le_of_ble_eq_true rfl⟩) (zPV2 (q0 := 0) (ci := 9) hPc hDc hK hXN rfl rfl) rfl rfl hl.1 rfl (lv_room (Nat.le_of_ble_eq_true rfl)) dX11_folds_11 ⟨Nat.le_of_ble_eq_true rfl, Nat.le_of_ble_eq_true rfl⟩) hS hFc hFc rfl (fun t H1 locs ht hB hk1 hS => ?_)
  obtain ⟨S3, u0, u1, u2, u3, ur, hP1, hD1⟩ := hB
  rw [ht] at hP1
  obtain ⟨hP, hD⟩ := va_join (wr := []) (w1 := [(om k0 a I0 J0), (oa (a 11) cI 201 mn), (oa (a 12) cI 8040 cx), (oa (a 13) cI 8040 cy), (oa (a 32) cI 8 S3)]) hP hD [0, 1, 2, 3, 4] [] rfl rfl (by decide) (by decide) hk1 hFc hP1 hD1
  clear hk1 hPc hDc hFc hP1 hD1 ht
  generalize H1 = H at hP hS ⊢
  have hP : va_P (dC, dI) classes [(om k0 a I0 J0), (oa (a 11) cI 201 mn), (oa (a 12) cI 8040 cx), (oa (a 13) cI 8040 cy), (oa (a 32) cI 8 S3)] H := hP
  have hD : va_D A [(om k0 a I0 J0), (oa (a 11) cI 201 mn), (oa (a 12) cI 8040 cx), (oa (a 13) cI 8040 cy), (oa (a 32) cI 8 S3)] := hD
  have v0 : S3 0 = cF40 cx f i := (ur 0 (by omega)).trans t0
  have v1 : S3 1 = cF40 cy f i := (ur 1 (by omega)).trans t1
  have v2 : S3 2 = cF40 cx f (nxt n i) := (ur 2 (by omega)).trans t2
  have v3 : S3 3 = cF40 cy f (nxt n i) := (ur 3 (by omega)).trans t3
  have v4 : S3 4 = cF40 cx f k := u0
  have v5 : S3 5 = cF40 cy f k := u1
  have v6 : S3 6 = cF40 cx f (nxt n k) := u2
  have v7 : S3 7 = cF40 cy f (nxt n k) := u3
  refine lv_aload_n hx hb dX11_folds_14 rfl (lv_at hl 0 rfl) ?_
  refine va_get (D := (dC, dI)) (ci := 9) (v := .ref (a 32)) (C := RX11) (T := TX11) (N := 55) hx hb hts inX11 hown hK hP 0 rfl rfl 32 (by decide) (hts _ mw_1191) (fun _ h9 => h9) rfl dX11_folds_15 ?_
  refine lv_iconst (v := 0) hx hb dX11_folds_18 (by decide) ?_
  refine z_iald hx hb hK hP 4 0 rfl rfl (e := 0) rfl (by omega) (by omega) dX11_folds_19 ?_
  refine zz_i (v := cF40 cx f i) (v0) ?_
  refine lv_i2l (v := (cF40 cx f i).toInt64) hx hb dX11_folds_20 (rfl) ?_
  refine lv_aload_n hx hb dX11_folds_21 rfl (lv_at hl 0 rfl) ?_
  refine va_get (D := (dC, dI)) (ci := 9) (v := .ref (a 32)) (C := RX11) (T := TX11) (N := 55) hx hb hts inX11 hown hK hP 0 rfl rfl 32 (by decide) (hts _ mw_1191) (fun _ h9 => h9) rfl dX11_folds_22 ?_
  refine lv_iconst (v := 1) hx hb dX11_folds_25 (by decide) ?_
  refine z_iald hx hb hK hP 4 0 rfl rfl (e := 1) rfl (by omega) (by omega) dX11_folds_26 ?_
  refine zz_i (v := cF40 cy f i) (v1) ?_
  refine lv_i2l (v := (cF40 cy f i).toInt64) hx hb dX11_folds_27 (rfl) ?_
  refine lv_aload_n hx hb dX11_folds_28 rfl (lv_at hl 0 rfl) ?_
  refine va_get (D := (dC, dI)) (ci := 9) (v := .ref (a 32)) (C := RX11) (T := TX11) (N := 55) hx hb hts inX11 hown hK hP 0 rfl rfl 32 (by decide) (hts _ mw_1191) (fun _ h9 => h9) rfl dX11_folds_29 ?_
  refine lv_iconst (v := 2) hx hb dX11_folds_32 (by decide) ?_
  refine z_iald hx hb hK hP 4 0 rfl rfl (e := 2) rfl (by omega) (by omega) dX11_folds_33 ?_
  refine zz_i (v := cF40 cx f (nxt n i)) (v2) ?_
  refine lv_i2l (v := (cF40 cx f (nxt n i)).toInt64) hx hb dX11_folds_34 (rfl) ?_
  refine lv_aload_n hx hb dX11_folds_35 rfl (lv_at hl 0 rfl) ?_
  refine va_get (D := (dC, dI)) (ci := 9) (v := .ref (a 32)) (C := RX11) (T := TX11) (N := 55) hx hb hts inX11 hown hK hP 0 rfl rfl 32 (by decide) (hts _ mw_1191) (fun _ h9 => h9) rfl dX11_folds_36 ?_
  refine lv_iconst (v := 3) hx hb dX11_folds_39 (by decide) ?_
  refine z_iald hx hb hK hP 4 0 rfl rfl (e := 3) rfl (by omega) (by omega) dX11_folds_40 ?_
  refine zz_i (v := cF40 cy f (nxt n i)) (v3) ?_
  refine lv_i2l (v := (cF40 cy f (nxt n i)).toInt64) hx hb dX11_folds_41 (rfl) ?_
  refine lv_aload_n hx hb dX11_folds_42 rfl (lv_at hl 0 rfl) ?_
  refine va_get (D := (dC, dI)) (ci := 9) (v := .ref (a 32)) (C := RX11) (T := TX11) (N := 55) hx hb hts inX11 hown hK hP 0 rfl rfl 32 (by decide) (hts _ mw_1191) (fun _ h9 => h9) rfl dX11_folds_43 ?_
  refine lv_bipush (v := 6) hx hb dX11_folds_46 (by decide) ?_
  refine z_iald hx hb hK hP 4 0 rfl rfl (e := 6) rfl (by omega) (by omega) dX11_folds_48 ?_
  refine zz_i (v := cF40 cx f (nxt n k)) (v6) ?_
  refine lv_i2l (v := (cF40 cx f (nxt n k)).toInt64) hx hb dX11_folds_49 (rfl) ?_
  refine lv_aload_n hx hb dX11_folds_50 rfl (lv_at hl 0 rfl) ?_
  refine va_get (D := (dC, dI)) (ci := 9) (v := .ref (a 32)) (C := RX11) (T := TX11) (N := 55) hx hb hts inX11 hown hK hP 0 rfl rfl 32 (by decide) (hts _ mw_1191) (fun _ h9 => h9) rfl dX11_folds_51 ?_
  refine lv_bipush (v := 7) hx hb dX11_folds_54 (by decide) ?_
  refine z_iald hx hb hK hP 4 0 rfl rfl (e := 7) rfl (by omega) (by omega) dX11_folds_56 ?_
  refine zz_i (v := cF40 cy f (nxt n k)) (v7) ?_
  refine lv_i2l (v := (cF40 cy f (nxt n k)).toInt64) hx hb dX11_folds_57 (rfl) ?_
  have hB1 := crBp (hp_f i hi9).1 (hp_f i hi9).2 (hp_f _ hnx).1 (hp_f _ hnx).2 (hp_f _ hnk).1 (hp_f _ hnk).2
  have hPc := hP.sub (ws' := []) [] rfl
  have hDc := hD.sub (ws' := []) [] (by decide) rfl
  have hFc := va_free (wc := []) hD hS hA [] rfl
  refine zcall (st1 := [.long (jI (cr (cF40 cx f i).toInt (cF40 cy f i).toInt (cF40 cx f (nxt n i)).toInt (cF40 cy f (nxt n i)).toInt (cF40 cx f (nxt n k)).toInt (cF40 cy f (nxt n k)).toInt))]) (va_runS (As := [.long ((cF40 cx f i).toInt64), .long ((cF40 cy f i).toInt64), .long ((cF40 cx f (nxt n i)).toInt64), .long ((cF40 cy f (nxt n i)).toInt64), .long ((cF40 cx f (nxt n k)).toInt64), .long ((cF40 cy f (nxt n k)).toInt64)]) (rest := []) ⟨hx, hb, hml, hown, hts⟩ (k_M_cross l dC dI cI cZ cF H.size (cF40 cx f i) (cF40 cy f i) (cF40 cx f (nxt n i)) (cF40 cy f (nxt n i)) (cF40 cx f (nxt n k)) (cF40 cy f (nxt n k)) ((hp_f i hi9).1) ((hp_f i hi9).2) ((hp_f _ hnx).1) ((hp_f _ hnx).2) ((hp_f _ hnk).1) ((hp_f _ hnk).2)) (va_cwS 6 hts (zz_gS mw_1381 mw_1382 mw_110 mc_yX11_cross) rfl rfl rfl (by decide +kernel) ⟨Nat.le_of_ble_eq_true rfl, Nat.le_of_ble_eq_true rfl⟩) (zPS2 hPc hDc hK hXN) rfl rfl hl.1 rfl (lv_room (Nat.le_of_ble_eq_true rfl)) dX11_folds_58 ⟨Nat.le_of_ble_eq_true rfl, Nat.le_of_ble_eq_true rfl⟩) hS hFc hFc rfl (fun t H1 locs ht hB hk1 hS => ?_)
  obtain ⟨hP1, hD1⟩ := hB
  rw [ht] at hP1
  obtain ⟨hP, hD⟩ := va_join (wr := [(om k0 a I0 J0), (oa (a 11) cI 201 mn), (oa (a 12) cI 8040 cx), (oa (a 13) cI 8040 cy), (oa (a 32) cI 8 S3)]) (w1 := []) hP hD [] [0, 1, 2, 3, 4] rfl rfl (by decide) (by decide) hk1 hFc hP1 hD1
  clear hk1 hPc hDc hFc hP1 hD1 ht
  generalize H1 = H at hP hS ⊢
  have hP : va_P (dC, dI) classes [(om k0 a I0 J0), (oa (a 11) cI 201 mn), (oa (a 12) cI 8040 cx), (oa (a 13) cI 8040 cy), (oa (a 32) cI 8 S3)] H := hP
  have hD : va_D A [(om k0 a I0 J0), (oa (a 11) cI 201 mn), (oa (a 12) cI 8040 cx), (oa (a 13) cI 8040 cy), (oa (a 32) cI 8 S3)] := hD
  refine lv_lconst (v := 0) hx hb dX11_folds_61 (by decide) ?_
  refine W.lcmp hx hb dX11_folds_62 ?_
  refine lv_if_eq (tgt := 68) hx hb dX11_folds_63 (by decide) (fun c_1 => ?_) (fun c_1 => ?_)
  · have c_1 : (cr (cF40 cx f i).toInt (cF40 cy f i).toInt (cF40 cx f (nxt n i)).toInt (cF40 cy f (nxt n i)).toInt (cF40 cx f (nxt n k)).toInt (cF40 cy f (nxt n k)).toInt) = 0 := zl_eq (jI_toInt (by omega)) (by decide) c_1
    refine lv_aload_n hx hb dX11_folds_68 rfl (lv_at hl 0 rfl) ?_
    refine va_get (D := (dC, dI)) (ci := 9) (v := .ref (a 32)) (C := RX11) (T := TX11) (N := 55) hx hb hts inX11 hown hK hP 0 rfl rfl 32 (by decide) (hts _ mw_1191) (fun _ h9 => h9) rfl dX11_folds_69 ?_
    refine lv_iconst (v := 0) hx hb dX11_folds_72 (by decide) ?_
    refine z_iald hx hb hK hP 4 0 rfl rfl (e := 0) rfl (by omega) (by omega) dX11_folds_73 ?_
    refine zz_i (v := cF40 cx f i) (v0) ?_
    refine lv_aload_n hx hb dX11_folds_74 rfl (lv_at hl 0 rfl) ?_
    refine va_get (D := (dC, dI)) (ci := 9) (v := .ref (a 32)) (C := RX11) (T := TX11) (N := 55) hx hb hts inX11 hown hK hP 0 rfl rfl 32 (by decide) (hts _ mw_1191) (fun _ h9 => h9) rfl dX11_folds_75 ?_
    refine lv_iconst (v := 2) hx hb dX11_folds_78 (by decide) ?_
    refine z_iald hx hb hK hP 4 0 rfl rfl (e := 2) rfl (by omega) (by omega) dX11_folds_79 ?_
    refine zz_i (v := cF40 cx f (nxt n i)) (v2) ?_
    refine lv_isub hx hb dX11_folds_80 ?_
    refine lv_i2l (v := ((cF40 cx f i) - (cF40 cx f (nxt n i))).toInt64) hx hb dX11_folds_81 (rfl) ?_
    refine lv_aload_n hx hb dX11_folds_82 rfl (lv_at hl 0 rfl) ?_
    refine va_get (D := (dC, dI)) (ci := 9) (v := .ref (a 32)) (C := RX11) (T := TX11) (N := 55) hx hb hts inX11 hown hK hP 0 rfl rfl 32 (by decide) (hts _ mw_1191) (fun _ h9 => h9) rfl dX11_folds_83 ?_
    refine lv_bipush (v := 6) hx hb dX11_folds_86 (by decide) ?_
    refine z_iald hx hb hK hP 4 0 rfl rfl (e := 6) rfl (by omega) (by omega) dX11_folds_88 ?_
    refine zz_i (v := cF40 cx f (nxt n k)) (v6) ?_
    refine lv_aload_n hx hb dX11_folds_89 rfl (lv_at hl 0 rfl) ?_
    refine va_get (D := (dC, dI)) (ci := 9) (v := .ref (a 32)) (C := RX11) (T := TX11) (N := 55) hx hb hts inX11 hown hK hP 0 rfl rfl 32 (by decide) (hts _ mw_1191) (fun _ h9 => h9) rfl dX11_folds_90 ?_
    refine lv_iconst (v := 2) hx hb dX11_folds_93 (by decide) ?_
    refine z_iald hx hb hK hP 4 0 rfl rfl (e := 2) rfl (by omega) (by omega) dX11_folds_94 ?_
    refine zz_i (v := cF40 cx f (nxt n i)) (v2) ?_
    refine lv_isub hx hb dX11_folds_95 ?_
    refine lv_i2l (v := ((cF40 cx f (nxt n k)) - (cF40 cx f (nxt n i))).toInt64) hx hb dX11_folds_96 (rfl) ?_
    refine lv_lmul hx hb dX11_folds_97 ?_
    refine zz_l (v := jI (((cF40 cx f i).toInt - (cF40 cx f (nxt n i)).toInt) * ((cF40 cx f (nxt n k)).toInt - (cF40 cx f (nxt n i)).toInt))) (mlL (hp_f i hi9).1 (hp_f _ hnx).1 (hp_f _ hnk).1 (hp_f _ hnx).1) ?_
    have hB2 := mlB (hp_f i hi9).1 (hp_f _ hnx).1 (hp_f _ hnk).1 (hp_f _ hnx).1
    refine lv_aload_n hx hb dX11_folds_98 rfl (lv_at hl 0 rfl) ?_
    refine va_get (D := (dC, dI)) (ci := 9) (v := .ref (a 32)) (C := RX11) (T := TX11) (N := 55) hx hb hts inX11 hown hK hP 0 rfl rfl 32 (by decide) (hts _ mw_1191) (fun _ h9 => h9) rfl dX11_folds_99 ?_
    refine lv_iconst (v := 1) hx hb dX11_folds_102 (by decide) ?_
    refine z_iald hx hb hK hP 4 0 rfl rfl (e := 1) rfl (by omega) (by omega) dX11_folds_103 ?_
    refine zz_i (v := cF40 cy f i) (v1) ?_
    refine lv_aload_n hx hb dX11_folds_104 rfl (lv_at hl 0 rfl) ?_
    refine va_get (D := (dC, dI)) (ci := 9) (v := .ref (a 32)) (C := RX11) (T := TX11) (N := 55) hx hb hts inX11 hown hK hP 0 rfl rfl 32 (by decide) (hts _ mw_1191) (fun _ h9 => h9) rfl dX11_folds_105 ?_
    refine lv_iconst (v := 3) hx hb dX11_folds_108 (by decide) ?_
    refine z_iald hx hb hK hP 4 0 rfl rfl (e := 3) rfl (by omega) (by omega) dX11_folds_109 ?_
    refine zz_i (v := cF40 cy f (nxt n i)) (v3) ?_
    refine lv_isub hx hb dX11_folds_110 ?_
    refine lv_i2l (v := ((cF40 cy f i) - (cF40 cy f (nxt n i))).toInt64) hx hb dX11_folds_111 (rfl) ?_
    refine lv_aload_n hx hb dX11_folds_112 rfl (lv_at hl 0 rfl) ?_
    refine va_get (D := (dC, dI)) (ci := 9) (v := .ref (a 32)) (C := RX11) (T := TX11) (N := 55) hx hb hts inX11 hown hK hP 0 rfl rfl 32 (by decide) (hts _ mw_1191) (fun _ h9 => h9) rfl dX11_folds_113 ?_
    refine lv_bipush (v := 7) hx hb dX11_folds_116 (by decide) ?_
    refine z_iald hx hb hK hP 4 0 rfl rfl (e := 7) rfl (by omega) (by omega) dX11_folds_118 ?_
    refine zz_i (v := cF40 cy f (nxt n k)) (v7) ?_
    refine lv_aload_n hx hb dX11_folds_119 rfl (lv_at hl 0 rfl) ?_
    refine va_get (D := (dC, dI)) (ci := 9) (v := .ref (a 32)) (C := RX11) (T := TX11) (N := 55) hx hb hts inX11 hown hK hP 0 rfl rfl 32 (by decide) (hts _ mw_1191) (fun _ h9 => h9) rfl dX11_folds_120 ?_
    refine lv_iconst (v := 3) hx hb dX11_folds_123 (by decide) ?_
    refine z_iald hx hb hK hP 4 0 rfl rfl (e := 3) rfl (by omega) (by omega) dX11_folds_124 ?_
    refine zz_i (v := cF40 cy f (nxt n i)) (v3) ?_
    refine lv_isub hx hb dX11_folds_125 ?_
    refine lv_i2l (v := ((cF40 cy f (nxt n k)) - (cF40 cy f (nxt n i))).toInt64) hx hb dX11_folds_126 (rfl) ?_
    refine lv_lmul hx hb dX11_folds_127 ?_
    refine zz_l (v := jI (((cF40 cy f i).toInt - (cF40 cy f (nxt n i)).toInt) * ((cF40 cy f (nxt n k)).toInt - (cF40 cy f (nxt n i)).toInt))) (mlL (hp_f i hi9).2 (hp_f _ hnx).2 (hp_f _ hnk).2 (hp_f _ hnx).2) ?_
    have hB3 := mlB (hp_f i hi9).2 (hp_f _ hnx).2 (hp_f _ hnk).2 (hp_f _ hnx).2
    refine lv_ladd hx hb dX11_folds_128 ?_
    refine zz_l (v := jI (((cF40 cx f i).toInt - (cF40 cx f (nxt n i)).toInt) * ((cF40 cx f (nxt n k)).toInt - (cF40 cx f (nxt n i)).toInt) + ((cF40 cy f i).toInt - (cF40 cy f (nxt n i)).toInt) * ((cF40 cy f (nxt n k)).toInt - (cF40 cy f (nxt n i)).toInt))) (jI_add (by omega) (by omega)) ?_
    refine lv_lstore (lv' := [(4, .long (jI (((cF40 cx f i).toInt - (cF40 cx f (nxt n i)).toInt) * ((cF40 cx f (nxt n k)).toInt - (cF40 cx f (nxt n i)).toInt) + ((cF40 cy f i).toInt - (cF40 cy f (nxt n i)).toInt) * ((cF40 cy f (nxt n k)).toInt - (cF40 cy f (nxt n i)).toInt)))), (0, .ref k0), (1, .int (nI f)), (2, .int (nI i)), (3, .int (nI k))]) hx hb dX11_folds_129 hl (by decide) rfl (fun ls hl => ?_)
    refine lv_lload hx hb dX11_folds_131 (lv_at hl 0 rfl) ?_
    refine lv_lconst (v := 0) hx hb dX11_folds_133 (by decide) ?_
    refine W.lcmp hx hb dX11_folds_134 ?_
    refine lv_if_le (tgt := 142) hx hb dX11_folds_135 (by decide) (fun c_2 => ?_) (fun c_2 => ?_)
    · have c_2 : (((cF40 cx f i).toInt - (cF40 cx f (nxt n i)).toInt) * ((cF40 cx f (nxt n k)).toInt - (cF40 cx f (nxt n i)).toInt) + ((cF40 cy f i).toInt - (cF40 cy f (nxt n i)).toInt) * ((cF40 cy f (nxt n k)).toInt - (cF40 cy f (nxt n i)).toInt)) ≤ 0 := zl_le (jI_toInt (by omega)) (by decide) c_2
      refine lv_iconst (v := 0) hx hb dX11_folds_142 (by decide) ?_
      have hP9 := hP.sub (ws' := [(om k0 a I0 J0), (oa (a 11) cI 201 mn), (oa (a 12) cI 8040 cx), (oa (a 13) cI 8040 cy), (oa (a 32) cI 8 S3)]) [0, 1, 2, 3, 4] rfl
      have hD9 := hD.sub (ws' := [(om k0 a I0 J0), (oa (a 11) cI 201 mn), (oa (a 12) cI 8040 cx), (oa (a 13) cI 8040 cy), (oa (a 32) cI 8 S3)]) [0, 1, 2, 3, 4] (by decide) rfl
      rw [hQ9]
      exact W.zret (ty := .boolean) (v := 0) hx hb hr (rfl) (fun t ht hW => ⟨⟨congrArg (fun z => Outcome.returned (some (Value.int z))) (show (0 : Int32) = pI (mFl n (cF40 cx f) (cF40 cy f) i k) from (zp_f (by unfold mFl fld dt; omega)).symm), S3, by rw [ht]; exact hP9, hD9⟩, hS.F ht⟩) hS.2.2 dX11_folds_143
    · have c_2 : 0 < (((cF40 cx f i).toInt - (cF40 cx f (nxt n i)).toInt) * ((cF40 cx f (nxt n k)).toInt - (cF40 cx f (nxt n i)).toInt) + ((cF40 cy f i).toInt - (cF40 cy f (nxt n i)).toInt) * ((cF40 cy f (nxt n k)).toInt - (cF40 cy f (nxt n i)).toInt)) := zl_nle (jI_toInt (by omega)) (by decide) c_2
      refine lv_iconst (v := 1) hx hb dX11_folds_138 (by decide) ?_
      refine lv_goto (tgt := 143) hx hb dX11_folds_139 (by decide) ?_
      have hP9 := hP.sub (ws' := [(om k0 a I0 J0), (oa (a 11) cI 201 mn), (oa (a 12) cI 8040 cx), (oa (a 13) cI 8040 cy), (oa (a 32) cI 8 S3)]) [0, 1, 2, 3, 4] rfl
      have hD9 := hD.sub (ws' := [(om k0 a I0 J0), (oa (a 11) cI 201 mn), (oa (a 12) cI 8040 cx), (oa (a 13) cI 8040 cy), (oa (a 32) cI 8 S3)]) [0, 1, 2, 3, 4] (by decide) rfl
      rw [hQ9]
      exact W.zret (ty := .boolean) (v := 1) hx hb hr (rfl) (fun t ht hW => ⟨⟨congrArg (fun z => Outcome.returned (some (Value.int z))) (show (1 : Int32) = pI (mFl n (cF40 cx f) (cF40 cy f) i k) from (zp_t (by unfold mFl fld dt; omega)).symm), S3, by rw [ht]; exact hP9, hD9⟩, hS.F ht⟩) hS.2.2 dX11_folds_143
  · have c_1 : ¬ (cr (cF40 cx f i).toInt (cF40 cy f i).toInt (cF40 cx f (nxt n i)).toInt (cF40 cy f (nxt n i)).toInt (cF40 cx f (nxt n k)).toInt (cF40 cy f (nxt n k)).toInt) = 0 := zl_ne (jI_toInt (by omega)) (by decide) c_1
    refine lv_iconst (v := 0) hx hb dX11_folds_66 (by decide) ?_
    have hP9 := hP.sub (ws' := [(om k0 a I0 J0), (oa (a 11) cI 201 mn), (oa (a 12) cI 8040 cx), (oa (a 13) cI 8040 cy), (oa (a 32) cI 8 S3)]) [0, 1, 2, 3, 4] rfl
    have hD9 := hD.sub (ws' := [(om k0 a I0 J0), (oa (a 11) cI 201 mn), (oa (a 12) cI 8040 cx), (oa (a 13) cI 8040 cy), (oa (a 32) cI 8 S3)]) [0, 1, 2, 3, 4] (by decide) rfl
    rw [hQ9]
    exact W.zret (ty := .boolean) (v := 0) hx hb hr (rfl) (fun t ht hW => ⟨⟨congrArg (fun z => Outcome.returned (some (Value.int z))) (show (0 : Int32) = pI (mFl n (cF40 cx f) (cF40 cy f) i k) from (zp_f (by unfold mFl fld; omega)).symm), S3, by rw [ht]; exact hP9, hD9⟩, hS.F ht⟩) hS.2.2 dX11_folds_67
set_option maxHeartbeats 4000000 in
set_option maxRecDepth 100000 in
theorem k_M_arePlaces (l : Launch) (dC : Nat → ClassId) (dI : Nat → Nat → Nat) (cI cZ cF : ClassId) (sz : Nat) (k0 : Nat) (a : Nat → Nat) (I0 : Nat → Int32) (J0 : Nat → Int64) (f : Nat) (n : Nat) (mn : Nat → Int32) (cx : Nat → Int32) (cy : Nat → Int32) (hf_f : f ≤ 200) (hm_f : mn f = nI n) (hn_f : n ≤ 40) : Met l yX11_arePlaces (.code yX11_arePlaces cX11_arePlaces 5 (some .boolean) :: ws0) ({ frames := 0, cells := 0, slots := 0, locals := 0 } : Room) (va_Pc [.ref k0, .int (nI f)] (zPre (dC, dI) classes (zTy cI cZ cF) [(om k0 a I0 J0), (oa (a 11) cI 201 mn), (oa (a 12) cI 8040 cx), (oa (a 13) cI 8040 cy)] sz zXN)) (zQ (some (.int (pI (pls n (cF40 cx f) (cF40 cy f))))) (fun t => va_P (dC, dI) classes [(om k0 a I0 J0), (oa (a 11) cI 201 mn), (oa (a 12) cI 8040 cx), (oa (a 13) cI 8040 cy)] t.heap ∧ va_D (va_A [(om k0 a I0 J0), (oa (a 11) cI 201 mn), (oa (a 12) cI 8040 cx), (oa (a 13) cI 8040 cy)] sz) [(om k0 a I0 J0), (oa (a 11) cI 201 mn), (oa (a 12) cI 8040 cx), (oa (a 13) cI 8040 cy)]) (va_A [(om k0 a I0 J0), (oa (a 11) cI 201 mn), (oa (a 12) cI 8040 cx), (oa (a 13) cI 8040 cy)] sz)) 0 0 (va_A [(om k0 a I0 J0), (oa (a 11) cI 201 mn), (oa (a 12) cI 8040 cx), (oa (a 13) cI 8040 cy)] sz) := by
  refine Met.ofW (cc := cX11_arePlaces) (maxL := 5) (ret := (some .boolean)) (by decide) rfl ?_
  intro p e s m args below meth c s₁ B hml hv
  obtain ⟨rfl, hsz, hP, hK, hD0, hXN⟩ := hv
  have hx := B.exec
  have hb := B.bytes
  have hr := B.returns
  have hts0 := atoms_spec (ws := .code yX11_arePlaces cX11_arePlaces 5 (some .boolean) :: ws0) B.pre
  have hts : ∀ w9 ∈ ws0, w9.before ([.ref k0, .int (nI f)] : List Value).toArray s = true := fun w9 h => hts0 w9 (List.mem_cons_of_mem _ h)
  have hown : s.vm.findClass "ScaleShopModel" = some m.cls := findClass_of_methodNamed B.named
  have hlocks := B.notSynchronized
  subst hsz
  have hD := hD0.self (sz := s.heap.size)
  clear hD0
  generalize hAe : va_A [(om k0 a I0 J0), (oa (a 11) cI 201 mn), (oa (a 12) cI 8040 cx), (oa (a 13) cI 8040 cy)] s.heap.size = A at hD ⊢
  have hA : ∀ q : Nat, s.heap.size ≤ q → A q := fun q h => by rw [← hAe]; exact Or.inr h
  clear hAe
  have hS : va_S A s.heap s.heap [] := va_S.rf
  have hP : va_P (dC, dI) classes [(om k0 a I0 J0), (oa (a 11) cI 201 mn), (oa (a 12) cI 8040 cx), (oa (a 13) cI 8040 cy)] s.heap := hP
  obtain ⟨Q9, hQ9⟩ : ∃ Q9 : State → Prop, Q9 = MQ below (zQ (some (.int (pI (pls n (cF40 cx f) (cF40 cy f))))) (fun t => va_P (dC, dI) classes [(om k0 a I0 J0), (oa (a 11) cI 201 mn), (oa (a 12) cI 8040 cx), (oa (a 13) cI 8040 cy)] t.heap ∧ va_D A [(om k0 a I0 J0), (oa (a 11) cI 201 mn), (oa (a 12) cI 8040 cx), (oa (a 13) cI 8040 cy)]) A) ([.ref k0, .int (nI f)] : List Value).toArray s 0 0 A := ⟨_, rfl⟩
  rw [← hQ9]
  have hl := lv_entry ([.ref k0, .int (nI f)]) (n := 5) (Nat.le_of_ble_eq_true rfl)
  rw [lg_entry_eq]
  generalize (lg_sl ([.ref k0, .int (nI f)]) ++ List.replicate (5 - (lg_sl ([.ref k0, .int (nI f)])).length) Slot.unset).toArray = ls at hl ⊢
  have hl : lv_has ls 5 [(0, .ref k0), (1, .int (nI f))] := hl
  refine lv_iconst (v := 0) hx hb dX11_arePlaces_0 (by decide) ?_
  refine lv_istore_n (lv' := [(2, .int 0), (0, .ref k0), (1, .int (nI f))]) hx hb dX11_arePlaces_1 rfl hl (by decide) rfl (fun ls hl => ?_)
  have hl_2 : ∀ (n9 : Nat) (i : Nat) (H : Heap) (locs : List Loc) (ls : Array Slot), n - i < n9 → (i ≤ n) → (∀ k, k < i → pl (cF40 cx f k) ∧ pl (cF40 cy f k)) → va_P (dC, dI) classes [(om k0 a I0 J0), (oa (a 11) cI 201 mn), (oa (a 12) cI 8040 cx), (oa (a 13) cI 8040 cy)] H → va_D A [(om k0 a I0 J0), (oa (a 11) cI 201 mn), (oa (a 12) cI 8040 cx), (oa (a 13) cI 8040 cy)] → va_S A s.heap H locs → lv_has ls 5 [(2, .int (nI i)), (0, .ref k0), (1, .int (nI f))] → W p l e ((headSpec (.code yX11_arePlaces cX11_arePlaces 5 (some .boolean) :: ws0) ({ frames := 0, cells := 0, slots := 0, locals := 0 } : Room)).room) s m ([.ref k0, .int (nI f)] : List Value).toArray below meth c H locs 0 0 Q9 (F0 m 2 ls []) := by
    intro n9
    induction n9 with
    | zero => intro i H locs ls hm; exact absurd hm (Nat.not_lt_zero _)
    | succ n9 ih_2 =>
      intro i H locs ls hm hi hall hP hD hS hl
      refine lv_iload_n hx hb dX11_arePlaces_2 rfl (lv_at hl 0 rfl) ?_
      refine lv_aload_n hx hb dX11_arePlaces_3 rfl (lv_at hl 1 rfl) ?_
      refine va_get (D := (dC, dI)) (ci := 9) (v := .ref (a 11)) (C := RX11) (T := TX11) (N := 55) hx hb hts inX11 hown hK hP 0 rfl rfl 11 (by decide) (hts _ mw_1170) (fun _ h9 => h9) rfl dX11_arePlaces_4 ?_
      refine lv_iload_n hx hb dX11_arePlaces_7 rfl (lv_at hl 2 rfl) ?_
      refine z_iald hx hb hK hP 1 0 rfl rfl (e := f) rfl (by omega) (by omega) dX11_arePlaces_8 ?_
      refine zz_i (v := nI n) (hm_f) ?_
      refine lv_icmp_ge (tgt := 69) hx hb dX11_arePlaces_9 (by decide) (fun c_1 => ?_) (fun c_1 => ?_)
      · have c_1 : ((n : Nat) : Int) ≤ ((i : Nat) : Int) := zc_le (nI_toInt (by omega)) (nI_toInt (by omega)) c_1
        refine lv_iconst (v := 1) hx hb dX11_arePlaces_69 (by decide) ?_
        have hP9 := hP.sub (ws' := [(om k0 a I0 J0), (oa (a 11) cI 201 mn), (oa (a 12) cI 8040 cx), (oa (a 13) cI 8040 cy)]) [0, 1, 2, 3] rfl
        have hD9 := hD.sub (ws' := [(om k0 a I0 J0), (oa (a 11) cI 201 mn), (oa (a 12) cI 8040 cx), (oa (a 13) cI 8040 cy)]) [0, 1, 2, 3] (by decide) rfl
        rw [hQ9]
        exact W.zret (ty := .boolean) (v := 1) hx hb hr (rfl) (fun t ht hW => ⟨⟨congrArg (fun z => Outcome.returned (some (Value.int z))) (show (1 : Int32) = pI (pls n (cF40 cx f) (cF40 cy f)) from (zp_t (fun k hk => hall k (by omega))).symm), by rw [ht]; exact hP9, hD9⟩, hS.F ht⟩) hS.2.2 dX11_arePlaces_70
      · have c_1 : ((i : Nat) : Int) < ((n : Nat) : Int) := zc_nle (nI_toInt (by omega)) (nI_toInt (by omega)) c_1
        refine lv_aload_n hx hb dX11_arePlaces_12 rfl (lv_at hl 1 rfl) ?_
        refine va_get (D := (dC, dI)) (ci := 9) (v := .ref (a 12)) (C := RX11) (T := TX11) (N := 55) hx hb hts inX11 hown hK hP 0 rfl rfl 12 (by decide) (hts _ mw_1171) (fun _ h9 => h9) rfl dX11_arePlaces_13 ?_
        refine lv_bipush (v := 40) hx hb dX11_arePlaces_16 (by decide) ?_
        refine lv_iload_n hx hb dX11_arePlaces_18 rfl (lv_at hl 2 rfl) ?_
        refine lv_imul hx hb dX11_arePlaces_19 ?_
        refine zz_i (v := nI (40 * f)) (pk_mul 40 f) ?_
        refine lv_iload_n hx hb dX11_arePlaces_20 rfl (lv_at hl 0 rfl) ?_
        refine lv_iadd hx hb dX11_arePlaces_21 ?_
        refine zz_i (v := nI (40 * f + i)) (nI_add (40 * f) i) ?_
        refine z_iald hx hb hK hP 2 0 rfl rfl (e := 40 * f + i) rfl (by omega) (by omega) dX11_arePlaces_22 ?_
        refine lv_istore_n (lv' := [(3, .int (cx (40 * f + i))), (2, .int (nI i)), (0, .ref k0), (1, .int (nI f))]) hx hb dX11_arePlaces_23 rfl hl (by decide) rfl (fun ls hl => ?_)
        refine lv_aload_n hx hb dX11_arePlaces_24 rfl (lv_at hl 2 rfl) ?_
        refine va_get (D := (dC, dI)) (ci := 9) (v := .ref (a 13)) (C := RX11) (T := TX11) (N := 55) hx hb hts inX11 hown hK hP 0 rfl rfl 13 (by decide) (hts _ mw_1172) (fun _ h9 => h9) rfl dX11_arePlaces_25 ?_
        refine lv_bipush (v := 40) hx hb dX11_arePlaces_28 (by decide) ?_
        refine lv_iload_n hx hb dX11_arePlaces_30 rfl (lv_at hl 3 rfl) ?_
        refine lv_imul hx hb dX11_arePlaces_31 ?_
        refine zz_i (v := nI (40 * f)) (pk_mul 40 f) ?_
        refine lv_iload_n hx hb dX11_arePlaces_32 rfl (lv_at hl 1 rfl) ?_
        refine lv_iadd hx hb dX11_arePlaces_33 ?_
        refine zz_i (v := nI (40 * f + i)) (nI_add (40 * f) i) ?_
        refine z_iald hx hb hK hP 3 0 rfl rfl (e := 40 * f + i) rfl (by omega) (by omega) dX11_arePlaces_34 ?_
        refine lv_istore (lv' := [(4, .int (cy (40 * f + i))), (3, .int (cx (40 * f + i))), (2, .int (nI i)), (0, .ref k0), (1, .int (nI f))]) hx hb dX11_arePlaces_35 hl (by decide) rfl (fun ls hl => ?_)
        refine lv_iload_n hx hb dX11_arePlaces_37 rfl (lv_at hl 1 rfl) ?_
        refine lv_if_lt (tgt := 61) hx hb dX11_arePlaces_38 (by decide) (fun c_2 => ?_) (fun c_2 => ?_)
        · have c_2 : (cx (40 * f + i)).toInt < 0 := zc_lt rfl (by decide) c_2
          refine lv_iconst (v := 0) hx hb dX11_arePlaces_61 (by decide) ?_
          have hP9 := hP.sub (ws' := [(om k0 a I0 J0), (oa (a 11) cI 201 mn), (oa (a 12) cI 8040 cx), (oa (a 13) cI 8040 cy)]) [0, 1, 2, 3] rfl
          have hD9 := hD.sub (ws' := [(om k0 a I0 J0), (oa (a 11) cI 201 mn), (oa (a 12) cI 8040 cx), (oa (a 13) cI 8040 cy)]) [0, 1, 2, 3] (by decide) rfl
          rw [hQ9]
          exact W.zret (ty := .boolean) (v := 0) hx hb hr (rfl) (fun t ht hW => ⟨⟨congrArg (fun z => Outcome.returned (some (Value.int z))) (show (0 : Int32) = pI (pls n (cF40 cx f) (cF40 cy f)) from (zp_f (fun h => by have h9 := h i (by omega); have h91 : pl (cx (40 * f + i)) := h9.1; have h92 : pl (cy (40 * f + i)) := h9.2; unfold pl at h91 h92; omega)).symm), by rw [ht]; exact hP9, hD9⟩, hS.F ht⟩) hS.2.2 dX11_arePlaces_62
        · have c_2 : 0 ≤ (cx (40 * f + i)).toInt := zc_nlt rfl (by decide) c_2
          refine lv_iload_n hx hb dX11_arePlaces_41 rfl (lv_at hl 1 rfl) ?_
          refine lv_sipush (v := 1000) hx hb dX11_arePlaces_42 (by decide) ?_
          refine lv_icmp_gt (tgt := 61) hx hb dX11_arePlaces_45 (by decide) (fun c_3 => ?_) (fun c_3 => ?_)
          · have c_3 : 1000 < (cx (40 * f + i)).toInt := zc_lt (by decide) rfl c_3
            refine lv_iconst (v := 0) hx hb dX11_arePlaces_61 (by decide) ?_
            have hP9 := hP.sub (ws' := [(om k0 a I0 J0), (oa (a 11) cI 201 mn), (oa (a 12) cI 8040 cx), (oa (a 13) cI 8040 cy)]) [0, 1, 2, 3] rfl
            have hD9 := hD.sub (ws' := [(om k0 a I0 J0), (oa (a 11) cI 201 mn), (oa (a 12) cI 8040 cx), (oa (a 13) cI 8040 cy)]) [0, 1, 2, 3] (by decide) rfl
            rw [hQ9]
            exact W.zret (ty := .boolean) (v := 0) hx hb hr (rfl) (fun t ht hW => ⟨⟨congrArg (fun z => Outcome.returned (some (Value.int z))) (show (0 : Int32) = pI (pls n (cF40 cx f) (cF40 cy f)) from (zp_f (fun h => by have h9 := h i (by omega); have h91 : pl (cx (40 * f + i)) := h9.1; have h92 : pl (cy (40 * f + i)) := h9.2; unfold pl at h91 h92; omega)).symm), by rw [ht]; exact hP9, hD9⟩, hS.F ht⟩) hS.2.2 dX11_arePlaces_62
          · have c_3 : (cx (40 * f + i)).toInt ≤ 1000 := zc_nlt (by decide) rfl c_3
            refine lv_iload hx hb dX11_arePlaces_48 (lv_at hl 0 rfl) ?_
            refine lv_if_lt (tgt := 61) hx hb dX11_arePlaces_50 (by decide) (fun c_4 => ?_) (fun c_4 => ?_)
            · have c_4 : (cy (40 * f + i)).toInt < 0 := zc_lt rfl (by decide) c_4
              refine lv_iconst (v := 0) hx hb dX11_arePlaces_61 (by decide) ?_
              have hP9 := hP.sub (ws' := [(om k0 a I0 J0), (oa (a 11) cI 201 mn), (oa (a 12) cI 8040 cx), (oa (a 13) cI 8040 cy)]) [0, 1, 2, 3] rfl
              have hD9 := hD.sub (ws' := [(om k0 a I0 J0), (oa (a 11) cI 201 mn), (oa (a 12) cI 8040 cx), (oa (a 13) cI 8040 cy)]) [0, 1, 2, 3] (by decide) rfl
              rw [hQ9]
              exact W.zret (ty := .boolean) (v := 0) hx hb hr (rfl) (fun t ht hW => ⟨⟨congrArg (fun z => Outcome.returned (some (Value.int z))) (show (0 : Int32) = pI (pls n (cF40 cx f) (cF40 cy f)) from (zp_f (fun h => by have h9 := h i (by omega); have h91 : pl (cx (40 * f + i)) := h9.1; have h92 : pl (cy (40 * f + i)) := h9.2; unfold pl at h91 h92; omega)).symm), by rw [ht]; exact hP9, hD9⟩, hS.F ht⟩) hS.2.2 dX11_arePlaces_62
            · have c_4 : 0 ≤ (cy (40 * f + i)).toInt := zc_nlt rfl (by decide) c_4
              refine lv_iload hx hb dX11_arePlaces_53 (lv_at hl 0 rfl) ?_
              refine lv_sipush (v := 1000) hx hb dX11_arePlaces_55 (by decide) ?_
              refine lv_icmp_le (tgt := 63) hx hb dX11_arePlaces_58 (by decide) (fun c_5 => ?_) (fun c_5 => ?_)
              · have c_5 : (cy (40 * f + i)).toInt ≤ 1000 := zc_le rfl (by decide) c_5
                refine lv_iinc (v := nI (i + 1)) (lv' := [(2, .int (nI (i + 1))), (4, .int (cy (40 * f + i))), (3, .int (cx (40 * f + i))), (0, .ref k0), (1, .int (nI f))]) hx hb dX11_arePlaces_63 hl (k := 2) rfl (nI_add i 1) (by decide) rfl (fun ls hl => ?_)
                refine lv_goto (tgt := 2) hx hb dX11_arePlaces_66 (by decide) ?_
                exact ih_2 (i + 1) H locs ls (by omega) (by omega) (by intro k hk; rcases Nat.lt_or_ge k i with h | h; exact hall k h; rw [show k = i by omega]; show pl (cx (40 * f + i)) ∧ pl (cy (40 * f + i)); unfold pl; omega) hP hD hS (lv_sub hl [0, 3, 4] rfl)
              · have c_5 : 1000 < (cy (40 * f + i)).toInt := zc_nle rfl (by decide) c_5
                refine lv_iconst (v := 0) hx hb dX11_arePlaces_61 (by decide) ?_
                have hP9 := hP.sub (ws' := [(om k0 a I0 J0), (oa (a 11) cI 201 mn), (oa (a 12) cI 8040 cx), (oa (a 13) cI 8040 cy)]) [0, 1, 2, 3] rfl
                have hD9 := hD.sub (ws' := [(om k0 a I0 J0), (oa (a 11) cI 201 mn), (oa (a 12) cI 8040 cx), (oa (a 13) cI 8040 cy)]) [0, 1, 2, 3] (by decide) rfl
                rw [hQ9]
                exact W.zret (ty := .boolean) (v := 0) hx hb hr (rfl) (fun t ht hW => ⟨⟨congrArg (fun z => Outcome.returned (some (Value.int z))) (show (0 : Int32) = pI (pls n (cF40 cx f) (cF40 cy f)) from (zp_f (fun h => by have h9 := h i (by omega); have h91 : pl (cx (40 * f + i)) := h9.1; have h92 : pl (cy (40 * f + i)) := h9.2; unfold pl at h91 h92; omega)).symm), by rw [ht]; exact hP9, hD9⟩, hS.F ht⟩) hS.2.2 dX11_arePlaces_62
  exact hl_2 _ 0 s.heap [] ls (Nat.lt_succ_self _) (by omega) (by intro k hk; omega) hP hD hS (lv_sub hl [0, 1, 2] rfl)
set_option maxHeartbeats 4000000 in
set_option maxRecDepth 100000 in
theorem k_M_isSquare (l : Launch) (dC : Nat → ClassId) (dI : Nat → Nat → Nat) (cI cZ cF : ClassId) (sz : Nat) (k0 : Nat) (a : Nat → Nat) (I0 : Nat → Int32) (J0 : Nat → Int64) (f : Nat) (n : Nat) (mn : Nat → Int32) (cx : Nat → Int32) (cy : Nat → Int32) (S0 : Nat → Int32) (hf_f : f ≤ 200) (hm_f : mn f = nI n) (hn_f : 1 ≤ n ∧ n ≤ 40) (hp_f : pls n (cF40 cx f) (cF40 cy f)) : Met l yX11_isSquare (.code yX11_isSquare cX11_isSquare 3 (some .boolean) :: ws0) ({ frames := 1, cells := 0, slots := 0, locals := 25 } : Room) (va_Pc [.ref k0, .int (nI f)] (zPre (dC, dI) classes (zTy cI cZ cF) [(om k0 a I0 J0), (oa (a 11) cI 201 mn), (oa (a 12) cI 8040 cx), (oa (a 13) cI 8040 cy), (oa (a 32) cI 8 S0)] sz zXN)) (zQ (some (.int (pI (∀ k, k < n → eRt n (cF40 cx f) (cF40 cy f) k)))) (fun t => ∃ (S1 : Nat → Int32), va_P (dC, dI) classes [(om k0 a I0 J0), (oa (a 11) cI 201 mn), (oa (a 12) cI 8040 cx), (oa (a 13) cI 8040 cy), (oa (a 32) cI 8 S1)] t.heap ∧ va_D (va_A [(om k0 a I0 J0), (oa (a 11) cI 201 mn), (oa (a 12) cI 8040 cx), (oa (a 13) cI 8040 cy), (oa (a 32) cI 8 S0)] sz) [(om k0 a I0 J0), (oa (a 11) cI 201 mn), (oa (a 12) cI 8040 cx), (oa (a 13) cI 8040 cy), (oa (a 32) cI 8 S1)]) (va_A [(om k0 a I0 J0), (oa (a 11) cI 201 mn), (oa (a 12) cI 8040 cx), (oa (a 13) cI 8040 cy), (oa (a 32) cI 8 S0)] sz)) 0 0 (va_A [(om k0 a I0 J0), (oa (a 11) cI 201 mn), (oa (a 12) cI 8040 cx), (oa (a 13) cI 8040 cy), (oa (a 32) cI 8 S0)] sz) := by
  refine Met.ofW (cc := cX11_isSquare) (maxL := 3) (ret := (some .boolean)) (by decide) rfl ?_
  intro p e s m args below meth c s₁ B hml hv
  obtain ⟨rfl, hsz, hP, hK, hD0, hXN⟩ := hv
  have hx := B.exec
  have hb := B.bytes
  have hr := B.returns
  have hts0 := atoms_spec (ws := .code yX11_isSquare cX11_isSquare 3 (some .boolean) :: ws0) B.pre
  have hts : ∀ w9 ∈ ws0, w9.before ([.ref k0, .int (nI f)] : List Value).toArray s = true := fun w9 h => hts0 w9 (List.mem_cons_of_mem _ h)
  have hown : s.vm.findClass "ScaleShopModel" = some m.cls := findClass_of_methodNamed B.named
  have hlocks := B.notSynchronized
  subst hsz
  have hD := hD0.self (sz := s.heap.size)
  clear hD0
  generalize hAe : va_A [(om k0 a I0 J0), (oa (a 11) cI 201 mn), (oa (a 12) cI 8040 cx), (oa (a 13) cI 8040 cy), (oa (a 32) cI 8 S0)] s.heap.size = A at hD ⊢
  have hA : ∀ q : Nat, s.heap.size ≤ q → A q := fun q h => by rw [← hAe]; exact Or.inr h
  clear hAe
  have hS : va_S A s.heap s.heap [] := va_S.rf
  have hP : va_P (dC, dI) classes [(om k0 a I0 J0), (oa (a 11) cI 201 mn), (oa (a 12) cI 8040 cx), (oa (a 13) cI 8040 cy), (oa (a 32) cI 8 S0)] s.heap := hP
  obtain ⟨Q9, hQ9⟩ : ∃ Q9 : State → Prop, Q9 = MQ below (zQ (some (.int (pI (∀ k, k < n → eRt n (cF40 cx f) (cF40 cy f) k)))) (fun t => ∃ (S1 : Nat → Int32), va_P (dC, dI) classes [(om k0 a I0 J0), (oa (a 11) cI 201 mn), (oa (a 12) cI 8040 cx), (oa (a 13) cI 8040 cy), (oa (a 32) cI 8 S1)] t.heap ∧ va_D A [(om k0 a I0 J0), (oa (a 11) cI 201 mn), (oa (a 12) cI 8040 cx), (oa (a 13) cI 8040 cy), (oa (a 32) cI 8 S1)]) A) ([.ref k0, .int (nI f)] : List Value).toArray s 0 0 A := ⟨_, rfl⟩
  rw [← hQ9]
  have hl := lv_entry ([.ref k0, .int (nI f)]) (n := 3) (Nat.le_of_ble_eq_true rfl)
  rw [lg_entry_eq]
  generalize (lg_sl ([.ref k0, .int (nI f)]) ++ List.replicate (3 - (lg_sl ([.ref k0, .int (nI f)])).length) Slot.unset).toArray = ls at hl ⊢
  have hl : lv_has ls 3 [(0, .ref k0), (1, .int (nI f))] := hl
  refine lv_iconst (v := 0) hx hb dX11_isSquare_0 (by decide) ?_
  refine lv_istore_n (lv' := [(2, .int 0), (0, .ref k0), (1, .int (nI f))]) hx hb dX11_isSquare_1 rfl hl (by decide) rfl (fun ls hl => ?_)
  have hl_2 : ∀ (n9 : Nat) (i : Nat) (S1 : Nat → Int32) (H : Heap) (locs : List Loc) (ls : Array Slot), n - i < n9 → (i ≤ n) → (∀ j, j < i → eRt n (cF40 cx f) (cF40 cy f) (nxt n j)) → va_P (dC, dI) classes [(om k0 a I0 J0), (oa (a 11) cI 201 mn), (oa (a 12) cI 8040 cx), (oa (a 13) cI 8040 cy), (oa (a 32) cI 8 S1)] H → va_D A [(om k0 a I0 J0), (oa (a 11) cI 201 mn), (oa (a 12) cI 8040 cx), (oa (a 13) cI 8040 cy), (oa (a 32) cI 8 S1)] → va_S A s.heap H locs → lv_has ls 3 [(2, .int (nI i)), (0, .ref k0), (1, .int (nI f))] → W p l e ((headSpec (.code yX11_isSquare cX11_isSquare 3 (some .boolean) :: ws0) ({ frames := 1, cells := 0, slots := 0, locals := 25 } : Room)).room) s m ([.ref k0, .int (nI f)] : List Value).toArray below meth c H locs 0 0 Q9 (F0 m 2 ls []) := by
    intro n9
    induction n9 with
    | zero => intro i S1 H locs ls hm; exact absurd hm (Nat.not_lt_zero _)
    | succ n9 ih_2 =>
      intro i S1 H locs ls hm hi hall hP hD hS hl
      refine lv_iload_n hx hb dX11_isSquare_2 rfl (lv_at hl 0 rfl) ?_
      refine lv_aload_n hx hb dX11_isSquare_3 rfl (lv_at hl 1 rfl) ?_
      refine va_get (D := (dC, dI)) (ci := 9) (v := .ref (a 11)) (C := RX11) (T := TX11) (N := 55) hx hb hts inX11 hown hK hP 0 rfl rfl 11 (by decide) (hts _ mw_1170) (fun _ h9 => h9) rfl dX11_isSquare_4 ?_
      refine lv_iload_n hx hb dX11_isSquare_7 rfl (lv_at hl 2 rfl) ?_
      refine z_iald hx hb hK hP 1 0 rfl rfl (e := f) rfl (by omega) (by omega) dX11_isSquare_8 ?_
      refine zz_i (v := nI n) (hm_f) ?_
      refine lv_icmp_ge (tgt := 118) hx hb dX11_isSquare_9 (by decide) (fun c_1 => ?_) (fun c_1 => ?_)
      · have c_1 : ((n : Nat) : Int) ≤ ((i : Nat) : Int) := zc_le (nI_toInt (by omega)) (nI_toInt (by omega)) c_1
        refine lv_iconst (v := 1) hx hb dX11_isSquare_118 (by decide) ?_
        have hP9 := hP.sub (ws' := [(om k0 a I0 J0), (oa (a 11) cI 201 mn), (oa (a 12) cI 8040 cx), (oa (a 13) cI 8040 cy), (oa (a 32) cI 8 S1)]) [0, 1, 2, 3, 4] rfl
        have hD9 := hD.sub (ws' := [(om k0 a I0 J0), (oa (a 11) cI 201 mn), (oa (a 12) cI 8040 cx), (oa (a 13) cI 8040 cy), (oa (a 32) cI 8 S1)]) [0, 1, 2, 3, 4] (by decide) rfl
        rw [hQ9]
        exact W.zret (ty := .boolean) (v := 1) hx hb hr (rfl) (fun t ht hW => ⟨⟨congrArg (fun z => Outcome.returned (some (Value.int z))) (show (1 : Int32) = pI (∀ k, k < n → eRt n (cF40 cx f) (cF40 cy f) k) from (zp_t (fun k hk => by have h9 := hall (prv n k) (by have := prv_lt (n := n) (i := k) hk; omega); rw [nxt_prv hk] at h9; exact h9)).symm), S1, by rw [ht]; exact hP9, hD9⟩, hS.F ht⟩) hS.2.2 dX11_isSquare_119
      · have c_1 : ((i : Nat) : Int) < ((n : Nat) : Int) := zc_nle (nI_toInt (by omega)) (nI_toInt (by omega)) c_1
        have hi9 : i < n := (by omega)
        have hnx := nxt_lt (n := n) (i := i) (by omega)
        have hnk := nxt_lt (n := n) (i := nxt n i) (by omega)
        refine lv_aload_n hx hb dX11_isSquare_12 rfl (lv_at hl 1 rfl) ?_
        refine lv_iload_n hx hb dX11_isSquare_13 rfl (lv_at hl 2 rfl) ?_
        refine lv_iload_n hx hb dX11_isSquare_14 rfl (lv_at hl 0 rfl) ?_
        refine lv_iconst (v := 0) hx hb dX11_isSquare_15 (by decide) ?_
        have hPc := hP.sub (ws' := [(om k0 a I0 J0), (oa (a 11) cI 201 mn), (oa (a 12) cI 8040 cx), (oa (a 13) cI 8040 cy), (oa (a 32) cI 8 S1)]) [0, 1, 2, 3, 4] rfl
        have hDc := hD.sub (ws' := [(om k0 a I0 J0), (oa (a 11) cI 201 mn), (oa (a 12) cI 8040 cx), (oa (a 13) cI 8040 cy), (oa (a 32) cI 8 S1)]) [0, 1, 2, 3, 4] (by decide) rfl
        have hFc := va_free (wc := [(om k0 a I0 J0), (oa (a 11) cI 201 mn), (oa (a 12) cI 8040 cx), (oa (a 13) cI 8040 cy), (oa (a 32) cI 8 S1)]) hD hS hA [0, 1, 2, 3, 4] rfl
        refine zcall (st1 := []) (va_runV (As := [.int (nI f), .int (nI i), .int 0]) (rest := []) ⟨hx, hb, hml, hown, hts⟩ (k_M_edge l dC dI cI cZ cF H.size k0 a I0 J0 f n i 0 mn cx cy S1 (by omega) (by assumption) (by omega) (by omega) (by omega)) (cwV 3 hts (zz_gV mw_1373 mw_1375 mw_42 mw_110 mc_yX11_edge) rfl rfl rfl (by decide +kernel) ⟨Nat.le_of_ble_eq_true rfl, Nat.le_of_ble_eq_true rfl⟩) (zPV2 (q0 := 0) (ci := 9) hPc hDc hK hXN rfl rfl) rfl rfl hl.1 rfl (lv_room (Nat.le_of_ble_eq_true rfl)) dX11_isSquare_16 ⟨Nat.le_of_ble_eq_true rfl, Nat.le_of_ble_eq_true rfl⟩) hS hFc hFc rfl (fun t H1 locs ht hB hk1 hS => ?_)
        obtain ⟨S2, t0, t1, t2, t3, tr, hP1, hD1⟩ := hB
        rw [ht] at hP1
        obtain ⟨hP, hD⟩ := va_join (wr := []) (w1 := [(om k0 a I0 J0), (oa (a 11) cI 201 mn), (oa (a 12) cI 8040 cx), (oa (a 13) cI 8040 cy), (oa (a 32) cI 8 S2)]) hP hD [0, 1, 2, 3, 4] [] rfl rfl (by decide) (by decide) hk1 hFc hP1 hD1
        clear hk1 hPc hDc hFc hP1 hD1 ht
        generalize H1 = H at hP hS ⊢
        have hP : va_P (dC, dI) classes [(om k0 a I0 J0), (oa (a 11) cI 201 mn), (oa (a 12) cI 8040 cx), (oa (a 13) cI 8040 cy), (oa (a 32) cI 8 S2)] H := hP
        have hD : va_D A [(om k0 a I0 J0), (oa (a 11) cI 201 mn), (oa (a 12) cI 8040 cx), (oa (a 13) cI 8040 cy), (oa (a 32) cI 8 S2)] := hD
        refine lv_aload_n hx hb dX11_isSquare_19 rfl (lv_at hl 1 rfl) ?_
        refine lv_iload_n hx hb dX11_isSquare_20 rfl (lv_at hl 2 rfl) ?_
        refine lv_iload_n hx hb dX11_isSquare_21 rfl (lv_at hl 0 rfl) ?_
        refine lv_iconst (v := 1) hx hb dX11_isSquare_22 (by decide) ?_
        refine lv_iadd hx hb dX11_isSquare_23 ?_
        refine zz_i (v := nI (i + 1)) (nI_add i 1) ?_
        refine lv_aload_n hx hb dX11_isSquare_24 rfl (lv_at hl 1 rfl) ?_
        refine va_get (D := (dC, dI)) (ci := 9) (v := .ref (a 11)) (C := RX11) (T := TX11) (N := 55) hx hb hts inX11 hown hK hP 0 rfl rfl 11 (by decide) (hts _ mw_1170) (fun _ h9 => h9) rfl dX11_isSquare_25 ?_
        refine lv_iload_n hx hb dX11_isSquare_28 rfl (lv_at hl 2 rfl) ?_
        refine z_iald hx hb hK hP 1 0 rfl rfl (e := f) rfl (by omega) (by omega) dX11_isSquare_29 ?_
        refine zz_i (v := nI n) (hm_f) ?_
        have hj_2 : W p l e ((headSpec (.code yX11_isSquare cX11_isSquare 3 (some .boolean) :: ws0) ({ frames := 1, cells := 0, slots := 0, locals := 25 } : Room)).room) s m ([.ref k0, .int (nI f)] : List Value).toArray below meth c H locs 0 0 Q9 (F0 m 40 ls [.int (nI (nxt n i)), .int (nI f), .ref k0]) := by
          refine lv_iconst (v := 4) hx hb dX11_isSquare_40 (by decide) ?_
          have hPc := hP.sub (ws' := [(om k0 a I0 J0), (oa (a 11) cI 201 mn), (oa (a 12) cI 8040 cx), (oa (a 13) cI 8040 cy), (oa (a 32) cI 8 S2)]) [0, 1, 2, 3, 4] rfl
          have hDc := hD.sub (ws' := [(om k0 a I0 J0), (oa (a 11) cI 201 mn), (oa (a 12) cI 8040 cx), (oa (a 13) cI 8040 cy), (oa (a 32) cI 8 S2)]) [0, 1, 2, 3, 4] (by decide) rfl
          have hFc := va_free (wc := [(om k0 a I0 J0), (oa (a 11) cI 201 mn), (oa (a 12) cI 8040 cx), (oa (a 13) cI 8040 cy), (oa (a 32) cI 8 S2)]) hD hS hA [0, 1, 2, 3, 4] rfl
          refine zcall (st1 := []) (va_runV (As := [.int (nI f), .int (nI (nxt n i)), .int 4]) (rest := []) ⟨hx, hb, hml, hown, hts⟩ (k_M_edge l dC dI cI cZ cF H.size k0 a I0 J0 f n (nxt n i) 4 mn cx cy S2 (by omega) (by assumption) (by omega) (by omega) (by omega)) (cwV 3 hts (zz_gV mw_1373 mw_1375 mw_42 mw_110 mc_yX11_edge) rfl rfl rfl (by decide +kernel) ⟨Nat.le_of_ble_eq_true rfl, Nat.le_of_ble_eq_true rfl⟩) (zPV2 (q0 := 0) (ci := 9) hPc hDc hK hXN rfl rfl) rfl rfl hl.1 rfl (lv_room (Nat.le_of_ble_eq_true rfl)) dX11_isSquare_41 ⟨Nat.le_of_ble_eq_true rfl, Nat.le_of_ble_eq_true rfl⟩) hS hFc hFc rfl (fun t H1 locs ht hB hk1 hS => ?_)
          obtain ⟨S3, u0, u1, u2, u3, ur, hP1, hD1⟩ := hB
          rw [ht] at hP1
          obtain ⟨hP, hD⟩ := va_join (wr := []) (w1 := [(om k0 a I0 J0), (oa (a 11) cI 201 mn), (oa (a 12) cI 8040 cx), (oa (a 13) cI 8040 cy), (oa (a 32) cI 8 S3)]) hP hD [0, 1, 2, 3, 4] [] rfl rfl (by decide) (by decide) hk1 hFc hP1 hD1
          clear hk1 hPc hDc hFc hP1 hD1 ht
          generalize H1 = H at hP hS ⊢
          have hP : va_P (dC, dI) classes [(om k0 a I0 J0), (oa (a 11) cI 201 mn), (oa (a 12) cI 8040 cx), (oa (a 13) cI 8040 cy), (oa (a 32) cI 8 S3)] H := hP
          have hD : va_D A [(om k0 a I0 J0), (oa (a 11) cI 201 mn), (oa (a 12) cI 8040 cx), (oa (a 13) cI 8040 cy), (oa (a 32) cI 8 S3)] := hD
          have v0 : S3 0 = cF40 cx f i := (ur 0 (by omega)).trans t0
          have v1 : S3 1 = cF40 cy f i := (ur 1 (by omega)).trans t1
          have v2 : S3 2 = cF40 cx f (nxt n i) := (ur 2 (by omega)).trans t2
          have v3 : S3 3 = cF40 cy f (nxt n i) := (ur 3 (by omega)).trans t3
          have v4 : S3 4 = cF40 cx f (nxt n i) := u0
          have v5 : S3 5 = cF40 cy f (nxt n i) := u1
          have v6 : S3 6 = cF40 cx f (nxt n (nxt n i)) := u2
          have v7 : S3 7 = cF40 cy f (nxt n (nxt n i)) := u3
          refine lv_aload_n hx hb dX11_isSquare_44 rfl (lv_at hl 1 rfl) ?_
          refine va_get (D := (dC, dI)) (ci := 9) (v := .ref (a 32)) (C := RX11) (T := TX11) (N := 55) hx hb hts inX11 hown hK hP 0 rfl rfl 32 (by decide) (hts _ mw_1191) (fun _ h9 => h9) rfl dX11_isSquare_45 ?_
          refine lv_iconst (v := 2) hx hb dX11_isSquare_48 (by decide) ?_
          refine z_iald hx hb hK hP 4 0 rfl rfl (e := 2) rfl (by omega) (by omega) dX11_isSquare_49 ?_
          refine zz_i (v := cF40 cx f (nxt n i)) (v2) ?_
          refine lv_aload_n hx hb dX11_isSquare_50 rfl (lv_at hl 1 rfl) ?_
          refine va_get (D := (dC, dI)) (ci := 9) (v := .ref (a 32)) (C := RX11) (T := TX11) (N := 55) hx hb hts inX11 hown hK hP 0 rfl rfl 32 (by decide) (hts _ mw_1191) (fun _ h9 => h9) rfl dX11_isSquare_51 ?_
          refine lv_iconst (v := 0) hx hb dX11_isSquare_54 (by decide) ?_
          refine z_iald hx hb hK hP 4 0 rfl rfl (e := 0) rfl (by omega) (by omega) dX11_isSquare_55 ?_
          refine zz_i (v := cF40 cx f i) (v0) ?_
          refine lv_isub hx hb dX11_isSquare_56 ?_
          refine lv_i2l (v := ((cF40 cx f (nxt n i)) - (cF40 cx f i)).toInt64) hx hb dX11_isSquare_57 (rfl) ?_
          refine lv_aload_n hx hb dX11_isSquare_58 rfl (lv_at hl 1 rfl) ?_
          refine va_get (D := (dC, dI)) (ci := 9) (v := .ref (a 32)) (C := RX11) (T := TX11) (N := 55) hx hb hts inX11 hown hK hP 0 rfl rfl 32 (by decide) (hts _ mw_1191) (fun _ h9 => h9) rfl dX11_isSquare_59 ?_
          refine lv_bipush (v := 6) hx hb dX11_isSquare_62 (by decide) ?_
          refine z_iald hx hb hK hP 4 0 rfl rfl (e := 6) rfl (by omega) (by omega) dX11_isSquare_64 ?_
          refine zz_i (v := cF40 cx f (nxt n (nxt n i))) (v6) ?_
          refine lv_aload_n hx hb dX11_isSquare_65 rfl (lv_at hl 1 rfl) ?_
          refine va_get (D := (dC, dI)) (ci := 9) (v := .ref (a 32)) (C := RX11) (T := TX11) (N := 55) hx hb hts inX11 hown hK hP 0 rfl rfl 32 (by decide) (hts _ mw_1191) (fun _ h9 => h9) rfl dX11_isSquare_66 ?_
          refine lv_iconst (v := 4) hx hb dX11_isSquare_69 (by decide) ?_
          refine z_iald hx hb hK hP 4 0 rfl rfl (e := 4) rfl (by omega) (by omega) dX11_isSquare_70 ?_
          refine zz_i (v := cF40 cx f (nxt n i)) (v4) ?_
          refine lv_isub hx hb dX11_isSquare_71 ?_
          refine lv_i2l (v := ((cF40 cx f (nxt n (nxt n i))) - (cF40 cx f (nxt n i))).toInt64) hx hb dX11_isSquare_72 (rfl) ?_
          refine lv_lmul hx hb dX11_isSquare_73 ?_
          refine zz_l (v := jI (((cF40 cx f (nxt n i)).toInt - (cF40 cx f i).toInt) * ((cF40 cx f (nxt n (nxt n i))).toInt - (cF40 cx f (nxt n i)).toInt))) (mlL (hp_f _ hnx).1 (hp_f i hi9).1 (hp_f _ hnk).1 (hp_f _ hnx).1) ?_
          have hB2 := mlB (hp_f _ hnx).1 (hp_f i hi9).1 (hp_f _ hnk).1 (hp_f _ hnx).1
          refine lv_aload_n hx hb dX11_isSquare_74 rfl (lv_at hl 1 rfl) ?_
          refine va_get (D := (dC, dI)) (ci := 9) (v := .ref (a 32)) (C := RX11) (T := TX11) (N := 55) hx hb hts inX11 hown hK hP 0 rfl rfl 32 (by decide) (hts _ mw_1191) (fun _ h9 => h9) rfl dX11_isSquare_75 ?_
          refine lv_iconst (v := 3) hx hb dX11_isSquare_78 (by decide) ?_
          refine z_iald hx hb hK hP 4 0 rfl rfl (e := 3) rfl (by omega) (by omega) dX11_isSquare_79 ?_
          refine zz_i (v := cF40 cy f (nxt n i)) (v3) ?_
          refine lv_aload_n hx hb dX11_isSquare_80 rfl (lv_at hl 1 rfl) ?_
          refine va_get (D := (dC, dI)) (ci := 9) (v := .ref (a 32)) (C := RX11) (T := TX11) (N := 55) hx hb hts inX11 hown hK hP 0 rfl rfl 32 (by decide) (hts _ mw_1191) (fun _ h9 => h9) rfl dX11_isSquare_81 ?_
          refine lv_iconst (v := 1) hx hb dX11_isSquare_84 (by decide) ?_
          refine z_iald hx hb hK hP 4 0 rfl rfl (e := 1) rfl (by omega) (by omega) dX11_isSquare_85 ?_
          refine zz_i (v := cF40 cy f i) (v1) ?_
          refine lv_isub hx hb dX11_isSquare_86 ?_
          refine lv_i2l (v := ((cF40 cy f (nxt n i)) - (cF40 cy f i)).toInt64) hx hb dX11_isSquare_87 (rfl) ?_
          refine lv_aload_n hx hb dX11_isSquare_88 rfl (lv_at hl 1 rfl) ?_
          refine va_get (D := (dC, dI)) (ci := 9) (v := .ref (a 32)) (C := RX11) (T := TX11) (N := 55) hx hb hts inX11 hown hK hP 0 rfl rfl 32 (by decide) (hts _ mw_1191) (fun _ h9 => h9) rfl dX11_isSquare_89 ?_
          refine lv_bipush (v := 7) hx hb dX11_isSquare_92 (by decide) ?_
          refine z_iald hx hb hK hP 4 0 rfl rfl (e := 7) rfl (by omega) (by omega) dX11_isSquare_94 ?_
          refine zz_i (v := cF40 cy f (nxt n (nxt n i))) (v7) ?_
          refine lv_aload_n hx hb dX11_isSquare_95 rfl (lv_at hl 1 rfl) ?_
          refine va_get (D := (dC, dI)) (ci := 9) (v := .ref (a 32)) (C := RX11) (T := TX11) (N := 55) hx hb hts inX11 hown hK hP 0 rfl rfl 32 (by decide) (hts _ mw_1191) (fun _ h9 => h9) rfl dX11_isSquare_96 ?_
          refine lv_iconst (v := 5) hx hb dX11_isSquare_99 (by decide) ?_
          refine z_iald hx hb hK hP 4 0 rfl rfl (e := 5) rfl (by omega) (by omega) dX11_isSquare_100 ?_
          refine zz_i (v := cF40 cy f (nxt n i)) (v5) ?_
          refine lv_isub hx hb dX11_isSquare_101 ?_
          refine lv_i2l (v := ((cF40 cy f (nxt n (nxt n i))) - (cF40 cy f (nxt n i))).toInt64) hx hb dX11_isSquare_102 (rfl) ?_
          refine lv_lmul hx hb dX11_isSquare_103 ?_
          refine zz_l (v := jI (((cF40 cy f (nxt n i)).toInt - (cF40 cy f i).toInt) * ((cF40 cy f (nxt n (nxt n i))).toInt - (cF40 cy f (nxt n i)).toInt))) (mlL (hp_f _ hnx).2 (hp_f i hi9).2 (hp_f _ hnk).2 (hp_f _ hnx).2) ?_
          have hB3 := mlB (hp_f _ hnx).2 (hp_f i hi9).2 (hp_f _ hnk).2 (hp_f _ hnx).2
          refine lv_ladd hx hb dX11_isSquare_104 ?_
          refine zz_l (v := jI (((cF40 cx f (nxt n i)).toInt - (cF40 cx f i).toInt) * ((cF40 cx f (nxt n (nxt n i))).toInt - (cF40 cx f (nxt n i)).toInt) + ((cF40 cy f (nxt n i)).toInt - (cF40 cy f i).toInt) * ((cF40 cy f (nxt n (nxt n i))).toInt - (cF40 cy f (nxt n i)).toInt))) (jI_add (by omega) (by omega)) ?_
          refine lv_lconst (v := 0) hx hb dX11_isSquare_105 (by decide) ?_
          refine W.lcmp hx hb dX11_isSquare_106 ?_
          refine lv_if_eq (tgt := 112) hx hb dX11_isSquare_107 (by decide) (fun c_3 => ?_) (fun c_3 => ?_)
          · have c_3 : (((cF40 cx f (nxt n i)).toInt - (cF40 cx f i).toInt) * ((cF40 cx f (nxt n (nxt n i))).toInt - (cF40 cx f (nxt n i)).toInt) + ((cF40 cy f (nxt n i)).toInt - (cF40 cy f i).toInt) * ((cF40 cy f (nxt n (nxt n i))).toInt - (cF40 cy f (nxt n i)).toInt)) = 0 := zl_eq (jI_toInt (by omega)) (by decide) c_3
            refine lv_iinc (v := nI (i + 1)) (lv' := [(2, .int (nI (i + 1))), (0, .ref k0), (1, .int (nI f))]) hx hb dX11_isSquare_112 hl (k := 0) rfl (nI_add i 1) (by decide) rfl (fun ls hl => ?_)
            refine lv_goto (tgt := 2) hx hb dX11_isSquare_115 (by decide) ?_
            exact ih_2 (i + 1) S3 H locs ls (by omega) (by omega) (by intro j hj; rcases Nat.lt_or_ge j i with h | h; exact hall j h; rw [show j = i by omega]; unfold eRt; rw [prv_nxt hi9]; have h9 := dt_neg (cF40 cx f i).toInt (cF40 cy f i).toInt (cF40 cx f (nxt n i)).toInt (cF40 cy f (nxt n i)).toInt (cF40 cx f (nxt n (nxt n i))).toInt (cF40 cy f (nxt n (nxt n i))).toInt; omega) hP hD hS (lv_sub hl [0, 1, 2] rfl)
          · have c_3 : ¬ (((cF40 cx f (nxt n i)).toInt - (cF40 cx f i).toInt) * ((cF40 cx f (nxt n (nxt n i))).toInt - (cF40 cx f (nxt n i)).toInt) + ((cF40 cy f (nxt n i)).toInt - (cF40 cy f i).toInt) * ((cF40 cy f (nxt n (nxt n i))).toInt - (cF40 cy f (nxt n i)).toInt)) = 0 := zl_ne (jI_toInt (by omega)) (by decide) c_3
            refine lv_iconst (v := 0) hx hb dX11_isSquare_110 (by decide) ?_
            have hP9 := hP.sub (ws' := [(om k0 a I0 J0), (oa (a 11) cI 201 mn), (oa (a 12) cI 8040 cx), (oa (a 13) cI 8040 cy), (oa (a 32) cI 8 S3)]) [0, 1, 2, 3, 4] rfl
            have hD9 := hD.sub (ws' := [(om k0 a I0 J0), (oa (a 11) cI 201 mn), (oa (a 12) cI 8040 cx), (oa (a 13) cI 8040 cy), (oa (a 32) cI 8 S3)]) [0, 1, 2, 3, 4] (by decide) rfl
            rw [hQ9]
            exact W.zret (ty := .boolean) (v := 0) hx hb hr (rfl) (fun t ht hW => ⟨⟨congrArg (fun z => Outcome.returned (some (Value.int z))) (show (0 : Int32) = pI (∀ k, k < n → eRt n (cF40 cx f) (cF40 cy f) k) from (zp_f (fun h => by have h8 := h (nxt n i) hnx; unfold eRt at h8; rw [prv_nxt hi9] at h8; have h9 := dt_neg (cF40 cx f i).toInt (cF40 cy f i).toInt (cF40 cx f (nxt n i)).toInt (cF40 cy f (nxt n i)).toInt (cF40 cx f (nxt n (nxt n i))).toInt (cF40 cy f (nxt n (nxt n i))).toInt; omega)).symm), S3, by rw [ht]; exact hP9, hD9⟩, hS.F ht⟩) hS.2.2 dX11_isSquare_111
        refine lv_icmp_ne (tgt := 37) hx hb dX11_isSquare_30 (by decide) (fun c_4 => ?_) (fun c_4 => ?_)
        · have c_4 : ¬ ((i + 1 : Nat) : Int) = ((n : Nat) : Int) := zc_ne (nI_toInt (by omega)) (nI_toInt (by omega)) c_4
          refine lv_iload_n hx hb dX11_isSquare_37 rfl (lv_at hl 0 rfl) ?_
          refine lv_iconst (v := 1) hx hb dX11_isSquare_38 (by decide) ?_
          refine lv_iadd hx hb dX11_isSquare_39 ?_
          refine zz_i (v := nI (i + 1)) (nI_add i 1) ?_
          refine zz_i (v := nI (nxt n i)) (by first | (rw [nxt, if_pos (by omega)]) | (rw [nxt, if_neg (by omega)]; first | done | rfl)) ?_
          exact hj_2 
        · have c_4 : ((i + 1 : Nat) : Int) = ((n : Nat) : Int) := zc_eq (nI_toInt (by omega)) (nI_toInt (by omega)) c_4
          refine lv_iconst (v := 0) hx hb dX11_isSquare_33 (by decide) ?_
          refine lv_goto (tgt := 40) hx hb dX11_isSquare_34 (by decide) ?_
          refine zz_i (v := nI (nxt n i)) (by first | (rw [nxt, if_pos (by omega)]) | (rw [nxt, if_neg (by omega)]; first | done | rfl)) ?_
          exact hj_2 
  exact hl_2 _ 0 S0 s.heap [] ls (Nat.lt_succ_self _) (by omega) (by intro j hj; omega) hP hD hS (lv_sub hl [0, 1, 2] rfl)
