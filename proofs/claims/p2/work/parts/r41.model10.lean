set_option maxHeartbeats 4000000 in
set_option maxRecDepth 100000 in
theorem k_M_isHeld (l : Launch) (dC : Nat → ClassId) (dI : Nat → Nat → Nat) (cI cZ cF : ClassId) (sz : Nat) (k0 : Nat) (a : Nat → Nat) (I0 : Nat → Int32) (J0 : Nat → Int64) (f : Nat) (ft : Nat) (st : Nat → Int32) (tn : Nat → Int32) (kd : Nat → Int32) (mn : Nat → Int32) (cx : Nat → Int32) (cy : Nat → Int32) (S0 : Nat → Int32) (px : Int32) (py : Int32) (hft : I0 0 = nI ft) (h200 : ft ≤ 200) (hwf : ∀ q, q < ft ∧ (st q).toInt = 1 ∧ (tn q).toInt = 0 → wfM mn cx cy q) (hf_f : f ≤ 200) (hpx : pl px) (hpy : pl py) : Met l yX11_isHeld (.code yX11_isHeld cX11_isHeld 5 (some .boolean) :: ws0) ({ frames := 3, cells := 0, slots := 0, locals := 80 } : Room) (va_Pc [.ref k0, .int (nI f), .int px, .int py] (zPre (dC, dI) classes (zTy cI cZ cF) [(om k0 a I0 J0), (oa (a 5) cI 201 st), (oa (a 6) cZ 201 tn), (oa (a 1) cI 201 kd), (oa (a 11) cI 201 mn), (oa (a 12) cI 8040 cx), (oa (a 13) cI 8040 cy), (oa (a 32) cI 8 S0)] sz zXN)) (zQ (some (.int (pI (∃ q, (q < ft ∧ (st q).toInt = 1 ∧ (tn q).toInt = 0) ∧ q ≠ f ∧ onF kd mn cx cy q px.toInt py.toInt)))) (fun t => ∃ (S1 : Nat → Int32), va_P (dC, dI) classes [(om k0 a I0 J0), (oa (a 5) cI 201 st), (oa (a 6) cZ 201 tn), (oa (a 1) cI 201 kd), (oa (a 11) cI 201 mn), (oa (a 12) cI 8040 cx), (oa (a 13) cI 8040 cy), (oa (a 32) cI 8 S1)] t.heap ∧ va_D (va_A [(om k0 a I0 J0), (oa (a 5) cI 201 st), (oa (a 6) cZ 201 tn), (oa (a 1) cI 201 kd), (oa (a 11) cI 201 mn), (oa (a 12) cI 8040 cx), (oa (a 13) cI 8040 cy), (oa (a 32) cI 8 S0)] sz) [(om k0 a I0 J0), (oa (a 5) cI 201 st), (oa (a 6) cZ 201 tn), (oa (a 1) cI 201 kd), (oa (a 11) cI 201 mn), (oa (a 12) cI 8040 cx), (oa (a 13) cI 8040 cy), (oa (a 32) cI 8 S1)]) (va_A [(om k0 a I0 J0), (oa (a 5) cI 201 st), (oa (a 6) cZ 201 tn), (oa (a 1) cI 201 kd), (oa (a 11) cI 201 mn), (oa (a 12) cI 8040 cx), (oa (a 13) cI 8040 cy), (oa (a 32) cI 8 S0)] sz)) 0 0 (va_A [(om k0 a I0 J0), (oa (a 5) cI 201 st), (oa (a 6) cZ 201 tn), (oa (a 1) cI 201 kd), (oa (a 11) cI 201 mn), (oa (a 12) cI 8040 cx), (oa (a 13) cI 8040 cy), (oa (a 32) cI 8 S0)] sz) := by
  refine Met.ofW (cc := cX11_isHeld) (maxL := 5) (ret := (some .boolean)) (by decide) rfl ?_
  intro p e s m args below meth c s₁ B hml hv
  obtain ⟨rfl, hsz, hP, hK, hD0, hXN⟩ := hv
  have hx := B.exec
  have hb := B.bytes
  have hr := B.returns
  have hts0 := atoms_spec (ws := .code yX11_isHeld cX11_isHeld 5 (some .boolean) :: ws0) B.pre
  have hts : ∀ w9 ∈ ws0, w9.before ([.ref k0, .int (nI f), .int px, .int py] : List Value).toArray s = true := fun w9 h => hts0 w9 (List.mem_cons_of_mem _ h)
  have hown : s.vm.findClass "ScaleShopModel" = some m.cls := findClass_of_methodNamed B.named
  have hlocks := B.notSynchronized
  subst hsz
  have hD := hD0.self (sz := s.heap.size)
  clear hD0
  generalize hAe : va_A [(om k0 a I0 J0), (oa (a 5) cI 201 st), (oa (a 6) cZ 201 tn), (oa (a 1) cI 201 kd), (oa (a 11) cI 201 mn), (oa (a 12) cI 8040 cx), (oa (a 13) cI 8040 cy), (oa (a 32) cI 8 S0)] s.heap.size = A at hD ⊢
  have hA : ∀ q : Nat, s.heap.size ≤ q → A q := fun q h => by rw [← hAe]; exact Or.inr h
  clear hAe
  have hS : va_S A s.heap s.heap [] := va_S.rf
  have hP : va_P (dC, dI) classes [(om k0 a I0 J0), (oa (a 5) cI 201 st), (oa (a 6) cZ 201 tn), (oa (a 1) cI 201 kd), (oa (a 11) cI 201 mn), (oa (a 12) cI 8040 cx), (oa (a 13) cI 8040 cy), (oa (a 32) cI 8 S0)] s.heap := hP
  obtain ⟨Q9, hQ9⟩ : ∃ Q9 : State → Prop, Q9 = MQ below (zQ (some (.int (pI (∃ q, (q < ft ∧ (st q).toInt = 1 ∧ (tn q).toInt = 0) ∧ q ≠ f ∧ onF kd mn cx cy q px.toInt py.toInt)))) (fun t => ∃ (S1 : Nat → Int32), va_P (dC, dI) classes [(om k0 a I0 J0), (oa (a 5) cI 201 st), (oa (a 6) cZ 201 tn), (oa (a 1) cI 201 kd), (oa (a 11) cI 201 mn), (oa (a 12) cI 8040 cx), (oa (a 13) cI 8040 cy), (oa (a 32) cI 8 S1)] t.heap ∧ va_D A [(om k0 a I0 J0), (oa (a 5) cI 201 st), (oa (a 6) cZ 201 tn), (oa (a 1) cI 201 kd), (oa (a 11) cI 201 mn), (oa (a 12) cI 8040 cx), (oa (a 13) cI 8040 cy), (oa (a 32) cI 8 S1)]) A) ([.ref k0, .int (nI f), .int px, .int py] : List Value).toArray s 0 0 A := ⟨_, rfl⟩
  rw [← hQ9]
  have hl := lv_entry ([.ref k0, .int (nI f), .int px, .int py]) (n := 5) (Nat.le_of_ble_eq_true rfl)
  rw [lg_entry_eq]
  generalize (lg_sl ([.ref k0, .int (nI f), .int px, .int py]) ++ List.replicate (5 - (lg_sl ([.ref k0, .int (nI f), .int px, .int py])).length) Slot.unset).toArray = ls at hl ⊢
  have hl : lv_has ls 5 [(0, .ref k0), (1, .int (nI f)), (2, .int px), (3, .int py)] := hl
  refine lv_iconst (v := 0) hx hb dX11_isHeld_0 (by decide) ?_
  refine lv_istore (lv' := [(4, .int 0), (0, .ref k0), (1, .int (nI f)), (2, .int px), (3, .int py)]) hx hb dX11_isHeld_1 hl (by decide) rfl (fun ls hl => ?_)
  have hl_3 : ∀ (n9 : Nat) (q : Nat) (S1 : Nat → Int32) (H : Heap) (locs : List Loc) (ls : Array Slot), ft - q < n9 → (q ≤ ft) → (∀ j, j < q → (j < ft ∧ (st j).toInt = 1 ∧ (tn j).toInt = 0) → j ≠ f → ¬ onF kd mn cx cy j px.toInt py.toInt) → va_P (dC, dI) classes [(om k0 a I0 J0), (oa (a 5) cI 201 st), (oa (a 6) cZ 201 tn), (oa (a 1) cI 201 kd), (oa (a 11) cI 201 mn), (oa (a 12) cI 8040 cx), (oa (a 13) cI 8040 cy), (oa (a 32) cI 8 S1)] H → va_D A [(om k0 a I0 J0), (oa (a 5) cI 201 st), (oa (a 6) cZ 201 tn), (oa (a 1) cI 201 kd), (oa (a 11) cI 201 mn), (oa (a 12) cI 8040 cx), (oa (a 13) cI 8040 cy), (oa (a 32) cI 8 S1)] → va_S A s.heap H locs → lv_has ls 5 [(4, .int (nI q)), (0, .ref k0), (1, .int (nI f)), (2, .int px), (3, .int py)] → W p l e ((headSpec (.code yX11_isHeld cX11_isHeld 5 (some .boolean) :: ws0) ({ frames := 3, cells := 0, slots := 0, locals := 80 } : Room)).room) s m ([.ref k0, .int (nI f), .int px, .int py] : List Value).toArray below meth c H locs 0 0 Q9 (F0 m 3 ls []) := by
    intro n9
    induction n9 with
    | zero => intro q S1 H locs ls hm; exact absurd hm (Nat.not_lt_zero _)
    | succ n9 ih_3 =>
      intro q S1 H locs ls hm hq hno hP hD hS hl
      refine lv_iload hx hb dX11_isHeld_3 (lv_at hl 0 rfl) ?_
      refine lv_aload_n hx hb dX11_isHeld_5 rfl (lv_at hl 1 rfl) ?_
      refine va_get (D := (dC, dI)) (ci := 9) (v := .int (I0 0)) (C := RX11) (T := TX11) (N := 55) hx hb hts inX11 hown hK hP 0 rfl rfl 0 (by decide) (hts _ mw_1159) (fun _ h9 => h9) rfl dX11_isHeld_6 ?_
      refine zz_i (v := nI ft) (hft) ?_
      refine lv_icmp_ge (tgt := 46) hx hb dX11_isHeld_9 (by decide) (fun c_1 => ?_) (fun c_1 => ?_)
      · have c_1 : ((ft : Nat) : Int) ≤ ((q : Nat) : Int) := zc_le (nI_toInt (by omega)) (nI_toInt (by omega)) c_1
        refine lv_iconst (v := 0) hx hb dX11_isHeld_46 (by decide) ?_
        have hP9 := hP.sub (ws' := [(om k0 a I0 J0), (oa (a 5) cI 201 st), (oa (a 6) cZ 201 tn), (oa (a 1) cI 201 kd), (oa (a 11) cI 201 mn), (oa (a 12) cI 8040 cx), (oa (a 13) cI 8040 cy), (oa (a 32) cI 8 S1)]) [0, 1, 2, 3, 4, 5, 6, 7] rfl
        have hD9 := hD.sub (ws' := [(om k0 a I0 J0), (oa (a 5) cI 201 st), (oa (a 6) cZ 201 tn), (oa (a 1) cI 201 kd), (oa (a 11) cI 201 mn), (oa (a 12) cI 8040 cx), (oa (a 13) cI 8040 cy), (oa (a 32) cI 8 S1)]) [0, 1, 2, 3, 4, 5, 6, 7] (by decide) rfl
        rw [hQ9]
        exact W.zret (ty := .boolean) (v := 0) hx hb hr (rfl) (fun t ht hW => ⟨⟨congrArg (fun z => Outcome.returned (some (Value.int z))) (show (0 : Int32) = pI (∃ q, (q < ft ∧ (st q).toInt = 1 ∧ (tn q).toInt = 0) ∧ q ≠ f ∧ onF kd mn cx cy q px.toInt py.toInt) from (zp_f (fun ⟨j, h1, h2, h3⟩ => hno j (by omega) h1 h2 h3)).symm), S1, by rw [ht]; exact hP9, hD9⟩, hS.F ht⟩) hS.2.2 dX11_isHeld_47
      · have c_1 : ((q : Nat) : Int) < ((ft : Nat) : Int) := zc_nle (nI_toInt (by omega)) (nI_toInt (by omega)) c_1
        refine lv_iload hx hb dX11_isHeld_12 (lv_at hl 0 rfl) ?_
        refine lv_iload_n hx hb dX11_isHeld_14 rfl (lv_at hl 2 rfl) ?_
        refine lv_icmp_eq (tgt := 40) hx hb dX11_isHeld_15 (by decide) (fun c_2 => ?_) (fun c_2 => ?_)
        · have c_2 : ((q : Nat) : Int) = ((f : Nat) : Int) := zc_eq (nI_toInt (by omega)) (nI_toInt (by omega)) c_2
          refine lv_iinc (v := nI (q + 1)) (lv' := [(4, .int (nI (q + 1))), (0, .ref k0), (1, .int (nI f)), (2, .int px), (3, .int py)]) hx hb dX11_isHeld_40 hl (k := 0) rfl (nI_add q 1) (by decide) rfl (fun ls hl => ?_)
          refine lv_goto (tgt := 3) hx hb dX11_isHeld_43 (by decide) ?_
          exact ih_3 (q + 1) S1 H locs ls (by omega) (by omega) (by intro j hj h1 h2; rcases Nat.lt_or_ge j q with h | h; exact hno j h h1 h2; obtain rfl : j = q := (by omega); first | (exfalso; omega) | exact absurd h1 (by assumption) | assumption) hP hD hS (lv_sub hl [0, 1, 2, 3, 4] rfl)
        · have c_2 : ¬ ((q : Nat) : Int) = ((f : Nat) : Int) := zc_ne (nI_toInt (by omega)) (nI_toInt (by omega)) c_2
          refine lv_aload_n hx hb dX11_isHeld_18 rfl (lv_at hl 1 rfl) ?_
          refine lv_iload hx hb dX11_isHeld_19 (lv_at hl 0 rfl) ?_
          have hPc := hP.sub (ws' := [(om k0 a I0 J0), (oa (a 5) cI 201 st), (oa (a 6) cZ 201 tn)]) [0, 1, 2] rfl
          have hDc := hD.sub (ws' := [(om k0 a I0 J0), (oa (a 5) cI 201 st), (oa (a 6) cZ 201 tn)]) [0, 1, 2] (by decide) rfl
          have hFc := va_free (wc := [(om k0 a I0 J0), (oa (a 5) cI 201 st), (oa (a 6) cZ 201 tn)]) hD hS hA [0, 1, 2] rfl
          refine zcall (st1 := [.int (pI (q < ft ∧ (st q).toInt = 1 ∧ (tn q).toInt = 0))]) (va_runV (As := [.int (nI q)]) (rest := []) ⟨hx, hb, hml, hown, hts⟩ (k_M_is_n l dC dI cI cZ cF H.size k0 a I0 J0 q ft st tn (by assumption) (by omega) (by omega)) (cwV 1 hts (zz_gV mw_1447 mw_1449 mw_56 mw_110 mc_yX11_is) rfl rfl rfl (by decide +kernel) ⟨Nat.le_of_ble_eq_true rfl, Nat.le_of_ble_eq_true rfl⟩) (zPV2 (q0 := 0) (ci := 9) hPc hDc hK hXN rfl rfl) rfl rfl hl.1 rfl (lv_room (Nat.le_of_ble_eq_true rfl)) dX11_isHeld_21 ⟨Nat.le_of_ble_eq_true rfl, Nat.le_of_ble_eq_true rfl⟩) hS hFc hFc rfl (fun t H1 locs ht hB hk1 hS => ?_)
          obtain ⟨hP1, hD1⟩ := hB
          rw [ht] at hP1
          obtain ⟨hP, hD⟩ := va_join (wr := [(oa (a 1) cI 201 kd), (oa (a 11) cI 201 mn), (oa (a 12) cI 8040 cx), (oa (a 13) cI 8040 cy), (oa (a 32) cI 8 S1)]) (w1 := [(om k0 a I0 J0), (oa (a 5) cI 201 st), (oa (a 6) cZ 201 tn)]) hP hD [0, 1, 2] [3, 4, 5, 6, 7] rfl rfl (by decide) (by decide) hk1 hFc hP1 hD1
          clear hk1 hPc hDc hFc hP1 hD1 ht
          generalize H1 = H at hP hS ⊢
          have hP := hP.sub (ws' := [(om k0 a I0 J0), (oa (a 5) cI 201 st), (oa (a 6) cZ 201 tn), (oa (a 1) cI 201 kd), (oa (a 11) cI 201 mn), (oa (a 12) cI 8040 cx), (oa (a 13) cI 8040 cy), (oa (a 32) cI 8 S1)]) [5, 6, 7, 0, 1, 2, 3, 4] rfl
          have hD := hD.sub (ws' := [(om k0 a I0 J0), (oa (a 5) cI 201 st), (oa (a 6) cZ 201 tn), (oa (a 1) cI 201 kd), (oa (a 11) cI 201 mn), (oa (a 12) cI 8040 cx), (oa (a 13) cI 8040 cy), (oa (a 32) cI 8 S1)]) [5, 6, 7, 0, 1, 2, 3, 4] (by decide) rfl
          have hP : va_P (dC, dI) classes [(om k0 a I0 J0), (oa (a 5) cI 201 st), (oa (a 6) cZ 201 tn), (oa (a 1) cI 201 kd), (oa (a 11) cI 201 mn), (oa (a 12) cI 8040 cx), (oa (a 13) cI 8040 cy), (oa (a 32) cI 8 S1)] H := hP
          have hD : va_D A [(om k0 a I0 J0), (oa (a 5) cI 201 st), (oa (a 6) cZ 201 tn), (oa (a 1) cI 201 kd), (oa (a 11) cI 201 mn), (oa (a 12) cI 8040 cx), (oa (a 13) cI 8040 cy), (oa (a 32) cI 8 S1)] := hD
          refine lv_if_eq (tgt := 40) hx hb dX11_isHeld_24 (by decide) (fun c_3 => ?_) (fun c_3 => ?_)
          · have c_3 : ¬ (q < ft ∧ (st q).toInt = 1 ∧ (tn q).toInt = 0) := zp_0 c_3
            refine lv_iinc (v := nI (q + 1)) (lv' := [(4, .int (nI (q + 1))), (0, .ref k0), (1, .int (nI f)), (2, .int px), (3, .int py)]) hx hb dX11_isHeld_40 hl (k := 0) rfl (nI_add q 1) (by decide) rfl (fun ls hl => ?_)
            refine lv_goto (tgt := 3) hx hb dX11_isHeld_43 (by decide) ?_
            exact ih_3 (q + 1) S1 H locs ls (by omega) (by omega) (by intro j hj h1 h2; rcases Nat.lt_or_ge j q with h | h; exact hno j h h1 h2; obtain rfl : j = q := (by omega); first | (exfalso; omega) | exact absurd h1 (by assumption) | assumption) hP hD hS (lv_sub hl [0, 1, 2, 3, 4] rfl)
          · have c_3 : q < ft ∧ (st q).toInt = 1 ∧ (tn q).toInt = 0 := zp_1 c_3
            have hw9 := hwf q (by assumption)
            have hm9 := hw9.1
            have hn9 := hw9.2.1
            have hp9 := hw9.2.2
            refine lv_aload_n hx hb dX11_isHeld_27 rfl (lv_at hl 1 rfl) ?_
            refine lv_iload hx hb dX11_isHeld_28 (lv_at hl 0 rfl) ?_
            refine lv_iload_n hx hb dX11_isHeld_30 rfl (lv_at hl 3 rfl) ?_
            refine lv_iload_n hx hb dX11_isHeld_31 rfl (lv_at hl 4 rfl) ?_
            have hPc := hP.sub (ws' := [(om k0 a I0 J0), (oa (a 1) cI 201 kd), (oa (a 11) cI 201 mn), (oa (a 12) cI 8040 cx), (oa (a 13) cI 8040 cy), (oa (a 32) cI 8 S1)]) [0, 3, 4, 5, 6, 7] rfl
            have hDc := hD.sub (ws' := [(om k0 a I0 J0), (oa (a 1) cI 201 kd), (oa (a 11) cI 201 mn), (oa (a 12) cI 8040 cx), (oa (a 13) cI 8040 cy), (oa (a 32) cI 8 S1)]) [0, 3, 4, 5, 6, 7] (by decide) rfl
            have hFc := va_free (wc := [(om k0 a I0 J0), (oa (a 1) cI 201 kd), (oa (a 11) cI 201 mn), (oa (a 12) cI 8040 cx), (oa (a 13) cI 8040 cy), (oa (a 32) cI 8 S1)]) hD hS hA [0, 3, 4, 5, 6, 7] rfl
            refine zcall (st1 := [.int (pI (∃ i, i < eO (kd q).toInt (nN (mn q)) ∧ eOn (nN (mn q)) (cF40 cx q) (cF40 cy q) i px.toInt py.toInt))]) (va_runV (As := [.int (nI q), .int px, .int py]) (rest := []) ⟨hx, hb, hml, hown, hts⟩ (k_M_isOnSet l dC dI cI cZ cF H.size k0 a I0 J0 q (nN (mn q)) kd mn cx cy S1 px py (by omega) (by assumption) (by omega) (by assumption) (by assumption) (by assumption)) (cwV 3 hts (zz_gV mw_1451 mw_1453 mw_57 mw_110 mc_yX11_isOnSet) rfl rfl rfl (by decide +kernel) ⟨Nat.le_of_ble_eq_true rfl, Nat.le_of_ble_eq_true rfl⟩) (zPV2 (q0 := 0) (ci := 9) hPc hDc hK hXN rfl rfl) rfl rfl hl.1 rfl (lv_room (Nat.le_of_ble_eq_true rfl)) dX11_isHeld_32 ⟨Nat.le_of_ble_eq_true rfl, Nat.le_of_ble_eq_true rfl⟩) hS hFc hFc rfl (fun t H1 locs ht hB hk1 hS => ?_)
            obtain ⟨q_4, hP1, hD1⟩ := hB
            rw [ht] at hP1
            obtain ⟨hP, hD⟩ := va_join (wr := [(oa (a 5) cI 201 st), (oa (a 6) cZ 201 tn)]) (w1 := [(om k0 a I0 J0), (oa (a 1) cI 201 kd), (oa (a 11) cI 201 mn), (oa (a 12) cI 8040 cx), (oa (a 13) cI 8040 cy), (oa (a 32) cI 8 q_4)]) hP hD [0, 3, 4, 5, 6, 7] [1, 2] rfl rfl (by decide) (by decide) hk1 hFc hP1 hD1
            clear hk1 hPc hDc hFc hP1 hD1 ht
            generalize H1 = H at hP hS ⊢
            have hP := hP.sub (ws' := [(om k0 a I0 J0), (oa (a 5) cI 201 st), (oa (a 6) cZ 201 tn), (oa (a 1) cI 201 kd), (oa (a 11) cI 201 mn), (oa (a 12) cI 8040 cx), (oa (a 13) cI 8040 cy), (oa (a 32) cI 8 q_4)]) [2, 0, 1, 3, 4, 5, 6, 7] rfl
            have hD := hD.sub (ws' := [(om k0 a I0 J0), (oa (a 5) cI 201 st), (oa (a 6) cZ 201 tn), (oa (a 1) cI 201 kd), (oa (a 11) cI 201 mn), (oa (a 12) cI 8040 cx), (oa (a 13) cI 8040 cy), (oa (a 32) cI 8 q_4)]) [2, 0, 1, 3, 4, 5, 6, 7] (by decide) rfl
            have hP : va_P (dC, dI) classes [(om k0 a I0 J0), (oa (a 5) cI 201 st), (oa (a 6) cZ 201 tn), (oa (a 1) cI 201 kd), (oa (a 11) cI 201 mn), (oa (a 12) cI 8040 cx), (oa (a 13) cI 8040 cy), (oa (a 32) cI 8 q_4)] H := hP
            have hD : va_D A [(om k0 a I0 J0), (oa (a 5) cI 201 st), (oa (a 6) cZ 201 tn), (oa (a 1) cI 201 kd), (oa (a 11) cI 201 mn), (oa (a 12) cI 8040 cx), (oa (a 13) cI 8040 cy), (oa (a 32) cI 8 q_4)] := hD
            refine zz_i (v := pI (onF kd mn cx cy q px.toInt py.toInt)) (zp_iff Iff.rfl) ?_
            refine lv_if_eq (tgt := 40) hx hb dX11_isHeld_35 (by decide) (fun c_5 => ?_) (fun c_5 => ?_)
            · have c_5 : ¬ (onF kd mn cx cy q px.toInt py.toInt) := zp_0 c_5
              refine lv_iinc (v := nI (q + 1)) (lv' := [(4, .int (nI (q + 1))), (0, .ref k0), (1, .int (nI f)), (2, .int px), (3, .int py)]) hx hb dX11_isHeld_40 hl (k := 0) rfl (nI_add q 1) (by decide) rfl (fun ls hl => ?_)
              refine lv_goto (tgt := 3) hx hb dX11_isHeld_43 (by decide) ?_
              exact ih_3 (q + 1) q_4 H locs ls (by omega) (by omega) (by intro j hj h1 h2; rcases Nat.lt_or_ge j q with h | h; exact hno j h h1 h2; obtain rfl : j = q := (by omega); first | (exfalso; omega) | exact absurd h1 (by assumption) | assumption) hP hD hS (lv_sub hl [0, 1, 2, 3, 4] rfl)
            · have c_5 : onF kd mn cx cy q px.toInt py.toInt := zp_1 c_5
              refine lv_iconst (v := 1) hx hb dX11_isHeld_38 (by decide) ?_
              have hP9 := hP.sub (ws' := [(om k0 a I0 J0), (oa (a 5) cI 201 st), (oa (a 6) cZ 201 tn), (oa (a 1) cI 201 kd), (oa (a 11) cI 201 mn), (oa (a 12) cI 8040 cx), (oa (a 13) cI 8040 cy), (oa (a 32) cI 8 q_4)]) [0, 1, 2, 3, 4, 5, 6, 7] rfl
              have hD9 := hD.sub (ws' := [(om k0 a I0 J0), (oa (a 5) cI 201 st), (oa (a 6) cZ 201 tn), (oa (a 1) cI 201 kd), (oa (a 11) cI 201 mn), (oa (a 12) cI 8040 cx), (oa (a 13) cI 8040 cy), (oa (a 32) cI 8 q_4)]) [0, 1, 2, 3, 4, 5, 6, 7] (by decide) rfl
              rw [hQ9]
              exact W.zret (ty := .boolean) (v := 1) hx hb hr (rfl) (fun t ht hW => ⟨⟨congrArg (fun z => Outcome.returned (some (Value.int z))) (show (1 : Int32) = pI (∃ q, (q < ft ∧ (st q).toInt = 1 ∧ (tn q).toInt = 0) ∧ q ≠ f ∧ onF kd mn cx cy q px.toInt py.toInt) from (zp_t (⟨q, by assumption, by omega, by assumption⟩)).symm), q_4, by rw [ht]; exact hP9, hD9⟩, hS.F ht⟩) hS.2.2 dX11_isHeld_39
  exact hl_3 _ 0 S0 s.heap [] ls (Nat.lt_succ_self _) (by omega) (by intro j hj; omega) hP hD hS (lv_sub hl [0, 1, 2, 3, 4] rfl)
set_option maxHeartbeats 4000000 in
set_option maxRecDepth 100000 in
theorem k_M_triangle (l : Launch) (dC : Nat → ClassId) (dI : Nat → Nat → Nat) (cI cZ cF : ClassId) (sz : Nat) (k0 : Nat) (a : Nat → Nat) (I0 : Nat → Int32) (J0 : Nat → Int64) (f : Nat) (n : Nat) (k : Nat) (mn : Nat → Int32) (cx : Nat → Int32) (cy : Nat → Int32) (hf_f : f ≤ 200) (hm_f : mn f = nI n) (hn_f : 1 ≤ n ∧ n ≤ 40) (hp_f : pls n (cF40 cx f) (cF40 cy f)) (hk9 : k < n) : Met l yX11_triangle (.code yX11_triangle cX11_triangle 9 (some .long) :: ws0) ({ frames := 1, cells := 0, slots := 0, locals := 31 } : Room) (va_Pc [.ref k0, .int (nI f), .int (nI k)] (zPre (dC, dI) classes (zTy cI cZ cF) [(om k0 a I0 J0), (oa (a 11) cI 201 mn), (oa (a 12) cI 8040 cx), (oa (a 13) cI 8040 cy)] sz zXN)) (zQ (some (.long (jI ((Int.natAbs (cr (cF40 cx f (prv n k)).toInt (cF40 cy f (prv n k)).toInt (cF40 cx f k).toInt (cF40 cy f k).toInt (cF40 cx f (nxt n k)).toInt (cF40 cy f (nxt n k)).toInt) : Nat) : Int)))) (fun t => va_P (dC, dI) classes [(om k0 a I0 J0), (oa (a 11) cI 201 mn), (oa (a 12) cI 8040 cx), (oa (a 13) cI 8040 cy)] t.heap ∧ va_D (va_A [(om k0 a I0 J0), (oa (a 11) cI 201 mn), (oa (a 12) cI 8040 cx), (oa (a 13) cI 8040 cy)] sz) [(om k0 a I0 J0), (oa (a 11) cI 201 mn), (oa (a 12) cI 8040 cx), (oa (a 13) cI 8040 cy)]) (va_A [(om k0 a I0 J0), (oa (a 11) cI 201 mn), (oa (a 12) cI 8040 cx), (oa (a 13) cI 8040 cy)] sz)) 0 0 (va_A [(om k0 a I0 J0), (oa (a 11) cI 201 mn), (oa (a 12) cI 8040 cx), (oa (a 13) cI 8040 cy)] sz) := by
  refine Met.ofW (cc := cX11_triangle) (maxL := 9) (ret := (some .long)) (by decide) rfl ?_
  intro p e s m args below meth c s₁ B hml hv
  obtain ⟨rfl, hsz, hP, hK, hD0, hXN⟩ := hv
  have hx := B.exec
  have hb := B.bytes
  have hr := B.returns
  have hts0 := atoms_spec (ws := .code yX11_triangle cX11_triangle 9 (some .long) :: ws0) B.pre
  have hts : ∀ w9 ∈ ws0, w9.before ([.ref k0, .int (nI f), .int (nI k)] : List Value).toArray s = true := fun w9 h => hts0 w9 (List.mem_cons_of_mem _ h)
  have hown : s.vm.findClass "ScaleShopModel" = some m.cls := findClass_of_methodNamed B.named
  have hlocks := B.notSynchronized
  subst hsz
  have hD := hD0.self (sz := s.heap.size)
  clear hD0
  generalize hAe : va_A [(om k0 a I0 J0), (oa (a 11) cI 201 mn), (oa (a 12) cI 8040 cx), (oa (a 13) cI 8040 cy)] s.heap.size = A at hD ⊢
  have hA : ∀ q : Nat, s.heap.size ≤ q → A q := fun q h => by rw [← hAe]; exact Or.inr h
  clear hAe
  have hS : va_S A s.heap s.heap [] := va_S.rf
  have hP : va_P (dC, dI) classes [(om k0 a I0 J0), (oa (a 11) cI 201 mn), (oa (a 12) cI 8040 cx), (oa (a 13) cI 8040 cy)] s.heap := hP
  obtain ⟨Q9, hQ9⟩ : ∃ Q9 : State → Prop, Q9 = MQ below (zQ (some (.long (jI ((Int.natAbs (cr (cF40 cx f (prv n k)).toInt (cF40 cy f (prv n k)).toInt (cF40 cx f k).toInt (cF40 cy f k).toInt (cF40 cx f (nxt n k)).toInt (cF40 cy f (nxt n k)).toInt) : Nat) : Int)))) (fun t => va_P (dC, dI) classes [(om k0 a I0 J0), (oa (a 11) cI 201 mn), (oa (a 12) cI 8040 cx), (oa (a 13) cI 8040 cy)] t.heap ∧ va_D A [(om k0 a I0 J0), (oa (a 11) cI 201 mn), (oa (a 12) cI 8040 cx), (oa (a 13) cI 8040 cy)]) A) ([.ref k0, .int (nI f), .int (nI k)] : List Value).toArray s 0 0 A := ⟨_, rfl⟩
  rw [← hQ9]
  have hl := lv_entry ([.ref k0, .int (nI f), .int (nI k)]) (n := 9) (Nat.le_of_ble_eq_true rfl)
  rw [lg_entry_eq]
  generalize (lg_sl ([.ref k0, .int (nI f), .int (nI k)]) ++ List.replicate (9 - (lg_sl ([.ref k0, .int (nI f), .int (nI k)])).length) Slot.unset).toArray = ls at hl ⊢
  have hl : lv_has ls 9 [(0, .ref k0), (1, .int (nI f)), (2, .int (nI k))] := hl
  have hpv := prv_lt (n := n) (i := k) (by omega)
  have hnx := nxt_lt (n := n) (i := k) (by omega)
  have hB := crBp (hp_f _ hpv).1 (hp_f _ hpv).2 (hp_f _ hk9).1 (hp_f _ hk9).2 (hp_f _ hnx).1 (hp_f _ hnx).2
  refine lv_aload_n hx hb dX11_triangle_0 rfl (lv_at hl 0 rfl) ?_
  refine va_get (D := (dC, dI)) (ci := 9) (v := .ref (a 11)) (C := RX11) (T := TX11) (N := 55) hx hb hts inX11 hown hK hP 0 rfl rfl 11 (by decide) (hts _ mw_1170) (fun _ h9 => h9) rfl dX11_triangle_1 ?_
  refine lv_iload_n hx hb dX11_triangle_4 rfl (lv_at hl 1 rfl) ?_
  refine z_iald hx hb hK hP 1 0 rfl rfl (e := f) rfl (by omega) (by omega) dX11_triangle_5 ?_
  refine zz_i (v := nI n) (hm_f) ?_
  refine lv_istore_n (lv' := [(3, .int (nI n)), (0, .ref k0), (1, .int (nI f)), (2, .int (nI k))]) hx hb dX11_triangle_6 rfl hl (by decide) rfl (fun ls hl => ?_)
  refine lv_bipush (v := 40) hx hb dX11_triangle_7 (by decide) ?_
  refine lv_iload_n hx hb dX11_triangle_9 rfl (lv_at hl 2 rfl) ?_
  refine lv_imul hx hb dX11_triangle_10 ?_
  refine zz_i (v := nI (40 * f)) (pk_mul 40 f) ?_
  have hj_1 : W p l e ((headSpec (.code yX11_triangle cX11_triangle 9 (some .long) :: ws0) ({ frames := 1, cells := 0, slots := 0, locals := 31 } : Room)).room) s m ([.ref k0, .int (nI f), .int (nI k)] : List Value).toArray below meth c s.heap [] 0 0 Q9 (F0 m 24 ls [.int (nI (prv n k)), .int (nI (40 * f))]) := by
    refine lv_iadd hx hb dX11_triangle_24 ?_
    refine zz_i (v := nI (40 * f + (prv n k))) (nI_add (40 * f) (prv n k)) ?_
    refine lv_istore (lv' := [(4, .int (nI (40 * f + (prv n k)))), (3, .int (nI n)), (0, .ref k0), (1, .int (nI f)), (2, .int (nI k))]) hx hb dX11_triangle_25 hl (by decide) rfl (fun ls hl => ?_)
    refine lv_bipush (v := 40) hx hb dX11_triangle_27 (by decide) ?_
    refine lv_iload_n hx hb dX11_triangle_29 rfl (lv_at hl 3 rfl) ?_
    refine lv_imul hx hb dX11_triangle_30 ?_
    refine zz_i (v := nI (40 * f)) (pk_mul 40 f) ?_
    refine lv_iload_n hx hb dX11_triangle_31 rfl (lv_at hl 4 rfl) ?_
    refine lv_iadd hx hb dX11_triangle_32 ?_
    refine zz_i (v := nI (40 * f + k)) (nI_add (40 * f) k) ?_
    refine lv_istore (lv' := [(5, .int (nI (40 * f + k))), (4, .int (nI (40 * f + (prv n k)))), (3, .int (nI n)), (0, .ref k0), (1, .int (nI f)), (2, .int (nI k))]) hx hb dX11_triangle_33 hl (by decide) rfl (fun ls hl => ?_)
    refine lv_bipush (v := 40) hx hb dX11_triangle_35 (by decide) ?_
    refine lv_iload_n hx hb dX11_triangle_37 rfl (lv_at hl 4 rfl) ?_
    refine lv_imul hx hb dX11_triangle_38 ?_
    refine zz_i (v := nI (40 * f)) (pk_mul 40 f) ?_
    have hj_2 : W p l e ((headSpec (.code yX11_triangle cX11_triangle 9 (some .long) :: ws0) ({ frames := 1, cells := 0, slots := 0, locals := 31 } : Room)).room) s m ([.ref k0, .int (nI f), .int (nI k)] : List Value).toArray below meth c s.heap [] 0 0 Q9 (F0 m 53 ls [.int (nI (nxt n k)), .int (nI (40 * f))]) := by
      refine lv_iadd hx hb dX11_triangle_53 ?_
      refine zz_i (v := nI (40 * f + (nxt n k))) (nI_add (40 * f) (nxt n k)) ?_
      refine lv_istore (lv' := [(6, .int (nI (40 * f + (nxt n k)))), (5, .int (nI (40 * f + k))), (4, .int (nI (40 * f + (prv n k)))), (3, .int (nI n)), (0, .ref k0), (1, .int (nI f)), (2, .int (nI k))]) hx hb dX11_triangle_54 hl (by decide) rfl (fun ls hl => ?_)
      refine lv_aload_n hx hb dX11_triangle_56 rfl (lv_at hl 4 rfl) ?_
      refine va_get (D := (dC, dI)) (ci := 9) (v := .ref (a 12)) (C := RX11) (T := TX11) (N := 55) hx hb hts inX11 hown hK hP 0 rfl rfl 12 (by decide) (hts _ mw_1171) (fun _ h9 => h9) rfl dX11_triangle_57 ?_
      refine lv_iload hx hb dX11_triangle_60 (lv_at hl 2 rfl) ?_
      refine z_iald hx hb hK hP 2 0 rfl rfl (e := 40 * f + (prv n k)) rfl (by omega) (by omega) dX11_triangle_62 ?_
      refine lv_i2l (v := (cx (40 * f + (prv n k))).toInt64) hx hb dX11_triangle_63 (rfl) ?_
      refine lv_aload_n hx hb dX11_triangle_64 rfl (lv_at hl 4 rfl) ?_
      refine va_get (D := (dC, dI)) (ci := 9) (v := .ref (a 13)) (C := RX11) (T := TX11) (N := 55) hx hb hts inX11 hown hK hP 0 rfl rfl 13 (by decide) (hts _ mw_1172) (fun _ h9 => h9) rfl dX11_triangle_65 ?_
      refine lv_iload hx hb dX11_triangle_68 (lv_at hl 2 rfl) ?_
      refine z_iald hx hb hK hP 3 0 rfl rfl (e := 40 * f + (prv n k)) rfl (by omega) (by omega) dX11_triangle_70 ?_
      refine lv_i2l (v := (cy (40 * f + (prv n k))).toInt64) hx hb dX11_triangle_71 (rfl) ?_
      refine lv_aload_n hx hb dX11_triangle_72 rfl (lv_at hl 4 rfl) ?_
      refine va_get (D := (dC, dI)) (ci := 9) (v := .ref (a 12)) (C := RX11) (T := TX11) (N := 55) hx hb hts inX11 hown hK hP 0 rfl rfl 12 (by decide) (hts _ mw_1171) (fun _ h9 => h9) rfl dX11_triangle_73 ?_
      refine lv_iload hx hb dX11_triangle_76 (lv_at hl 1 rfl) ?_
      refine z_iald hx hb hK hP 2 0 rfl rfl (e := 40 * f + k) rfl (by omega) (by omega) dX11_triangle_78 ?_
      refine lv_i2l (v := (cx (40 * f + k)).toInt64) hx hb dX11_triangle_79 (rfl) ?_
      refine lv_aload_n hx hb dX11_triangle_80 rfl (lv_at hl 4 rfl) ?_
      refine va_get (D := (dC, dI)) (ci := 9) (v := .ref (a 13)) (C := RX11) (T := TX11) (N := 55) hx hb hts inX11 hown hK hP 0 rfl rfl 13 (by decide) (hts _ mw_1172) (fun _ h9 => h9) rfl dX11_triangle_81 ?_
      refine lv_iload hx hb dX11_triangle_84 (lv_at hl 1 rfl) ?_
      refine z_iald hx hb hK hP 3 0 rfl rfl (e := 40 * f + k) rfl (by omega) (by omega) dX11_triangle_86 ?_
      refine lv_i2l (v := (cy (40 * f + k)).toInt64) hx hb dX11_triangle_87 (rfl) ?_
      refine lv_aload_n hx hb dX11_triangle_88 rfl (lv_at hl 4 rfl) ?_
      refine va_get (D := (dC, dI)) (ci := 9) (v := .ref (a 12)) (C := RX11) (T := TX11) (N := 55) hx hb hts inX11 hown hK hP 0 rfl rfl 12 (by decide) (hts _ mw_1171) (fun _ h9 => h9) rfl dX11_triangle_89 ?_
      refine lv_iload hx hb dX11_triangle_92 (lv_at hl 0 rfl) ?_
      refine z_iald hx hb hK hP 2 0 rfl rfl (e := 40 * f + (nxt n k)) rfl (by omega) (by omega) dX11_triangle_94 ?_
      refine lv_i2l (v := (cx (40 * f + (nxt n k))).toInt64) hx hb dX11_triangle_95 (rfl) ?_
      refine lv_aload_n hx hb dX11_triangle_96 rfl (lv_at hl 4 rfl) ?_
      refine va_get (D := (dC, dI)) (ci := 9) (v := .ref (a 13)) (C := RX11) (T := TX11) (N := 55) hx hb hts inX11 hown hK hP 0 rfl rfl 13 (by decide) (hts _ mw_1172) (fun _ h9 => h9) rfl dX11_triangle_97 ?_
      refine lv_iload hx hb dX11_triangle_100 (lv_at hl 0 rfl) ?_
      refine z_iald hx hb hK hP 3 0 rfl rfl (e := 40 * f + (nxt n k)) rfl (by omega) (by omega) dX11_triangle_102 ?_
      refine lv_i2l (v := (cy (40 * f + (nxt n k))).toInt64) hx hb dX11_triangle_103 (rfl) ?_
      have hPc := hP.sub (ws' := []) [] rfl
      have hDc := hD.sub (ws' := []) [] (by decide) rfl
      have hFc := va_free (wc := []) hD hS hA [] rfl
      refine zcall (st1 := [.long (jI (cr (cx (40 * f + (prv n k))).toInt (cy (40 * f + (prv n k))).toInt (cx (40 * f + k)).toInt (cy (40 * f + k)).toInt (cx (40 * f + (nxt n k))).toInt (cy (40 * f + (nxt n k))).toInt))]) (va_runS (As := [.long ((cx (40 * f + (prv n k))).toInt64), .long ((cy (40 * f + (prv n k))).toInt64), .long ((cx (40 * f + k)).toInt64), .long ((cy (40 * f + k)).toInt64), .long ((cx (40 * f + (nxt n k))).toInt64), .long ((cy (40 * f + (nxt n k))).toInt64)]) (rest := []) ⟨hx, hb, hml, hown, hts⟩ (k_M_cross l dC dI cI cZ cF s.heap.size (cx (40 * f + (prv n k))) (cy (40 * f + (prv n k))) (cx (40 * f + k)) (cy (40 * f + k)) (cx (40 * f + (nxt n k))) (cy (40 * f + (nxt n k))) ((hp_f _ hpv).1) ((hp_f _ hpv).2) ((hp_f _ hk9).1) ((hp_f _ hk9).2) ((hp_f _ hnx).1) ((hp_f _ hnx).2)) (va_cwS 6 hts (zz_gS mw_1381 mw_1382 mw_110 mc_yX11_cross) rfl rfl rfl (by decide +kernel) ⟨Nat.le_of_ble_eq_true rfl, Nat.le_of_ble_eq_true rfl⟩) (zPS2 hPc hDc hK hXN) rfl rfl hl.1 rfl (lv_room (Nat.le_of_ble_eq_true rfl)) dX11_triangle_104 ⟨Nat.le_of_ble_eq_true rfl, Nat.le_of_ble_eq_true rfl⟩) hS hFc hFc rfl (fun t H1 locs ht hB hk1 hS => ?_)
      obtain ⟨hP1, hD1⟩ := hB
      rw [ht] at hP1
      obtain ⟨hP, hD⟩ := va_join (wr := [(om k0 a I0 J0), (oa (a 11) cI 201 mn), (oa (a 12) cI 8040 cx), (oa (a 13) cI 8040 cy)]) (w1 := []) hP hD [] [0, 1, 2, 3] rfl rfl (by decide) (by decide) hk1 hFc hP1 hD1
      clear hk1 hPc hDc hFc hP1 hD1 ht
      generalize H1 = H at hP hS ⊢
      have hP : va_P (dC, dI) classes [(om k0 a I0 J0), (oa (a 11) cI 201 mn), (oa (a 12) cI 8040 cx), (oa (a 13) cI 8040 cy)] H := hP
      have hD : va_D A [(om k0 a I0 J0), (oa (a 11) cI 201 mn), (oa (a 12) cI 8040 cx), (oa (a 13) cI 8040 cy)] := hD
      refine zz_l (v := jI (cr (cF40 cx f (prv n k)).toInt (cF40 cy f (prv n k)).toInt (cF40 cx f k).toInt (cF40 cy f k).toInt (cF40 cx f (nxt n k)).toInt (cF40 cy f (nxt n k)).toInt)) (rfl) ?_
      refine lv_lstore (lv' := [(7, .long (jI (cr (cF40 cx f (prv n k)).toInt (cF40 cy f (prv n k)).toInt (cF40 cx f k).toInt (cF40 cy f k).toInt (cF40 cx f (nxt n k)).toInt (cF40 cy f (nxt n k)).toInt))), (6, .int (nI (40 * f + (nxt n k)))), (5, .int (nI (40 * f + k))), (4, .int (nI (40 * f + (prv n k)))), (3, .int (nI n)), (0, .ref k0), (1, .int (nI f)), (2, .int (nI k))]) hx hb dX11_triangle_107 hl (by decide) rfl (fun ls hl => ?_)
      refine lv_lload hx hb dX11_triangle_109 (lv_at hl 0 rfl) ?_
      refine lv_lconst (v := 0) hx hb dX11_triangle_111 (by decide) ?_
      refine W.lcmp hx hb dX11_triangle_112 ?_
      refine lv_if_ge (tgt := 122) hx hb dX11_triangle_113 (by decide) (fun c_3 => ?_) (fun c_3 => ?_)
      · have c_3 : 0 ≤ (cr (cF40 cx f (prv n k)).toInt (cF40 cy f (prv n k)).toInt (cF40 cx f k).toInt (cF40 cy f k).toInt (cF40 cx f (nxt n k)).toInt (cF40 cy f (nxt n k)).toInt) := zl_ge (jI_toInt (by omega)) (by decide) c_3
        refine lv_lload hx hb dX11_triangle_122 (lv_at hl 0 rfl) ?_
        have hP9 := hP.sub (ws' := [(om k0 a I0 J0), (oa (a 11) cI 201 mn), (oa (a 12) cI 8040 cx), (oa (a 13) cI 8040 cy)]) [0, 1, 2, 3] rfl
        have hD9 := hD.sub (ws' := [(om k0 a I0 J0), (oa (a 11) cI 201 mn), (oa (a 12) cI 8040 cx), (oa (a 13) cI 8040 cy)]) [0, 1, 2, 3] (by decide) rfl
        rw [hQ9]
        exact W.lret (v := jI (cr (cF40 cx f (prv n k)).toInt (cF40 cy f (prv n k)).toInt (cF40 cx f k).toInt (cF40 cy f k).toInt (cF40 cx f (nxt n k)).toInt (cF40 cy f (nxt n k)).toInt)) hx hb hr (fun t ht hW => ⟨⟨congrArg (fun z => Outcome.returned (some (Value.long z))) (show (jI (cr (cF40 cx f (prv n k)).toInt (cF40 cy f (prv n k)).toInt (cF40 cx f k).toInt (cF40 cy f k).toInt (cF40 cx f (nxt n k)).toInt (cF40 cy f (nxt n k)).toInt) : Int64) = jI ((Int.natAbs (cr (cF40 cx f (prv n k)).toInt (cF40 cy f (prv n k)).toInt (cF40 cx f k).toInt (cF40 cy f k).toInt (cF40 cx f (nxt n k)).toInt (cF40 cy f (nxt n k)).toInt) : Nat) : Int) from by first | (rw [jI_neg (by omega)]; congr 1; omega) | (congr 1; omega)), by rw [ht]; exact hP9, hD9⟩, hS.F ht⟩) hS.2.2 dX11_triangle_124
      · have c_3 : (cr (cF40 cx f (prv n k)).toInt (cF40 cy f (prv n k)).toInt (cF40 cx f k).toInt (cF40 cy f k).toInt (cF40 cx f (nxt n k)).toInt (cF40 cy f (nxt n k)).toInt) < 0 := zl_nge (jI_toInt (by omega)) (by decide) c_3
        refine lv_lload hx hb dX11_triangle_116 (lv_at hl 0 rfl) ?_
        refine lv_lneg hx hb dX11_triangle_118 ?_
        refine lv_goto (tgt := 124) hx hb dX11_triangle_119 (by decide) ?_
        have hP9 := hP.sub (ws' := [(om k0 a I0 J0), (oa (a 11) cI 201 mn), (oa (a 12) cI 8040 cx), (oa (a 13) cI 8040 cy)]) [0, 1, 2, 3] rfl
        have hD9 := hD.sub (ws' := [(om k0 a I0 J0), (oa (a 11) cI 201 mn), (oa (a 12) cI 8040 cx), (oa (a 13) cI 8040 cy)]) [0, 1, 2, 3] (by decide) rfl
        rw [hQ9]
        exact W.lret (v := -(jI (cr (cF40 cx f (prv n k)).toInt (cF40 cy f (prv n k)).toInt (cF40 cx f k).toInt (cF40 cy f k).toInt (cF40 cx f (nxt n k)).toInt (cF40 cy f (nxt n k)).toInt))) hx hb hr (fun t ht hW => ⟨⟨congrArg (fun z => Outcome.returned (some (Value.long z))) (show (-(jI (cr (cF40 cx f (prv n k)).toInt (cF40 cy f (prv n k)).toInt (cF40 cx f k).toInt (cF40 cy f k).toInt (cF40 cx f (nxt n k)).toInt (cF40 cy f (nxt n k)).toInt)) : Int64) = jI ((Int.natAbs (cr (cF40 cx f (prv n k)).toInt (cF40 cy f (prv n k)).toInt (cF40 cx f k).toInt (cF40 cy f k).toInt (cF40 cx f (nxt n k)).toInt (cF40 cy f (nxt n k)).toInt) : Nat) : Int) from by first | (rw [jI_neg (by omega)]; congr 1; omega) | (congr 1; omega)), by rw [ht]; exact hP9, hD9⟩, hS.F ht⟩) hS.2.2 dX11_triangle_124
    refine lv_iload_n hx hb dX11_triangle_39 rfl (lv_at hl 5 rfl) ?_
    refine lv_iconst (v := 1) hx hb dX11_triangle_40 (by decide) ?_
    refine lv_iadd hx hb dX11_triangle_41 ?_
    refine zz_i (v := nI (k + 1)) (nI_add k 1) ?_
    refine lv_iload_n hx hb dX11_triangle_42 rfl (lv_at hl 2 rfl) ?_
    refine lv_icmp_ne (tgt := 50) hx hb dX11_triangle_43 (by decide) (fun c_4 => ?_) (fun c_4 => ?_)
    · have c_4 : ¬ ((k + 1 : Nat) : Int) = ((n : Nat) : Int) := zc_ne (nI_toInt (by omega)) (nI_toInt (by omega)) c_4
      refine lv_iload_n hx hb dX11_triangle_50 rfl (lv_at hl 5 rfl) ?_
      refine lv_iconst (v := 1) hx hb dX11_triangle_51 (by decide) ?_
      refine lv_iadd hx hb dX11_triangle_52 ?_
      refine zz_i (v := nI (k + 1)) (nI_add k 1) ?_
      refine zz_i (v := nI (nxt n k)) (by first | (rw [nxt, if_pos (by omega)]) | (rw [nxt, if_neg (by omega)]; first | done | rfl)) ?_
      exact hj_2 
    · have c_4 : ((k + 1 : Nat) : Int) = ((n : Nat) : Int) := zc_eq (nI_toInt (by omega)) (nI_toInt (by omega)) c_4
      refine lv_iconst (v := 0) hx hb dX11_triangle_46 (by decide) ?_
      refine lv_goto (tgt := 53) hx hb dX11_triangle_47 (by decide) ?_
      refine zz_i (v := nI (nxt n k)) (by first | (rw [nxt, if_pos (by omega)]) | (rw [nxt, if_neg (by omega)]; first | done | rfl)) ?_
      exact hj_2 
  refine lv_iload_n hx hb dX11_triangle_11 rfl (lv_at hl 3 rfl) ?_
  refine lv_if_ne (tgt := 21) hx hb dX11_triangle_12 (by decide) (fun c_5 => ?_) (fun c_5 => ?_)
  · have c_5 : ¬ ((k : Nat) : Int) = 0 := zc_ne (nI_toInt (by omega)) (by decide) c_5
    refine lv_iload_n hx hb dX11_triangle_21 rfl (lv_at hl 3 rfl) ?_
    refine lv_iconst (v := 1) hx hb dX11_triangle_22 (by decide) ?_
    refine lv_isub hx hb dX11_triangle_23 ?_
    refine zz_i (v := nI (k - 1)) (pk_sub (a := k) (b := 1) (by omega)) ?_
    refine zz_i (v := nI (prv n k)) (by first | (rw [prv, if_pos (by omega)]) | (rw [prv, if_neg (by omega)])) ?_
    exact hj_1 
  · have c_5 : ((k : Nat) : Int) = 0 := zc_eq (nI_toInt (by omega)) (by decide) c_5
    refine lv_iload_n hx hb dX11_triangle_15 rfl (lv_at hl 0 rfl) ?_
    refine lv_iconst (v := 1) hx hb dX11_triangle_16 (by decide) ?_
    refine lv_isub hx hb dX11_triangle_17 ?_
    refine zz_i (v := nI (n - 1)) (pk_sub (a := n) (b := 1) (by omega)) ?_
    refine lv_goto (tgt := 24) hx hb dX11_triangle_18 (by decide) ?_
    refine zz_i (v := nI (prv n k)) (by first | (rw [prv, if_pos (by omega)]) | (rw [prv, if_neg (by omega)])) ?_
    exact hj_1 
