set_option maxHeartbeats 4000000 in
set_option maxRecDepth 100000 in
theorem k_M_isSimple (l : Launch) (dC : Nat → ClassId) (dI : Nat → Nat → Nat) (cI cZ cF : ClassId) (sz : Nat) (k0 : Nat) (a : Nat → Nat) (I0 : Nat → Int32) (J0 : Nat → Int64) (f : Nat) (n : Nat) (kd : Nat → Int32) (mn : Nat → Int32) (cx : Nat → Int32) (cy : Nat → Int32) (S0 : Nat → Int32) (hf_f : f ≤ 200) (hm_f : mn f = nI n) (hp_f : pls n (cF40 cx f) (cF40 cy f)) (hn_f : n ≤ 40) : Met l yX11_isSimple (.code yX11_isSimple cX11_isSimple 8 (some .boolean) :: ws0) ({ frames := 4, cells := 0, slots := 0, locals := 104 } : Room) (va_Pc [.ref k0, .int (nI f)] (zPre (dC, dI) classes (zTy cI cZ cF) [(om k0 a I0 J0), (oa (a 1) cI 201 kd), (oa (a 11) cI 201 mn), (oa (a 12) cI 8040 cx), (oa (a 13) cI 8040 cy), (oa (a 32) cI 8 S0)] sz zXN)) (zQ (some (.int (pI (mSm (kd f).toInt n (cF40 cx f) (cF40 cy f))))) (fun t => ∃ (S1 : Nat → Int32), va_P (dC, dI) classes [(om k0 a I0 J0), (oa (a 1) cI 201 kd), (oa (a 11) cI 201 mn), (oa (a 12) cI 8040 cx), (oa (a 13) cI 8040 cy), (oa (a 32) cI 8 S1)] t.heap ∧ va_D (va_A [(om k0 a I0 J0), (oa (a 1) cI 201 kd), (oa (a 11) cI 201 mn), (oa (a 12) cI 8040 cx), (oa (a 13) cI 8040 cy), (oa (a 32) cI 8 S0)] sz) [(om k0 a I0 J0), (oa (a 1) cI 201 kd), (oa (a 11) cI 201 mn), (oa (a 12) cI 8040 cx), (oa (a 13) cI 8040 cy), (oa (a 32) cI 8 S1)]) (va_A [(om k0 a I0 J0), (oa (a 1) cI 201 kd), (oa (a 11) cI 201 mn), (oa (a 12) cI 8040 cx), (oa (a 13) cI 8040 cy), (oa (a 32) cI 8 S0)] sz)) 0 0 (va_A [(om k0 a I0 J0), (oa (a 1) cI 201 kd), (oa (a 11) cI 201 mn), (oa (a 12) cI 8040 cx), (oa (a 13) cI 8040 cy), (oa (a 32) cI 8 S0)] sz) := by
  refine Met.ofW (cc := cX11_isSimple) (maxL := 8) (ret := (some .boolean)) (by decide) rfl ?_
  intro p e s m args below meth c s₁ B hml hv
  obtain ⟨rfl, hsz, hP, hK, hD0, hXN⟩ := hv
  have hx := B.exec
  have hb := B.bytes
  have hr := B.returns
  have hts0 := atoms_spec (ws := .code yX11_isSimple cX11_isSimple 8 (some .boolean) :: ws0) B.pre
  have hts : ∀ w9 ∈ ws0, w9.before ([.ref k0, .int (nI f)] : List Value).toArray s = true := fun w9 h => hts0 w9 (List.mem_cons_of_mem _ h)
  have hown : s.vm.findClass "ScaleShopModel" = some m.cls := findClass_of_methodNamed B.named
  have hlocks := B.notSynchronized
  subst hsz
  have hD := hD0.self (sz := s.heap.size)
  clear hD0
  generalize hAe : va_A [(om k0 a I0 J0), (oa (a 1) cI 201 kd), (oa (a 11) cI 201 mn), (oa (a 12) cI 8040 cx), (oa (a 13) cI 8040 cy), (oa (a 32) cI 8 S0)] s.heap.size = A at hD ⊢
  have hA : ∀ q : Nat, s.heap.size ≤ q → A q := fun q h => by rw [← hAe]; exact Or.inr h
  clear hAe
  have hS : va_S A s.heap s.heap [] := va_S.rf
  have hP : va_P (dC, dI) classes [(om k0 a I0 J0), (oa (a 1) cI 201 kd), (oa (a 11) cI 201 mn), (oa (a 12) cI 8040 cx), (oa (a 13) cI 8040 cy), (oa (a 32) cI 8 S0)] s.heap := hP
  obtain ⟨Q9, hQ9⟩ : ∃ Q9 : State → Prop, Q9 = MQ below (zQ (some (.int (pI (mSm (kd f).toInt n (cF40 cx f) (cF40 cy f))))) (fun t => ∃ (S1 : Nat → Int32), va_P (dC, dI) classes [(om k0 a I0 J0), (oa (a 1) cI 201 kd), (oa (a 11) cI 201 mn), (oa (a 12) cI 8040 cx), (oa (a 13) cI 8040 cy), (oa (a 32) cI 8 S1)] t.heap ∧ va_D A [(om k0 a I0 J0), (oa (a 1) cI 201 kd), (oa (a 11) cI 201 mn), (oa (a 12) cI 8040 cx), (oa (a 13) cI 8040 cy), (oa (a 32) cI 8 S1)]) A) ([.ref k0, .int (nI f)] : List Value).toArray s 0 0 A := ⟨_, rfl⟩
  rw [← hQ9]
  have hl := lv_entry ([.ref k0, .int (nI f)]) (n := 8) (Nat.le_of_ble_eq_true rfl)
  rw [lg_entry_eq]
  generalize (lg_sl ([.ref k0, .int (nI f)]) ++ List.replicate (8 - (lg_sl ([.ref k0, .int (nI f)])).length) Slot.unset).toArray = ls at hl ⊢
  have hl : lv_has ls 8 [(0, .ref k0), (1, .int (nI f))] := hl
  refine lv_aload_n hx hb dX11_isSimple_0 rfl (lv_at hl 0 rfl) ?_
  refine va_get (D := (dC, dI)) (ci := 9) (v := .ref (a 11)) (C := RX11) (T := TX11) (N := 55) hx hb hts inX11 hown hK hP 0 rfl rfl 11 (by decide) (hts _ mw_1170) (fun _ h9 => h9) rfl dX11_isSimple_1 ?_
  refine lv_iload_n hx hb dX11_isSimple_4 rfl (lv_at hl 1 rfl) ?_
  refine z_iald hx hb hK hP 2 0 rfl rfl (e := f) rfl (by omega) (by omega) dX11_isSimple_5 ?_
  refine zz_i (v := nI n) (hm_f) ?_
  refine lv_istore_n (lv' := [(2, .int (nI n)), (0, .ref k0), (1, .int (nI f))]) hx hb dX11_isSimple_6 rfl hl (by decide) rfl (fun ls hl => ?_)
  refine lv_aload_n hx hb dX11_isSimple_7 rfl (lv_at hl 1 rfl) ?_
  refine va_get (D := (dC, dI)) (ci := 9) (v := .ref (a 1)) (C := RX11) (T := TX11) (N := 55) hx hb hts inX11 hown hK hP 0 rfl rfl 1 (by decide) (hts _ mw_1160) (fun _ h9 => h9) rfl dX11_isSimple_8 ?_
  refine lv_iload_n hx hb dX11_isSimple_11 rfl (lv_at hl 2 rfl) ?_
  refine z_iald hx hb hK hP 1 0 rfl rfl (e := f) rfl (by omega) (by omega) dX11_isSimple_12 ?_
  refine lv_if_ne (tgt := 27) hx hb dX11_isSimple_13 (by decide) (fun c_1 => ?_) (fun c_1 => ?_)
  · have c_1 : ¬ (kd f).toInt = 0 := zc_ne rfl (by decide) c_1
    have hmc := mnc_s (kd f).toInt
    refine lv_iload_n hx hb dX11_isSimple_27 rfl (lv_at hl 0 rfl) ?_
    refine lv_aload_n hx hb dX11_isSimple_28 rfl (lv_at hl 1 rfl) ?_
    refine lv_iload_n hx hb dX11_isSimple_29 rfl (lv_at hl 2 rfl) ?_
    have hPc := hP.sub (ws' := [(om k0 a I0 J0), (oa (a 1) cI 201 kd)]) [0, 1] rfl
    have hDc := hD.sub (ws' := [(om k0 a I0 J0), (oa (a 1) cI 201 kd)]) [0, 1] (by decide) rfl
    have hFc := va_free (wc := [(om k0 a I0 J0), (oa (a 1) cI 201 kd)]) hD hS hA [0, 1] rfl
    refine zcall (st1 := [.int (pI (5 ≤ (kd f).toInt)), .int (nI n)]) (va_runV (As := [.int (nI f)]) (rest := [.int (nI n)]) ⟨hx, hb, hml, hown, hts⟩ (k_M_isRing l dC dI cI cZ cF s.heap.size k0 a I0 J0 f kd (by omega)) (cwV 1 hts (zz_gV mw_1365 mw_1367 mw_40 mw_110 mc_yX11_isRing) rfl rfl rfl (by decide +kernel) ⟨Nat.le_of_ble_eq_true rfl, Nat.le_of_ble_eq_true rfl⟩) (zPV2 (q0 := 0) (ci := 9) hPc hDc hK hXN rfl rfl) rfl rfl hl.1 rfl (lv_room (Nat.le_of_ble_eq_true rfl)) dX11_isSimple_30 ⟨Nat.le_of_ble_eq_true rfl, Nat.le_of_ble_eq_true rfl⟩) hS hFc hFc rfl (fun t H1 locs ht hB hk1 hS => ?_)
    obtain ⟨hP1, hD1⟩ := hB
    rw [ht] at hP1
    obtain ⟨hP, hD⟩ := va_join (wr := [(oa (a 11) cI 201 mn), (oa (a 12) cI 8040 cx), (oa (a 13) cI 8040 cy), (oa (a 32) cI 8 S0)]) (w1 := [(om k0 a I0 J0), (oa (a 1) cI 201 kd)]) hP hD [0, 1] [2, 3, 4, 5] rfl rfl (by decide) (by decide) hk1 hFc hP1 hD1
    clear hk1 hPc hDc hFc hP1 hD1 ht
    generalize H1 = H at hP hS ⊢
    have hP := hP.sub (ws' := [(om k0 a I0 J0), (oa (a 1) cI 201 kd), (oa (a 11) cI 201 mn), (oa (a 12) cI 8040 cx), (oa (a 13) cI 8040 cy), (oa (a 32) cI 8 S0)]) [4, 5, 0, 1, 2, 3] rfl
    have hD := hD.sub (ws' := [(om k0 a I0 J0), (oa (a 1) cI 201 kd), (oa (a 11) cI 201 mn), (oa (a 12) cI 8040 cx), (oa (a 13) cI 8040 cy), (oa (a 32) cI 8 S0)]) [4, 5, 0, 1, 2, 3] (by decide) rfl
    have hP : va_P (dC, dI) classes [(om k0 a I0 J0), (oa (a 1) cI 201 kd), (oa (a 11) cI 201 mn), (oa (a 12) cI 8040 cx), (oa (a 13) cI 8040 cy), (oa (a 32) cI 8 S0)] H := hP
    have hD : va_D A [(om k0 a I0 J0), (oa (a 1) cI 201 kd), (oa (a 11) cI 201 mn), (oa (a 12) cI 8040 cx), (oa (a 13) cI 8040 cy), (oa (a 32) cI 8 S0)] := hD
    have hj_2 : W p l e ((headSpec (.code yX11_isSimple cX11_isSimple 8 (some .boolean) :: ws0) ({ frames := 4, cells := 0, slots := 0, locals := 104 } : Room)).room) s m ([.ref k0, .int (nI f)] : List Value).toArray below meth c H locs 0 0 Q9 (F0 m 41 ls [.int (nI (mnc (kd f).toInt)), .int (nI n)]) := by
      refine lv_icmp_ge (tgt := 46) hx hb dX11_isSimple_41 (by decide) (fun c_3 => ?_) (fun c_3 => ?_)
      · have c_3 : ((mnc (kd f).toInt : Nat) : Int) ≤ ((n : Nat) : Int) := zc_le (nI_toInt (by omega)) (nI_toInt (by omega)) c_3
        have hn1 : 1 ≤ n := (by omega)
        have hef := eO_le (k := (kd f).toInt) hn1
        refine lv_aload_n hx hb dX11_isSimple_46 rfl (lv_at hl 1 rfl) ?_
        refine lv_iload_n hx hb dX11_isSimple_47 rfl (lv_at hl 2 rfl) ?_
        have hPc := hP.sub (ws' := [(om k0 a I0 J0), (oa (a 1) cI 201 kd), (oa (a 11) cI 201 mn)]) [0, 1, 2] rfl
        have hDc := hD.sub (ws' := [(om k0 a I0 J0), (oa (a 1) cI 201 kd), (oa (a 11) cI 201 mn)]) [0, 1, 2] (by decide) rfl
        have hFc := va_free (wc := [(om k0 a I0 J0), (oa (a 1) cI 201 kd), (oa (a 11) cI 201 mn)]) hD hS hA [0, 1, 2] rfl
        refine zcall (st1 := [.int (nI (eO (kd f).toInt n))]) (va_runV (As := [.int (nI f)]) (rest := []) ⟨hx, hb, hml, hown, hts⟩ (k_M_edgesOf l dC dI cI cZ cF H.size k0 a I0 J0 f n kd mn (by omega) (by assumption) (by omega)) (cwV 1 hts (zz_gV mw_1369 mw_1371 mw_41 mw_110 mc_yX11_edgesOf) rfl rfl rfl (by decide +kernel) ⟨Nat.le_of_ble_eq_true rfl, Nat.le_of_ble_eq_true rfl⟩) (zPV2 (q0 := 0) (ci := 9) hPc hDc hK hXN rfl rfl) rfl rfl hl.1 rfl (lv_room (Nat.le_of_ble_eq_true rfl)) dX11_isSimple_48 ⟨Nat.le_of_ble_eq_true rfl, Nat.le_of_ble_eq_true rfl⟩) hS hFc hFc rfl (fun t H1 locs ht hB hk1 hS => ?_)
        obtain ⟨hP1, hD1⟩ := hB
        rw [ht] at hP1
        obtain ⟨hP, hD⟩ := va_join (wr := [(oa (a 12) cI 8040 cx), (oa (a 13) cI 8040 cy), (oa (a 32) cI 8 S0)]) (w1 := [(om k0 a I0 J0), (oa (a 1) cI 201 kd), (oa (a 11) cI 201 mn)]) hP hD [0, 1, 2] [3, 4, 5] rfl rfl (by decide) (by decide) hk1 hFc hP1 hD1
        clear hk1 hPc hDc hFc hP1 hD1 ht
        generalize H1 = H at hP hS ⊢
        have hP := hP.sub (ws' := [(om k0 a I0 J0), (oa (a 1) cI 201 kd), (oa (a 11) cI 201 mn), (oa (a 12) cI 8040 cx), (oa (a 13) cI 8040 cy), (oa (a 32) cI 8 S0)]) [3, 4, 5, 0, 1, 2] rfl
        have hD := hD.sub (ws' := [(om k0 a I0 J0), (oa (a 1) cI 201 kd), (oa (a 11) cI 201 mn), (oa (a 12) cI 8040 cx), (oa (a 13) cI 8040 cy), (oa (a 32) cI 8 S0)]) [3, 4, 5, 0, 1, 2] (by decide) rfl
        have hP : va_P (dC, dI) classes [(om k0 a I0 J0), (oa (a 1) cI 201 kd), (oa (a 11) cI 201 mn), (oa (a 12) cI 8040 cx), (oa (a 13) cI 8040 cy), (oa (a 32) cI 8 S0)] H := hP
        have hD : va_D A [(om k0 a I0 J0), (oa (a 1) cI 201 kd), (oa (a 11) cI 201 mn), (oa (a 12) cI 8040 cx), (oa (a 13) cI 8040 cy), (oa (a 32) cI 8 S0)] := hD
        refine lv_istore_n (lv' := [(3, .int (nI (eO (kd f).toInt n))), (2, .int (nI n)), (0, .ref k0), (1, .int (nI f))]) hx hb dX11_isSimple_51 rfl hl (by decide) rfl (fun ls hl => ?_)
        refine lv_iconst (v := 0) hx hb dX11_isSimple_52 (by decide) ?_
        refine lv_istore (lv' := [(4, .int 0), (3, .int (nI (eO (kd f).toInt n))), (2, .int (nI n)), (0, .ref k0), (1, .int (nI f))]) hx hb dX11_isSimple_53 hl (by decide) rfl (fun ls hl => ?_)
        have hl_55 : ∀ (n9 : Nat) (i : Nat) (S1 : Nat → Int32) (H : Heap) (locs : List Loc) (ls : Array Slot), eO (kd f).toInt n - i < n9 → (i ≤ eO (kd f).toInt n) → (∀ j, j < i → ¬ ((cF40 cx f j).toInt = (cF40 cx f (nxt n j)).toInt ∧ (cF40 cy f j).toInt = (cF40 cy f (nxt n j)).toInt)) → va_P (dC, dI) classes [(om k0 a I0 J0), (oa (a 1) cI 201 kd), (oa (a 11) cI 201 mn), (oa (a 12) cI 8040 cx), (oa (a 13) cI 8040 cy), (oa (a 32) cI 8 S1)] H → va_D A [(om k0 a I0 J0), (oa (a 1) cI 201 kd), (oa (a 11) cI 201 mn), (oa (a 12) cI 8040 cx), (oa (a 13) cI 8040 cy), (oa (a 32) cI 8 S1)] → va_S A s.heap H locs → lv_has ls 8 [(4, .int (nI i)), (3, .int (nI (eO (kd f).toInt n))), (2, .int (nI n)), (0, .ref k0), (1, .int (nI f))] → W p l e ((headSpec (.code yX11_isSimple cX11_isSimple 8 (some .boolean) :: ws0) ({ frames := 4, cells := 0, slots := 0, locals := 104 } : Room)).room) s m ([.ref k0, .int (nI f)] : List Value).toArray below meth c H locs 0 0 Q9 (F0 m 55 ls []) := by
          intro n9
          induction n9 with
          | zero => intro i S1 H locs ls hm; exact absurd hm (Nat.not_lt_zero _)
          | succ n9 ih_55 =>
            intro i S1 H locs ls hm hi hall hP hD hS hl
            refine lv_iload hx hb dX11_isSimple_55 (lv_at hl 0 rfl) ?_
            refine lv_iload_n hx hb dX11_isSimple_57 rfl (lv_at hl 1 rfl) ?_
            refine lv_icmp_ge (tgt := 107) hx hb dX11_isSimple_58 (by decide) (fun c_4 => ?_) (fun c_4 => ?_)
            · have c_4 : ((eO (kd f).toInt n : Nat) : Int) ≤ ((i : Nat) : Int) := zc_le (nI_toInt (by omega)) (nI_toInt (by omega)) c_4
              refine lv_iconst (v := 0) hx hb dX11_isSimple_107 (by decide) ?_
              refine lv_istore (lv' := [(4, .int 0), (3, .int (nI (eO (kd f).toInt n))), (2, .int (nI n)), (0, .ref k0), (1, .int (nI f))]) hx hb dX11_isSimple_108 hl (by decide) rfl (fun ls hl => ?_)
              have hl_110 : ∀ (n9 : Nat) (i2 : Nat) (S4 : Nat → Int32) (H : Heap) (locs : List Loc) (ls : Array Slot), eO (kd f).toInt n - i2 < n9 → (i2 ≤ eO (kd f).toInt n) → (∀ i k, i < i2 → i < k → k < eO (kd f).toInt n → mCn (kd f).toInt n (cF40 cx f) (cF40 cy f) i k) → va_P (dC, dI) classes [(om k0 a I0 J0), (oa (a 1) cI 201 kd), (oa (a 11) cI 201 mn), (oa (a 12) cI 8040 cx), (oa (a 13) cI 8040 cy), (oa (a 32) cI 8 S4)] H → va_D A [(om k0 a I0 J0), (oa (a 1) cI 201 kd), (oa (a 11) cI 201 mn), (oa (a 12) cI 8040 cx), (oa (a 13) cI 8040 cy), (oa (a 32) cI 8 S4)] → va_S A s.heap H locs → lv_has ls 8 [(4, .int (nI i2)), (3, .int (nI (eO (kd f).toInt n))), (2, .int (nI n)), (0, .ref k0), (1, .int (nI f))] → W p l e ((headSpec (.code yX11_isSimple cX11_isSimple 8 (some .boolean) :: ws0) ({ frames := 4, cells := 0, slots := 0, locals := 104 } : Room)).room) s m ([.ref k0, .int (nI f)] : List Value).toArray below meth c H locs 0 0 Q9 (F0 m 110 ls []) := by
                intro n9
                induction n9 with
                | zero => intro i2 S4 H locs ls hm; exact absurd hm (Nat.not_lt_zero _)
                | succ n9 ih_110 =>
                  intro i2 S4 H locs ls hm hi2 hal2 hP hD hS hl
                  refine lv_iload hx hb dX11_isSimple_110 (lv_at hl 0 rfl) ?_
                  refine lv_iload_n hx hb dX11_isSimple_112 rfl (lv_at hl 1 rfl) ?_
                  refine lv_icmp_ge (tgt := 238) hx hb dX11_isSimple_113 (by decide) (fun c_5 => ?_) (fun c_5 => ?_)
                  · have c_5 : ((eO (kd f).toInt n : Nat) : Int) ≤ ((i2 : Nat) : Int) := zc_le (nI_toInt (by omega)) (nI_toInt (by omega)) c_5
                    refine lv_aload_n hx hb dX11_isSimple_238 rfl (lv_at hl 3 rfl) ?_
                    refine va_get (D := (dC, dI)) (ci := 9) (v := .ref (a 1)) (C := RX11) (T := TX11) (N := 55) hx hb hts inX11 hown hK hP 0 rfl rfl 1 (by decide) (hts _ mw_1160) (fun _ h9 => h9) rfl dX11_isSimple_239 ?_
                    refine lv_iload_n hx hb dX11_isSimple_242 rfl (lv_at hl 4 rfl) ?_
                    refine z_iald hx hb hK hP 1 0 rfl rfl (e := f) rfl (by omega) (by omega) dX11_isSimple_243 ?_
                    refine lv_bipush (v := 6) hx hb dX11_isSimple_244 (by decide) ?_
                    refine lv_icmp_ne (tgt := 257) hx hb dX11_isSimple_246 (by decide) (fun c_6 => ?_) (fun c_6 => ?_)
                    · have c_6 : ¬ (kd f).toInt = 6 := zc_ne rfl (by decide) c_6
                      refine lv_iconst (v := 1) hx hb dX11_isSimple_257 (by decide) ?_
                      refine lv_goto (tgt := 262) hx hb dX11_isSimple_258 (by decide) ?_
                      have hP9 := hP.sub (ws' := [(om k0 a I0 J0), (oa (a 1) cI 201 kd), (oa (a 11) cI 201 mn), (oa (a 12) cI 8040 cx), (oa (a 13) cI 8040 cy), (oa (a 32) cI 8 S4)]) [0, 1, 2, 3, 4, 5] rfl
                      have hD9 := hD.sub (ws' := [(om k0 a I0 J0), (oa (a 1) cI 201 kd), (oa (a 11) cI 201 mn), (oa (a 12) cI 8040 cx), (oa (a 13) cI 8040 cy), (oa (a 32) cI 8 S4)]) [0, 1, 2, 3, 4, 5] (by decide) rfl
                      rw [hQ9]
                      exact W.zret (ty := .boolean) (v := 1) hx hb hr (rfl) (fun t ht hW => ⟨⟨congrArg (fun z => Outcome.returned (some (Value.int z))) (show (1 : Int32) = pI (mSm (kd f).toInt n (cF40 cx f) (cF40 cy f)) from (zp_t (by unfold mSm; first | exact ⟨fun h => absurd h (by assumption), fun _ => ⟨by omega, fun j hj => hall j (by omega), fun i k h1 h2 => hal2 i k (by omega) h1 h2, Or.inl (by assumption)⟩⟩ | exact ⟨fun h => absurd h (by assumption), fun _ => ⟨by omega, fun j hj => hall j (by omega), fun i k h1 h2 => hal2 i k (by omega) h1 h2, Or.inr (by assumption)⟩⟩ | exact fun h => (h.2 (by assumption)).2.2.2.elim (fun h => h (by assumption)) (by assumption))).symm), S4, by rw [ht]; exact hP9, hD9⟩, hS.F ht⟩) hS.2.2 dX11_isSimple_262
                    · have c_6 : (kd f).toInt = 6 := zc_eq rfl (by decide) c_6
                      refine lv_aload_n hx hb dX11_isSimple_249 rfl (lv_at hl 3 rfl) ?_
                      refine lv_iload_n hx hb dX11_isSimple_250 rfl (lv_at hl 4 rfl) ?_
                      have hPc := hP.sub (ws' := [(om k0 a I0 J0), (oa (a 11) cI 201 mn), (oa (a 12) cI 8040 cx), (oa (a 13) cI 8040 cy), (oa (a 32) cI 8 S4)]) [0, 2, 3, 4, 5] rfl
                      have hDc := hD.sub (ws' := [(om k0 a I0 J0), (oa (a 11) cI 201 mn), (oa (a 12) cI 8040 cx), (oa (a 13) cI 8040 cy), (oa (a 32) cI 8 S4)]) [0, 2, 3, 4, 5] (by decide) rfl
                      have hFc := va_free (wc := [(om k0 a I0 J0), (oa (a 11) cI 201 mn), (oa (a 12) cI 8040 cx), (oa (a 13) cI 8040 cy), (oa (a 32) cI 8 S4)]) hD hS hA [0, 2, 3, 4, 5] rfl
                      refine zcall (st1 := [.int (pI (∀ k, k < n → eRt n (cF40 cx f) (cF40 cy f) k))]) (va_runV (As := [.int (nI f)]) (rest := []) ⟨hx, hb, hml, hown, hts⟩ (k_M_isSquare l dC dI cI cZ cF H.size k0 a I0 J0 f n mn cx cy S4 (by omega) (by assumption) (by omega) (by assumption)) (cwV 1 hts (zz_gV mw_1399 mw_1401 mw_45 mw_110 mc_yX11_isSquare) rfl rfl rfl (by decide +kernel) ⟨Nat.le_of_ble_eq_true rfl, Nat.le_of_ble_eq_true rfl⟩) (zPV2 (q0 := 0) (ci := 9) hPc hDc hK hXN rfl rfl) rfl rfl hl.1 rfl (lv_room (Nat.le_of_ble_eq_true rfl)) dX11_isSimple_251 ⟨Nat.le_of_ble_eq_true rfl, Nat.le_of_ble_eq_true rfl⟩) hS hFc hFc rfl (fun t H1 locs ht hB hk1 hS => ?_)
                      obtain ⟨q_7, hP1, hD1⟩ := hB
                      rw [ht] at hP1
                      obtain ⟨hP, hD⟩ := va_join (wr := [(oa (a 1) cI 201 kd)]) (w1 := [(om k0 a I0 J0), (oa (a 11) cI 201 mn), (oa (a 12) cI 8040 cx), (oa (a 13) cI 8040 cy), (oa (a 32) cI 8 q_7)]) hP hD [0, 2, 3, 4, 5] [1] rfl rfl (by decide) (by decide) hk1 hFc hP1 hD1
                      clear hk1 hPc hDc hFc hP1 hD1 ht
                      generalize H1 = H at hP hS ⊢
                      have hP := hP.sub (ws' := [(om k0 a I0 J0), (oa (a 1) cI 201 kd), (oa (a 11) cI 201 mn), (oa (a 12) cI 8040 cx), (oa (a 13) cI 8040 cy), (oa (a 32) cI 8 q_7)]) [1, 0, 2, 3, 4, 5] rfl
                      have hD := hD.sub (ws' := [(om k0 a I0 J0), (oa (a 1) cI 201 kd), (oa (a 11) cI 201 mn), (oa (a 12) cI 8040 cx), (oa (a 13) cI 8040 cy), (oa (a 32) cI 8 q_7)]) [1, 0, 2, 3, 4, 5] (by decide) rfl
                      have hP : va_P (dC, dI) classes [(om k0 a I0 J0), (oa (a 1) cI 201 kd), (oa (a 11) cI 201 mn), (oa (a 12) cI 8040 cx), (oa (a 13) cI 8040 cy), (oa (a 32) cI 8 q_7)] H := hP
                      have hD : va_D A [(om k0 a I0 J0), (oa (a 1) cI 201 kd), (oa (a 11) cI 201 mn), (oa (a 12) cI 8040 cx), (oa (a 13) cI 8040 cy), (oa (a 32) cI 8 q_7)] := hD
                      refine lv_if_eq (tgt := 261) hx hb dX11_isSimple_254 (by decide) (fun c_8 => ?_) (fun c_8 => ?_)
                      · have c_8 : ¬ (∀ k, k < n → eRt n (cF40 cx f) (cF40 cy f) k) := zp_0 c_8
                        refine lv_iconst (v := 0) hx hb dX11_isSimple_261 (by decide) ?_
                        have hP9 := hP.sub (ws' := [(om k0 a I0 J0), (oa (a 1) cI 201 kd), (oa (a 11) cI 201 mn), (oa (a 12) cI 8040 cx), (oa (a 13) cI 8040 cy), (oa (a 32) cI 8 q_7)]) [0, 1, 2, 3, 4, 5] rfl
                        have hD9 := hD.sub (ws' := [(om k0 a I0 J0), (oa (a 1) cI 201 kd), (oa (a 11) cI 201 mn), (oa (a 12) cI 8040 cx), (oa (a 13) cI 8040 cy), (oa (a 32) cI 8 q_7)]) [0, 1, 2, 3, 4, 5] (by decide) rfl
                        rw [hQ9]
                        exact W.zret (ty := .boolean) (v := 0) hx hb hr (rfl) (fun t ht hW => ⟨⟨congrArg (fun z => Outcome.returned (some (Value.int z))) (show (0 : Int32) = pI (mSm (kd f).toInt n (cF40 cx f) (cF40 cy f)) from (zp_f (by unfold mSm; first | exact ⟨fun h => absurd h (by assumption), fun _ => ⟨by omega, fun j hj => hall j (by omega), fun i k h1 h2 => hal2 i k (by omega) h1 h2, Or.inl (by assumption)⟩⟩ | exact ⟨fun h => absurd h (by assumption), fun _ => ⟨by omega, fun j hj => hall j (by omega), fun i k h1 h2 => hal2 i k (by omega) h1 h2, Or.inr (by assumption)⟩⟩ | exact fun h => (h.2 (by assumption)).2.2.2.elim (fun h => h (by assumption)) (by assumption))).symm), q_7, by rw [ht]; exact hP9, hD9⟩, hS.F ht⟩) hS.2.2 dX11_isSimple_262
                      · have c_8 : ∀ k, k < n → eRt n (cF40 cx f) (cF40 cy f) k := zp_1 c_8
                        refine lv_iconst (v := 1) hx hb dX11_isSimple_257 (by decide) ?_
                        refine lv_goto (tgt := 262) hx hb dX11_isSimple_258 (by decide) ?_
                        have hP9 := hP.sub (ws' := [(om k0 a I0 J0), (oa (a 1) cI 201 kd), (oa (a 11) cI 201 mn), (oa (a 12) cI 8040 cx), (oa (a 13) cI 8040 cy), (oa (a 32) cI 8 q_7)]) [0, 1, 2, 3, 4, 5] rfl
                        have hD9 := hD.sub (ws' := [(om k0 a I0 J0), (oa (a 1) cI 201 kd), (oa (a 11) cI 201 mn), (oa (a 12) cI 8040 cx), (oa (a 13) cI 8040 cy), (oa (a 32) cI 8 q_7)]) [0, 1, 2, 3, 4, 5] (by decide) rfl
                        rw [hQ9]
                        exact W.zret (ty := .boolean) (v := 1) hx hb hr (rfl) (fun t ht hW => ⟨⟨congrArg (fun z => Outcome.returned (some (Value.int z))) (show (1 : Int32) = pI (mSm (kd f).toInt n (cF40 cx f) (cF40 cy f)) from (zp_t (by unfold mSm; first | exact ⟨fun h => absurd h (by assumption), fun _ => ⟨by omega, fun j hj => hall j (by omega), fun i k h1 h2 => hal2 i k (by omega) h1 h2, Or.inl (by assumption)⟩⟩ | exact ⟨fun h => absurd h (by assumption), fun _ => ⟨by omega, fun j hj => hall j (by omega), fun i k h1 h2 => hal2 i k (by omega) h1 h2, Or.inr (by assumption)⟩⟩ | exact fun h => (h.2 (by assumption)).2.2.2.elim (fun h => h (by assumption)) (by assumption))).symm), q_7, by rw [ht]; exact hP9, hD9⟩, hS.F ht⟩) hS.2.2 dX11_isSimple_262
                  · have c_5 : ((i2 : Nat) : Int) < ((eO (kd f).toInt n : Nat) : Int) := zc_nle (nI_toInt (by omega)) (nI_toInt (by omega)) c_5
                    refine lv_iload hx hb dX11_isSimple_116 (lv_at hl 0 rfl) ?_
                    refine lv_iconst (v := 1) hx hb dX11_isSimple_118 (by decide) ?_
                    refine lv_iadd hx hb dX11_isSimple_119 ?_
                    refine zz_i (v := nI (i2 + 1)) (nI_add i2 1) ?_
                    refine lv_istore (lv' := [(5, .int (nI (i2 + 1))), (4, .int (nI i2)), (3, .int (nI (eO (kd f).toInt n))), (2, .int (nI n)), (0, .ref k0), (1, .int (nI f))]) hx hb dX11_isSimple_120 hl (by decide) rfl (fun ls hl => ?_)
                    have hl_122 : ∀ (n9 : Nat) (k : Nat) (S5 : Nat → Int32) (H : Heap) (locs : List Loc) (ls : Array Slot), eO (kd f).toInt n - k < n9 → (k ≤ eO (kd f).toInt n) → (i2 < k) → (∀ q, i2 < q → q < k → mCn (kd f).toInt n (cF40 cx f) (cF40 cy f) i2 q) → va_P (dC, dI) classes [(om k0 a I0 J0), (oa (a 1) cI 201 kd), (oa (a 11) cI 201 mn), (oa (a 12) cI 8040 cx), (oa (a 13) cI 8040 cy), (oa (a 32) cI 8 S5)] H → va_D A [(om k0 a I0 J0), (oa (a 1) cI 201 kd), (oa (a 11) cI 201 mn), (oa (a 12) cI 8040 cx), (oa (a 13) cI 8040 cy), (oa (a 32) cI 8 S5)] → va_S A s.heap H locs → lv_has ls 8 [(5, .int (nI k)), (4, .int (nI i2)), (3, .int (nI (eO (kd f).toInt n))), (2, .int (nI n)), (0, .ref k0), (1, .int (nI f))] → W p l e ((headSpec (.code yX11_isSimple cX11_isSimple 8 (some .boolean) :: ws0) ({ frames := 4, cells := 0, slots := 0, locals := 104 } : Room)).room) s m ([.ref k0, .int (nI f)] : List Value).toArray below meth c H locs 0 0 Q9 (F0 m 122 ls []) := by
                      intro n9
                      induction n9 with
                      | zero => intro k S5 H locs ls hm; exact absurd hm (Nat.not_lt_zero _)
                      | succ n9 ih_122 =>
                        intro k S5 H locs ls hm hk hik hal3 hP hD hS hl
                        refine lv_iload hx hb dX11_isSimple_122 (lv_at hl 0 rfl) ?_
                        refine lv_iload_n hx hb dX11_isSimple_124 rfl (lv_at hl 2 rfl) ?_
                        refine lv_icmp_ge (tgt := 232) hx hb dX11_isSimple_125 (by decide) (fun c_9 => ?_) (fun c_9 => ?_)
                        · have c_9 : ((eO (kd f).toInt n : Nat) : Int) ≤ ((k : Nat) : Int) := zc_le (nI_toInt (by omega)) (nI_toInt (by omega)) c_9
                          refine lv_iinc (v := nI (i2 + 1)) (lv' := [(4, .int (nI (i2 + 1))), (5, .int (nI k)), (3, .int (nI (eO (kd f).toInt n))), (2, .int (nI n)), (0, .ref k0), (1, .int (nI f))]) hx hb dX11_isSimple_232 hl (k := 1) rfl (nI_add i2 1) (by decide) rfl (fun ls hl => ?_)
                          refine lv_goto (tgt := 110) hx hb dX11_isSimple_235 (by decide) ?_
                          exact ih_110 (i2 + 1) S5 H locs ls (by omega) (by omega) (by intro i9 k9 h1 h2 h3; rcases Nat.lt_or_ge i9 i2 with h | h; exact hal2 i9 k9 h h2 h3; have e9 : i9 = i2 := (by omega); rw [e9]; exact hal3 k9 (by omega) (by omega)) hP hD hS (lv_sub hl [0, 2, 3, 4, 5] rfl)
                        · have c_9 : ((k : Nat) : Int) < ((eO (kd f).toInt n : Nat) : Int) := zc_nle (nI_toInt (by omega)) (nI_toInt (by omega)) c_9
                          refine lv_iload hx hb dX11_isSimple_128 (lv_at hl 0 rfl) ?_
                          refine lv_iload hx hb dX11_isSimple_130 (lv_at hl 1 rfl) ?_
                          refine lv_iconst (v := 1) hx hb dX11_isSimple_132 (by decide) ?_
                          refine lv_iadd hx hb dX11_isSimple_133 ?_
                          refine zz_i (v := nI (i2 + 1)) (nI_add i2 1) ?_
                          have hj_10 : W p l e ((headSpec (.code yX11_isSimple cX11_isSimple 8 (some .boolean) :: ws0) ({ frames := 4, cells := 0, slots := 0, locals := 104 } : Room)).room) s m ([.ref k0, .int (nI f)] : List Value).toArray below meth c H locs 0 0 Q9 (F0 m 142 ls [.int (pI (k = i2 + 1))]) := by
                            refine lv_istore (lv' := [(6, .int (pI (k = i2 + 1))), (5, .int (nI k)), (4, .int (nI i2)), (3, .int (nI (eO (kd f).toInt n))), (2, .int (nI n)), (0, .ref k0), (1, .int (nI f))]) hx hb dX11_isSimple_142 hl (by decide) rfl (fun ls hl => ?_)
                            refine lv_aload_n hx hb dX11_isSimple_144 rfl (lv_at hl 5 rfl) ?_
                            refine lv_iload_n hx hb dX11_isSimple_145 rfl (lv_at hl 6 rfl) ?_
                            have hPc := hP.sub (ws' := [(om k0 a I0 J0), (oa (a 1) cI 201 kd)]) [0, 1] rfl
                            have hDc := hD.sub (ws' := [(om k0 a I0 J0), (oa (a 1) cI 201 kd)]) [0, 1] (by decide) rfl
                            have hFc := va_free (wc := [(om k0 a I0 J0), (oa (a 1) cI 201 kd)]) hD hS hA [0, 1] rfl
                            refine zcall (st1 := [.int (pI (5 ≤ (kd f).toInt))]) (va_runV (As := [.int (nI f)]) (rest := []) ⟨hx, hb, hml, hown, hts⟩ (k_M_isRing l dC dI cI cZ cF H.size k0 a I0 J0 f kd (by omega)) (cwV 1 hts (zz_gV mw_1365 mw_1367 mw_40 mw_110 mc_yX11_isRing) rfl rfl rfl (by decide +kernel) ⟨Nat.le_of_ble_eq_true rfl, Nat.le_of_ble_eq_true rfl⟩) (zPV2 (q0 := 0) (ci := 9) hPc hDc hK hXN rfl rfl) rfl rfl hl.1 rfl (lv_room (Nat.le_of_ble_eq_true rfl)) dX11_isSimple_146 ⟨Nat.le_of_ble_eq_true rfl, Nat.le_of_ble_eq_true rfl⟩) hS hFc hFc rfl (fun t H1 locs ht hB hk1 hS => ?_)
                            obtain ⟨hP1, hD1⟩ := hB
                            rw [ht] at hP1
                            obtain ⟨hP, hD⟩ := va_join (wr := [(oa (a 11) cI 201 mn), (oa (a 12) cI 8040 cx), (oa (a 13) cI 8040 cy), (oa (a 32) cI 8 S5)]) (w1 := [(om k0 a I0 J0), (oa (a 1) cI 201 kd)]) hP hD [0, 1] [2, 3, 4, 5] rfl rfl (by decide) (by decide) hk1 hFc hP1 hD1
                            clear hk1 hPc hDc hFc hP1 hD1 ht
                            generalize H1 = H at hP hS ⊢
                            have hP := hP.sub (ws' := [(om k0 a I0 J0), (oa (a 1) cI 201 kd), (oa (a 11) cI 201 mn), (oa (a 12) cI 8040 cx), (oa (a 13) cI 8040 cy), (oa (a 32) cI 8 S5)]) [4, 5, 0, 1, 2, 3] rfl
                            have hD := hD.sub (ws' := [(om k0 a I0 J0), (oa (a 1) cI 201 kd), (oa (a 11) cI 201 mn), (oa (a 12) cI 8040 cx), (oa (a 13) cI 8040 cy), (oa (a 32) cI 8 S5)]) [4, 5, 0, 1, 2, 3] (by decide) rfl
                            have hP : va_P (dC, dI) classes [(om k0 a I0 J0), (oa (a 1) cI 201 kd), (oa (a 11) cI 201 mn), (oa (a 12) cI 8040 cx), (oa (a 13) cI 8040 cy), (oa (a 32) cI 8 S5)] H := hP
                            have hD : va_D A [(om k0 a I0 J0), (oa (a 1) cI 201 kd), (oa (a 11) cI 201 mn), (oa (a 12) cI 8040 cx), (oa (a 13) cI 8040 cy), (oa (a 32) cI 8 S5)] := hD
                            have hj_11 : W p l e ((headSpec (.code yX11_isSimple cX11_isSimple 8 (some .boolean) :: ws0) ({ frames := 4, cells := 0, slots := 0, locals := 104 } : Room)).room) s m ([.ref k0, .int (nI f)] : List Value).toArray below meth c H locs 0 0 Q9 (F0 m 170 ls [.int (pI (5 ≤ (kd f).toInt ∧ i2 = 0 ∧ k = eO (kd f).toInt n - 1))]) := by
                              refine lv_istore (lv' := [(7, .int (pI (5 ≤ (kd f).toInt ∧ i2 = 0 ∧ k = eO (kd f).toInt n - 1))), (6, .int (pI (k = i2 + 1))), (5, .int (nI k)), (4, .int (nI i2)), (3, .int (nI (eO (kd f).toInt n))), (2, .int (nI n)), (0, .ref k0), (1, .int (nI f))]) hx hb dX11_isSimple_170 hl (by decide) rfl (fun ls hl => ?_)
                              refine lv_iload hx hb dX11_isSimple_172 (lv_at hl 1 rfl) ?_
                              refine lv_if_eq (tgt := 192) hx hb dX11_isSimple_174 (by decide) (fun c_12 => ?_) (fun c_12 => ?_)
                              · have c_12 : ¬ (k = i2 + 1) := zp_0 c_12
                                refine lv_iload hx hb dX11_isSimple_192 (lv_at hl 0 rfl) ?_
                                refine lv_if_eq (tgt := 212) hx hb dX11_isSimple_194 (by decide) (fun c_13 => ?_) (fun c_13 => ?_)
                                · have c_13 : ¬ (5 ≤ (kd f).toInt ∧ i2 = 0 ∧ k = eO (kd f).toInt n - 1) := zp_0 c_13
                                  refine lv_aload_n hx hb dX11_isSimple_212 rfl (lv_at hl 6 rfl) ?_
                                  refine lv_iload_n hx hb dX11_isSimple_213 rfl (lv_at hl 7 rfl) ?_
                                  refine lv_iload hx hb dX11_isSimple_214 (lv_at hl 3 rfl) ?_
                                  refine lv_iload hx hb dX11_isSimple_216 (lv_at hl 2 rfl) ?_
                                  have hPc := hP.sub (ws' := [(om k0 a I0 J0), (oa (a 11) cI 201 mn), (oa (a 12) cI 8040 cx), (oa (a 13) cI 8040 cy), (oa (a 32) cI 8 S5)]) [0, 2, 3, 4, 5] rfl
                                  have hDc := hD.sub (ws' := [(om k0 a I0 J0), (oa (a 11) cI 201 mn), (oa (a 12) cI 8040 cx), (oa (a 13) cI 8040 cy), (oa (a 32) cI 8 S5)]) [0, 2, 3, 4, 5] (by decide) rfl
                                  have hFc := va_free (wc := [(om k0 a I0 J0), (oa (a 11) cI 201 mn), (oa (a 12) cI 8040 cx), (oa (a 13) cI 8040 cy), (oa (a 32) cI 8 S5)]) hD hS hA [0, 2, 3, 4, 5] rfl
                                  refine zcall (st1 := [.int (pI (eMt n (cF40 cx f) (cF40 cy f) i2 n (cF40 cx f) (cF40 cy f) k))]) (va_runV (As := [.int (nI f), .int (nI i2), .int (nI k)]) (rest := []) ⟨hx, hb, hml, hown, hts⟩ (k_M_meetsEdge l dC dI cI cZ cF H.size k0 a I0 J0 f n i2 k mn cx cy S5 (by omega) (by assumption) (by omega) (by assumption) (by omega) (by omega)) (cwV 3 hts (zz_gV mw_1384 mw_1386 mw_44 mw_110 mc_yX11_meetsEdge) rfl rfl rfl (by decide +kernel) ⟨Nat.le_of_ble_eq_true rfl, Nat.le_of_ble_eq_true rfl⟩) (zPV2 (q0 := 0) (ci := 9) hPc hDc hK hXN rfl rfl) rfl rfl hl.1 rfl (lv_room (Nat.le_of_ble_eq_true rfl)) dX11_isSimple_218 ⟨Nat.le_of_ble_eq_true rfl, Nat.le_of_ble_eq_true rfl⟩) hS hFc hFc rfl (fun t H1 locs ht hB hk1 hS => ?_)
                                  obtain ⟨q_14, hP1, hD1⟩ := hB
                                  rw [ht] at hP1
                                  obtain ⟨hP, hD⟩ := va_join (wr := [(oa (a 1) cI 201 kd)]) (w1 := [(om k0 a I0 J0), (oa (a 11) cI 201 mn), (oa (a 12) cI 8040 cx), (oa (a 13) cI 8040 cy), (oa (a 32) cI 8 q_14)]) hP hD [0, 2, 3, 4, 5] [1] rfl rfl (by decide) (by decide) hk1 hFc hP1 hD1
                                  clear hk1 hPc hDc hFc hP1 hD1 ht
                                  generalize H1 = H at hP hS ⊢
                                  have hP := hP.sub (ws' := [(om k0 a I0 J0), (oa (a 1) cI 201 kd), (oa (a 11) cI 201 mn), (oa (a 12) cI 8040 cx), (oa (a 13) cI 8040 cy), (oa (a 32) cI 8 q_14)]) [1, 0, 2, 3, 4, 5] rfl
                                  have hD := hD.sub (ws' := [(om k0 a I0 J0), (oa (a 1) cI 201 kd), (oa (a 11) cI 201 mn), (oa (a 12) cI 8040 cx), (oa (a 13) cI 8040 cy), (oa (a 32) cI 8 q_14)]) [1, 0, 2, 3, 4, 5] (by decide) rfl
                                  have hP : va_P (dC, dI) classes [(om k0 a I0 J0), (oa (a 1) cI 201 kd), (oa (a 11) cI 201 mn), (oa (a 12) cI 8040 cx), (oa (a 13) cI 8040 cy), (oa (a 32) cI 8 q_14)] H := hP
                                  have hD : va_D A [(om k0 a I0 J0), (oa (a 1) cI 201 kd), (oa (a 11) cI 201 mn), (oa (a 12) cI 8040 cx), (oa (a 13) cI 8040 cy), (oa (a 32) cI 8 q_14)] := hD
                                  refine lv_if_eq (tgt := 226) hx hb dX11_isSimple_221 (by decide) (fun c_15 => ?_) (fun c_15 => ?_)
                                  · have c_15 : ¬ (eMt n (cF40 cx f) (cF40 cy f) i2 n (cF40 cx f) (cF40 cy f) k) := zp_0 c_15
                                    refine lv_iinc (v := nI (k + 1)) (lv' := [(5, .int (nI (k + 1))), (7, .int (pI (5 ≤ (kd f).toInt ∧ i2 = 0 ∧ k = eO (kd f).toInt n - 1))), (6, .int (pI (k = i2 + 1))), (4, .int (nI i2)), (3, .int (nI (eO (kd f).toInt n))), (2, .int (nI n)), (0, .ref k0), (1, .int (nI f))]) hx hb dX11_isSimple_226 hl (k := 2) rfl (nI_add k 1) (by decide) rfl (fun ls hl => ?_)
                                    refine lv_goto (tgt := 122) hx hb dX11_isSimple_229 (by decide) ?_
                                    exact ih_122 (k + 1) q_14 H locs ls (by omega) (by omega) (by omega) (by intro q h1 h2; rcases Nat.lt_or_ge q k with h | h; exact hal3 q h1 h; rw [show q = k by omega]; unfold mCn; refine ⟨fun h => ?_, fun h h4 => ?_, fun h h4 => ?_⟩ <;> first | assumption | (exfalso; omega) | (exfalso; exact absurd h4 (by assumption)) | (exfalso; exact absurd (by assumption) h4)) hP hD hS (lv_sub hl [0, 3, 4, 5, 6, 7] rfl)
                                  · have c_15 : eMt n (cF40 cx f) (cF40 cy f) i2 n (cF40 cx f) (cF40 cy f) k := zp_1 c_15
                                    refine lv_iconst (v := 0) hx hb dX11_isSimple_224 (by decide) ?_
                                    have hP9 := hP.sub (ws' := [(om k0 a I0 J0), (oa (a 1) cI 201 kd), (oa (a 11) cI 201 mn), (oa (a 12) cI 8040 cx), (oa (a 13) cI 8040 cy), (oa (a 32) cI 8 q_14)]) [0, 1, 2, 3, 4, 5] rfl
                                    have hD9 := hD.sub (ws' := [(om k0 a I0 J0), (oa (a 1) cI 201 kd), (oa (a 11) cI 201 mn), (oa (a 12) cI 8040 cx), (oa (a 13) cI 8040 cy), (oa (a 32) cI 8 q_14)]) [0, 1, 2, 3, 4, 5] (by decide) rfl
                                    rw [hQ9]
                                    exact W.zret (ty := .boolean) (v := 0) hx hb hr (rfl) (fun t ht hW => ⟨⟨congrArg (fun z => Outcome.returned (some (Value.int z))) (show (0 : Int32) = pI (mSm (kd f).toInt n (cF40 cx f) (cF40 cy f)) from (zp_f (by unfold mSm; intro h; have h9 := (h.2 (by assumption)).2.2.1 i2 k (by omega) (by omega); unfold mCn at h9; first | exact h9.1 (by assumption) (by assumption) | exact h9.2.1 (by assumption) (by assumption) (by assumption) | exact h9.2.2 (by assumption) (by assumption) (by assumption))).symm), q_14, by rw [ht]; exact hP9, hD9⟩, hS.F ht⟩) hS.2.2 dX11_isSimple_225
                                · have c_13 : 5 ≤ (kd f).toInt ∧ i2 = 0 ∧ k = eO (kd f).toInt n - 1 := zp_1 c_13
                                  refine lv_aload_n hx hb dX11_isSimple_197 rfl (lv_at hl 6 rfl) ?_
                                  refine lv_iload_n hx hb dX11_isSimple_198 rfl (lv_at hl 7 rfl) ?_
                                  refine lv_iload hx hb dX11_isSimple_199 (lv_at hl 2 rfl) ?_
                                  refine lv_iload hx hb dX11_isSimple_201 (lv_at hl 3 rfl) ?_
                                  have hPc := hP.sub (ws' := [(om k0 a I0 J0), (oa (a 11) cI 201 mn), (oa (a 12) cI 8040 cx), (oa (a 13) cI 8040 cy), (oa (a 32) cI 8 S5)]) [0, 2, 3, 4, 5] rfl
                                  have hDc := hD.sub (ws' := [(om k0 a I0 J0), (oa (a 11) cI 201 mn), (oa (a 12) cI 8040 cx), (oa (a 13) cI 8040 cy), (oa (a 32) cI 8 S5)]) [0, 2, 3, 4, 5] (by decide) rfl
                                  have hFc := va_free (wc := [(om k0 a I0 J0), (oa (a 11) cI 201 mn), (oa (a 12) cI 8040 cx), (oa (a 13) cI 8040 cy), (oa (a 32) cI 8 S5)]) hD hS hA [0, 2, 3, 4, 5] rfl
                                  refine zcall (st1 := [.int (pI (mFl n (cF40 cx f) (cF40 cy f) k i2))]) (va_runV (As := [.int (nI f), .int (nI k), .int (nI i2)]) (rest := []) ⟨hx, hb, hml, hown, hts⟩ (k_M_folds l dC dI cI cZ cF H.size k0 a I0 J0 f n k i2 mn cx cy S5 (by omega) (by assumption) (by omega) (by assumption) (by omega) (by omega)) (cwV 3 hts (zz_gV mw_1377 mw_1379 mw_43 mw_110 mc_yX11_folds) rfl rfl rfl (by decide +kernel) ⟨Nat.le_of_ble_eq_true rfl, Nat.le_of_ble_eq_true rfl⟩) (zPV2 (q0 := 0) (ci := 9) hPc hDc hK hXN rfl rfl) rfl rfl hl.1 rfl (lv_room (Nat.le_of_ble_eq_true rfl)) dX11_isSimple_203 ⟨Nat.le_of_ble_eq_true rfl, Nat.le_of_ble_eq_true rfl⟩) hS hFc hFc rfl (fun t H1 locs ht hB hk1 hS => ?_)
                                  obtain ⟨q_16, hP1, hD1⟩ := hB
                                  rw [ht] at hP1
                                  obtain ⟨hP, hD⟩ := va_join (wr := [(oa (a 1) cI 201 kd)]) (w1 := [(om k0 a I0 J0), (oa (a 11) cI 201 mn), (oa (a 12) cI 8040 cx), (oa (a 13) cI 8040 cy), (oa (a 32) cI 8 q_16)]) hP hD [0, 2, 3, 4, 5] [1] rfl rfl (by decide) (by decide) hk1 hFc hP1 hD1
                                  clear hk1 hPc hDc hFc hP1 hD1 ht
                                  generalize H1 = H at hP hS ⊢
                                  have hP := hP.sub (ws' := [(om k0 a I0 J0), (oa (a 1) cI 201 kd), (oa (a 11) cI 201 mn), (oa (a 12) cI 8040 cx), (oa (a 13) cI 8040 cy), (oa (a 32) cI 8 q_16)]) [1, 0, 2, 3, 4, 5] rfl
                                  have hD := hD.sub (ws' := [(om k0 a I0 J0), (oa (a 1) cI 201 kd), (oa (a 11) cI 201 mn), (oa (a 12) cI 8040 cx), (oa (a 13) cI 8040 cy), (oa (a 32) cI 8 q_16)]) [1, 0, 2, 3, 4, 5] (by decide) rfl
                                  have hP : va_P (dC, dI) classes [(om k0 a I0 J0), (oa (a 1) cI 201 kd), (oa (a 11) cI 201 mn), (oa (a 12) cI 8040 cx), (oa (a 13) cI 8040 cy), (oa (a 32) cI 8 q_16)] H := hP
                                  have hD : va_D A [(om k0 a I0 J0), (oa (a 1) cI 201 kd), (oa (a 11) cI 201 mn), (oa (a 12) cI 8040 cx), (oa (a 13) cI 8040 cy), (oa (a 32) cI 8 q_16)] := hD
                                  refine lv_if_eq (tgt := 226) hx hb dX11_isSimple_206 (by decide) (fun c_17 => ?_) (fun c_17 => ?_)
                                  · have c_17 : ¬ (mFl n (cF40 cx f) (cF40 cy f) k i2) := zp_0 c_17
                                    refine lv_iinc (v := nI (k + 1)) (lv' := [(5, .int (nI (k + 1))), (7, .int (pI (5 ≤ (kd f).toInt ∧ i2 = 0 ∧ k = eO (kd f).toInt n - 1))), (6, .int (pI (k = i2 + 1))), (4, .int (nI i2)), (3, .int (nI (eO (kd f).toInt n))), (2, .int (nI n)), (0, .ref k0), (1, .int (nI f))]) hx hb dX11_isSimple_226 hl (k := 2) rfl (nI_add k 1) (by decide) rfl (fun ls hl => ?_)
                                    refine lv_goto (tgt := 122) hx hb dX11_isSimple_229 (by decide) ?_
                                    exact ih_122 (k + 1) q_16 H locs ls (by omega) (by omega) (by omega) (by intro q h1 h2; rcases Nat.lt_or_ge q k with h | h; exact hal3 q h1 h; rw [show q = k by omega]; unfold mCn; refine ⟨fun h => ?_, fun h h4 => ?_, fun h h4 => ?_⟩ <;> first | assumption | (exfalso; omega) | (exfalso; exact absurd h4 (by assumption)) | (exfalso; exact absurd (by assumption) h4)) hP hD hS (lv_sub hl [0, 3, 4, 5, 6, 7] rfl)
                                  · have c_17 : mFl n (cF40 cx f) (cF40 cy f) k i2 := zp_1 c_17
                                    refine lv_goto (tgt := 224) hx hb dX11_isSimple_209 (by decide) ?_
                                    refine lv_iconst (v := 0) hx hb dX11_isSimple_224 (by decide) ?_
                                    have hP9 := hP.sub (ws' := [(om k0 a I0 J0), (oa (a 1) cI 201 kd), (oa (a 11) cI 201 mn), (oa (a 12) cI 8040 cx), (oa (a 13) cI 8040 cy), (oa (a 32) cI 8 q_16)]) [0, 1, 2, 3, 4, 5] rfl
                                    have hD9 := hD.sub (ws' := [(om k0 a I0 J0), (oa (a 1) cI 201 kd), (oa (a 11) cI 201 mn), (oa (a 12) cI 8040 cx), (oa (a 13) cI 8040 cy), (oa (a 32) cI 8 q_16)]) [0, 1, 2, 3, 4, 5] (by decide) rfl
                                    rw [hQ9]
                                    exact W.zret (ty := .boolean) (v := 0) hx hb hr (rfl) (fun t ht hW => ⟨⟨congrArg (fun z => Outcome.returned (some (Value.int z))) (show (0 : Int32) = pI (mSm (kd f).toInt n (cF40 cx f) (cF40 cy f)) from (zp_f (by unfold mSm; intro h; have h9 := (h.2 (by assumption)).2.2.1 i2 k (by omega) (by omega); unfold mCn at h9; first | exact h9.1 (by assumption) (by assumption) | exact h9.2.1 (by assumption) (by assumption) (by assumption) | exact h9.2.2 (by assumption) (by assumption) (by assumption))).symm), q_16, by rw [ht]; exact hP9, hD9⟩, hS.F ht⟩) hS.2.2 dX11_isSimple_225
                              · have c_12 : k = i2 + 1 := zp_1 c_12
                                refine lv_aload_n hx hb dX11_isSimple_177 rfl (lv_at hl 6 rfl) ?_
                                refine lv_iload_n hx hb dX11_isSimple_178 rfl (lv_at hl 7 rfl) ?_
                                refine lv_iload hx hb dX11_isSimple_179 (lv_at hl 3 rfl) ?_
                                refine lv_iload hx hb dX11_isSimple_181 (lv_at hl 2 rfl) ?_
                                have hPc := hP.sub (ws' := [(om k0 a I0 J0), (oa (a 11) cI 201 mn), (oa (a 12) cI 8040 cx), (oa (a 13) cI 8040 cy), (oa (a 32) cI 8 S5)]) [0, 2, 3, 4, 5] rfl
                                have hDc := hD.sub (ws' := [(om k0 a I0 J0), (oa (a 11) cI 201 mn), (oa (a 12) cI 8040 cx), (oa (a 13) cI 8040 cy), (oa (a 32) cI 8 S5)]) [0, 2, 3, 4, 5] (by decide) rfl
                                have hFc := va_free (wc := [(om k0 a I0 J0), (oa (a 11) cI 201 mn), (oa (a 12) cI 8040 cx), (oa (a 13) cI 8040 cy), (oa (a 32) cI 8 S5)]) hD hS hA [0, 2, 3, 4, 5] rfl
                                refine zcall (st1 := [.int (pI (mFl n (cF40 cx f) (cF40 cy f) i2 k))]) (va_runV (As := [.int (nI f), .int (nI i2), .int (nI k)]) (rest := []) ⟨hx, hb, hml, hown, hts⟩ (k_M_folds l dC dI cI cZ cF H.size k0 a I0 J0 f n i2 k mn cx cy S5 (by omega) (by assumption) (by omega) (by assumption) (by omega) (by omega)) (cwV 3 hts (zz_gV mw_1377 mw_1379 mw_43 mw_110 mc_yX11_folds) rfl rfl rfl (by decide +kernel) ⟨Nat.le_of_ble_eq_true rfl, Nat.le_of_ble_eq_true rfl⟩) (zPV2 (q0 := 0) (ci := 9) hPc hDc hK hXN rfl rfl) rfl rfl hl.1 rfl (lv_room (Nat.le_of_ble_eq_true rfl)) dX11_isSimple_183 ⟨Nat.le_of_ble_eq_true rfl, Nat.le_of_ble_eq_true rfl⟩) hS hFc hFc rfl (fun t H1 locs ht hB hk1 hS => ?_)
                                obtain ⟨q_18, hP1, hD1⟩ := hB
                                rw [ht] at hP1
                                obtain ⟨hP, hD⟩ := va_join (wr := [(oa (a 1) cI 201 kd)]) (w1 := [(om k0 a I0 J0), (oa (a 11) cI 201 mn), (oa (a 12) cI 8040 cx), (oa (a 13) cI 8040 cy), (oa (a 32) cI 8 q_18)]) hP hD [0, 2, 3, 4, 5] [1] rfl rfl (by decide) (by decide) hk1 hFc hP1 hD1
                                clear hk1 hPc hDc hFc hP1 hD1 ht
                                generalize H1 = H at hP hS ⊢
                                have hP := hP.sub (ws' := [(om k0 a I0 J0), (oa (a 1) cI 201 kd), (oa (a 11) cI 201 mn), (oa (a 12) cI 8040 cx), (oa (a 13) cI 8040 cy), (oa (a 32) cI 8 q_18)]) [1, 0, 2, 3, 4, 5] rfl
                                have hD := hD.sub (ws' := [(om k0 a I0 J0), (oa (a 1) cI 201 kd), (oa (a 11) cI 201 mn), (oa (a 12) cI 8040 cx), (oa (a 13) cI 8040 cy), (oa (a 32) cI 8 q_18)]) [1, 0, 2, 3, 4, 5] (by decide) rfl
                                have hP : va_P (dC, dI) classes [(om k0 a I0 J0), (oa (a 1) cI 201 kd), (oa (a 11) cI 201 mn), (oa (a 12) cI 8040 cx), (oa (a 13) cI 8040 cy), (oa (a 32) cI 8 q_18)] H := hP
                                have hD : va_D A [(om k0 a I0 J0), (oa (a 1) cI 201 kd), (oa (a 11) cI 201 mn), (oa (a 12) cI 8040 cx), (oa (a 13) cI 8040 cy), (oa (a 32) cI 8 q_18)] := hD
                                refine lv_if_eq (tgt := 226) hx hb dX11_isSimple_186 (by decide) (fun c_19 => ?_) (fun c_19 => ?_)
                                · have c_19 : ¬ (mFl n (cF40 cx f) (cF40 cy f) i2 k) := zp_0 c_19
                                  refine lv_iinc (v := nI (k + 1)) (lv' := [(5, .int (nI (k + 1))), (7, .int (pI (5 ≤ (kd f).toInt ∧ i2 = 0 ∧ k = eO (kd f).toInt n - 1))), (6, .int (pI (k = i2 + 1))), (4, .int (nI i2)), (3, .int (nI (eO (kd f).toInt n))), (2, .int (nI n)), (0, .ref k0), (1, .int (nI f))]) hx hb dX11_isSimple_226 hl (k := 2) rfl (nI_add k 1) (by decide) rfl (fun ls hl => ?_)
                                  refine lv_goto (tgt := 122) hx hb dX11_isSimple_229 (by decide) ?_
                                  exact ih_122 (k + 1) q_18 H locs ls (by omega) (by omega) (by omega) (by intro q h1 h2; rcases Nat.lt_or_ge q k with h | h; exact hal3 q h1 h; rw [show q = k by omega]; unfold mCn; refine ⟨fun h => ?_, fun h h4 => ?_, fun h h4 => ?_⟩ <;> first | assumption | (exfalso; omega) | (exfalso; exact absurd h4 (by assumption)) | (exfalso; exact absurd (by assumption) h4)) hP hD hS (lv_sub hl [0, 3, 4, 5, 6, 7] rfl)
                                · have c_19 : mFl n (cF40 cx f) (cF40 cy f) i2 k := zp_1 c_19
                                  refine lv_goto (tgt := 224) hx hb dX11_isSimple_189 (by decide) ?_
                                  refine lv_iconst (v := 0) hx hb dX11_isSimple_224 (by decide) ?_
                                  have hP9 := hP.sub (ws' := [(om k0 a I0 J0), (oa (a 1) cI 201 kd), (oa (a 11) cI 201 mn), (oa (a 12) cI 8040 cx), (oa (a 13) cI 8040 cy), (oa (a 32) cI 8 q_18)]) [0, 1, 2, 3, 4, 5] rfl
                                  have hD9 := hD.sub (ws' := [(om k0 a I0 J0), (oa (a 1) cI 201 kd), (oa (a 11) cI 201 mn), (oa (a 12) cI 8040 cx), (oa (a 13) cI 8040 cy), (oa (a 32) cI 8 q_18)]) [0, 1, 2, 3, 4, 5] (by decide) rfl
                                  rw [hQ9]
                                  exact W.zret (ty := .boolean) (v := 0) hx hb hr (rfl) (fun t ht hW => ⟨⟨congrArg (fun z => Outcome.returned (some (Value.int z))) (show (0 : Int32) = pI (mSm (kd f).toInt n (cF40 cx f) (cF40 cy f)) from (zp_f (by unfold mSm; intro h; have h9 := (h.2 (by assumption)).2.2.1 i2 k (by omega) (by omega); unfold mCn at h9; first | exact h9.1 (by assumption) (by assumption) | exact h9.2.1 (by assumption) (by assumption) (by assumption) | exact h9.2.2 (by assumption) (by assumption) (by assumption))).symm), q_18, by rw [ht]; exact hP9, hD9⟩, hS.F ht⟩) hS.2.2 dX11_isSimple_225
                            refine lv_if_eq (tgt := 169) hx hb dX11_isSimple_149 (by decide) (fun c_20 => ?_) (fun c_20 => ?_)
                            · have c_20 : ¬ (5 ≤ (kd f).toInt) := zp_0 c_20
                              refine lv_iconst (v := 0) hx hb dX11_isSimple_169 (by decide) ?_
                              refine zz_i (v := pI (5 ≤ (kd f).toInt ∧ i2 = 0 ∧ k = eO (kd f).toInt n - 1)) (by first | exact (zp_t ⟨by assumption, by omega, by omega⟩).symm | exact (zp_f (fun h => absurd h.1 (by assumption))).symm | exact (zp_f (by omega)).symm) ?_
                              exact hj_11 
                            · have c_20 : 5 ≤ (kd f).toInt := zp_1 c_20
                              refine lv_iload hx hb dX11_isSimple_152 (lv_at hl 2 rfl) ?_
                              refine lv_if_ne (tgt := 169) hx hb dX11_isSimple_154 (by decide) (fun c_21 => ?_) (fun c_21 => ?_)
                              · have c_21 : ¬ ((i2 : Nat) : Int) = 0 := zc_ne (nI_toInt (by omega)) (by decide) c_21
                                refine lv_iconst (v := 0) hx hb dX11_isSimple_169 (by decide) ?_
                                refine zz_i (v := pI (5 ≤ (kd f).toInt ∧ i2 = 0 ∧ k = eO (kd f).toInt n - 1)) (by first | exact (zp_t ⟨by assumption, by omega, by omega⟩).symm | exact (zp_f (fun h => absurd h.1 (by assumption))).symm | exact (zp_f (by omega)).symm) ?_
                                exact hj_11 
                              · have c_21 : ((i2 : Nat) : Int) = 0 := zc_eq (nI_toInt (by omega)) (by decide) c_21
                                refine lv_iload hx hb dX11_isSimple_157 (lv_at hl 1 rfl) ?_
                                refine lv_iload_n hx hb dX11_isSimple_159 rfl (lv_at hl 3 rfl) ?_
                                refine lv_iconst (v := 1) hx hb dX11_isSimple_160 (by decide) ?_
                                refine lv_isub hx hb dX11_isSimple_161 ?_
                                refine zz_i (v := nI ((eO (kd f).toInt n) - 1)) (pk_sub (a := eO (kd f).toInt n) (b := 1) (by omega)) ?_
                                refine lv_icmp_ne (tgt := 169) hx hb dX11_isSimple_162 (by decide) (fun c_22 => ?_) (fun c_22 => ?_)
                                · have c_22 : ¬ ((k : Nat) : Int) = (((eO (kd f).toInt n) - 1 : Nat) : Int) := zc_ne (nI_toInt (by omega)) (nI_toInt (by omega)) c_22
                                  refine lv_iconst (v := 0) hx hb dX11_isSimple_169 (by decide) ?_
                                  refine zz_i (v := pI (5 ≤ (kd f).toInt ∧ i2 = 0 ∧ k = eO (kd f).toInt n - 1)) (by first | exact (zp_t ⟨by assumption, by omega, by omega⟩).symm | exact (zp_f (fun h => absurd h.1 (by assumption))).symm | exact (zp_f (by omega)).symm) ?_
                                  exact hj_11 
                                · have c_22 : ((k : Nat) : Int) = (((eO (kd f).toInt n) - 1 : Nat) : Int) := zc_eq (nI_toInt (by omega)) (nI_toInt (by omega)) c_22
                                  refine lv_iconst (v := 1) hx hb dX11_isSimple_165 (by decide) ?_
                                  refine lv_goto (tgt := 170) hx hb dX11_isSimple_166 (by decide) ?_
                                  refine zz_i (v := pI (5 ≤ (kd f).toInt ∧ i2 = 0 ∧ k = eO (kd f).toInt n - 1)) (by first | exact (zp_t ⟨by assumption, by omega, by omega⟩).symm | exact (zp_f (fun h => absurd h.1 (by assumption))).symm | exact (zp_f (by omega)).symm) ?_
                                  exact hj_11 
                          refine lv_icmp_ne (tgt := 141) hx hb dX11_isSimple_134 (by decide) (fun c_23 => ?_) (fun c_23 => ?_)
                          · have c_23 : ¬ ((k : Nat) : Int) = ((i2 + 1 : Nat) : Int) := zc_ne (nI_toInt (by omega)) (nI_toInt (by omega)) c_23
                            refine lv_iconst (v := 0) hx hb dX11_isSimple_141 (by decide) ?_
                            refine zz_i (v := pI (k = i2 + 1)) (by first | exact (zp_t (by omega)).symm | exact (zp_f (by omega)).symm) ?_
                            exact hj_10 
                          · have c_23 : ((k : Nat) : Int) = ((i2 + 1 : Nat) : Int) := zc_eq (nI_toInt (by omega)) (nI_toInt (by omega)) c_23
                            refine lv_iconst (v := 1) hx hb dX11_isSimple_137 (by decide) ?_
                            refine lv_goto (tgt := 142) hx hb dX11_isSimple_138 (by decide) ?_
                            refine zz_i (v := pI (k = i2 + 1)) (by first | exact (zp_t (by omega)).symm | exact (zp_f (by omega)).symm) ?_
                            exact hj_10 
                    exact hl_122 _ (i2 + 1) S4 H locs ls (Nat.lt_succ_self _) (by omega) (by omega) (by intro q h1 h2; omega) hP hD hS (lv_sub hl [0, 1, 2, 3, 4, 5] rfl)
              exact hl_110 _ 0 S1 H locs ls (Nat.lt_succ_self _) (by omega) (by intro i k hi; omega) hP hD hS (lv_sub hl [0, 1, 2, 3, 4] rfl)
            · have c_4 : ((i : Nat) : Int) < ((eO (kd f).toInt n : Nat) : Int) := zc_nle (nI_toInt (by omega)) (nI_toInt (by omega)) c_4
              have hin9 : i < n := (by omega)
              have hnx := nxt_lt (n := n) (i := i) (by omega)
              refine lv_aload_n hx hb dX11_isSimple_61 rfl (lv_at hl 3 rfl) ?_
              refine lv_iload_n hx hb dX11_isSimple_62 rfl (lv_at hl 4 rfl) ?_
              refine lv_iload hx hb dX11_isSimple_63 (lv_at hl 0 rfl) ?_
              refine lv_iconst (v := 0) hx hb dX11_isSimple_65 (by decide) ?_
              have hPc := hP.sub (ws' := [(om k0 a I0 J0), (oa (a 11) cI 201 mn), (oa (a 12) cI 8040 cx), (oa (a 13) cI 8040 cy), (oa (a 32) cI 8 S1)]) [0, 2, 3, 4, 5] rfl
              have hDc := hD.sub (ws' := [(om k0 a I0 J0), (oa (a 11) cI 201 mn), (oa (a 12) cI 8040 cx), (oa (a 13) cI 8040 cy), (oa (a 32) cI 8 S1)]) [0, 2, 3, 4, 5] (by decide) rfl
              have hFc := va_free (wc := [(om k0 a I0 J0), (oa (a 11) cI 201 mn), (oa (a 12) cI 8040 cx), (oa (a 13) cI 8040 cy), (oa (a 32) cI 8 S1)]) hD hS hA [0, 2, 3, 4, 5] rfl
              refine zcall (st1 := []) (va_runV (As := [.int (nI f), .int (nI i), .int 0]) (rest := []) ⟨hx, hb, hml, hown, hts⟩ (k_M_edge l dC dI cI cZ cF H.size k0 a I0 J0 f n i 0 mn cx cy S1 (by omega) (by assumption) (by omega) (by omega) (by omega)) (cwV 3 hts (zz_gV mw_1373 mw_1375 mw_42 mw_110 mc_yX11_edge) rfl rfl rfl (by decide +kernel) ⟨Nat.le_of_ble_eq_true rfl, Nat.le_of_ble_eq_true rfl⟩) (zPV2 (q0 := 0) (ci := 9) hPc hDc hK hXN rfl rfl) rfl rfl hl.1 rfl (lv_room (Nat.le_of_ble_eq_true rfl)) dX11_isSimple_66 ⟨Nat.le_of_ble_eq_true rfl, Nat.le_of_ble_eq_true rfl⟩) hS hFc hFc rfl (fun t H1 locs ht hB hk1 hS => ?_)
              obtain ⟨S2, t0, t1, t2, t3, tr, hP1, hD1⟩ := hB
              rw [ht] at hP1
              obtain ⟨hP, hD⟩ := va_join (wr := [(oa (a 1) cI 201 kd)]) (w1 := [(om k0 a I0 J0), (oa (a 11) cI 201 mn), (oa (a 12) cI 8040 cx), (oa (a 13) cI 8040 cy), (oa (a 32) cI 8 S2)]) hP hD [0, 2, 3, 4, 5] [1] rfl rfl (by decide) (by decide) hk1 hFc hP1 hD1
              clear hk1 hPc hDc hFc hP1 hD1 ht
              generalize H1 = H at hP hS ⊢
              have hP := hP.sub (ws' := [(om k0 a I0 J0), (oa (a 1) cI 201 kd), (oa (a 11) cI 201 mn), (oa (a 12) cI 8040 cx), (oa (a 13) cI 8040 cy), (oa (a 32) cI 8 S2)]) [1, 0, 2, 3, 4, 5] rfl
              have hD := hD.sub (ws' := [(om k0 a I0 J0), (oa (a 1) cI 201 kd), (oa (a 11) cI 201 mn), (oa (a 12) cI 8040 cx), (oa (a 13) cI 8040 cy), (oa (a 32) cI 8 S2)]) [1, 0, 2, 3, 4, 5] (by decide) rfl
              have hP : va_P (dC, dI) classes [(om k0 a I0 J0), (oa (a 1) cI 201 kd), (oa (a 11) cI 201 mn), (oa (a 12) cI 8040 cx), (oa (a 13) cI 8040 cy), (oa (a 32) cI 8 S2)] H := hP
              have hD : va_D A [(om k0 a I0 J0), (oa (a 1) cI 201 kd), (oa (a 11) cI 201 mn), (oa (a 12) cI 8040 cx), (oa (a 13) cI 8040 cy), (oa (a 32) cI 8 S2)] := hD
              have v0 : S2 0 = cF40 cx f i := t0
              have v1 : S2 1 = cF40 cy f i := t1
              have v2 : S2 2 = cF40 cx f (nxt n i) := t2
              have v3 : S2 3 = cF40 cy f (nxt n i) := t3
              refine lv_aload_n hx hb dX11_isSimple_69 rfl (lv_at hl 3 rfl) ?_
              refine va_get (D := (dC, dI)) (ci := 9) (v := .ref (a 32)) (C := RX11) (T := TX11) (N := 55) hx hb hts inX11 hown hK hP 0 rfl rfl 32 (by decide) (hts _ mw_1191) (fun _ h9 => h9) rfl dX11_isSimple_70 ?_
              refine lv_iconst (v := 0) hx hb dX11_isSimple_73 (by decide) ?_
              refine z_iald hx hb hK hP 5 0 rfl rfl (e := 0) rfl (by omega) (by omega) dX11_isSimple_74 ?_
              refine zz_i (v := cF40 cx f i) (v0) ?_
              refine lv_aload_n hx hb dX11_isSimple_75 rfl (lv_at hl 3 rfl) ?_
              refine va_get (D := (dC, dI)) (ci := 9) (v := .ref (a 32)) (C := RX11) (T := TX11) (N := 55) hx hb hts inX11 hown hK hP 0 rfl rfl 32 (by decide) (hts _ mw_1191) (fun _ h9 => h9) rfl dX11_isSimple_76 ?_
              refine lv_iconst (v := 2) hx hb dX11_isSimple_79 (by decide) ?_
              refine z_iald hx hb hK hP 5 0 rfl rfl (e := 2) rfl (by omega) (by omega) dX11_isSimple_80 ?_
              refine zz_i (v := cF40 cx f (nxt n i)) (v2) ?_
              refine lv_icmp_ne (tgt := 101) hx hb dX11_isSimple_81 (by decide) (fun c_24 => ?_) (fun c_24 => ?_)
              · have c_24 : ¬ (cF40 cx f i).toInt = (cF40 cx f (nxt n i)).toInt := zc_ne rfl rfl c_24
                refine lv_iinc (v := nI (i + 1)) (lv' := [(4, .int (nI (i + 1))), (3, .int (nI (eO (kd f).toInt n))), (2, .int (nI n)), (0, .ref k0), (1, .int (nI f))]) hx hb dX11_isSimple_101 hl (k := 0) rfl (nI_add i 1) (by decide) rfl (fun ls hl => ?_)
                refine lv_goto (tgt := 55) hx hb dX11_isSimple_104 (by decide) ?_
                exact ih_55 (i + 1) S2 H locs ls (by omega) (by omega) (by intro j hj; rcases Nat.lt_or_ge j i with h | h; exact hall j h; rw [show j = i by omega]; omega) hP hD hS (lv_sub hl [0, 1, 2, 3, 4] rfl)
              · have c_24 : (cF40 cx f i).toInt = (cF40 cx f (nxt n i)).toInt := zc_eq rfl rfl c_24
                refine lv_aload_n hx hb dX11_isSimple_84 rfl (lv_at hl 3 rfl) ?_
                refine va_get (D := (dC, dI)) (ci := 9) (v := .ref (a 32)) (C := RX11) (T := TX11) (N := 55) hx hb hts inX11 hown hK hP 0 rfl rfl 32 (by decide) (hts _ mw_1191) (fun _ h9 => h9) rfl dX11_isSimple_85 ?_
                refine lv_iconst (v := 1) hx hb dX11_isSimple_88 (by decide) ?_
                refine z_iald hx hb hK hP 5 0 rfl rfl (e := 1) rfl (by omega) (by omega) dX11_isSimple_89 ?_
                refine zz_i (v := cF40 cy f i) (v1) ?_
                refine lv_aload_n hx hb dX11_isSimple_90 rfl (lv_at hl 3 rfl) ?_
                refine va_get (D := (dC, dI)) (ci := 9) (v := .ref (a 32)) (C := RX11) (T := TX11) (N := 55) hx hb hts inX11 hown hK hP 0 rfl rfl 32 (by decide) (hts _ mw_1191) (fun _ h9 => h9) rfl dX11_isSimple_91 ?_
                refine lv_iconst (v := 3) hx hb dX11_isSimple_94 (by decide) ?_
                refine z_iald hx hb hK hP 5 0 rfl rfl (e := 3) rfl (by omega) (by omega) dX11_isSimple_95 ?_
                refine zz_i (v := cF40 cy f (nxt n i)) (v3) ?_
                refine lv_icmp_ne (tgt := 101) hx hb dX11_isSimple_96 (by decide) (fun c_25 => ?_) (fun c_25 => ?_)
                · have c_25 : ¬ (cF40 cy f i).toInt = (cF40 cy f (nxt n i)).toInt := zc_ne rfl rfl c_25
                  refine lv_iinc (v := nI (i + 1)) (lv' := [(4, .int (nI (i + 1))), (3, .int (nI (eO (kd f).toInt n))), (2, .int (nI n)), (0, .ref k0), (1, .int (nI f))]) hx hb dX11_isSimple_101 hl (k := 0) rfl (nI_add i 1) (by decide) rfl (fun ls hl => ?_)
                  refine lv_goto (tgt := 55) hx hb dX11_isSimple_104 (by decide) ?_
                  exact ih_55 (i + 1) S2 H locs ls (by omega) (by omega) (by intro j hj; rcases Nat.lt_or_ge j i with h | h; exact hall j h; rw [show j = i by omega]; omega) hP hD hS (lv_sub hl [0, 1, 2, 3, 4] rfl)
                · have c_25 : (cF40 cy f i).toInt = (cF40 cy f (nxt n i)).toInt := zc_eq rfl rfl c_25
                  refine lv_iconst (v := 0) hx hb dX11_isSimple_99 (by decide) ?_
                  have hP9 := hP.sub (ws' := [(om k0 a I0 J0), (oa (a 1) cI 201 kd), (oa (a 11) cI 201 mn), (oa (a 12) cI 8040 cx), (oa (a 13) cI 8040 cy), (oa (a 32) cI 8 S2)]) [0, 1, 2, 3, 4, 5] rfl
                  have hD9 := hD.sub (ws' := [(om k0 a I0 J0), (oa (a 1) cI 201 kd), (oa (a 11) cI 201 mn), (oa (a 12) cI 8040 cx), (oa (a 13) cI 8040 cy), (oa (a 32) cI 8 S2)]) [0, 1, 2, 3, 4, 5] (by decide) rfl
                  rw [hQ9]
                  exact W.zret (ty := .boolean) (v := 0) hx hb hr (rfl) (fun t ht hW => ⟨⟨congrArg (fun z => Outcome.returned (some (Value.int z))) (show (0 : Int32) = pI (mSm (kd f).toInt n (cF40 cx f) (cF40 cy f)) from (zp_f (by unfold mSm; intro h; exact (h.2 (by assumption)).2.1 i (by omega) (by omega))).symm), S2, by rw [ht]; exact hP9, hD9⟩, hS.F ht⟩) hS.2.2 dX11_isSimple_100
        exact hl_55 _ 0 S0 H locs ls (Nat.lt_succ_self _) (by omega) (by intro j hj; omega) hP hD hS (lv_sub hl [0, 1, 2, 3, 4] rfl)
      · have c_3 : ((n : Nat) : Int) < ((mnc (kd f).toInt : Nat) : Int) := zc_nle (nI_toInt (by omega)) (nI_toInt (by omega)) c_3
        refine lv_iconst (v := 0) hx hb dX11_isSimple_44 (by decide) ?_
        have hP9 := hP.sub (ws' := [(om k0 a I0 J0), (oa (a 1) cI 201 kd), (oa (a 11) cI 201 mn), (oa (a 12) cI 8040 cx), (oa (a 13) cI 8040 cy), (oa (a 32) cI 8 S0)]) [0, 1, 2, 3, 4, 5] rfl
        have hD9 := hD.sub (ws' := [(om k0 a I0 J0), (oa (a 1) cI 201 kd), (oa (a 11) cI 201 mn), (oa (a 12) cI 8040 cx), (oa (a 13) cI 8040 cy), (oa (a 32) cI 8 S0)]) [0, 1, 2, 3, 4, 5] (by decide) rfl
        rw [hQ9]
        exact W.zret (ty := .boolean) (v := 0) hx hb hr (rfl) (fun t ht hW => ⟨⟨congrArg (fun z => Outcome.returned (some (Value.int z))) (show (0 : Int32) = pI (mSm (kd f).toInt n (cF40 cx f) (cF40 cy f)) from (zp_f (by unfold mSm; intro h; have h9 := (h.2 (by assumption)).1; omega)).symm), S0, by rw [ht]; exact hP9, hD9⟩, hS.F ht⟩) hS.2.2 dX11_isSimple_45
    refine lv_if_eq (tgt := 40) hx hb dX11_isSimple_33 (by decide) (fun c_26 => ?_) (fun c_26 => ?_)
    · have c_26 : ¬ (5 ≤ (kd f).toInt) := zp_0 c_26
      refine lv_iconst (v := 2) hx hb dX11_isSimple_40 (by decide) ?_
      refine zz_i (v := nI (mnc (kd f).toInt)) (by first | (rw [hmc.1 (by assumption)]; rfl) | (rw [hmc.2 (by assumption)]; rfl)) ?_
      exact hj_2 
    · have c_26 : 5 ≤ (kd f).toInt := zp_1 c_26
      refine lv_iconst (v := 3) hx hb dX11_isSimple_36 (by decide) ?_
      refine lv_goto (tgt := 41) hx hb dX11_isSimple_37 (by decide) ?_
      refine zz_i (v := nI (mnc (kd f).toInt)) (by first | (rw [hmc.1 (by assumption)]; rfl) | (rw [hmc.2 (by assumption)]; rfl)) ?_
      exact hj_2 
  · have c_1 : (kd f).toInt = 0 := zc_eq rfl (by decide) c_1
    refine lv_iload_n hx hb dX11_isSimple_16 rfl (lv_at hl 0 rfl) ?_
    refine lv_iconst (v := 1) hx hb dX11_isSimple_17 (by decide) ?_
    refine lv_icmp_ne (tgt := 25) hx hb dX11_isSimple_18 (by decide) (fun c_27 => ?_) (fun c_27 => ?_)
    · have c_27 : ¬ ((n : Nat) : Int) = 1 := zc_ne (nI_toInt (by omega)) (by decide) c_27
      refine lv_iconst (v := 0) hx hb dX11_isSimple_25 (by decide) ?_
      have hP9 := hP.sub (ws' := [(om k0 a I0 J0), (oa (a 1) cI 201 kd), (oa (a 11) cI 201 mn), (oa (a 12) cI 8040 cx), (oa (a 13) cI 8040 cy), (oa (a 32) cI 8 S0)]) [0, 1, 2, 3, 4, 5] rfl
      have hD9 := hD.sub (ws' := [(om k0 a I0 J0), (oa (a 1) cI 201 kd), (oa (a 11) cI 201 mn), (oa (a 12) cI 8040 cx), (oa (a 13) cI 8040 cy), (oa (a 32) cI 8 S0)]) [0, 1, 2, 3, 4, 5] (by decide) rfl
      rw [hQ9]
      exact W.zret (ty := .boolean) (v := 0) hx hb hr (rfl) (fun t ht hW => ⟨⟨congrArg (fun z => Outcome.returned (some (Value.int z))) (show (0 : Int32) = pI (mSm (kd f).toInt n (cF40 cx f) (cF40 cy f)) from (zp_f (by unfold mSm; omega)).symm), S0, by rw [ht]; exact hP9, hD9⟩, hS.F ht⟩) hS.2.2 dX11_isSimple_26
    · have c_27 : ((n : Nat) : Int) = 1 := zc_eq (nI_toInt (by omega)) (by decide) c_27
      refine lv_iconst (v := 1) hx hb dX11_isSimple_21 (by decide) ?_
      refine lv_goto (tgt := 26) hx hb dX11_isSimple_22 (by decide) ?_
      have hP9 := hP.sub (ws' := [(om k0 a I0 J0), (oa (a 1) cI 201 kd), (oa (a 11) cI 201 mn), (oa (a 12) cI 8040 cx), (oa (a 13) cI 8040 cy), (oa (a 32) cI 8 S0)]) [0, 1, 2, 3, 4, 5] rfl
      have hD9 := hD.sub (ws' := [(om k0 a I0 J0), (oa (a 1) cI 201 kd), (oa (a 11) cI 201 mn), (oa (a 12) cI 8040 cx), (oa (a 13) cI 8040 cy), (oa (a 32) cI 8 S0)]) [0, 1, 2, 3, 4, 5] (by decide) rfl
      rw [hQ9]
      exact W.zret (ty := .boolean) (v := 1) hx hb hr (rfl) (fun t ht hW => ⟨⟨congrArg (fun z => Outcome.returned (some (Value.int z))) (show (1 : Int32) = pI (mSm (kd f).toInt n (cF40 cx f) (cF40 cy f)) from (zp_t (by unfold mSm; omega)).symm), S0, by rw [ht]; exact hP9, hD9⟩, hS.F ht⟩) hS.2.2 dX11_isSimple_26
