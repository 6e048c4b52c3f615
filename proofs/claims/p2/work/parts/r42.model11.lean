set_option maxHeartbeats 4000000 in
set_option maxRecDepth 100000 in
theorem k_M_isLawfulTo_p (l : Launch) (dC : Nat → ClassId) (dI : Nat → Nat → Nat) (cI cZ cF : ClassId) (sz : Nat) (k0 : Nat) (a : Nat → Nat) (I0 : Nat → Int32) (J0 : Nat → Int64) (f : Nat) (n : Nat) (g : Nat) (m2 : Nat) (on : Nat) (b : Nat) (kd : Nat → Int32) (mn : Nat → Int32) (cx : Nat → Int32) (cy : Nat → Int32) (S0 : Nat → Int32) (T0 : Nat → Int32) (P0 : Nat → Int32) (Q0 : Nat → Int32) (ox : Nat → Int32) (oy : Nat → Int32) (mt : Nat → Int32) (wi : Nat → Int32) (ins : Nat → Int32) (MT : Prop) (WI : Prop) (IN : Nat → Prop) (hf_f : f ≤ 200) (hm_f : mn f = nI n) (hn_f : 1 ≤ n ∧ n ≤ 40) (hp_f : pls n (cF40 cx f) (cF40 cy f)) (hf_g : g ≤ 200) (hm_g : mn g = nI m2) (hn_g : 1 ≤ m2 ∧ m2 ≤ 40) (hp_g : pls m2 (cF40 cx g) (cF40 cy g)) (hon : I0 35 = nI on) (ho40 : on ≤ 40) (ho1 : 1 ≤ on) (hpo : pls on ox oy) (hmt : mt g = pI MT) (hwi : 5 ≤ (kd g).toInt → wi g = pI WI) (hin : ∀ k, k < m2 → 5 ≤ (kd f).toInt → ins (40 * g + k) = pI (IN k)) (hb9 : b < on) : Met l yX11_isLawfulTo (.code yX11_isLawfulTo cX11_isLawfulTo 8 (some .boolean) :: ws0) ({ frames := 4, cells := 0, slots := 0, locals := 108 } : Room) (va_Pc [.ref k0, .int (nI f), .int (nI g), .int 1, .int (nI b)] (zPre (dC, dI) classes (zTy cI cZ cF) [(om k0 a I0 J0), (oa (a 1) cI 201 kd), (oa (a 11) cI 201 mn), (oa (a 12) cI 8040 cx), (oa (a 13) cI 8040 cy), (oa (a 32) cI 8 S0), (oa (a 40) cI 6 T0), (oa (a 29) cI 42 P0), (oa (a 30) cI 42 Q0), (oa (a 33) cI 42 ox), (oa (a 34) cI 42 oy), (oa (a 37) cZ 201 mt), (oa (a 38) cZ 201 wi), (oa (a 39) cZ 8040 ins)] sz zXN)) (zQ (some (.int (pI (lawTo (ox 0) (oy 0) (kd f).toInt n (cF40 cx f) (cF40 cy f) (kd g).toInt m2 (cF40 cx g) (cF40 cy g) MT WI IN (fun k => swB on ox oy b (cF40 cx g k).toInt (cF40 cy g k).toInt))))) (fun t => ∃ (z9 : Int32), ∃ (S1 : Nat → Int32), ∃ (T1 : Nat → Int32), ∃ (P1 : Nat → Int32), ∃ (Q1 : Nat → Int32), va_P (dC, dI) classes [(om k0 a (upd I0 31 z9) J0), (oa (a 1) cI 201 kd), (oa (a 11) cI 201 mn), (oa (a 12) cI 8040 cx), (oa (a 13) cI 8040 cy), (oa (a 32) cI 8 S1), (oa (a 40) cI 6 T1), (oa (a 29) cI 42 P1), (oa (a 30) cI 42 Q1), (oa (a 33) cI 42 ox), (oa (a 34) cI 42 oy), (oa (a 37) cZ 201 mt), (oa (a 38) cZ 201 wi), (oa (a 39) cZ 8040 ins)] t.heap ∧ va_D (va_A [(om k0 a I0 J0), (oa (a 1) cI 201 kd), (oa (a 11) cI 201 mn), (oa (a 12) cI 8040 cx), (oa (a 13) cI 8040 cy), (oa (a 32) cI 8 S0), (oa (a 40) cI 6 T0), (oa (a 29) cI 42 P0), (oa (a 30) cI 42 Q0), (oa (a 33) cI 42 ox), (oa (a 34) cI 42 oy), (oa (a 37) cZ 201 mt), (oa (a 38) cZ 201 wi), (oa (a 39) cZ 8040 ins)] sz) [(om k0 a (upd I0 31 z9) J0), (oa (a 1) cI 201 kd), (oa (a 11) cI 201 mn), (oa (a 12) cI 8040 cx), (oa (a 13) cI 8040 cy), (oa (a 32) cI 8 S1), (oa (a 40) cI 6 T1), (oa (a 29) cI 42 P1), (oa (a 30) cI 42 Q1), (oa (a 33) cI 42 ox), (oa (a 34) cI 42 oy), (oa (a 37) cZ 201 mt), (oa (a 38) cZ 201 wi), (oa (a 39) cZ 8040 ins)]) (va_A [(om k0 a I0 J0), (oa (a 1) cI 201 kd), (oa (a 11) cI 201 mn), (oa (a 12) cI 8040 cx), (oa (a 13) cI 8040 cy), (oa (a 32) cI 8 S0), (oa (a 40) cI 6 T0), (oa (a 29) cI 42 P0), (oa (a 30) cI 42 Q0), (oa (a 33) cI 42 ox), (oa (a 34) cI 42 oy), (oa (a 37) cZ 201 mt), (oa (a 38) cZ 201 wi), (oa (a 39) cZ 8040 ins)] sz)) 0 0 (va_A [(om k0 a I0 J0), (oa (a 1) cI 201 kd), (oa (a 11) cI 201 mn), (oa (a 12) cI 8040 cx), (oa (a 13) cI 8040 cy), (oa (a 32) cI 8 S0), (oa (a 40) cI 6 T0), (oa (a 29) cI 42 P0), (oa (a 30) cI 42 Q0), (oa (a 33) cI 42 ox), (oa (a 34) cI 42 oy), (oa (a 37) cZ 201 mt), (oa (a 38) cZ 201 wi), (oa (a 39) cZ 8040 ins)] sz) := by
  refine Met.ofW (cc := cX11_isLawfulTo) (maxL := 8) (ret := (some .boolean)) (by decide) rfl ?_
  intro p e s m args below meth c s₁ B hml hv
  obtain ⟨rfl, hsz, hP, hK, hD0, hXN⟩ := hv
  have hx := B.exec
  have hb := B.bytes
  have hr := B.returns
  have hts0 := atoms_spec (ws := .code yX11_isLawfulTo cX11_isLawfulTo 8 (some .boolean) :: ws0) B.pre
  have hts : ∀ w9 ∈ ws0, w9.before ([.ref k0, .int (nI f), .int (nI g), .int 1, .int (nI b)] : List Value).toArray s = true := fun w9 h => hts0 w9 (List.mem_cons_of_mem _ h)
  have hown : s.vm.findClass "ScaleShopModel" = some m.cls := findClass_of_methodNamed B.named
  have hlocks := B.notSynchronized
  subst hsz
  have hD := hD0.self (sz := s.heap.size)
  clear hD0
  generalize hAe : va_A [(om k0 a I0 J0), (oa (a 1) cI 201 kd), (oa (a 11) cI 201 mn), (oa (a 12) cI 8040 cx), (oa (a 13) cI 8040 cy), (oa (a 32) cI 8 S0), (oa (a 40) cI 6 T0), (oa (a 29) cI 42 P0), (oa (a 30) cI 42 Q0), (oa (a 33) cI 42 ox), (oa (a 34) cI 42 oy), (oa (a 37) cZ 201 mt), (oa (a 38) cZ 201 wi), (oa (a 39) cZ 8040 ins)] s.heap.size = A at hD ⊢
  have hA : ∀ q : Nat, s.heap.size ≤ q → A q := fun q h => by rw [← hAe]; exact Or.inr h
  clear hAe
  have hS : va_S A s.heap s.heap [] := va_S.rf
  have hP : va_P (dC, dI) classes [(om k0 a I0 J0), (oa (a 1) cI 201 kd), (oa (a 11) cI 201 mn), (oa (a 12) cI 8040 cx), (oa (a 13) cI 8040 cy), (oa (a 32) cI 8 S0), (oa (a 40) cI 6 T0), (oa (a 29) cI 42 P0), (oa (a 30) cI 42 Q0), (oa (a 33) cI 42 ox), (oa (a 34) cI 42 oy), (oa (a 37) cZ 201 mt), (oa (a 38) cZ 201 wi), (oa (a 39) cZ 8040 ins)] s.heap := hP
  obtain ⟨Q9, hQ9⟩ : ∃ Q9 : State → Prop, Q9 = MQ below (zQ (some (.int (pI (lawTo (ox 0) (oy 0) (kd f).toInt n (cF40 cx f) (cF40 cy f) (kd g).toInt m2 (cF40 cx g) (cF40 cy g) MT WI IN (fun k => swB on ox oy b (cF40 cx g k).toInt (cF40 cy g k).toInt))))) (fun t => ∃ (z9 : Int32), ∃ (S1 : Nat → Int32), ∃ (T1 : Nat → Int32), ∃ (P1 : Nat → Int32), ∃ (Q1 : Nat → Int32), va_P (dC, dI) classes [(om k0 a (upd I0 31 z9) J0), (oa (a 1) cI 201 kd), (oa (a 11) cI 201 mn), (oa (a 12) cI 8040 cx), (oa (a 13) cI 8040 cy), (oa (a 32) cI 8 S1), (oa (a 40) cI 6 T1), (oa (a 29) cI 42 P1), (oa (a 30) cI 42 Q1), (oa (a 33) cI 42 ox), (oa (a 34) cI 42 oy), (oa (a 37) cZ 201 mt), (oa (a 38) cZ 201 wi), (oa (a 39) cZ 8040 ins)] t.heap ∧ va_D A [(om k0 a (upd I0 31 z9) J0), (oa (a 1) cI 201 kd), (oa (a 11) cI 201 mn), (oa (a 12) cI 8040 cx), (oa (a 13) cI 8040 cy), (oa (a 32) cI 8 S1), (oa (a 40) cI 6 T1), (oa (a 29) cI 42 P1), (oa (a 30) cI 42 Q1), (oa (a 33) cI 42 ox), (oa (a 34) cI 42 oy), (oa (a 37) cZ 201 mt), (oa (a 38) cZ 201 wi), (oa (a 39) cZ 8040 ins)]) A) ([.ref k0, .int (nI f), .int (nI g), .int 1, .int (nI b)] : List Value).toArray s 0 0 A := ⟨_, rfl⟩
  rw [← hQ9]
  have hl := lv_entry ([.ref k0, .int (nI f), .int (nI g), .int 1, .int (nI b)]) (n := 8) (Nat.le_of_ble_eq_true rfl)
  rw [lg_entry_eq]
  generalize (lg_sl ([.ref k0, .int (nI f), .int (nI g), .int 1, .int (nI b)]) ++ List.replicate (8 - (lg_sl ([.ref k0, .int (nI f), .int (nI g), .int 1, .int (nI b)])).length) Slot.unset).toArray = ls at hl ⊢
  have hl : lv_has ls 8 [(0, .ref k0), (1, .int (nI f)), (2, .int (nI g)), (3, .int 1), (4, .int (nI b))] := hl
  refine lv_aload_n hx hb dX11_isLawfulTo_0 rfl (lv_at hl 0 rfl) ?_
  refine lv_iload_n hx hb dX11_isLawfulTo_1 rfl (lv_at hl 1 rfl) ?_
  refine lv_iload_n hx hb dX11_isLawfulTo_2 rfl (lv_at hl 2 rfl) ?_
  have hPc := hP.sub (ws' := [(om k0 a I0 J0), (oa (a 1) cI 201 kd), (oa (a 11) cI 201 mn), (oa (a 12) cI 8040 cx), (oa (a 13) cI 8040 cy), (oa (a 32) cI 8 S0)]) [0, 1, 2, 3, 4, 5] rfl
  have hDc := hD.sub (ws' := [(om k0 a I0 J0), (oa (a 1) cI 201 kd), (oa (a 11) cI 201 mn), (oa (a 12) cI 8040 cx), (oa (a 13) cI 8040 cy), (oa (a 32) cI 8 S0)]) [0, 1, 2, 3, 4, 5] (by decide) rfl
  have hFc := va_free (wc := [(om k0 a I0 J0), (oa (a 1) cI 201 kd), (oa (a 11) cI 201 mn), (oa (a 12) cI 8040 cx), (oa (a 13) cI 8040 cy), (oa (a 32) cI 8 S0)]) hD hS hA [0, 1, 2, 3, 4, 5] rfl
  refine zcall (st1 := [.int (pI (∃ i, i < eO (kd f).toInt n ∧ ∃ j, j < eO (kd g).toInt m2 ∧ eMt n (cF40 cx f) (cF40 cy f) i m2 (cF40 cx g) (cF40 cy g) j))]) (va_runV (As := [.int (nI f), .int (nI g)]) (rest := []) ⟨hx, hb, hml, hown, hts⟩ (k_M_isMet l dC dI cI cZ cF s.heap.size k0 a I0 J0 f n g m2 kd mn cx cy S0 (by omega) (by assumption) (by omega) (by assumption) (by omega) (by assumption) (by omega) (by assumption)) (cwV 2 hts (zz_gV mw_1467 mw_1469 mw_61 mw_110 mc_yX11_isMet) rfl rfl rfl (by decide +kernel) ⟨Nat.le_of_ble_eq_true rfl, Nat.le_of_ble_eq_true rfl⟩) (zPV2 (q0 := 0) (ci := 9) hPc hDc hK hXN rfl rfl) rfl rfl hl.1 rfl (lv_room (Nat.le_of_ble_eq_true rfl)) dX11_isLawfulTo_3 ⟨Nat.le_of_ble_eq_true rfl, Nat.le_of_ble_eq_true rfl⟩) hS hFc hFc rfl (fun t H1 locs ht hB hk1 hS => ?_)
  obtain ⟨q_1, hP1, hD1⟩ := hB
  rw [ht] at hP1
  obtain ⟨hP, hD⟩ := va_join (wr := [(oa (a 40) cI 6 T0), (oa (a 29) cI 42 P0), (oa (a 30) cI 42 Q0), (oa (a 33) cI 42 ox), (oa (a 34) cI 42 oy), (oa (a 37) cZ 201 mt), (oa (a 38) cZ 201 wi), (oa (a 39) cZ 8040 ins)]) (w1 := [(om k0 a I0 J0), (oa (a 1) cI 201 kd), (oa (a 11) cI 201 mn), (oa (a 12) cI 8040 cx), (oa (a 13) cI 8040 cy), (oa (a 32) cI 8 q_1)]) hP hD [0, 1, 2, 3, 4, 5] [6, 7, 8, 9, 10, 11, 12, 13] rfl rfl (by decide) (by decide) hk1 hFc hP1 hD1
  clear hk1 hPc hDc hFc hP1 hD1 ht
  generalize H1 = H at hP hS ⊢
  have hP := hP.sub (ws' := [(om k0 a I0 J0), (oa (a 1) cI 201 kd), (oa (a 11) cI 201 mn), (oa (a 12) cI 8040 cx), (oa (a 13) cI 8040 cy), (oa (a 32) cI 8 q_1), (oa (a 40) cI 6 T0), (oa (a 29) cI 42 P0), (oa (a 30) cI 42 Q0), (oa (a 33) cI 42 ox), (oa (a 34) cI 42 oy), (oa (a 37) cZ 201 mt), (oa (a 38) cZ 201 wi), (oa (a 39) cZ 8040 ins)]) [8, 9, 10, 11, 12, 13, 0, 1, 2, 3, 4, 5, 6, 7] rfl
  have hD := hD.sub (ws' := [(om k0 a I0 J0), (oa (a 1) cI 201 kd), (oa (a 11) cI 201 mn), (oa (a 12) cI 8040 cx), (oa (a 13) cI 8040 cy), (oa (a 32) cI 8 q_1), (oa (a 40) cI 6 T0), (oa (a 29) cI 42 P0), (oa (a 30) cI 42 Q0), (oa (a 33) cI 42 ox), (oa (a 34) cI 42 oy), (oa (a 37) cZ 201 mt), (oa (a 38) cZ 201 wi), (oa (a 39) cZ 8040 ins)]) [8, 9, 10, 11, 12, 13, 0, 1, 2, 3, 4, 5, 6, 7] (by decide) rfl
  have hP : va_P (dC, dI) classes [(om k0 a I0 J0), (oa (a 1) cI 201 kd), (oa (a 11) cI 201 mn), (oa (a 12) cI 8040 cx), (oa (a 13) cI 8040 cy), (oa (a 32) cI 8 q_1), (oa (a 40) cI 6 T0), (oa (a 29) cI 42 P0), (oa (a 30) cI 42 Q0), (oa (a 33) cI 42 ox), (oa (a 34) cI 42 oy), (oa (a 37) cZ 201 mt), (oa (a 38) cZ 201 wi), (oa (a 39) cZ 8040 ins)] H := hP
  have hD : va_D A [(om k0 a I0 J0), (oa (a 1) cI 201 kd), (oa (a 11) cI 201 mn), (oa (a 12) cI 8040 cx), (oa (a 13) cI 8040 cy), (oa (a 32) cI 8 q_1), (oa (a 40) cI 6 T0), (oa (a 29) cI 42 P0), (oa (a 30) cI 42 Q0), (oa (a 33) cI 42 ox), (oa (a 34) cI 42 oy), (oa (a 37) cZ 201 mt), (oa (a 38) cZ 201 wi), (oa (a 39) cZ 8040 ins)] := hD
  refine zz_i (v := pI (mtF (kd f).toInt n (cF40 cx f) (cF40 cy f) (kd g).toInt m2 (cF40 cx g) (cF40 cy g))) (rfl) ?_
  refine lv_aload_n hx hb dX11_isLawfulTo_6 rfl (lv_at hl 0 rfl) ?_
  refine va_get (D := (dC, dI)) (ci := 9) (v := .ref (a 37)) (C := RX11) (T := TX11) (N := 55) hx hb hts inX11 hown hK hP 0 rfl rfl 37 (by decide) (hts _ mw_1196) (fun _ h9 => h9) rfl dX11_isLawfulTo_7 ?_
  refine lv_iload_n hx hb dX11_isLawfulTo_10 rfl (lv_at hl 2 rfl) ?_
  refine z_zald hx hb hK hP 11 1 rfl rfl (e := g) rfl (by omega) (by omega) dX11_isLawfulTo_11 ?_
  refine zz_i (v := pI MT) (hmt) ?_
  refine lv_icmp_eq (tgt := 17) hx hb dX11_isLawfulTo_12 (by decide) (fun c_2 => ?_) (fun c_2 => ?_)
  · have c_2 : (pI (mtF (kd f).toInt n (cF40 cx f) (cF40 cy f) (kd g).toInt m2 (cF40 cx g) (cF40 cy g))).toInt = (pI MT).toInt := zc_eq rfl rfl c_2
    refine lv_aload_n hx hb dX11_isLawfulTo_17 rfl (lv_at hl 0 rfl) ?_
    refine lv_iload_n hx hb dX11_isLawfulTo_18 rfl (lv_at hl 2 rfl) ?_
    have hPc := hP.sub (ws' := [(om k0 a I0 J0), (oa (a 1) cI 201 kd)]) [0, 1] rfl
    have hDc := hD.sub (ws' := [(om k0 a I0 J0), (oa (a 1) cI 201 kd)]) [0, 1] (by decide) rfl
    have hFc := va_free (wc := [(om k0 a I0 J0), (oa (a 1) cI 201 kd)]) hD hS hA [0, 1] rfl
    refine zcall (st1 := [.int (pI (5 ≤ (kd g).toInt))]) (va_runV (As := [.int (nI g)]) (rest := []) ⟨hx, hb, hml, hown, hts⟩ (k_M_isRing l dC dI cI cZ cF H.size k0 a I0 J0 g kd (by omega)) (cwV 1 hts (zz_gV mw_1365 mw_1367 mw_40 mw_110 mc_yX11_isRing) rfl rfl rfl (by decide +kernel) ⟨Nat.le_of_ble_eq_true rfl, Nat.le_of_ble_eq_true rfl⟩) (zPV2 (q0 := 0) (ci := 9) hPc hDc hK hXN rfl rfl) rfl rfl hl.1 rfl (lv_room (Nat.le_of_ble_eq_true rfl)) dX11_isLawfulTo_19 ⟨Nat.le_of_ble_eq_true rfl, Nat.le_of_ble_eq_true rfl⟩) hS hFc hFc rfl (fun t H1 locs ht hB hk1 hS => ?_)
    obtain ⟨hP1, hD1⟩ := hB
    rw [ht] at hP1
    obtain ⟨hP, hD⟩ := va_join (wr := [(oa (a 11) cI 201 mn), (oa (a 12) cI 8040 cx), (oa (a 13) cI 8040 cy), (oa (a 32) cI 8 q_1), (oa (a 40) cI 6 T0), (oa (a 29) cI 42 P0), (oa (a 30) cI 42 Q0), (oa (a 33) cI 42 ox), (oa (a 34) cI 42 oy), (oa (a 37) cZ 201 mt), (oa (a 38) cZ 201 wi), (oa (a 39) cZ 8040 ins)]) (w1 := [(om k0 a I0 J0), (oa (a 1) cI 201 kd)]) hP hD [0, 1] [2, 3, 4, 5, 6, 7, 8, 9, 10, 11, 12, 13] rfl rfl (by decide) (by decide) hk1 hFc hP1 hD1
    clear hk1 hPc hDc hFc hP1 hD1 ht
    generalize H1 = H at hP hS ⊢
    have hP := hP.sub (ws' := [(om k0 a I0 J0), (oa (a 1) cI 201 kd), (oa (a 11) cI 201 mn), (oa (a 12) cI 8040 cx), (oa (a 13) cI 8040 cy), (oa (a 32) cI 8 q_1), (oa (a 40) cI 6 T0), (oa (a 29) cI 42 P0), (oa (a 30) cI 42 Q0), (oa (a 33) cI 42 ox), (oa (a 34) cI 42 oy), (oa (a 37) cZ 201 mt), (oa (a 38) cZ 201 wi), (oa (a 39) cZ 8040 ins)]) [12, 13, 0, 1, 2, 3, 4, 5, 6, 7, 8, 9, 10, 11] rfl
    have hD := hD.sub (ws' := [(om k0 a I0 J0), (oa (a 1) cI 201 kd), (oa (a 11) cI 201 mn), (oa (a 12) cI 8040 cx), (oa (a 13) cI 8040 cy), (oa (a 32) cI 8 q_1), (oa (a 40) cI 6 T0), (oa (a 29) cI 42 P0), (oa (a 30) cI 42 Q0), (oa (a 33) cI 42 ox), (oa (a 34) cI 42 oy), (oa (a 37) cZ 201 mt), (oa (a 38) cZ 201 wi), (oa (a 39) cZ 8040 ins)]) [12, 13, 0, 1, 2, 3, 4, 5, 6, 7, 8, 9, 10, 11] (by decide) rfl
    have hP : va_P (dC, dI) classes [(om k0 a I0 J0), (oa (a 1) cI 201 kd), (oa (a 11) cI 201 mn), (oa (a 12) cI 8040 cx), (oa (a 13) cI 8040 cy), (oa (a 32) cI 8 q_1), (oa (a 40) cI 6 T0), (oa (a 29) cI 42 P0), (oa (a 30) cI 42 Q0), (oa (a 33) cI 42 ox), (oa (a 34) cI 42 oy), (oa (a 37) cZ 201 mt), (oa (a 38) cZ 201 wi), (oa (a 39) cZ 8040 ins)] H := hP
    have hD : va_D A [(om k0 a I0 J0), (oa (a 1) cI 201 kd), (oa (a 11) cI 201 mn), (oa (a 12) cI 8040 cx), (oa (a 13) cI 8040 cy), (oa (a 32) cI 8 q_1), (oa (a 40) cI 6 T0), (oa (a 29) cI 42 P0), (oa (a 30) cI 42 Q0), (oa (a 33) cI 42 ox), (oa (a 34) cI 42 oy), (oa (a 37) cZ 201 mt), (oa (a 38) cZ 201 wi), (oa (a 39) cZ 8040 ins)] := hD
    refine lv_if_eq (tgt := 59) hx hb dX11_isLawfulTo_22 (by decide) (fun c_3 => ?_) (fun c_3 => ?_)
    · have c_3 : ¬ (5 ≤ (kd g).toInt) := zp_0 c_3
      refine lv_iconst (v := 0) hx hb dX11_isLawfulTo_59 (by decide) ?_
      refine lv_istore (lv' := [(5, .int 0), (0, .ref k0), (1, .int (nI f)), (2, .int (nI g)), (3, .int 1), (4, .int (nI b))]) hx hb dX11_isLawfulTo_60 hl (by decide) rfl (fun ls hl => ?_)
      have hl_62 : ∀ (n9 : Nat) (k : Nat) (z9 : Int32) (S1 : Nat → Int32) (T1 : Nat → Int32) (P1 : Nat → Int32) (Q1 : Nat → Int32) (H : Heap) (locs : List Loc) (ls : Array Slot), m2 - k < n9 → (k ≤ m2) → (∀ j, j < k → (5 ≤ (kd f).toInt → (inF (kd f).toInt n (cF40 cx f) (cF40 cy f) (cF40 cx g j).toInt (cF40 cy g j).toInt ↔ IN j)) ∧ (¬ (kd f).toInt = 0 → ¬ (fun k => swB on ox oy b (cF40 cx g k).toInt (cF40 cy g k).toInt) j)) → va_P (dC, dI) classes [(om k0 a (upd I0 31 z9) J0), (oa (a 1) cI 201 kd), (oa (a 11) cI 201 mn), (oa (a 12) cI 8040 cx), (oa (a 13) cI 8040 cy), (oa (a 32) cI 8 S1), (oa (a 40) cI 6 T1), (oa (a 29) cI 42 P1), (oa (a 30) cI 42 Q1), (oa (a 33) cI 42 ox), (oa (a 34) cI 42 oy), (oa (a 37) cZ 201 mt), (oa (a 38) cZ 201 wi), (oa (a 39) cZ 8040 ins)] H → va_D A [(om k0 a (upd I0 31 z9) J0), (oa (a 1) cI 201 kd), (oa (a 11) cI 201 mn), (oa (a 12) cI 8040 cx), (oa (a 13) cI 8040 cy), (oa (a 32) cI 8 S1), (oa (a 40) cI 6 T1), (oa (a 29) cI 42 P1), (oa (a 30) cI 42 Q1), (oa (a 33) cI 42 ox), (oa (a 34) cI 42 oy), (oa (a 37) cZ 201 mt), (oa (a 38) cZ 201 wi), (oa (a 39) cZ 8040 ins)] → va_S A s.heap H locs → lv_has ls 8 [(5, .int (nI k)), (0, .ref k0), (1, .int (nI f)), (2, .int (nI g)), (3, .int 1), (4, .int (nI b))] → W p l e ((headSpec (.code yX11_isLawfulTo cX11_isLawfulTo 8 (some .boolean) :: ws0) ({ frames := 4, cells := 0, slots := 0, locals := 108 } : Room)).room) s m ([.ref k0, .int (nI f), .int (nI g), .int 1, .int (nI b)] : List Value).toArray below meth c H locs 0 0 Q9 (F0 m 62 ls []) := by
        intro n9
        induction n9 with
        | zero => intro k z9 S1 T1 P1 Q1 H locs ls hm; exact absurd hm (Nat.not_lt_zero _)
        | succ n9 ih_62 =>
          intro k z9 S1 T1 P1 Q1 H locs ls hm hk hall hP hD hS hl
          refine lv_iload hx hb dX11_isLawfulTo_62 (lv_at hl 0 rfl) ?_
          refine lv_aload_n hx hb dX11_isLawfulTo_64 rfl (lv_at hl 1 rfl) ?_
          refine va_get (D := (dC, dI)) (ci := 9) (v := .ref (a 11)) (C := RX11) (T := TX11) (N := 55) hx hb hts inX11 hown hK hP 0 rfl rfl 11 (by decide) (hts _ mw_1170) (fun _ h9 => h9) rfl dX11_isLawfulTo_65 ?_
          refine lv_iload_n hx hb dX11_isLawfulTo_68 rfl (lv_at hl 3 rfl) ?_
          refine z_iald hx hb hK hP 2 0 rfl rfl (e := g) rfl (by omega) (by omega) dX11_isLawfulTo_69 ?_
          refine zz_i (v := nI m2) (hm_g) ?_
          refine lv_icmp_ge (tgt := 191) hx hb dX11_isLawfulTo_70 (by decide) (fun c_4 => ?_) (fun c_4 => ?_)
          · have c_4 : ((m2 : Nat) : Int) ≤ ((k : Nat) : Int) := zc_le (nI_toInt (by omega)) (nI_toInt (by omega)) c_4
            refine lv_aload_n hx hb dX11_isLawfulTo_191 rfl (lv_at hl 1 rfl) ?_
            refine va_get (D := (dC, dI)) (ci := 9) (v := .ref (a 1)) (C := RX11) (T := TX11) (N := 55) hx hb hts inX11 hown hK hP 0 rfl rfl 1 (by decide) (hts _ mw_1160) (fun _ h9 => h9) rfl dX11_isLawfulTo_192 ?_
            refine lv_iload_n hx hb dX11_isLawfulTo_195 rfl (lv_at hl 2 rfl) ?_
            refine z_iald hx hb hK hP 1 0 rfl rfl (e := f) rfl (by omega) (by omega) dX11_isLawfulTo_196 ?_
            refine lv_if_ne (tgt := 209) hx hb dX11_isLawfulTo_197 (by decide) (fun c_5 => ?_) (fun c_5 => ?_)
            · have c_5 : ¬ (kd f).toInt = 0 := zc_ne rfl (by decide) c_5
              refine lv_iconst (v := 1) hx hb dX11_isLawfulTo_209 (by decide) ?_
              refine lv_goto (tgt := 214) hx hb dX11_isLawfulTo_210 (by decide) ?_
              have hP9 := hP.sub (ws' := [(om k0 a (upd I0 31 z9) J0), (oa (a 1) cI 201 kd), (oa (a 11) cI 201 mn), (oa (a 12) cI 8040 cx), (oa (a 13) cI 8040 cy), (oa (a 32) cI 8 S1), (oa (a 40) cI 6 T1), (oa (a 29) cI 42 P1), (oa (a 30) cI 42 Q1), (oa (a 33) cI 42 ox), (oa (a 34) cI 42 oy), (oa (a 37) cZ 201 mt), (oa (a 38) cZ 201 wi), (oa (a 39) cZ 8040 ins)]) [0, 1, 2, 3, 4, 5, 6, 7, 8, 9, 10, 11, 12, 13] rfl
              have hD9 := hD.sub (ws' := [(om k0 a (upd I0 31 z9) J0), (oa (a 1) cI 201 kd), (oa (a 11) cI 201 mn), (oa (a 12) cI 8040 cx), (oa (a 13) cI 8040 cy), (oa (a 32) cI 8 S1), (oa (a 40) cI 6 T1), (oa (a 29) cI 42 P1), (oa (a 30) cI 42 Q1), (oa (a 33) cI 42 ox), (oa (a 34) cI 42 oy), (oa (a 37) cZ 201 mt), (oa (a 38) cZ 201 wi), (oa (a 39) cZ 8040 ins)]) [0, 1, 2, 3, 4, 5, 6, 7, 8, 9, 10, 11, 12, 13] (by decide) rfl
              rw [hQ9]
              exact W.zret (ty := .boolean) (v := 1) hx hb hr (rfl) (fun t ht hW => ⟨⟨congrArg (fun z => Outcome.returned (some (Value.int z))) (show (1 : Int32) = pI (lawTo (ox 0) (oy 0) (kd f).toInt n (cF40 cx f) (cF40 cy f) (kd g).toInt m2 (cF40 cx g) (cF40 cy g) MT WI IN (fun k => swB on ox oy b (cF40 cx g k).toInt (cF40 cy g k).toInt)) from (zp_t (by first | exact ⟨zp_ieq.mp (by assumption), fun h => (by first | (exfalso; omega) | exact zp_ieq.mp (by assumption)), fun j hj => hall j (by omega), fun h => (by first | (exfalso; omega) | assumption)⟩ | exact fun h => absurd (h.2.2.2 (by omega)) (by assumption))).symm), z9, S1, T1, P1, Q1, by rw [ht]; exact hP9, hD9⟩, hS.F ht⟩) hS.2.2 dX11_isLawfulTo_214
            · have c_5 : (kd f).toInt = 0 := zc_eq rfl (by decide) c_5
              refine lv_aload_n hx hb dX11_isLawfulTo_200 rfl (lv_at hl 1 rfl) ?_
              refine lv_iload_n hx hb dX11_isLawfulTo_201 rfl (lv_at hl 2 rfl) ?_
              refine lv_iload_n hx hb dX11_isLawfulTo_202 rfl (lv_at hl 3 rfl) ?_
              have hPc := hP.sub (ws' := [(om k0 a (upd I0 31 z9) J0), (oa (a 1) cI 201 kd), (oa (a 11) cI 201 mn), (oa (a 12) cI 8040 cx), (oa (a 13) cI 8040 cy), (oa (a 32) cI 8 S1), (oa (a 33) cI 42 ox), (oa (a 34) cI 42 oy)]) [0, 1, 2, 3, 4, 5, 9, 10] rfl
              have hDc := hD.sub (ws' := [(om k0 a (upd I0 31 z9) J0), (oa (a 1) cI 201 kd), (oa (a 11) cI 201 mn), (oa (a 12) cI 8040 cx), (oa (a 13) cI 8040 cy), (oa (a 32) cI 8 S1), (oa (a 33) cI 42 ox), (oa (a 34) cI 42 oy)]) [0, 1, 2, 3, 4, 5, 9, 10] (by decide) rfl
              have hFc := va_free (wc := [(om k0 a (upd I0 31 z9) J0), (oa (a 1) cI 201 kd), (oa (a 11) cI 201 mn), (oa (a 12) cI 8040 cx), (oa (a 13) cI 8040 cy), (oa (a 32) cI 8 S1), (oa (a 33) cI 42 ox), (oa (a 34) cI 42 oy)]) hD hS hA [0, 1, 2, 3, 4, 5, 9, 10] rfl
              refine zcall (st1 := [.int (pI (∀ k, k < eO (kd g).toInt m2 → fWy (ox 0).toInt (oy 0).toInt (cx (40 * f)).toInt (cy (40 * f)).toInt m2 (cF40 cx g) (cF40 cy g) k))]) (va_runV (As := [.int (nI f), .int (nI g)]) (rest := []) ⟨hx, hb, hml, hown, hts⟩ (k_M_isFreeWay l dC dI cI cZ cF H.size k0 a (upd I0 31 z9) J0 f g m2 kd mn cx cy S1 ox oy (by omega) ((hpo 0 (by omega)).1) ((hpo 0 (by omega)).2) ((hp_f 0 (by omega)).1) ((hp_f 0 (by omega)).2) (by omega) (by assumption) (by omega) (by assumption)) (cwV 2 hts (zz_gV mw_1506 mw_1508 mw_70 mw_110 mc_yX11_isFreeWay) rfl rfl rfl (by decide +kernel) ⟨Nat.le_of_ble_eq_true rfl, Nat.le_of_ble_eq_true rfl⟩) (zPV2 (q0 := 0) (ci := 9) hPc hDc hK hXN rfl rfl) rfl rfl hl.1 rfl (lv_room (Nat.le_of_ble_eq_true rfl)) dX11_isLawfulTo_203 ⟨Nat.le_of_ble_eq_true rfl, Nat.le_of_ble_eq_true rfl⟩) hS hFc hFc rfl (fun t H1 locs ht hB hk1 hS => ?_)
              obtain ⟨q_6, hP1, hD1⟩ := hB
              rw [ht] at hP1
              obtain ⟨hP, hD⟩ := va_join (wr := [(oa (a 40) cI 6 T1), (oa (a 29) cI 42 P1), (oa (a 30) cI 42 Q1), (oa (a 37) cZ 201 mt), (oa (a 38) cZ 201 wi), (oa (a 39) cZ 8040 ins)]) (w1 := [(om k0 a (upd I0 31 z9) J0), (oa (a 1) cI 201 kd), (oa (a 11) cI 201 mn), (oa (a 12) cI 8040 cx), (oa (a 13) cI 8040 cy), (oa (a 32) cI 8 q_6), (oa (a 33) cI 42 ox), (oa (a 34) cI 42 oy)]) hP hD [0, 1, 2, 3, 4, 5, 9, 10] [6, 7, 8, 11, 12, 13] rfl rfl (by decide) (by decide) hk1 hFc hP1 hD1
              clear hk1 hPc hDc hFc hP1 hD1 ht
              generalize H1 = H at hP hS ⊢
              have hP := hP.sub (ws' := [(om k0 a (upd I0 31 z9) J0), (oa (a 1) cI 201 kd), (oa (a 11) cI 201 mn), (oa (a 12) cI 8040 cx), (oa (a 13) cI 8040 cy), (oa (a 32) cI 8 q_6), (oa (a 40) cI 6 T1), (oa (a 29) cI 42 P1), (oa (a 30) cI 42 Q1), (oa (a 33) cI 42 ox), (oa (a 34) cI 42 oy), (oa (a 37) cZ 201 mt), (oa (a 38) cZ 201 wi), (oa (a 39) cZ 8040 ins)]) [6, 7, 8, 9, 10, 11, 0, 1, 2, 12, 13, 3, 4, 5] rfl
              have hD := hD.sub (ws' := [(om k0 a (upd I0 31 z9) J0), (oa (a 1) cI 201 kd), (oa (a 11) cI 201 mn), (oa (a 12) cI 8040 cx), (oa (a 13) cI 8040 cy), (oa (a 32) cI 8 q_6), (oa (a 40) cI 6 T1), (oa (a 29) cI 42 P1), (oa (a 30) cI 42 Q1), (oa (a 33) cI 42 ox), (oa (a 34) cI 42 oy), (oa (a 37) cZ 201 mt), (oa (a 38) cZ 201 wi), (oa (a 39) cZ 8040 ins)]) [6, 7, 8, 9, 10, 11, 0, 1, 2, 12, 13, 3, 4, 5] (by decide) rfl
              have hP : va_P (dC, dI) classes [(om k0 a (upd I0 31 z9) J0), (oa (a 1) cI 201 kd), (oa (a 11) cI 201 mn), (oa (a 12) cI 8040 cx), (oa (a 13) cI 8040 cy), (oa (a 32) cI 8 q_6), (oa (a 40) cI 6 T1), (oa (a 29) cI 42 P1), (oa (a 30) cI 42 Q1), (oa (a 33) cI 42 ox), (oa (a 34) cI 42 oy), (oa (a 37) cZ 201 mt), (oa (a 38) cZ 201 wi), (oa (a 39) cZ 8040 ins)] H := hP
              have hD : va_D A [(om k0 a (upd I0 31 z9) J0), (oa (a 1) cI 201 kd), (oa (a 11) cI 201 mn), (oa (a 12) cI 8040 cx), (oa (a 13) cI 8040 cy), (oa (a 32) cI 8 q_6), (oa (a 40) cI 6 T1), (oa (a 29) cI 42 P1), (oa (a 30) cI 42 Q1), (oa (a 33) cI 42 ox), (oa (a 34) cI 42 oy), (oa (a 37) cZ 201 mt), (oa (a 38) cZ 201 wi), (oa (a 39) cZ 8040 ins)] := hD
              refine zz_i (v := pI (∀ k, k < eO (kd g).toInt m2 → fWy (ox 0).toInt (oy 0).toInt (cF40 cx f 0).toInt (cF40 cy f 0).toInt m2 (cF40 cx g) (cF40 cy g) k)) (rfl) ?_
              refine lv_if_eq (tgt := 213) hx hb dX11_isLawfulTo_206 (by decide) (fun c_7 => ?_) (fun c_7 => ?_)
              · have c_7 : ¬ (∀ k, k < eO (kd g).toInt m2 → fWy (ox 0).toInt (oy 0).toInt (cF40 cx f 0).toInt (cF40 cy f 0).toInt m2 (cF40 cx g) (cF40 cy g) k) := zp_0 c_7
                refine lv_iconst (v := 0) hx hb dX11_isLawfulTo_213 (by decide) ?_
                have hP9 := hP.sub (ws' := [(om k0 a (upd I0 31 z9) J0), (oa (a 1) cI 201 kd), (oa (a 11) cI 201 mn), (oa (a 12) cI 8040 cx), (oa (a 13) cI 8040 cy), (oa (a 32) cI 8 q_6), (oa (a 40) cI 6 T1), (oa (a 29) cI 42 P1), (oa (a 30) cI 42 Q1), (oa (a 33) cI 42 ox), (oa (a 34) cI 42 oy), (oa (a 37) cZ 201 mt), (oa (a 38) cZ 201 wi), (oa (a 39) cZ 8040 ins)]) [0, 1, 2, 3, 4, 5, 6, 7, 8, 9, 10, 11, 12, 13] rfl
                have hD9 := hD.sub (ws' := [(om k0 a (upd I0 31 z9) J0), (oa (a 1) cI 201 kd), (oa (a 11) cI 201 mn), (oa (a 12) cI 8040 cx), (oa (a 13) cI 8040 cy), (oa (a 32) cI 8 q_6), (oa (a 40) cI 6 T1), (oa (a 29) cI 42 P1), (oa (a 30) cI 42 Q1), (oa (a 33) cI 42 ox), (oa (a 34) cI 42 oy), (oa (a 37) cZ 201 mt), (oa (a 38) cZ 201 wi), (oa (a 39) cZ 8040 ins)]) [0, 1, 2, 3, 4, 5, 6, 7, 8, 9, 10, 11, 12, 13] (by decide) rfl
                rw [hQ9]
                exact W.zret (ty := .boolean) (v := 0) hx hb hr (rfl) (fun t ht hW => ⟨⟨congrArg (fun z => Outcome.returned (some (Value.int z))) (show (0 : Int32) = pI (lawTo (ox 0) (oy 0) (kd f).toInt n (cF40 cx f) (cF40 cy f) (kd g).toInt m2 (cF40 cx g) (cF40 cy g) MT WI IN (fun k => swB on ox oy b (cF40 cx g k).toInt (cF40 cy g k).toInt)) from (zp_f (by first | exact ⟨zp_ieq.mp (by assumption), fun h => (by first | (exfalso; omega) | exact zp_ieq.mp (by assumption)), fun j hj => hall j (by omega), fun h => (by first | (exfalso; omega) | assumption)⟩ | exact fun h => absurd (h.2.2.2 (by omega)) (by assumption))).symm), z9, q_6, T1, P1, Q1, by rw [ht]; exact hP9, hD9⟩, hS.F ht⟩) hS.2.2 dX11_isLawfulTo_214
              · have c_7 : ∀ k, k < eO (kd g).toInt m2 → fWy (ox 0).toInt (oy 0).toInt (cF40 cx f 0).toInt (cF40 cy f 0).toInt m2 (cF40 cx g) (cF40 cy g) k := zp_1 c_7
                refine lv_iconst (v := 1) hx hb dX11_isLawfulTo_209 (by decide) ?_
                refine lv_goto (tgt := 214) hx hb dX11_isLawfulTo_210 (by decide) ?_
                have hP9 := hP.sub (ws' := [(om k0 a (upd I0 31 z9) J0), (oa (a 1) cI 201 kd), (oa (a 11) cI 201 mn), (oa (a 12) cI 8040 cx), (oa (a 13) cI 8040 cy), (oa (a 32) cI 8 q_6), (oa (a 40) cI 6 T1), (oa (a 29) cI 42 P1), (oa (a 30) cI 42 Q1), (oa (a 33) cI 42 ox), (oa (a 34) cI 42 oy), (oa (a 37) cZ 201 mt), (oa (a 38) cZ 201 wi), (oa (a 39) cZ 8040 ins)]) [0, 1, 2, 3, 4, 5, 6, 7, 8, 9, 10, 11, 12, 13] rfl
                have hD9 := hD.sub (ws' := [(om k0 a (upd I0 31 z9) J0), (oa (a 1) cI 201 kd), (oa (a 11) cI 201 mn), (oa (a 12) cI 8040 cx), (oa (a 13) cI 8040 cy), (oa (a 32) cI 8 q_6), (oa (a 40) cI 6 T1), (oa (a 29) cI 42 P1), (oa (a 30) cI 42 Q1), (oa (a 33) cI 42 ox), (oa (a 34) cI 42 oy), (oa (a 37) cZ 201 mt), (oa (a 38) cZ 201 wi), (oa (a 39) cZ 8040 ins)]) [0, 1, 2, 3, 4, 5, 6, 7, 8, 9, 10, 11, 12, 13] (by decide) rfl
                rw [hQ9]
                exact W.zret (ty := .boolean) (v := 1) hx hb hr (rfl) (fun t ht hW => ⟨⟨congrArg (fun z => Outcome.returned (some (Value.int z))) (show (1 : Int32) = pI (lawTo (ox 0) (oy 0) (kd f).toInt n (cF40 cx f) (cF40 cy f) (kd g).toInt m2 (cF40 cx g) (cF40 cy g) MT WI IN (fun k => swB on ox oy b (cF40 cx g k).toInt (cF40 cy g k).toInt)) from (zp_t (by first | exact ⟨zp_ieq.mp (by assumption), fun h => (by first | (exfalso; omega) | exact zp_ieq.mp (by assumption)), fun j hj => hall j (by omega), fun h => (by first | (exfalso; omega) | assumption)⟩ | exact fun h => absurd (h.2.2.2 (by omega)) (by assumption))).symm), z9, q_6, T1, P1, Q1, by rw [ht]; exact hP9, hD9⟩, hS.F ht⟩) hS.2.2 dX11_isLawfulTo_214
          · have c_4 : ((k : Nat) : Int) < ((m2 : Nat) : Int) := zc_nle (nI_toInt (by omega)) (nI_toInt (by omega)) c_4
            have hk9 : k < m2 := (by omega)
            refine lv_aload_n hx hb dX11_isLawfulTo_73 rfl (lv_at hl 1 rfl) ?_
            refine va_get (D := (dC, dI)) (ci := 9) (v := .ref (a 12)) (C := RX11) (T := TX11) (N := 55) hx hb hts inX11 hown hK hP 0 rfl rfl 12 (by decide) (hts _ mw_1171) (fun _ h9 => h9) rfl dX11_isLawfulTo_74 ?_
            refine lv_bipush (v := 40) hx hb dX11_isLawfulTo_77 (by decide) ?_
            refine lv_iload_n hx hb dX11_isLawfulTo_79 rfl (lv_at hl 3 rfl) ?_
            refine lv_imul hx hb dX11_isLawfulTo_80 ?_
            refine zz_i (v := nI (40 * g)) (pk_mul 40 g) ?_
            refine lv_iload hx hb dX11_isLawfulTo_81 (lv_at hl 0 rfl) ?_
            refine lv_iadd hx hb dX11_isLawfulTo_83 ?_
            refine zz_i (v := nI (40 * g + k)) (nI_add (40 * g) k) ?_
            refine z_iald hx hb hK hP 3 0 rfl rfl (e := 40 * g + k) rfl (by omega) (by omega) dX11_isLawfulTo_84 ?_
            refine lv_istore (lv' := [(6, .int (cx (40 * g + k))), (5, .int (nI k)), (0, .ref k0), (1, .int (nI f)), (2, .int (nI g)), (3, .int 1), (4, .int (nI b))]) hx hb dX11_isLawfulTo_85 hl (by decide) rfl (fun ls hl => ?_)
            refine lv_aload_n hx hb dX11_isLawfulTo_87 rfl (lv_at hl 2 rfl) ?_
            refine va_get (D := (dC, dI)) (ci := 9) (v := .ref (a 13)) (C := RX11) (T := TX11) (N := 55) hx hb hts inX11 hown hK hP 0 rfl rfl 13 (by decide) (hts _ mw_1172) (fun _ h9 => h9) rfl dX11_isLawfulTo_88 ?_
            refine lv_bipush (v := 40) hx hb dX11_isLawfulTo_91 (by decide) ?_
            refine lv_iload_n hx hb dX11_isLawfulTo_93 rfl (lv_at hl 4 rfl) ?_
            refine lv_imul hx hb dX11_isLawfulTo_94 ?_
            refine zz_i (v := nI (40 * g)) (pk_mul 40 g) ?_
            refine lv_iload hx hb dX11_isLawfulTo_95 (lv_at hl 1 rfl) ?_
            refine lv_iadd hx hb dX11_isLawfulTo_97 ?_
            refine zz_i (v := nI (40 * g + k)) (nI_add (40 * g) k) ?_
            refine z_iald hx hb hK hP 4 0 rfl rfl (e := 40 * g + k) rfl (by omega) (by omega) dX11_isLawfulTo_98 ?_
            refine lv_istore (lv' := [(7, .int (cy (40 * g + k))), (6, .int (cx (40 * g + k))), (5, .int (nI k)), (0, .ref k0), (1, .int (nI f)), (2, .int (nI g)), (3, .int 1), (4, .int (nI b))]) hx hb dX11_isLawfulTo_99 hl (by decide) rfl (fun ls hl => ?_)
            refine lv_aload_n hx hb dX11_isLawfulTo_101 rfl (lv_at hl 3 rfl) ?_
            refine lv_iload_n hx hb dX11_isLawfulTo_102 rfl (lv_at hl 4 rfl) ?_
            have hPc := hP.sub (ws' := [(om k0 a (upd I0 31 z9) J0), (oa (a 1) cI 201 kd)]) [0, 1] rfl
            have hDc := hD.sub (ws' := [(om k0 a (upd I0 31 z9) J0), (oa (a 1) cI 201 kd)]) [0, 1] (by decide) rfl
            have hFc := va_free (wc := [(om k0 a (upd I0 31 z9) J0), (oa (a 1) cI 201 kd)]) hD hS hA [0, 1] rfl
            refine zcall (st1 := [.int (pI (5 ≤ (kd f).toInt))]) (va_runV (As := [.int (nI f)]) (rest := []) ⟨hx, hb, hml, hown, hts⟩ (k_M_isRing l dC dI cI cZ cF H.size k0 a (upd I0 31 z9) J0 f kd (by omega)) (cwV 1 hts (zz_gV mw_1365 mw_1367 mw_40 mw_110 mc_yX11_isRing) rfl rfl rfl (by decide +kernel) ⟨Nat.le_of_ble_eq_true rfl, Nat.le_of_ble_eq_true rfl⟩) (zPV2 (q0 := 0) (ci := 9) hPc hDc hK hXN rfl rfl) rfl rfl hl.1 rfl (lv_room (Nat.le_of_ble_eq_true rfl)) dX11_isLawfulTo_103 ⟨Nat.le_of_ble_eq_true rfl, Nat.le_of_ble_eq_true rfl⟩) hS hFc hFc rfl (fun t H1 locs ht hB hk1 hS => ?_)
            obtain ⟨hP1, hD1⟩ := hB
            rw [ht] at hP1
            obtain ⟨hP, hD⟩ := va_join (wr := [(oa (a 11) cI 201 mn), (oa (a 12) cI 8040 cx), (oa (a 13) cI 8040 cy), (oa (a 32) cI 8 S1), (oa (a 40) cI 6 T1), (oa (a 29) cI 42 P1), (oa (a 30) cI 42 Q1), (oa (a 33) cI 42 ox), (oa (a 34) cI 42 oy), (oa (a 37) cZ 201 mt), (oa (a 38) cZ 201 wi), (oa (a 39) cZ 8040 ins)]) (w1 := [(om k0 a (upd I0 31 z9) J0), (oa (a 1) cI 201 kd)]) hP hD [0, 1] [2, 3, 4, 5, 6, 7, 8, 9, 10, 11, 12, 13] rfl rfl (by decide) (by decide) hk1 hFc hP1 hD1
            clear hk1 hPc hDc hFc hP1 hD1 ht
            generalize H1 = H at hP hS ⊢
            have hP := hP.sub (ws' := [(om k0 a (upd I0 31 z9) J0), (oa (a 1) cI 201 kd), (oa (a 11) cI 201 mn), (oa (a 12) cI 8040 cx), (oa (a 13) cI 8040 cy), (oa (a 32) cI 8 S1), (oa (a 40) cI 6 T1), (oa (a 29) cI 42 P1), (oa (a 30) cI 42 Q1), (oa (a 33) cI 42 ox), (oa (a 34) cI 42 oy), (oa (a 37) cZ 201 mt), (oa (a 38) cZ 201 wi), (oa (a 39) cZ 8040 ins)]) [12, 13, 0, 1, 2, 3, 4, 5, 6, 7, 8, 9, 10, 11] rfl
            have hD := hD.sub (ws' := [(om k0 a (upd I0 31 z9) J0), (oa (a 1) cI 201 kd), (oa (a 11) cI 201 mn), (oa (a 12) cI 8040 cx), (oa (a 13) cI 8040 cy), (oa (a 32) cI 8 S1), (oa (a 40) cI 6 T1), (oa (a 29) cI 42 P1), (oa (a 30) cI 42 Q1), (oa (a 33) cI 42 ox), (oa (a 34) cI 42 oy), (oa (a 37) cZ 201 mt), (oa (a 38) cZ 201 wi), (oa (a 39) cZ 8040 ins)]) [12, 13, 0, 1, 2, 3, 4, 5, 6, 7, 8, 9, 10, 11] (by decide) rfl
            have hP : va_P (dC, dI) classes [(om k0 a (upd I0 31 z9) J0), (oa (a 1) cI 201 kd), (oa (a 11) cI 201 mn), (oa (a 12) cI 8040 cx), (oa (a 13) cI 8040 cy), (oa (a 32) cI 8 S1), (oa (a 40) cI 6 T1), (oa (a 29) cI 42 P1), (oa (a 30) cI 42 Q1), (oa (a 33) cI 42 ox), (oa (a 34) cI 42 oy), (oa (a 37) cZ 201 mt), (oa (a 38) cZ 201 wi), (oa (a 39) cZ 8040 ins)] H := hP
            have hD : va_D A [(om k0 a (upd I0 31 z9) J0), (oa (a 1) cI 201 kd), (oa (a 11) cI 201 mn), (oa (a 12) cI 8040 cx), (oa (a 13) cI 8040 cy), (oa (a 32) cI 8 S1), (oa (a 40) cI 6 T1), (oa (a 29) cI 42 P1), (oa (a 30) cI 42 Q1), (oa (a 33) cI 42 ox), (oa (a 34) cI 42 oy), (oa (a 37) cZ 201 mt), (oa (a 38) cZ 201 wi), (oa (a 39) cZ 8040 ins)] := hD
            refine lv_if_eq (tgt := 135) hx hb dX11_isLawfulTo_106 (by decide) (fun c_8 => ?_) (fun c_8 => ?_)
            · have c_8 : ¬ (5 ≤ (kd f).toInt) := zp_0 c_8
              refine lv_aload_n hx hb dX11_isLawfulTo_135 rfl (lv_at hl 3 rfl) ?_
              refine va_get (D := (dC, dI)) (ci := 9) (v := .ref (a 1)) (C := RX11) (T := TX11) (N := 55) hx hb hts inX11 hown hK hP 0 rfl rfl 1 (by decide) (hts _ mw_1160) (fun _ h9 => h9) rfl dX11_isLawfulTo_136 ?_
              refine lv_iload_n hx hb dX11_isLawfulTo_139 rfl (lv_at hl 4 rfl) ?_
              refine z_iald hx hb hK hP 1 0 rfl rfl (e := f) rfl (by omega) (by omega) dX11_isLawfulTo_140 ?_
              refine lv_if_eq (tgt := 185) hx hb dX11_isLawfulTo_141 (by decide) (fun c_9 => ?_) (fun c_9 => ?_)
              · have c_9 : (kd f).toInt = 0 := zc_eq rfl (by decide) c_9
                refine lv_iinc (v := nI (k + 1)) (lv' := [(5, .int (nI (k + 1))), (7, .int (cy (40 * g + k))), (6, .int (cx (40 * g + k))), (0, .ref k0), (1, .int (nI f)), (2, .int (nI g)), (3, .int 1), (4, .int (nI b))]) hx hb dX11_isLawfulTo_185 hl (k := 2) rfl (nI_add k 1) (by decide) rfl (fun ls hl => ?_)
                refine lv_goto (tgt := 62) hx hb dX11_isLawfulTo_188 (by decide) ?_
                exact ih_62 (k + 1) z9 S1 T1 P1 Q1 H locs ls (by omega) (by omega) (by intro j hj; rcases Nat.lt_or_ge j k with h | h; exact hall j h; obtain rfl : j = k := (by omega); exact ⟨fun h5 => (by first | (exfalso; omega) | exact zp_ieq.mp (by assumption)), fun h0 => (by first | (exfalso; omega) | exact id | assumption)⟩) hP hD hS (lv_sub hl [0, 3, 4, 5, 6, 7] rfl)
              · have c_9 : ¬ (kd f).toInt = 0 := zc_ne rfl (by decide) c_9
                refine lv_iload_n hx hb dX11_isLawfulTo_144 rfl (lv_at hl 6 rfl) ?_
                refine lv_iconst (v := 5) hx hb dX11_isLawfulTo_145 (by decide) ?_
                refine lv_icmp_eq (tgt := 185) hx hb dX11_isLawfulTo_146 (by decide) (fun c_10 => ?_) (fun c_10 => ?_)
                · exact absurd c_10 (by decide)
                · refine lv_iload hx hb dX11_isLawfulTo_149 (lv_at hl 7 rfl) ?_
                  refine lv_iconst (v := (-1)) hx hb dX11_isLawfulTo_151 (by decide) ?_
                  refine lv_icmp_eq (tgt := 171) hx hb dX11_isLawfulTo_152 (by decide) (fun c_11 => ?_) (fun c_11 => ?_)
                  · have c_11 : ((b : Nat) : Int) = (-1) := zc_eq (nI_toInt (by omega)) (by decide) c_11
                    exfalso; omega
                  · have c_11 : ¬ ((b : Nat) : Int) = (-1) := zc_ne (nI_toInt (by omega)) (by decide) c_11
                    refine lv_aload_n hx hb dX11_isLawfulTo_155 rfl (lv_at hl 3 rfl) ?_
                    refine lv_iload hx hb dX11_isLawfulTo_156 (lv_at hl 7 rfl) ?_
                    refine lv_iload hx hb dX11_isLawfulTo_158 (lv_at hl 1 rfl) ?_
                    refine lv_iload hx hb dX11_isLawfulTo_160 (lv_at hl 0 rfl) ?_
                    have hPc := hP.sub (ws' := [(om k0 a (upd I0 31 z9) J0), (oa (a 40) cI 6 T1), (oa (a 33) cI 42 ox), (oa (a 34) cI 42 oy)]) [0, 6, 9, 10] rfl
                    have hDc := hD.sub (ws' := [(om k0 a (upd I0 31 z9) J0), (oa (a 40) cI 6 T1), (oa (a 33) cI 42 ox), (oa (a 34) cI 42 oy)]) [0, 6, 9, 10] (by decide) rfl
                    have hFc := va_free (wc := [(om k0 a (upd I0 31 z9) J0), (oa (a 40) cI 6 T1), (oa (a 33) cI 42 ox), (oa (a 34) cI 42 oy)]) hD hS hA [0, 6, 9, 10] rfl
                    refine zcall (st1 := [.int (pI (swB on ox oy b (cx (40 * g + k)).toInt (cy (40 * g + k)).toInt))]) (va_runV (As := [.int (nI b), .int (cx (40 * g + k)), .int (cy (40 * g + k))]) (rest := []) ⟨hx, hb, hml, hown, hts⟩ (k_M_isSweptBy l dC dI cI cZ cF H.size k0 a (upd I0 31 z9) J0 b on (cx (40 * g + k)) (cy (40 * g + k)) T1 ox oy (hon) (by omega) (by omega) (by assumption) ((hp_g k hk9).1) ((hp_g k hk9).2)) (cwV 3 hts (zz_gV mw_1487 mw_1489 mw_66 mw_110 mc_yX11_isSweptBy) rfl rfl rfl (by decide +kernel) ⟨Nat.le_of_ble_eq_true rfl, Nat.le_of_ble_eq_true rfl⟩) (zPV2 (q0 := 0) (ci := 9) hPc hDc hK hXN rfl rfl) rfl rfl hl.1 rfl (lv_room (Nat.le_of_ble_eq_true rfl)) dX11_isLawfulTo_162 ⟨Nat.le_of_ble_eq_true rfl, Nat.le_of_ble_eq_true rfl⟩) hS hFc hFc rfl (fun t H1 locs ht hB hk1 hS => ?_)
                    obtain ⟨q_12, hP1, hD1⟩ := hB
                    rw [ht] at hP1
                    obtain ⟨hP, hD⟩ := va_join (wr := [(oa (a 1) cI 201 kd), (oa (a 11) cI 201 mn), (oa (a 12) cI 8040 cx), (oa (a 13) cI 8040 cy), (oa (a 32) cI 8 S1), (oa (a 29) cI 42 P1), (oa (a 30) cI 42 Q1), (oa (a 37) cZ 201 mt), (oa (a 38) cZ 201 wi), (oa (a 39) cZ 8040 ins)]) (w1 := [(om k0 a (upd I0 31 z9) J0), (oa (a 40) cI 6 q_12), (oa (a 33) cI 42 ox), (oa (a 34) cI 42 oy)]) hP hD [0, 6, 9, 10] [1, 2, 3, 4, 5, 7, 8, 11, 12, 13] rfl rfl (by decide) (by decide) hk1 hFc hP1 hD1
                    clear hk1 hPc hDc hFc hP1 hD1 ht
                    generalize H1 = H at hP hS ⊢
                    have hP := hP.sub (ws' := [(om k0 a (upd I0 31 z9) J0), (oa (a 1) cI 201 kd), (oa (a 11) cI 201 mn), (oa (a 12) cI 8040 cx), (oa (a 13) cI 8040 cy), (oa (a 32) cI 8 S1), (oa (a 40) cI 6 q_12), (oa (a 29) cI 42 P1), (oa (a 30) cI 42 Q1), (oa (a 33) cI 42 ox), (oa (a 34) cI 42 oy), (oa (a 37) cZ 201 mt), (oa (a 38) cZ 201 wi), (oa (a 39) cZ 8040 ins)]) [10, 0, 1, 2, 3, 4, 11, 5, 6, 12, 13, 7, 8, 9] rfl
                    have hD := hD.sub (ws' := [(om k0 a (upd I0 31 z9) J0), (oa (a 1) cI 201 kd), (oa (a 11) cI 201 mn), (oa (a 12) cI 8040 cx), (oa (a 13) cI 8040 cy), (oa (a 32) cI 8 S1), (oa (a 40) cI 6 q_12), (oa (a 29) cI 42 P1), (oa (a 30) cI 42 Q1), (oa (a 33) cI 42 ox), (oa (a 34) cI 42 oy), (oa (a 37) cZ 201 mt), (oa (a 38) cZ 201 wi), (oa (a 39) cZ 8040 ins)]) [10, 0, 1, 2, 3, 4, 11, 5, 6, 12, 13, 7, 8, 9] (by decide) rfl
                    have hP : va_P (dC, dI) classes [(om k0 a (upd I0 31 z9) J0), (oa (a 1) cI 201 kd), (oa (a 11) cI 201 mn), (oa (a 12) cI 8040 cx), (oa (a 13) cI 8040 cy), (oa (a 32) cI 8 S1), (oa (a 40) cI 6 q_12), (oa (a 29) cI 42 P1), (oa (a 30) cI 42 Q1), (oa (a 33) cI 42 ox), (oa (a 34) cI 42 oy), (oa (a 37) cZ 201 mt), (oa (a 38) cZ 201 wi), (oa (a 39) cZ 8040 ins)] H := hP
                    have hD : va_D A [(om k0 a (upd I0 31 z9) J0), (oa (a 1) cI 201 kd), (oa (a 11) cI 201 mn), (oa (a 12) cI 8040 cx), (oa (a 13) cI 8040 cy), (oa (a 32) cI 8 S1), (oa (a 40) cI 6 q_12), (oa (a 29) cI 42 P1), (oa (a 30) cI 42 Q1), (oa (a 33) cI 42 ox), (oa (a 34) cI 42 oy), (oa (a 37) cZ 201 mt), (oa (a 38) cZ 201 wi), (oa (a 39) cZ 8040 ins)] := hD
                    refine zz_i (v := pI ((fun k => swB on ox oy b (cF40 cx g k).toInt (cF40 cy g k).toInt) k)) (rfl) ?_
                    refine lv_if_eq (tgt := 185) hx hb dX11_isLawfulTo_165 (by decide) (fun c_13 => ?_) (fun c_13 => ?_)
                    · have c_13 : ¬ ((fun k => swB on ox oy b (cF40 cx g k).toInt (cF40 cy g k).toInt) k) := zp_0 c_13
                      refine lv_iinc (v := nI (k + 1)) (lv' := [(5, .int (nI (k + 1))), (7, .int (cy (40 * g + k))), (6, .int (cx (40 * g + k))), (0, .ref k0), (1, .int (nI f)), (2, .int (nI g)), (3, .int 1), (4, .int (nI b))]) hx hb dX11_isLawfulTo_185 hl (k := 2) rfl (nI_add k 1) (by decide) rfl (fun ls hl => ?_)
                      refine lv_goto (tgt := 62) hx hb dX11_isLawfulTo_188 (by decide) ?_
                      exact ih_62 (k + 1) z9 S1 q_12 P1 Q1 H locs ls (by omega) (by omega) (by intro j hj; rcases Nat.lt_or_ge j k with h | h; exact hall j h; obtain rfl : j = k := (by omega); exact ⟨fun h5 => (by first | (exfalso; omega) | exact zp_ieq.mp (by assumption)), fun h0 => (by first | (exfalso; omega) | exact id | assumption)⟩) hP hD hS (lv_sub hl [0, 3, 4, 5, 6, 7] rfl)
                    · have c_13 : (fun k => swB on ox oy b (cF40 cx g k).toInt (cF40 cy g k).toInt) k := zp_1 c_13
                      refine lv_goto (tgt := 183) hx hb dX11_isLawfulTo_168 (by decide) ?_
                      refine lv_iconst (v := 0) hx hb dX11_isLawfulTo_183 (by decide) ?_
                      have hP9 := hP.sub (ws' := [(om k0 a (upd I0 31 z9) J0), (oa (a 1) cI 201 kd), (oa (a 11) cI 201 mn), (oa (a 12) cI 8040 cx), (oa (a 13) cI 8040 cy), (oa (a 32) cI 8 S1), (oa (a 40) cI 6 q_12), (oa (a 29) cI 42 P1), (oa (a 30) cI 42 Q1), (oa (a 33) cI 42 ox), (oa (a 34) cI 42 oy), (oa (a 37) cZ 201 mt), (oa (a 38) cZ 201 wi), (oa (a 39) cZ 8040 ins)]) [0, 1, 2, 3, 4, 5, 6, 7, 8, 9, 10, 11, 12, 13] rfl
                      have hD9 := hD.sub (ws' := [(om k0 a (upd I0 31 z9) J0), (oa (a 1) cI 201 kd), (oa (a 11) cI 201 mn), (oa (a 12) cI 8040 cx), (oa (a 13) cI 8040 cy), (oa (a 32) cI 8 S1), (oa (a 40) cI 6 q_12), (oa (a 29) cI 42 P1), (oa (a 30) cI 42 Q1), (oa (a 33) cI 42 ox), (oa (a 34) cI 42 oy), (oa (a 37) cZ 201 mt), (oa (a 38) cZ 201 wi), (oa (a 39) cZ 8040 ins)]) [0, 1, 2, 3, 4, 5, 6, 7, 8, 9, 10, 11, 12, 13] (by decide) rfl
                      rw [hQ9]
                      exact W.zret (ty := .boolean) (v := 0) hx hb hr (rfl) (fun t ht hW => ⟨⟨congrArg (fun z => Outcome.returned (some (Value.int z))) (show (0 : Int32) = pI (lawTo (ox 0) (oy 0) (kd f).toInt n (cF40 cx f) (cF40 cy f) (kd g).toInt m2 (cF40 cx g) (cF40 cy g) MT WI IN (fun k => swB on ox oy b (cF40 cx g k).toInt (cF40 cy g k).toInt)) from (zp_f (fun h => (h.2.2.1 k (by omega)).2 (by omega) (by assumption))).symm), z9, S1, q_12, P1, Q1, by rw [ht]; exact hP9, hD9⟩, hS.F ht⟩) hS.2.2 dX11_isLawfulTo_184
            · have c_8 : 5 ≤ (kd f).toInt := zp_1 c_8
              refine lv_aload_n hx hb dX11_isLawfulTo_109 rfl (lv_at hl 3 rfl) ?_
              refine lv_iload_n hx hb dX11_isLawfulTo_110 rfl (lv_at hl 4 rfl) ?_
              refine lv_iload hx hb dX11_isLawfulTo_111 (lv_at hl 1 rfl) ?_
              refine lv_iload hx hb dX11_isLawfulTo_113 (lv_at hl 0 rfl) ?_
              have hPc := hP.sub (ws' := [(om k0 a (upd I0 31 z9) J0), (oa (a 1) cI 201 kd), (oa (a 11) cI 201 mn), (oa (a 12) cI 8040 cx), (oa (a 13) cI 8040 cy), (oa (a 32) cI 8 S1)]) [0, 1, 2, 3, 4, 5] rfl
              have hDc := hD.sub (ws' := [(om k0 a (upd I0 31 z9) J0), (oa (a 1) cI 201 kd), (oa (a 11) cI 201 mn), (oa (a 12) cI 8040 cx), (oa (a 13) cI 8040 cy), (oa (a 32) cI 8 S1)]) [0, 1, 2, 3, 4, 5] (by decide) rfl
              have hFc := va_free (wc := [(om k0 a (upd I0 31 z9) J0), (oa (a 1) cI 201 kd), (oa (a 11) cI 201 mn), (oa (a 12) cI 8040 cx), (oa (a 13) cI 8040 cy), (oa (a 32) cI 8 S1)]) hD hS hA [0, 1, 2, 3, 4, 5] rfl
              refine zcall (st1 := [.int (pI (¬ (∃ i, i < eO (kd f).toInt n ∧ eOn n (cF40 cx f) (cF40 cy f) i (cx (40 * g + k)).toInt (cy (40 * g + k)).toInt) ∧ par2 (eTg n (cF40 cx f) (cF40 cy f) (cx (40 * g + k)).toInt (cy (40 * g + k)).toInt) (eO (kd f).toInt n)))]) (va_runV (As := [.int (nI f), .int (cx (40 * g + k)), .int (cy (40 * g + k))]) (rest := []) ⟨hx, hb, hml, hown, hts⟩ (k_M_isInside l dC dI cI cZ cF H.size k0 a (upd I0 31 z9) J0 f n kd mn cx cy S1 (cx (40 * g + k)) (cy (40 * g + k)) (by omega) (by assumption) (by omega) (by assumption) ((hp_g k hk9).1) ((hp_g k hk9).2)) (cwV 3 hts (zz_gV mw_1471 mw_1473 mw_62 mw_110 mc_yX11_isInside) rfl rfl rfl (by decide +kernel) ⟨Nat.le_of_ble_eq_true rfl, Nat.le_of_ble_eq_true rfl⟩) (zPV2 (q0 := 0) (ci := 9) hPc hDc hK hXN rfl rfl) rfl rfl hl.1 rfl (lv_room (Nat.le_of_ble_eq_true rfl)) dX11_isLawfulTo_115 ⟨Nat.le_of_ble_eq_true rfl, Nat.le_of_ble_eq_true rfl⟩) hS hFc hFc rfl (fun t H1 locs ht hB hk1 hS => ?_)
              obtain ⟨q_14, hP1, hD1⟩ := hB
              rw [ht] at hP1
              obtain ⟨hP, hD⟩ := va_join (wr := [(oa (a 40) cI 6 T1), (oa (a 29) cI 42 P1), (oa (a 30) cI 42 Q1), (oa (a 33) cI 42 ox), (oa (a 34) cI 42 oy), (oa (a 37) cZ 201 mt), (oa (a 38) cZ 201 wi), (oa (a 39) cZ 8040 ins)]) (w1 := [(om k0 a (upd I0 31 z9) J0), (oa (a 1) cI 201 kd), (oa (a 11) cI 201 mn), (oa (a 12) cI 8040 cx), (oa (a 13) cI 8040 cy), (oa (a 32) cI 8 q_14)]) hP hD [0, 1, 2, 3, 4, 5] [6, 7, 8, 9, 10, 11, 12, 13] rfl rfl (by decide) (by decide) hk1 hFc hP1 hD1
              clear hk1 hPc hDc hFc hP1 hD1 ht
              generalize H1 = H at hP hS ⊢
              have hP := hP.sub (ws' := [(om k0 a (upd I0 31 z9) J0), (oa (a 1) cI 201 kd), (oa (a 11) cI 201 mn), (oa (a 12) cI 8040 cx), (oa (a 13) cI 8040 cy), (oa (a 32) cI 8 q_14), (oa (a 40) cI 6 T1), (oa (a 29) cI 42 P1), (oa (a 30) cI 42 Q1), (oa (a 33) cI 42 ox), (oa (a 34) cI 42 oy), (oa (a 37) cZ 201 mt), (oa (a 38) cZ 201 wi), (oa (a 39) cZ 8040 ins)]) [8, 9, 10, 11, 12, 13, 0, 1, 2, 3, 4, 5, 6, 7] rfl
              have hD := hD.sub (ws' := [(om k0 a (upd I0 31 z9) J0), (oa (a 1) cI 201 kd), (oa (a 11) cI 201 mn), (oa (a 12) cI 8040 cx), (oa (a 13) cI 8040 cy), (oa (a 32) cI 8 q_14), (oa (a 40) cI 6 T1), (oa (a 29) cI 42 P1), (oa (a 30) cI 42 Q1), (oa (a 33) cI 42 ox), (oa (a 34) cI 42 oy), (oa (a 37) cZ 201 mt), (oa (a 38) cZ 201 wi), (oa (a 39) cZ 8040 ins)]) [8, 9, 10, 11, 12, 13, 0, 1, 2, 3, 4, 5, 6, 7] (by decide) rfl
              have hP : va_P (dC, dI) classes [(om k0 a (upd I0 31 z9) J0), (oa (a 1) cI 201 kd), (oa (a 11) cI 201 mn), (oa (a 12) cI 8040 cx), (oa (a 13) cI 8040 cy), (oa (a 32) cI 8 q_14), (oa (a 40) cI 6 T1), (oa (a 29) cI 42 P1), (oa (a 30) cI 42 Q1), (oa (a 33) cI 42 ox), (oa (a 34) cI 42 oy), (oa (a 37) cZ 201 mt), (oa (a 38) cZ 201 wi), (oa (a 39) cZ 8040 ins)] H := hP
              have hD : va_D A [(om k0 a (upd I0 31 z9) J0), (oa (a 1) cI 201 kd), (oa (a 11) cI 201 mn), (oa (a 12) cI 8040 cx), (oa (a 13) cI 8040 cy), (oa (a 32) cI 8 q_14), (oa (a 40) cI 6 T1), (oa (a 29) cI 42 P1), (oa (a 30) cI 42 Q1), (oa (a 33) cI 42 ox), (oa (a 34) cI 42 oy), (oa (a 37) cZ 201 mt), (oa (a 38) cZ 201 wi), (oa (a 39) cZ 8040 ins)] := hD
              refine zz_i (v := pI (inF (kd f).toInt n (cF40 cx f) (cF40 cy f) (cF40 cx g k).toInt (cF40 cy g k).toInt)) (rfl) ?_
              refine lv_aload_n hx hb dX11_isLawfulTo_118 rfl (lv_at hl 3 rfl) ?_
              refine va_get (D := (dC, dI)) (ci := 9) (v := .ref (a 39)) (C := RX11) (T := TX11) (N := 55) hx hb hts inX11 hown hK hP 0 rfl rfl 39 (by decide) (hts _ mw_1198) (fun _ h9 => h9) rfl dX11_isLawfulTo_119 ?_
              refine lv_bipush (v := 40) hx hb dX11_isLawfulTo_122 (by decide) ?_
              refine lv_iload_n hx hb dX11_isLawfulTo_124 rfl (lv_at hl 5 rfl) ?_
              refine lv_imul hx hb dX11_isLawfulTo_125 ?_
              refine zz_i (v := nI (40 * g)) (pk_mul 40 g) ?_
              refine lv_iload hx hb dX11_isLawfulTo_126 (lv_at hl 2 rfl) ?_
              refine lv_iadd hx hb dX11_isLawfulTo_128 ?_
              refine zz_i (v := nI (40 * g + k)) (nI_add (40 * g) k) ?_
              refine z_zald hx hb hK hP 13 1 rfl rfl (e := 40 * g + k) rfl (by omega) (by omega) dX11_isLawfulTo_129 ?_
              refine zz_i (v := pI (IN k)) (hin k (by omega) (by omega)) ?_
              refine lv_icmp_eq (tgt := 135) hx hb dX11_isLawfulTo_130 (by decide) (fun c_15 => ?_) (fun c_15 => ?_)
              · have c_15 : (pI (inF (kd f).toInt n (cF40 cx f) (cF40 cy f) (cF40 cx g k).toInt (cF40 cy g k).toInt)).toInt = (pI (IN k)).toInt := zc_eq rfl rfl c_15
                refine lv_aload_n hx hb dX11_isLawfulTo_135 rfl (lv_at hl 3 rfl) ?_
                refine va_get (D := (dC, dI)) (ci := 9) (v := .ref (a 1)) (C := RX11) (T := TX11) (N := 55) hx hb hts inX11 hown hK hP 0 rfl rfl 1 (by decide) (hts _ mw_1160) (fun _ h9 => h9) rfl dX11_isLawfulTo_136 ?_
                refine lv_iload_n hx hb dX11_isLawfulTo_139 rfl (lv_at hl 4 rfl) ?_
                refine z_iald hx hb hK hP 1 0 rfl rfl (e := f) rfl (by omega) (by omega) dX11_isLawfulTo_140 ?_
                refine lv_if_eq (tgt := 185) hx hb dX11_isLawfulTo_141 (by decide) (fun c_16 => ?_) (fun c_16 => ?_)
                · have c_16 : (kd f).toInt = 0 := zc_eq rfl (by decide) c_16
                  refine lv_iinc (v := nI (k + 1)) (lv' := [(5, .int (nI (k + 1))), (7, .int (cy (40 * g + k))), (6, .int (cx (40 * g + k))), (0, .ref k0), (1, .int (nI f)), (2, .int (nI g)), (3, .int 1), (4, .int (nI b))]) hx hb dX11_isLawfulTo_185 hl (k := 2) rfl (nI_add k 1) (by decide) rfl (fun ls hl => ?_)
                  refine lv_goto (tgt := 62) hx hb dX11_isLawfulTo_188 (by decide) ?_
                  exact ih_62 (k + 1) z9 q_14 T1 P1 Q1 H locs ls (by omega) (by omega) (by intro j hj; rcases Nat.lt_or_ge j k with h | h; exact hall j h; obtain rfl : j = k := (by omega); exact ⟨fun h5 => (by first | (exfalso; omega) | exact zp_ieq.mp (by assumption)), fun h0 => (by first | (exfalso; omega) | exact id | assumption)⟩) hP hD hS (lv_sub hl [0, 3, 4, 5, 6, 7] rfl)
                · have c_16 : ¬ (kd f).toInt = 0 := zc_ne rfl (by decide) c_16
                  refine lv_iload_n hx hb dX11_isLawfulTo_144 rfl (lv_at hl 6 rfl) ?_
                  refine lv_iconst (v := 5) hx hb dX11_isLawfulTo_145 (by decide) ?_
                  refine lv_icmp_eq (tgt := 185) hx hb dX11_isLawfulTo_146 (by decide) (fun c_17 => ?_) (fun c_17 => ?_)
                  · exact absurd c_17 (by decide)
                  · refine lv_iload hx hb dX11_isLawfulTo_149 (lv_at hl 7 rfl) ?_
                    refine lv_iconst (v := (-1)) hx hb dX11_isLawfulTo_151 (by decide) ?_
                    refine lv_icmp_eq (tgt := 171) hx hb dX11_isLawfulTo_152 (by decide) (fun c_18 => ?_) (fun c_18 => ?_)
                    · have c_18 : ((b : Nat) : Int) = (-1) := zc_eq (nI_toInt (by omega)) (by decide) c_18
                      exfalso; omega
                    · have c_18 : ¬ ((b : Nat) : Int) = (-1) := zc_ne (nI_toInt (by omega)) (by decide) c_18
                      refine lv_aload_n hx hb dX11_isLawfulTo_155 rfl (lv_at hl 3 rfl) ?_
                      refine lv_iload hx hb dX11_isLawfulTo_156 (lv_at hl 7 rfl) ?_
                      refine lv_iload hx hb dX11_isLawfulTo_158 (lv_at hl 1 rfl) ?_
                      refine lv_iload hx hb dX11_isLawfulTo_160 (lv_at hl 0 rfl) ?_
                      have hPc := hP.sub (ws' := [(om k0 a (upd I0 31 z9) J0), (oa (a 40) cI 6 T1), (oa (a 33) cI 42 ox), (oa (a 34) cI 42 oy)]) [0, 6, 9, 10] rfl
                      have hDc := hD.sub (ws' := [(om k0 a (upd I0 31 z9) J0), (oa (a 40) cI 6 T1), (oa (a 33) cI 42 ox), (oa (a 34) cI 42 oy)]) [0, 6, 9, 10] (by decide) rfl
                      have hFc := va_free (wc := [(om k0 a (upd I0 31 z9) J0), (oa (a 40) cI 6 T1), (oa (a 33) cI 42 ox), (oa (a 34) cI 42 oy)]) hD hS hA [0, 6, 9, 10] rfl
                      refine zcall (st1 := [.int (pI (swB on ox oy b (cx (40 * g + k)).toInt (cy (40 * g + k)).toInt))]) (va_runV (As := [.int (nI b), .int (cx (40 * g + k)), .int (cy (40 * g + k))]) (rest := []) ⟨hx, hb, hml, hown, hts⟩ (k_M_isSweptBy l dC dI cI cZ cF H.size k0 a (upd I0 31 z9) J0 b on (cx (40 * g + k)) (cy (40 * g + k)) T1 ox oy (hon) (by omega) (by omega) (by assumption) ((hp_g k hk9).1) ((hp_g k hk9).2)) (cwV 3 hts (zz_gV mw_1487 mw_1489 mw_66 mw_110 mc_yX11_isSweptBy) rfl rfl rfl (by decide +kernel) ⟨Nat.le_of_ble_eq_true rfl, Nat.le_of_ble_eq_true rfl⟩) (zPV2 (q0 := 0) (ci := 9) hPc hDc hK hXN rfl rfl) rfl rfl hl.1 rfl (lv_room (Nat.le_of_ble_eq_true rfl)) dX11_isLawfulTo_162 ⟨Nat.le_of_ble_eq_true rfl, Nat.le_of_ble_eq_true rfl⟩) hS hFc hFc rfl (fun t H1 locs ht hB hk1 hS => ?_)
                      obtain ⟨q_19, hP1, hD1⟩ := hB
                      rw [ht] at hP1
                      obtain ⟨hP, hD⟩ := va_join (wr := [(oa (a 1) cI 201 kd), (oa (a 11) cI 201 mn), (oa (a 12) cI 8040 cx), (oa (a 13) cI 8040 cy), (oa (a 32) cI 8 q_14), (oa (a 29) cI 42 P1), (oa (a 30) cI 42 Q1), (oa (a 37) cZ 201 mt), (oa (a 38) cZ 201 wi), (oa (a 39) cZ 8040 ins)]) (w1 := [(om k0 a (upd I0 31 z9) J0), (oa (a 40) cI 6 q_19), (oa (a 33) cI 42 ox), (oa (a 34) cI 42 oy)]) hP hD [0, 6, 9, 10] [1, 2, 3, 4, 5, 7, 8, 11, 12, 13] rfl rfl (by decide) (by decide) hk1 hFc hP1 hD1
                      clear hk1 hPc hDc hFc hP1 hD1 ht
                      generalize H1 = H at hP hS ⊢
                      have hP := hP.sub (ws' := [(om k0 a (upd I0 31 z9) J0), (oa (a 1) cI 201 kd), (oa (a 11) cI 201 mn), (oa (a 12) cI 8040 cx), (oa (a 13) cI 8040 cy), (oa (a 32) cI 8 q_14), (oa (a 40) cI 6 q_19), (oa (a 29) cI 42 P1), (oa (a 30) cI 42 Q1), (oa (a 33) cI 42 ox), (oa (a 34) cI 42 oy), (oa (a 37) cZ 201 mt), (oa (a 38) cZ 201 wi), (oa (a 39) cZ 8040 ins)]) [10, 0, 1, 2, 3, 4, 11, 5, 6, 12, 13, 7, 8, 9] rfl
                      have hD := hD.sub (ws' := [(om k0 a (upd I0 31 z9) J0), (oa (a 1) cI 201 kd), (oa (a 11) cI 201 mn), (oa (a 12) cI 8040 cx), (oa (a 13) cI 8040 cy), (oa (a 32) cI 8 q_14), (oa (a 40) cI 6 q_19), (oa (a 29) cI 42 P1), (oa (a 30) cI 42 Q1), (oa (a 33) cI 42 ox), (oa (a 34) cI 42 oy), (oa (a 37) cZ 201 mt), (oa (a 38) cZ 201 wi), (oa (a 39) cZ 8040 ins)]) [10, 0, 1, 2, 3, 4, 11, 5, 6, 12, 13, 7, 8, 9] (by decide) rfl
                      have hP : va_P (dC, dI) classes [(om k0 a (upd I0 31 z9) J0), (oa (a 1) cI 201 kd), (oa (a 11) cI 201 mn), (oa (a 12) cI 8040 cx), (oa (a 13) cI 8040 cy), (oa (a 32) cI 8 q_14), (oa (a 40) cI 6 q_19), (oa (a 29) cI 42 P1), (oa (a 30) cI 42 Q1), (oa (a 33) cI 42 ox), (oa (a 34) cI 42 oy), (oa (a 37) cZ 201 mt), (oa (a 38) cZ 201 wi), (oa (a 39) cZ 8040 ins)] H := hP
                      have hD : va_D A [(om k0 a (upd I0 31 z9) J0), (oa (a 1) cI 201 kd), (oa (a 11) cI 201 mn), (oa (a 12) cI 8040 cx), (oa (a 13) cI 8040 cy), (oa (a 32) cI 8 q_14), (oa (a 40) cI 6 q_19), (oa (a 29) cI 42 P1), (oa (a 30) cI 42 Q1), (oa (a 33) cI 42 ox), (oa (a 34) cI 42 oy), (oa (a 37) cZ 201 mt), (oa (a 38) cZ 201 wi), (oa (a 39) cZ 8040 ins)] := hD
                      refine zz_i (v := pI ((fun k => swB on ox oy b (cF40 cx g k).toInt (cF40 cy g k).toInt) k)) (rfl) ?_
                      refine lv_if_eq (tgt := 185) hx hb dX11_isLawfulTo_165 (by decide) (fun c_20 => ?_) (fun c_20 => ?_)
                      · have c_20 : ¬ ((fun k => swB on ox oy b (cF40 cx g k).toInt (cF40 cy g k).toInt) k) := zp_0 c_20
                        refine lv_iinc (v := nI (k + 1)) (lv' := [(5, .int (nI (k + 1))), (7, .int (cy (40 * g + k))), (6, .int (cx (40 * g + k))), (0, .ref k0), (1, .int (nI f)), (2, .int (nI g)), (3, .int 1), (4, .int (nI b))]) hx hb dX11_isLawfulTo_185 hl (k := 2) rfl (nI_add k 1) (by decide) rfl (fun ls hl => ?_)
                        refine lv_goto (tgt := 62) hx hb dX11_isLawfulTo_188 (by decide) ?_
                        exact ih_62 (k + 1) z9 q_14 q_19 P1 Q1 H locs ls (by omega) (by omega) (by intro j hj; rcases Nat.lt_or_ge j k with h | h; exact hall j h; obtain rfl : j = k := (by omega); exact ⟨fun h5 => (by first | (exfalso; omega) | exact zp_ieq.mp (by assumption)), fun h0 => (by first | (exfalso; omega) | exact id | assumption)⟩) hP hD hS (lv_sub hl [0, 3, 4, 5, 6, 7] rfl)
                      · have c_20 : (fun k => swB on ox oy b (cF40 cx g k).toInt (cF40 cy g k).toInt) k := zp_1 c_20
                        refine lv_goto (tgt := 183) hx hb dX11_isLawfulTo_168 (by decide) ?_
                        refine lv_iconst (v := 0) hx hb dX11_isLawfulTo_183 (by decide) ?_
                        have hP9 := hP.sub (ws' := [(om k0 a (upd I0 31 z9) J0), (oa (a 1) cI 201 kd), (oa (a 11) cI 201 mn), (oa (a 12) cI 8040 cx), (oa (a 13) cI 8040 cy), (oa (a 32) cI 8 q_14), (oa (a 40) cI 6 q_19), (oa (a 29) cI 42 P1), (oa (a 30) cI 42 Q1), (oa (a 33) cI 42 ox), (oa (a 34) cI 42 oy), (oa (a 37) cZ 201 mt), (oa (a 38) cZ 201 wi), (oa (a 39) cZ 8040 ins)]) [0, 1, 2, 3, 4, 5, 6, 7, 8, 9, 10, 11, 12, 13] rfl
                        have hD9 := hD.sub (ws' := [(om k0 a (upd I0 31 z9) J0), (oa (a 1) cI 201 kd), (oa (a 11) cI 201 mn), (oa (a 12) cI 8040 cx), (oa (a 13) cI 8040 cy), (oa (a 32) cI 8 q_14), (oa (a 40) cI 6 q_19), (oa (a 29) cI 42 P1), (oa (a 30) cI 42 Q1), (oa (a 33) cI 42 ox), (oa (a 34) cI 42 oy), (oa (a 37) cZ 201 mt), (oa (a 38) cZ 201 wi), (oa (a 39) cZ 8040 ins)]) [0, 1, 2, 3, 4, 5, 6, 7, 8, 9, 10, 11, 12, 13] (by decide) rfl
                        rw [hQ9]
                        exact W.zret (ty := .boolean) (v := 0) hx hb hr (rfl) (fun t ht hW => ⟨⟨congrArg (fun z => Outcome.returned (some (Value.int z))) (show (0 : Int32) = pI (lawTo (ox 0) (oy 0) (kd f).toInt n (cF40 cx f) (cF40 cy f) (kd g).toInt m2 (cF40 cx g) (cF40 cy g) MT WI IN (fun k => swB on ox oy b (cF40 cx g k).toInt (cF40 cy g k).toInt)) from (zp_f (fun h => (h.2.2.1 k (by omega)).2 (by omega) (by assumption))).symm), z9, q_14, q_19, P1, Q1, by rw [ht]; exact hP9, hD9⟩, hS.F ht⟩) hS.2.2 dX11_isLawfulTo_184
              · have c_15 : ¬ (pI (inF (kd f).toInt n (cF40 cx f) (cF40 cy f) (cF40 cx g k).toInt (cF40 cy g k).toInt)).toInt = (pI (IN k)).toInt := zc_ne rfl rfl c_15
                refine lv_iconst (v := 0) hx hb dX11_isLawfulTo_133 (by decide) ?_
                have hP9 := hP.sub (ws' := [(om k0 a (upd I0 31 z9) J0), (oa (a 1) cI 201 kd), (oa (a 11) cI 201 mn), (oa (a 12) cI 8040 cx), (oa (a 13) cI 8040 cy), (oa (a 32) cI 8 q_14), (oa (a 40) cI 6 T1), (oa (a 29) cI 42 P1), (oa (a 30) cI 42 Q1), (oa (a 33) cI 42 ox), (oa (a 34) cI 42 oy), (oa (a 37) cZ 201 mt), (oa (a 38) cZ 201 wi), (oa (a 39) cZ 8040 ins)]) [0, 1, 2, 3, 4, 5, 6, 7, 8, 9, 10, 11, 12, 13] rfl
                have hD9 := hD.sub (ws' := [(om k0 a (upd I0 31 z9) J0), (oa (a 1) cI 201 kd), (oa (a 11) cI 201 mn), (oa (a 12) cI 8040 cx), (oa (a 13) cI 8040 cy), (oa (a 32) cI 8 q_14), (oa (a 40) cI 6 T1), (oa (a 29) cI 42 P1), (oa (a 30) cI 42 Q1), (oa (a 33) cI 42 ox), (oa (a 34) cI 42 oy), (oa (a 37) cZ 201 mt), (oa (a 38) cZ 201 wi), (oa (a 39) cZ 8040 ins)]) [0, 1, 2, 3, 4, 5, 6, 7, 8, 9, 10, 11, 12, 13] (by decide) rfl
                rw [hQ9]
                exact W.zret (ty := .boolean) (v := 0) hx hb hr (rfl) (fun t ht hW => ⟨⟨congrArg (fun z => Outcome.returned (some (Value.int z))) (show (0 : Int32) = pI (lawTo (ox 0) (oy 0) (kd f).toInt n (cF40 cx f) (cF40 cy f) (kd g).toInt m2 (cF40 cx g) (cF40 cy g) MT WI IN (fun k => swB on ox oy b (cF40 cx g k).toInt (cF40 cy g k).toInt)) from (zp_f (fun h => absurd (zp_ieq.mpr ((h.2.2.1 k (by omega)).1 (by omega))) (by assumption))).symm), z9, q_14, T1, P1, Q1, by rw [ht]; exact hP9, hD9⟩, hS.F ht⟩) hS.2.2 dX11_isLawfulTo_134
      exact hl_62 _ 0 (I0 31) q_1 T0 P0 Q0 H locs ls (Nat.lt_succ_self _) (by omega) (by intro j hj; omega) hP hD hS (lv_sub hl [0, 1, 2, 3, 4, 5] rfl)
    · have c_3 : 5 ≤ (kd g).toInt := zp_1 c_3
      refine lv_aload_n hx hb dX11_isLawfulTo_25 rfl (lv_at hl 0 rfl) ?_
      refine lv_iload_n hx hb dX11_isLawfulTo_26 rfl (lv_at hl 2 rfl) ?_
      refine lv_aload_n hx hb dX11_isLawfulTo_27 rfl (lv_at hl 0 rfl) ?_
      refine va_get (D := (dC, dI)) (ci := 9) (v := .ref (a 12)) (C := RX11) (T := TX11) (N := 55) hx hb hts inX11 hown hK hP 0 rfl rfl 12 (by decide) (hts _ mw_1171) (fun _ h9 => h9) rfl dX11_isLawfulTo_28 ?_
      refine lv_bipush (v := 40) hx hb dX11_isLawfulTo_31 (by decide) ?_
      refine lv_iload_n hx hb dX11_isLawfulTo_33 rfl (lv_at hl 1 rfl) ?_
      refine lv_imul hx hb dX11_isLawfulTo_34 ?_
      refine zz_i (v := nI (40 * f)) (pk_mul 40 f) ?_
      refine z_iald hx hb hK hP 3 0 rfl rfl (e := 40 * f) rfl (by omega) (by omega) dX11_isLawfulTo_35 ?_
      refine lv_aload_n hx hb dX11_isLawfulTo_36 rfl (lv_at hl 0 rfl) ?_
      refine va_get (D := (dC, dI)) (ci := 9) (v := .ref (a 13)) (C := RX11) (T := TX11) (N := 55) hx hb hts inX11 hown hK hP 0 rfl rfl 13 (by decide) (hts _ mw_1172) (fun _ h9 => h9) rfl dX11_isLawfulTo_37 ?_
      refine lv_bipush (v := 40) hx hb dX11_isLawfulTo_40 (by decide) ?_
      refine lv_iload_n hx hb dX11_isLawfulTo_42 rfl (lv_at hl 1 rfl) ?_
      refine lv_imul hx hb dX11_isLawfulTo_43 ?_
      refine zz_i (v := nI (40 * f)) (pk_mul 40 f) ?_
      refine z_iald hx hb hK hP 4 0 rfl rfl (e := 40 * f) rfl (by omega) (by omega) dX11_isLawfulTo_44 ?_
      have hPc := hP.sub (ws' := [(om k0 a I0 J0), (oa (a 1) cI 201 kd), (oa (a 11) cI 201 mn), (oa (a 12) cI 8040 cx), (oa (a 13) cI 8040 cy), (oa (a 32) cI 8 q_1)]) [0, 1, 2, 3, 4, 5] rfl
      have hDc := hD.sub (ws' := [(om k0 a I0 J0), (oa (a 1) cI 201 kd), (oa (a 11) cI 201 mn), (oa (a 12) cI 8040 cx), (oa (a 13) cI 8040 cy), (oa (a 32) cI 8 q_1)]) [0, 1, 2, 3, 4, 5] (by decide) rfl
      have hFc := va_free (wc := [(om k0 a I0 J0), (oa (a 1) cI 201 kd), (oa (a 11) cI 201 mn), (oa (a 12) cI 8040 cx), (oa (a 13) cI 8040 cy), (oa (a 32) cI 8 q_1)]) hD hS hA [0, 1, 2, 3, 4, 5] rfl
      refine zcall (st1 := [.int (pI (¬ (∃ i, i < eO (kd g).toInt m2 ∧ eOn m2 (cF40 cx g) (cF40 cy g) i (cx (40 * f)).toInt (cy (40 * f)).toInt) ∧ par2 (eTg m2 (cF40 cx g) (cF40 cy g) (cx (40 * f)).toInt (cy (40 * f)).toInt) (eO (kd g).toInt m2)))]) (va_runV (As := [.int (nI g), .int (cx (40 * f)), .int (cy (40 * f))]) (rest := []) ⟨hx, hb, hml, hown, hts⟩ (k_M_isInside l dC dI cI cZ cF H.size k0 a I0 J0 g m2 kd mn cx cy q_1 (cx (40 * f)) (cy (40 * f)) (by omega) (by assumption) (by omega) (by assumption) ((hp_f 0 (by omega)).1) ((hp_f 0 (by omega)).2)) (cwV 3 hts (zz_gV mw_1471 mw_1473 mw_62 mw_110 mc_yX11_isInside) rfl rfl rfl (by decide +kernel) ⟨Nat.le_of_ble_eq_true rfl, Nat.le_of_ble_eq_true rfl⟩) (zPV2 (q0 := 0) (ci := 9) hPc hDc hK hXN rfl rfl) rfl rfl hl.1 rfl (lv_room (Nat.le_of_ble_eq_true rfl)) dX11_isLawfulTo_45 ⟨Nat.le_of_ble_eq_true rfl, Nat.le_of_ble_eq_true rfl⟩) hS hFc hFc rfl (fun t H1 locs ht hB hk1 hS => ?_)
      obtain ⟨q_21, hP1, hD1⟩ := hB
      rw [ht] at hP1
      obtain ⟨hP, hD⟩ := va_join (wr := [(oa (a 40) cI 6 T0), (oa (a 29) cI 42 P0), (oa (a 30) cI 42 Q0), (oa (a 33) cI 42 ox), (oa (a 34) cI 42 oy), (oa (a 37) cZ 201 mt), (oa (a 38) cZ 201 wi), (oa (a 39) cZ 8040 ins)]) (w1 := [(om k0 a I0 J0), (oa (a 1) cI 201 kd), (oa (a 11) cI 201 mn), (oa (a 12) cI 8040 cx), (oa (a 13) cI 8040 cy), (oa (a 32) cI 8 q_21)]) hP hD [0, 1, 2, 3, 4, 5] [6, 7, 8, 9, 10, 11, 12, 13] rfl rfl (by decide) (by decide) hk1 hFc hP1 hD1
      clear hk1 hPc hDc hFc hP1 hD1 ht
      generalize H1 = H at hP hS ⊢
      have hP := hP.sub (ws' := [(om k0 a I0 J0), (oa (a 1) cI 201 kd), (oa (a 11) cI 201 mn), (oa (a 12) cI 8040 cx), (oa (a 13) cI 8040 cy), (oa (a 32) cI 8 q_21), (oa (a 40) cI 6 T0), (oa (a 29) cI 42 P0), (oa (a 30) cI 42 Q0), (oa (a 33) cI 42 ox), (oa (a 34) cI 42 oy), (oa (a 37) cZ 201 mt), (oa (a 38) cZ 201 wi), (oa (a 39) cZ 8040 ins)]) [8, 9, 10, 11, 12, 13, 0, 1, 2, 3, 4, 5, 6, 7] rfl
      have hD := hD.sub (ws' := [(om k0 a I0 J0), (oa (a 1) cI 201 kd), (oa (a 11) cI 201 mn), (oa (a 12) cI 8040 cx), (oa (a 13) cI 8040 cy), (oa (a 32) cI 8 q_21), (oa (a 40) cI 6 T0), (oa (a 29) cI 42 P0), (oa (a 30) cI 42 Q0), (oa (a 33) cI 42 ox), (oa (a 34) cI 42 oy), (oa (a 37) cZ 201 mt), (oa (a 38) cZ 201 wi), (oa (a 39) cZ 8040 ins)]) [8, 9, 10, 11, 12, 13, 0, 1, 2, 3, 4, 5, 6, 7] (by decide) rfl
      have hP : va_P (dC, dI) classes [(om k0 a I0 J0), (oa (a 1) cI 201 kd), (oa (a 11) cI 201 mn), (oa (a 12) cI 8040 cx), (oa (a 13) cI 8040 cy), (oa (a 32) cI 8 q_21), (oa (a 40) cI 6 T0), (oa (a 29) cI 42 P0), (oa (a 30) cI 42 Q0), (oa (a 33) cI 42 ox), (oa (a 34) cI 42 oy), (oa (a 37) cZ 201 mt), (oa (a 38) cZ 201 wi), (oa (a 39) cZ 8040 ins)] H := hP
      have hD : va_D A [(om k0 a I0 J0), (oa (a 1) cI 201 kd), (oa (a 11) cI 201 mn), (oa (a 12) cI 8040 cx), (oa (a 13) cI 8040 cy), (oa (a 32) cI 8 q_21), (oa (a 40) cI 6 T0), (oa (a 29) cI 42 P0), (oa (a 30) cI 42 Q0), (oa (a 33) cI 42 ox), (oa (a 34) cI 42 oy), (oa (a 37) cZ 201 mt), (oa (a 38) cZ 201 wi), (oa (a 39) cZ 8040 ins)] := hD
      refine zz_i (v := pI (inF (kd g).toInt m2 (cF40 cx g) (cF40 cy g) (cF40 cx f 0).toInt (cF40 cy f 0).toInt)) (rfl) ?_
      refine lv_aload_n hx hb dX11_isLawfulTo_48 rfl (lv_at hl 0 rfl) ?_
      refine va_get (D := (dC, dI)) (ci := 9) (v := .ref (a 38)) (C := RX11) (T := TX11) (N := 55) hx hb hts inX11 hown hK hP 0 rfl rfl 38 (by decide) (hts _ mw_1197) (fun _ h9 => h9) rfl dX11_isLawfulTo_49 ?_
      refine lv_iload_n hx hb dX11_isLawfulTo_52 rfl (lv_at hl 2 rfl) ?_
      refine z_zald hx hb hK hP 12 1 rfl rfl (e := g) rfl (by omega) (by omega) dX11_isLawfulTo_53 ?_
      refine zz_i (v := pI WI) (hwi (by omega)) ?_
      refine lv_icmp_eq (tgt := 59) hx hb dX11_isLawfulTo_54 (by decide) (fun c_22 => ?_) (fun c_22 => ?_)
      · have c_22 : (pI (inF (kd g).toInt m2 (cF40 cx g) (cF40 cy g) (cF40 cx f 0).toInt (cF40 cy f 0).toInt)).toInt = (pI WI).toInt := zc_eq rfl rfl c_22
        refine lv_iconst (v := 0) hx hb dX11_isLawfulTo_59 (by decide) ?_
        refine lv_istore (lv' := [(5, .int 0), (0, .ref k0), (1, .int (nI f)), (2, .int (nI g)), (3, .int 1), (4, .int (nI b))]) hx hb dX11_isLawfulTo_60 hl (by decide) rfl (fun ls hl => ?_)
        have hl_62 : ∀ (n9 : Nat) (k : Nat) (z9 : Int32) (S1 : Nat → Int32) (T1 : Nat → Int32) (P1 : Nat → Int32) (Q1 : Nat → Int32) (H : Heap) (locs : List Loc) (ls : Array Slot), m2 - k < n9 → (k ≤ m2) → (∀ j, j < k → (5 ≤ (kd f).toInt → (inF (kd f).toInt n (cF40 cx f) (cF40 cy f) (cF40 cx g j).toInt (cF40 cy g j).toInt ↔ IN j)) ∧ (¬ (kd f).toInt = 0 → ¬ (fun k => swB on ox oy b (cF40 cx g k).toInt (cF40 cy g k).toInt) j)) → va_P (dC, dI) classes [(om k0 a (upd I0 31 z9) J0), (oa (a 1) cI 201 kd), (oa (a 11) cI 201 mn), (oa (a 12) cI 8040 cx), (oa (a 13) cI 8040 cy), (oa (a 32) cI 8 S1), (oa (a 40) cI 6 T1), (oa (a 29) cI 42 P1), (oa (a 30) cI 42 Q1), (oa (a 33) cI 42 ox), (oa (a 34) cI 42 oy), (oa (a 37) cZ 201 mt), (oa (a 38) cZ 201 wi), (oa (a 39) cZ 8040 ins)] H → va_D A [(om k0 a (upd I0 31 z9) J0), (oa (a 1) cI 201 kd), (oa (a 11) cI 201 mn), (oa (a 12) cI 8040 cx), (oa (a 13) cI 8040 cy), (oa (a 32) cI 8 S1), (oa (a 40) cI 6 T1), (oa (a 29) cI 42 P1), (oa (a 30) cI 42 Q1), (oa (a 33) cI 42 ox), (oa (a 34) cI 42 oy), (oa (a 37) cZ 201 mt), (oa (a 38) cZ 201 wi), (oa (a 39) cZ 8040 ins)] → va_S A s.heap H locs → lv_has ls 8 [(5, .int (nI k)), (0, .ref k0), (1, .int (nI f)), (2, .int (nI g)), (3, .int 1), (4, .int (nI b))] → W p l e ((headSpec (.code yX11_isLawfulTo cX11_isLawfulTo 8 (some .boolean) :: ws0) ({ frames := 4, cells := 0, slots := 0, locals := 108 } : Room)).room) s m ([.ref k0, .int (nI f), .int (nI g), .int 1, .int (nI b)] : List Value).toArray below meth c H locs 0 0 Q9 (F0 m 62 ls []) := by
          intro n9
          induction n9 with
          | zero => intro k z9 S1 T1 P1 Q1 H locs ls hm; exact absurd hm (Nat.not_lt_zero _)
          | succ n9 ih_62 =>
            intro k z9 S1 T1 P1 Q1 H locs ls hm hk hall hP hD hS hl
            refine lv_iload hx hb dX11_isLawfulTo_62 (lv_at hl 0 rfl) ?_
            refine lv_aload_n hx hb dX11_isLawfulTo_64 rfl (lv_at hl 1 rfl) ?_
            refine va_get (D := (dC, dI)) (ci := 9) (v := .ref (a 11)) (C := RX11) (T := TX11) (N := 55) hx hb hts inX11 hown hK hP 0 rfl rfl 11 (by decide) (hts _ mw_1170) (fun _ h9 => h9) rfl dX11_isLawfulTo_65 ?_
            refine lv_iload_n hx hb dX11_isLawfulTo_68 rfl (lv_at hl 3 rfl) ?_
            refine z_iald hx hb hK hP 2 0 rfl rfl (e := g) rfl (by omega) (by omega) dX11_isLawfulTo_69 ?_
            refine zz_i (v := nI m2) (hm_g) ?_
            refine lv_icmp_ge (tgt := 191) hx hb dX11_isLawfulTo_70 (by decide) (fun c_23 => ?_) (fun c_23 => ?_)
            · have c_23 : ((m2 : Nat) : Int) ≤ ((k : Nat) : Int) := zc_le (nI_toInt (by omega)) (nI_toInt (by omega)) c_23
              refine lv_aload_n hx hb dX11_isLawfulTo_191 rfl (lv_at hl 1 rfl) ?_
              refine va_get (D := (dC, dI)) (ci := 9) (v := .ref (a 1)) (C := RX11) (T := TX11) (N := 55) hx hb hts inX11 hown hK hP 0 rfl rfl 1 (by decide) (hts _ mw_1160) (fun _ h9 => h9) rfl dX11_isLawfulTo_192 ?_
              refine lv_iload_n hx hb dX11_isLawfulTo_195 rfl (lv_at hl 2 rfl) ?_
              refine z_iald hx hb hK hP 1 0 rfl rfl (e := f) rfl (by omega) (by omega) dX11_isLawfulTo_196 ?_
              refine lv_if_ne (tgt := 209) hx hb dX11_isLawfulTo_197 (by decide) (fun c_24 => ?_) (fun c_24 => ?_)
              · have c_24 : ¬ (kd f).toInt = 0 := zc_ne rfl (by decide) c_24
                refine lv_iconst (v := 1) hx hb dX11_isLawfulTo_209 (by decide) ?_
                refine lv_goto (tgt := 214) hx hb dX11_isLawfulTo_210 (by decide) ?_
                have hP9 := hP.sub (ws' := [(om k0 a (upd I0 31 z9) J0), (oa (a 1) cI 201 kd), (oa (a 11) cI 201 mn), (oa (a 12) cI 8040 cx), (oa (a 13) cI 8040 cy), (oa (a 32) cI 8 S1), (oa (a 40) cI 6 T1), (oa (a 29) cI 42 P1), (oa (a 30) cI 42 Q1), (oa (a 33) cI 42 ox), (oa (a 34) cI 42 oy), (oa (a 37) cZ 201 mt), (oa (a 38) cZ 201 wi), (oa (a 39) cZ 8040 ins)]) [0, 1, 2, 3, 4, 5, 6, 7, 8, 9, 10, 11, 12, 13] rfl
                have hD9 := hD.sub (ws' := [(om k0 a (upd I0 31 z9) J0), (oa (a 1) cI 201 kd), (oa (a 11) cI 201 mn), (oa (a 12) cI 8040 cx), (oa (a 13) cI 8040 cy), (oa (a 32) cI 8 S1), (oa (a 40) cI 6 T1), (oa (a 29) cI 42 P1), (oa (a 30) cI 42 Q1), (oa (a 33) cI 42 ox), (oa (a 34) cI 42 oy), (oa (a 37) cZ 201 mt), (oa (a 38) cZ 201 wi), (oa (a 39) cZ 8040 ins)]) [0, 1, 2, 3, 4, 5, 6, 7, 8, 9, 10, 11, 12, 13] (by decide) rfl
                rw [hQ9]
                exact W.zret (ty := .boolean) (v := 1) hx hb hr (rfl) (fun t ht hW => ⟨⟨congrArg (fun z => Outcome.returned (some (Value.int z))) (show (1 : Int32) = pI (lawTo (ox 0) (oy 0) (kd f).toInt n (cF40 cx f) (cF40 cy f) (kd g).toInt m2 (cF40 cx g) (cF40 cy g) MT WI IN (fun k => swB on ox oy b (cF40 cx g k).toInt (cF40 cy g k).toInt)) from (zp_t (by first | exact ⟨zp_ieq.mp (by assumption), fun h => (by first | (exfalso; omega) | exact zp_ieq.mp (by assumption)), fun j hj => hall j (by omega), fun h => (by first | (exfalso; omega) | assumption)⟩ | exact fun h => absurd (h.2.2.2 (by omega)) (by assumption))).symm), z9, S1, T1, P1, Q1, by rw [ht]; exact hP9, hD9⟩, hS.F ht⟩) hS.2.2 dX11_isLawfulTo_214
              · have c_24 : (kd f).toInt = 0 := zc_eq rfl (by decide) c_24
                refine lv_aload_n hx hb dX11_isLawfulTo_200 rfl (lv_at hl 1 rfl) ?_
                refine lv_iload_n hx hb dX11_isLawfulTo_201 rfl (lv_at hl 2 rfl) ?_
                refine lv_iload_n hx hb dX11_isLawfulTo_202 rfl (lv_at hl 3 rfl) ?_
                have hPc := hP.sub (ws' := [(om k0 a (upd I0 31 z9) J0), (oa (a 1) cI 201 kd), (oa (a 11) cI 201 mn), (oa (a 12) cI 8040 cx), (oa (a 13) cI 8040 cy), (oa (a 32) cI 8 S1), (oa (a 33) cI 42 ox), (oa (a 34) cI 42 oy)]) [0, 1, 2, 3, 4, 5, 9, 10] rfl
                have hDc := hD.sub (ws' := [(om k0 a (upd I0 31 z9) J0), (oa (a 1) cI 201 kd), (oa (a 11) cI 201 mn), (oa (a 12) cI 8040 cx), (oa (a 13) cI 8040 cy), (oa (a 32) cI 8 S1), (oa (a 33) cI 42 ox), (oa (a 34) cI 42 oy)]) [0, 1, 2, 3, 4, 5, 9, 10] (by decide) rfl
                have hFc := va_free (wc := [(om k0 a (upd I0 31 z9) J0), (oa (a 1) cI 201 kd), (oa (a 11) cI 201 mn), (oa (a 12) cI 8040 cx), (oa (a 13) cI 8040 cy), (oa (a 32) cI 8 S1), (oa (a 33) cI 42 ox), (oa (a 34) cI 42 oy)]) hD hS hA [0, 1, 2, 3, 4, 5, 9, 10] rfl
                refine zcall (st1 := [.int (pI (∀ k, k < eO (kd g).toInt m2 → fWy (ox 0).toInt (oy 0).toInt (cx (40 * f)).toInt (cy (40 * f)).toInt m2 (cF40 cx g) (cF40 cy g) k))]) (va_runV (As := [.int (nI f), .int (nI g)]) (rest := []) ⟨hx, hb, hml, hown, hts⟩ (k_M_isFreeWay l dC dI cI cZ cF H.size k0 a (upd I0 31 z9) J0 f g m2 kd mn cx cy S1 ox oy (by omega) ((hpo 0 (by omega)).1) ((hpo 0 (by omega)).2) ((hp_f 0 (by omega)).1) ((hp_f 0 (by omega)).2) (by omega) (by assumption) (by omega) (by assumption)) (cwV 2 hts (zz_gV mw_1506 mw_1508 mw_70 mw_110 mc_yX11_isFreeWay) rfl rfl rfl (by decide +kernel) ⟨Nat.le_of_ble_eq_true rfl, Nat.le_of_ble_eq_true rfl⟩) (zPV2 (q0 := 0) (ci := 9) hPc hDc hK hXN rfl rfl) rfl rfl hl.1 rfl (lv_room (Nat.le_of_ble_eq_true rfl)) dX11_isLawfulTo_203 ⟨Nat.le_of_ble_eq_true rfl, Nat.le_of_ble_eq_true rfl⟩) hS hFc hFc rfl (fun t H1 locs ht hB hk1 hS => ?_)
                obtain ⟨q_25, hP1, hD1⟩ := hB
                rw [ht] at hP1
                obtain ⟨hP, hD⟩ := va_join (wr := [(oa (a 40) cI 6 T1), (oa (a 29) cI 42 P1), (oa (a 30) cI 42 Q1), (oa (a 37) cZ 201 mt), (oa (a 38) cZ 201 wi), (oa (a 39) cZ 8040 ins)]) (w1 := [(om k0 a (upd I0 31 z9) J0), (oa (a 1) cI 201 kd), (oa (a 11) cI 201 mn), (oa (a 12) cI 8040 cx), (oa (a 13) cI 8040 cy), (oa (a 32) cI 8 q_25), (oa (a 33) cI 42 ox), (oa (a 34) cI 42 oy)]) hP hD [0, 1, 2, 3, 4, 5, 9, 10] [6, 7, 8, 11, 12, 13] rfl rfl (by decide) (by decide) hk1 hFc hP1 hD1
                clear hk1 hPc hDc hFc hP1 hD1 ht
                generalize H1 = H at hP hS ⊢
                have hP := hP.sub (ws' := [(om k0 a (upd I0 31 z9) J0), (oa (a 1) cI 201 kd), (oa (a 11) cI 201 mn), (oa (a 12) cI 8040 cx), (oa (a 13) cI 8040 cy), (oa (a 32) cI 8 q_25), (oa (a 40) cI 6 T1), (oa (a 29) cI 42 P1), (oa (a 30) cI 42 Q1), (oa (a 33) cI 42 ox), (oa (a 34) cI 42 oy), (oa (a 37) cZ 201 mt), (oa (a 38) cZ 201 wi), (oa (a 39) cZ 8040 ins)]) [6, 7, 8, 9, 10, 11, 0, 1, 2, 12, 13, 3, 4, 5] rfl
                have hD := hD.sub (ws' := [(om k0 a (upd I0 31 z9) J0), (oa (a 1) cI 201 kd), (oa (a 11) cI 201 mn), (oa (a 12) cI 8040 cx), (oa (a 13) cI 8040 cy), (oa (a 32) cI 8 q_25), (oa (a 40) cI 6 T1), (oa (a 29) cI 42 P1), (oa (a 30) cI 42 Q1), (oa (a 33) cI 42 ox), (oa (a 34) cI 42 oy), (oa (a 37) cZ 201 mt), (oa (a 38) cZ 201 wi), (oa (a 39) cZ 8040 ins)]) [6, 7, 8, 9, 10, 11, 0, 1, 2, 12, 13, 3, 4, 5] (by decide) rfl
                have hP : va_P (dC, dI) classes [(om k0 a (upd I0 31 z9) J0), (oa (a 1) cI 201 kd), (oa (a 11) cI 201 mn), (oa (a 12) cI 8040 cx), (oa (a 13) cI 8040 cy), (oa (a 32) cI 8 q_25), (oa (a 40) cI 6 T1), (oa (a 29) cI 42 P1), (oa (a 30) cI 42 Q1), (oa (a 33) cI 42 ox), (oa (a 34) cI 42 oy), (oa (a 37) cZ 201 mt), (oa (a 38) cZ 201 wi), (oa (a 39) cZ 8040 ins)] H := hP
                have hD : va_D A [(om k0 a (upd I0 31 z9) J0), (oa (a 1) cI 201 kd), (oa (a 11) cI 201 mn), (oa (a 12) cI 8040 cx), (oa (a 13) cI 8040 cy), (oa (a 32) cI 8 q_25), (oa (a 40) cI 6 T1), (oa (a 29) cI 42 P1), (oa (a 30) cI 42 Q1), (oa (a 33) cI 42 ox), (oa (a 34) cI 42 oy), (oa (a 37) cZ 201 mt), (oa (a 38) cZ 201 wi), (oa (a 39) cZ 8040 ins)] := hD
                refine zz_i (v := pI (∀ k, k < eO (kd g).toInt m2 → fWy (ox 0).toInt (oy 0).toInt (cF40 cx f 0).toInt (cF40 cy f 0).toInt m2 (cF40 cx g) (cF40 cy g) k)) (rfl) ?_
                refine lv_if_eq (tgt := 213) hx hb dX11_isLawfulTo_206 (by decide) (fun c_26 => ?_) (fun c_26 => ?_)
                · have c_26 : ¬ (∀ k, k < eO (kd g).toInt m2 → fWy (ox 0).toInt (oy 0).toInt (cF40 cx f 0).toInt (cF40 cy f 0).toInt m2 (cF40 cx g) (cF40 cy g) k) := zp_0 c_26
                  refine lv_iconst (v := 0) hx hb dX11_isLawfulTo_213 (by decide) ?_
                  have hP9 := hP.sub (ws' := [(om k0 a (upd I0 31 z9) J0), (oa (a 1) cI 201 kd), (oa (a 11) cI 201 mn), (oa (a 12) cI 8040 cx), (oa (a 13) cI 8040 cy), (oa (a 32) cI 8 q_25), (oa (a 40) cI 6 T1), (oa (a 29) cI 42 P1), (oa (a 30) cI 42 Q1), (oa (a 33) cI 42 ox), (oa (a 34) cI 42 oy), (oa (a 37) cZ 201 mt), (oa (a 38) cZ 201 wi), (oa (a 39) cZ 8040 ins)]) [0, 1, 2, 3, 4, 5, 6, 7, 8, 9, 10, 11, 12, 13] rfl
                  have hD9 := hD.sub (ws' := [(om k0 a (upd I0 31 z9) J0), (oa (a 1) cI 201 kd), (oa (a 11) cI 201 mn), (oa (a 12) cI 8040 cx), (oa (a 13) cI 8040 cy), (oa (a 32) cI 8 q_25), (oa (a 40) cI 6 T1), (oa (a 29) cI 42 P1), (oa (a 30) cI 42 Q1), (oa (a 33) cI 42 ox), (oa (a 34) cI 42 oy), (oa (a 37) cZ 201 mt), (oa (a 38) cZ 201 wi), (oa (a 39) cZ 8040 ins)]) [0, 1, 2, 3, 4, 5, 6, 7, 8, 9, 10, 11, 12, 13] (by decide) rfl
                  rw [hQ9]
                  exact W.zret (ty := .boolean) (v := 0) hx hb hr (rfl) (fun t ht hW => ⟨⟨congrArg (fun z => Outcome.returned (some (Value.int z))) (show (0 : Int32) = pI (lawTo (ox 0) (oy 0) (kd f).toInt n (cF40 cx f) (cF40 cy f) (kd g).toInt m2 (cF40 cx g) (cF40 cy g) MT WI IN (fun k => swB on ox oy b (cF40 cx g k).toInt (cF40 cy g k).toInt)) from (zp_f (by first | exact ⟨zp_ieq.mp (by assumption), fun h => (by first | (exfalso; omega) | exact zp_ieq.mp (by assumption)), fun j hj => hall j (by omega), fun h => (by first | (exfalso; omega) | assumption)⟩ | exact fun h => absurd (h.2.2.2 (by omega)) (by assumption))).symm), z9, q_25, T1, P1, Q1, by rw [ht]; exact hP9, hD9⟩, hS.F ht⟩) hS.2.2 dX11_isLawfulTo_214
                · have c_26 : ∀ k, k < eO (kd g).toInt m2 → fWy (ox 0).toInt (oy 0).toInt (cF40 cx f 0).toInt (cF40 cy f 0).toInt m2 (cF40 cx g) (cF40 cy g) k := zp_1 c_26
                  refine lv_iconst (v := 1) hx hb dX11_isLawfulTo_209 (by decide) ?_
                  refine lv_goto (tgt := 214) hx hb dX11_isLawfulTo_210 (by decide) ?_
                  have hP9 := hP.sub (ws' := [(om k0 a (upd I0 31 z9) J0), (oa (a 1) cI 201 kd), (oa (a 11) cI 201 mn), (oa (a 12) cI 8040 cx), (oa (a 13) cI 8040 cy), (oa (a 32) cI 8 q_25), (oa (a 40) cI 6 T1), (oa (a 29) cI 42 P1), (oa (a 30) cI 42 Q1), (oa (a 33) cI 42 ox), (oa (a 34) cI 42 oy), (oa (a 37) cZ 201 mt), (oa (a 38) cZ 201 wi), (oa (a 39) cZ 8040 ins)]) [0, 1, 2, 3, 4, 5, 6, 7, 8, 9, 10, 11, 12, 13] rfl
                  have hD9 := hD.sub (ws' := [(om k0 a (upd I0 31 z9) J0), (oa (a 1) cI 201 kd), (oa (a 11) cI 201 mn), (oa (a 12) cI 8040 cx), (oa (a 13) cI 8040 cy), (oa (a 32) cI 8 q_25), (oa (a 40) cI 6 T1), (oa (a 29) cI 42 P1), (oa (a 30) cI 42 Q1), (oa (a 33) cI 42 ox), (oa (a 34) cI 42 oy), (oa (a 37) cZ 201 mt), (oa (a 38) cZ 201 wi), (oa (a 39) cZ 8040 ins)]) [0, 1, 2, 3, 4, 5, 6, 7, 8, 9, 10, 11, 12, 13] (by decide) rfl
                  rw [hQ9]
                  exact W.zret (ty := .boolean) (v := 1) hx hb hr (rfl) (fun t ht hW => ⟨⟨congrArg (fun z => Outcome.returned (some (Value.int z))) (show (1 : Int32) = pI (lawTo (ox 0) (oy 0) (kd f).toInt n (cF40 cx f) (cF40 cy f) (kd g).toInt m2 (cF40 cx g) (cF40 cy g) MT WI IN (fun k => swB on ox oy b (cF40 cx g k).toInt (cF40 cy g k).toInt)) from (zp_t (by first | exact ⟨zp_ieq.mp (by assumption), fun h => (by first | (exfalso; omega) | exact zp_ieq.mp (by assumption)), fun j hj => hall j (by omega), fun h => (by first | (exfalso; omega) | assumption)⟩ | exact fun h => absurd (h.2.2.2 (by omega)) (by assumption))).symm), z9, q_25, T1, P1, Q1, by rw [ht]; exact hP9, hD9⟩, hS.F ht⟩) hS.2.2 dX11_isLawfulTo_214
            · have c_23 : ((k : Nat) : Int) < ((m2 : Nat) : Int) := zc_nle (nI_toInt (by omega)) (nI_toInt (by omega)) c_23
              have hk9 : k < m2 := (by omega)
              refine lv_aload_n hx hb dX11_isLawfulTo_73 rfl (lv_at hl 1 rfl) ?_
              refine va_get (D := (dC, dI)) (ci := 9) (v := .ref (a 12)) (C := RX11) (T := TX11) (N := 55) hx hb hts inX11 hown hK hP 0 rfl rfl 12 (by decide) (hts _ mw_1171) (fun _ h9 => h9) rfl dX11_isLawfulTo_74 ?_
              refine lv_bipush (v := 40) hx hb dX11_isLawfulTo_77 (by decide) ?_
              refine lv_iload_n hx hb dX11_isLawfulTo_79 rfl (lv_at hl 3 rfl) ?_
              refine lv_imul hx hb dX11_isLawfulTo_80 ?_
              refine zz_i (v := nI (40 * g)) (pk_mul 40 g) ?_
              refine lv_iload hx hb dX11_isLawfulTo_81 (lv_at hl 0 rfl) ?_
              refine lv_iadd hx hb dX11_isLawfulTo_83 ?_
              refine zz_i (v := nI (40 * g + k)) (nI_add (40 * g) k) ?_
              refine z_iald hx hb hK hP 3 0 rfl rfl (e := 40 * g + k) rfl (by omega) (by omega) dX11_isLawfulTo_84 ?_
              refine lv_istore (lv' := [(6, .int (cx (40 * g + k))), (5, .int (nI k)), (0, .ref k0), (1, .int (nI f)), (2, .int (nI g)), (3, .int 1), (4, .int (nI b))]) hx hb dX11_isLawfulTo_85 hl (by decide) rfl (fun ls hl => ?_)
              refine lv_aload_n hx hb dX11_isLawfulTo_87 rfl (lv_at hl 2 rfl) ?_
              refine va_get (D := (dC, dI)) (ci := 9) (v := .ref (a 13)) (C := RX11) (T := TX11) (N := 55) hx hb hts inX11 hown hK hP 0 rfl rfl 13 (by decide) (hts _ mw_1172) (fun _ h9 => h9) rfl dX11_isLawfulTo_88 ?_
              refine lv_bipush (v := 40) hx hb dX11_isLawfulTo_91 (by decide) ?_
              refine lv_iload_n hx hb dX11_isLawfulTo_93 rfl (lv_at hl 4 rfl) ?_
              refine lv_imul hx hb dX11_isLawfulTo_94 ?_
              refine zz_i (v := nI (40 * g)) (pk_mul 40 g) ?_
              refine lv_iload hx hb dX11_isLawfulTo_95 (lv_at hl 1 rfl) ?_
              refine lv_iadd hx hb dX11_isLawfulTo_97 ?_
              refine zz_i (v := nI (40 * g + k)) (nI_add (40 * g) k) ?_
              refine z_iald hx hb hK hP 4 0 rfl rfl (e := 40 * g + k) rfl (by omega) (by omega) dX11_isLawfulTo_98 ?_
              refine lv_istore (lv' := [(7, .int (cy (40 * g + k))), (6, .int (cx (40 * g + k))), (5, .int (nI k)), (0, .ref k0), (1, .int (nI f)), (2, .int (nI g)), (3, .int 1), (4, .int (nI b))]) hx hb dX11_isLawfulTo_99 hl (by decide) rfl (fun ls hl => ?_)
              refine lv_aload_n hx hb dX11_isLawfulTo_101 rfl (lv_at hl 3 rfl) ?_
              refine lv_iload_n hx hb dX11_isLawfulTo_102 rfl (lv_at hl 4 rfl) ?_
              have hPc := hP.sub (ws' := [(om k0 a (upd I0 31 z9) J0), (oa (a 1) cI 201 kd)]) [0, 1] rfl
              have hDc := hD.sub (ws' := [(om k0 a (upd I0 31 z9) J0), (oa (a 1) cI 201 kd)]) [0, 1] (by decide) rfl
              have hFc := va_free (wc := [(om k0 a (upd I0 31 z9) J0), (oa (a 1) cI 201 kd)]) hD hS hA [0, 1] rfl
              refine zcall (st1 := [.int (pI (5 ≤ (kd f).toInt))]) (va_runV (As := [.int (nI f)]) (rest := []) ⟨hx, hb, hml, hown, hts⟩ (k_M_isRing l dC dI cI cZ cF H.size k0 a (upd I0 31 z9) J0 f kd (by omega)) (cwV 1 hts (zz_gV mw_1365 mw_1367 mw_40 mw_110 mc_yX11_isRing) rfl rfl rfl (by decide +kernel) ⟨Nat.le_of_ble_eq_true rfl, Nat.le_of_ble_eq_true rfl⟩) (zPV2 (q0 := 0) (ci := 9) hPc hDc hK hXN rfl rfl) rfl rfl hl.1 rfl (lv_room (Nat.le_of_ble_eq_true rfl)) dX11_isLawfulTo_103 ⟨Nat.le_of_ble_eq_true rfl, Nat.le_of_ble_eq_true rfl⟩) hS hFc hFc rfl (fun t H1 locs ht hB hk1 hS => ?_)
              obtain ⟨hP1, hD1⟩ := hB
              rw [ht] at hP1
              obtain ⟨hP, hD⟩ := va_join (wr := [(oa (a 11) cI 201 mn), (oa (a 12) cI 8040 cx), (oa (a 13) cI 8040 cy), (oa (a 32) cI 8 S1), (oa (a 40) cI 6 T1), (oa (a 29) cI 42 P1), (oa (a 30) cI 42 Q1), (oa (a 33) cI 42 ox), (oa (a 34) cI 42 oy), (oa (a 37) cZ 201 mt), (oa (a 38) cZ 201 wi), (oa (a 39) cZ 8040 ins)]) (w1 := [(om k0 a (upd I0 31 z9) J0), (oa (a 1) cI 201 kd)]) hP hD [0, 1] [2, 3, 4, 5, 6, 7, 8, 9, 10, 11, 12, 13] rfl rfl (by decide) (by decide) hk1 hFc hP1 hD1
              clear hk1 hPc hDc hFc hP1 hD1 ht
              generalize H1 = H at hP hS ⊢
              have hP := hP.sub (ws' := [(om k0 a (upd I0 31 z9) J0), (oa (a 1) cI 201 kd), (oa (a 11) cI 201 mn), (oa (a 12) cI 8040 cx), (oa (a 13) cI 8040 cy), (oa (a 32) cI 8 S1), (oa (a 40) cI 6 T1), (oa (a 29) cI 42 P1), (oa (a 30) cI 42 Q1), (oa (a 33) cI 42 ox), (oa (a 34) cI 42 oy), (oa (a 37) cZ 201 mt), (oa (a 38) cZ 201 wi), (oa (a 39) cZ 8040 ins)]) [12, 13, 0, 1, 2, 3, 4, 5, 6, 7, 8, 9, 10, 11] rfl
              have hD := hD.sub (ws' := [(om k0 a (upd I0 31 z9) J0), (oa (a 1) cI 201 kd), (oa (a 11) cI 201 mn), (oa (a 12) cI 8040 cx), (oa (a 13) cI 8040 cy), (oa (a 32) cI 8 S1), (oa (a 40) cI 6 T1), (oa (a 29) cI 42 P1), (oa (a 30) cI 42 Q1), (oa (a 33) cI 42 ox), (oa (a 34) cI 42 oy), (oa (a 37) cZ 201 mt), (oa (a 38) cZ 201 wi), (oa (a 39) cZ 8040 ins)]) [12, 13, 0, 1, 2, 3, 4, 5, 6, 7, 8, 9, 10, 11] (by decide) rfl
              have hP : va_P (dC, dI) classes [(om k0 a (upd I0 31 z9) J0), (oa (a 1) cI 201 kd), (oa (a 11) cI 201 mn), (oa (a 12) cI 8040 cx), (oa (a 13) cI 8040 cy), (oa (a 32) cI 8 S1), (oa (a 40) cI 6 T1), (oa (a 29) cI 42 P1), (oa (a 30) cI 42 Q1), (oa (a 33) cI 42 ox), (oa (a 34) cI 42 oy), (oa (a 37) cZ 201 mt), (oa (a 38) cZ 201 wi), (oa (a 39) cZ 8040 ins)] H := hP
              have hD : va_D A [(om k0 a (upd I0 31 z9) J0), (oa (a 1) cI 201 kd), (oa (a 11) cI 201 mn), (oa (a 12) cI 8040 cx), (oa (a 13) cI 8040 cy), (oa (a 32) cI 8 S1), (oa (a 40) cI 6 T1), (oa (a 29) cI 42 P1), (oa (a 30) cI 42 Q1), (oa (a 33) cI 42 ox), (oa (a 34) cI 42 oy), (oa (a 37) cZ 201 mt), (oa (a 38) cZ 201 wi), (oa (a 39) cZ 8040 ins)] := hD
              refine lv_if_eq (tgt := 135) hx hb dX11_isLawfulTo_106 (by decide) (fun c_27 => ?_) (fun c_27 => ?_)
              · have c_27 : ¬ (5 ≤ (kd f).toInt) := zp_0 c_27
                refine lv_aload_n hx hb dX11_isLawfulTo_135 rfl (lv_at hl 3 rfl) ?_
                refine va_get (D := (dC, dI)) (ci := 9) (v := .ref (a 1)) (C := RX11) (T := TX11) (N := 55) hx hb hts inX11 hown hK hP 0 rfl rfl 1 (by decide) (hts _ mw_1160) (fun _ h9 => h9) rfl dX11_isLawfulTo_136 ?_
                refine lv_iload_n hx hb dX11_isLawfulTo_139 rfl (lv_at hl 4 rfl) ?_
                refine z_iald hx hb hK hP 1 0 rfl rfl (e := f) rfl (by omega) (by omega) dX11_isLawfulTo_140 ?_
                refine lv_if_eq (tgt := 185) hx hb dX11_isLawfulTo_141 (by decide) (fun c_28 => ?_) (fun c_28 => ?_)
                · have c_28 : (kd f).toInt = 0 := zc_eq rfl (by decide) c_28
                  refine lv_iinc (v := nI (k + 1)) (lv' := [(5, .int (nI (k + 1))), (7, .int (cy (40 * g + k))), (6, .int (cx (40 * g + k))), (0, .ref k0), (1, .int (nI f)), (2, .int (nI g)), (3, .int 1), (4, .int (nI b))]) hx hb dX11_isLawfulTo_185 hl (k := 2) rfl (nI_add k 1) (by decide) rfl (fun ls hl => ?_)
                  refine lv_goto (tgt := 62) hx hb dX11_isLawfulTo_188 (by decide) ?_
                  exact ih_62 (k + 1) z9 S1 T1 P1 Q1 H locs ls (by omega) (by omega) (by intro j hj; rcases Nat.lt_or_ge j k with h | h; exact hall j h; obtain rfl : j = k := (by omega); exact ⟨fun h5 => (by first | (exfalso; omega) | exact zp_ieq.mp (by assumption)), fun h0 => (by first | (exfalso; omega) | exact id | assumption)⟩) hP hD hS (lv_sub hl [0, 3, 4, 5, 6, 7] rfl)
                · have c_28 : ¬ (kd f).toInt = 0 := zc_ne rfl (by decide) c_28
                  refine lv_iload_n hx hb dX11_isLawfulTo_144 rfl (lv_at hl 6 rfl) ?_
                  refine lv_iconst (v := 5) hx hb dX11_isLawfulTo_145 (by decide) ?_
                  refine lv_icmp_eq (tgt := 185) hx hb dX11_isLawfulTo_146 (by decide) (fun c_29 => ?_) (fun c_29 => ?_)
                  · exact absurd c_29 (by decide)
                  · refine lv_iload hx hb dX11_isLawfulTo_149 (lv_at hl 7 rfl) ?_
                    refine lv_iconst (v := (-1)) hx hb dX11_isLawfulTo_151 (by decide) ?_
                    refine lv_icmp_eq (tgt := 171) hx hb dX11_isLawfulTo_152 (by decide) (fun c_30 => ?_) (fun c_30 => ?_)
                    · have c_30 : ((b : Nat) : Int) = (-1) := zc_eq (nI_toInt (by omega)) (by decide) c_30
                      exfalso; omega
                    · have c_30 : ¬ ((b : Nat) : Int) = (-1) := zc_ne (nI_toInt (by omega)) (by decide) c_30
                      refine lv_aload_n hx hb dX11_isLawfulTo_155 rfl (lv_at hl 3 rfl) ?_
                      refine lv_iload hx hb dX11_isLawfulTo_156 (lv_at hl 7 rfl) ?_
                      refine lv_iload hx hb dX11_isLawfulTo_158 (lv_at hl 1 rfl) ?_
                      refine lv_iload hx hb dX11_isLawfulTo_160 (lv_at hl 0 rfl) ?_
                      have hPc := hP.sub (ws' := [(om k0 a (upd I0 31 z9) J0), (oa (a 40) cI 6 T1), (oa (a 33) cI 42 ox), (oa (a 34) cI 42 oy)]) [0, 6, 9, 10] rfl
                      have hDc := hD.sub (ws' := [(om k0 a (upd I0 31 z9) J0), (oa (a 40) cI 6 T1), (oa (a 33) cI 42 ox), (oa (a 34) cI 42 oy)]) [0, 6, 9, 10] (by decide) rfl
                      have hFc := va_free (wc := [(om k0 a (upd I0 31 z9) J0), (oa (a 40) cI 6 T1), (oa (a 33) cI 42 ox), (oa (a 34) cI 42 oy)]) hD hS hA [0, 6, 9, 10] rfl
                      refine zcall (st1 := [.int (pI (swB on ox oy b (cx (40 * g + k)).toInt (cy (40 * g + k)).toInt))]) (va_runV (As := [.int (nI b), .int (cx (40 * g + k)), .int (cy (40 * g + k))]) (rest := []) ⟨hx, hb, hml, hown, hts⟩ (k_M_isSweptBy l dC dI cI cZ cF H.size k0 a (upd I0 31 z9) J0 b on (cx (40 * g + k)) (cy (40 * g + k)) T1 ox oy (hon) (by omega) (by omega) (by assumption) ((hp_g k hk9).1) ((hp_g k hk9).2)) (cwV 3 hts (zz_gV mw_1487 mw_1489 mw_66 mw_110 mc_yX11_isSweptBy) rfl rfl rfl (by decide +kernel) ⟨Nat.le_of_ble_eq_true rfl, Nat.le_of_ble_eq_true rfl⟩) (zPV2 (q0 := 0) (ci := 9) hPc hDc hK hXN rfl rfl) rfl rfl hl.1 rfl (lv_room (Nat.le_of_ble_eq_true rfl)) dX11_isLawfulTo_162 ⟨Nat.le_of_ble_eq_true rfl, Nat.le_of_ble_eq_true rfl⟩) hS hFc hFc rfl (fun t H1 locs ht hB hk1 hS => ?_)
                      obtain ⟨q_31, hP1, hD1⟩ := hB
                      rw [ht] at hP1
                      obtain ⟨hP, hD⟩ := va_join (wr := [(oa (a 1) cI 201 kd), (oa (a 11) cI 201 mn), (oa (a 12) cI 8040 cx), (oa (a 13) cI 8040 cy), (oa (a 32) cI 8 S1), (oa (a 29) cI 42 P1), (oa (a 30) cI 42 Q1), (oa (a 37) cZ 201 mt), (oa (a 38) cZ 201 wi), (oa (a 39) cZ 8040 ins)]) (w1 := [(om k0 a (upd I0 31 z9) J0), (oa (a 40) cI 6 q_31), (oa (a 33) cI 42 ox), (oa (a 34) cI 42 oy)]) hP hD [0, 6, 9, 10] [1, 2, 3, 4, 5, 7, 8, 11, 12, 13] rfl rfl (by decide) (by decide) hk1 hFc hP1 hD1
                      clear hk1 hPc hDc hFc hP1 hD1 ht
                      generalize H1 = H at hP hS ⊢
                      have hP := hP.sub (ws' := [(om k0 a (upd I0 31 z9) J0), (oa (a 1) cI 201 kd), (oa (a 11) cI 201 mn), (oa (a 12) cI 8040 cx), (oa (a 13) cI 8040 cy), (oa (a 32) cI 8 S1), (oa (a 40) cI 6 q_31), (oa (a 29) cI 42 P1), (oa (a 30) cI 42 Q1), (oa (a 33) cI 42 ox), (oa (a 34) cI 42 oy), (oa (a 37) cZ 201 mt), (oa (a 38) cZ 201 wi), (oa (a 39) cZ 8040 ins)]) [10, 0, 1, 2, 3, 4, 11, 5, 6, 12, 13, 7, 8, 9] rfl
                      have hD := hD.sub (ws' := [(om k0 a (upd I0 31 z9) J0), (oa (a 1) cI 201 kd), (oa (a 11) cI 201 mn), (oa (a 12) cI 8040 cx), (oa (a 13) cI 8040 cy), (oa (a 32) cI 8 S1), (oa (a 40) cI 6 q_31), (oa (a 29) cI 42 P1), (oa (a 30) cI 42 Q1), (oa (a 33) cI 42 ox), (oa (a 34) cI 42 oy), (oa (a 37) cZ 201 mt), (oa (a 38) cZ 201 wi), (oa (a 39) cZ 8040 ins)]) [10, 0, 1, 2, 3, 4, 11, 5, 6, 12, 13, 7, 8, 9] (by decide) rfl
                      have hP : va_P (dC, dI) classes [(om k0 a (upd I0 31 z9) J0), (oa (a 1) cI 201 kd), (oa (a 11) cI 201 mn), (oa (a 12) cI 8040 cx), (oa (a 13) cI 8040 cy), (oa (a 32) cI 8 S1), (oa (a 40) cI 6 q_31), (oa (a 29) cI 42 P1), (oa (a 30) cI 42 Q1), (oa (a 33) cI 42 ox), (oa (a 34) cI 42 oy), (oa (a 37) cZ 201 mt), (oa (a 38) cZ 201 wi), (oa (a 39) cZ 8040 ins)] H := hP
                      have hD : va_D A [(om k0 a (upd I0 31 z9) J0), (oa (a 1) cI 201 kd), (oa (a 11) cI 201 mn), (oa (a 12) cI 8040 cx), (oa (a 13) cI 8040 cy), (oa (a 32) cI 8 S1), (oa (a 40) cI 6 q_31), (oa (a 29) cI 42 P1), (oa (a 30) cI 42 Q1), (oa (a 33) cI 42 ox), (oa (a 34) cI 42 oy), (oa (a 37) cZ 201 mt), (oa (a 38) cZ 201 wi), (oa (a 39) cZ 8040 ins)] := hD
                      refine zz_i (v := pI ((fun k => swB on ox oy b (cF40 cx g k).toInt (cF40 cy g k).toInt) k)) (rfl) ?_
                      refine lv_if_eq (tgt := 185) hx hb dX11_isLawfulTo_165 (by decide) (fun c_32 => ?_) (fun c_32 => ?_)
                      · have c_32 : ¬ ((fun k => swB on ox oy b (cF40 cx g k).toInt (cF40 cy g k).toInt) k) := zp_0 c_32
                        refine lv_iinc (v := nI (k + 1)) (lv' := [(5, .int (nI (k + 1))), (7, .int (cy (40 * g + k))), (6, .int (cx (40 * g + k))), (0, .ref k0), (1, .int (nI f)), (2, .int (nI g)), (3, .int 1), (4, .int (nI b))]) hx hb dX11_isLawfulTo_185 hl (k := 2) rfl (nI_add k 1) (by decide) rfl (fun ls hl => ?_)
                        refine lv_goto (tgt := 62) hx hb dX11_isLawfulTo_188 (by decide) ?_
                        exact ih_62 (k + 1) z9 S1 q_31 P1 Q1 H locs ls (by omega) (by omega) (by intro j hj; rcases Nat.lt_or_ge j k with h | h; exact hall j h; obtain rfl : j = k := (by omega); exact ⟨fun h5 => (by first | (exfalso; omega) | exact zp_ieq.mp (by assumption)), fun h0 => (by first | (exfalso; omega) | exact id | assumption)⟩) hP hD hS (lv_sub hl [0, 3, 4, 5, 6, 7] rfl)
                      · have c_32 : (fun k => swB on ox oy b (cF40 cx g k).toInt (cF40 cy g k).toInt) k := zp_1 c_32
                        refine lv_goto (tgt := 183) hx hb dX11_isLawfulTo_168 (by decide) ?_
                        refine lv_iconst (v := 0) hx hb dX11_isLawfulTo_183 (by decide) ?_
                        have hP9 := hP.sub (ws' := [(om k0 a (upd I0 31 z9) J0), (oa (a 1) cI 201 kd), (oa (a 11) cI 201 mn), (oa (a 12) cI 8040 cx), (oa (a 13) cI 8040 cy), (oa (a 32) cI 8 S1), (oa (a 40) cI 6 q_31), (oa (a 29) cI 42 P1), (oa (a 30) cI 42 Q1), (oa (a 33) cI 42 ox), (oa (a 34) cI 42 oy), (oa (a 37) cZ 201 mt), (oa (a 38) cZ 201 wi), (oa (a 39) cZ 8040 ins)]) [0, 1, 2, 3, 4, 5, 6, 7, 8, 9, 10, 11, 12, 13] rfl
                        have hD9 := hD.sub (ws' := [(om k0 a (upd I0 31 z9) J0), (oa (a 1) cI 201 kd), (oa (a 11) cI 201 mn), (oa (a 12) cI 8040 cx), (oa (a 13) cI 8040 cy), (oa (a 32) cI 8 S1), (oa (a 40) cI 6 q_31), (oa (a 29) cI 42 P1), (oa (a 30) cI 42 Q1), (oa (a 33) cI 42 ox), (oa (a 34) cI 42 oy), (oa (a 37) cZ 201 mt), (oa (a 38) cZ 201 wi), (oa (a 39) cZ 8040 ins)]) [0, 1, 2, 3, 4, 5, 6, 7, 8, 9, 10, 11, 12, 13] (by decide) rfl
                        rw [hQ9]
                        exact W.zret (ty := .boolean) (v := 0) hx hb hr (rfl) (fun t ht hW => ⟨⟨congrArg (fun z => Outcome.returned (some (Value.int z))) (show (0 : Int32) = pI (lawTo (ox 0) (oy 0) (kd f).toInt n (cF40 cx f) (cF40 cy f) (kd g).toInt m2 (cF40 cx g) (cF40 cy g) MT WI IN (fun k => swB on ox oy b (cF40 cx g k).toInt (cF40 cy g k).toInt)) from (zp_f (fun h => (h.2.2.1 k (by omega)).2 (by omega) (by assumption))).symm), z9, S1, q_31, P1, Q1, by rw [ht]; exact hP9, hD9⟩, hS.F ht⟩) hS.2.2 dX11_isLawfulTo_184
              · have c_27 : 5 ≤ (kd f).toInt := zp_1 c_27
                refine lv_aload_n hx hb dX11_isLawfulTo_109 rfl (lv_at hl 3 rfl) ?_
                refine lv_iload_n hx hb dX11_isLawfulTo_110 rfl (lv_at hl 4 rfl) ?_
                refine lv_iload hx hb dX11_isLawfulTo_111 (lv_at hl 1 rfl) ?_
                refine lv_iload hx hb dX11_isLawfulTo_113 (lv_at hl 0 rfl) ?_
                have hPc := hP.sub (ws' := [(om k0 a (upd I0 31 z9) J0), (oa (a 1) cI 201 kd), (oa (a 11) cI 201 mn), (oa (a 12) cI 8040 cx), (oa (a 13) cI 8040 cy), (oa (a 32) cI 8 S1)]) [0, 1, 2, 3, 4, 5] rfl
                have hDc := hD.sub (ws' := [(om k0 a (upd I0 31 z9) J0), (oa (a 1) cI 201 kd), (oa (a 11) cI 201 mn), (oa (a 12) cI 8040 cx), (oa (a 13) cI 8040 cy), (oa (a 32) cI 8 S1)]) [0, 1, 2, 3, 4, 5] (by decide) rfl
                have hFc := va_free (wc := [(om k0 a (upd I0 31 z9) J0), (oa (a 1) cI 201 kd), (oa (a 11) cI 201 mn), (oa (a 12) cI 8040 cx), (oa (a 13) cI 8040 cy), (oa (a 32) cI 8 S1)]) hD hS hA [0, 1, 2, 3, 4, 5] rfl
                refine zcall (st1 := [.int (pI (¬ (∃ i, i < eO (kd f).toInt n ∧ eOn n (cF40 cx f) (cF40 cy f) i (cx (40 * g + k)).toInt (cy (40 * g + k)).toInt) ∧ par2 (eTg n (cF40 cx f) (cF40 cy f) (cx (40 * g + k)).toInt (cy (40 * g + k)).toInt) (eO (kd f).toInt n)))]) (va_runV (As := [.int (nI f), .int (cx (40 * g + k)), .int (cy (40 * g + k))]) (rest := []) ⟨hx, hb, hml, hown, hts⟩ (k_M_isInside l dC dI cI cZ cF H.size k0 a (upd I0 31 z9) J0 f n kd mn cx cy S1 (cx (40 * g + k)) (cy (40 * g + k)) (by omega) (by assumption) (by omega) (by assumption) ((hp_g k hk9).1) ((hp_g k hk9).2)) (cwV 3 hts (zz_gV mw_1471 mw_1473 mw_62 mw_110 mc_yX11_isInside) rfl rfl rfl (by decide +kernel) ⟨Nat.le_of_ble_eq_true rfl, Nat.le_of_ble_eq_true rfl⟩) (zPV2 (q0 := 0) (ci := 9) hPc hDc hK hXN rfl rfl) rfl rfl hl.1 rfl (lv_room (Nat.le_of_ble_eq_true rfl)) dX11_isLawfulTo_115 ⟨Nat.le_of_ble_eq_true rfl, Nat.le_of_ble_eq_true rfl⟩) hS hFc hFc rfl (fun t H1 locs ht hB hk1 hS => ?_)
                obtain ⟨q_33, hP1, hD1⟩ := hB
                rw [ht] at hP1
                obtain ⟨hP, hD⟩ := va_join (wr := [(oa (a 40) cI 6 T1), (oa (a 29) cI 42 P1), (oa (a 30) cI 42 Q1), (oa (a 33) cI 42 ox), (oa (a 34) cI 42 oy), (oa (a 37) cZ 201 mt), (oa (a 38) cZ 201 wi), (oa (a 39) cZ 8040 ins)]) (w1 := [(om k0 a (upd I0 31 z9) J0), (oa (a 1) cI 201 kd), (oa (a 11) cI 201 mn), (oa (a 12) cI 8040 cx), (oa (a 13) cI 8040 cy), (oa (a 32) cI 8 q_33)]) hP hD [0, 1, 2, 3, 4, 5] [6, 7, 8, 9, 10, 11, 12, 13] rfl rfl (by decide) (by decide) hk1 hFc hP1 hD1
                clear hk1 hPc hDc hFc hP1 hD1 ht
                generalize H1 = H at hP hS ⊢
                have hP := hP.sub (ws' := [(om k0 a (upd I0 31 z9) J0), (oa (a 1) cI 201 kd), (oa (a 11) cI 201 mn), (oa (a 12) cI 8040 cx), (oa (a 13) cI 8040 cy), (oa (a 32) cI 8 q_33), (oa (a 40) cI 6 T1), (oa (a 29) cI 42 P1), (oa (a 30) cI 42 Q1), (oa (a 33) cI 42 ox), (oa (a 34) cI 42 oy), (oa (a 37) cZ 201 mt), (oa (a 38) cZ 201 wi), (oa (a 39) cZ 8040 ins)]) [8, 9, 10, 11, 12, 13, 0, 1, 2, 3, 4, 5, 6, 7] rfl
                have hD := hD.sub (ws' := [(om k0 a (upd I0 31 z9) J0), (oa (a 1) cI 201 kd), (oa (a 11) cI 201 mn), (oa (a 12) cI 8040 cx), (oa (a 13) cI 8040 cy), (oa (a 32) cI 8 q_33), (oa (a 40) cI 6 T1), (oa (a 29) cI 42 P1), (oa (a 30) cI 42 Q1), (oa (a 33) cI 42 ox), (oa (a 34) cI 42 oy), (oa (a 37) cZ 201 mt), (oa (a 38) cZ 201 wi), (oa (a 39) cZ 8040 ins)]) [8, 9, 10, 11, 12, 13, 0, 1, 2, 3, 4, 5, 6, 7] (by decide) rfl
                have hP : va_P (dC, dI) classes [(om k0 a (upd I0 31 z9) J0), (oa (a 1) cI 201 kd), (oa (a 11) cI 201 mn), (oa (a 12) cI 8040 cx), (oa (a 13) cI 8040 cy), (oa (a 32) cI 8 q_33), (oa (a 40) cI 6 T1), (oa (a 29) cI 42 P1), (oa (a 30) cI 42 Q1), (oa (a 33) cI 42 ox), (oa (a 34) cI 42 oy), (oa (a 37) cZ 201 mt), (oa (a 38) cZ 201 wi), (oa (a 39) cZ 8040 ins)] H := hP
                have hD : va_D A [(om k0 a (upd I0 31 z9) J0), (oa (a 1) cI 201 kd), (oa (a 11) cI 201 mn), (oa (a 12) cI 8040 cx), (oa (a 13) cI 8040 cy), (oa (a 32) cI 8 q_33), (oa (a 40) cI 6 T1), (oa (a 29) cI 42 P1), (oa (a 30) cI 42 Q1), (oa (a 33) cI 42 ox), (oa (a 34) cI 42 oy), (oa (a 37) cZ 201 mt), (oa (a 38) cZ 201 wi), (oa (a 39) cZ 8040 ins)] := hD
                refine zz_i (v := pI (inF (kd f).toInt n (cF40 cx f) (cF40 cy f) (cF40 cx g k).toInt (cF40 cy g k).toInt)) (rfl) ?_
                refine lv_aload_n hx hb dX11_isLawfulTo_118 rfl (lv_at hl 3 rfl) ?_
                refine va_get (D := (dC, dI)) (ci := 9) (v := .ref (a 39)) (C := RX11) (T := TX11) (N := 55) hx hb hts inX11 hown hK hP 0 rfl rfl 39 (by decide) (hts _ mw_1198) (fun _ h9 => h9) rfl dX11_isLawfulTo_119 ?_
                refine lv_bipush (v := 40) hx hb dX11_isLawfulTo_122 (by decide) ?_
                refine lv_iload_n hx hb dX11_isLawfulTo_124 rfl (lv_at hl 5 rfl) ?_
                refine lv_imul hx hb dX11_isLawfulTo_125 ?_
                refine zz_i (v := nI (40 * g)) (pk_mul 40 g) ?_
                refine lv_iload hx hb dX11_isLawfulTo_126 (lv_at hl 2 rfl) ?_
                refine lv_iadd hx hb dX11_isLawfulTo_128 ?_
                refine zz_i (v := nI (40 * g + k)) (nI_add (40 * g) k) ?_
                refine z_zald hx hb hK hP 13 1 rfl rfl (e := 40 * g + k) rfl (by omega) (by omega) dX11_isLawfulTo_129 ?_
                refine zz_i (v := pI (IN k)) (hin k (by omega) (by omega)) ?_
                refine lv_icmp_eq (tgt := 135) hx hb dX11_isLawfulTo_130 (by decide) (fun c_34 => ?_) (fun c_34 => ?_)
                · have c_34 : (pI (inF (kd f).toInt n (cF40 cx f) (cF40 cy f) (cF40 cx g k).toInt (cF40 cy g k).toInt)).toInt = (pI (IN k)).toInt := zc_eq rfl rfl c_34
                  refine lv_aload_n hx hb dX11_isLawfulTo_135 rfl (lv_at hl 3 rfl) ?_
                  refine va_get (D := (dC, dI)) (ci := 9) (v := .ref (a 1)) (C := RX11) (T := TX11) (N := 55) hx hb hts inX11 hown hK hP 0 rfl rfl 1 (by decide) (hts _ mw_1160) (fun _ h9 => h9) rfl dX11_isLawfulTo_136 ?_
                  refine lv_iload_n hx hb dX11_isLawfulTo_139 rfl (lv_at hl 4 rfl) ?_
                  refine z_iald hx hb hK hP 1 0 rfl rfl (e := f) rfl (by omega) (by omega) dX11_isLawfulTo_140 ?_
                  refine lv_if_eq (tgt := 185) hx hb dX11_isLawfulTo_141 (by decide) (fun c_35 => ?_) (fun c_35 => ?_)
                  · have c_35 : (kd f).toInt = 0 := zc_eq rfl (by decide) c_35
                    refine lv_iinc (v := nI (k + 1)) (lv' := [(5, .int (nI (k + 1))), (7, .int (cy (40 * g + k))), (6, .int (cx (40 * g + k))), (0, .ref k0), (1, .int (nI f)), (2, .int (nI g)), (3, .int 1), (4, .int (nI b))]) hx hb dX11_isLawfulTo_185 hl (k := 2) rfl (nI_add k 1) (by decide) rfl (fun ls hl => ?_)
                    refine lv_goto (tgt := 62) hx hb dX11_isLawfulTo_188 (by decide) ?_
                    exact ih_62 (k + 1) z9 q_33 T1 P1 Q1 H locs ls (by omega) (by omega) (by intro j hj; rcases Nat.lt_or_ge j k with h | h; exact hall j h; obtain rfl : j = k := (by omega); exact ⟨fun h5 => (by first | (exfalso; omega) | exact zp_ieq.mp (by assumption)), fun h0 => (by first | (exfalso; omega) | exact id | assumption)⟩) hP hD hS (lv_sub hl [0, 3, 4, 5, 6, 7] rfl)
                  · have c_35 : ¬ (kd f).toInt = 0 := zc_ne rfl (by decide) c_35
                    refine lv_iload_n hx hb dX11_isLawfulTo_144 rfl (lv_at hl 6 rfl) ?_
                    refine lv_iconst (v := 5) hx hb dX11_isLawfulTo_145 (by decide) ?_
                    refine lv_icmp_eq (tgt := 185) hx hb dX11_isLawfulTo_146 (by decide) (fun c_36 => ?_) (fun c_36 => ?_)
                    · exact absurd c_36 (by decide)
                    · refine lv_iload hx hb dX11_isLawfulTo_149 (lv_at hl 7 rfl) ?_
                      refine lv_iconst (v := (-1)) hx hb dX11_isLawfulTo_151 (by decide) ?_
                      refine lv_icmp_eq (tgt := 171) hx hb dX11_isLawfulTo_152 (by decide) (fun c_37 => ?_) (fun c_37 => ?_)
                      · have c_37 : ((b : Nat) : Int) = (-1) := zc_eq (nI_toInt (by omega)) (by decide) c_37
                        exfalso; omega
                      · have c_37 : ¬ ((b : Nat) : Int) = (-1) := zc_ne (nI_toInt (by omega)) (by decide) c_37
                        refine lv_aload_n hx hb dX11_isLawfulTo_155 rfl (lv_at hl 3 rfl) ?_
                        refine lv_iload hx hb dX11_isLawfulTo_156 (lv_at hl 7 rfl) ?_
                        refine lv_iload hx hb dX11_isLawfulTo_158 (lv_at hl 1 rfl) ?_
                        refine lv_iload hx hb dX11_isLawfulTo_160 (lv_at hl 0 rfl) ?_
                        have hPc := hP.sub (ws' := [(om k0 a (upd I0 31 z9) J0), (oa (a 40) cI 6 T1), (oa (a 33) cI 42 ox), (oa (a 34) cI 42 oy)]) [0, 6, 9, 10] rfl
                        have hDc := hD.sub (ws' := [(om k0 a (upd I0 31 z9) J0), (oa (a 40) cI 6 T1), (oa (a 33) cI 42 ox), (oa (a 34) cI 42 oy)]) [0, 6, 9, 10] (by decide) rfl
                        have hFc := va_free (wc := [(om k0 a (upd I0 31 z9) J0), (oa (a 40) cI 6 T1), (oa (a 33) cI 42 ox), (oa (a 34) cI 42 oy)]) hD hS hA [0, 6, 9, 10] rfl
                        refine zcall (st1 := [.int (pI (swB on ox oy b (cx (40 * g + k)).toInt (cy (40 * g + k)).toInt))]) (va_runV (As := [.int (nI b), .int (cx (40 * g + k)), .int (cy (40 * g + k))]) (rest := []) ⟨hx, hb, hml, hown, hts⟩ (k_M_isSweptBy l dC dI cI cZ cF H.size k0 a (upd I0 31 z9) J0 b on (cx (40 * g + k)) (cy (40 * g + k)) T1 ox oy (hon) (by omega) (by omega) (by assumption) ((hp_g k hk9).1) ((hp_g k hk9).2)) (cwV 3 hts (zz_gV mw_1487 mw_1489 mw_66 mw_110 mc_yX11_isSweptBy) rfl rfl rfl (by decide +kernel) ⟨Nat.le_of_ble_eq_true rfl, Nat.le_of_ble_eq_true rfl⟩) (zPV2 (q0 := 0) (ci := 9) hPc hDc hK hXN rfl rfl) rfl rfl hl.1 rfl (lv_room (Nat.le_of_ble_eq_true rfl)) dX11_isLawfulTo_162 ⟨Nat.le_of_ble_eq_true rfl, Nat.le_of_ble_eq_true rfl⟩) hS hFc hFc rfl (fun t H1 locs ht hB hk1 hS => ?_)
                        obtain ⟨q_38, hP1, hD1⟩ := hB
                        rw [ht] at hP1
                        obtain ⟨hP, hD⟩ := va_join (wr := [(oa (a 1) cI 201 kd), (oa (a 11) cI 201 mn), (oa (a 12) cI 8040 cx), (oa (a 13) cI 8040 cy), (oa (a 32) cI 8 q_33), (oa (a 29) cI 42 P1), (oa (a 30) cI 42 Q1), (oa (a 37) cZ 201 mt), (oa (a 38) cZ 201 wi), (oa (a 39) cZ 8040 ins)]) (w1 := [(om k0 a (upd I0 31 z9) J0), (oa (a 40) cI 6 q_38), (oa (a 33) cI 42 ox), (oa (a 34) cI 42 oy)]) hP hD [0, 6, 9, 10] [1, 2, 3, 4, 5, 7, 8, 11, 12, 13] rfl rfl (by decide) (by decide) hk1 hFc hP1 hD1
                        clear hk1 hPc hDc hFc hP1 hD1 ht
                        generalize H1 = H at hP hS ⊢
                        have hP := hP.sub (ws' := [(om k0 a (upd I0 31 z9) J0), (oa (a 1) cI 201 kd), (oa (a 11) cI 201 mn), (oa (a 12) cI 8040 cx), (oa (a 13) cI 8040 cy), (oa (a 32) cI 8 q_33), (oa (a 40) cI 6 q_38), (oa (a 29) cI 42 P1), (oa (a 30) cI 42 Q1), (oa (a 33) cI 42 ox), (oa (a 34) cI 42 oy), (oa (a 37) cZ 201 mt), (oa (a 38) cZ 201 wi), (oa (a 39) cZ 8040 ins)]) [10, 0, 1, 2, 3, 4, 11, 5, 6, 12, 13, 7, 8, 9] rfl
                        have hD := hD.sub (ws' := [(om k0 a (upd I0 31 z9) J0), (oa (a 1) cI 201 kd), (oa (a 11) cI 201 mn), (oa (a 12) cI 8040 cx), (oa (a 13) cI 8040 cy), (oa (a 32) cI 8 q_33), (oa (a 40) cI 6 q_38), (oa (a 29) cI 42 P1), (oa (a 30) cI 42 Q1), (oa (a 33) cI 42 ox), (oa (a 34) cI 42 oy), (oa (a 37) cZ 201 mt), (oa (a 38) cZ 201 wi), (oa (a 39) cZ 8040 ins)]) [10, 0, 1, 2, 3, 4, 11, 5, 6, 12, 13, 7, 8, 9] (by decide) rfl
                        have hP : va_P (dC, dI) classes [(om k0 a (upd I0 31 z9) J0), (oa (a 1) cI 201 kd), (oa (a 11) cI 201 mn), (oa (a 12) cI 8040 cx), (oa (a 13) cI 8040 cy), (oa (a 32) cI 8 q_33), (oa (a 40) cI 6 q_38), (oa (a 29) cI 42 P1), (oa (a 30) cI 42 Q1), (oa (a 33) cI 42 ox), (oa (a 34) cI 42 oy), (oa (a 37) cZ 201 mt), (oa (a 38) cZ 201 wi), (oa (a 39) cZ 8040 ins)] H := hP
                        have hD : va_D A [(om k0 a (upd I0 31 z9) J0), (oa (a 1) cI 201 kd), (oa (a 11) cI 201 mn), (oa (a 12) cI 8040 cx), (oa (a 13) cI 8040 cy), (oa (a 32) cI 8 q_33), (oa (a 40) cI 6 q_38), (oa (a 29) cI 42 P1), (oa (a 30) cI 42 Q1), (oa (a 33) cI 42 ox), (oa (a 34) cI 42 oy), (oa (a 37) cZ 201 mt), (oa (a 38) cZ 201 wi), (oa (a 39) cZ 8040 ins)] := hD
                        refine zz_i (v := pI ((fun k => swB on ox oy b (cF40 cx g k).toInt (cF40 cy g k).toInt) k)) (rfl) ?_
                        refine lv_if_eq (tgt := 185) hx hb dX11_isLawfulTo_165 (by decide) (fun c_39 => ?_) (fun c_39 => ?_)
                        · have c_39 : ¬ ((fun k => swB on ox oy b (cF40 cx g k).toInt (cF40 cy g k).toInt) k) := zp_0 c_39
                          refine lv_iinc (v := nI (k + 1)) (lv' := [(5, .int (nI (k + 1))), (7, .int (cy (40 * g + k))), (6, .int (cx (40 * g + k))), (0, .ref k0), (1, .int (nI f)), (2, .int (nI g)), (3, .int 1), (4, .int (nI b))]) hx hb dX11_isLawfulTo_185 hl (k := 2) rfl (nI_add k 1) (by decide) rfl (fun ls hl => ?_)
                          refine lv_goto (tgt := 62) hx hb dX11_isLawfulTo_188 (by decide) ?_
                          exact ih_62 (k + 1) z9 q_33 q_38 P1 Q1 H locs ls (by omega) (by omega) (by intro j hj; rcases Nat.lt_or_ge j k with h | h; exact hall j h; obtain rfl : j = k := (by omega); exact ⟨fun h5 => (by first | (exfalso; omega) | exact zp_ieq.mp (by assumption)), fun h0 => (by first | (exfalso; omega) | exact id | assumption)⟩) hP hD hS (lv_sub hl [0, 3, 4, 5, 6, 7] rfl)
                        · have c_39 : (fun k => swB on ox oy b (cF40 cx g k).toInt (cF40 cy g k).toInt) k := zp_1 c_39
                          refine lv_goto (tgt := 183) hx hb dX11_isLawfulTo_168 (by decide) ?_
                          refine lv_iconst (v := 0) hx hb dX11_isLawfulTo_183 (by decide) ?_
                          have hP9 := hP.sub (ws' := [(om k0 a (upd I0 31 z9) J0), (oa (a 1) cI 201 kd), (oa (a 11) cI 201 mn), (oa (a 12) cI 8040 cx), (oa (a 13) cI 8040 cy), (oa (a 32) cI 8 q_33), (oa (a 40) cI 6 q_38), (oa (a 29) cI 42 P1), (oa (a 30) cI 42 Q1), (oa (a 33) cI 42 ox), (oa (a 34) cI 42 oy), (oa (a 37) cZ 201 mt), (oa (a 38) cZ 201 wi), (oa (a 39) cZ 8040 ins)]) [0, 1, 2, 3, 4, 5, 6, 7, 8, 9, 10, 11, 12, 13] rfl
                          have hD9 := hD.sub (ws' := [(om k0 a (upd I0 31 z9) J0), (oa (a 1) cI 201 kd), (oa (a 11) cI 201 mn), (oa (a 12) cI 8040 cx), (oa (a 13) cI 8040 cy), (oa (a 32) cI 8 q_33), (oa (a 40) cI 6 q_38), (oa (a 29) cI 42 P1), (oa (a 30) cI 42 Q1), (oa (a 33) cI 42 ox), (oa (a 34) cI 42 oy), (oa (a 37) cZ 201 mt), (oa (a 38) cZ 201 wi), (oa (a 39) cZ 8040 ins)]) [0, 1, 2, 3, 4, 5, 6, 7, 8, 9, 10, 11, 12, 13] (by decide) rfl
                          rw [hQ9]
                          exact W.zret (ty := .boolean) (v := 0) hx hb hr (rfl) (fun t ht hW => ⟨⟨congrArg (fun z => Outcome.returned (some (Value.int z))) (show (0 : Int32) = pI (lawTo (ox 0) (oy 0) (kd f).toInt n (cF40 cx f) (cF40 cy f) (kd g).toInt m2 (cF40 cx g) (cF40 cy g) MT WI IN (fun k => swB on ox oy b (cF40 cx g k).toInt (cF40 cy g k).toInt)) from (zp_f (fun h => (h.2.2.1 k (by omega)).2 (by omega) (by assumption))).symm), z9, q_33, q_38, P1, Q1, by rw [ht]; exact hP9, hD9⟩, hS.F ht⟩) hS.2.2 dX11_isLawfulTo_184
                · have c_34 : ¬ (pI (inF (kd f).toInt n (cF40 cx f) (cF40 cy f) (cF40 cx g k).toInt (cF40 cy g k).toInt)).toInt = (pI (IN k)).toInt := zc_ne rfl rfl c_34
                  refine lv_iconst (v := 0) hx hb dX11_isLawfulTo_133 (by decide) ?_
                  have hP9 := hP.sub (ws' := [(om k0 a (upd I0 31 z9) J0), (oa (a 1) cI 201 kd), (oa (a 11) cI 201 mn), (oa (a 12) cI 8040 cx), (oa (a 13) cI 8040 cy), (oa (a 32) cI 8 q_33), (oa (a 40) cI 6 T1), (oa (a 29) cI 42 P1), (oa (a 30) cI 42 Q1), (oa (a 33) cI 42 ox), (oa (a 34) cI 42 oy), (oa (a 37) cZ 201 mt), (oa (a 38) cZ 201 wi), (oa (a 39) cZ 8040 ins)]) [0, 1, 2, 3, 4, 5, 6, 7, 8, 9, 10, 11, 12, 13] rfl
                  have hD9 := hD.sub (ws' := [(om k0 a (upd I0 31 z9) J0), (oa (a 1) cI 201 kd), (oa (a 11) cI 201 mn), (oa (a 12) cI 8040 cx), (oa (a 13) cI 8040 cy), (oa (a 32) cI 8 q_33), (oa (a 40) cI 6 T1), (oa (a 29) cI 42 P1), (oa (a 30) cI 42 Q1), (oa (a 33) cI 42 ox), (oa (a 34) cI 42 oy), (oa (a 37) cZ 201 mt), (oa (a 38) cZ 201 wi), (oa (a 39) cZ 8040 ins)]) [0, 1, 2, 3, 4, 5, 6, 7, 8, 9, 10, 11, 12, 13] (by decide) rfl
                  rw [hQ9]
                  exact W.zret (ty := .boolean) (v := 0) hx hb hr (rfl) (fun t ht hW => ⟨⟨congrArg (fun z => Outcome.returned (some (Value.int z))) (show (0 : Int32) = pI (lawTo (ox 0) (oy 0) (kd f).toInt n (cF40 cx f) (cF40 cy f) (kd g).toInt m2 (cF40 cx g) (cF40 cy g) MT WI IN (fun k => swB on ox oy b (cF40 cx g k).toInt (cF40 cy g k).toInt)) from (zp_f (fun h => absurd (zp_ieq.mpr ((h.2.2.1 k (by omega)).1 (by omega))) (by assumption))).symm), z9, q_33, T1, P1, Q1, by rw [ht]; exact hP9, hD9⟩, hS.F ht⟩) hS.2.2 dX11_isLawfulTo_134
        exact hl_62 _ 0 (I0 31) q_21 T0 P0 Q0 H locs ls (Nat.lt_succ_self _) (by omega) (by intro j hj; omega) hP hD hS (lv_sub hl [0, 1, 2, 3, 4, 5] rfl)
      · have c_22 : ¬ (pI (inF (kd g).toInt m2 (cF40 cx g) (cF40 cy g) (cF40 cx f 0).toInt (cF40 cy f 0).toInt)).toInt = (pI WI).toInt := zc_ne rfl rfl c_22
        refine lv_iconst (v := 0) hx hb dX11_isLawfulTo_57 (by decide) ?_
        have hP9 := hP.sub (ws' := [(om k0 a I0 J0), (oa (a 1) cI 201 kd), (oa (a 11) cI 201 mn), (oa (a 12) cI 8040 cx), (oa (a 13) cI 8040 cy), (oa (a 32) cI 8 q_21), (oa (a 40) cI 6 T0), (oa (a 29) cI 42 P0), (oa (a 30) cI 42 Q0), (oa (a 33) cI 42 ox), (oa (a 34) cI 42 oy), (oa (a 37) cZ 201 mt), (oa (a 38) cZ 201 wi), (oa (a 39) cZ 8040 ins)]) [0, 1, 2, 3, 4, 5, 6, 7, 8, 9, 10, 11, 12, 13] rfl
        have hD9 := hD.sub (ws' := [(om k0 a I0 J0), (oa (a 1) cI 201 kd), (oa (a 11) cI 201 mn), (oa (a 12) cI 8040 cx), (oa (a 13) cI 8040 cy), (oa (a 32) cI 8 q_21), (oa (a 40) cI 6 T0), (oa (a 29) cI 42 P0), (oa (a 30) cI 42 Q0), (oa (a 33) cI 42 ox), (oa (a 34) cI 42 oy), (oa (a 37) cZ 201 mt), (oa (a 38) cZ 201 wi), (oa (a 39) cZ 8040 ins)]) [0, 1, 2, 3, 4, 5, 6, 7, 8, 9, 10, 11, 12, 13] (by decide) rfl
        rw [hQ9]
        exact W.zret (ty := .boolean) (v := 0) hx hb hr (rfl) (fun t ht hW => ⟨⟨congrArg (fun z => Outcome.returned (some (Value.int z))) (show (0 : Int32) = pI (lawTo (ox 0) (oy 0) (kd f).toInt n (cF40 cx f) (cF40 cy f) (kd g).toInt m2 (cF40 cx g) (cF40 cy g) MT WI IN (fun k => swB on ox oy b (cF40 cx g k).toInt (cF40 cy g k).toInt)) from (zp_f (fun h => absurd (zp_ieq.mpr (h.2.1 (by omega))) (by assumption))).symm), (I0 31), q_21, T0, P0, Q0, by rw [ht]; exact hP9, hD9⟩, hS.F ht⟩) hS.2.2 dX11_isLawfulTo_58
  · have c_2 : ¬ (pI (mtF (kd f).toInt n (cF40 cx f) (cF40 cy f) (kd g).toInt m2 (cF40 cx g) (cF40 cy g))).toInt = (pI MT).toInt := zc_ne rfl rfl c_2
    refine lv_iconst (v := 0) hx hb dX11_isLawfulTo_15 (by decide) ?_
    have hP9 := hP.sub (ws' := [(om k0 a I0 J0), (oa (a 1) cI 201 kd), (oa (a 11) cI 201 mn), (oa (a 12) cI 8040 cx), (oa (a 13) cI 8040 cy), (oa (a 32) cI 8 q_1), (oa (a 40) cI 6 T0), (oa (a 29) cI 42 P0), (oa (a 30) cI 42 Q0), (oa (a 33) cI 42 ox), (oa (a 34) cI 42 oy), (oa (a 37) cZ 201 mt), (oa (a 38) cZ 201 wi), (oa (a 39) cZ 8040 ins)]) [0, 1, 2, 3, 4, 5, 6, 7, 8, 9, 10, 11, 12, 13] rfl
    have hD9 := hD.sub (ws' := [(om k0 a I0 J0), (oa (a 1) cI 201 kd), (oa (a 11) cI 201 mn), (oa (a 12) cI 8040 cx), (oa (a 13) cI 8040 cy), (oa (a 32) cI 8 q_1), (oa (a 40) cI 6 T0), (oa (a 29) cI 42 P0), (oa (a 30) cI 42 Q0), (oa (a 33) cI 42 ox), (oa (a 34) cI 42 oy), (oa (a 37) cZ 201 mt), (oa (a 38) cZ 201 wi), (oa (a 39) cZ 8040 ins)]) [0, 1, 2, 3, 4, 5, 6, 7, 8, 9, 10, 11, 12, 13] (by decide) rfl
    rw [hQ9]
    exact W.zret (ty := .boolean) (v := 0) hx hb hr (rfl) (fun t ht hW => ⟨⟨congrArg (fun z => Outcome.returned (some (Value.int z))) (show (0 : Int32) = pI (lawTo (ox 0) (oy 0) (kd f).toInt n (cF40 cx f) (cF40 cy f) (kd g).toInt m2 (cF40 cx g) (cF40 cy g) MT WI IN (fun k => swB on ox oy b (cF40 cx g k).toInt (cF40 cy g k).toInt)) from (zp_f (fun h => absurd (zp_ieq.mpr h.1) (by assumption))).symm), (I0 31), q_1, T0, P0, Q0, by rw [ht]; exact hP9, hD9⟩, hS.F ht⟩) hS.2.2 dX11_isLawfulTo_16
set_option maxHeartbeats 4000000 in
set_option maxRecDepth 100000 in
theorem k_M_isLawfulTo_s (l : Launch) (dC : Nat → ClassId) (dI : Nat → Nat → Nat) (cI cZ cF : ClassId) (sz : Nat) (k0 : Nat) (a : Nat → Nat) (I0 : Nat → Int32) (J0 : Nat → Int64) (f : Nat) (n : Nat) (g : Nat) (m2 : Nat) (on : Nat) (kd : Nat → Int32) (mn : Nat → Int32) (cx : Nat → Int32) (cy : Nat → Int32) (S0 : Nat → Int32) (T0 : Nat → Int32) (P0 : Nat → Int32) (Q0 : Nat → Int32) (ox : Nat → Int32) (oy : Nat → Int32) (mt : Nat → Int32) (wi : Nat → Int32) (ins : Nat → Int32) (MT : Prop) (WI : Prop) (IN : Nat → Prop) (hf_f : f ≤ 200) (hm_f : mn f = nI n) (hn_f : 1 ≤ n ∧ n ≤ 40) (hp_f : pls n (cF40 cx f) (cF40 cy f)) (hf_g : g ≤ 200) (hm_g : mn g = nI m2) (hn_g : 1 ≤ m2 ∧ m2 ≤ 40) (hp_g : pls m2 (cF40 cx g) (cF40 cy g)) (hon : I0 35 = nI on) (ho40 : on ≤ 40) (ho1 : 1 ≤ on) (hpo : pls on ox oy) (hmt : mt g = pI MT) (hwi : 5 ≤ (kd g).toInt → wi g = pI WI) (hin : ∀ k, k < m2 → 5 ≤ (kd f).toInt → ins (40 * g + k) = pI (IN k)) : Met l yX11_isLawfulTo (.code yX11_isLawfulTo cX11_isLawfulTo 8 (some .boolean) :: ws0) ({ frames := 4, cells := 0, slots := 0, locals := 108 } : Room) (va_Pc [.ref k0, .int (nI f), .int (nI g), .int 5, .int (-1)] (zPre (dC, dI) classes (zTy cI cZ cF) [(om k0 a I0 J0), (oa (a 1) cI 201 kd), (oa (a 11) cI 201 mn), (oa (a 12) cI 8040 cx), (oa (a 13) cI 8040 cy), (oa (a 32) cI 8 S0), (oa (a 40) cI 6 T0), (oa (a 29) cI 42 P0), (oa (a 30) cI 42 Q0), (oa (a 33) cI 42 ox), (oa (a 34) cI 42 oy), (oa (a 37) cZ 201 mt), (oa (a 38) cZ 201 wi), (oa (a 39) cZ 8040 ins)] sz zXN)) (zQ (some (.int (pI (lawTo (ox 0) (oy 0) (kd f).toInt n (cF40 cx f) (cF40 cy f) (kd g).toInt m2 (cF40 cx g) (cF40 cy g) MT WI IN (fun _ => False))))) (fun t => ∃ (z9 : Int32), ∃ (S1 : Nat → Int32), ∃ (T1 : Nat → Int32), ∃ (P1 : Nat → Int32), ∃ (Q1 : Nat → Int32), va_P (dC, dI) classes [(om k0 a (upd I0 31 z9) J0), (oa (a 1) cI 201 kd), (oa (a 11) cI 201 mn), (oa (a 12) cI 8040 cx), (oa (a 13) cI 8040 cy), (oa (a 32) cI 8 S1), (oa (a 40) cI 6 T1), (oa (a 29) cI 42 P1), (oa (a 30) cI 42 Q1), (oa (a 33) cI 42 ox), (oa (a 34) cI 42 oy), (oa (a 37) cZ 201 mt), (oa (a 38) cZ 201 wi), (oa (a 39) cZ 8040 ins)] t.heap ∧ va_D (va_A [(om k0 a I0 J0), (oa (a 1) cI 201 kd), (oa (a 11) cI 201 mn), (oa (a 12) cI 8040 cx), (oa (a 13) cI 8040 cy), (oa (a 32) cI 8 S0), (oa (a 40) cI 6 T0), (oa (a 29) cI 42 P0), (oa (a 30) cI 42 Q0), (oa (a 33) cI 42 ox), (oa (a 34) cI 42 oy), (oa (a 37) cZ 201 mt), (oa (a 38) cZ 201 wi), (oa (a 39) cZ 8040 ins)] sz) [(om k0 a (upd I0 31 z9) J0), (oa (a 1) cI 201 kd), (oa (a 11) cI 201 mn), (oa (a 12) cI 8040 cx), (oa (a 13) cI 8040 cy), (oa (a 32) cI 8 S1), (oa (a 40) cI 6 T1), (oa (a 29) cI 42 P1), (oa (a 30) cI 42 Q1), (oa (a 33) cI 42 ox), (oa (a 34) cI 42 oy), (oa (a 37) cZ 201 mt), (oa (a 38) cZ 201 wi), (oa (a 39) cZ 8040 ins)]) (va_A [(om k0 a I0 J0), (oa (a 1) cI 201 kd), (oa (a 11) cI 201 mn), (oa (a 12) cI 8040 cx), (oa (a 13) cI 8040 cy), (oa (a 32) cI 8 S0), (oa (a 40) cI 6 T0), (oa (a 29) cI 42 P0), (oa (a 30) cI 42 Q0), (oa (a 33) cI 42 ox), (oa (a 34) cI 42 oy), (oa (a 37) cZ 201 mt), (oa (a 38) cZ 201 wi), (oa (a 39) cZ 8040 ins)] sz)) 0 0 (va_A [(om k0 a I0 J0), (oa (a 1) cI 201 kd), (oa (a 11) cI 201 mn), (oa (a 12) cI 8040 cx), (oa (a 13) cI 8040 cy), (oa (a 32) cI 8 S0), (oa (a 40) cI 6 T0), (oa (a 29) cI 42 P0), (oa (a 30) cI 42 Q0), (oa (a 33) cI 42 ox), (oa (a 34) cI 42 oy), (oa (a 37) cZ 201 mt), (oa (a 38) cZ 201 wi), (oa (a 39) cZ 8040 ins)] sz) := by
  refine Met.ofW (cc := cX11_isLawfulTo) (maxL := 8) (ret := (some .boolean)) (by decide) rfl ?_
  intro p e s m args below meth c s₁ B hml hv
  obtain ⟨rfl, hsz, hP, hK, hD0, hXN⟩ := hv
  have hx := B.exec
  have hb := B.bytes
  have hr := B.returns
  have hts0 := atoms_spec (ws := .code yX11_isLawfulTo cX11_isLawfulTo 8 (some .boolean) :: ws0) B.pre
  have hts : ∀ w9 ∈ ws0, w9.before ([.ref k0, .int (nI f), .int (nI g), .int 5, .int (-1)] : List Value).toArray s = true := fun w9 h => hts0 w9 (List.mem_cons_of_mem _ h)
  have hown : s.vm.findClass "ScaleShopModel" = some m.cls := findClass_of_methodNamed B.named
  have hlocks := B.notSynchronized
  subst hsz
  have hD := hD0.self (sz := s.heap.size)
  clear hD0
  generalize hAe : va_A [(om k0 a I0 J0), (oa (a 1) cI 201 kd), (oa (a 11) cI 201 mn), (oa (a 12) cI 8040 cx), (oa (a 13) cI 8040 cy), (oa (a 32) cI 8 S0), (oa (a 40) cI 6 T0), (oa (a 29) cI 42 P0), (oa (a 30) cI 42 Q0), (oa (a 33) cI 42 ox), (oa (a 34) cI 42 oy), (oa (a 37) cZ 201 mt), (oa (a 38) cZ 201 wi), (oa (a 39) cZ 8040 ins)] s.heap.size = A at hD ⊢
  have hA : ∀ q : Nat, s.heap.size ≤ q → A q := fun q h => by rw [← hAe]; exact Or.inr h
  clear hAe
  have hS : va_S A s.heap s.heap [] := va_S.rf
  have hP : va_P (dC, dI) classes [(om k0 a I0 J0), (oa (a 1) cI 201 kd), (oa (a 11) cI 201 mn), (oa (a 12) cI 8040 cx), (oa (a 13) cI 8040 cy), (oa (a 32) cI 8 S0), (oa (a 40) cI 6 T0), (oa (a 29) cI 42 P0), (oa (a 30) cI 42 Q0), (oa (a 33) cI 42 ox), (oa (a 34) cI 42 oy), (oa (a 37) cZ 201 mt), (oa (a 38) cZ 201 wi), (oa (a 39) cZ 8040 ins)] s.heap := hP
  obtain ⟨Q9, hQ9⟩ : ∃ Q9 : State → Prop, Q9 = MQ below (zQ (some (.int (pI (lawTo (ox 0) (oy 0) (kd f).toInt n (cF40 cx f) (cF40 cy f) (kd g).toInt m2 (cF40 cx g) (cF40 cy g) MT WI IN (fun _ => False))))) (fun t => ∃ (z9 : Int32), ∃ (S1 : Nat → Int32), ∃ (T1 : Nat → Int32), ∃ (P1 : Nat → Int32), ∃ (Q1 : Nat → Int32), va_P (dC, dI) classes [(om k0 a (upd I0 31 z9) J0), (oa (a 1) cI 201 kd), (oa (a 11) cI 201 mn), (oa (a 12) cI 8040 cx), (oa (a 13) cI 8040 cy), (oa (a 32) cI 8 S1), (oa (a 40) cI 6 T1), (oa (a 29) cI 42 P1), (oa (a 30) cI 42 Q1), (oa (a 33) cI 42 ox), (oa (a 34) cI 42 oy), (oa (a 37) cZ 201 mt), (oa (a 38) cZ 201 wi), (oa (a 39) cZ 8040 ins)] t.heap ∧ va_D A [(om k0 a (upd I0 31 z9) J0), (oa (a 1) cI 201 kd), (oa (a 11) cI 201 mn), (oa (a 12) cI 8040 cx), (oa (a 13) cI 8040 cy), (oa (a 32) cI 8 S1), (oa (a 40) cI 6 T1), (oa (a 29) cI 42 P1), (oa (a 30) cI 42 Q1), (oa (a 33) cI 42 ox), (oa (a 34) cI 42 oy), (oa (a 37) cZ 201 mt), (oa (a 38) cZ 201 wi), (oa (a 39) cZ 8040 ins)]) A) ([.ref k0, .int (nI f), .int (nI g), .int 5, .int (-1)] : List Value).toArray s 0 0 A := ⟨_, rfl⟩
  rw [← hQ9]
  have hl := lv_entry ([.ref k0, .int (nI f), .int (nI g), .int 5, .int (-1)]) (n := 8) (Nat.le_of_ble_eq_true rfl)
  rw [lg_entry_eq]
  generalize (lg_sl ([.ref k0, .int (nI f), .int (nI g), .int 5, .int (-1)]) ++ List.replicate (8 - (lg_sl ([.ref k0, .int (nI f), .int (nI g), .int 5, .int (-1)])).length) Slot.unset).toArray = ls at hl ⊢
  have hl : lv_has ls 8 [(0, .ref k0), (1, .int (nI f)), (2, .int (nI g)), (3, .int 5), (4, .int (-1))] := hl
  refine lv_aload_n hx hb dX11_isLawfulTo_0 rfl (lv_at hl 0 rfl) ?_
  refine lv_iload_n hx hb dX11_isLawfulTo_1 rfl (lv_at hl 1 rfl) ?_
  refine lv_iload_n hx hb dX11_isLawfulTo_2 rfl (lv_at hl 2 rfl) ?_
  have hPc := hP.sub (ws' := [(om k0 a I0 J0), (oa (a 1) cI 201 kd), (oa (a 11) cI 201 mn), (oa (a 12) cI 8040 cx), (oa (a 13) cI 8040 cy), (oa (a 32) cI 8 S0)]) [0, 1, 2, 3, 4, 5] rfl
  have hDc := hD.sub (ws' := [(om k0 a I0 J0), (oa (a 1) cI 201 kd), (oa (a 11) cI 201 mn), (oa (a 12) cI 8040 cx), (oa (a 13) cI 8040 cy), (oa (a 32) cI 8 S0)]) [0, 1, 2, 3, 4, 5] (by decide) rfl
  have hFc := va_free (wc := [(om k0 a I0 J0), (oa (a 1) cI 201 kd), (oa (a 11) cI 201 mn), (oa (a 12) cI 8040 cx), (oa (a 13) cI 8040 cy), (oa (a 32) cI 8 S0)]) hD hS hA [0, 1, 2, 3, 4, 5] rfl
  refine zcall (st1 := [.int (pI (∃ i, i < eO (kd f).toInt n ∧ ∃ j, j < eO (kd g).toInt m2 ∧ eMt n (cF40 cx f) (cF40 cy f) i m2 (cF40 cx g) (cF40 cy g) j))]) (va_runV (As := [.int (nI f), .int (nI g)]) (rest := []) ⟨hx, hb, hml, hown, hts⟩ (k_M_isMet l dC dI cI cZ cF s.heap.size k0 a I0 J0 f n g m2 kd mn cx cy S0 (by omega) (by assumption) (by omega) (by assumption) (by omega) (by assumption) (by omega) (by assumption)) (cwV 2 hts (zz_gV mw_1467 mw_1469 mw_61 mw_110 mc_yX11_isMet) rfl rfl rfl (by decide +kernel) ⟨Nat.le_of_ble_eq_true rfl, Nat.le_of_ble_eq_true rfl⟩) (zPV2 (q0 := 0) (ci := 9) hPc hDc hK hXN rfl rfl) rfl rfl hl.1 rfl (lv_room (Nat.le_of_ble_eq_true rfl)) dX11_isLawfulTo_3 ⟨Nat.le_of_ble_eq_true rfl, Nat.le_of_ble_eq_true rfl⟩) hS hFc hFc rfl (fun t H1 locs ht hB hk1 hS => ?_)
  obtain ⟨q_1, hP1, hD1⟩ := hB
  rw [ht] at hP1
  obtain ⟨hP, hD⟩ := va_join (wr := [(oa (a 40) cI 6 T0), (oa (a 29) cI 42 P0), (oa (a 30) cI 42 Q0), (oa (a 33) cI 42 ox), (oa (a 34) cI 42 oy), (oa (a 37) cZ 201 mt), (oa (a 38) cZ 201 wi), (oa (a 39) cZ 8040 ins)]) (w1 := [(om k0 a I0 J0), (oa (a 1) cI 201 kd), (oa (a 11) cI 201 mn), (oa (a 12) cI 8040 cx), (oa (a 13) cI 8040 cy), (oa (a 32) cI 8 q_1)]) hP hD [0, 1, 2, 3, 4, 5] [6, 7, 8, 9, 10, 11, 12, 13] rfl rfl (by decide) (by decide) hk1 hFc hP1 hD1
  clear hk1 hPc hDc hFc hP1 hD1 ht
  generalize H1 = H at hP hS ⊢
  have hP := hP.sub (ws' := [(om k0 a I0 J0), (oa (a 1) cI 201 kd), (oa (a 11) cI 201 mn), (oa (a 12) cI 8040 cx), (oa (a 13) cI 8040 cy), (oa (a 32) cI 8 q_1), (oa (a 40) cI 6 T0), (oa (a 29) cI 42 P0), (oa (a 30) cI 42 Q0), (oa (a 33) cI 42 ox), (oa (a 34) cI 42 oy), (oa (a 37) cZ 201 mt), (oa (a 38) cZ 201 wi), (oa (a 39) cZ 8040 ins)]) [8, 9, 10, 11, 12, 13, 0, 1, 2, 3, 4, 5, 6, 7] rfl
  have hD := hD.sub (ws' := [(om k0 a I0 J0), (oa (a 1) cI 201 kd), (oa (a 11) cI 201 mn), (oa (a 12) cI 8040 cx), (oa (a 13) cI 8040 cy), (oa (a 32) cI 8 q_1), (oa (a 40) cI 6 T0), (oa (a 29) cI 42 P0), (oa (a 30) cI 42 Q0), (oa (a 33) cI 42 ox), (oa (a 34) cI 42 oy), (oa (a 37) cZ 201 mt), (oa (a 38) cZ 201 wi), (oa (a 39) cZ 8040 ins)]) [8, 9, 10, 11, 12, 13, 0, 1, 2, 3, 4, 5, 6, 7] (by decide) rfl
  have hP : va_P (dC, dI) classes [(om k0 a I0 J0), (oa (a 1) cI 201 kd), (oa (a 11) cI 201 mn), (oa (a 12) cI 8040 cx), (oa (a 13) cI 8040 cy), (oa (a 32) cI 8 q_1), (oa (a 40) cI 6 T0), (oa (a 29) cI 42 P0), (oa (a 30) cI 42 Q0), (oa (a 33) cI 42 ox), (oa (a 34) cI 42 oy), (oa (a 37) cZ 201 mt), (oa (a 38) cZ 201 wi), (oa (a 39) cZ 8040 ins)] H := hP
  have hD : va_D A [(om k0 a I0 J0), (oa (a 1) cI 201 kd), (oa (a 11) cI 201 mn), (oa (a 12) cI 8040 cx), (oa (a 13) cI 8040 cy), (oa (a 32) cI 8 q_1), (oa (a 40) cI 6 T0), (oa (a 29) cI 42 P0), (oa (a 30) cI 42 Q0), (oa (a 33) cI 42 ox), (oa (a 34) cI 42 oy), (oa (a 37) cZ 201 mt), (oa (a 38) cZ 201 wi), (oa (a 39) cZ 8040 ins)] := hD
  refine zz_i (v := pI (mtF (kd f).toInt n (cF40 cx f) (cF40 cy f) (kd g).toInt m2 (cF40 cx g) (cF40 cy g))) (rfl) ?_
  refine lv_aload_n hx hb dX11_isLawfulTo_6 rfl (lv_at hl 0 rfl) ?_
  refine va_get (D := (dC, dI)) (ci := 9) (v := .ref (a 37)) (C := RX11) (T := TX11) (N := 55) hx hb hts inX11 hown hK hP 0 rfl rfl 37 (by decide) (hts _ mw_1196) (fun _ h9 => h9) rfl dX11_isLawfulTo_7 ?_
  refine lv_iload_n hx hb dX11_isLawfulTo_10 rfl (lv_at hl 2 rfl) ?_
  refine z_zald hx hb hK hP 11 1 rfl rfl (e := g) rfl (by omega) (by omega) dX11_isLawfulTo_11 ?_
  refine zz_i (v := pI MT) (hmt) ?_
  refine lv_icmp_eq (tgt := 17) hx hb dX11_isLawfulTo_12 (by decide) (fun c_2 => ?_) (fun c_2 => ?_)
  · have c_2 : (pI (mtF (kd f).toInt n (cF40 cx f) (cF40 cy f) (kd g).toInt m2 (cF40 cx g) (cF40 cy g))).toInt = (pI MT).toInt := zc_eq rfl rfl c_2
    refine lv_aload_n hx hb dX11_isLawfulTo_17 rfl (lv_at hl 0 rfl) ?_
    refine lv_iload_n hx hb dX11_isLawfulTo_18 rfl (lv_at hl 2 rfl) ?_
    have hPc := hP.sub (ws' := [(om k0 a I0 J0), (oa (a 1) cI 201 kd)]) [0, 1] rfl
    have hDc := hD.sub (ws' := [(om k0 a I0 J0), (oa (a 1) cI 201 kd)]) [0, 1] (by decide) rfl
    have hFc := va_free (wc := [(om k0 a I0 J0), (oa (a 1) cI 201 kd)]) hD hS hA [0, 1] rfl
    refine zcall (st1 := [.int (pI (5 ≤ (kd g).toInt))]) (va_runV (As := [.int (nI g)]) (rest := []) ⟨hx, hb, hml, hown, hts⟩ (k_M_isRing l dC dI cI cZ cF H.size k0 a I0 J0 g kd (by omega)) (cwV 1 hts (zz_gV mw_1365 mw_1367 mw_40 mw_110 mc_yX11_isRing) rfl rfl rfl (by decide +kernel) ⟨Nat.le_of_ble_eq_true rfl, Nat.le_of_ble_eq_true rfl⟩) (zPV2 (q0 := 0) (ci := 9) hPc hDc hK hXN rfl rfl) rfl rfl hl.1 rfl (lv_room (Nat.le_of_ble_eq_true rfl)) dX11_isLawfulTo_19 ⟨Nat.le_of_ble_eq_true rfl, Nat.le_of_ble_eq_true rfl⟩) hS hFc hFc rfl (fun t H1 locs ht hB hk1 hS => ?_)
    obtain ⟨hP1, hD1⟩ := hB
    rw [ht] at hP1
    obtain ⟨hP, hD⟩ := va_join (wr := [(oa (a 11) cI 201 mn), (oa (a 12) cI 8040 cx), (oa (a 13) cI 8040 cy), (oa (a 32) cI 8 q_1), (oa (a 40) cI 6 T0), (oa (a 29) cI 42 P0), (oa (a 30) cI 42 Q0), (oa (a 33) cI 42 ox), (oa (a 34) cI 42 oy), (oa (a 37) cZ 201 mt), (oa (a 38) cZ 201 wi), (oa (a 39) cZ 8040 ins)]) (w1 := [(om k0 a I0 J0), (oa (a 1) cI 201 kd)]) hP hD [0, 1] [2, 3, 4, 5, 6, 7, 8, 9, 10, 11, 12, 13] rfl rfl (by decide) (by decide) hk1 hFc hP1 hD1
    clear hk1 hPc hDc hFc hP1 hD1 ht
    generalize H1 = H at hP hS ⊢
    have hP := hP.sub (ws' := [(om k0 a I0 J0), (oa (a 1) cI 201 kd), (oa (a 11) cI 201 mn), (oa (a 12) cI 8040 cx), (oa (a 13) cI 8040 cy), (oa (a 32) cI 8 q_1), (oa (a 40) cI 6 T0), (oa (a 29) cI 42 P0), (oa (a 30) cI 42 Q0), (oa (a 33) cI 42 ox), (oa (a 34) cI 42 oy), (oa (a 37) cZ 201 mt), (oa (a 38) cZ 201 wi), (oa (a 39) cZ 8040 ins)]) [12, 13, 0, 1, 2, 3, 4, 5, 6, 7, 8, 9, 10, 11] rfl
    have hD := hD.sub (ws' := [(om k0 a I0 J0), (oa (a 1) cI 201 kd), (oa (a 11) cI 201 mn), (oa (a 12) cI 8040 cx), (oa (a 13) cI 8040 cy), (oa (a 32) cI 8 q_1), (oa (a 40) cI 6 T0), (oa (a 29) cI 42 P0), (oa (a 30) cI 42 Q0), (oa (a 33) cI 42 ox), (oa (a 34) cI 42 oy), (oa (a 37) cZ 201 mt), (oa (a 38) cZ 201 wi), (oa (a 39) cZ 8040 ins)]) [12, 13, 0, 1, 2, 3, 4, 5, 6, 7, 8, 9, 10, 11] (by decide) rfl
    have hP : va_P (dC, dI) classes [(om k0 a I0 J0), (oa (a 1) cI 201 kd), (oa (a 11) cI 201 mn), (oa (a 12) cI 8040 cx), (oa (a 13) cI 8040 cy), (oa (a 32) cI 8 q_1), (oa (a 40) cI 6 T0), (oa (a 29) cI 42 P0), (oa (a 30) cI 42 Q0), (oa (a 33) cI 42 ox), (oa (a 34) cI 42 oy), (oa (a 37) cZ 201 mt), (oa (a 38) cZ 201 wi), (oa (a 39) cZ 8040 ins)] H := hP
    have hD : va_D A [(om k0 a I0 J0), (oa (a 1) cI 201 kd), (oa (a 11) cI 201 mn), (oa (a 12) cI 8040 cx), (oa (a 13) cI 8040 cy), (oa (a 32) cI 8 q_1), (oa (a 40) cI 6 T0), (oa (a 29) cI 42 P0), (oa (a 30) cI 42 Q0), (oa (a 33) cI 42 ox), (oa (a 34) cI 42 oy), (oa (a 37) cZ 201 mt), (oa (a 38) cZ 201 wi), (oa (a 39) cZ 8040 ins)] := hD
    refine lv_if_eq (tgt := 59) hx hb dX11_isLawfulTo_22 (by decide) (fun c_3 => ?_) (fun c_3 => ?_)
    · have c_3 : ¬ (5 ≤ (kd g).toInt) := zp_0 c_3
      refine lv_iconst (v := 0) hx hb dX11_isLawfulTo_59 (by decide) ?_
      refine lv_istore (lv' := [(5, .int 0), (0, .ref k0), (1, .int (nI f)), (2, .int (nI g)), (3, .int 5), (4, .int (-1))]) hx hb dX11_isLawfulTo_60 hl (by decide) rfl (fun ls hl => ?_)
      have hl_62 : ∀ (n9 : Nat) (k : Nat) (z9 : Int32) (S1 : Nat → Int32) (T1 : Nat → Int32) (P1 : Nat → Int32) (Q1 : Nat → Int32) (H : Heap) (locs : List Loc) (ls : Array Slot), m2 - k < n9 → (k ≤ m2) → (∀ j, j < k → (5 ≤ (kd f).toInt → (inF (kd f).toInt n (cF40 cx f) (cF40 cy f) (cF40 cx g j).toInt (cF40 cy g j).toInt ↔ IN j)) ∧ (¬ (kd f).toInt = 0 → ¬ (fun _ => False) j)) → va_P (dC, dI) classes [(om k0 a (upd I0 31 z9) J0), (oa (a 1) cI 201 kd), (oa (a 11) cI 201 mn), (oa (a 12) cI 8040 cx), (oa (a 13) cI 8040 cy), (oa (a 32) cI 8 S1), (oa (a 40) cI 6 T1), (oa (a 29) cI 42 P1), (oa (a 30) cI 42 Q1), (oa (a 33) cI 42 ox), (oa (a 34) cI 42 oy), (oa (a 37) cZ 201 mt), (oa (a 38) cZ 201 wi), (oa (a 39) cZ 8040 ins)] H → va_D A [(om k0 a (upd I0 31 z9) J0), (oa (a 1) cI 201 kd), (oa (a 11) cI 201 mn), (oa (a 12) cI 8040 cx), (oa (a 13) cI 8040 cy), (oa (a 32) cI 8 S1), (oa (a 40) cI 6 T1), (oa (a 29) cI 42 P1), (oa (a 30) cI 42 Q1), (oa (a 33) cI 42 ox), (oa (a 34) cI 42 oy), (oa (a 37) cZ 201 mt), (oa (a 38) cZ 201 wi), (oa (a 39) cZ 8040 ins)] → va_S A s.heap H locs → lv_has ls 8 [(5, .int (nI k)), (0, .ref k0), (1, .int (nI f)), (2, .int (nI g)), (3, .int 5), (4, .int (-1))] → W p l e ((headSpec (.code yX11_isLawfulTo cX11_isLawfulTo 8 (some .boolean) :: ws0) ({ frames := 4, cells := 0, slots := 0, locals := 108 } : Room)).room) s m ([.ref k0, .int (nI f), .int (nI g), .int 5, .int (-1)] : List Value).toArray below meth c H locs 0 0 Q9 (F0 m 62 ls []) := by
        intro n9
        induction n9 with
        | zero => intro k z9 S1 T1 P1 Q1 H locs ls hm; exact absurd hm (Nat.not_lt_zero _)
        | succ n9 ih_62 =>
          intro k z9 S1 T1 P1 Q1 H locs ls hm hk hall hP hD hS hl
          refine lv_iload hx hb dX11_isLawfulTo_62 (lv_at hl 0 rfl) ?_
          refine lv_aload_n hx hb dX11_isLawfulTo_64 rfl (lv_at hl 1 rfl) ?_
          refine va_get (D := (dC, dI)) (ci := 9) (v := .ref (a 11)) (C := RX11) (T := TX11) (N := 55) hx hb hts inX11 hown hK hP 0 rfl rfl 11 (by decide) (hts _ mw_1170) (fun _ h9 => h9) rfl dX11_isLawfulTo_65 ?_
          refine lv_iload_n hx hb dX11_isLawfulTo_68 rfl (lv_at hl 3 rfl) ?_
          refine z_iald hx hb hK hP 2 0 rfl rfl (e := g) rfl (by omega) (by omega) dX11_isLawfulTo_69 ?_
          refine zz_i (v := nI m2) (hm_g) ?_
          refine lv_icmp_ge (tgt := 191) hx hb dX11_isLawfulTo_70 (by decide) (fun c_4 => ?_) (fun c_4 => ?_)
          · have c_4 : ((m2 : Nat) : Int) ≤ ((k : Nat) : Int) := zc_le (nI_toInt (by omega)) (nI_toInt (by omega)) c_4
            refine lv_aload_n hx hb dX11_isLawfulTo_191 rfl (lv_at hl 1 rfl) ?_
            refine va_get (D := (dC, dI)) (ci := 9) (v := .ref (a 1)) (C := RX11) (T := TX11) (N := 55) hx hb hts inX11 hown hK hP 0 rfl rfl 1 (by decide) (hts _ mw_1160) (fun _ h9 => h9) rfl dX11_isLawfulTo_192 ?_
            refine lv_iload_n hx hb dX11_isLawfulTo_195 rfl (lv_at hl 2 rfl) ?_
            refine z_iald hx hb hK hP 1 0 rfl rfl (e := f) rfl (by omega) (by omega) dX11_isLawfulTo_196 ?_
            refine lv_if_ne (tgt := 209) hx hb dX11_isLawfulTo_197 (by decide) (fun c_5 => ?_) (fun c_5 => ?_)
            · have c_5 : ¬ (kd f).toInt = 0 := zc_ne rfl (by decide) c_5
              refine lv_iconst (v := 1) hx hb dX11_isLawfulTo_209 (by decide) ?_
              refine lv_goto (tgt := 214) hx hb dX11_isLawfulTo_210 (by decide) ?_
              have hP9 := hP.sub (ws' := [(om k0 a (upd I0 31 z9) J0), (oa (a 1) cI 201 kd), (oa (a 11) cI 201 mn), (oa (a 12) cI 8040 cx), (oa (a 13) cI 8040 cy), (oa (a 32) cI 8 S1), (oa (a 40) cI 6 T1), (oa (a 29) cI 42 P1), (oa (a 30) cI 42 Q1), (oa (a 33) cI 42 ox), (oa (a 34) cI 42 oy), (oa (a 37) cZ 201 mt), (oa (a 38) cZ 201 wi), (oa (a 39) cZ 8040 ins)]) [0, 1, 2, 3, 4, 5, 6, 7, 8, 9, 10, 11, 12, 13] rfl
              have hD9 := hD.sub (ws' := [(om k0 a (upd I0 31 z9) J0), (oa (a 1) cI 201 kd), (oa (a 11) cI 201 mn), (oa (a 12) cI 8040 cx), (oa (a 13) cI 8040 cy), (oa (a 32) cI 8 S1), (oa (a 40) cI 6 T1), (oa (a 29) cI 42 P1), (oa (a 30) cI 42 Q1), (oa (a 33) cI 42 ox), (oa (a 34) cI 42 oy), (oa (a 37) cZ 201 mt), (oa (a 38) cZ 201 wi), (oa (a 39) cZ 8040 ins)]) [0, 1, 2, 3, 4, 5, 6, 7, 8, 9, 10, 11, 12, 13] (by decide) rfl
              rw [hQ9]
              exact W.zret (ty := .boolean) (v := 1) hx hb hr (rfl) (fun t ht hW => ⟨⟨congrArg (fun z => Outcome.returned (some (Value.int z))) (show (1 : Int32) = pI (lawTo (ox 0) (oy 0) (kd f).toInt n (cF40 cx f) (cF40 cy f) (kd g).toInt m2 (cF40 cx g) (cF40 cy g) MT WI IN (fun _ => False)) from (zp_t (by first | exact ⟨zp_ieq.mp (by assumption), fun h => (by first | (exfalso; omega) | exact zp_ieq.mp (by assumption)), fun j hj => hall j (by omega), fun h => (by first | (exfalso; omega) | assumption)⟩ | exact fun h => absurd (h.2.2.2 (by omega)) (by assumption))).symm), z9, S1, T1, P1, Q1, by rw [ht]; exact hP9, hD9⟩, hS.F ht⟩) hS.2.2 dX11_isLawfulTo_214
            · have c_5 : (kd f).toInt = 0 := zc_eq rfl (by decide) c_5
              refine lv_aload_n hx hb dX11_isLawfulTo_200 rfl (lv_at hl 1 rfl) ?_
              refine lv_iload_n hx hb dX11_isLawfulTo_201 rfl (lv_at hl 2 rfl) ?_
              refine lv_iload_n hx hb dX11_isLawfulTo_202 rfl (lv_at hl 3 rfl) ?_
              have hPc := hP.sub (ws' := [(om k0 a (upd I0 31 z9) J0), (oa (a 1) cI 201 kd), (oa (a 11) cI 201 mn), (oa (a 12) cI 8040 cx), (oa (a 13) cI 8040 cy), (oa (a 32) cI 8 S1), (oa (a 33) cI 42 ox), (oa (a 34) cI 42 oy)]) [0, 1, 2, 3, 4, 5, 9, 10] rfl
              have hDc := hD.sub (ws' := [(om k0 a (upd I0 31 z9) J0), (oa (a 1) cI 201 kd), (oa (a 11) cI 201 mn), (oa (a 12) cI 8040 cx), (oa (a 13) cI 8040 cy), (oa (a 32) cI 8 S1), (oa (a 33) cI 42 ox), (oa (a 34) cI 42 oy)]) [0, 1, 2, 3, 4, 5, 9, 10] (by decide) rfl
              have hFc := va_free (wc := [(om k0 a (upd I0 31 z9) J0), (oa (a 1) cI 201 kd), (oa (a 11) cI 201 mn), (oa (a 12) cI 8040 cx), (oa (a 13) cI 8040 cy), (oa (a 32) cI 8 S1), (oa (a 33) cI 42 ox), (oa (a 34) cI 42 oy)]) hD hS hA [0, 1, 2, 3, 4, 5, 9, 10] rfl
              refine zcall (st1 := [.int (pI (∀ k, k < eO (kd g).toInt m2 → fWy (ox 0).toInt (oy 0).toInt (cx (40 * f)).toInt (cy (40 * f)).toInt m2 (cF40 cx g) (cF40 cy g) k))]) (va_runV (As := [.int (nI f), .int (nI g)]) (rest := []) ⟨hx, hb, hml, hown, hts⟩ (k_M_isFreeWay l dC dI cI cZ cF H.size k0 a (upd I0 31 z9) J0 f g m2 kd mn cx cy S1 ox oy (by omega) ((hpo 0 (by omega)).1) ((hpo 0 (by omega)).2) ((hp_f 0 (by omega)).1) ((hp_f 0 (by omega)).2) (by omega) (by assumption) (by omega) (by assumption)) (cwV 2 hts (zz_gV mw_1506 mw_1508 mw_70 mw_110 mc_yX11_isFreeWay) rfl rfl rfl (by decide +kernel) ⟨Nat.le_of_ble_eq_true rfl, Nat.le_of_ble_eq_true rfl⟩) (zPV2 (q0 := 0) (ci := 9) hPc hDc hK hXN rfl rfl) rfl rfl hl.1 rfl (lv_room (Nat.le_of_ble_eq_true rfl)) dX11_isLawfulTo_203 ⟨Nat.le_of_ble_eq_true rfl, Nat.le_of_ble_eq_true rfl⟩) hS hFc hFc rfl (fun t H1 locs ht hB hk1 hS => ?_)
              obtain ⟨q_6, hP1, hD1⟩ := hB
              rw [ht] at hP1
              obtain ⟨hP, hD⟩ := va_join (wr := [(oa (a 40) cI 6 T1), (oa (a 29) cI 42 P1), (oa (a 30) cI 42 Q1), (oa (a 37) cZ 201 mt), (oa (a 38) cZ 201 wi), (oa (a 39) cZ 8040 ins)]) (w1 := [(om k0 a (upd I0 31 z9) J0), (oa (a 1) cI 201 kd), (oa (a 11) cI 201 mn), (oa (a 12) cI 8040 cx), (oa (a 13) cI 8040 cy), (oa (a 32) cI 8 q_6), (oa (a 33) cI 42 ox), (oa (a 34) cI 42 oy)]) hP hD [0, 1, 2, 3, 4, 5, 9, 10] [6, 7, 8, 11, 12, 13] rfl rfl (by decide) (by decide) hk1 hFc hP1 hD1
              clear hk1 hPc hDc hFc hP1 hD1 ht
              generalize H1 = H at hP hS ⊢
              have hP := hP.sub (ws' := [(om k0 a (upd I0 31 z9) J0), (oa (a 1) cI 201 kd), (oa (a 11) cI 201 mn), (oa (a 12) cI 8040 cx), (oa (a 13) cI 8040 cy), (oa (a 32) cI 8 q_6), (oa (a 40) cI 6 T1), (oa (a 29) cI 42 P1), (oa (a 30) cI 42 Q1), (oa (a 33) cI 42 ox), (oa (a 34) cI 42 oy), (oa (a 37) cZ 201 mt), (oa (a 38) cZ 201 wi), (oa (a 39) cZ 8040 ins)]) [6, 7, 8, 9, 10, 11, 0, 1, 2, 12, 13, 3, 4, 5] rfl
              have hD := hD.sub (ws' := [(om k0 a (upd I0 31 z9) J0), (oa (a 1) cI 201 kd), (oa (a 11) cI 201 mn), (oa (a 12) cI 8040 cx), (oa (a 13) cI 8040 cy), (oa (a 32) cI 8 q_6), (oa (a 40) cI 6 T1), (oa (a 29) cI 42 P1), (oa (a 30) cI 42 Q1), (oa (a 33) cI 42 ox), (oa (a 34) cI 42 oy), (oa (a 37) cZ 201 mt), (oa (a 38) cZ 201 wi), (oa (a 39) cZ 8040 ins)]) [6, 7, 8, 9, 10, 11, 0, 1, 2, 12, 13, 3, 4, 5] (by decide) rfl
              have hP : va_P (dC, dI) classes [(om k0 a (upd I0 31 z9) J0), (oa (a 1) cI 201 kd), (oa (a 11) cI 201 mn), (oa (a 12) cI 8040 cx), (oa (a 13) cI 8040 cy), (oa (a 32) cI 8 q_6), (oa (a 40) cI 6 T1), (oa (a 29) cI 42 P1), (oa (a 30) cI 42 Q1), (oa (a 33) cI 42 ox), (oa (a 34) cI 42 oy), (oa (a 37) cZ 201 mt), (oa (a 38) cZ 201 wi), (oa (a 39) cZ 8040 ins)] H := hP
              have hD : va_D A [(om k0 a (upd I0 31 z9) J0), (oa (a 1) cI 201 kd), (oa (a 11) cI 201 mn), (oa (a 12) cI 8040 cx), (oa (a 13) cI 8040 cy), (oa (a 32) cI 8 q_6), (oa (a 40) cI 6 T1), (oa (a 29) cI 42 P1), (oa (a 30) cI 42 Q1), (oa (a 33) cI 42 ox), (oa (a 34) cI 42 oy), (oa (a 37) cZ 201 mt), (oa (a 38) cZ 201 wi), (oa (a 39) cZ 8040 ins)] := hD
              refine zz_i (v := pI (∀ k, k < eO (kd g).toInt m2 → fWy (ox 0).toInt (oy 0).toInt (cF40 cx f 0).toInt (cF40 cy f 0).toInt m2 (cF40 cx g) (cF40 cy g) k)) (rfl) ?_
              refine lv_if_eq (tgt := 213) hx hb dX11_isLawfulTo_206 (by decide) (fun c_7 => ?_) (fun c_7 => ?_)
              · have c_7 : ¬ (∀ k, k < eO (kd g).toInt m2 → fWy (ox 0).toInt (oy 0).toInt (cF40 cx f 0).toInt (cF40 cy f 0).toInt m2 (cF40 cx g) (cF40 cy g) k) := zp_0 c_7
                refine lv_iconst (v := 0) hx hb dX11_isLawfulTo_213 (by decide) ?_
                have hP9 := hP.sub (ws' := [(om k0 a (upd I0 31 z9) J0), (oa (a 1) cI 201 kd), (oa (a 11) cI 201 mn), (oa (a 12) cI 8040 cx), (oa (a 13) cI 8040 cy), (oa (a 32) cI 8 q_6), (oa (a 40) cI 6 T1), (oa (a 29) cI 42 P1), (oa (a 30) cI 42 Q1), (oa (a 33) cI 42 ox), (oa (a 34) cI 42 oy), (oa (a 37) cZ 201 mt), (oa (a 38) cZ 201 wi), (oa (a 39) cZ 8040 ins)]) [0, 1, 2, 3, 4, 5, 6, 7, 8, 9, 10, 11, 12, 13] rfl
                have hD9 := hD.sub (ws' := [(om k0 a (upd I0 31 z9) J0), (oa (a 1) cI 201 kd), (oa (a 11) cI 201 mn), (oa (a 12) cI 8040 cx), (oa (a 13) cI 8040 cy), (oa (a 32) cI 8 q_6), (oa (a 40) cI 6 T1), (oa (a 29) cI 42 P1), (oa (a 30) cI 42 Q1), (oa (a 33) cI 42 ox), (oa (a 34) cI 42 oy), (oa (a 37) cZ 201 mt), (oa (a 38) cZ 201 wi), (oa (a 39) cZ 8040 ins)]) [0, 1, 2, 3, 4, 5, 6, 7, 8, 9, 10, 11, 12, 13] (by decide) rfl
                rw [hQ9]
                exact W.zret (ty := .boolean) (v := 0) hx hb hr (rfl) (fun t ht hW => ⟨⟨congrArg (fun z => Outcome.returned (some (Value.int z))) (show (0 : Int32) = pI (lawTo (ox 0) (oy 0) (kd f).toInt n (cF40 cx f) (cF40 cy f) (kd g).toInt m2 (cF40 cx g) (cF40 cy g) MT WI IN (fun _ => False)) from (zp_f (by first | exact ⟨zp_ieq.mp (by assumption), fun h => (by first | (exfalso; omega) | exact zp_ieq.mp (by assumption)), fun j hj => hall j (by omega), fun h => (by first | (exfalso; omega) | assumption)⟩ | exact fun h => absurd (h.2.2.2 (by omega)) (by assumption))).symm), z9, q_6, T1, P1, Q1, by rw [ht]; exact hP9, hD9⟩, hS.F ht⟩) hS.2.2 dX11_isLawfulTo_214
              · have c_7 : ∀ k, k < eO (kd g).toInt m2 → fWy (ox 0).toInt (oy 0).toInt (cF40 cx f 0).toInt (cF40 cy f 0).toInt m2 (cF40 cx g) (cF40 cy g) k := zp_1 c_7
                refine lv_iconst (v := 1) hx hb dX11_isLawfulTo_209 (by decide) ?_
                refine lv_goto (tgt := 214) hx hb dX11_isLawfulTo_210 (by decide) ?_
                have hP9 := hP.sub (ws' := [(om k0 a (upd I0 31 z9) J0), (oa (a 1) cI 201 kd), (oa (a 11) cI 201 mn), (oa (a 12) cI 8040 cx), (oa (a 13) cI 8040 cy), (oa (a 32) cI 8 q_6), (oa (a 40) cI 6 T1), (oa (a 29) cI 42 P1), (oa (a 30) cI 42 Q1), (oa (a 33) cI 42 ox), (oa (a 34) cI 42 oy), (oa (a 37) cZ 201 mt), (oa (a 38) cZ 201 wi), (oa (a 39) cZ 8040 ins)]) [0, 1, 2, 3, 4, 5, 6, 7, 8, 9, 10, 11, 12, 13] rfl
                have hD9 := hD.sub (ws' := [(om k0 a (upd I0 31 z9) J0), (oa (a 1) cI 201 kd), (oa (a 11) cI 201 mn), (oa (a 12) cI 8040 cx), (oa (a 13) cI 8040 cy), (oa (a 32) cI 8 q_6), (oa (a 40) cI 6 T1), (oa (a 29) cI 42 P1), (oa (a 30) cI 42 Q1), (oa (a 33) cI 42 ox), (oa (a 34) cI 42 oy), (oa (a 37) cZ 201 mt), (oa (a 38) cZ 201 wi), (oa (a 39) cZ 8040 ins)]) [0, 1, 2, 3, 4, 5, 6, 7, 8, 9, 10, 11, 12, 13] (by decide) rfl
                rw [hQ9]
                exact W.zret (ty := .boolean) (v := 1) hx hb hr (rfl) (fun t ht hW => ⟨⟨congrArg (fun z => Outcome.returned (some (Value.int z))) (show (1 : Int32) = pI (lawTo (ox 0) (oy 0) (kd f).toInt n (cF40 cx f) (cF40 cy f) (kd g).toInt m2 (cF40 cx g) (cF40 cy g) MT WI IN (fun _ => False)) from (zp_t (by first | exact ⟨zp_ieq.mp (by assumption), fun h => (by first | (exfalso; omega) | exact zp_ieq.mp (by assumption)), fun j hj => hall j (by omega), fun h => (by first | (exfalso; omega) | assumption)⟩ | exact fun h => absurd (h.2.2.2 (by omega)) (by assumption))).symm), z9, q_6, T1, P1, Q1, by rw [ht]; exact hP9, hD9⟩, hS.F ht⟩) hS.2.2 dX11_isLawfulTo_214
          · have c_4 : ((k : Nat) : Int) < ((m2 : Nat) : Int) := zc_nle (nI_toInt (by omega)) (nI_toInt (by omega)) c_4
            have hk9 : k < m2 := (by omega)
            refine lv_aload_n hx hb dX11_isLawfulTo_73 rfl (lv_at hl 1 rfl) ?_
            refine va_get (D := (dC, dI)) (ci := 9) (v := .ref (a 12)) (C := RX11) (T := TX11) (N := 55) hx hb hts inX11 hown hK hP 0 rfl rfl 12 (by decide) (hts _ mw_1171) (fun _ h9 => h9) rfl dX11_isLawfulTo_74 ?_
            refine lv_bipush (v := 40) hx hb dX11_isLawfulTo_77 (by decide) ?_
            refine lv_iload_n hx hb dX11_isLawfulTo_79 rfl (lv_at hl 3 rfl) ?_
            refine lv_imul hx hb dX11_isLawfulTo_80 ?_
            refine zz_i (v := nI (40 * g)) (pk_mul 40 g) ?_
            refine lv_iload hx hb dX11_isLawfulTo_81 (lv_at hl 0 rfl) ?_
            refine lv_iadd hx hb dX11_isLawfulTo_83 ?_
            refine zz_i (v := nI (40 * g + k)) (nI_add (40 * g) k) ?_
            refine z_iald hx hb hK hP 3 0 rfl rfl (e := 40 * g + k) rfl (by omega) (by omega) dX11_isLawfulTo_84 ?_
            refine lv_istore (lv' := [(6, .int (cx (40 * g + k))), (5, .int (nI k)), (0, .ref k0), (1, .int (nI f)), (2, .int (nI g)), (3, .int 5), (4, .int (-1))]) hx hb dX11_isLawfulTo_85 hl (by decide) rfl (fun ls hl => ?_)
            refine lv_aload_n hx hb dX11_isLawfulTo_87 rfl (lv_at hl 2 rfl) ?_
            refine va_get (D := (dC, dI)) (ci := 9) (v := .ref (a 13)) (C := RX11) (T := TX11) (N := 55) hx hb hts inX11 hown hK hP 0 rfl rfl 13 (by decide) (hts _ mw_1172) (fun _ h9 => h9) rfl dX11_isLawfulTo_88 ?_
            refine lv_bipush (v := 40) hx hb dX11_isLawfulTo_91 (by decide) ?_
            refine lv_iload_n hx hb dX11_isLawfulTo_93 rfl (lv_at hl 4 rfl) ?_
            refine lv_imul hx hb dX11_isLawfulTo_94 ?_
            refine zz_i (v := nI (40 * g)) (pk_mul 40 g) ?_
            refine lv_iload hx hb dX11_isLawfulTo_95 (lv_at hl 1 rfl) ?_
            refine lv_iadd hx hb dX11_isLawfulTo_97 ?_
            refine zz_i (v := nI (40 * g + k)) (nI_add (40 * g) k) ?_
            refine z_iald hx hb hK hP 4 0 rfl rfl (e := 40 * g + k) rfl (by omega) (by omega) dX11_isLawfulTo_98 ?_
            refine lv_istore (lv' := [(7, .int (cy (40 * g + k))), (6, .int (cx (40 * g + k))), (5, .int (nI k)), (0, .ref k0), (1, .int (nI f)), (2, .int (nI g)), (3, .int 5), (4, .int (-1))]) hx hb dX11_isLawfulTo_99 hl (by decide) rfl (fun ls hl => ?_)
            refine lv_aload_n hx hb dX11_isLawfulTo_101 rfl (lv_at hl 3 rfl) ?_
            refine lv_iload_n hx hb dX11_isLawfulTo_102 rfl (lv_at hl 4 rfl) ?_
            have hPc := hP.sub (ws' := [(om k0 a (upd I0 31 z9) J0), (oa (a 1) cI 201 kd)]) [0, 1] rfl
            have hDc := hD.sub (ws' := [(om k0 a (upd I0 31 z9) J0), (oa (a 1) cI 201 kd)]) [0, 1] (by decide) rfl
            have hFc := va_free (wc := [(om k0 a (upd I0 31 z9) J0), (oa (a 1) cI 201 kd)]) hD hS hA [0, 1] rfl
            refine zcall (st1 := [.int (pI (5 ≤ (kd f).toInt))]) (va_runV (As := [.int (nI f)]) (rest := []) ⟨hx, hb, hml, hown, hts⟩ (k_M_isRing l dC dI cI cZ cF H.size k0 a (upd I0 31 z9) J0 f kd (by omega)) (cwV 1 hts (zz_gV mw_1365 mw_1367 mw_40 mw_110 mc_yX11_isRing) rfl rfl rfl (by decide +kernel) ⟨Nat.le_of_ble_eq_true rfl, Nat.le_of_ble_eq_true rfl⟩) (zPV2 (q0 := 0) (ci := 9) hPc hDc hK hXN rfl rfl) rfl rfl hl.1 rfl (lv_room (Nat.le_of_ble_eq_true rfl)) dX11_isLawfulTo_103 ⟨Nat.le_of_ble_eq_true rfl, Nat.le_of_ble_eq_true rfl⟩) hS hFc hFc rfl (fun t H1 locs ht hB hk1 hS => ?_)
            obtain ⟨hP1, hD1⟩ := hB
            rw [ht] at hP1
            obtain ⟨hP, hD⟩ := va_join (wr := [(oa (a 11) cI 201 mn), (oa (a 12) cI 8040 cx), (oa (a 13) cI 8040 cy), (oa (a 32) cI 8 S1), (oa (a 40) cI 6 T1), (oa (a 29) cI 42 P1), (oa (a 30) cI 42 Q1), (oa (a 33) cI 42 ox), (oa (a 34) cI 42 oy), (oa (a 37) cZ 201 mt), (oa (a 38) cZ 201 wi), (oa (a 39) cZ 8040 ins)]) (w1 := [(om k0 a (upd I0 31 z9) J0), (oa (a 1) cI 201 kd)]) hP hD [0, 1] [2, 3, 4, 5, 6, 7, 8, 9, 10, 11, 12, 13] rfl rfl (by decide) (by decide) hk1 hFc hP1 hD1
            clear hk1 hPc hDc hFc hP1 hD1 ht
            generalize H1 = H at hP hS ⊢
            have hP := hP.sub (ws' := [(om k0 a (upd I0 31 z9) J0), (oa (a 1) cI 201 kd), (oa (a 11) cI 201 mn), (oa (a 12) cI 8040 cx), (oa (a 13) cI 8040 cy), (oa (a 32) cI 8 S1), (oa (a 40) cI 6 T1), (oa (a 29) cI 42 P1), (oa (a 30) cI 42 Q1), (oa (a 33) cI 42 ox), (oa (a 34) cI 42 oy), (oa (a 37) cZ 201 mt), (oa (a 38) cZ 201 wi), (oa (a 39) cZ 8040 ins)]) [12, 13, 0, 1, 2, 3, 4, 5, 6, 7, 8, 9, 10, 11] rfl
            have hD := hD.sub (ws' := [(om k0 a (upd I0 31 z9) J0), (oa (a 1) cI 201 kd), (oa (a 11) cI 201 mn), (oa (a 12) cI 8040 cx), (oa (a 13) cI 8040 cy), (oa (a 32) cI 8 S1), (oa (a 40) cI 6 T1), (oa (a 29) cI 42 P1), (oa (a 30) cI 42 Q1), (oa (a 33) cI 42 ox), (oa (a 34) cI 42 oy), (oa (a 37) cZ 201 mt), (oa (a 38) cZ 201 wi), (oa (a 39) cZ 8040 ins)]) [12, 13, 0, 1, 2, 3, 4, 5, 6, 7, 8, 9, 10, 11] (by decide) rfl
            have hP : va_P (dC, dI) classes [(om k0 a (upd I0 31 z9) J0), (oa (a 1) cI 201 kd), (oa (a 11) cI 201 mn), (oa (a 12) cI 8040 cx), (oa (a 13) cI 8040 cy), (oa (a 32) cI 8 S1), (oa (a 40) cI 6 T1), (oa (a 29) cI 42 P1), (oa (a 30) cI 42 Q1), (oa (a 33) cI 42 ox), (oa (a 34) cI 42 oy), (oa (a 37) cZ 201 mt), (oa (a 38) cZ 201 wi), (oa (a 39) cZ 8040 ins)] H := hP
            have hD : va_D A [(om k0 a (upd I0 31 z9) J0), (oa (a 1) cI 201 kd), (oa (a 11) cI 201 mn), (oa (a 12) cI 8040 cx), (oa (a 13) cI 8040 cy), (oa (a 32) cI 8 S1), (oa (a 40) cI 6 T1), (oa (a 29) cI 42 P1), (oa (a 30) cI 42 Q1), (oa (a 33) cI 42 ox), (oa (a 34) cI 42 oy), (oa (a 37) cZ 201 mt), (oa (a 38) cZ 201 wi), (oa (a 39) cZ 8040 ins)] := hD
            refine lv_if_eq (tgt := 135) hx hb dX11_isLawfulTo_106 (by decide) (fun c_8 => ?_) (fun c_8 => ?_)
            · have c_8 : ¬ (5 ≤ (kd f).toInt) := zp_0 c_8
              refine lv_aload_n hx hb dX11_isLawfulTo_135 rfl (lv_at hl 3 rfl) ?_
              refine va_get (D := (dC, dI)) (ci := 9) (v := .ref (a 1)) (C := RX11) (T := TX11) (N := 55) hx hb hts inX11 hown hK hP 0 rfl rfl 1 (by decide) (hts _ mw_1160) (fun _ h9 => h9) rfl dX11_isLawfulTo_136 ?_
              refine lv_iload_n hx hb dX11_isLawfulTo_139 rfl (lv_at hl 4 rfl) ?_
              refine z_iald hx hb hK hP 1 0 rfl rfl (e := f) rfl (by omega) (by omega) dX11_isLawfulTo_140 ?_
              refine lv_if_eq (tgt := 185) hx hb dX11_isLawfulTo_141 (by decide) (fun c_9 => ?_) (fun c_9 => ?_)
              · have c_9 : (kd f).toInt = 0 := zc_eq rfl (by decide) c_9
                refine lv_iinc (v := nI (k + 1)) (lv' := [(5, .int (nI (k + 1))), (7, .int (cy (40 * g + k))), (6, .int (cx (40 * g + k))), (0, .ref k0), (1, .int (nI f)), (2, .int (nI g)), (3, .int 5), (4, .int (-1))]) hx hb dX11_isLawfulTo_185 hl (k := 2) rfl (nI_add k 1) (by decide) rfl (fun ls hl => ?_)
                refine lv_goto (tgt := 62) hx hb dX11_isLawfulTo_188 (by decide) ?_
                exact ih_62 (k + 1) z9 S1 T1 P1 Q1 H locs ls (by omega) (by omega) (by intro j hj; rcases Nat.lt_or_ge j k with h | h; exact hall j h; obtain rfl : j = k := (by omega); exact ⟨fun h5 => (by first | (exfalso; omega) | exact zp_ieq.mp (by assumption)), fun h0 => (by first | (exfalso; omega) | exact id | assumption)⟩) hP hD hS (lv_sub hl [0, 3, 4, 5, 6, 7] rfl)
              · have c_9 : ¬ (kd f).toInt = 0 := zc_ne rfl (by decide) c_9
                refine lv_iload_n hx hb dX11_isLawfulTo_144 rfl (lv_at hl 6 rfl) ?_
                refine lv_iconst (v := 5) hx hb dX11_isLawfulTo_145 (by decide) ?_
                refine lv_icmp_eq (tgt := 185) hx hb dX11_isLawfulTo_146 (by decide) (fun c_10 => ?_) (fun c_10 => ?_)
                · refine lv_iinc (v := nI (k + 1)) (lv' := [(5, .int (nI (k + 1))), (7, .int (cy (40 * g + k))), (6, .int (cx (40 * g + k))), (0, .ref k0), (1, .int (nI f)), (2, .int (nI g)), (3, .int 5), (4, .int (-1))]) hx hb dX11_isLawfulTo_185 hl (k := 2) rfl (nI_add k 1) (by decide) rfl (fun ls hl => ?_)
                  refine lv_goto (tgt := 62) hx hb dX11_isLawfulTo_188 (by decide) ?_
                  exact ih_62 (k + 1) z9 S1 T1 P1 Q1 H locs ls (by omega) (by omega) (by intro j hj; rcases Nat.lt_or_ge j k with h | h; exact hall j h; obtain rfl : j = k := (by omega); exact ⟨fun h5 => (by first | (exfalso; omega) | exact zp_ieq.mp (by assumption)), fun h0 => (by first | (exfalso; omega) | exact id | assumption)⟩) hP hD hS (lv_sub hl [0, 3, 4, 5, 6, 7] rfl)
                · exact absurd (by decide) c_10
            · have c_8 : 5 ≤ (kd f).toInt := zp_1 c_8
              refine lv_aload_n hx hb dX11_isLawfulTo_109 rfl (lv_at hl 3 rfl) ?_
              refine lv_iload_n hx hb dX11_isLawfulTo_110 rfl (lv_at hl 4 rfl) ?_
              refine lv_iload hx hb dX11_isLawfulTo_111 (lv_at hl 1 rfl) ?_
              refine lv_iload hx hb dX11_isLawfulTo_113 (lv_at hl 0 rfl) ?_
              have hPc := hP.sub (ws' := [(om k0 a (upd I0 31 z9) J0), (oa (a 1) cI 201 kd), (oa (a 11) cI 201 mn), (oa (a 12) cI 8040 cx), (oa (a 13) cI 8040 cy), (oa (a 32) cI 8 S1)]) [0, 1, 2, 3, 4, 5] rfl
              have hDc := hD.sub (ws' := [(om k0 a (upd I0 31 z9) J0), (oa (a 1) cI 201 kd), (oa (a 11) cI 201 mn), (oa (a 12) cI 8040 cx), (oa (a 13) cI 8040 cy), (oa (a 32) cI 8 S1)]) [0, 1, 2, 3, 4, 5] (by decide) rfl
              have hFc := va_free (wc := [(om k0 a (upd I0 31 z9) J0), (oa (a 1) cI 201 kd), (oa (a 11) cI 201 mn), (oa (a 12) cI 8040 cx), (oa (a 13) cI 8040 cy), (oa (a 32) cI 8 S1)]) hD hS hA [0, 1, 2, 3, 4, 5] rfl
              refine zcall (st1 := [.int (pI (¬ (∃ i, i < eO (kd f).toInt n ∧ eOn n (cF40 cx f) (cF40 cy f) i (cx (40 * g + k)).toInt (cy (40 * g + k)).toInt) ∧ par2 (eTg n (cF40 cx f) (cF40 cy f) (cx (40 * g + k)).toInt (cy (40 * g + k)).toInt) (eO (kd f).toInt n)))]) (va_runV (As := [.int (nI f), .int (cx (40 * g + k)), .int (cy (40 * g + k))]) (rest := []) ⟨hx, hb, hml, hown, hts⟩ (k_M_isInside l dC dI cI cZ cF H.size k0 a (upd I0 31 z9) J0 f n kd mn cx cy S1 (cx (40 * g + k)) (cy (40 * g + k)) (by omega) (by assumption) (by omega) (by assumption) ((hp_g k hk9).1) ((hp_g k hk9).2)) (cwV 3 hts (zz_gV mw_1471 mw_1473 mw_62 mw_110 mc_yX11_isInside) rfl rfl rfl (by decide +kernel) ⟨Nat.le_of_ble_eq_true rfl, Nat.le_of_ble_eq_true rfl⟩) (zPV2 (q0 := 0) (ci := 9) hPc hDc hK hXN rfl rfl) rfl rfl hl.1 rfl (lv_room (Nat.le_of_ble_eq_true rfl)) dX11_isLawfulTo_115 ⟨Nat.le_of_ble_eq_true rfl, Nat.le_of_ble_eq_true rfl⟩) hS hFc hFc rfl (fun t H1 locs ht hB hk1 hS => ?_)
              obtain ⟨q_11, hP1, hD1⟩ := hB
              rw [ht] at hP1
              obtain ⟨hP, hD⟩ := va_join (wr := [(oa (a 40) cI 6 T1), (oa (a 29) cI 42 P1), (oa (a 30) cI 42 Q1), (oa (a 33) cI 42 ox), (oa (a 34) cI 42 oy), (oa (a 37) cZ 201 mt), (oa (a 38) cZ 201 wi), (oa (a 39) cZ 8040 ins)]) (w1 := [(om k0 a (upd I0 31 z9) J0), (oa (a 1) cI 201 kd), (oa (a 11) cI 201 mn), (oa (a 12) cI 8040 cx), (oa (a 13) cI 8040 cy), (oa (a 32) cI 8 q_11)]) hP hD [0, 1, 2, 3, 4, 5] [6, 7, 8, 9, 10, 11, 12, 13] rfl rfl (by decide) (by decide) hk1 hFc hP1 hD1
              clear hk1 hPc hDc hFc hP1 hD1 ht
              generalize H1 = H at hP hS ⊢
              have hP := hP.sub (ws' := [(om k0 a (upd I0 31 z9) J0), (oa (a 1) cI 201 kd), (oa (a 11) cI 201 mn), (oa (a 12) cI 8040 cx), (oa (a 13) cI 8040 cy), (oa (a 32) cI 8 q_11), (oa (a 40) cI 6 T1), (oa (a 29) cI 42 P1), (oa (a 30) cI 42 Q1), (oa (a 33) cI 42 ox), (oa (a 34) cI 42 oy), (oa (a 37) cZ 201 mt), (oa (a 38) cZ 201 wi), (oa (a 39) cZ 8040 ins)]) [8, 9, 10, 11, 12, 13, 0, 1, 2, 3, 4, 5, 6, 7] rfl
              have hD := hD.sub (ws' := [(om k0 a (upd I0 31 z9) J0), (oa (a 1) cI 201 kd), (oa (a 11) cI 201 mn), (oa (a 12) cI 8040 cx), (oa (a 13) cI 8040 cy), (oa (a 32) cI 8 q_11), (oa (a 40) cI 6 T1), (oa (a 29) cI 42 P1), (oa (a 30) cI 42 Q1), (oa (a 33) cI 42 ox), (oa (a 34) cI 42 oy), (oa (a 37) cZ 201 mt), (oa (a 38) cZ 201 wi), (oa (a 39) cZ 8040 ins)]) [8, 9, 10, 11, 12, 13, 0, 1, 2, 3, 4, 5, 6, 7] (by decide) rfl
              have hP : va_P (dC, dI) classes [(om k0 a (upd I0 31 z9) J0), (oa (a 1) cI 201 kd), (oa (a 11) cI 201 mn), (oa (a 12) cI 8040 cx), (oa (a 13) cI 8040 cy), (oa (a 32) cI 8 q_11), (oa (a 40) cI 6 T1), (oa (a 29) cI 42 P1), (oa (a 30) cI 42 Q1), (oa (a 33) cI 42 ox), (oa (a 34) cI 42 oy), (oa (a 37) cZ 201 mt), (oa (a 38) cZ 201 wi), (oa (a 39) cZ 8040 ins)] H := hP
              have hD : va_D A [(om k0 a (upd I0 31 z9) J0), (oa (a 1) cI 201 kd), (oa (a 11) cI 201 mn), (oa (a 12) cI 8040 cx), (oa (a 13) cI 8040 cy), (oa (a 32) cI 8 q_11), (oa (a 40) cI 6 T1), (oa (a 29) cI 42 P1), (oa (a 30) cI 42 Q1), (oa (a 33) cI 42 ox), (oa (a 34) cI 42 oy), (oa (a 37) cZ 201 mt), (oa (a 38) cZ 201 wi), (oa (a 39) cZ 8040 ins)] := hD
              refine zz_i (v := pI (inF (kd f).toInt n (cF40 cx f) (cF40 cy f) (cF40 cx g k).toInt (cF40 cy g k).toInt)) (rfl) ?_
              refine lv_aload_n hx hb dX11_isLawfulTo_118 rfl (lv_at hl 3 rfl) ?_
              refine va_get (D := (dC, dI)) (ci := 9) (v := .ref (a 39)) (C := RX11) (T := TX11) (N := 55) hx hb hts inX11 hown hK hP 0 rfl rfl 39 (by decide) (hts _ mw_1198) (fun _ h9 => h9) rfl dX11_isLawfulTo_119 ?_
              refine lv_bipush (v := 40) hx hb dX11_isLawfulTo_122 (by decide) ?_
              refine lv_iload_n hx hb dX11_isLawfulTo_124 rfl (lv_at hl 5 rfl) ?_
              refine lv_imul hx hb dX11_isLawfulTo_125 ?_
              refine zz_i (v := nI (40 * g)) (pk_mul 40 g) ?_
              refine lv_iload hx hb dX11_isLawfulTo_126 (lv_at hl 2 rfl) ?_
              refine lv_iadd hx hb dX11_isLawfulTo_128 ?_
              refine zz_i (v := nI (40 * g + k)) (nI_add (40 * g) k) ?_
              refine z_zald hx hb hK hP 13 1 rfl rfl (e := 40 * g + k) rfl (by omega) (by omega) dX11_isLawfulTo_129 ?_
              refine zz_i (v := pI (IN k)) (hin k (by omega) (by omega)) ?_
              refine lv_icmp_eq (tgt := 135) hx hb dX11_isLawfulTo_130 (by decide) (fun c_12 => ?_) (fun c_12 => ?_)
              · have c_12 : (pI (inF (kd f).toInt n (cF40 cx f) (cF40 cy f) (cF40 cx g k).toInt (cF40 cy g k).toInt)).toInt = (pI (IN k)).toInt := zc_eq rfl rfl c_12
                refine lv_aload_n hx hb dX11_isLawfulTo_135 rfl (lv_at hl 3 rfl) ?_
                refine va_get (D := (dC, dI)) (ci := 9) (v := .ref (a 1)) (C := RX11) (T := TX11) (N := 55) hx hb hts inX11 hown hK hP 0 rfl rfl 1 (by decide) (hts _ mw_1160) (fun _ h9 => h9) rfl dX11_isLawfulTo_136 ?_
                refine lv_iload_n hx hb dX11_isLawfulTo_139 rfl (lv_at hl 4 rfl) ?_
                refine z_iald hx hb hK hP 1 0 rfl rfl (e := f) rfl (by omega) (by omega) dX11_isLawfulTo_140 ?_
                refine lv_if_eq (tgt := 185) hx hb dX11_isLawfulTo_141 (by decide) (fun c_13 => ?_) (fun c_13 => ?_)
                · have c_13 : (kd f).toInt = 0 := zc_eq rfl (by decide) c_13
                  refine lv_iinc (v := nI (k + 1)) (lv' := [(5, .int (nI (k + 1))), (7, .int (cy (40 * g + k))), (6, .int (cx (40 * g + k))), (0, .ref k0), (1, .int (nI f)), (2, .int (nI g)), (3, .int 5), (4, .int (-1))]) hx hb dX11_isLawfulTo_185 hl (k := 2) rfl (nI_add k 1) (by decide) rfl (fun ls hl => ?_)
                  refine lv_goto (tgt := 62) hx hb dX11_isLawfulTo_188 (by decide) ?_
                  exact ih_62 (k + 1) z9 q_11 T1 P1 Q1 H locs ls (by omega) (by omega) (by intro j hj; rcases Nat.lt_or_ge j k with h | h; exact hall j h; obtain rfl : j = k := (by omega); exact ⟨fun h5 => (by first | (exfalso; omega) | exact zp_ieq.mp (by assumption)), fun h0 => (by first | (exfalso; omega) | exact id | assumption)⟩) hP hD hS (lv_sub hl [0, 3, 4, 5, 6, 7] rfl)
                · have c_13 : ¬ (kd f).toInt = 0 := zc_ne rfl (by decide) c_13
                  refine lv_iload_n hx hb dX11_isLawfulTo_144 rfl (lv_at hl 6 rfl) ?_
                  refine lv_iconst (v := 5) hx hb dX11_isLawfulTo_145 (by decide) ?_
                  refine lv_icmp_eq (tgt := 185) hx hb dX11_isLawfulTo_146 (by decide) (fun c_14 => ?_) (fun c_14 => ?_)
                  · refine lv_iinc (v := nI (k + 1)) (lv' := [(5, .int (nI (k + 1))), (7, .int (cy (40 * g + k))), (6, .int (cx (40 * g + k))), (0, .ref k0), (1, .int (nI f)), (2, .int (nI g)), (3, .int 5), (4, .int (-1))]) hx hb dX11_isLawfulTo_185 hl (k := 2) rfl (nI_add k 1) (by decide) rfl (fun ls hl => ?_)
                    refine lv_goto (tgt := 62) hx hb dX11_isLawfulTo_188 (by decide) ?_
                    exact ih_62 (k + 1) z9 q_11 T1 P1 Q1 H locs ls (by omega) (by omega) (by intro j hj; rcases Nat.lt_or_ge j k with h | h; exact hall j h; obtain rfl : j = k := (by omega); exact ⟨fun h5 => (by first | (exfalso; omega) | exact zp_ieq.mp (by assumption)), fun h0 => (by first | (exfalso; omega) | exact id | assumption)⟩) hP hD hS (lv_sub hl [0, 3, 4, 5, 6, 7] rfl)
                  · exact absurd (by decide) c_14
              · have c_12 : ¬ (pI (inF (kd f).toInt n (cF40 cx f) (cF40 cy f) (cF40 cx g k).toInt (cF40 cy g k).toInt)).toInt = (pI (IN k)).toInt := zc_ne rfl rfl c_12
                refine lv_iconst (v := 0) hx hb dX11_isLawfulTo_133 (by decide) ?_
                have hP9 := hP.sub (ws' := [(om k0 a (upd I0 31 z9) J0), (oa (a 1) cI 201 kd), (oa (a 11) cI 201 mn), (oa (a 12) cI 8040 cx), (oa (a 13) cI 8040 cy), (oa (a 32) cI 8 q_11), (oa (a 40) cI 6 T1), (oa (a 29) cI 42 P1), (oa (a 30) cI 42 Q1), (oa (a 33) cI 42 ox), (oa (a 34) cI 42 oy), (oa (a 37) cZ 201 mt), (oa (a 38) cZ 201 wi), (oa (a 39) cZ 8040 ins)]) [0, 1, 2, 3, 4, 5, 6, 7, 8, 9, 10, 11, 12, 13] rfl
                have hD9 := hD.sub (ws' := [(om k0 a (upd I0 31 z9) J0), (oa (a 1) cI 201 kd), (oa (a 11) cI 201 mn), (oa (a 12) cI 8040 cx), (oa (a 13) cI 8040 cy), (oa (a 32) cI 8 q_11), (oa (a 40) cI 6 T1), (oa (a 29) cI 42 P1), (oa (a 30) cI 42 Q1), (oa (a 33) cI 42 ox), (oa (a 34) cI 42 oy), (oa (a 37) cZ 201 mt), (oa (a 38) cZ 201 wi), (oa (a 39) cZ 8040 ins)]) [0, 1, 2, 3, 4, 5, 6, 7, 8, 9, 10, 11, 12, 13] (by decide) rfl
                rw [hQ9]
                exact W.zret (ty := .boolean) (v := 0) hx hb hr (rfl) (fun t ht hW => ⟨⟨congrArg (fun z => Outcome.returned (some (Value.int z))) (show (0 : Int32) = pI (lawTo (ox 0) (oy 0) (kd f).toInt n (cF40 cx f) (cF40 cy f) (kd g).toInt m2 (cF40 cx g) (cF40 cy g) MT WI IN (fun _ => False)) from (zp_f (fun h => absurd (zp_ieq.mpr ((h.2.2.1 k (by omega)).1 (by omega))) (by assumption))).symm), z9, q_11, T1, P1, Q1, by rw [ht]; exact hP9, hD9⟩, hS.F ht⟩) hS.2.2 dX11_isLawfulTo_134
      exact hl_62 _ 0 (I0 31) q_1 T0 P0 Q0 H locs ls (Nat.lt_succ_self _) (by omega) (by intro j hj; omega) hP hD hS (lv_sub hl [0, 1, 2, 3, 4, 5] rfl)
    · have c_3 : 5 ≤ (kd g).toInt := zp_1 c_3
      refine lv_aload_n hx hb dX11_isLawfulTo_25 rfl (lv_at hl 0 rfl) ?_
      refine lv_iload_n hx hb dX11_isLawfulTo_26 rfl (lv_at hl 2 rfl) ?_
      refine lv_aload_n hx hb dX11_isLawfulTo_27 rfl (lv_at hl 0 rfl) ?_
      refine va_get (D := (dC, dI)) (ci := 9) (v := .ref (a 12)) (C := RX11) (T := TX11) (N := 55) hx hb hts inX11 hown hK hP 0 rfl rfl 12 (by decide) (hts _ mw_1171) (fun _ h9 => h9) rfl dX11_isLawfulTo_28 ?_
      refine lv_bipush (v := 40) hx hb dX11_isLawfulTo_31 (by decide) ?_
      refine lv_iload_n hx hb dX11_isLawfulTo_33 rfl (lv_at hl 1 rfl) ?_
      refine lv_imul hx hb dX11_isLawfulTo_34 ?_
      refine zz_i (v := nI (40 * f)) (pk_mul 40 f) ?_
      refine z_iald hx hb hK hP 3 0 rfl rfl (e := 40 * f) rfl (by omega) (by omega) dX11_isLawfulTo_35 ?_
      refine lv_aload_n hx hb dX11_isLawfulTo_36 rfl (lv_at hl 0 rfl) ?_
      refine va_get (D := (dC, dI)) (ci := 9) (v := .ref (a 13)) (C := RX11) (T := TX11) (N := 55) hx hb hts inX11 hown hK hP 0 rfl rfl 13 (by decide) (hts _ mw_1172) (fun _ h9 => h9) rfl dX11_isLawfulTo_37 ?_
      refine lv_bipush (v := 40) hx hb dX11_isLawfulTo_40 (by decide) ?_
      refine lv_iload_n hx hb dX11_isLawfulTo_42 rfl (lv_at hl 1 rfl) ?_
      refine lv_imul hx hb dX11_isLawfulTo_43 ?_
      refine zz_i (v := nI (40 * f)) (pk_mul 40 f) ?_
      refine z_iald hx hb hK hP 4 0 rfl rfl (e := 40 * f) rfl (by omega) (by omega) dX11_isLawfulTo_44 ?_
      have hPc := hP.sub (ws' := [(om k0 a I0 J0), (oa (a 1) cI 201 kd), (oa (a 11) cI 201 mn), (oa (a 12) cI 8040 cx), (oa (a 13) cI 8040 cy), (oa (a 32) cI 8 q_1)]) [0, 1, 2, 3, 4, 5] rfl
      have hDc := hD.sub (ws' := [(om k0 a I0 J0), (oa (a 1) cI 201 kd), (oa (a 11) cI 201 mn), (oa (a 12) cI 8040 cx), (oa (a 13) cI 8040 cy), (oa (a 32) cI 8 q_1)]) [0, 1, 2, 3, 4, 5] (by decide) rfl
      have hFc := va_free (wc := [(om k0 a I0 J0), (oa (a 1) cI 201 kd), (oa (a 11) cI 201 mn), (oa (a 12) cI 8040 cx), (oa (a 13) cI 8040 cy), (oa (a 32) cI 8 q_1)]) hD hS hA [0, 1, 2, 3, 4, 5] rfl
      refine zcall (st1 := [.int (pI (¬ (∃ i, i < eO (kd g).toInt m2 ∧ eOn m2 (cF40 cx g) (cF40 cy g) i (cx (40 * f)).toInt (cy (40 * f)).toInt) ∧ par2 (eTg m2 (cF40 cx g) (cF40 cy g) (cx (40 * f)).toInt (cy (40 * f)).toInt) (eO (kd g).toInt m2)))]) (va_runV (As := [.int (nI g), .int (cx (40 * f)), .int (cy (40 * f))]) (rest := []) ⟨hx, hb, hml, hown, hts⟩ (k_M_isInside l dC dI cI cZ cF H.size k0 a I0 J0 g m2 kd mn cx cy q_1 (cx (40 * f)) (cy (40 * f)) (by omega) (by assumption) (by omega) (by assumption) ((hp_f 0 (by omega)).1) ((hp_f 0 (by omega)).2)) (cwV 3 hts (zz_gV mw_1471 mw_1473 mw_62 mw_110 mc_yX11_isInside) rfl rfl rfl (by decide +kernel) ⟨Nat.le_of_ble_eq_true rfl, Nat.le_of_ble_eq_true rfl⟩) (zPV2 (q0 := 0) (ci := 9) hPc hDc hK hXN rfl rfl) rfl rfl hl.1 rfl (lv_room (Nat.le_of_ble_eq_true rfl)) dX11_isLawfulTo_45 ⟨Nat.le_of_ble_eq_true rfl, Nat.le_of_ble_eq_true rfl⟩) hS hFc hFc rfl (fun t H1 locs ht hB hk1 hS => ?_)
      obtain ⟨q_15, hP1, hD1⟩ := hB
      rw [ht] at hP1
      obtain ⟨hP, hD⟩ := va_join (wr := [(oa (a 40) cI 6 T0), (oa (a 29) cI 42 P0), (oa (a 30) cI 42 Q0), (oa (a 33) cI 42 ox), (oa (a 34) cI 42 oy), (oa (a 37) cZ 201 mt), (oa (a 38) cZ 201 wi), (oa (a 39) cZ 8040 ins)]) (w1 := [(om k0 a I0 J0), (oa (a 1) cI 201 kd), (oa (a 11) cI 201 mn), (oa (a 12) cI 8040 cx), (oa (a 13) cI 8040 cy), (oa (a 32) cI 8 q_15)]) hP hD [0, 1, 2, 3, 4, 5] [6, 7, 8, 9, 10, 11, 12, 13] rfl rfl (by decide) (by decide) hk1 hFc hP1 hD1
      clear hk1 hPc hDc hFc hP1 hD1 ht
      generalize H1 = H at hP hS ⊢
      have hP := hP.sub (ws' := [(om k0 a I0 J0), (oa (a 1) cI 201 kd), (oa (a 11) cI 201 mn), (oa (a 12) cI 8040 cx), (oa (a 13) cI 8040 cy), (oa (a 32) cI 8 q_15), (oa (a 40) cI 6 T0), (oa (a 29) cI 42 P0), (oa (a 30) cI 42 Q0), (oa (a 33) cI 42 ox), (oa (a 34) cI 42 oy), (oa (a 37) cZ 201 mt), (oa (a 38) cZ 201 wi), (oa (a 39) cZ 8040 ins)]) [8, 9, 10, 11, 12, 13, 0, 1, 2, 3, 4, 5, 6, 7] rfl
      have hD := hD.sub (ws' := [(om k0 a I0 J0), (oa (a 1) cI 201 kd), (oa (a 11) cI 201 mn), (oa (a 12) cI 8040 cx), (oa (a 13) cI 8040 cy), (oa (a 32) cI 8 q_15), (oa (a 40) cI 6 T0), (oa (a 29) cI 42 P0), (oa (a 30) cI 42 Q0), (oa (a 33) cI 42 ox), (oa (a 34) cI 42 oy), (oa (a 37) cZ 201 mt), (oa (a 38) cZ 201 wi), (oa (a 39) cZ 8040 ins)]) [8, 9, 10, 11, 12, 13, 0, 1, 2, 3, 4, 5, 6, 7] (by decide) rfl
      have hP : va_P (dC, dI) classes [(om k0 a I0 J0), (oa (a 1) cI 201 kd), (oa (a 11) cI 201 mn), (oa (a 12) cI 8040 cx), (oa (a 13) cI 8040 cy), (oa (a 32) cI 8 q_15), (oa (a 40) cI 6 T0), (oa (a 29) cI 42 P0), (oa (a 30) cI 42 Q0), (oa (a 33) cI 42 ox), (oa (a 34) cI 42 oy), (oa (a 37) cZ 201 mt), (oa (a 38) cZ 201 wi), (oa (a 39) cZ 8040 ins)] H := hP
      have hD : va_D A [(om k0 a I0 J0), (oa (a 1) cI 201 kd), (oa (a 11) cI 201 mn), (oa (a 12) cI 8040 cx), (oa (a 13) cI 8040 cy), (oa (a 32) cI 8 q_15), (oa (a 40) cI 6 T0), (oa (a 29) cI 42 P0), (oa (a 30) cI 42 Q0), (oa (a 33) cI 42 ox), (oa (a 34) cI 42 oy), (oa (a 37) cZ 201 mt), (oa (a 38) cZ 201 wi), (oa (a 39) cZ 8040 ins)] := hD
      refine zz_i (v := pI (inF (kd g).toInt m2 (cF40 cx g) (cF40 cy g) (cF40 cx f 0).toInt (cF40 cy f 0).toInt)) (rfl) ?_
      refine lv_aload_n hx hb dX11_isLawfulTo_48 rfl (lv_at hl 0 rfl) ?_
      refine va_get (D := (dC, dI)) (ci := 9) (v := .ref (a 38)) (C := RX11) (T := TX11) (N := 55) hx hb hts inX11 hown hK hP 0 rfl rfl 38 (by decide) (hts _ mw_1197) (fun _ h9 => h9) rfl dX11_isLawfulTo_49 ?_
      refine lv_iload_n hx hb dX11_isLawfulTo_52 rfl (lv_at hl 2 rfl) ?_
      refine z_zald hx hb hK hP 12 1 rfl rfl (e := g) rfl (by omega) (by omega) dX11_isLawfulTo_53 ?_
      refine zz_i (v := pI WI) (hwi (by omega)) ?_
      refine lv_icmp_eq (tgt := 59) hx hb dX11_isLawfulTo_54 (by decide) (fun c_16 => ?_) (fun c_16 => ?_)
      · have c_16 : (pI (inF (kd g).toInt m2 (cF40 cx g) (cF40 cy g) (cF40 cx f 0).toInt (cF40 cy f 0).toInt)).toInt = (pI WI).toInt := zc_eq rfl rfl c_16
        refine lv_iconst (v := 0) hx hb dX11_isLawfulTo_59 (by decide) ?_
        refine lv_istore (lv' := [(5, .int 0), (0, .ref k0), (1, .int (nI f)), (2, .int (nI g)), (3, .int 5), (4, .int (-1))]) hx hb dX11_isLawfulTo_60 hl (by decide) rfl (fun ls hl => ?_)
        have hl_62 : ∀ (n9 : Nat) (k : Nat) (z9 : Int32) (S1 : Nat → Int32) (T1 : Nat → Int32) (P1 : Nat → Int32) (Q1 : Nat → Int32) (H : Heap) (locs : List Loc) (ls : Array Slot), m2 - k < n9 → (k ≤ m2) → (∀ j, j < k → (5 ≤ (kd f).toInt → (inF (kd f).toInt n (cF40 cx f) (cF40 cy f) (cF40 cx g j).toInt (cF40 cy g j).toInt ↔ IN j)) ∧ (¬ (kd f).toInt = 0 → ¬ (fun _ => False) j)) → va_P (dC, dI) classes [(om k0 a (upd I0 31 z9) J0), (oa (a 1) cI 201 kd), (oa (a 11) cI 201 mn), (oa (a 12) cI 8040 cx), (oa (a 13) cI 8040 cy), (oa (a 32) cI 8 S1), (oa (a 40) cI 6 T1), (oa (a 29) cI 42 P1), (oa (a 30) cI 42 Q1), (oa (a 33) cI 42 ox), (oa (a 34) cI 42 oy), (oa (a 37) cZ 201 mt), (oa (a 38) cZ 201 wi), (oa (a 39) cZ 8040 ins)] H → va_D A [(om k0 a (upd I0 31 z9) J0), (oa (a 1) cI 201 kd), (oa (a 11) cI 201 mn), (oa (a 12) cI 8040 cx), (oa (a 13) cI 8040 cy), (oa (a 32) cI 8 S1), (oa (a 40) cI 6 T1), (oa (a 29) cI 42 P1), (oa (a 30) cI 42 Q1), (oa (a 33) cI 42 ox), (oa (a 34) cI 42 oy), (oa (a 37) cZ 201 mt), (oa (a 38) cZ 201 wi), (oa (a 39) cZ 8040 ins)] → va_S A s.heap H locs → lv_has ls 8 [(5, .int (nI k)), (0, .ref k0), (1, .int (nI f)), (2, .int (nI g)), (3, .int 5), (4, .int (-1))] → W p l e ((headSpec (.code yX11_isLawfulTo cX11_isLawfulTo 8 (some .boolean) :: ws0) ({ frames := 4, cells := 0, slots := 0, locals := 108 } : Room)).room) s m ([.ref k0, .int (nI f), .int (nI g), .int 5, .int (-1)] : List Value).toArray below meth c H locs 0 0 Q9 (F0 m 62 ls []) := by
          intro n9
          induction n9 with
          | zero => intro k z9 S1 T1 P1 Q1 H locs ls hm; exact absurd hm (Nat.not_lt_zero _)
          | succ n9 ih_62 =>
            intro k z9 S1 T1 P1 Q1 H locs ls hm hk hall hP hD hS hl
            refine lv_iload hx hb dX11_isLawfulTo_62 (lv_at hl 0 rfl) ?_
            refine lv_aload_n hx hb dX11_isLawfulTo_64 rfl (lv_at hl 1 rfl) ?_
            refine va_get (D := (dC, dI)) (ci := 9) (v := .ref (a 11)) (C := RX11) (T := TX11) (N := 55) hx hb hts inX11 hown hK hP 0 rfl rfl 11 (by decide) (hts _ mw_1170) (fun _ h9 => h9) rfl dX11_isLawfulTo_65 ?_
            refine lv_iload_n hx hb dX11_isLawfulTo_68 rfl (lv_at hl 3 rfl) ?_
            refine z_iald hx hb hK hP 2 0 rfl rfl (e := g) rfl (by omega) (by omega) dX11_isLawfulTo_69 ?_
            refine zz_i (v := nI m2) (hm_g) ?_
            refine lv_icmp_ge (tgt := 191) hx hb dX11_isLawfulTo_70 (by decide) (fun c_17 => ?_) (fun c_17 => ?_)
            · have c_17 : ((m2 : Nat) : Int) ≤ ((k : Nat) : Int) := zc_le (nI_toInt (by omega)) (nI_toInt (by omega)) c_17
              refine lv_aload_n hx hb dX11_isLawfulTo_191 rfl (lv_at hl 1 rfl) ?_
              refine va_get (D := (dC, dI)) (ci := 9) (v := .ref (a 1)) (C := RX11) (T := TX11) (N := 55) hx hb hts inX11 hown hK hP 0 rfl rfl 1 (by decide) (hts _ mw_1160) (fun _ h9 => h9) rfl dX11_isLawfulTo_192 ?_
              refine lv_iload_n hx hb dX11_isLawfulTo_195 rfl (lv_at hl 2 rfl) ?_
              refine z_iald hx hb hK hP 1 0 rfl rfl (e := f) rfl (by omega) (by omega) dX11_isLawfulTo_196 ?_
              refine lv_if_ne (tgt := 209) hx hb dX11_isLawfulTo_197 (by decide) (fun c_18 => ?_) (fun c_18 => ?_)
              · have c_18 : ¬ (kd f).toInt = 0 := zc_ne rfl (by decide) c_18
                refine lv_iconst (v := 1) hx hb dX11_isLawfulTo_209 (by decide) ?_
                refine lv_goto (tgt := 214) hx hb dX11_isLawfulTo_210 (by decide) ?_
                have hP9 := hP.sub (ws' := [(om k0 a (upd I0 31 z9) J0), (oa (a 1) cI 201 kd), (oa (a 11) cI 201 mn), (oa (a 12) cI 8040 cx), (oa (a 13) cI 8040 cy), (oa (a 32) cI 8 S1), (oa (a 40) cI 6 T1), (oa (a 29) cI 42 P1), (oa (a 30) cI 42 Q1), (oa (a 33) cI 42 ox), (oa (a 34) cI 42 oy), (oa (a 37) cZ 201 mt), (oa (a 38) cZ 201 wi), (oa (a 39) cZ 8040 ins)]) [0, 1, 2, 3, 4, 5, 6, 7, 8, 9, 10, 11, 12, 13] rfl
                have hD9 := hD.sub (ws' := [(om k0 a (upd I0 31 z9) J0), (oa (a 1) cI 201 kd), (oa (a 11) cI 201 mn), (oa (a 12) cI 8040 cx), (oa (a 13) cI 8040 cy), (oa (a 32) cI 8 S1), (oa (a 40) cI 6 T1), (oa (a 29) cI 42 P1), (oa (a 30) cI 42 Q1), (oa (a 33) cI 42 ox), (oa (a 34) cI 42 oy), (oa (a 37) cZ 201 mt), (oa (a 38) cZ 201 wi), (oa (a 39) cZ 8040 ins)]) [0, 1, 2, 3, 4, 5, 6, 7, 8, 9, 10, 11, 12, 13] (by decide) rfl
                rw [hQ9]
                exact W.zret (ty := .boolean) (v := 1) hx hb hr (rfl) (fun t ht hW => ⟨⟨congrArg (fun z => Outcome.returned (some (Value.int z))) (show (1 : Int32) = pI (lawTo (ox 0) (oy 0) (kd f).toInt n (cF40 cx f) (cF40 cy f) (kd g).toInt m2 (cF40 cx g) (cF40 cy g) MT WI IN (fun _ => False)) from (zp_t (by first | exact ⟨zp_ieq.mp (by assumption), fun h => (by first | (exfalso; omega) | exact zp_ieq.mp (by assumption)), fun j hj => hall j (by omega), fun h => (by first | (exfalso; omega) | assumption)⟩ | exact fun h => absurd (h.2.2.2 (by omega)) (by assumption))).symm), z9, S1, T1, P1, Q1, by rw [ht]; exact hP9, hD9⟩, hS.F ht⟩) hS.2.2 dX11_isLawfulTo_214
              · have c_18 : (kd f).toInt = 0 := zc_eq rfl (by decide) c_18
                refine lv_aload_n hx hb dX11_isLawfulTo_200 rfl (lv_at hl 1 rfl) ?_
                refine lv_iload_n hx hb dX11_isLawfulTo_201 rfl (lv_at hl 2 rfl) ?_
                refine lv_iload_n hx hb dX11_isLawfulTo_202 rfl (lv_at hl 3 rfl) ?_
                have hPc := hP.sub (ws' := [(om k0 a (upd I0 31 z9) J0), (oa (a 1) cI 201 kd), (oa (a 11) cI 201 mn), (oa (a 12) cI 8040 cx), (oa (a 13) cI 8040 cy), (oa (a 32) cI 8 S1), (oa (a 33) cI 42 ox), (oa (a 34) cI 42 oy)]) [0, 1, 2, 3, 4, 5, 9, 10] rfl
                have hDc := hD.sub (ws' := [(om k0 a (upd I0 31 z9) J0), (oa (a 1) cI 201 kd), (oa (a 11) cI 201 mn), (oa (a 12) cI 8040 cx), (oa (a 13) cI 8040 cy), (oa (a 32) cI 8 S1), (oa (a 33) cI 42 ox), (oa (a 34) cI 42 oy)]) [0, 1, 2, 3, 4, 5, 9, 10] (by decide) rfl
                have hFc := va_free (wc := [(om k0 a (upd I0 31 z9) J0), (oa (a 1) cI 201 kd), (oa (a 11) cI 201 mn), (oa (a 12) cI 8040 cx), (oa (a 13) cI 8040 cy), (oa (a 32) cI 8 S1), (oa (a 33) cI 42 ox), (oa (a 34) cI 42 oy)]) hD hS hA [0, 1, 2, 3, 4, 5, 9, 10] rfl
                refine zcall (st1 := [.int (pI (∀ k, k < eO (kd g).toInt m2 → fWy (ox 0).toInt (oy 0).toInt (cx (40 * f)).toInt (cy (40 * f)).toInt m2 (cF40 cx g) (cF40 cy g) k))]) (va_runV (As := [.int (nI f), .int (nI g)]) (rest := []) ⟨hx, hb, hml, hown, hts⟩ (k_M_isFreeWay l dC dI cI cZ cF H.size k0 a (upd I0 31 z9) J0 f g m2 kd mn cx cy S1 ox oy (by omega) ((hpo 0 (by omega)).1) ((hpo 0 (by omega)).2) ((hp_f 0 (by omega)).1) ((hp_f 0 (by omega)).2) (by omega) (by assumption) (by omega) (by assumption)) (cwV 2 hts (zz_gV mw_1506 mw_1508 mw_70 mw_110 mc_yX11_isFreeWay) rfl rfl rfl (by decide +kernel) ⟨Nat.le_of_ble_eq_true rfl, Nat.le_of_ble_eq_true rfl⟩) (zPV2 (q0 := 0) (ci := 9) hPc hDc hK hXN rfl rfl) rfl rfl hl.1 rfl (lv_room (Nat.le_of_ble_eq_true rfl)) dX11_isLawfulTo_203 ⟨Nat.le_of_ble_eq_true rfl, Nat.le_of_ble_eq_true rfl⟩) hS hFc hFc rfl (fun t H1 locs ht hB hk1 hS => ?_)
                obtain ⟨q_19, hP1, hD1⟩ := hB
                rw [ht] at hP1
                obtain ⟨hP, hD⟩ := va_join (wr := [(oa (a 40) cI 6 T1), (oa (a 29) cI 42 P1), (oa (a 30) cI 42 Q1), (oa (a 37) cZ 201 mt), (oa (a 38) cZ 201 wi), (oa (a 39) cZ 8040 ins)]) (w1 := [(om k0 a (upd I0 31 z9) J0), (oa (a 1) cI 201 kd), (oa (a 11) cI 201 mn), (oa (a 12) cI 8040 cx), (oa (a 13) cI 8040 cy), (oa (a 32) cI 8 q_19), (oa (a 33) cI 42 ox), (oa (a 34) cI 42 oy)]) hP hD [0, 1, 2, 3, 4, 5, 9, 10] [6, 7, 8, 11, 12, 13] rfl rfl (by decide) (by decide) hk1 hFc hP1 hD1
                clear hk1 hPc hDc hFc hP1 hD1 ht
                generalize H1 = H at hP hS ⊢
                have hP := hP.sub (ws' := [(om k0 a (upd I0 31 z9) J0), (oa (a 1) cI 201 kd), (oa (a 11) cI 201 mn), (oa (a 12) cI 8040 cx), (oa (a 13) cI 8040 cy), (oa (a 32) cI 8 q_19), (oa (a 40) cI 6 T1), (oa (a 29) cI 42 P1), (oa (a 30) cI 42 Q1), (oa (a 33) cI 42 ox), (oa (a 34) cI 42 oy), (oa (a 37) cZ 201 mt), (oa (a 38) cZ 201 wi), (oa (a 39) cZ 8040 ins)]) [6, 7, 8, 9, 10, 11, 0, 1, 2, 12, 13, 3, 4, 5] rfl
                have hD := hD.sub (ws' := [(om k0 a (upd I0 31 z9) J0), (oa (a 1) cI 201 kd), (oa (a 11) cI 201 mn), (oa (a 12) cI 8040 cx), (oa (a 13) cI 8040 cy), (oa (a 32) cI 8 q_19), (oa (a 40) cI 6 T1), (oa (a 29) cI 42 P1), (oa (a 30) cI 42 Q1), (oa (a 33) cI 42 ox), (oa (a 34) cI 42 oy), (oa (a 37) cZ 201 mt), (oa (a 38) cZ 201 wi), (oa (a 39) cZ 8040 ins)]) [6, 7, 8, 9, 10, 11, 0, 1, 2, 12, 13, 3, 4, 5] (by decide) rfl
                have hP : va_P (dC, dI) classes [(om k0 a (upd I0 31 z9) J0), (oa (a 1) cI 201 kd), (oa (a 11) cI 201 mn), (oa (a 12) cI 8040 cx), (oa (a 13) cI 8040 cy), (oa (a 32) cI 8 q_19), (oa (a 40) cI 6 T1), (oa (a 29) cI 42 P1), (oa (a 30) cI 42 Q1), (oa (a 33) cI 42 ox), (oa (a 34) cI 42 oy), (oa (a 37) cZ 201 mt), (oa (a 38) cZ 201 wi), (oa (a 39) cZ 8040 ins)] H := hP
                have hD : va_D A [(om k0 a (upd I0 31 z9) J0), (oa (a 1) cI 201 kd), (oa (a 11) cI 201 mn), (oa (a 12) cI 8040 cx), (oa (a 13) cI 8040 cy), (oa (a 32) cI 8 q_19), (oa (a 40) cI 6 T1), (oa (a 29) cI 42 P1), (oa (a 30) cI 42 Q1), (oa (a 33) cI 42 ox), (oa (a 34) cI 42 oy), (oa (a 37) cZ 201 mt), (oa (a 38) cZ 201 wi), (oa (a 39) cZ 8040 ins)] := hD
                refine zz_i (v := pI (∀ k, k < eO (kd g).toInt m2 → fWy (ox 0).toInt (oy 0).toInt (cF40 cx f 0).toInt (cF40 cy f 0).toInt m2 (cF40 cx g) (cF40 cy g) k)) (rfl) ?_
                refine lv_if_eq (tgt := 213) hx hb dX11_isLawfulTo_206 (by decide) (fun c_20 => ?_) (fun c_20 => ?_)
                · have c_20 : ¬ (∀ k, k < eO (kd g).toInt m2 → fWy (ox 0).toInt (oy 0).toInt (cF40 cx f 0).toInt (cF40 cy f 0).toInt m2 (cF40 cx g) (cF40 cy g) k) := zp_0 c_20
                  refine lv_iconst (v := 0) hx hb dX11_isLawfulTo_213 (by decide) ?_
                  have hP9 := hP.sub (ws' := [(om k0 a (upd I0 31 z9) J0), (oa (a 1) cI 201 kd), (oa (a 11) cI 201 mn), (oa (a 12) cI 8040 cx), (oa (a 13) cI 8040 cy), (oa (a 32) cI 8 q_19), (oa (a 40) cI 6 T1), (oa (a 29) cI 42 P1), (oa (a 30) cI 42 Q1), (oa (a 33) cI 42 ox), (oa (a 34) cI 42 oy), (oa (a 37) cZ 201 mt), (oa (a 38) cZ 201 wi), (oa (a 39) cZ 8040 ins)]) [0, 1, 2, 3, 4, 5, 6, 7, 8, 9, 10, 11, 12, 13] rfl
                  have hD9 := hD.sub (ws' := [(om k0 a (upd I0 31 z9) J0), (oa (a 1) cI 201 kd), (oa (a 11) cI 201 mn), (oa (a 12) cI 8040 cx), (oa (a 13) cI 8040 cy), (oa (a 32) cI 8 q_19), (oa (a 40) cI 6 T1), (oa (a 29) cI 42 P1), (oa (a 30) cI 42 Q1), (oa (a 33) cI 42 ox), (oa (a 34) cI 42 oy), (oa (a 37) cZ 201 mt), (oa (a 38) cZ 201 wi), (oa (a 39) cZ 8040 ins)]) [0, 1, 2, 3, 4, 5, 6, 7, 8, 9, 10, 11, 12, 13] (by decide) rfl
                  rw [hQ9]
                  exact W.zret (ty := .boolean) (v := 0) hx hb hr (rfl) (fun t ht hW => ⟨⟨congrArg (fun z => Outcome.returned (some (Value.int z))) (show (0 : Int32) = pI (lawTo (ox 0) (oy 0) (kd f).toInt n (cF40 cx f) (cF40 cy f) (kd g).toInt m2 (cF40 cx g) (cF40 cy g) MT WI IN (fun _ => False)) from (zp_f (by first | exact ⟨zp_ieq.mp (by assumption), fun h => (by first | (exfalso; omega) | exact zp_ieq.mp (by assumption)), fun j hj => hall j (by omega), fun h => (by first | (exfalso; omega) | assumption)⟩ | exact fun h => absurd (h.2.2.2 (by omega)) (by assumption))).symm), z9, q_19, T1, P1, Q1, by rw [ht]; exact hP9, hD9⟩, hS.F ht⟩) hS.2.2 dX11_isLawfulTo_214
                · have c_20 : ∀ k, k < eO (kd g).toInt m2 → fWy (ox 0).toInt (oy 0).toInt (cF40 cx f 0).toInt (cF40 cy f 0).toInt m2 (cF40 cx g) (cF40 cy g) k := zp_1 c_20
                  refine lv_iconst (v := 1) hx hb dX11_isLawfulTo_209 (by decide) ?_
                  refine lv_goto (tgt := 214) hx hb dX11_isLawfulTo_210 (by decide) ?_
                  have hP9 := hP.sub (ws' := [(om k0 a (upd I0 31 z9) J0), (oa (a 1) cI 201 kd), (oa (a 11) cI 201 mn), (oa (a 12) cI 8040 cx), (oa (a 13) cI 8040 cy), (oa (a 32) cI 8 q_19), (oa (a 40) cI 6 T1), (oa (a 29) cI 42 P1), (oa (a 30) cI 42 Q1), (oa (a 33) cI 42 ox), (oa (a 34) cI 42 oy), (oa (a 37) cZ 201 mt), (oa (a 38) cZ 201 wi), (oa (a 39) cZ 8040 ins)]) [0, 1, 2, 3, 4, 5, 6, 7, 8, 9, 10, 11, 12, 13] rfl
                  have hD9 := hD.sub (ws' := [(om k0 a (upd I0 31 z9) J0), (oa (a 1) cI 201 kd), (oa (a 11) cI 201 mn), (oa (a 12) cI 8040 cx), (oa (a 13) cI 8040 cy), (oa (a 32) cI 8 q_19), (oa (a 40) cI 6 T1), (oa (a 29) cI 42 P1), (oa (a 30) cI 42 Q1), (oa (a 33) cI 42 ox), (oa (a 34) cI 42 oy), (oa (a 37) cZ 201 mt), (oa (a 38) cZ 201 wi), (oa (a 39) cZ 8040 ins)]) [0, 1, 2, 3, 4, 5, 6, 7, 8, 9, 10, 11, 12, 13] (by decide) rfl
                  rw [hQ9]
                  exact W.zret (ty := .boolean) (v := 1) hx hb hr (rfl) (fun t ht hW => ⟨⟨congrArg (fun z => Outcome.returned (some (Value.int z))) (show (1 : Int32) = pI (lawTo (ox 0) (oy 0) (kd f).toInt n (cF40 cx f) (cF40 cy f) (kd g).toInt m2 (cF40 cx g) (cF40 cy g) MT WI IN (fun _ => False)) from (zp_t (by first | exact ⟨zp_ieq.mp (by assumption), fun h => (by first | (exfalso; omega) | exact zp_ieq.mp (by assumption)), fun j hj => hall j (by omega), fun h => (by first | (exfalso; omega) | assumption)⟩ | exact fun h => absurd (h.2.2.2 (by omega)) (by assumption))).symm), z9, q_19, T1, P1, Q1, by rw [ht]; exact hP9, hD9⟩, hS.F ht⟩) hS.2.2 dX11_isLawfulTo_214
            · have c_17 : ((k : Nat) : Int) < ((m2 : Nat) : Int) := zc_nle (nI_toInt (by omega)) (nI_toInt (by omega)) c_17
              have hk9 : k < m2 := (by omega)
              refine lv_aload_n hx hb dX11_isLawfulTo_73 rfl (lv_at hl 1 rfl) ?_
              refine va_get (D := (dC, dI)) (ci := 9) (v := .ref (a 12)) (C := RX11) (T := TX11) (N := 55) hx hb hts inX11 hown hK hP 0 rfl rfl 12 (by decide) (hts _ mw_1171) (fun _ h9 => h9) rfl dX11_isLawfulTo_74 ?_
              refine lv_bipush (v := 40) hx hb dX11_isLawfulTo_77 (by decide) ?_
              refine lv_iload_n hx hb dX11_isLawfulTo_79 rfl (lv_at hl 3 rfl) ?_
              refine lv_imul hx hb dX11_isLawfulTo_80 ?_
              refine zz_i (v := nI (40 * g)) (pk_mul 40 g) ?_
              refine lv_iload hx hb dX11_isLawfulTo_81 (lv_at hl 0 rfl) ?_
              refine lv_iadd hx hb dX11_isLawfulTo_83 ?_
              refine zz_i (v := nI (40 * g + k)) (nI_add (40 * g) k) ?_
              refine z_iald hx hb hK hP 3 0 rfl rfl (e := 40 * g + k) rfl (by omega) (by omega) dX11_isLawfulTo_84 ?_
              refine lv_istore (lv' := [(6, .int (cx (40 * g + k))), (5, .int (nI k)), (0, .ref k0), (1, .int (nI f)), (2, .int (nI g)), (3, .int 5), (4, .int (-1))]) hx hb dX11_isLawfulTo_85 hl (by decide) rfl (fun ls hl => ?_)
              refine lv_aload_n hx hb dX11_isLawfulTo_87 rfl (lv_at hl 2 rfl) ?_
              refine va_get (D := (dC, dI)) (ci := 9) (v := .ref (a 13)) (C := RX11) (T := TX11) (N := 55) hx hb hts inX11 hown hK hP 0 rfl rfl 13 (by decide) (hts _ mw_1172) (fun _ h9 => h9) rfl dX11_isLawfulTo_88 ?_
              refine lv_bipush (v := 40) hx hb dX11_isLawfulTo_91 (by decide) ?_
              refine lv_iload_n hx hb dX11_isLawfulTo_93 rfl (lv_at hl 4 rfl) ?_
              refine lv_imul hx hb dX11_isLawfulTo_94 ?_
              refine zz_i (v := nI (40 * g)) (pk_mul 40 g) ?_
              refine lv_iload hx hb dX11_isLawfulTo_95 (lv_at hl 1 rfl) ?_
              refine lv_iadd hx hb dX11_isLawfulTo_97 ?_
              refine zz_i (v := nI (40 * g + k)) (nI_add (40 * g) k) ?_
              refine z_iald hx hb hK hP 4 0 rfl rfl (e := 40 * g + k) rfl (by omega) (by omega) dX11_isLawfulTo_98 ?_
              refine lv_istore (lv' := [(7, .int (cy (40 * g + k))), (6, .int (cx (40 * g + k))), (5, .int (nI k)), (0, .ref k0), (1, .int (nI f)), (2, .int (nI g)), (3, .int 5), (4, .int (-1))]) hx hb dX11_isLawfulTo_99 hl (by decide) rfl (fun ls hl => ?_)
              refine lv_aload_n hx hb dX11_isLawfulTo_101 rfl (lv_at hl 3 rfl) ?_
              refine lv_iload_n hx hb dX11_isLawfulTo_102 rfl (lv_at hl 4 rfl) ?_
              have hPc := hP.sub (ws' := [(om k0 a (upd I0 31 z9) J0), (oa (a 1) cI 201 kd)]) [0, 1] rfl
              have hDc := hD.sub (ws' := [(om k0 a (upd I0 31 z9) J0), (oa (a 1) cI 201 kd)]) [0, 1] (by decide) rfl
              have hFc := va_free (wc := [(om k0 a (upd I0 31 z9) J0), (oa (a 1) cI 201 kd)]) hD hS hA [0, 1] rfl
              refine zcall (st1 := [.int (pI (5 ≤ (kd f).toInt))]) (va_runV (As := [.int (nI f)]) (rest := []) ⟨hx, hb, hml, hown, hts⟩ (k_M_isRing l dC dI cI cZ cF H.size k0 a (upd I0 31 z9) J0 f kd (by omega)) (cwV 1 hts (zz_gV mw_1365 mw_1367 mw_40 mw_110 mc_yX11_isRing) rfl rfl rfl (by decide +kernel) ⟨Nat.le_of_ble_eq_true rfl, Nat.le_of_ble_eq_true rfl⟩) (zPV2 (q0 := 0) (ci := 9) hPc hDc hK hXN rfl rfl) rfl rfl hl.1 rfl (lv_room (Nat.le_of_ble_eq_true rfl)) dX11_isLawfulTo_103 ⟨Nat.le_of_ble_eq_true rfl, Nat.le_of_ble_eq_true rfl⟩) hS hFc hFc rfl (fun t H1 locs ht hB hk1 hS => ?_)
              obtain ⟨hP1, hD1⟩ := hB
              rw [ht] at hP1
              obtain ⟨hP, hD⟩ := va_join (wr := [(oa (a 11) cI 201 mn), (oa (a 12) cI 8040 cx), (oa (a 13) cI 8040 cy), (oa (a 32) cI 8 S1), (oa (a 40) cI 6 T1), (oa (a 29) cI 42 P1), (oa (a 30) cI 42 Q1), (oa (a 33) cI 42 ox), (oa (a 34) cI 42 oy), (oa (a 37) cZ 201 mt), (oa (a 38) cZ 201 wi), (oa (a 39) cZ 8040 ins)]) (w1 := [(om k0 a (upd I0 31 z9) J0), (oa (a 1) cI 201 kd)]) hP hD [0, 1] [2, 3, 4, 5, 6, 7, 8, 9, 10, 11, 12, 13] rfl rfl (by decide) (by decide) hk1 hFc hP1 hD1
              clear hk1 hPc hDc hFc hP1 hD1 ht
              generalize H1 = H at hP hS ⊢
              have hP := hP.sub (ws' := [(om k0 a (upd I0 31 z9) J0), (oa (a 1) cI 201 kd), (oa (a 11) cI 201 mn), (oa (a 12) cI 8040 cx), (oa (a 13) cI 8040 cy), (oa (a 32) cI 8 S1), (oa (a 40) cI 6 T1), (oa (a 29) cI 42 P1), (oa (a 30) cI 42 Q1), (oa (a 33) cI 42 ox), (oa (a 34) cI 42 oy), (oa (a 37) cZ 201 mt), (oa (a 38) cZ 201 wi), (oa (a 39) cZ 8040 ins)]) [12, 13, 0, 1, 2, 3, 4, 5, 6, 7, 8, 9, 10, 11] rfl
              have hD := hD.sub (ws' := [(om k0 a (upd I0 31 z9) J0), (oa (a 1) cI 201 kd), (oa (a 11) cI 201 mn), (oa (a 12) cI 8040 cx), (oa (a 13) cI 8040 cy), (oa (a 32) cI 8 S1), (oa (a 40) cI 6 T1), (oa (a 29) cI 42 P1), (oa (a 30) cI 42 Q1), (oa (a 33) cI 42 ox), (oa (a 34) cI 42 oy), (oa (a 37) cZ 201 mt), (oa (a 38) cZ 201 wi), (oa (a 39) cZ 8040 ins)]) [12, 13, 0, 1, 2, 3, 4, 5, 6, 7, 8, 9, 10, 11] (by decide) rfl
              have hP : va_P (dC, dI) classes [(om k0 a (upd I0 31 z9) J0), (oa (a 1) cI 201 kd), (oa (a 11) cI 201 mn), (oa (a 12) cI 8040 cx), (oa (a 13) cI 8040 cy), (oa (a 32) cI 8 S1), (oa (a 40) cI 6 T1), (oa (a 29) cI 42 P1), (oa (a 30) cI 42 Q1), (oa (a 33) cI 42 ox), (oa (a 34) cI 42 oy), (oa (a 37) cZ 201 mt), (oa (a 38) cZ 201 wi), (oa (a 39) cZ 8040 ins)] H := hP
              have hD : va_D A [(om k0 a (upd I0 31 z9) J0), (oa (a 1) cI 201 kd), (oa (a 11) cI 201 mn), (oa (a 12) cI 8040 cx), (oa (a 13) cI 8040 cy), (oa (a 32) cI 8 S1), (oa (a 40) cI 6 T1), (oa (a 29) cI 42 P1), (oa (a 30) cI 42 Q1), (oa (a 33) cI 42 ox), (oa (a 34) cI 42 oy), (oa (a 37) cZ 201 mt), (oa (a 38) cZ 201 wi), (oa (a 39) cZ 8040 ins)] := hD
              refine lv_if_eq (tgt := 135) hx hb dX11_isLawfulTo_106 (by decide) (fun c_21 => ?_) (fun c_21 => ?_)
              · have c_21 : ¬ (5 ≤ (kd f).toInt) := zp_0 c_21
                refine lv_aload_n hx hb dX11_isLawfulTo_135 rfl (lv_at hl 3 rfl) ?_
                refine va_get (D := (dC, dI)) (ci := 9) (v := .ref (a 1)) (C := RX11) (T := TX11) (N := 55) hx hb hts inX11 hown hK hP 0 rfl rfl 1 (by decide) (hts _ mw_1160) (fun _ h9 => h9) rfl dX11_isLawfulTo_136 ?_
                refine lv_iload_n hx hb dX11_isLawfulTo_139 rfl (lv_at hl 4 rfl) ?_
                refine z_iald hx hb hK hP 1 0 rfl rfl (e := f) rfl (by omega) (by omega) dX11_isLawfulTo_140 ?_
                refine lv_if_eq (tgt := 185) hx hb dX11_isLawfulTo_141 (by decide) (fun c_22 => ?_) (fun c_22 => ?_)
                · have c_22 : (kd f).toInt = 0 := zc_eq rfl (by decide) c_22
                  refine lv_iinc (v := nI (k + 1)) (lv' := [(5, .int (nI (k + 1))), (7, .int (cy (40 * g + k))), (6, .int (cx (40 * g + k))), (0, .ref k0), (1, .int (nI f)), (2, .int (nI g)), (3, .int 5), (4, .int (-1))]) hx hb dX11_isLawfulTo_185 hl (k := 2) rfl (nI_add k 1) (by decide) rfl (fun ls hl => ?_)
                  refine lv_goto (tgt := 62) hx hb dX11_isLawfulTo_188 (by decide) ?_
                  exact ih_62 (k + 1) z9 S1 T1 P1 Q1 H locs ls (by omega) (by omega) (by intro j hj; rcases Nat.lt_or_ge j k with h | h; exact hall j h; obtain rfl : j = k := (by omega); exact ⟨fun h5 => (by first | (exfalso; omega) | exact zp_ieq.mp (by assumption)), fun h0 => (by first | (exfalso; omega) | exact id | assumption)⟩) hP hD hS (lv_sub hl [0, 3, 4, 5, 6, 7] rfl)
                · have c_22 : ¬ (kd f).toInt = 0 := zc_ne rfl (by decide) c_22
                  refine lv_iload_n hx hb dX11_isLawfulTo_144 rfl (lv_at hl 6 rfl) ?_
                  refine lv_iconst (v := 5) hx hb dX11_isLawfulTo_145 (by decide) ?_
                  refine lv_icmp_eq (tgt := 185) hx hb dX11_isLawfulTo_146 (by decide) (fun c_23 => ?_) (fun c_23 => ?_)
                  · refine lv_iinc (v := nI (k + 1)) (lv' := [(5, .int (nI (k + 1))), (7, .int (cy (40 * g + k))), (6, .int (cx (40 * g + k))), (0, .ref k0), (1, .int (nI f)), (2, .int (nI g)), (3, .int 5), (4, .int (-1))]) hx hb dX11_isLawfulTo_185 hl (k := 2) rfl (nI_add k 1) (by decide) rfl (fun ls hl => ?_)
                    refine lv_goto (tgt := 62) hx hb dX11_isLawfulTo_188 (by decide) ?_
                    exact ih_62 (k + 1) z9 S1 T1 P1 Q1 H locs ls (by omega) (by omega) (by intro j hj; rcases Nat.lt_or_ge j k with h | h; exact hall j h; obtain rfl : j = k := (by omega); exact ⟨fun h5 => (by first | (exfalso; omega) | exact zp_ieq.mp (by assumption)), fun h0 => (by first | (exfalso; omega) | exact id | assumption)⟩) hP hD hS (lv_sub hl [0, 3, 4, 5, 6, 7] rfl)
                  · exact absurd (by decide) c_23
              · have c_21 : 5 ≤ (kd f).toInt := zp_1 c_21
                refine lv_aload_n hx hb dX11_isLawfulTo_109 rfl (lv_at hl 3 rfl) ?_
                refine lv_iload_n hx hb dX11_isLawfulTo_110 rfl (lv_at hl 4 rfl) ?_
                refine lv_iload hx hb dX11_isLawfulTo_111 (lv_at hl 1 rfl) ?_
                refine lv_iload hx hb dX11_isLawfulTo_113 (lv_at hl 0 rfl) ?_
                have hPc := hP.sub (ws' := [(om k0 a (upd I0 31 z9) J0), (oa (a 1) cI 201 kd), (oa (a 11) cI 201 mn), (oa (a 12) cI 8040 cx), (oa (a 13) cI 8040 cy), (oa (a 32) cI 8 S1)]) [0, 1, 2, 3, 4, 5] rfl
                have hDc := hD.sub (ws' := [(om k0 a (upd I0 31 z9) J0), (oa (a 1) cI 201 kd), (oa (a 11) cI 201 mn), (oa (a 12) cI 8040 cx), (oa (a 13) cI 8040 cy), (oa (a 32) cI 8 S1)]) [0, 1, 2, 3, 4, 5] (by decide) rfl
                have hFc := va_free (wc := [(om k0 a (upd I0 31 z9) J0), (oa (a 1) cI 201 kd), (oa (a 11) cI 201 mn), (oa (a 12) cI 8040 cx), (oa (a 13) cI 8040 cy), (oa (a 32) cI 8 S1)]) hD hS hA [0, 1, 2, 3, 4, 5] rfl
                refine zcall (st1 := [.int (pI (¬ (∃ i, i < eO (kd f).toInt n ∧ eOn n (cF40 cx f) (cF40 cy f) i (cx (40 * g + k)).toInt (cy (40 * g + k)).toInt) ∧ par2 (eTg n (cF40 cx f) (cF40 cy f) (cx (40 * g + k)).toInt (cy (40 * g + k)).toInt) (eO (kd f).toInt n)))]) (va_runV (As := [.int (nI f), .int (cx (40 * g + k)), .int (cy (40 * g + k))]) (rest := []) ⟨hx, hb, hml, hown, hts⟩ (k_M_isInside l dC dI cI cZ cF H.size k0 a (upd I0 31 z9) J0 f n kd mn cx cy S1 (cx (40 * g + k)) (cy (40 * g + k)) (by omega) (by assumption) (by omega) (by assumption) ((hp_g k hk9).1) ((hp_g k hk9).2)) (cwV 3 hts (zz_gV mw_1471 mw_1473 mw_62 mw_110 mc_yX11_isInside) rfl rfl rfl (by decide +kernel) ⟨Nat.le_of_ble_eq_true rfl, Nat.le_of_ble_eq_true rfl⟩) (zPV2 (q0 := 0) (ci := 9) hPc hDc hK hXN rfl rfl) rfl rfl hl.1 rfl (lv_room (Nat.le_of_ble_eq_true rfl)) dX11_isLawfulTo_115 ⟨Nat.le_of_ble_eq_true rfl, Nat.le_of_ble_eq_true rfl⟩) hS hFc hFc rfl (fun t H1 locs ht hB hk1 hS => ?_)
                obtain ⟨q_24, hP1, hD1⟩ := hB
                rw [ht] at hP1
                obtain ⟨hP, hD⟩ := va_join (wr := [(oa (a 40) cI 6 T1), (oa (a 29) cI 42 P1), (oa (a 30) cI 42 Q1), (oa (a 33) cI 42 ox), (oa (a 34) cI 42 oy), (oa (a 37) cZ 201 mt), (oa (a 38) cZ 201 wi), (oa (a 39) cZ 8040 ins)]) (w1 := [(om k0 a (upd I0 31 z9) J0), (oa (a 1) cI 201 kd), (oa (a 11) cI 201 mn), (oa (a 12) cI 8040 cx), (oa (a 13) cI 8040 cy), (oa (a 32) cI 8 q_24)]) hP hD [0, 1, 2, 3, 4, 5] [6, 7, 8, 9, 10, 11, 12, 13] rfl rfl (by decide) (by decide) hk1 hFc hP1 hD1
                clear hk1 hPc hDc hFc hP1 hD1 ht
                generalize H1 = H at hP hS ⊢
                have hP := hP.sub (ws' := [(om k0 a (upd I0 31 z9) J0), (oa (a 1) cI 201 kd), (oa (a 11) cI 201 mn), (oa (a 12) cI 8040 cx), (oa (a 13) cI 8040 cy), (oa (a 32) cI 8 q_24), (oa (a 40) cI 6 T1), (oa (a 29) cI 42 P1), (oa (a 30) cI 42 Q1), (oa (a 33) cI 42 ox), (oa (a 34) cI 42 oy), (oa (a 37) cZ 201 mt), (oa (a 38) cZ 201 wi), (oa (a 39) cZ 8040 ins)]) [8, 9, 10, 11, 12, 13, 0, 1, 2, 3, 4, 5, 6, 7] rfl
                have hD := hD.sub (ws' := [(om k0 a (upd I0 31 z9) J0), (oa (a 1) cI 201 kd), (oa (a 11) cI 201 mn), (oa (a 12) cI 8040 cx), (oa (a 13) cI 8040 cy), (oa (a 32) cI 8 q_24), (oa (a 40) cI 6 T1), (oa (a 29) cI 42 P1), (oa (a 30) cI 42 Q1), (oa (a 33) cI 42 ox), (oa (a 34) cI 42 oy), (oa (a 37) cZ 201 mt), (oa (a 38) cZ 201 wi), (oa (a 39) cZ 8040 ins)]) [8, 9, 10, 11, 12, 13, 0, 1, 2, 3, 4, 5, 6, 7] (by decide) rfl
                have hP : va_P (dC, dI) classes [(om k0 a (upd I0 31 z9) J0), (oa (a 1) cI 201 kd), (oa (a 11) cI 201 mn), (oa (a 12) cI 8040 cx), (oa (a 13) cI 8040 cy), (oa (a 32) cI 8 q_24), (oa (a 40) cI 6 T1), (oa (a 29) cI 42 P1), (oa (a 30) cI 42 Q1), (oa (a 33) cI 42 ox), (oa (a 34) cI 42 oy), (oa (a 37) cZ 201 mt), (oa (a 38) cZ 201 wi), (oa (a 39) cZ 8040 ins)] H := hP
                have hD : va_D A [(om k0 a (upd I0 31 z9) J0), (oa (a 1) cI 201 kd), (oa (a 11) cI 201 mn), (oa (a 12) cI 8040 cx), (oa (a 13) cI 8040 cy), (oa (a 32) cI 8 q_24), (oa (a 40) cI 6 T1), (oa (a 29) cI 42 P1), (oa (a 30) cI 42 Q1), (oa (a 33) cI 42 ox), (oa (a 34) cI 42 oy), (oa (a 37) cZ 201 mt), (oa (a 38) cZ 201 wi), (oa (a 39) cZ 8040 ins)] := hD
                refine zz_i (v := pI (inF (kd f).toInt n (cF40 cx f) (cF40 cy f) (cF40 cx g k).toInt (cF40 cy g k).toInt)) (rfl) ?_
                refine lv_aload_n hx hb dX11_isLawfulTo_118 rfl (lv_at hl 3 rfl) ?_
                refine va_get (D := (dC, dI)) (ci := 9) (v := .ref (a 39)) (C := RX11) (T := TX11) (N := 55) hx hb hts inX11 hown hK hP 0 rfl rfl 39 (by decide) (hts _ mw_1198) (fun _ h9 => h9) rfl dX11_isLawfulTo_119 ?_
                refine lv_bipush (v := 40) hx hb dX11_isLawfulTo_122 (by decide) ?_
                refine lv_iload_n hx hb dX11_isLawfulTo_124 rfl (lv_at hl 5 rfl) ?_
                refine lv_imul hx hb dX11_isLawfulTo_125 ?_
                refine zz_i (v := nI (40 * g)) (pk_mul 40 g) ?_
                refine lv_iload hx hb dX11_isLawfulTo_126 (lv_at hl 2 rfl) ?_
                refine lv_iadd hx hb dX11_isLawfulTo_128 ?_
                refine zz_i (v := nI (40 * g + k)) (nI_add (40 * g) k) ?_
                refine z_zald hx hb hK hP 13 1 rfl rfl (e := 40 * g + k) rfl (by omega) (by omega) dX11_isLawfulTo_129 ?_
                refine zz_i (v := pI (IN k)) (hin k (by omega) (by omega)) ?_
                refine lv_icmp_eq (tgt := 135) hx hb dX11_isLawfulTo_130 (by decide) (fun c_25 => ?_) (fun c_25 => ?_)
                · have c_25 : (pI (inF (kd f).toInt n (cF40 cx f) (cF40 cy f) (cF40 cx g k).toInt (cF40 cy g k).toInt)).toInt = (pI (IN k)).toInt := zc_eq rfl rfl c_25
                  refine lv_aload_n hx hb dX11_isLawfulTo_135 rfl (lv_at hl 3 rfl) ?_
                  refine va_get (D := (dC, dI)) (ci := 9) (v := .ref (a 1)) (C := RX11) (T := TX11) (N := 55) hx hb hts inX11 hown hK hP 0 rfl rfl 1 (by decide) (hts _ mw_1160) (fun _ h9 => h9) rfl dX11_isLawfulTo_136 ?_
                  refine lv_iload_n hx hb dX11_isLawfulTo_139 rfl (lv_at hl 4 rfl) ?_
                  refine z_iald hx hb hK hP 1 0 rfl rfl (e := f) rfl (by omega) (by omega) dX11_isLawfulTo_140 ?_
                  refine lv_if_eq (tgt := 185) hx hb dX11_isLawfulTo_141 (by decide) (fun c_26 => ?_) (fun c_26 => ?_)
                  · have c_26 : (kd f).toInt = 0 := zc_eq rfl (by decide) c_26
                    refine lv_iinc (v := nI (k + 1)) (lv' := [(5, .int (nI (k + 1))), (7, .int (cy (40 * g + k))), (6, .int (cx (40 * g + k))), (0, .ref k0), (1, .int (nI f)), (2, .int (nI g)), (3, .int 5), (4, .int (-1))]) hx hb dX11_isLawfulTo_185 hl (k := 2) rfl (nI_add k 1) (by decide) rfl (fun ls hl => ?_)
                    refine lv_goto (tgt := 62) hx hb dX11_isLawfulTo_188 (by decide) ?_
                    exact ih_62 (k + 1) z9 q_24 T1 P1 Q1 H locs ls (by omega) (by omega) (by intro j hj; rcases Nat.lt_or_ge j k with h | h; exact hall j h; obtain rfl : j = k := (by omega); exact ⟨fun h5 => (by first | (exfalso; omega) | exact zp_ieq.mp (by assumption)), fun h0 => (by first | (exfalso; omega) | exact id | assumption)⟩) hP hD hS (lv_sub hl [0, 3, 4, 5, 6, 7] rfl)
                  · have c_26 : ¬ (kd f).toInt = 0 := zc_ne rfl (by decide) c_26
                    refine lv_iload_n hx hb dX11_isLawfulTo_144 rfl (lv_at hl 6 rfl) ?_
                    refine lv_iconst (v := 5) hx hb dX11_isLawfulTo_145 (by decide) ?_
                    refine lv_icmp_eq (tgt := 185) hx hb dX11_isLawfulTo_146 (by decide) (fun c_27 => ?_) (fun c_27 => ?_)
                    · refine lv_iinc (v := nI (k + 1)) (lv' := [(5, .int (nI (k + 1))), (7, .int (cy (40 * g + k))), (6, .int (cx (40 * g + k))), (0, .ref k0), (1, .int (nI f)), (2, .int (nI g)), (3, .int 5), (4, .int (-1))]) hx hb dX11_isLawfulTo_185 hl (k := 2) rfl (nI_add k 1) (by decide) rfl (fun ls hl => ?_)
                      refine lv_goto (tgt := 62) hx hb dX11_isLawfulTo_188 (by decide) ?_
                      exact ih_62 (k + 1) z9 q_24 T1 P1 Q1 H locs ls (by omega) (by omega) (by intro j hj; rcases Nat.lt_or_ge j k with h | h; exact hall j h; obtain rfl : j = k := (by omega); exact ⟨fun h5 => (by first | (exfalso; omega) | exact zp_ieq.mp (by assumption)), fun h0 => (by first | (exfalso; omega) | exact id | assumption)⟩) hP hD hS (lv_sub hl [0, 3, 4, 5, 6, 7] rfl)
                    · exact absurd (by decide) c_27
                · have c_25 : ¬ (pI (inF (kd f).toInt n (cF40 cx f) (cF40 cy f) (cF40 cx g k).toInt (cF40 cy g k).toInt)).toInt = (pI (IN k)).toInt := zc_ne rfl rfl c_25
                  refine lv_iconst (v := 0) hx hb dX11_isLawfulTo_133 (by decide) ?_
                  have hP9 := hP.sub (ws' := [(om k0 a (upd I0 31 z9) J0), (oa (a 1) cI 201 kd), (oa (a 11) cI 201 mn), (oa (a 12) cI 8040 cx), (oa (a 13) cI 8040 cy), (oa (a 32) cI 8 q_24), (oa (a 40) cI 6 T1), (oa (a 29) cI 42 P1), (oa (a 30) cI 42 Q1), (oa (a 33) cI 42 ox), (oa (a 34) cI 42 oy), (oa (a 37) cZ 201 mt), (oa (a 38) cZ 201 wi), (oa (a 39) cZ 8040 ins)]) [0, 1, 2, 3, 4, 5, 6, 7, 8, 9, 10, 11, 12, 13] rfl
                  have hD9 := hD.sub (ws' := [(om k0 a (upd I0 31 z9) J0), (oa (a 1) cI 201 kd), (oa (a 11) cI 201 mn), (oa (a 12) cI 8040 cx), (oa (a 13) cI 8040 cy), (oa (a 32) cI 8 q_24), (oa (a 40) cI 6 T1), (oa (a 29) cI 42 P1), (oa (a 30) cI 42 Q1), (oa (a 33) cI 42 ox), (oa (a 34) cI 42 oy), (oa (a 37) cZ 201 mt), (oa (a 38) cZ 201 wi), (oa (a 39) cZ 8040 ins)]) [0, 1, 2, 3, 4, 5, 6, 7, 8, 9, 10, 11, 12, 13] (by decide) rfl
                  rw [hQ9]
                  exact W.zret (ty := .boolean) (v := 0) hx hb hr (rfl) (fun t ht hW => ⟨⟨congrArg (fun z => Outcome.returned (some (Value.int z))) (show (0 : Int32) = pI (lawTo (ox 0) (oy 0) (kd f).toInt n (cF40 cx f) (cF40 cy f) (kd g).toInt m2 (cF40 cx g) (cF40 cy g) MT WI IN (fun _ => False)) from (zp_f (fun h => absurd (zp_ieq.mpr ((h.2.2.1 k (by omega)).1 (by omega))) (by assumption))).symm), z9, q_24, T1, P1, Q1, by rw [ht]; exact hP9, hD9⟩, hS.F ht⟩) hS.2.2 dX11_isLawfulTo_134
        exact hl_62 _ 0 (I0 31) q_15 T0 P0 Q0 H locs ls (Nat.lt_succ_self _) (by omega) (by intro j hj; omega) hP hD hS (lv_sub hl [0, 1, 2, 3, 4, 5] rfl)
      · have c_16 : ¬ (pI (inF (kd g).toInt m2 (cF40 cx g) (cF40 cy g) (cF40 cx f 0).toInt (cF40 cy f 0).toInt)).toInt = (pI WI).toInt := zc_ne rfl rfl c_16
        refine lv_iconst (v := 0) hx hb dX11_isLawfulTo_57 (by decide) ?_
        have hP9 := hP.sub (ws' := [(om k0 a I0 J0), (oa (a 1) cI 201 kd), (oa (a 11) cI 201 mn), (oa (a 12) cI 8040 cx), (oa (a 13) cI 8040 cy), (oa (a 32) cI 8 q_15), (oa (a 40) cI 6 T0), (oa (a 29) cI 42 P0), (oa (a 30) cI 42 Q0), (oa (a 33) cI 42 ox), (oa (a 34) cI 42 oy), (oa (a 37) cZ 201 mt), (oa (a 38) cZ 201 wi), (oa (a 39) cZ 8040 ins)]) [0, 1, 2, 3, 4, 5, 6, 7, 8, 9, 10, 11, 12, 13] rfl
        have hD9 := hD.sub (ws' := [(om k0 a I0 J0), (oa (a 1) cI 201 kd), (oa (a 11) cI 201 mn), (oa (a 12) cI 8040 cx), (oa (a 13) cI 8040 cy), (oa (a 32) cI 8 q_15), (oa (a 40) cI 6 T0), (oa (a 29) cI 42 P0), (oa (a 30) cI 42 Q0), (oa (a 33) cI 42 ox), (oa (a 34) cI 42 oy), (oa (a 37) cZ 201 mt), (oa (a 38) cZ 201 wi), (oa (a 39) cZ 8040 ins)]) [0, 1, 2, 3, 4, 5, 6, 7, 8, 9, 10, 11, 12, 13] (by decide) rfl
        rw [hQ9]
        exact W.zret (ty := .boolean) (v := 0) hx hb hr (rfl) (fun t ht hW => ⟨⟨congrArg (fun z => Outcome.returned (some (Value.int z))) (show (0 : Int32) = pI (lawTo (ox 0) (oy 0) (kd f).toInt n (cF40 cx f) (cF40 cy f) (kd g).toInt m2 (cF40 cx g) (cF40 cy g) MT WI IN (fun _ => False)) from (zp_f (fun h => absurd (zp_ieq.mpr (h.2.1 (by omega))) (by assumption))).symm), (I0 31), q_15, T0, P0, Q0, by rw [ht]; exact hP9, hD9⟩, hS.F ht⟩) hS.2.2 dX11_isLawfulTo_58
  · have c_2 : ¬ (pI (mtF (kd f).toInt n (cF40 cx f) (cF40 cy f) (kd g).toInt m2 (cF40 cx g) (cF40 cy g))).toInt = (pI MT).toInt := zc_ne rfl rfl c_2
    refine lv_iconst (v := 0) hx hb dX11_isLawfulTo_15 (by decide) ?_
    have hP9 := hP.sub (ws' := [(om k0 a I0 J0), (oa (a 1) cI 201 kd), (oa (a 11) cI 201 mn), (oa (a 12) cI 8040 cx), (oa (a 13) cI 8040 cy), (oa (a 32) cI 8 q_1), (oa (a 40) cI 6 T0), (oa (a 29) cI 42 P0), (oa (a 30) cI 42 Q0), (oa (a 33) cI 42 ox), (oa (a 34) cI 42 oy), (oa (a 37) cZ 201 mt), (oa (a 38) cZ 201 wi), (oa (a 39) cZ 8040 ins)]) [0, 1, 2, 3, 4, 5, 6, 7, 8, 9, 10, 11, 12, 13] rfl
    have hD9 := hD.sub (ws' := [(om k0 a I0 J0), (oa (a 1) cI 201 kd), (oa (a 11) cI 201 mn), (oa (a 12) cI 8040 cx), (oa (a 13) cI 8040 cy), (oa (a 32) cI 8 q_1), (oa (a 40) cI 6 T0), (oa (a 29) cI 42 P0), (oa (a 30) cI 42 Q0), (oa (a 33) cI 42 ox), (oa (a 34) cI 42 oy), (oa (a 37) cZ 201 mt), (oa (a 38) cZ 201 wi), (oa (a 39) cZ 8040 ins)]) [0, 1, 2, 3, 4, 5, 6, 7, 8, 9, 10, 11, 12, 13] (by decide) rfl
    rw [hQ9]
    exact W.zret (ty := .boolean) (v := 0) hx hb hr (rfl) (fun t ht hW => ⟨⟨congrArg (fun z => Outcome.returned (some (Value.int z))) (show (0 : Int32) = pI (lawTo (ox 0) (oy 0) (kd f).toInt n (cF40 cx f) (cF40 cy f) (kd g).toInt m2 (cF40 cx g) (cF40 cy g) MT WI IN (fun _ => False)) from (zp_f (fun h => absurd (zp_ieq.mpr h.1) (by assumption))).symm), (I0 31), q_1, T0, P0, Q0, by rw [ht]; exact hP9, hD9⟩, hS.F ht⟩) hS.2.2 dX11_isLawfulTo_16
set_option maxHeartbeats 4000000 in
set_option maxRecDepth 100000 in
theorem k_M_isLawfulTo_m (l : Launch) (dC : Nat → ClassId) (dI : Nat → Nat → Nat) (cI cZ cF : ClassId) (sz : Nat) (k0 : Nat) (a : Nat → Nat) (I0 : Nat → Int32) (J0 : Nat → Int64) (f : Nat) (n : Nat) (g : Nat) (m2 : Nat) (on : Nat) (h : Nat) (kd : Nat → Int32) (mn : Nat → Int32) (cx : Nat → Int32) (cy : Nat → Int32) (S0 : Nat → Int32) (T0 : Nat → Int32) (P0 : Nat → Int32) (Q0 : Nat → Int32) (ox : Nat → Int32) (oy : Nat → Int32) (mt : Nat → Int32) (wi : Nat → Int32) (ins : Nat → Int32) (MT : Prop) (WI : Prop) (IN : Nat → Prop) (hf_f : f ≤ 200) (hm_f : mn f = nI n) (hn_f : 1 ≤ n ∧ n ≤ 40) (hp_f : pls n (cF40 cx f) (cF40 cy f)) (hf_g : g ≤ 200) (hm_g : mn g = nI m2) (hn_g : 1 ≤ m2 ∧ m2 ≤ 40) (hp_g : pls m2 (cF40 cx g) (cF40 cy g)) (hon : I0 35 = nI on) (ho40 : on ≤ 40) (ho1 : 1 ≤ on) (hpo : pls on ox oy) (hmt : mt g = pI MT) (hwi : 5 ≤ (kd g).toInt → wi g = pI WI) (hin : ∀ k, k < m2 → 5 ≤ (kd f).toInt → ins (40 * g + k) = pI (IN k)) (hh : h < 5) (hon2 : n = on) : Met l yX11_isLawfulTo (.code yX11_isLawfulTo cX11_isLawfulTo 8 (some .boolean) :: ws0) ({ frames := 5, cells := 0, slots := 0, locals := 135 } : Room) (va_Pc [.ref k0, .int (nI f), .int (nI g), .int (nI h), .int (-1)] (zPre (dC, dI) classes (zTy cI cZ cF) [(om k0 a I0 J0), (oa (a 1) cI 201 kd), (oa (a 11) cI 201 mn), (oa (a 12) cI 8040 cx), (oa (a 13) cI 8040 cy), (oa (a 32) cI 8 S0), (oa (a 40) cI 6 T0), (oa (a 29) cI 42 P0), (oa (a 30) cI 42 Q0), (oa (a 33) cI 42 ox), (oa (a 34) cI 42 oy), (oa (a 37) cZ 201 mt), (oa (a 38) cZ 201 wi), (oa (a 39) cZ 8040 ins)] sz zXN)) (zQ (some (.int (pI (lawTo (ox 0) (oy 0) (kd f).toInt n (cF40 cx f) (cF40 cy f) (kd g).toInt m2 (cF40 cx g) (cF40 cy g) MT WI IN (fun k => ∃ e, e < eO (kd f).toInt on ∧ swp on ox oy (cF40 cx f) (cF40 cy f) (cF40 cx g k).toInt (cF40 cy g k).toInt e))))) (fun t => ∃ (z9 : Int32), ∃ (S1 : Nat → Int32), ∃ (T1 : Nat → Int32), ∃ (P1 : Nat → Int32), ∃ (Q1 : Nat → Int32), va_P (dC, dI) classes [(om k0 a (upd I0 31 z9) J0), (oa (a 1) cI 201 kd), (oa (a 11) cI 201 mn), (oa (a 12) cI 8040 cx), (oa (a 13) cI 8040 cy), (oa (a 32) cI 8 S1), (oa (a 40) cI 6 T1), (oa (a 29) cI 42 P1), (oa (a 30) cI 42 Q1), (oa (a 33) cI 42 ox), (oa (a 34) cI 42 oy), (oa (a 37) cZ 201 mt), (oa (a 38) cZ 201 wi), (oa (a 39) cZ 8040 ins)] t.heap ∧ va_D (va_A [(om k0 a I0 J0), (oa (a 1) cI 201 kd), (oa (a 11) cI 201 mn), (oa (a 12) cI 8040 cx), (oa (a 13) cI 8040 cy), (oa (a 32) cI 8 S0), (oa (a 40) cI 6 T0), (oa (a 29) cI 42 P0), (oa (a 30) cI 42 Q0), (oa (a 33) cI 42 ox), (oa (a 34) cI 42 oy), (oa (a 37) cZ 201 mt), (oa (a 38) cZ 201 wi), (oa (a 39) cZ 8040 ins)] sz) [(om k0 a (upd I0 31 z9) J0), (oa (a 1) cI 201 kd), (oa (a 11) cI 201 mn), (oa (a 12) cI 8040 cx), (oa (a 13) cI 8040 cy), (oa (a 32) cI 8 S1), (oa (a 40) cI 6 T1), (oa (a 29) cI 42 P1), (oa (a 30) cI 42 Q1), (oa (a 33) cI 42 ox), (oa (a 34) cI 42 oy), (oa (a 37) cZ 201 mt), (oa (a 38) cZ 201 wi), (oa (a 39) cZ 8040 ins)]) (va_A [(om k0 a I0 J0), (oa (a 1) cI 201 kd), (oa (a 11) cI 201 mn), (oa (a 12) cI 8040 cx), (oa (a 13) cI 8040 cy), (oa (a 32) cI 8 S0), (oa (a 40) cI 6 T0), (oa (a 29) cI 42 P0), (oa (a 30) cI 42 Q0), (oa (a 33) cI 42 ox), (oa (a 34) cI 42 oy), (oa (a 37) cZ 201 mt), (oa (a 38) cZ 201 wi), (oa (a 39) cZ 8040 ins)] sz)) 0 0 (va_A [(om k0 a I0 J0), (oa (a 1) cI 201 kd), (oa (a 11) cI 201 mn), (oa (a 12) cI 8040 cx), (oa (a 13) cI 8040 cy), (oa (a 32) cI 8 S0), (oa (a 40) cI 6 T0), (oa (a 29) cI 42 P0), (oa (a 30) cI 42 Q0), (oa (a 33) cI 42 ox), (oa (a 34) cI 42 oy), (oa (a 37) cZ 201 mt), (oa (a 38) cZ 201 wi), (oa (a 39) cZ 8040 ins)] sz) := by
  refine Met.ofW (cc := cX11_isLawfulTo) (maxL := 8) (ret := (some .boolean)) (by decide) rfl ?_
  intro p e s m args below meth c s₁ B hml hv
  obtain ⟨rfl, hsz, hP, hK, hD0, hXN⟩ := hv
  have hx := B.exec
  have hb := B.bytes
  have hr := B.returns
  have hts0 := atoms_spec (ws := .code yX11_isLawfulTo cX11_isLawfulTo 8 (some .boolean) :: ws0) B.pre
  have hts : ∀ w9 ∈ ws0, w9.before ([.ref k0, .int (nI f), .int (nI g), .int (nI h), .int (-1)] : List Value).toArray s = true := fun w9 h => hts0 w9 (List.mem_cons_of_mem _ h)
  have hown : s.vm.findClass "ScaleShopModel" = some m.cls := findClass_of_methodNamed B.named
  have hlocks := B.notSynchronized
  subst hsz
  have hD := hD0.self (sz := s.heap.size)
  clear hD0
  generalize hAe : va_A [(om k0 a I0 J0), (oa (a 1) cI 201 kd), (oa (a 11) cI 201 mn), (oa (a 12) cI 8040 cx), (oa (a 13) cI 8040 cy), (oa (a 32) cI 8 S0), (oa (a 40) cI 6 T0), (oa (a 29) cI 42 P0), (oa (a 30) cI 42 Q0), (oa (a 33) cI 42 ox), (oa (a 34) cI 42 oy), (oa (a 37) cZ 201 mt), (oa (a 38) cZ 201 wi), (oa (a 39) cZ 8040 ins)] s.heap.size = A at hD ⊢
  have hA : ∀ q : Nat, s.heap.size ≤ q → A q := fun q h => by rw [← hAe]; exact Or.inr h
  clear hAe
  have hS : va_S A s.heap s.heap [] := va_S.rf
  have hP : va_P (dC, dI) classes [(om k0 a I0 J0), (oa (a 1) cI 201 kd), (oa (a 11) cI 201 mn), (oa (a 12) cI 8040 cx), (oa (a 13) cI 8040 cy), (oa (a 32) cI 8 S0), (oa (a 40) cI 6 T0), (oa (a 29) cI 42 P0), (oa (a 30) cI 42 Q0), (oa (a 33) cI 42 ox), (oa (a 34) cI 42 oy), (oa (a 37) cZ 201 mt), (oa (a 38) cZ 201 wi), (oa (a 39) cZ 8040 ins)] s.heap := hP
  obtain ⟨Q9, hQ9⟩ : ∃ Q9 : State → Prop, Q9 = MQ below (zQ (some (.int (pI (lawTo (ox 0) (oy 0) (kd f).toInt n (cF40 cx f) (cF40 cy f) (kd g).toInt m2 (cF40 cx g) (cF40 cy g) MT WI IN (fun k => ∃ e, e < eO (kd f).toInt on ∧ swp on ox oy (cF40 cx f) (cF40 cy f) (cF40 cx g k).toInt (cF40 cy g k).toInt e))))) (fun t => ∃ (z9 : Int32), ∃ (S1 : Nat → Int32), ∃ (T1 : Nat → Int32), ∃ (P1 : Nat → Int32), ∃ (Q1 : Nat → Int32), va_P (dC, dI) classes [(om k0 a (upd I0 31 z9) J0), (oa (a 1) cI 201 kd), (oa (a 11) cI 201 mn), (oa (a 12) cI 8040 cx), (oa (a 13) cI 8040 cy), (oa (a 32) cI 8 S1), (oa (a 40) cI 6 T1), (oa (a 29) cI 42 P1), (oa (a 30) cI 42 Q1), (oa (a 33) cI 42 ox), (oa (a 34) cI 42 oy), (oa (a 37) cZ 201 mt), (oa (a 38) cZ 201 wi), (oa (a 39) cZ 8040 ins)] t.heap ∧ va_D A [(om k0 a (upd I0 31 z9) J0), (oa (a 1) cI 201 kd), (oa (a 11) cI 201 mn), (oa (a 12) cI 8040 cx), (oa (a 13) cI 8040 cy), (oa (a 32) cI 8 S1), (oa (a 40) cI 6 T1), (oa (a 29) cI 42 P1), (oa (a 30) cI 42 Q1), (oa (a 33) cI 42 ox), (oa (a 34) cI 42 oy), (oa (a 37) cZ 201 mt), (oa (a 38) cZ 201 wi), (oa (a 39) cZ 8040 ins)]) A) ([.ref k0, .int (nI f), .int (nI g), .int (nI h), .int (-1)] : List Value).toArray s 0 0 A := ⟨_, rfl⟩
  rw [← hQ9]
  have hl := lv_entry ([.ref k0, .int (nI f), .int (nI g), .int (nI h), .int (-1)]) (n := 8) (Nat.le_of_ble_eq_true rfl)
  rw [lg_entry_eq]
  generalize (lg_sl ([.ref k0, .int (nI f), .int (nI g), .int (nI h), .int (-1)]) ++ List.replicate (8 - (lg_sl ([.ref k0, .int (nI f), .int (nI g), .int (nI h), .int (-1)])).length) Slot.unset).toArray = ls at hl ⊢
  have hl : lv_has ls 8 [(0, .ref k0), (1, .int (nI f)), (2, .int (nI g)), (3, .int (nI h)), (4, .int (-1))] := hl
  refine lv_aload_n hx hb dX11_isLawfulTo_0 rfl (lv_at hl 0 rfl) ?_
  refine lv_iload_n hx hb dX11_isLawfulTo_1 rfl (lv_at hl 1 rfl) ?_
  refine lv_iload_n hx hb dX11_isLawfulTo_2 rfl (lv_at hl 2 rfl) ?_
  have hPc := hP.sub (ws' := [(om k0 a I0 J0), (oa (a 1) cI 201 kd), (oa (a 11) cI 201 mn), (oa (a 12) cI 8040 cx), (oa (a 13) cI 8040 cy), (oa (a 32) cI 8 S0)]) [0, 1, 2, 3, 4, 5] rfl
  have hDc := hD.sub (ws' := [(om k0 a I0 J0), (oa (a 1) cI 201 kd), (oa (a 11) cI 201 mn), (oa (a 12) cI 8040 cx), (oa (a 13) cI 8040 cy), (oa (a 32) cI 8 S0)]) [0, 1, 2, 3, 4, 5] (by decide) rfl
  have hFc := va_free (wc := [(om k0 a I0 J0), (oa (a 1) cI 201 kd), (oa (a 11) cI 201 mn), (oa (a 12) cI 8040 cx), (oa (a 13) cI 8040 cy), (oa (a 32) cI 8 S0)]) hD hS hA [0, 1, 2, 3, 4, 5] rfl
  refine zcall (st1 := [.int (pI (∃ i, i < eO (kd f).toInt n ∧ ∃ j, j < eO (kd g).toInt m2 ∧ eMt n (cF40 cx f) (cF40 cy f) i m2 (cF40 cx g) (cF40 cy g) j))]) (va_runV (As := [.int (nI f), .int (nI g)]) (rest := []) ⟨hx, hb, hml, hown, hts⟩ (k_M_isMet l dC dI cI cZ cF s.heap.size k0 a I0 J0 f n g m2 kd mn cx cy S0 (by omega) (by assumption) (by omega) (by assumption) (by omega) (by assumption) (by omega) (by assumption)) (cwV 2 hts (zz_gV mw_1467 mw_1469 mw_61 mw_110 mc_yX11_isMet) rfl rfl rfl (by decide +kernel) ⟨Nat.le_of_ble_eq_true rfl, Nat.le_of_ble_eq_true rfl⟩) (zPV2 (q0 := 0) (ci := 9) hPc hDc hK hXN rfl rfl) rfl rfl hl.1 rfl (lv_room (Nat.le_of_ble_eq_true rfl)) dX11_isLawfulTo_3 ⟨Nat.le_of_ble_eq_true rfl, Nat.le_of_ble_eq_true rfl⟩) hS hFc hFc rfl (fun t H1 locs ht hB hk1 hS => ?_)
  obtain ⟨q_1, hP1, hD1⟩ := hB
  rw [ht] at hP1
  obtain ⟨hP, hD⟩ := va_join (wr := [(oa (a 40) cI 6 T0), (oa (a 29) cI 42 P0), (oa (a 30) cI 42 Q0), (oa (a 33) cI 42 ox), (oa (a 34) cI 42 oy), (oa (a 37) cZ 201 mt), (oa (a 38) cZ 201 wi), (oa (a 39) cZ 8040 ins)]) (w1 := [(om k0 a I0 J0), (oa (a 1) cI 201 kd), (oa (a 11) cI 201 mn), (oa (a 12) cI 8040 cx), (oa (a 13) cI 8040 cy), (oa (a 32) cI 8 q_1)]) hP hD [0, 1, 2, 3, 4, 5] [6, 7, 8, 9, 10, 11, 12, 13] rfl rfl (by decide) (by decide) hk1 hFc hP1 hD1
  clear hk1 hPc hDc hFc hP1 hD1 ht
  generalize H1 = H at hP hS ⊢
  have hP := hP.sub (ws' := [(om k0 a I0 J0), (oa (a 1) cI 201 kd), (oa (a 11) cI 201 mn), (oa (a 12) cI 8040 cx), (oa (a 13) cI 8040 cy), (oa (a 32) cI 8 q_1), (oa (a 40) cI 6 T0), (oa (a 29) cI 42 P0), (oa (a 30) cI 42 Q0), (oa (a 33) cI 42 ox), (oa (a 34) cI 42 oy), (oa (a 37) cZ 201 mt), (oa (a 38) cZ 201 wi), (oa (a 39) cZ 8040 ins)]) [8, 9, 10, 11, 12, 13, 0, 1, 2, 3, 4, 5, 6, 7] rfl
  have hD := hD.sub (ws' := [(om k0 a I0 J0), (oa (a 1) cI 201 kd), (oa (a 11) cI 201 mn), (oa (a 12) cI 8040 cx), (oa (a 13) cI 8040 cy), (oa (a 32) cI 8 q_1), (oa (a 40) cI 6 T0), (oa (a 29) cI 42 P0), (oa (a 30) cI 42 Q0), (oa (a 33) cI 42 ox), (oa (a 34) cI 42 oy), (oa (a 37) cZ 201 mt), (oa (a 38) cZ 201 wi), (oa (a 39) cZ 8040 ins)]) [8, 9, 10, 11, 12, 13, 0, 1, 2, 3, 4, 5, 6, 7] (by decide) rfl
  have hP : va_P (dC, dI) classes [(om k0 a I0 J0), (oa (a 1) cI 201 kd), (oa (a 11) cI 201 mn), (oa (a 12) cI 8040 cx), (oa (a 13) cI 8040 cy), (oa (a 32) cI 8 q_1), (oa (a 40) cI 6 T0), (oa (a 29) cI 42 P0), (oa (a 30) cI 42 Q0), (oa (a 33) cI 42 ox), (oa (a 34) cI 42 oy), (oa (a 37) cZ 201 mt), (oa (a 38) cZ 201 wi), (oa (a 39) cZ 8040 ins)] H := hP
  have hD : va_D A [(om k0 a I0 J0), (oa (a 1) cI 201 kd), (oa (a 11) cI 201 mn), (oa (a 12) cI 8040 cx), (oa (a 13) cI 8040 cy), (oa (a 32) cI 8 q_1), (oa (a 40) cI 6 T0), (oa (a 29) cI 42 P0), (oa (a 30) cI 42 Q0), (oa (a 33) cI 42 ox), (oa (a 34) cI 42 oy), (oa (a 37) cZ 201 mt), (oa (a 38) cZ 201 wi), (oa (a 39) cZ 8040 ins)] := hD
  refine zz_i (v := pI (mtF (kd f).toInt n (cF40 cx f) (cF40 cy f) (kd g).toInt m2 (cF40 cx g) (cF40 cy g))) (rfl) ?_
  refine lv_aload_n hx hb dX11_isLawfulTo_6 rfl (lv_at hl 0 rfl) ?_
  refine va_get (D := (dC, dI)) (ci := 9) (v := .ref (a 37)) (C := RX11) (T := TX11) (N := 55) hx hb hts inX11 hown hK hP 0 rfl rfl 37 (by decide) (hts _ mw_1196) (fun _ h9 => h9) rfl dX11_isLawfulTo_7 ?_
  refine lv_iload_n hx hb dX11_isLawfulTo_10 rfl (lv_at hl 2 rfl) ?_
  refine z_zald hx hb hK hP 11 1 rfl rfl (e := g) rfl (by omega) (by omega) dX11_isLawfulTo_11 ?_
  refine zz_i (v := pI MT) (hmt) ?_
  refine lv_icmp_eq (tgt := 17) hx hb dX11_isLawfulTo_12 (by decide) (fun c_2 => ?_) (fun c_2 => ?_)
  · have c_2 : (pI (mtF (kd f).toInt n (cF40 cx f) (cF40 cy f) (kd g).toInt m2 (cF40 cx g) (cF40 cy g))).toInt = (pI MT).toInt := zc_eq rfl rfl c_2
    refine lv_aload_n hx hb dX11_isLawfulTo_17 rfl (lv_at hl 0 rfl) ?_
    refine lv_iload_n hx hb dX11_isLawfulTo_18 rfl (lv_at hl 2 rfl) ?_
    have hPc := hP.sub (ws' := [(om k0 a I0 J0), (oa (a 1) cI 201 kd)]) [0, 1] rfl
    have hDc := hD.sub (ws' := [(om k0 a I0 J0), (oa (a 1) cI 201 kd)]) [0, 1] (by decide) rfl
    have hFc := va_free (wc := [(om k0 a I0 J0), (oa (a 1) cI 201 kd)]) hD hS hA [0, 1] rfl
    refine zcall (st1 := [.int (pI (5 ≤ (kd g).toInt))]) (va_runV (As := [.int (nI g)]) (rest := []) ⟨hx, hb, hml, hown, hts⟩ (k_M_isRing l dC dI cI cZ cF H.size k0 a I0 J0 g kd (by omega)) (cwV 1 hts (zz_gV mw_1365 mw_1367 mw_40 mw_110 mc_yX11_isRing) rfl rfl rfl (by decide +kernel) ⟨Nat.le_of_ble_eq_true rfl, Nat.le_of_ble_eq_true rfl⟩) (zPV2 (q0 := 0) (ci := 9) hPc hDc hK hXN rfl rfl) rfl rfl hl.1 rfl (lv_room (Nat.le_of_ble_eq_true rfl)) dX11_isLawfulTo_19 ⟨Nat.le_of_ble_eq_true rfl, Nat.le_of_ble_eq_true rfl⟩) hS hFc hFc rfl (fun t H1 locs ht hB hk1 hS => ?_)
    obtain ⟨hP1, hD1⟩ := hB
    rw [ht] at hP1
    obtain ⟨hP, hD⟩ := va_join (wr := [(oa (a 11) cI 201 mn), (oa (a 12) cI 8040 cx), (oa (a 13) cI 8040 cy), (oa (a 32) cI 8 q_1), (oa (a 40) cI 6 T0), (oa (a 29) cI 42 P0), (oa (a 30) cI 42 Q0), (oa (a 33) cI 42 ox), (oa (a 34) cI 42 oy), (oa (a 37) cZ 201 mt), (oa (a 38) cZ 201 wi), (oa (a 39) cZ 8040 ins)]) (w1 := [(om k0 a I0 J0), (oa (a 1) cI 201 kd)]) hP hD [0, 1] [2, 3, 4, 5, 6, 7, 8, 9, 10, 11, 12, 13] rfl rfl (by decide) (by decide) hk1 hFc hP1 hD1
    clear hk1 hPc hDc hFc hP1 hD1 ht
    generalize H1 = H at hP hS ⊢
    have hP := hP.sub (ws' := [(om k0 a I0 J0), (oa (a 1) cI 201 kd), (oa (a 11) cI 201 mn), (oa (a 12) cI 8040 cx), (oa (a 13) cI 8040 cy), (oa (a 32) cI 8 q_1), (oa (a 40) cI 6 T0), (oa (a 29) cI 42 P0), (oa (a 30) cI 42 Q0), (oa (a 33) cI 42 ox), (oa (a 34) cI 42 oy), (oa (a 37) cZ 201 mt), (oa (a 38) cZ 201 wi), (oa (a 39) cZ 8040 ins)]) [12, 13, 0, 1, 2, 3, 4, 5, 6, 7, 8, 9, 10, 11] rfl
    have hD := hD.sub (ws' := [(om k0 a I0 J0), (oa (a 1) cI 201 kd), (oa (a 11) cI 201 mn), (oa (a 12) cI 8040 cx), (oa (a 13) cI 8040 cy), (oa (a 32) cI 8 q_1), (oa (a 40) cI 6 T0), (oa (a 29) cI 42 P0), (oa (a 30) cI 42 Q0), (oa (a 33) cI 42 ox), (oa (a 34) cI 42 oy), (oa (a 37) cZ 201 mt), (oa (a 38) cZ 201 wi), (oa (a 39) cZ 8040 ins)]) [12, 13, 0, 1, 2, 3, 4, 5, 6, 7, 8, 9, 10, 11] (by decide) rfl
    have hP : va_P (dC, dI) classes [(om k0 a I0 J0), (oa (a 1) cI 201 kd), (oa (a 11) cI 201 mn), (oa (a 12) cI 8040 cx), (oa (a 13) cI 8040 cy), (oa (a 32) cI 8 q_1), (oa (a 40) cI 6 T0), (oa (a 29) cI 42 P0), (oa (a 30) cI 42 Q0), (oa (a 33) cI 42 ox), (oa (a 34) cI 42 oy), (oa (a 37) cZ 201 mt), (oa (a 38) cZ 201 wi), (oa (a 39) cZ 8040 ins)] H := hP
    have hD : va_D A [(om k0 a I0 J0), (oa (a 1) cI 201 kd), (oa (a 11) cI 201 mn), (oa (a 12) cI 8040 cx), (oa (a 13) cI 8040 cy), (oa (a 32) cI 8 q_1), (oa (a 40) cI 6 T0), (oa (a 29) cI 42 P0), (oa (a 30) cI 42 Q0), (oa (a 33) cI 42 ox), (oa (a 34) cI 42 oy), (oa (a 37) cZ 201 mt), (oa (a 38) cZ 201 wi), (oa (a 39) cZ 8040 ins)] := hD
    refine lv_if_eq (tgt := 59) hx hb dX11_isLawfulTo_22 (by decide) (fun c_3 => ?_) (fun c_3 => ?_)
    · have c_3 : ¬ (5 ≤ (kd g).toInt) := zp_0 c_3
      refine lv_iconst (v := 0) hx hb dX11_isLawfulTo_59 (by decide) ?_
      refine lv_istore (lv' := [(5, .int 0), (0, .ref k0), (1, .int (nI f)), (2, .int (nI g)), (3, .int (nI h)), (4, .int (-1))]) hx hb dX11_isLawfulTo_60 hl (by decide) rfl (fun ls hl => ?_)
      have hl_62 : ∀ (n9 : Nat) (k : Nat) (z9 : Int32) (S1 : Nat → Int32) (T1 : Nat → Int32) (P1 : Nat → Int32) (Q1 : Nat → Int32) (H : Heap) (locs : List Loc) (ls : Array Slot), m2 - k < n9 → (k ≤ m2) → (∀ j, j < k → (5 ≤ (kd f).toInt → (inF (kd f).toInt n (cF40 cx f) (cF40 cy f) (cF40 cx g j).toInt (cF40 cy g j).toInt ↔ IN j)) ∧ (¬ (kd f).toInt = 0 → ¬ (fun k => ∃ e, e < eO (kd f).toInt on ∧ swp on ox oy (cF40 cx f) (cF40 cy f) (cF40 cx g k).toInt (cF40 cy g k).toInt e) j)) → va_P (dC, dI) classes [(om k0 a (upd I0 31 z9) J0), (oa (a 1) cI 201 kd), (oa (a 11) cI 201 mn), (oa (a 12) cI 8040 cx), (oa (a 13) cI 8040 cy), (oa (a 32) cI 8 S1), (oa (a 40) cI 6 T1), (oa (a 29) cI 42 P1), (oa (a 30) cI 42 Q1), (oa (a 33) cI 42 ox), (oa (a 34) cI 42 oy), (oa (a 37) cZ 201 mt), (oa (a 38) cZ 201 wi), (oa (a 39) cZ 8040 ins)] H → va_D A [(om k0 a (upd I0 31 z9) J0), (oa (a 1) cI 201 kd), (oa (a 11) cI 201 mn), (oa (a 12) cI 8040 cx), (oa (a 13) cI 8040 cy), (oa (a 32) cI 8 S1), (oa (a 40) cI 6 T1), (oa (a 29) cI 42 P1), (oa (a 30) cI 42 Q1), (oa (a 33) cI 42 ox), (oa (a 34) cI 42 oy), (oa (a 37) cZ 201 mt), (oa (a 38) cZ 201 wi), (oa (a 39) cZ 8040 ins)] → va_S A s.heap H locs → lv_has ls 8 [(5, .int (nI k)), (0, .ref k0), (1, .int (nI f)), (2, .int (nI g)), (3, .int (nI h)), (4, .int (-1))] → W p l e ((headSpec (.code yX11_isLawfulTo cX11_isLawfulTo 8 (some .boolean) :: ws0) ({ frames := 5, cells := 0, slots := 0, locals := 135 } : Room)).room) s m ([.ref k0, .int (nI f), .int (nI g), .int (nI h), .int (-1)] : List Value).toArray below meth c H locs 0 0 Q9 (F0 m 62 ls []) := by
        intro n9
        induction n9 with
        | zero => intro k z9 S1 T1 P1 Q1 H locs ls hm; exact absurd hm (Nat.not_lt_zero _)
        | succ n9 ih_62 =>
          intro k z9 S1 T1 P1 Q1 H locs ls hm hk hall hP hD hS hl
          refine lv_iload hx hb dX11_isLawfulTo_62 (lv_at hl 0 rfl) ?_
          refine lv_aload_n hx hb dX11_isLawfulTo_64 rfl (lv_at hl 1 rfl) ?_
          refine va_get (D := (dC, dI)) (ci := 9) (v := .ref (a 11)) (C := RX11) (T := TX11) (N := 55) hx hb hts inX11 hown hK hP 0 rfl rfl 11 (by decide) (hts _ mw_1170) (fun _ h9 => h9) rfl dX11_isLawfulTo_65 ?_
          refine lv_iload_n hx hb dX11_isLawfulTo_68 rfl (lv_at hl 3 rfl) ?_
          refine z_iald hx hb hK hP 2 0 rfl rfl (e := g) rfl (by omega) (by omega) dX11_isLawfulTo_69 ?_
          refine zz_i (v := nI m2) (hm_g) ?_
          refine lv_icmp_ge (tgt := 191) hx hb dX11_isLawfulTo_70 (by decide) (fun c_4 => ?_) (fun c_4 => ?_)
          · have c_4 : ((m2 : Nat) : Int) ≤ ((k : Nat) : Int) := zc_le (nI_toInt (by omega)) (nI_toInt (by omega)) c_4
            refine lv_aload_n hx hb dX11_isLawfulTo_191 rfl (lv_at hl 1 rfl) ?_
            refine va_get (D := (dC, dI)) (ci := 9) (v := .ref (a 1)) (C := RX11) (T := TX11) (N := 55) hx hb hts inX11 hown hK hP 0 rfl rfl 1 (by decide) (hts _ mw_1160) (fun _ h9 => h9) rfl dX11_isLawfulTo_192 ?_
            refine lv_iload_n hx hb dX11_isLawfulTo_195 rfl (lv_at hl 2 rfl) ?_
            refine z_iald hx hb hK hP 1 0 rfl rfl (e := f) rfl (by omega) (by omega) dX11_isLawfulTo_196 ?_
            refine lv_if_ne (tgt := 209) hx hb dX11_isLawfulTo_197 (by decide) (fun c_5 => ?_) (fun c_5 => ?_)
            · have c_5 : ¬ (kd f).toInt = 0 := zc_ne rfl (by decide) c_5
              refine lv_iconst (v := 1) hx hb dX11_isLawfulTo_209 (by decide) ?_
              refine lv_goto (tgt := 214) hx hb dX11_isLawfulTo_210 (by decide) ?_
              have hP9 := hP.sub (ws' := [(om k0 a (upd I0 31 z9) J0), (oa (a 1) cI 201 kd), (oa (a 11) cI 201 mn), (oa (a 12) cI 8040 cx), (oa (a 13) cI 8040 cy), (oa (a 32) cI 8 S1), (oa (a 40) cI 6 T1), (oa (a 29) cI 42 P1), (oa (a 30) cI 42 Q1), (oa (a 33) cI 42 ox), (oa (a 34) cI 42 oy), (oa (a 37) cZ 201 mt), (oa (a 38) cZ 201 wi), (oa (a 39) cZ 8040 ins)]) [0, 1, 2, 3, 4, 5, 6, 7, 8, 9, 10, 11, 12, 13] rfl
              have hD9 := hD.sub (ws' := [(om k0 a (upd I0 31 z9) J0), (oa (a 1) cI 201 kd), (oa (a 11) cI 201 mn), (oa (a 12) cI 8040 cx), (oa (a 13) cI 8040 cy), (oa (a 32) cI 8 S1), (oa (a 40) cI 6 T1), (oa (a 29) cI 42 P1), (oa (a 30) cI 42 Q1), (oa (a 33) cI 42 ox), (oa (a 34) cI 42 oy), (oa (a 37) cZ 201 mt), (oa (a 38) cZ 201 wi), (oa (a 39) cZ 8040 ins)]) [0, 1, 2, 3, 4, 5, 6, 7, 8, 9, 10, 11, 12, 13] (by decide) rfl
              rw [hQ9]
              exact W.zret (ty := .boolean) (v := 1) hx hb hr (rfl) (fun t ht hW => ⟨⟨congrArg (fun z => Outcome.returned (some (Value.int z))) (show (1 : Int32) = pI (lawTo (ox 0) (oy 0) (kd f).toInt n (cF40 cx f) (cF40 cy f) (kd g).toInt m2 (cF40 cx g) (cF40 cy g) MT WI IN (fun k => ∃ e, e < eO (kd f).toInt on ∧ swp on ox oy (cF40 cx f) (cF40 cy f) (cF40 cx g k).toInt (cF40 cy g k).toInt e)) from (zp_t (by first | exact ⟨zp_ieq.mp (by assumption), fun h => (by first | (exfalso; omega) | exact zp_ieq.mp (by assumption)), fun j hj => hall j (by omega), fun h => (by first | (exfalso; omega) | assumption)⟩ | exact fun h => absurd (h.2.2.2 (by omega)) (by assumption))).symm), z9, S1, T1, P1, Q1, by rw [ht]; exact hP9, hD9⟩, hS.F ht⟩) hS.2.2 dX11_isLawfulTo_214
            · have c_5 : (kd f).toInt = 0 := zc_eq rfl (by decide) c_5
              refine lv_aload_n hx hb dX11_isLawfulTo_200 rfl (lv_at hl 1 rfl) ?_
              refine lv_iload_n hx hb dX11_isLawfulTo_201 rfl (lv_at hl 2 rfl) ?_
              refine lv_iload_n hx hb dX11_isLawfulTo_202 rfl (lv_at hl 3 rfl) ?_
              have hPc := hP.sub (ws' := [(om k0 a (upd I0 31 z9) J0), (oa (a 1) cI 201 kd), (oa (a 11) cI 201 mn), (oa (a 12) cI 8040 cx), (oa (a 13) cI 8040 cy), (oa (a 32) cI 8 S1), (oa (a 33) cI 42 ox), (oa (a 34) cI 42 oy)]) [0, 1, 2, 3, 4, 5, 9, 10] rfl
              have hDc := hD.sub (ws' := [(om k0 a (upd I0 31 z9) J0), (oa (a 1) cI 201 kd), (oa (a 11) cI 201 mn), (oa (a 12) cI 8040 cx), (oa (a 13) cI 8040 cy), (oa (a 32) cI 8 S1), (oa (a 33) cI 42 ox), (oa (a 34) cI 42 oy)]) [0, 1, 2, 3, 4, 5, 9, 10] (by decide) rfl
              have hFc := va_free (wc := [(om k0 a (upd I0 31 z9) J0), (oa (a 1) cI 201 kd), (oa (a 11) cI 201 mn), (oa (a 12) cI 8040 cx), (oa (a 13) cI 8040 cy), (oa (a 32) cI 8 S1), (oa (a 33) cI 42 ox), (oa (a 34) cI 42 oy)]) hD hS hA [0, 1, 2, 3, 4, 5, 9, 10] rfl
              refine zcall (st1 := [.int (pI (∀ k, k < eO (kd g).toInt m2 → fWy (ox 0).toInt (oy 0).toInt (cx (40 * f)).toInt (cy (40 * f)).toInt m2 (cF40 cx g) (cF40 cy g) k))]) (va_runV (As := [.int (nI f), .int (nI g)]) (rest := []) ⟨hx, hb, hml, hown, hts⟩ (k_M_isFreeWay l dC dI cI cZ cF H.size k0 a (upd I0 31 z9) J0 f g m2 kd mn cx cy S1 ox oy (by omega) ((hpo 0 (by omega)).1) ((hpo 0 (by omega)).2) ((hp_f 0 (by omega)).1) ((hp_f 0 (by omega)).2) (by omega) (by assumption) (by omega) (by assumption)) (cwV 2 hts (zz_gV mw_1506 mw_1508 mw_70 mw_110 mc_yX11_isFreeWay) rfl rfl rfl (by decide +kernel) ⟨Nat.le_of_ble_eq_true rfl, Nat.le_of_ble_eq_true rfl⟩) (zPV2 (q0 := 0) (ci := 9) hPc hDc hK hXN rfl rfl) rfl rfl hl.1 rfl (lv_room (Nat.le_of_ble_eq_true rfl)) dX11_isLawfulTo_203 ⟨Nat.le_of_ble_eq_true rfl, Nat.le_of_ble_eq_true rfl⟩) hS hFc hFc rfl (fun t H1 locs ht hB hk1 hS => ?_)
              obtain ⟨q_6, hP1, hD1⟩ := hB
              rw [ht] at hP1
              obtain ⟨hP, hD⟩ := va_join (wr := [(oa (a 40) cI 6 T1), (oa (a 29) cI 42 P1), (oa (a 30) cI 42 Q1), (oa (a 37) cZ 201 mt), (oa (a 38) cZ 201 wi), (oa (a 39) cZ 8040 ins)]) (w1 := [(om k0 a (upd I0 31 z9) J0), (oa (a 1) cI 201 kd), (oa (a 11) cI 201 mn), (oa (a 12) cI 8040 cx), (oa (a 13) cI 8040 cy), (oa (a 32) cI 8 q_6), (oa (a 33) cI 42 ox), (oa (a 34) cI 42 oy)]) hP hD [0, 1, 2, 3, 4, 5, 9, 10] [6, 7, 8, 11, 12, 13] rfl rfl (by decide) (by decide) hk1 hFc hP1 hD1
              clear hk1 hPc hDc hFc hP1 hD1 ht
              generalize H1 = H at hP hS ⊢
              have hP := hP.sub (ws' := [(om k0 a (upd I0 31 z9) J0), (oa (a 1) cI 201 kd), (oa (a 11) cI 201 mn), (oa (a 12) cI 8040 cx), (oa (a 13) cI 8040 cy), (oa (a 32) cI 8 q_6), (oa (a 40) cI 6 T1), (oa (a 29) cI 42 P1), (oa (a 30) cI 42 Q1), (oa (a 33) cI 42 ox), (oa (a 34) cI 42 oy), (oa (a 37) cZ 201 mt), (oa (a 38) cZ 201 wi), (oa (a 39) cZ 8040 ins)]) [6, 7, 8, 9, 10, 11, 0, 1, 2, 12, 13, 3, 4, 5] rfl
              have hD := hD.sub (ws' := [(om k0 a (upd I0 31 z9) J0), (oa (a 1) cI 201 kd), (oa (a 11) cI 201 mn), (oa (a 12) cI 8040 cx), (oa (a 13) cI 8040 cy), (oa (a 32) cI 8 q_6), (oa (a 40) cI 6 T1), (oa (a 29) cI 42 P1), (oa (a 30) cI 42 Q1), (oa (a 33) cI 42 ox), (oa (a 34) cI 42 oy), (oa (a 37) cZ 201 mt), (oa (a 38) cZ 201 wi), (oa (a 39) cZ 8040 ins)]) [6, 7, 8, 9, 10, 11, 0, 1, 2, 12, 13, 3, 4, 5] (by decide) rfl
              have hP : va_P (dC, dI) classes [(om k0 a (upd I0 31 z9) J0), (oa (a 1) cI 201 kd), (oa (a 11) cI 201 mn), (oa (a 12) cI 8040 cx), (oa (a 13) cI 8040 cy), (oa (a 32) cI 8 q_6), (oa (a 40) cI 6 T1), (oa (a 29) cI 42 P1), (oa (a 30) cI 42 Q1), (oa (a 33) cI 42 ox), (oa (a 34) cI 42 oy), (oa (a 37) cZ 201 mt), (oa (a 38) cZ 201 wi), (oa (a 39) cZ 8040 ins)] H := hP
              have hD : va_D A [(om k0 a (upd I0 31 z9) J0), (oa (a 1) cI 201 kd), (oa (a 11) cI 201 mn), (oa (a 12) cI 8040 cx), (oa (a 13) cI 8040 cy), (oa (a 32) cI 8 q_6), (oa (a 40) cI 6 T1), (oa (a 29) cI 42 P1), (oa (a 30) cI 42 Q1), (oa (a 33) cI 42 ox), (oa (a 34) cI 42 oy), (oa (a 37) cZ 201 mt), (oa (a 38) cZ 201 wi), (oa (a 39) cZ 8040 ins)] := hD
              refine zz_i (v := pI (∀ k, k < eO (kd g).toInt m2 → fWy (ox 0).toInt (oy 0).toInt (cF40 cx f 0).toInt (cF40 cy f 0).toInt m2 (cF40 cx g) (cF40 cy g) k)) (rfl) ?_
              refine lv_if_eq (tgt := 213) hx hb dX11_isLawfulTo_206 (by decide) (fun c_7 => ?_) (fun c_7 => ?_)
              · have c_7 : ¬ (∀ k, k < eO (kd g).toInt m2 → fWy (ox 0).toInt (oy 0).toInt (cF40 cx f 0).toInt (cF40 cy f 0).toInt m2 (cF40 cx g) (cF40 cy g) k) := zp_0 c_7
                refine lv_iconst (v := 0) hx hb dX11_isLawfulTo_213 (by decide) ?_
                have hP9 := hP.sub (ws' := [(om k0 a (upd I0 31 z9) J0), (oa (a 1) cI 201 kd), (oa (a 11) cI 201 mn), (oa (a 12) cI 8040 cx), (oa (a 13) cI 8040 cy), (oa (a 32) cI 8 q_6), (oa (a 40) cI 6 T1), (oa (a 29) cI 42 P1), (oa (a 30) cI 42 Q1), (oa (a 33) cI 42 ox), (oa (a 34) cI 42 oy), (oa (a 37) cZ 201 mt), (oa (a 38) cZ 201 wi), (oa (a 39) cZ 8040 ins)]) [0, 1, 2, 3, 4, 5, 6, 7, 8, 9, 10, 11, 12, 13] rfl
                have hD9 := hD.sub (ws' := [(om k0 a (upd I0 31 z9) J0), (oa (a 1) cI 201 kd), (oa (a 11) cI 201 mn), (oa (a 12) cI 8040 cx), (oa (a 13) cI 8040 cy), (oa (a 32) cI 8 q_6), (oa (a 40) cI 6 T1), (oa (a 29) cI 42 P1), (oa (a 30) cI 42 Q1), (oa (a 33) cI 42 ox), (oa (a 34) cI 42 oy), (oa (a 37) cZ 201 mt), (oa (a 38) cZ 201 wi), (oa (a 39) cZ 8040 ins)]) [0, 1, 2, 3, 4, 5, 6, 7, 8, 9, 10, 11, 12, 13] (by decide) rfl
                rw [hQ9]
                exact W.zret (ty := .boolean) (v := 0) hx hb hr (rfl) (fun t ht hW => ⟨⟨congrArg (fun z => Outcome.returned (some (Value.int z))) (show (0 : Int32) = pI (lawTo (ox 0) (oy 0) (kd f).toInt n (cF40 cx f) (cF40 cy f) (kd g).toInt m2 (cF40 cx g) (cF40 cy g) MT WI IN (fun k => ∃ e, e < eO (kd f).toInt on ∧ swp on ox oy (cF40 cx f) (cF40 cy f) (cF40 cx g k).toInt (cF40 cy g k).toInt e)) from (zp_f (by first | exact ⟨zp_ieq.mp (by assumption), fun h => (by first | (exfalso; omega) | exact zp_ieq.mp (by assumption)), fun j hj => hall j (by omega), fun h => (by first | (exfalso; omega) | assumption)⟩ | exact fun h => absurd (h.2.2.2 (by omega)) (by assumption))).symm), z9, q_6, T1, P1, Q1, by rw [ht]; exact hP9, hD9⟩, hS.F ht⟩) hS.2.2 dX11_isLawfulTo_214
              · have c_7 : ∀ k, k < eO (kd g).toInt m2 → fWy (ox 0).toInt (oy 0).toInt (cF40 cx f 0).toInt (cF40 cy f 0).toInt m2 (cF40 cx g) (cF40 cy g) k := zp_1 c_7
                refine lv_iconst (v := 1) hx hb dX11_isLawfulTo_209 (by decide) ?_
                refine lv_goto (tgt := 214) hx hb dX11_isLawfulTo_210 (by decide) ?_
                have hP9 := hP.sub (ws' := [(om k0 a (upd I0 31 z9) J0), (oa (a 1) cI 201 kd), (oa (a 11) cI 201 mn), (oa (a 12) cI 8040 cx), (oa (a 13) cI 8040 cy), (oa (a 32) cI 8 q_6), (oa (a 40) cI 6 T1), (oa (a 29) cI 42 P1), (oa (a 30) cI 42 Q1), (oa (a 33) cI 42 ox), (oa (a 34) cI 42 oy), (oa (a 37) cZ 201 mt), (oa (a 38) cZ 201 wi), (oa (a 39) cZ 8040 ins)]) [0, 1, 2, 3, 4, 5, 6, 7, 8, 9, 10, 11, 12, 13] rfl
                have hD9 := hD.sub (ws' := [(om k0 a (upd I0 31 z9) J0), (oa (a 1) cI 201 kd), (oa (a 11) cI 201 mn), (oa (a 12) cI 8040 cx), (oa (a 13) cI 8040 cy), (oa (a 32) cI 8 q_6), (oa (a 40) cI 6 T1), (oa (a 29) cI 42 P1), (oa (a 30) cI 42 Q1), (oa (a 33) cI 42 ox), (oa (a 34) cI 42 oy), (oa (a 37) cZ 201 mt), (oa (a 38) cZ 201 wi), (oa (a 39) cZ 8040 ins)]) [0, 1, 2, 3, 4, 5, 6, 7, 8, 9, 10, 11, 12, 13] (by decide) rfl
                rw [hQ9]
                exact W.zret (ty := .boolean) (v := 1) hx hb hr (rfl) (fun t ht hW => ⟨⟨congrArg (fun z => Outcome.returned (some (Value.int z))) (show (1 : Int32) = pI (lawTo (ox 0) (oy 0) (kd f).toInt n (cF40 cx f) (cF40 cy f) (kd g).toInt m2 (cF40 cx g) (cF40 cy g) MT WI IN (fun k => ∃ e, e < eO (kd f).toInt on ∧ swp on ox oy (cF40 cx f) (cF40 cy f) (cF40 cx g k).toInt (cF40 cy g k).toInt e)) from (zp_t (by first | exact ⟨zp_ieq.mp (by assumption), fun h => (by first | (exfalso; omega) | exact zp_ieq.mp (by assumption)), fun j hj => hall j (by omega), fun h => (by first | (exfalso; omega) | assumption)⟩ | exact fun h => absurd (h.2.2.2 (by omega)) (by assumption))).symm), z9, q_6, T1, P1, Q1, by rw [ht]; exact hP9, hD9⟩, hS.F ht⟩) hS.2.2 dX11_isLawfulTo_214
          · have c_4 : ((k : Nat) : Int) < ((m2 : Nat) : Int) := zc_nle (nI_toInt (by omega)) (nI_toInt (by omega)) c_4
            have hk9 : k < m2 := (by omega)
            refine lv_aload_n hx hb dX11_isLawfulTo_73 rfl (lv_at hl 1 rfl) ?_
            refine va_get (D := (dC, dI)) (ci := 9) (v := .ref (a 12)) (C := RX11) (T := TX11) (N := 55) hx hb hts inX11 hown hK hP 0 rfl rfl 12 (by decide) (hts _ mw_1171) (fun _ h9 => h9) rfl dX11_isLawfulTo_74 ?_
            refine lv_bipush (v := 40) hx hb dX11_isLawfulTo_77 (by decide) ?_
            refine lv_iload_n hx hb dX11_isLawfulTo_79 rfl (lv_at hl 3 rfl) ?_
            refine lv_imul hx hb dX11_isLawfulTo_80 ?_
            refine zz_i (v := nI (40 * g)) (pk_mul 40 g) ?_
            refine lv_iload hx hb dX11_isLawfulTo_81 (lv_at hl 0 rfl) ?_
            refine lv_iadd hx hb dX11_isLawfulTo_83 ?_
            refine zz_i (v := nI (40 * g + k)) (nI_add (40 * g) k) ?_
            refine z_iald hx hb hK hP 3 0 rfl rfl (e := 40 * g + k) rfl (by omega) (by omega) dX11_isLawfulTo_84 ?_
            refine lv_istore (lv' := [(6, .int (cx (40 * g + k))), (5, .int (nI k)), (0, .ref k0), (1, .int (nI f)), (2, .int (nI g)), (3, .int (nI h)), (4, .int (-1))]) hx hb dX11_isLawfulTo_85 hl (by decide) rfl (fun ls hl => ?_)
            refine lv_aload_n hx hb dX11_isLawfulTo_87 rfl (lv_at hl 2 rfl) ?_
            refine va_get (D := (dC, dI)) (ci := 9) (v := .ref (a 13)) (C := RX11) (T := TX11) (N := 55) hx hb hts inX11 hown hK hP 0 rfl rfl 13 (by decide) (hts _ mw_1172) (fun _ h9 => h9) rfl dX11_isLawfulTo_88 ?_
            refine lv_bipush (v := 40) hx hb dX11_isLawfulTo_91 (by decide) ?_
            refine lv_iload_n hx hb dX11_isLawfulTo_93 rfl (lv_at hl 4 rfl) ?_
            refine lv_imul hx hb dX11_isLawfulTo_94 ?_
            refine zz_i (v := nI (40 * g)) (pk_mul 40 g) ?_
            refine lv_iload hx hb dX11_isLawfulTo_95 (lv_at hl 1 rfl) ?_
            refine lv_iadd hx hb dX11_isLawfulTo_97 ?_
            refine zz_i (v := nI (40 * g + k)) (nI_add (40 * g) k) ?_
            refine z_iald hx hb hK hP 4 0 rfl rfl (e := 40 * g + k) rfl (by omega) (by omega) dX11_isLawfulTo_98 ?_
            refine lv_istore (lv' := [(7, .int (cy (40 * g + k))), (6, .int (cx (40 * g + k))), (5, .int (nI k)), (0, .ref k0), (1, .int (nI f)), (2, .int (nI g)), (3, .int (nI h)), (4, .int (-1))]) hx hb dX11_isLawfulTo_99 hl (by decide) rfl (fun ls hl => ?_)
            refine lv_aload_n hx hb dX11_isLawfulTo_101 rfl (lv_at hl 3 rfl) ?_
            refine lv_iload_n hx hb dX11_isLawfulTo_102 rfl (lv_at hl 4 rfl) ?_
            have hPc := hP.sub (ws' := [(om k0 a (upd I0 31 z9) J0), (oa (a 1) cI 201 kd)]) [0, 1] rfl
            have hDc := hD.sub (ws' := [(om k0 a (upd I0 31 z9) J0), (oa (a 1) cI 201 kd)]) [0, 1] (by decide) rfl
            have hFc := va_free (wc := [(om k0 a (upd I0 31 z9) J0), (oa (a 1) cI 201 kd)]) hD hS hA [0, 1] rfl
            refine zcall (st1 := [.int (pI (5 ≤ (kd f).toInt))]) (va_runV (As := [.int (nI f)]) (rest := []) ⟨hx, hb, hml, hown, hts⟩ (k_M_isRing l dC dI cI cZ cF H.size k0 a (upd I0 31 z9) J0 f kd (by omega)) (cwV 1 hts (zz_gV mw_1365 mw_1367 mw_40 mw_110 mc_yX11_isRing) rfl rfl rfl (by decide +kernel) ⟨Nat.le_of_ble_eq_true rfl, Nat.le_of_ble_eq_true rfl⟩) (zPV2 (q0 := 0) (ci := 9) hPc hDc hK hXN rfl rfl) rfl rfl hl.1 rfl (lv_room (Nat.le_of_ble_eq_true rfl)) dX11_isLawfulTo_103 ⟨Nat.le_of_ble_eq_true rfl, Nat.le_of_ble_eq_true rfl⟩) hS hFc hFc rfl (fun t H1 locs ht hB hk1 hS => ?_)
            obtain ⟨hP1, hD1⟩ := hB
            rw [ht] at hP1
            obtain ⟨hP, hD⟩ := va_join (wr := [(oa (a 11) cI 201 mn), (oa (a 12) cI 8040 cx), (oa (a 13) cI 8040 cy), (oa (a 32) cI 8 S1), (oa (a 40) cI 6 T1), (oa (a 29) cI 42 P1), (oa (a 30) cI 42 Q1), (oa (a 33) cI 42 ox), (oa (a 34) cI 42 oy), (oa (a 37) cZ 201 mt), (oa (a 38) cZ 201 wi), (oa (a 39) cZ 8040 ins)]) (w1 := [(om k0 a (upd I0 31 z9) J0), (oa (a 1) cI 201 kd)]) hP hD [0, 1] [2, 3, 4, 5, 6, 7, 8, 9, 10, 11, 12, 13] rfl rfl (by decide) (by decide) hk1 hFc hP1 hD1
            clear hk1 hPc hDc hFc hP1 hD1 ht
            generalize H1 = H at hP hS ⊢
            have hP := hP.sub (ws' := [(om k0 a (upd I0 31 z9) J0), (oa (a 1) cI 201 kd), (oa (a 11) cI 201 mn), (oa (a 12) cI 8040 cx), (oa (a 13) cI 8040 cy), (oa (a 32) cI 8 S1), (oa (a 40) cI 6 T1), (oa (a 29) cI 42 P1), (oa (a 30) cI 42 Q1), (oa (a 33) cI 42 ox), (oa (a 34) cI 42 oy), (oa (a 37) cZ 201 mt), (oa (a 38) cZ 201 wi), (oa (a 39) cZ 8040 ins)]) [12, 13, 0, 1, 2, 3, 4, 5, 6, 7, 8, 9, 10, 11] rfl
            have hD := hD.sub (ws' := [(om k0 a (upd I0 31 z9) J0), (oa (a 1) cI 201 kd), (oa (a 11) cI 201 mn), (oa (a 12) cI 8040 cx), (oa (a 13) cI 8040 cy), (oa (a 32) cI 8 S1), (oa (a 40) cI 6 T1), (oa (a 29) cI 42 P1), (oa (a 30) cI 42 Q1), (oa (a 33) cI 42 ox), (oa (a 34) cI 42 oy), (oa (a 37) cZ 201 mt), (oa (a 38) cZ 201 wi), (oa (a 39) cZ 8040 ins)]) [12, 13, 0, 1, 2, 3, 4, 5, 6, 7, 8, 9, 10, 11] (by decide) rfl
            have hP : va_P (dC, dI) classes [(om k0 a (upd I0 31 z9) J0), (oa (a 1) cI 201 kd), (oa (a 11) cI 201 mn), (oa (a 12) cI 8040 cx), (oa (a 13) cI 8040 cy), (oa (a 32) cI 8 S1), (oa (a 40) cI 6 T1), (oa (a 29) cI 42 P1), (oa (a 30) cI 42 Q1), (oa (a 33) cI 42 ox), (oa (a 34) cI 42 oy), (oa (a 37) cZ 201 mt), (oa (a 38) cZ 201 wi), (oa (a 39) cZ 8040 ins)] H := hP
            have hD : va_D A [(om k0 a (upd I0 31 z9) J0), (oa (a 1) cI 201 kd), (oa (a 11) cI 201 mn), (oa (a 12) cI 8040 cx), (oa (a 13) cI 8040 cy), (oa (a 32) cI 8 S1), (oa (a 40) cI 6 T1), (oa (a 29) cI 42 P1), (oa (a 30) cI 42 Q1), (oa (a 33) cI 42 ox), (oa (a 34) cI 42 oy), (oa (a 37) cZ 201 mt), (oa (a 38) cZ 201 wi), (oa (a 39) cZ 8040 ins)] := hD
            refine lv_if_eq (tgt := 135) hx hb dX11_isLawfulTo_106 (by decide) (fun c_8 => ?_) (fun c_8 => ?_)
            · have c_8 : ¬ (5 ≤ (kd f).toInt) := zp_0 c_8
              refine lv_aload_n hx hb dX11_isLawfulTo_135 rfl (lv_at hl 3 rfl) ?_
              refine va_get (D := (dC, dI)) (ci := 9) (v := .ref (a 1)) (C := RX11) (T := TX11) (N := 55) hx hb hts inX11 hown hK hP 0 rfl rfl 1 (by decide) (hts _ mw_1160) (fun _ h9 => h9) rfl dX11_isLawfulTo_136 ?_
              refine lv_iload_n hx hb dX11_isLawfulTo_139 rfl (lv_at hl 4 rfl) ?_
              refine z_iald hx hb hK hP 1 0 rfl rfl (e := f) rfl (by omega) (by omega) dX11_isLawfulTo_140 ?_
              refine lv_if_eq (tgt := 185) hx hb dX11_isLawfulTo_141 (by decide) (fun c_9 => ?_) (fun c_9 => ?_)
              · have c_9 : (kd f).toInt = 0 := zc_eq rfl (by decide) c_9
                refine lv_iinc (v := nI (k + 1)) (lv' := [(5, .int (nI (k + 1))), (7, .int (cy (40 * g + k))), (6, .int (cx (40 * g + k))), (0, .ref k0), (1, .int (nI f)), (2, .int (nI g)), (3, .int (nI h)), (4, .int (-1))]) hx hb dX11_isLawfulTo_185 hl (k := 2) rfl (nI_add k 1) (by decide) rfl (fun ls hl => ?_)
                refine lv_goto (tgt := 62) hx hb dX11_isLawfulTo_188 (by decide) ?_
                exact ih_62 (k + 1) z9 S1 T1 P1 Q1 H locs ls (by omega) (by omega) (by intro j hj; rcases Nat.lt_or_ge j k with h | h; exact hall j h; obtain rfl : j = k := (by omega); exact ⟨fun h5 => (by first | (exfalso; omega) | exact zp_ieq.mp (by assumption)), fun h0 => (by first | (exfalso; omega) | exact id | assumption)⟩) hP hD hS (lv_sub hl [0, 3, 4, 5, 6, 7] rfl)
              · have c_9 : ¬ (kd f).toInt = 0 := zc_ne rfl (by decide) c_9
                refine lv_iload_n hx hb dX11_isLawfulTo_144 rfl (lv_at hl 6 rfl) ?_
                refine lv_iconst (v := 5) hx hb dX11_isLawfulTo_145 (by decide) ?_
                refine lv_icmp_eq (tgt := 185) hx hb dX11_isLawfulTo_146 (by decide) (fun c_10 => ?_) (fun c_10 => ?_)
                · have c_10 : ((h : Nat) : Int) = 5 := zc_eq (nI_toInt (by omega)) (by decide) c_10
                  exfalso; omega
                · have c_10 : ¬ ((h : Nat) : Int) = 5 := zc_ne (nI_toInt (by omega)) (by decide) c_10
                  refine lv_iload hx hb dX11_isLawfulTo_149 (lv_at hl 7 rfl) ?_
                  refine lv_iconst (v := (-1)) hx hb dX11_isLawfulTo_151 (by decide) ?_
                  refine lv_icmp_eq (tgt := 171) hx hb dX11_isLawfulTo_152 (by decide) (fun c_11 => ?_) (fun c_11 => ?_)
                  · refine lv_aload_n hx hb dX11_isLawfulTo_171 rfl (lv_at hl 3 rfl) ?_
                    refine lv_iload_n hx hb dX11_isLawfulTo_172 rfl (lv_at hl 4 rfl) ?_
                    refine lv_iload hx hb dX11_isLawfulTo_173 (lv_at hl 1 rfl) ?_
                    refine lv_iload hx hb dX11_isLawfulTo_175 (lv_at hl 0 rfl) ?_
                    have hPc := hP.sub (ws' := [(om k0 a (upd I0 31 z9) J0), (oa (a 1) cI 201 kd), (oa (a 11) cI 201 mn), (oa (a 12) cI 8040 cx), (oa (a 13) cI 8040 cy), (oa (a 40) cI 6 T1), (oa (a 29) cI 42 P1), (oa (a 30) cI 42 Q1), (oa (a 33) cI 42 ox), (oa (a 34) cI 42 oy)]) [0, 1, 2, 3, 4, 6, 7, 8, 9, 10] rfl
                    have hDc := hD.sub (ws' := [(om k0 a (upd I0 31 z9) J0), (oa (a 1) cI 201 kd), (oa (a 11) cI 201 mn), (oa (a 12) cI 8040 cx), (oa (a 13) cI 8040 cy), (oa (a 40) cI 6 T1), (oa (a 29) cI 42 P1), (oa (a 30) cI 42 Q1), (oa (a 33) cI 42 ox), (oa (a 34) cI 42 oy)]) [0, 1, 2, 3, 4, 6, 7, 8, 9, 10] (by decide) rfl
                    have hFc := va_free (wc := [(om k0 a (upd I0 31 z9) J0), (oa (a 1) cI 201 kd), (oa (a 11) cI 201 mn), (oa (a 12) cI 8040 cx), (oa (a 13) cI 8040 cy), (oa (a 40) cI 6 T1), (oa (a 29) cI 42 P1), (oa (a 30) cI 42 Q1), (oa (a 33) cI 42 ox), (oa (a 34) cI 42 oy)]) hD hS hA [0, 1, 2, 3, 4, 6, 7, 8, 9, 10] rfl
                    refine zcall (st1 := [.int (pI (∃ e9, e9 < eO (kd f).toInt on ∧ swp on ox oy (cF40 cx f) (cF40 cy f) (cx (40 * g + k)).toInt (cy (40 * g + k)).toInt e9))]) (va_runV (As := [.int (nI f), .int (cx (40 * g + k)), .int (cy (40 * g + k))]) (rest := []) ⟨hx, hb, hml, hown, hts⟩ (k_M_isSwept l dC dI cI cZ cF H.size k0 a (upd I0 31 z9) J0 f on (cx (40 * g + k)) (cy (40 * g + k)) kd mn cx cy T1 P1 Q1 ox oy (hon) (by omega) (by omega) (by rw [← hon2]; assumption) (by omega) (by rw [← hon2]; assumption) (by assumption) ((hp_g k hk9).1) ((hp_g k hk9).2)) (cwV 3 hts (zz_gV mw_1494 mw_1496 mw_67 mw_110 mc_yX11_isSwept) rfl rfl rfl (by decide +kernel) ⟨Nat.le_of_ble_eq_true rfl, Nat.le_of_ble_eq_true rfl⟩) (zPV2 (q0 := 0) (ci := 9) hPc hDc hK hXN rfl rfl) rfl rfl hl.1 rfl (lv_room (Nat.le_of_ble_eq_true rfl)) dX11_isLawfulTo_177 ⟨Nat.le_of_ble_eq_true rfl, Nat.le_of_ble_eq_true rfl⟩) hS hFc hFc rfl (fun t H1 locs ht hB hk1 hS => ?_)
                    obtain ⟨q_12, q_13, q_14, hP1, hD1⟩ := hB
                    rw [ht] at hP1
                    obtain ⟨hP, hD⟩ := va_join (wr := [(oa (a 32) cI 8 S1), (oa (a 37) cZ 201 mt), (oa (a 38) cZ 201 wi), (oa (a 39) cZ 8040 ins)]) (w1 := [(om k0 a (upd I0 31 (nI on)) J0), (oa (a 1) cI 201 kd), (oa (a 11) cI 201 mn), (oa (a 12) cI 8040 cx), (oa (a 13) cI 8040 cy), (oa (a 40) cI 6 q_12), (oa (a 29) cI 42 q_13), (oa (a 30) cI 42 q_14), (oa (a 33) cI 42 ox), (oa (a 34) cI 42 oy)]) hP hD [0, 1, 2, 3, 4, 6, 7, 8, 9, 10] [5, 11, 12, 13] rfl rfl (by decide) (by decide) hk1 hFc hP1 hD1
                    clear hk1 hPc hDc hFc hP1 hD1 ht
                    generalize H1 = H at hP hS ⊢
                    have hP := hP.sub (ws' := [(om k0 a (upd I0 31 (nI on)) J0), (oa (a 1) cI 201 kd), (oa (a 11) cI 201 mn), (oa (a 12) cI 8040 cx), (oa (a 13) cI 8040 cy), (oa (a 32) cI 8 S1), (oa (a 40) cI 6 q_12), (oa (a 29) cI 42 q_13), (oa (a 30) cI 42 q_14), (oa (a 33) cI 42 ox), (oa (a 34) cI 42 oy), (oa (a 37) cZ 201 mt), (oa (a 38) cZ 201 wi), (oa (a 39) cZ 8040 ins)]) [4, 5, 6, 7, 8, 0, 9, 10, 11, 12, 13, 1, 2, 3] rfl
                    have hD := hD.sub (ws' := [(om k0 a (upd I0 31 (nI on)) J0), (oa (a 1) cI 201 kd), (oa (a 11) cI 201 mn), (oa (a 12) cI 8040 cx), (oa (a 13) cI 8040 cy), (oa (a 32) cI 8 S1), (oa (a 40) cI 6 q_12), (oa (a 29) cI 42 q_13), (oa (a 30) cI 42 q_14), (oa (a 33) cI 42 ox), (oa (a 34) cI 42 oy), (oa (a 37) cZ 201 mt), (oa (a 38) cZ 201 wi), (oa (a 39) cZ 8040 ins)]) [4, 5, 6, 7, 8, 0, 9, 10, 11, 12, 13, 1, 2, 3] (by decide) rfl
                    have hP : va_P (dC, dI) classes [(om k0 a (upd I0 31 (nI on)) J0), (oa (a 1) cI 201 kd), (oa (a 11) cI 201 mn), (oa (a 12) cI 8040 cx), (oa (a 13) cI 8040 cy), (oa (a 32) cI 8 S1), (oa (a 40) cI 6 q_12), (oa (a 29) cI 42 q_13), (oa (a 30) cI 42 q_14), (oa (a 33) cI 42 ox), (oa (a 34) cI 42 oy), (oa (a 37) cZ 201 mt), (oa (a 38) cZ 201 wi), (oa (a 39) cZ 8040 ins)] H := hP
                    have hD : va_D A [(om k0 a (upd I0 31 (nI on)) J0), (oa (a 1) cI 201 kd), (oa (a 11) cI 201 mn), (oa (a 12) cI 8040 cx), (oa (a 13) cI 8040 cy), (oa (a 32) cI 8 S1), (oa (a 40) cI 6 q_12), (oa (a 29) cI 42 q_13), (oa (a 30) cI 42 q_14), (oa (a 33) cI 42 ox), (oa (a 34) cI 42 oy), (oa (a 37) cZ 201 mt), (oa (a 38) cZ 201 wi), (oa (a 39) cZ 8040 ins)] := hD
                    refine zz_i (v := pI ((fun k => ∃ e, e < eO (kd f).toInt on ∧ swp on ox oy (cF40 cx f) (cF40 cy f) (cF40 cx g k).toInt (cF40 cy g k).toInt e) k)) (rfl) ?_
                    refine lv_if_eq (tgt := 185) hx hb dX11_isLawfulTo_180 (by decide) (fun c_15 => ?_) (fun c_15 => ?_)
                    · have c_15 : ¬ ((fun k => ∃ e, e < eO (kd f).toInt on ∧ swp on ox oy (cF40 cx f) (cF40 cy f) (cF40 cx g k).toInt (cF40 cy g k).toInt e) k) := zp_0 c_15
                      refine lv_iinc (v := nI (k + 1)) (lv' := [(5, .int (nI (k + 1))), (7, .int (cy (40 * g + k))), (6, .int (cx (40 * g + k))), (0, .ref k0), (1, .int (nI f)), (2, .int (nI g)), (3, .int (nI h)), (4, .int (-1))]) hx hb dX11_isLawfulTo_185 hl (k := 2) rfl (nI_add k 1) (by decide) rfl (fun ls hl => ?_)
                      refine lv_goto (tgt := 62) hx hb dX11_isLawfulTo_188 (by decide) ?_
                      exact ih_62 (k + 1) (nI on) S1 q_12 q_13 q_14 H locs ls (by omega) (by omega) (by intro j hj; rcases Nat.lt_or_ge j k with h | h; exact hall j h; obtain rfl : j = k := (by omega); exact ⟨fun h5 => (by first | (exfalso; omega) | exact zp_ieq.mp (by assumption)), fun h0 => (by first | (exfalso; omega) | exact id | assumption)⟩) hP hD hS (lv_sub hl [0, 3, 4, 5, 6, 7] rfl)
                    · have c_15 : (fun k => ∃ e, e < eO (kd f).toInt on ∧ swp on ox oy (cF40 cx f) (cF40 cy f) (cF40 cx g k).toInt (cF40 cy g k).toInt e) k := zp_1 c_15
                      refine lv_iconst (v := 0) hx hb dX11_isLawfulTo_183 (by decide) ?_
                      have hP9 := hP.sub (ws' := [(om k0 a (upd I0 31 (nI on)) J0), (oa (a 1) cI 201 kd), (oa (a 11) cI 201 mn), (oa (a 12) cI 8040 cx), (oa (a 13) cI 8040 cy), (oa (a 32) cI 8 S1), (oa (a 40) cI 6 q_12), (oa (a 29) cI 42 q_13), (oa (a 30) cI 42 q_14), (oa (a 33) cI 42 ox), (oa (a 34) cI 42 oy), (oa (a 37) cZ 201 mt), (oa (a 38) cZ 201 wi), (oa (a 39) cZ 8040 ins)]) [0, 1, 2, 3, 4, 5, 6, 7, 8, 9, 10, 11, 12, 13] rfl
                      have hD9 := hD.sub (ws' := [(om k0 a (upd I0 31 (nI on)) J0), (oa (a 1) cI 201 kd), (oa (a 11) cI 201 mn), (oa (a 12) cI 8040 cx), (oa (a 13) cI 8040 cy), (oa (a 32) cI 8 S1), (oa (a 40) cI 6 q_12), (oa (a 29) cI 42 q_13), (oa (a 30) cI 42 q_14), (oa (a 33) cI 42 ox), (oa (a 34) cI 42 oy), (oa (a 37) cZ 201 mt), (oa (a 38) cZ 201 wi), (oa (a 39) cZ 8040 ins)]) [0, 1, 2, 3, 4, 5, 6, 7, 8, 9, 10, 11, 12, 13] (by decide) rfl
                      rw [hQ9]
                      exact W.zret (ty := .boolean) (v := 0) hx hb hr (rfl) (fun t ht hW => ⟨⟨congrArg (fun z => Outcome.returned (some (Value.int z))) (show (0 : Int32) = pI (lawTo (ox 0) (oy 0) (kd f).toInt n (cF40 cx f) (cF40 cy f) (kd g).toInt m2 (cF40 cx g) (cF40 cy g) MT WI IN (fun k => ∃ e, e < eO (kd f).toInt on ∧ swp on ox oy (cF40 cx f) (cF40 cy f) (cF40 cx g k).toInt (cF40 cy g k).toInt e)) from (zp_f (fun h => (h.2.2.1 k (by omega)).2 (by omega) (by assumption))).symm), (nI on), S1, q_12, q_13, q_14, by rw [ht]; exact hP9, hD9⟩, hS.F ht⟩) hS.2.2 dX11_isLawfulTo_184
                  · exact absurd (by decide) c_11
            · have c_8 : 5 ≤ (kd f).toInt := zp_1 c_8
              refine lv_aload_n hx hb dX11_isLawfulTo_109 rfl (lv_at hl 3 rfl) ?_
              refine lv_iload_n hx hb dX11_isLawfulTo_110 rfl (lv_at hl 4 rfl) ?_
              refine lv_iload hx hb dX11_isLawfulTo_111 (lv_at hl 1 rfl) ?_
              refine lv_iload hx hb dX11_isLawfulTo_113 (lv_at hl 0 rfl) ?_
              have hPc := hP.sub (ws' := [(om k0 a (upd I0 31 z9) J0), (oa (a 1) cI 201 kd), (oa (a 11) cI 201 mn), (oa (a 12) cI 8040 cx), (oa (a 13) cI 8040 cy), (oa (a 32) cI 8 S1)]) [0, 1, 2, 3, 4, 5] rfl
              have hDc := hD.sub (ws' := [(om k0 a (upd I0 31 z9) J0), (oa (a 1) cI 201 kd), (oa (a 11) cI 201 mn), (oa (a 12) cI 8040 cx), (oa (a 13) cI 8040 cy), (oa (a 32) cI 8 S1)]) [0, 1, 2, 3, 4, 5] (by decide) rfl
              have hFc := va_free (wc := [(om k0 a (upd I0 31 z9) J0), (oa (a 1) cI 201 kd), (oa (a 11) cI 201 mn), (oa (a 12) cI 8040 cx), (oa (a 13) cI 8040 cy), (oa (a 32) cI 8 S1)]) hD hS hA [0, 1, 2, 3, 4, 5] rfl
              refine zcall (st1 := [.int (pI (¬ (∃ i, i < eO (kd f).toInt n ∧ eOn n (cF40 cx f) (cF40 cy f) i (cx (40 * g + k)).toInt (cy (40 * g + k)).toInt) ∧ par2 (eTg n (cF40 cx f) (cF40 cy f) (cx (40 * g + k)).toInt (cy (40 * g + k)).toInt) (eO (kd f).toInt n)))]) (va_runV (As := [.int (nI f), .int (cx (40 * g + k)), .int (cy (40 * g + k))]) (rest := []) ⟨hx, hb, hml, hown, hts⟩ (k_M_isInside l dC dI cI cZ cF H.size k0 a (upd I0 31 z9) J0 f n kd mn cx cy S1 (cx (40 * g + k)) (cy (40 * g + k)) (by omega) (by assumption) (by omega) (by assumption) ((hp_g k hk9).1) ((hp_g k hk9).2)) (cwV 3 hts (zz_gV mw_1471 mw_1473 mw_62 mw_110 mc_yX11_isInside) rfl rfl rfl (by decide +kernel) ⟨Nat.le_of_ble_eq_true rfl, Nat.le_of_ble_eq_true rfl⟩) (zPV2 (q0 := 0) (ci := 9) hPc hDc hK hXN rfl rfl) rfl rfl hl.1 rfl (lv_room (Nat.le_of_ble_eq_true rfl)) dX11_isLawfulTo_115 ⟨Nat.le_of_ble_eq_true rfl, Nat.le_of_ble_eq_true rfl⟩) hS hFc hFc rfl (fun t H1 locs ht hB hk1 hS => ?_)
              obtain ⟨q_16, hP1, hD1⟩ := hB
              rw [ht] at hP1
              obtain ⟨hP, hD⟩ := va_join (wr := [(oa (a 40) cI 6 T1), (oa (a 29) cI 42 P1), (oa (a 30) cI 42 Q1), (oa (a 33) cI 42 ox), (oa (a 34) cI 42 oy), (oa (a 37) cZ 201 mt), (oa (a 38) cZ 201 wi), (oa (a 39) cZ 8040 ins)]) (w1 := [(om k0 a (upd I0 31 z9) J0), (oa (a 1) cI 201 kd), (oa (a 11) cI 201 mn), (oa (a 12) cI 8040 cx), (oa (a 13) cI 8040 cy), (oa (a 32) cI 8 q_16)]) hP hD [0, 1, 2, 3, 4, 5] [6, 7, 8, 9, 10, 11, 12, 13] rfl rfl (by decide) (by decide) hk1 hFc hP1 hD1
              clear hk1 hPc hDc hFc hP1 hD1 ht
              generalize H1 = H at hP hS ⊢
              have hP := hP.sub (ws' := [(om k0 a (upd I0 31 z9) J0), (oa (a 1) cI 201 kd), (oa (a 11) cI 201 mn), (oa (a 12) cI 8040 cx), (oa (a 13) cI 8040 cy), (oa (a 32) cI 8 q_16), (oa (a 40) cI 6 T1), (oa (a 29) cI 42 P1), (oa (a 30) cI 42 Q1), (oa (a 33) cI 42 ox), (oa (a 34) cI 42 oy), (oa (a 37) cZ 201 mt), (oa (a 38) cZ 201 wi), (oa (a 39) cZ 8040 ins)]) [8, 9, 10, 11, 12, 13, 0, 1, 2, 3, 4, 5, 6, 7] rfl
              have hD := hD.sub (ws' := [(om k0 a (upd I0 31 z9) J0), (oa (a 1) cI 201 kd), (oa (a 11) cI 201 mn), (oa (a 12) cI 8040 cx), (oa (a 13) cI 8040 cy), (oa (a 32) cI 8 q_16), (oa (a 40) cI 6 T1), (oa (a 29) cI 42 P1), (oa (a 30) cI 42 Q1), (oa (a 33) cI 42 ox), (oa (a 34) cI 42 oy), (oa (a 37) cZ 201 mt), (oa (a 38) cZ 201 wi), (oa (a 39) cZ 8040 ins)]) [8, 9, 10, 11, 12, 13, 0, 1, 2, 3, 4, 5, 6, 7] (by decide) rfl
              have hP : va_P (dC, dI) classes [(om k0 a (upd I0 31 z9) J0), (oa (a 1) cI 201 kd), (oa (a 11) cI 201 mn), (oa (a 12) cI 8040 cx), (oa (a 13) cI 8040 cy), (oa (a 32) cI 8 q_16), (oa (a 40) cI 6 T1), (oa (a 29) cI 42 P1), (oa (a 30) cI 42 Q1), (oa (a 33) cI 42 ox), (oa (a 34) cI 42 oy), (oa (a 37) cZ 201 mt), (oa (a 38) cZ 201 wi), (oa (a 39) cZ 8040 ins)] H := hP
              have hD : va_D A [(om k0 a (upd I0 31 z9) J0), (oa (a 1) cI 201 kd), (oa (a 11) cI 201 mn), (oa (a 12) cI 8040 cx), (oa (a 13) cI 8040 cy), (oa (a 32) cI 8 q_16), (oa (a 40) cI 6 T1), (oa (a 29) cI 42 P1), (oa (a 30) cI 42 Q1), (oa (a 33) cI 42 ox), (oa (a 34) cI 42 oy), (oa (a 37) cZ 201 mt), (oa (a 38) cZ 201 wi), (oa (a 39) cZ 8040 ins)] := hD
              refine zz_i (v := pI (inF (kd f).toInt n (cF40 cx f) (cF40 cy f) (cF40 cx g k).toInt (cF40 cy g k).toInt)) (rfl) ?_
              refine lv_aload_n hx hb dX11_isLawfulTo_118 rfl (lv_at hl 3 rfl) ?_
              refine va_get (D := (dC, dI)) (ci := 9) (v := .ref (a 39)) (C := RX11) (T := TX11) (N := 55) hx hb hts inX11 hown hK hP 0 rfl rfl 39 (by decide) (hts _ mw_1198) (fun _ h9 => h9) rfl dX11_isLawfulTo_119 ?_
              refine lv_bipush (v := 40) hx hb dX11_isLawfulTo_122 (by decide) ?_
              refine lv_iload_n hx hb dX11_isLawfulTo_124 rfl (lv_at hl 5 rfl) ?_
              refine lv_imul hx hb dX11_isLawfulTo_125 ?_
              refine zz_i (v := nI (40 * g)) (pk_mul 40 g) ?_
              refine lv_iload hx hb dX11_isLawfulTo_126 (lv_at hl 2 rfl) ?_
              refine lv_iadd hx hb dX11_isLawfulTo_128 ?_
              refine zz_i (v := nI (40 * g + k)) (nI_add (40 * g) k) ?_
              refine z_zald hx hb hK hP 13 1 rfl rfl (e := 40 * g + k) rfl (by omega) (by omega) dX11_isLawfulTo_129 ?_
              refine zz_i (v := pI (IN k)) (hin k (by omega) (by omega)) ?_
              refine lv_icmp_eq (tgt := 135) hx hb dX11_isLawfulTo_130 (by decide) (fun c_17 => ?_) (fun c_17 => ?_)
              · have c_17 : (pI (inF (kd f).toInt n (cF40 cx f) (cF40 cy f) (cF40 cx g k).toInt (cF40 cy g k).toInt)).toInt = (pI (IN k)).toInt := zc_eq rfl rfl c_17
                refine lv_aload_n hx hb dX11_isLawfulTo_135 rfl (lv_at hl 3 rfl) ?_
                refine va_get (D := (dC, dI)) (ci := 9) (v := .ref (a 1)) (C := RX11) (T := TX11) (N := 55) hx hb hts inX11 hown hK hP 0 rfl rfl 1 (by decide) (hts _ mw_1160) (fun _ h9 => h9) rfl dX11_isLawfulTo_136 ?_
                refine lv_iload_n hx hb dX11_isLawfulTo_139 rfl (lv_at hl 4 rfl) ?_
                refine z_iald hx hb hK hP 1 0 rfl rfl (e := f) rfl (by omega) (by omega) dX11_isLawfulTo_140 ?_
                refine lv_if_eq (tgt := 185) hx hb dX11_isLawfulTo_141 (by decide) (fun c_18 => ?_) (fun c_18 => ?_)
                · have c_18 : (kd f).toInt = 0 := zc_eq rfl (by decide) c_18
                  refine lv_iinc (v := nI (k + 1)) (lv' := [(5, .int (nI (k + 1))), (7, .int (cy (40 * g + k))), (6, .int (cx (40 * g + k))), (0, .ref k0), (1, .int (nI f)), (2, .int (nI g)), (3, .int (nI h)), (4, .int (-1))]) hx hb dX11_isLawfulTo_185 hl (k := 2) rfl (nI_add k 1) (by decide) rfl (fun ls hl => ?_)
                  refine lv_goto (tgt := 62) hx hb dX11_isLawfulTo_188 (by decide) ?_
                  exact ih_62 (k + 1) z9 q_16 T1 P1 Q1 H locs ls (by omega) (by omega) (by intro j hj; rcases Nat.lt_or_ge j k with h | h; exact hall j h; obtain rfl : j = k := (by omega); exact ⟨fun h5 => (by first | (exfalso; omega) | exact zp_ieq.mp (by assumption)), fun h0 => (by first | (exfalso; omega) | exact id | assumption)⟩) hP hD hS (lv_sub hl [0, 3, 4, 5, 6, 7] rfl)
                · have c_18 : ¬ (kd f).toInt = 0 := zc_ne rfl (by decide) c_18
                  refine lv_iload_n hx hb dX11_isLawfulTo_144 rfl (lv_at hl 6 rfl) ?_
                  refine lv_iconst (v := 5) hx hb dX11_isLawfulTo_145 (by decide) ?_
                  refine lv_icmp_eq (tgt := 185) hx hb dX11_isLawfulTo_146 (by decide) (fun c_19 => ?_) (fun c_19 => ?_)
                  · have c_19 : ((h : Nat) : Int) = 5 := zc_eq (nI_toInt (by omega)) (by decide) c_19
                    exfalso; omega
                  · have c_19 : ¬ ((h : Nat) : Int) = 5 := zc_ne (nI_toInt (by omega)) (by decide) c_19
                    refine lv_iload hx hb dX11_isLawfulTo_149 (lv_at hl 7 rfl) ?_
                    refine lv_iconst (v := (-1)) hx hb dX11_isLawfulTo_151 (by decide) ?_
                    refine lv_icmp_eq (tgt := 171) hx hb dX11_isLawfulTo_152 (by decide) (fun c_20 => ?_) (fun c_20 => ?_)
                    · refine lv_aload_n hx hb dX11_isLawfulTo_171 rfl (lv_at hl 3 rfl) ?_
                      refine lv_iload_n hx hb dX11_isLawfulTo_172 rfl (lv_at hl 4 rfl) ?_
                      refine lv_iload hx hb dX11_isLawfulTo_173 (lv_at hl 1 rfl) ?_
                      refine lv_iload hx hb dX11_isLawfulTo_175 (lv_at hl 0 rfl) ?_
                      have hPc := hP.sub (ws' := [(om k0 a (upd I0 31 z9) J0), (oa (a 1) cI 201 kd), (oa (a 11) cI 201 mn), (oa (a 12) cI 8040 cx), (oa (a 13) cI 8040 cy), (oa (a 40) cI 6 T1), (oa (a 29) cI 42 P1), (oa (a 30) cI 42 Q1), (oa (a 33) cI 42 ox), (oa (a 34) cI 42 oy)]) [0, 1, 2, 3, 4, 6, 7, 8, 9, 10] rfl
                      have hDc := hD.sub (ws' := [(om k0 a (upd I0 31 z9) J0), (oa (a 1) cI 201 kd), (oa (a 11) cI 201 mn), (oa (a 12) cI 8040 cx), (oa (a 13) cI 8040 cy), (oa (a 40) cI 6 T1), (oa (a 29) cI 42 P1), (oa (a 30) cI 42 Q1), (oa (a 33) cI 42 ox), (oa (a 34) cI 42 oy)]) [0, 1, 2, 3, 4, 6, 7, 8, 9, 10] (by decide) rfl
                      have hFc := va_free (wc := [(om k0 a (upd I0 31 z9) J0), (oa (a 1) cI 201 kd), (oa (a 11) cI 201 mn), (oa (a 12) cI 8040 cx), (oa (a 13) cI 8040 cy), (oa (a 40) cI 6 T1), (oa (a 29) cI 42 P1), (oa (a 30) cI 42 Q1), (oa (a 33) cI 42 ox), (oa (a 34) cI 42 oy)]) hD hS hA [0, 1, 2, 3, 4, 6, 7, 8, 9, 10] rfl
                      refine zcall (st1 := [.int (pI (∃ e9, e9 < eO (kd f).toInt on ∧ swp on ox oy (cF40 cx f) (cF40 cy f) (cx (40 * g + k)).toInt (cy (40 * g + k)).toInt e9))]) (va_runV (As := [.int (nI f), .int (cx (40 * g + k)), .int (cy (40 * g + k))]) (rest := []) ⟨hx, hb, hml, hown, hts⟩ (k_M_isSwept l dC dI cI cZ cF H.size k0 a (upd I0 31 z9) J0 f on (cx (40 * g + k)) (cy (40 * g + k)) kd mn cx cy T1 P1 Q1 ox oy (hon) (by omega) (by omega) (by rw [← hon2]; assumption) (by omega) (by rw [← hon2]; assumption) (by assumption) ((hp_g k hk9).1) ((hp_g k hk9).2)) (cwV 3 hts (zz_gV mw_1494 mw_1496 mw_67 mw_110 mc_yX11_isSwept) rfl rfl rfl (by decide +kernel) ⟨Nat.le_of_ble_eq_true rfl, Nat.le_of_ble_eq_true rfl⟩) (zPV2 (q0 := 0) (ci := 9) hPc hDc hK hXN rfl rfl) rfl rfl hl.1 rfl (lv_room (Nat.le_of_ble_eq_true rfl)) dX11_isLawfulTo_177 ⟨Nat.le_of_ble_eq_true rfl, Nat.le_of_ble_eq_true rfl⟩) hS hFc hFc rfl (fun t H1 locs ht hB hk1 hS => ?_)
                      obtain ⟨q_21, q_22, q_23, hP1, hD1⟩ := hB
                      rw [ht] at hP1
                      obtain ⟨hP, hD⟩ := va_join (wr := [(oa (a 32) cI 8 q_16), (oa (a 37) cZ 201 mt), (oa (a 38) cZ 201 wi), (oa (a 39) cZ 8040 ins)]) (w1 := [(om k0 a (upd I0 31 (nI on)) J0), (oa (a 1) cI 201 kd), (oa (a 11) cI 201 mn), (oa (a 12) cI 8040 cx), (oa (a 13) cI 8040 cy), (oa (a 40) cI 6 q_21), (oa (a 29) cI 42 q_22), (oa (a 30) cI 42 q_23), (oa (a 33) cI 42 ox), (oa (a 34) cI 42 oy)]) hP hD [0, 1, 2, 3, 4, 6, 7, 8, 9, 10] [5, 11, 12, 13] rfl rfl (by decide) (by decide) hk1 hFc hP1 hD1
                      clear hk1 hPc hDc hFc hP1 hD1 ht
                      generalize H1 = H at hP hS ⊢
                      have hP := hP.sub (ws' := [(om k0 a (upd I0 31 (nI on)) J0), (oa (a 1) cI 201 kd), (oa (a 11) cI 201 mn), (oa (a 12) cI 8040 cx), (oa (a 13) cI 8040 cy), (oa (a 32) cI 8 q_16), (oa (a 40) cI 6 q_21), (oa (a 29) cI 42 q_22), (oa (a 30) cI 42 q_23), (oa (a 33) cI 42 ox), (oa (a 34) cI 42 oy), (oa (a 37) cZ 201 mt), (oa (a 38) cZ 201 wi), (oa (a 39) cZ 8040 ins)]) [4, 5, 6, 7, 8, 0, 9, 10, 11, 12, 13, 1, 2, 3] rfl
                      have hD := hD.sub (ws' := [(om k0 a (upd I0 31 (nI on)) J0), (oa (a 1) cI 201 kd), (oa (a 11) cI 201 mn), (oa (a 12) cI 8040 cx), (oa (a 13) cI 8040 cy), (oa (a 32) cI 8 q_16), (oa (a 40) cI 6 q_21), (oa (a 29) cI 42 q_22), (oa (a 30) cI 42 q_23), (oa (a 33) cI 42 ox), (oa (a 34) cI 42 oy), (oa (a 37) cZ 201 mt), (oa (a 38) cZ 201 wi), (oa (a 39) cZ 8040 ins)]) [4, 5, 6, 7, 8, 0, 9, 10, 11, 12, 13, 1, 2, 3] (by decide) rfl
                      have hP : va_P (dC, dI) classes [(om k0 a (upd I0 31 (nI on)) J0), (oa (a 1) cI 201 kd), (oa (a 11) cI 201 mn), (oa (a 12) cI 8040 cx), (oa (a 13) cI 8040 cy), (oa (a 32) cI 8 q_16), (oa (a 40) cI 6 q_21), (oa (a 29) cI 42 q_22), (oa (a 30) cI 42 q_23), (oa (a 33) cI 42 ox), (oa (a 34) cI 42 oy), (oa (a 37) cZ 201 mt), (oa (a 38) cZ 201 wi), (oa (a 39) cZ 8040 ins)] H := hP
                      have hD : va_D A [(om k0 a (upd I0 31 (nI on)) J0), (oa (a 1) cI 201 kd), (oa (a 11) cI 201 mn), (oa (a 12) cI 8040 cx), (oa (a 13) cI 8040 cy), (oa (a 32) cI 8 q_16), (oa (a 40) cI 6 q_21), (oa (a 29) cI 42 q_22), (oa (a 30) cI 42 q_23), (oa (a 33) cI 42 ox), (oa (a 34) cI 42 oy), (oa (a 37) cZ 201 mt), (oa (a 38) cZ 201 wi), (oa (a 39) cZ 8040 ins)] := hD
                      refine zz_i (v := pI ((fun k => ∃ e, e < eO (kd f).toInt on ∧ swp on ox oy (cF40 cx f) (cF40 cy f) (cF40 cx g k).toInt (cF40 cy g k).toInt e) k)) (rfl) ?_
                      refine lv_if_eq (tgt := 185) hx hb dX11_isLawfulTo_180 (by decide) (fun c_24 => ?_) (fun c_24 => ?_)
                      · have c_24 : ¬ ((fun k => ∃ e, e < eO (kd f).toInt on ∧ swp on ox oy (cF40 cx f) (cF40 cy f) (cF40 cx g k).toInt (cF40 cy g k).toInt e) k) := zp_0 c_24
                        refine lv_iinc (v := nI (k + 1)) (lv' := [(5, .int (nI (k + 1))), (7, .int (cy (40 * g + k))), (6, .int (cx (40 * g + k))), (0, .ref k0), (1, .int (nI f)), (2, .int (nI g)), (3, .int (nI h)), (4, .int (-1))]) hx hb dX11_isLawfulTo_185 hl (k := 2) rfl (nI_add k 1) (by decide) rfl (fun ls hl => ?_)
                        refine lv_goto (tgt := 62) hx hb dX11_isLawfulTo_188 (by decide) ?_
                        exact ih_62 (k + 1) (nI on) q_16 q_21 q_22 q_23 H locs ls (by omega) (by omega) (by intro j hj; rcases Nat.lt_or_ge j k with h | h; exact hall j h; obtain rfl : j = k := (by omega); exact ⟨fun h5 => (by first | (exfalso; omega) | exact zp_ieq.mp (by assumption)), fun h0 => (by first | (exfalso; omega) | exact id | assumption)⟩) hP hD hS (lv_sub hl [0, 3, 4, 5, 6, 7] rfl)
                      · have c_24 : (fun k => ∃ e, e < eO (kd f).toInt on ∧ swp on ox oy (cF40 cx f) (cF40 cy f) (cF40 cx g k).toInt (cF40 cy g k).toInt e) k := zp_1 c_24
                        refine lv_iconst (v := 0) hx hb dX11_isLawfulTo_183 (by decide) ?_
                        have hP9 := hP.sub (ws' := [(om k0 a (upd I0 31 (nI on)) J0), (oa (a 1) cI 201 kd), (oa (a 11) cI 201 mn), (oa (a 12) cI 8040 cx), (oa (a 13) cI 8040 cy), (oa (a 32) cI 8 q_16), (oa (a 40) cI 6 q_21), (oa (a 29) cI 42 q_22), (oa (a 30) cI 42 q_23), (oa (a 33) cI 42 ox), (oa (a 34) cI 42 oy), (oa (a 37) cZ 201 mt), (oa (a 38) cZ 201 wi), (oa (a 39) cZ 8040 ins)]) [0, 1, 2, 3, 4, 5, 6, 7, 8, 9, 10, 11, 12, 13] rfl
                        have hD9 := hD.sub (ws' := [(om k0 a (upd I0 31 (nI on)) J0), (oa (a 1) cI 201 kd), (oa (a 11) cI 201 mn), (oa (a 12) cI 8040 cx), (oa (a 13) cI 8040 cy), (oa (a 32) cI 8 q_16), (oa (a 40) cI 6 q_21), (oa (a 29) cI 42 q_22), (oa (a 30) cI 42 q_23), (oa (a 33) cI 42 ox), (oa (a 34) cI 42 oy), (oa (a 37) cZ 201 mt), (oa (a 38) cZ 201 wi), (oa (a 39) cZ 8040 ins)]) [0, 1, 2, 3, 4, 5, 6, 7, 8, 9, 10, 11, 12, 13] (by decide) rfl
                        rw [hQ9]
                        exact W.zret (ty := .boolean) (v := 0) hx hb hr (rfl) (fun t ht hW => ⟨⟨congrArg (fun z => Outcome.returned (some (Value.int z))) (show (0 : Int32) = pI (lawTo (ox 0) (oy 0) (kd f).toInt n (cF40 cx f) (cF40 cy f) (kd g).toInt m2 (cF40 cx g) (cF40 cy g) MT WI IN (fun k => ∃ e, e < eO (kd f).toInt on ∧ swp on ox oy (cF40 cx f) (cF40 cy f) (cF40 cx g k).toInt (cF40 cy g k).toInt e)) from (zp_f (fun h => (h.2.2.1 k (by omega)).2 (by omega) (by assumption))).symm), (nI on), q_16, q_21, q_22, q_23, by rw [ht]; exact hP9, hD9⟩, hS.F ht⟩) hS.2.2 dX11_isLawfulTo_184
                    · exact absurd (by decide) c_20
              · have c_17 : ¬ (pI (inF (kd f).toInt n (cF40 cx f) (cF40 cy f) (cF40 cx g k).toInt (cF40 cy g k).toInt)).toInt = (pI (IN k)).toInt := zc_ne rfl rfl c_17
                refine lv_iconst (v := 0) hx hb dX11_isLawfulTo_133 (by decide) ?_
                have hP9 := hP.sub (ws' := [(om k0 a (upd I0 31 z9) J0), (oa (a 1) cI 201 kd), (oa (a 11) cI 201 mn), (oa (a 12) cI 8040 cx), (oa (a 13) cI 8040 cy), (oa (a 32) cI 8 q_16), (oa (a 40) cI 6 T1), (oa (a 29) cI 42 P1), (oa (a 30) cI 42 Q1), (oa (a 33) cI 42 ox), (oa (a 34) cI 42 oy), (oa (a 37) cZ 201 mt), (oa (a 38) cZ 201 wi), (oa (a 39) cZ 8040 ins)]) [0, 1, 2, 3, 4, 5, 6, 7, 8, 9, 10, 11, 12, 13] rfl
                have hD9 := hD.sub (ws' := [(om k0 a (upd I0 31 z9) J0), (oa (a 1) cI 201 kd), (oa (a 11) cI 201 mn), (oa (a 12) cI 8040 cx), (oa (a 13) cI 8040 cy), (oa (a 32) cI 8 q_16), (oa (a 40) cI 6 T1), (oa (a 29) cI 42 P1), (oa (a 30) cI 42 Q1), (oa (a 33) cI 42 ox), (oa (a 34) cI 42 oy), (oa (a 37) cZ 201 mt), (oa (a 38) cZ 201 wi), (oa (a 39) cZ 8040 ins)]) [0, 1, 2, 3, 4, 5, 6, 7, 8, 9, 10, 11, 12, 13] (by decide) rfl
                rw [hQ9]
                exact W.zret (ty := .boolean) (v := 0) hx hb hr (rfl) (fun t ht hW => ⟨⟨congrArg (fun z => Outcome.returned (some (Value.int z))) (show (0 : Int32) = pI (lawTo (ox 0) (oy 0) (kd f).toInt n (cF40 cx f) (cF40 cy f) (kd g).toInt m2 (cF40 cx g) (cF40 cy g) MT WI IN (fun k => ∃ e, e < eO (kd f).toInt on ∧ swp on ox oy (cF40 cx f) (cF40 cy f) (cF40 cx g k).toInt (cF40 cy g k).toInt e)) from (zp_f (fun h => absurd (zp_ieq.mpr ((h.2.2.1 k (by omega)).1 (by omega))) (by assumption))).symm), z9, q_16, T1, P1, Q1, by rw [ht]; exact hP9, hD9⟩, hS.F ht⟩) hS.2.2 dX11_isLawfulTo_134
      exact hl_62 _ 0 (I0 31) q_1 T0 P0 Q0 H locs ls (Nat.lt_succ_self _) (by omega) (by intro j hj; omega) hP hD hS (lv_sub hl [0, 1, 2, 3, 4, 5] rfl)
    · have c_3 : 5 ≤ (kd g).toInt := zp_1 c_3
      refine lv_aload_n hx hb dX11_isLawfulTo_25 rfl (lv_at hl 0 rfl) ?_
      refine lv_iload_n hx hb dX11_isLawfulTo_26 rfl (lv_at hl 2 rfl) ?_
      refine lv_aload_n hx hb dX11_isLawfulTo_27 rfl (lv_at hl 0 rfl) ?_
      refine va_get (D := (dC, dI)) (ci := 9) (v := .ref (a 12)) (C := RX11) (T := TX11) (N := 55) hx hb hts inX11 hown hK hP 0 rfl rfl 12 (by decide) (hts _ mw_1171) (fun _ h9 => h9) rfl dX11_isLawfulTo_28 ?_
      refine lv_bipush (v := 40) hx hb dX11_isLawfulTo_31 (by decide) ?_
      refine lv_iload_n hx hb dX11_isLawfulTo_33 rfl (lv_at hl 1 rfl) ?_
      refine lv_imul hx hb dX11_isLawfulTo_34 ?_
      refine zz_i (v := nI (40 * f)) (pk_mul 40 f) ?_
      refine z_iald hx hb hK hP 3 0 rfl rfl (e := 40 * f) rfl (by omega) (by omega) dX11_isLawfulTo_35 ?_
      refine lv_aload_n hx hb dX11_isLawfulTo_36 rfl (lv_at hl 0 rfl) ?_
      refine va_get (D := (dC, dI)) (ci := 9) (v := .ref (a 13)) (C := RX11) (T := TX11) (N := 55) hx hb hts inX11 hown hK hP 0 rfl rfl 13 (by decide) (hts _ mw_1172) (fun _ h9 => h9) rfl dX11_isLawfulTo_37 ?_
      refine lv_bipush (v := 40) hx hb dX11_isLawfulTo_40 (by decide) ?_
      refine lv_iload_n hx hb dX11_isLawfulTo_42 rfl (lv_at hl 1 rfl) ?_
      refine lv_imul hx hb dX11_isLawfulTo_43 ?_
      refine zz_i (v := nI (40 * f)) (pk_mul 40 f) ?_
      refine z_iald hx hb hK hP 4 0 rfl rfl (e := 40 * f) rfl (by omega) (by omega) dX11_isLawfulTo_44 ?_
      have hPc := hP.sub (ws' := [(om k0 a I0 J0), (oa (a 1) cI 201 kd), (oa (a 11) cI 201 mn), (oa (a 12) cI 8040 cx), (oa (a 13) cI 8040 cy), (oa (a 32) cI 8 q_1)]) [0, 1, 2, 3, 4, 5] rfl
      have hDc := hD.sub (ws' := [(om k0 a I0 J0), (oa (a 1) cI 201 kd), (oa (a 11) cI 201 mn), (oa (a 12) cI 8040 cx), (oa (a 13) cI 8040 cy), (oa (a 32) cI 8 q_1)]) [0, 1, 2, 3, 4, 5] (by decide) rfl
      have hFc := va_free (wc := [(om k0 a I0 J0), (oa (a 1) cI 201 kd), (oa (a 11) cI 201 mn), (oa (a 12) cI 8040 cx), (oa (a 13) cI 8040 cy), (oa (a 32) cI 8 q_1)]) hD hS hA [0, 1, 2, 3, 4, 5] rfl
      refine zcall (st1 := [.int (pI (¬ (∃ i, i < eO (kd g).toInt m2 ∧ eOn m2 (cF40 cx g) (cF40 cy g) i (cx (40 * f)).toInt (cy (40 * f)).toInt) ∧ par2 (eTg m2 (cF40 cx g) (cF40 cy g) (cx (40 * f)).toInt (cy (40 * f)).toInt) (eO (kd g).toInt m2)))]) (va_runV (As := [.int (nI g), .int (cx (40 * f)), .int (cy (40 * f))]) (rest := []) ⟨hx, hb, hml, hown, hts⟩ (k_M_isInside l dC dI cI cZ cF H.size k0 a I0 J0 g m2 kd mn cx cy q_1 (cx (40 * f)) (cy (40 * f)) (by omega) (by assumption) (by omega) (by assumption) ((hp_f 0 (by omega)).1) ((hp_f 0 (by omega)).2)) (cwV 3 hts (zz_gV mw_1471 mw_1473 mw_62 mw_110 mc_yX11_isInside) rfl rfl rfl (by decide +kernel) ⟨Nat.le_of_ble_eq_true rfl, Nat.le_of_ble_eq_true rfl⟩) (zPV2 (q0 := 0) (ci := 9) hPc hDc hK hXN rfl rfl) rfl rfl hl.1 rfl (lv_room (Nat.le_of_ble_eq_true rfl)) dX11_isLawfulTo_45 ⟨Nat.le_of_ble_eq_true rfl, Nat.le_of_ble_eq_true rfl⟩) hS hFc hFc rfl (fun t H1 locs ht hB hk1 hS => ?_)
      obtain ⟨q_25, hP1, hD1⟩ := hB
      rw [ht] at hP1
      obtain ⟨hP, hD⟩ := va_join (wr := [(oa (a 40) cI 6 T0), (oa (a 29) cI 42 P0), (oa (a 30) cI 42 Q0), (oa (a 33) cI 42 ox), (oa (a 34) cI 42 oy), (oa (a 37) cZ 201 mt), (oa (a 38) cZ 201 wi), (oa (a 39) cZ 8040 ins)]) (w1 := [(om k0 a I0 J0), (oa (a 1) cI 201 kd), (oa (a 11) cI 201 mn), (oa (a 12) cI 8040 cx), (oa (a 13) cI 8040 cy), (oa (a 32) cI 8 q_25)]) hP hD [0, 1, 2, 3, 4, 5] [6, 7, 8, 9, 10, 11, 12, 13] rfl rfl (by decide) (by decide) hk1 hFc hP1 hD1
      clear hk1 hPc hDc hFc hP1 hD1 ht
      generalize H1 = H at hP hS ⊢
      have hP := hP.sub (ws' := [(om k0 a I0 J0), (oa (a 1) cI 201 kd), (oa (a 11) cI 201 mn), (oa (a 12) cI 8040 cx), (oa (a 13) cI 8040 cy), (oa (a 32) cI 8 q_25), (oa (a 40) cI 6 T0), (oa (a 29) cI 42 P0), (oa (a 30) cI 42 Q0), (oa (a 33) cI 42 ox), (oa (a 34) cI 42 oy), (oa (a 37) cZ 201 mt), (oa (a 38) cZ 201 wi), (oa (a 39) cZ 8040 ins)]) [8, 9, 10, 11, 12, 13, 0, 1, 2, 3, 4, 5, 6, 7] rfl
      have hD := hD.sub (ws' := [(om k0 a I0 J0), (oa (a 1) cI 201 kd), (oa (a 11) cI 201 mn), (oa (a 12) cI 8040 cx), (oa (a 13) cI 8040 cy), (oa (a 32) cI 8 q_25), (oa (a 40) cI 6 T0), (oa (a 29) cI 42 P0), (oa (a 30) cI 42 Q0), (oa (a 33) cI 42 ox), (oa (a 34) cI 42 oy), (oa (a 37) cZ 201 mt), (oa (a 38) cZ 201 wi), (oa (a 39) cZ 8040 ins)]) [8, 9, 10, 11, 12, 13, 0, 1, 2, 3, 4, 5, 6, 7] (by decide) rfl
      have hP : va_P (dC, dI) classes [(om k0 a I0 J0), (oa (a 1) cI 201 kd), (oa (a 11) cI 201 mn), (oa (a 12) cI 8040 cx), (oa (a 13) cI 8040 cy), (oa (a 32) cI 8 q_25), (oa (a 40) cI 6 T0), (oa (a 29) cI 42 P0), (oa (a 30) cI 42 Q0), (oa (a 33) cI 42 ox), (oa (a 34) cI 42 oy), (oa (a 37) cZ 201 mt), (oa (a 38) cZ 201 wi), (oa (a 39) cZ 8040 ins)] H := hP
      have hD : va_D A [(om k0 a I0 J0), (oa (a 1) cI 201 kd), (oa (a 11) cI 201 mn), (oa (a 12) cI 8040 cx), (oa (a 13) cI 8040 cy), (oa (a 32) cI 8 q_25), (oa (a 40) cI 6 T0), (oa (a 29) cI 42 P0), (oa (a 30) cI 42 Q0), (oa (a 33) cI 42 ox), (oa (a 34) cI 42 oy), (oa (a 37) cZ 201 mt), (oa (a 38) cZ 201 wi), (oa (a 39) cZ 8040 ins)] := hD
      refine zz_i (v := pI (inF (kd g).toInt m2 (cF40 cx g) (cF40 cy g) (cF40 cx f 0).toInt (cF40 cy f 0).toInt)) (rfl) ?_
      refine lv_aload_n hx hb dX11_isLawfulTo_48 rfl (lv_at hl 0 rfl) ?_
      refine va_get (D := (dC, dI)) (ci := 9) (v := .ref (a 38)) (C := RX11) (T := TX11) (N := 55) hx hb hts inX11 hown hK hP 0 rfl rfl 38 (by decide) (hts _ mw_1197) (fun _ h9 => h9) rfl dX11_isLawfulTo_49 ?_
      refine lv_iload_n hx hb dX11_isLawfulTo_52 rfl (lv_at hl 2 rfl) ?_
      refine z_zald hx hb hK hP 12 1 rfl rfl (e := g) rfl (by omega) (by omega) dX11_isLawfulTo_53 ?_
      refine zz_i (v := pI WI) (hwi (by omega)) ?_
      refine lv_icmp_eq (tgt := 59) hx hb dX11_isLawfulTo_54 (by decide) (fun c_26 => ?_) (fun c_26 => ?_)
      · have c_26 : (pI (inF (kd g).toInt m2 (cF40 cx g) (cF40 cy g) (cF40 cx f 0).toInt (cF40 cy f 0).toInt)).toInt = (pI WI).toInt := zc_eq rfl rfl c_26
        refine lv_iconst (v := 0) hx hb dX11_isLawfulTo_59 (by decide) ?_
        refine lv_istore (lv' := [(5, .int 0), (0, .ref k0), (1, .int (nI f)), (2, .int (nI g)), (3, .int (nI h)), (4, .int (-1))]) hx hb dX11_isLawfulTo_60 hl (by decide) rfl (fun ls hl => ?_)
        have hl_62 : ∀ (n9 : Nat) (k : Nat) (z9 : Int32) (S1 : Nat → Int32) (T1 : Nat → Int32) (P1 : Nat → Int32) (Q1 : Nat → Int32) (H : Heap) (locs : List Loc) (ls : Array Slot), m2 - k < n9 → (k ≤ m2) → (∀ j, j < k → (5 ≤ (kd f).toInt → (inF (kd f).toInt n (cF40 cx f) (cF40 cy f) (cF40 cx g j).toInt (cF40 cy g j).toInt ↔ IN j)) ∧ (¬ (kd f).toInt = 0 → ¬ (fun k => ∃ e, e < eO (kd f).toInt on ∧ swp on ox oy (cF40 cx f) (cF40 cy f) (cF40 cx g k).toInt (cF40 cy g k).toInt e) j)) → va_P (dC, dI) classes [(om k0 a (upd I0 31 z9) J0), (oa (a 1) cI 201 kd), (oa (a 11) cI 201 mn), (oa (a 12) cI 8040 cx), (oa (a 13) cI 8040 cy), (oa (a 32) cI 8 S1), (oa (a 40) cI 6 T1), (oa (a 29) cI 42 P1), (oa (a 30) cI 42 Q1), (oa (a 33) cI 42 ox), (oa (a 34) cI 42 oy), (oa (a 37) cZ 201 mt), (oa (a 38) cZ 201 wi), (oa (a 39) cZ 8040 ins)] H → va_D A [(om k0 a (upd I0 31 z9) J0), (oa (a 1) cI 201 kd), (oa (a 11) cI 201 mn), (oa (a 12) cI 8040 cx), (oa (a 13) cI 8040 cy), (oa (a 32) cI 8 S1), (oa (a 40) cI 6 T1), (oa (a 29) cI 42 P1), (oa (a 30) cI 42 Q1), (oa (a 33) cI 42 ox), (oa (a 34) cI 42 oy), (oa (a 37) cZ 201 mt), (oa (a 38) cZ 201 wi), (oa (a 39) cZ 8040 ins)] → va_S A s.heap H locs → lv_has ls 8 [(5, .int (nI k)), (0, .ref k0), (1, .int (nI f)), (2, .int (nI g)), (3, .int (nI h)), (4, .int (-1))] → W p l e ((headSpec (.code yX11_isLawfulTo cX11_isLawfulTo 8 (some .boolean) :: ws0) ({ frames := 5, cells := 0, slots := 0, locals := 135 } : Room)).room) s m ([.ref k0, .int (nI f), .int (nI g), .int (nI h), .int (-1)] : List Value).toArray below meth c H locs 0 0 Q9 (F0 m 62 ls []) := by
          intro n9
          induction n9 with
          | zero => intro k z9 S1 T1 P1 Q1 H locs ls hm; exact absurd hm (Nat.not_lt_zero _)
          | succ n9 ih_62 =>
            intro k z9 S1 T1 P1 Q1 H locs ls hm hk hall hP hD hS hl
            refine lv_iload hx hb dX11_isLawfulTo_62 (lv_at hl 0 rfl) ?_
            refine lv_aload_n hx hb dX11_isLawfulTo_64 rfl (lv_at hl 1 rfl) ?_
            refine va_get (D := (dC, dI)) (ci := 9) (v := .ref (a 11)) (C := RX11) (T := TX11) (N := 55) hx hb hts inX11 hown hK hP 0 rfl rfl 11 (by decide) (hts _ mw_1170) (fun _ h9 => h9) rfl dX11_isLawfulTo_65 ?_
            refine lv_iload_n hx hb dX11_isLawfulTo_68 rfl (lv_at hl 3 rfl) ?_
            refine z_iald hx hb hK hP 2 0 rfl rfl (e := g) rfl (by omega) (by omega) dX11_isLawfulTo_69 ?_
            refine zz_i (v := nI m2) (hm_g) ?_
            refine lv_icmp_ge (tgt := 191) hx hb dX11_isLawfulTo_70 (by decide) (fun c_27 => ?_) (fun c_27 => ?_)
            · have c_27 : ((m2 : Nat) : Int) ≤ ((k : Nat) : Int) := zc_le (nI_toInt (by omega)) (nI_toInt (by omega)) c_27
              refine lv_aload_n hx hb dX11_isLawfulTo_191 rfl (lv_at hl 1 rfl) ?_
              refine va_get (D := (dC, dI)) (ci := 9) (v := .ref (a 1)) (C := RX11) (T := TX11) (N := 55) hx hb hts inX11 hown hK hP 0 rfl rfl 1 (by decide) (hts _ mw_1160) (fun _ h9 => h9) rfl dX11_isLawfulTo_192 ?_
              refine lv_iload_n hx hb dX11_isLawfulTo_195 rfl (lv_at hl 2 rfl) ?_
              refine z_iald hx hb hK hP 1 0 rfl rfl (e := f) rfl (by omega) (by omega) dX11_isLawfulTo_196 ?_
              refine lv_if_ne (tgt := 209) hx hb dX11_isLawfulTo_197 (by decide) (fun c_28 => ?_) (fun c_28 => ?_)
              · have c_28 : ¬ (kd f).toInt = 0 := zc_ne rfl (by decide) c_28
                refine lv_iconst (v := 1) hx hb dX11_isLawfulTo_209 (by decide) ?_
                refine lv_goto (tgt := 214) hx hb dX11_isLawfulTo_210 (by decide) ?_
                have hP9 := hP.sub (ws' := [(om k0 a (upd I0 31 z9) J0), (oa (a 1) cI 201 kd), (oa (a 11) cI 201 mn), (oa (a 12) cI 8040 cx), (oa (a 13) cI 8040 cy), (oa (a 32) cI 8 S1), (oa (a 40) cI 6 T1), (oa (a 29) cI 42 P1), (oa (a 30) cI 42 Q1), (oa (a 33) cI 42 ox), (oa (a 34) cI 42 oy), (oa (a 37) cZ 201 mt), (oa (a 38) cZ 201 wi), (oa (a 39) cZ 8040 ins)]) [0, 1, 2, 3, 4, 5, 6, 7, 8, 9, 10, 11, 12, 13] rfl
                have hD9 := hD.sub (ws' := [(om k0 a (upd I0 31 z9) J0), (oa (a 1) cI 201 kd), (oa (a 11) cI 201 mn), (oa (a 12) cI 8040 cx), (oa (a 13) cI 8040 cy), (oa (a 32) cI 8 S1), (oa (a 40) cI 6 T1), (oa (a 29) cI 42 P1), (oa (a 30) cI 42 Q1), (oa (a 33) cI 42 ox), (oa (a 34) cI 42 oy), (oa (a 37) cZ 201 mt), (oa (a 38) cZ 201 wi), (oa (a 39) cZ 8040 ins)]) [0, 1, 2, 3, 4, 5, 6, 7, 8, 9, 10, 11, 12, 13] (by decide) rfl
                rw [hQ9]
                exact W.zret (ty := .boolean) (v := 1) hx hb hr (rfl) (fun t ht hW => ⟨⟨congrArg (fun z => Outcome.returned (some (Value.int z))) (show (1 : Int32) = pI (lawTo (ox 0) (oy 0) (kd f).toInt n (cF40 cx f) (cF40 cy f) (kd g).toInt m2 (cF40 cx g) (cF40 cy g) MT WI IN (fun k => ∃ e, e < eO (kd f).toInt on ∧ swp on ox oy (cF40 cx f) (cF40 cy f) (cF40 cx g k).toInt (cF40 cy g k).toInt e)) from (zp_t (by first | exact ⟨zp_ieq.mp (by assumption), fun h => (by first | (exfalso; omega) | exact zp_ieq.mp (by assumption)), fun j hj => hall j (by omega), fun h => (by first | (exfalso; omega) | assumption)⟩ | exact fun h => absurd (h.2.2.2 (by omega)) (by assumption))).symm), z9, S1, T1, P1, Q1, by rw [ht]; exact hP9, hD9⟩, hS.F ht⟩) hS.2.2 dX11_isLawfulTo_214
              · have c_28 : (kd f).toInt = 0 := zc_eq rfl (by decide) c_28
                refine lv_aload_n hx hb dX11_isLawfulTo_200 rfl (lv_at hl 1 rfl) ?_
                refine lv_iload_n hx hb dX11_isLawfulTo_201 rfl (lv_at hl 2 rfl) ?_
                refine lv_iload_n hx hb dX11_isLawfulTo_202 rfl (lv_at hl 3 rfl) ?_
                have hPc := hP.sub (ws' := [(om k0 a (upd I0 31 z9) J0), (oa (a 1) cI 201 kd), (oa (a 11) cI 201 mn), (oa (a 12) cI 8040 cx), (oa (a 13) cI 8040 cy), (oa (a 32) cI 8 S1), (oa (a 33) cI 42 ox), (oa (a 34) cI 42 oy)]) [0, 1, 2, 3, 4, 5, 9, 10] rfl
                have hDc := hD.sub (ws' := [(om k0 a (upd I0 31 z9) J0), (oa (a 1) cI 201 kd), (oa (a 11) cI 201 mn), (oa (a 12) cI 8040 cx), (oa (a 13) cI 8040 cy), (oa (a 32) cI 8 S1), (oa (a 33) cI 42 ox), (oa (a 34) cI 42 oy)]) [0, 1, 2, 3, 4, 5, 9, 10] (by decide) rfl
                have hFc := va_free (wc := [(om k0 a (upd I0 31 z9) J0), (oa (a 1) cI 201 kd), (oa (a 11) cI 201 mn), (oa (a 12) cI 8040 cx), (oa (a 13) cI 8040 cy), (oa (a 32) cI 8 S1), (oa (a 33) cI 42 ox), (oa (a 34) cI 42 oy)]) hD hS hA [0, 1, 2, 3, 4, 5, 9, 10] rfl
                refine zcall (st1 := [.int (pI (∀ k, k < eO (kd g).toInt m2 → fWy (ox 0).toInt (oy 0).toInt (cx (40 * f)).toInt (cy (40 * f)).toInt m2 (cF40 cx g) (cF40 cy g) k))]) (va_runV (As := [.int (nI f), .int (nI g)]) (rest := []) ⟨hx, hb, hml, hown, hts⟩ (k_M_isFreeWay l dC dI cI cZ cF H.size k0 a (upd I0 31 z9) J0 f g m2 kd mn cx cy S1 ox oy (by omega) ((hpo 0 (by omega)).1) ((hpo 0 (by omega)).2) ((hp_f 0 (by omega)).1) ((hp_f 0 (by omega)).2) (by omega) (by assumption) (by omega) (by assumption)) (cwV 2 hts (zz_gV mw_1506 mw_1508 mw_70 mw_110 mc_yX11_isFreeWay) rfl rfl rfl (by decide +kernel) ⟨Nat.le_of_ble_eq_true rfl, Nat.le_of_ble_eq_true rfl⟩) (zPV2 (q0 := 0) (ci := 9) hPc hDc hK hXN rfl rfl) rfl rfl hl.1 rfl (lv_room (Nat.le_of_ble_eq_true rfl)) dX11_isLawfulTo_203 ⟨Nat.le_of_ble_eq_true rfl, Nat.le_of_ble_eq_true rfl⟩) hS hFc hFc rfl (fun t H1 locs ht hB hk1 hS => ?_)
                obtain ⟨q_29, hP1, hD1⟩ := hB
                rw [ht] at hP1
                obtain ⟨hP, hD⟩ := va_join (wr := [(oa (a 40) cI 6 T1), (oa (a 29) cI 42 P1), (oa (a 30) cI 42 Q1), (oa (a 37) cZ 201 mt), (oa (a 38) cZ 201 wi), (oa (a 39) cZ 8040 ins)]) (w1 := [(om k0 a (upd I0 31 z9) J0), (oa (a 1) cI 201 kd), (oa (a 11) cI 201 mn), (oa (a 12) cI 8040 cx), (oa (a 13) cI 8040 cy), (oa (a 32) cI 8 q_29), (oa (a 33) cI 42 ox), (oa (a 34) cI 42 oy)]) hP hD [0, 1, 2, 3, 4, 5, 9, 10] [6, 7, 8, 11, 12, 13] rfl rfl (by decide) (by decide) hk1 hFc hP1 hD1
                clear hk1 hPc hDc hFc hP1 hD1 ht
                generalize H1 = H at hP hS ⊢
                have hP := hP.sub (ws' := [(om k0 a (upd I0 31 z9) J0), (oa (a 1) cI 201 kd), (oa (a 11) cI 201 mn), (oa (a 12) cI 8040 cx), (oa (a 13) cI 8040 cy), (oa (a 32) cI 8 q_29), (oa (a 40) cI 6 T1), (oa (a 29) cI 42 P1), (oa (a 30) cI 42 Q1), (oa (a 33) cI 42 ox), (oa (a 34) cI 42 oy), (oa (a 37) cZ 201 mt), (oa (a 38) cZ 201 wi), (oa (a 39) cZ 8040 ins)]) [6, 7, 8, 9, 10, 11, 0, 1, 2, 12, 13, 3, 4, 5] rfl
                have hD := hD.sub (ws' := [(om k0 a (upd I0 31 z9) J0), (oa (a 1) cI 201 kd), (oa (a 11) cI 201 mn), (oa (a 12) cI 8040 cx), (oa (a 13) cI 8040 cy), (oa (a 32) cI 8 q_29), (oa (a 40) cI 6 T1), (oa (a 29) cI 42 P1), (oa (a 30) cI 42 Q1), (oa (a 33) cI 42 ox), (oa (a 34) cI 42 oy), (oa (a 37) cZ 201 mt), (oa (a 38) cZ 201 wi), (oa (a 39) cZ 8040 ins)]) [6, 7, 8, 9, 10, 11, 0, 1, 2, 12, 13, 3, 4, 5] (by decide) rfl
                have hP : va_P (dC, dI) classes [(om k0 a (upd I0 31 z9) J0), (oa (a 1) cI 201 kd), (oa (a 11) cI 201 mn), (oa (a 12) cI 8040 cx), (oa (a 13) cI 8040 cy), (oa (a 32) cI 8 q_29), (oa (a 40) cI 6 T1), (oa (a 29) cI 42 P1), (oa (a 30) cI 42 Q1), (oa (a 33) cI 42 ox), (oa (a 34) cI 42 oy), (oa (a 37) cZ 201 mt), (oa (a 38) cZ 201 wi), (oa (a 39) cZ 8040 ins)] H := hP
                have hD : va_D A [(om k0 a (upd I0 31 z9) J0), (oa (a 1) cI 201 kd), (oa (a 11) cI 201 mn), (oa (a 12) cI 8040 cx), (oa (a 13) cI 8040 cy), (oa (a 32) cI 8 q_29), (oa (a 40) cI 6 T1), (oa (a 29) cI 42 P1), (oa (a 30) cI 42 Q1), (oa (a 33) cI 42 ox), (oa (a 34) cI 42 oy), (oa (a 37) cZ 201 mt), (oa (a 38) cZ 201 wi), (oa (a 39) cZ 8040 ins)] := hD
                refine zz_i (v := pI (∀ k, k < eO (kd g).toInt m2 → fWy (ox 0).toInt (oy 0).toInt (cF40 cx f 0).toInt (cF40 cy f 0).toInt m2 (cF40 cx g) (cF40 cy g) k)) (rfl) ?_
                refine lv_if_eq (tgt := 213) hx hb dX11_isLawfulTo_206 (by decide) (fun c_30 => ?_) (fun c_30 => ?_)
                · have c_30 : ¬ (∀ k, k < eO (kd g).toInt m2 → fWy (ox 0).toInt (oy 0).toInt (cF40 cx f 0).toInt (cF40 cy f 0).toInt m2 (cF40 cx g) (cF40 cy g) k) := zp_0 c_30
                  refine lv_iconst (v := 0) hx hb dX11_isLawfulTo_213 (by decide) ?_
                  have hP9 := hP.sub (ws' := [(om k0 a (upd I0 31 z9) J0), (oa (a 1) cI 201 kd), (oa (a 11) cI 201 mn), (oa (a 12) cI 8040 cx), (oa (a 13) cI 8040 cy), (oa (a 32) cI 8 q_29), (oa (a 40) cI 6 T1), (oa (a 29) cI 42 P1), (oa (a 30) cI 42 Q1), (oa (a 33) cI 42 ox), (oa (a 34) cI 42 oy), (oa (a 37) cZ 201 mt), (oa (a 38) cZ 201 wi), (oa (a 39) cZ 8040 ins)]) [0, 1, 2, 3, 4, 5, 6, 7, 8, 9, 10, 11, 12, 13] rfl
                  have hD9 := hD.sub (ws' := [(om k0 a (upd I0 31 z9) J0), (oa (a 1) cI 201 kd), (oa (a 11) cI 201 mn), (oa (a 12) cI 8040 cx), (oa (a 13) cI 8040 cy), (oa (a 32) cI 8 q_29), (oa (a 40) cI 6 T1), (oa (a 29) cI 42 P1), (oa (a 30) cI 42 Q1), (oa (a 33) cI 42 ox), (oa (a 34) cI 42 oy), (oa (a 37) cZ 201 mt), (oa (a 38) cZ 201 wi), (oa (a 39) cZ 8040 ins)]) [0, 1, 2, 3, 4, 5, 6, 7, 8, 9, 10, 11, 12, 13] (by decide) rfl
                  rw [hQ9]
                  exact W.zret (ty := .boolean) (v := 0) hx hb hr (rfl) (fun t ht hW => ⟨⟨congrArg (fun z => Outcome.returned (some (Value.int z))) (show (0 : Int32) = pI (lawTo (ox 0) (oy 0) (kd f).toInt n (cF40 cx f) (cF40 cy f) (kd g).toInt m2 (cF40 cx g) (cF40 cy g) MT WI IN (fun k => ∃ e, e < eO (kd f).toInt on ∧ swp on ox oy (cF40 cx f) (cF40 cy f) (cF40 cx g k).toInt (cF40 cy g k).toInt e)) from (zp_f (by first | exact ⟨zp_ieq.mp (by assumption), fun h => (by first | (exfalso; omega) | exact zp_ieq.mp (by assumption)), fun j hj => hall j (by omega), fun h => (by first | (exfalso; omega) | assumption)⟩ | exact fun h => absurd (h.2.2.2 (by omega)) (by assumption))).symm), z9, q_29, T1, P1, Q1, by rw [ht]; exact hP9, hD9⟩, hS.F ht⟩) hS.2.2 dX11_isLawfulTo_214
                · have c_30 : ∀ k, k < eO (kd g).toInt m2 → fWy (ox 0).toInt (oy 0).toInt (cF40 cx f 0).toInt (cF40 cy f 0).toInt m2 (cF40 cx g) (cF40 cy g) k := zp_1 c_30
                  refine lv_iconst (v := 1) hx hb dX11_isLawfulTo_209 (by decide) ?_
                  refine lv_goto (tgt := 214) hx hb dX11_isLawfulTo_210 (by decide) ?_
                  have hP9 := hP.sub (ws' := [(om k0 a (upd I0 31 z9) J0), (oa (a 1) cI 201 kd), (oa (a 11) cI 201 mn), (oa (a 12) cI 8040 cx), (oa (a 13) cI 8040 cy), (oa (a 32) cI 8 q_29), (oa (a 40) cI 6 T1), (oa (a 29) cI 42 P1), (oa (a 30) cI 42 Q1), (oa (a 33) cI 42 ox), (oa (a 34) cI 42 oy), (oa (a 37) cZ 201 mt), (oa (a 38) cZ 201 wi), (oa (a 39) cZ 8040 ins)]) [0, 1, 2, 3, 4, 5, 6, 7, 8, 9, 10, 11, 12, 13] rfl
                  have hD9 := hD.sub (ws' := [(om k0 a (upd I0 31 z9) J0), (oa (a 1) cI 201 kd), (oa (a 11) cI 201 mn), (oa (a 12) cI 8040 cx), (oa (a 13) cI 8040 cy), (oa (a 32) cI 8 q_29), (oa (a 40) cI 6 T1), (oa (a 29) cI 42 P1), (oa (a 30) cI 42 Q1), (oa (a 33) cI 42 ox), (oa (a 34) cI 42 oy), (oa (a 37) cZ 201 mt), (oa (a 38) cZ 201 wi), (oa (a 39) cZ 8040 ins)]) [0, 1, 2, 3, 4, 5, 6, 7, 8, 9, 10, 11, 12, 13] (by decide) rfl
                  rw [hQ9]
                  exact W.zret (ty := .boolean) (v := 1) hx hb hr (rfl) (fun t ht hW => ⟨⟨congrArg (fun z => Outcome.returned (some (Value.int z))) (show (1 : Int32) = pI (lawTo (ox 0) (oy 0) (kd f).toInt n (cF40 cx f) (cF40 cy f) (kd g).toInt m2 (cF40 cx g) (cF40 cy g) MT WI IN (fun k => ∃ e, e < eO (kd f).toInt on ∧ swp on ox oy (cF40 cx f) (cF40 cy f) (cF40 cx g k).toInt (cF40 cy g k).toInt e)) from (zp_t (by first | exact ⟨zp_ieq.mp (by assumption), fun h => (by first | (exfalso; omega) | exact zp_ieq.mp (by assumption)), fun j hj => hall j (by omega), fun h => (by first | (exfalso; omega) | assumption)⟩ | exact fun h => absurd (h.2.2.2 (by omega)) (by assumption))).symm), z9, q_29, T1, P1, Q1, by rw [ht]; exact hP9, hD9⟩, hS.F ht⟩) hS.2.2 dX11_isLawfulTo_214
            · have c_27 : ((k : Nat) : Int) < ((m2 : Nat) : Int) := zc_nle (nI_toInt (by omega)) (nI_toInt (by omega)) c_27
              have hk9 : k < m2 := (by omega)
              refine lv_aload_n hx hb dX11_isLawfulTo_73 rfl (lv_at hl 1 rfl) ?_
              refine va_get (D := (dC, dI)) (ci := 9) (v := .ref (a 12)) (C := RX11) (T := TX11) (N := 55) hx hb hts inX11 hown hK hP 0 rfl rfl 12 (by decide) (hts _ mw_1171) (fun _ h9 => h9) rfl dX11_isLawfulTo_74 ?_
              refine lv_bipush (v := 40) hx hb dX11_isLawfulTo_77 (by decide) ?_
              refine lv_iload_n hx hb dX11_isLawfulTo_79 rfl (lv_at hl 3 rfl) ?_
              refine lv_imul hx hb dX11_isLawfulTo_80 ?_
              refine zz_i (v := nI (40 * g)) (pk_mul 40 g) ?_
              refine lv_iload hx hb dX11_isLawfulTo_81 (lv_at hl 0 rfl) ?_
              refine lv_iadd hx hb dX11_isLawfulTo_83 ?_
              refine zz_i (v := nI (40 * g + k)) (nI_add (40 * g) k) ?_
              refine z_iald hx hb hK hP 3 0 rfl rfl (e := 40 * g + k) rfl (by omega) (by omega) dX11_isLawfulTo_84 ?_
              refine lv_istore (lv' := [(6, .int (cx (40 * g + k))), (5, .int (nI k)), (0, .ref k0), (1, .int (nI f)), (2, .int (nI g)), (3, .int (nI h)), (4, .int (-1))]) hx hb dX11_isLawfulTo_85 hl (by decide) rfl (fun ls hl => ?_)
              refine lv_aload_n hx hb dX11_isLawfulTo_87 rfl (lv_at hl 2 rfl) ?_
              refine va_get (D := (dC, dI)) (ci := 9) (v := .ref (a 13)) (C := RX11) (T := TX11) (N := 55) hx hb hts inX11 hown hK hP 0 rfl rfl 13 (by decide) (hts _ mw_1172) (fun _ h9 => h9) rfl dX11_isLawfulTo_88 ?_
              refine lv_bipush (v := 40) hx hb dX11_isLawfulTo_91 (by decide) ?_
              refine lv_iload_n hx hb dX11_isLawfulTo_93 rfl (lv_at hl 4 rfl) ?_
              refine lv_imul hx hb dX11_isLawfulTo_94 ?_
              refine zz_i (v := nI (40 * g)) (pk_mul 40 g) ?_
              refine lv_iload hx hb dX11_isLawfulTo_95 (lv_at hl 1 rfl) ?_
              refine lv_iadd hx hb dX11_isLawfulTo_97 ?_
              refine zz_i (v := nI (40 * g + k)) (nI_add (40 * g) k) ?_
              refine z_iald hx hb hK hP 4 0 rfl rfl (e := 40 * g + k) rfl (by omega) (by omega) dX11_isLawfulTo_98 ?_
              refine lv_istore (lv' := [(7, .int (cy (40 * g + k))), (6, .int (cx (40 * g + k))), (5, .int (nI k)), (0, .ref k0), (1, .int (nI f)), (2, .int (nI g)), (3, .int (nI h)), (4, .int (-1))]) hx hb dX11_isLawfulTo_99 hl (by decide) rfl (fun ls hl => ?_)
              refine lv_aload_n hx hb dX11_isLawfulTo_101 rfl (lv_at hl 3 rfl) ?_
              refine lv_iload_n hx hb dX11_isLawfulTo_102 rfl (lv_at hl 4 rfl) ?_
              have hPc := hP.sub (ws' := [(om k0 a (upd I0 31 z9) J0), (oa (a 1) cI 201 kd)]) [0, 1] rfl
              have hDc := hD.sub (ws' := [(om k0 a (upd I0 31 z9) J0), (oa (a 1) cI 201 kd)]) [0, 1] (by decide) rfl
              have hFc := va_free (wc := [(om k0 a (upd I0 31 z9) J0), (oa (a 1) cI 201 kd)]) hD hS hA [0, 1] rfl
              refine zcall (st1 := [.int (pI (5 ≤ (kd f).toInt))]) (va_runV (As := [.int (nI f)]) (rest := []) ⟨hx, hb, hml, hown, hts⟩ (k_M_isRing l dC dI cI cZ cF H.size k0 a (upd I0 31 z9) J0 f kd (by omega)) (cwV 1 hts (zz_gV mw_1365 mw_1367 mw_40 mw_110 mc_yX11_isRing) rfl rfl rfl (by decide +kernel) ⟨Nat.le_of_ble_eq_true rfl, Nat.le_of_ble_eq_true rfl⟩) (zPV2 (q0 := 0) (ci := 9) hPc hDc hK hXN rfl rfl) rfl rfl hl.1 rfl (lv_room (Nat.le_of_ble_eq_true rfl)) dX11_isLawfulTo_103 ⟨Nat.le_of_ble_eq_true rfl, Nat.le_of_ble_eq_true rfl⟩) hS hFc hFc rfl (fun t H1 locs ht hB hk1 hS => ?_)
              obtain ⟨hP1, hD1⟩ := hB
              rw [ht] at hP1
              obtain ⟨hP, hD⟩ := va_join (wr := [(oa (a 11) cI 201 mn), (oa (a 12) cI 8040 cx), (oa (a 13) cI 8040 cy), (oa (a 32) cI 8 S1), (oa (a 40) cI 6 T1), (oa (a 29) cI 42 P1), (oa (a 30) cI 42 Q1), (oa (a 33) cI 42 ox), (oa (a 34) cI 42 oy), (oa (a 37) cZ 201 mt), (oa (a 38) cZ 201 wi), (oa (a 39) cZ 8040 ins)]) (w1 := [(om k0 a (upd I0 31 z9) J0), (oa (a 1) cI 201 kd)]) hP hD [0, 1] [2, 3, 4, 5, 6, 7, 8, 9, 10, 11, 12, 13] rfl rfl (by decide) (by decide) hk1 hFc hP1 hD1
              clear hk1 hPc hDc hFc hP1 hD1 ht
              generalize H1 = H at hP hS ⊢
              have hP := hP.sub (ws' := [(om k0 a (upd I0 31 z9) J0), (oa (a 1) cI 201 kd), (oa (a 11) cI 201 mn), (oa (a 12) cI 8040 cx), (oa (a 13) cI 8040 cy), (oa (a 32) cI 8 S1), (oa (a 40) cI 6 T1), (oa (a 29) cI 42 P1), (oa (a 30) cI 42 Q1), (oa (a 33) cI 42 ox), (oa (a 34) cI 42 oy), (oa (a 37) cZ 201 mt), (oa (a 38) cZ 201 wi), (oa (a 39) cZ 8040 ins)]) [12, 13, 0, 1, 2, 3, 4, 5, 6, 7, 8, 9, 10, 11] rfl
              have hD := hD.sub (ws' := [(om k0 a (upd I0 31 z9) J0), (oa (a 1) cI 201 kd), (oa (a 11) cI 201 mn), (oa (a 12) cI 8040 cx), (oa (a 13) cI 8040 cy), (oa (a 32) cI 8 S1), (oa (a 40) cI 6 T1), (oa (a 29) cI 42 P1), (oa (a 30) cI 42 Q1), (oa (a 33) cI 42 ox), (oa (a 34) cI 42 oy), (oa (a 37) cZ 201 mt), (oa (a 38) cZ 201 wi), (oa (a 39) cZ 8040 ins)]) [12, 13, 0, 1, 2, 3, 4, 5, 6, 7, 8, 9, 10, 11] (by decide) rfl
              have hP : va_P (dC, dI) classes [(om k0 a (upd I0 31 z9) J0), (oa (a 1) cI 201 kd), (oa (a 11) cI 201 mn), (oa (a 12) cI 8040 cx), (oa (a 13) cI 8040 cy), (oa (a 32) cI 8 S1), (oa (a 40) cI 6 T1), (oa (a 29) cI 42 P1), (oa (a 30) cI 42 Q1), (oa (a 33) cI 42 ox), (oa (a 34) cI 42 oy), (oa (a 37) cZ 201 mt), (oa (a 38) cZ 201 wi), (oa (a 39) cZ 8040 ins)] H := hP
              have hD : va_D A [(om k0 a (upd I0 31 z9) J0), (oa (a 1) cI 201 kd), (oa (a 11) cI 201 mn), (oa (a 12) cI 8040 cx), (oa (a 13) cI 8040 cy), (oa (a 32) cI 8 S1), (oa (a 40) cI 6 T1), (oa (a 29) cI 42 P1), (oa (a 30) cI 42 Q1), (oa (a 33) cI 42 ox), (oa (a 34) cI 42 oy), (oa (a 37) cZ 201 mt), (oa (a 38) cZ 201 wi), (oa (a 39) cZ 8040 ins)] := hD
              refine lv_if_eq (tgt := 135) hx hb dX11_isLawfulTo_106 (by decide) (fun c_31 => ?_) (fun c_31 => ?_)
              · have c_31 : ¬ (5 ≤ (kd f).toInt) := zp_0 c_31
                refine lv_aload_n hx hb dX11_isLawfulTo_135 rfl (lv_at hl 3 rfl) ?_
                refine va_get (D := (dC, dI)) (ci := 9) (v := .ref (a 1)) (C := RX11) (T := TX11) (N := 55) hx hb hts inX11 hown hK hP 0 rfl rfl 1 (by decide) (hts _ mw_1160) (fun _ h9 => h9) rfl dX11_isLawfulTo_136 ?_
                refine lv_iload_n hx hb dX11_isLawfulTo_139 rfl (lv_at hl 4 rfl) ?_
                refine z_iald hx hb hK hP 1 0 rfl rfl (e := f) rfl (by omega) (by omega) dX11_isLawfulTo_140 ?_
                refine lv_if_eq (tgt := 185) hx hb dX11_isLawfulTo_141 (by decide) (fun c_32 => ?_) (fun c_32 => ?_)
                · have c_32 : (kd f).toInt = 0 := zc_eq rfl (by decide) c_32
                  refine lv_iinc (v := nI (k + 1)) (lv' := [(5, .int (nI (k + 1))), (7, .int (cy (40 * g + k))), (6, .int (cx (40 * g + k))), (0, .ref k0), (1, .int (nI f)), (2, .int (nI g)), (3, .int (nI h)), (4, .int (-1))]) hx hb dX11_isLawfulTo_185 hl (k := 2) rfl (nI_add k 1) (by decide) rfl (fun ls hl => ?_)
                  refine lv_goto (tgt := 62) hx hb dX11_isLawfulTo_188 (by decide) ?_
                  exact ih_62 (k + 1) z9 S1 T1 P1 Q1 H locs ls (by omega) (by omega) (by intro j hj; rcases Nat.lt_or_ge j k with h | h; exact hall j h; obtain rfl : j = k := (by omega); exact ⟨fun h5 => (by first | (exfalso; omega) | exact zp_ieq.mp (by assumption)), fun h0 => (by first | (exfalso; omega) | exact id | assumption)⟩) hP hD hS (lv_sub hl [0, 3, 4, 5, 6, 7] rfl)
                · have c_32 : ¬ (kd f).toInt = 0 := zc_ne rfl (by decide) c_32
                  refine lv_iload_n hx hb dX11_isLawfulTo_144 rfl (lv_at hl 6 rfl) ?_
                  refine lv_iconst (v := 5) hx hb dX11_isLawfulTo_145 (by decide) ?_
                  refine lv_icmp_eq (tgt := 185) hx hb dX11_isLawfulTo_146 (by decide) (fun c_33 => ?_) (fun c_33 => ?_)
                  · have c_33 : ((h : Nat) : Int) = 5 := zc_eq (nI_toInt (by omega)) (by decide) c_33
                    exfalso; omega
                  · have c_33 : ¬ ((h : Nat) : Int) = 5 := zc_ne (nI_toInt (by omega)) (by decide) c_33
                    refine lv_iload hx hb dX11_isLawfulTo_149 (lv_at hl 7 rfl) ?_
                    refine lv_iconst (v := (-1)) hx hb dX11_isLawfulTo_151 (by decide) ?_
                    refine lv_icmp_eq (tgt := 171) hx hb dX11_isLawfulTo_152 (by decide) (fun c_34 => ?_) (fun c_34 => ?_)
                    · refine lv_aload_n hx hb dX11_isLawfulTo_171 rfl (lv_at hl 3 rfl) ?_
                      refine lv_iload_n hx hb dX11_isLawfulTo_172 rfl (lv_at hl 4 rfl) ?_
                      refine lv_iload hx hb dX11_isLawfulTo_173 (lv_at hl 1 rfl) ?_
                      refine lv_iload hx hb dX11_isLawfulTo_175 (lv_at hl 0 rfl) ?_
                      have hPc := hP.sub (ws' := [(om k0 a (upd I0 31 z9) J0), (oa (a 1) cI 201 kd), (oa (a 11) cI 201 mn), (oa (a 12) cI 8040 cx), (oa (a 13) cI 8040 cy), (oa (a 40) cI 6 T1), (oa (a 29) cI 42 P1), (oa (a 30) cI 42 Q1), (oa (a 33) cI 42 ox), (oa (a 34) cI 42 oy)]) [0, 1, 2, 3, 4, 6, 7, 8, 9, 10] rfl
                      have hDc := hD.sub (ws' := [(om k0 a (upd I0 31 z9) J0), (oa (a 1) cI 201 kd), (oa (a 11) cI 201 mn), (oa (a 12) cI 8040 cx), (oa (a 13) cI 8040 cy), (oa (a 40) cI 6 T1), (oa (a 29) cI 42 P1), (oa (a 30) cI 42 Q1), (oa (a 33) cI 42 ox), (oa (a 34) cI 42 oy)]) [0, 1, 2, 3, 4, 6, 7, 8, 9, 10] (by decide) rfl
                      have hFc := va_free (wc := [(om k0 a (upd I0 31 z9) J0), (oa (a 1) cI 201 kd), (oa (a 11) cI 201 mn), (oa (a 12) cI 8040 cx), (oa (a 13) cI 8040 cy), (oa (a 40) cI 6 T1), (oa (a 29) cI 42 P1), (oa (a 30) cI 42 Q1), (oa (a 33) cI 42 ox), (oa (a 34) cI 42 oy)]) hD hS hA [0, 1, 2, 3, 4, 6, 7, 8, 9, 10] rfl
                      refine zcall (st1 := [.int (pI (∃ e9, e9 < eO (kd f).toInt on ∧ swp on ox oy (cF40 cx f) (cF40 cy f) (cx (40 * g + k)).toInt (cy (40 * g + k)).toInt e9))]) (va_runV (As := [.int (nI f), .int (cx (40 * g + k)), .int (cy (40 * g + k))]) (rest := []) ⟨hx, hb, hml, hown, hts⟩ (k_M_isSwept l dC dI cI cZ cF H.size k0 a (upd I0 31 z9) J0 f on (cx (40 * g + k)) (cy (40 * g + k)) kd mn cx cy T1 P1 Q1 ox oy (hon) (by omega) (by omega) (by rw [← hon2]; assumption) (by omega) (by rw [← hon2]; assumption) (by assumption) ((hp_g k hk9).1) ((hp_g k hk9).2)) (cwV 3 hts (zz_gV mw_1494 mw_1496 mw_67 mw_110 mc_yX11_isSwept) rfl rfl rfl (by decide +kernel) ⟨Nat.le_of_ble_eq_true rfl, Nat.le_of_ble_eq_true rfl⟩) (zPV2 (q0 := 0) (ci := 9) hPc hDc hK hXN rfl rfl) rfl rfl hl.1 rfl (lv_room (Nat.le_of_ble_eq_true rfl)) dX11_isLawfulTo_177 ⟨Nat.le_of_ble_eq_true rfl, Nat.le_of_ble_eq_true rfl⟩) hS hFc hFc rfl (fun t H1 locs ht hB hk1 hS => ?_)
                      obtain ⟨q_35, q_36, q_37, hP1, hD1⟩ := hB
                      rw [ht] at hP1
                      obtain ⟨hP, hD⟩ := va_join (wr := [(oa (a 32) cI 8 S1), (oa (a 37) cZ 201 mt), (oa (a 38) cZ 201 wi), (oa (a 39) cZ 8040 ins)]) (w1 := [(om k0 a (upd I0 31 (nI on)) J0), (oa (a 1) cI 201 kd), (oa (a 11) cI 201 mn), (oa (a 12) cI 8040 cx), (oa (a 13) cI 8040 cy), (oa (a 40) cI 6 q_35), (oa (a 29) cI 42 q_36), (oa (a 30) cI 42 q_37), (oa (a 33) cI 42 ox), (oa (a 34) cI 42 oy)]) hP hD [0, 1, 2, 3, 4, 6, 7, 8, 9, 10] [5, 11, 12, 13] rfl rfl (by decide) (by decide) hk1 hFc hP1 hD1
                      clear hk1 hPc hDc hFc hP1 hD1 ht
                      generalize H1 = H at hP hS ⊢
                      have hP := hP.sub (ws' := [(om k0 a (upd I0 31 (nI on)) J0), (oa (a 1) cI 201 kd), (oa (a 11) cI 201 mn), (oa (a 12) cI 8040 cx), (oa (a 13) cI 8040 cy), (oa (a 32) cI 8 S1), (oa (a 40) cI 6 q_35), (oa (a 29) cI 42 q_36), (oa (a 30) cI 42 q_37), (oa (a 33) cI 42 ox), (oa (a 34) cI 42 oy), (oa (a 37) cZ 201 mt), (oa (a 38) cZ 201 wi), (oa (a 39) cZ 8040 ins)]) [4, 5, 6, 7, 8, 0, 9, 10, 11, 12, 13, 1, 2, 3] rfl
                      have hD := hD.sub (ws' := [(om k0 a (upd I0 31 (nI on)) J0), (oa (a 1) cI 201 kd), (oa (a 11) cI 201 mn), (oa (a 12) cI 8040 cx), (oa (a 13) cI 8040 cy), (oa (a 32) cI 8 S1), (oa (a 40) cI 6 q_35), (oa (a 29) cI 42 q_36), (oa (a 30) cI 42 q_37), (oa (a 33) cI 42 ox), (oa (a 34) cI 42 oy), (oa (a 37) cZ 201 mt), (oa (a 38) cZ 201 wi), (oa (a 39) cZ 8040 ins)]) [4, 5, 6, 7, 8, 0, 9, 10, 11, 12, 13, 1, 2, 3] (by decide) rfl
                      have hP : va_P (dC, dI) classes [(om k0 a (upd I0 31 (nI on)) J0), (oa (a 1) cI 201 kd), (oa (a 11) cI 201 mn), (oa (a 12) cI 8040 cx), (oa (a 13) cI 8040 cy), (oa (a 32) cI 8 S1), (oa (a 40) cI 6 q_35), (oa (a 29) cI 42 q_36), (oa (a 30) cI 42 q_37), (oa (a 33) cI 42 ox), (oa (a 34) cI 42 oy), (oa (a 37) cZ 201 mt), (oa (a 38) cZ 201 wi), (oa (a 39) cZ 8040 ins)] H := hP
                      have hD : va_D A [(om k0 a (upd I0 31 (nI on)) J0), (oa (a 1) cI 201 kd), (oa (a 11) cI 201 mn), (oa (a 12) cI 8040 cx), (oa (a 13) cI 8040 cy), (oa (a 32) cI 8 S1), (oa (a 40) cI 6 q_35), (oa (a 29) cI 42 q_36), (oa (a 30) cI 42 q_37), (oa (a 33) cI 42 ox), (oa (a 34) cI 42 oy), (oa (a 37) cZ 201 mt), (oa (a 38) cZ 201 wi), (oa (a 39) cZ 8040 ins)] := hD
                      refine zz_i (v := pI ((fun k => ∃ e, e < eO (kd f).toInt on ∧ swp on ox oy (cF40 cx f) (cF40 cy f) (cF40 cx g k).toInt (cF40 cy g k).toInt e) k)) (rfl) ?_
                      refine lv_if_eq (tgt := 185) hx hb dX11_isLawfulTo_180 (by decide) (fun c_38 => ?_) (fun c_38 => ?_)
                      · have c_38 : ¬ ((fun k => ∃ e, e < eO (kd f).toInt on ∧ swp on ox oy (cF40 cx f) (cF40 cy f) (cF40 cx g k).toInt (cF40 cy g k).toInt e) k) := zp_0 c_38
                        refine lv_iinc (v := nI (k + 1)) (lv' := [(5, .int (nI (k + 1))), (7, .int (cy (40 * g + k))), (6, .int (cx (40 * g + k))), (0, .ref k0), (1, .int (nI f)), (2, .int (nI g)), (3, .int (nI h)), (4, .int (-1))]) hx hb dX11_isLawfulTo_185 hl (k := 2) rfl (nI_add k 1) (by decide) rfl (fun ls hl => ?_)
                        refine lv_goto (tgt := 62) hx hb dX11_isLawfulTo_188 (by decide) ?_
                        exact ih_62 (k + 1) (nI on) S1 q_35 q_36 q_37 H locs ls (by omega) (by omega) (by intro j hj; rcases Nat.lt_or_ge j k with h | h; exact hall j h; obtain rfl : j = k := (by omega); exact ⟨fun h5 => (by first | (exfalso; omega) | exact zp_ieq.mp (by assumption)), fun h0 => (by first | (exfalso; omega) | exact id | assumption)⟩) hP hD hS (lv_sub hl [0, 3, 4, 5, 6, 7] rfl)
                      · have c_38 : (fun k => ∃ e, e < eO (kd f).toInt on ∧ swp on ox oy (cF40 cx f) (cF40 cy f) (cF40 cx g k).toInt (cF40 cy g k).toInt e) k := zp_1 c_38
                        refine lv_iconst (v := 0) hx hb dX11_isLawfulTo_183 (by decide) ?_
                        have hP9 := hP.sub (ws' := [(om k0 a (upd I0 31 (nI on)) J0), (oa (a 1) cI 201 kd), (oa (a 11) cI 201 mn), (oa (a 12) cI 8040 cx), (oa (a 13) cI 8040 cy), (oa (a 32) cI 8 S1), (oa (a 40) cI 6 q_35), (oa (a 29) cI 42 q_36), (oa (a 30) cI 42 q_37), (oa (a 33) cI 42 ox), (oa (a 34) cI 42 oy), (oa (a 37) cZ 201 mt), (oa (a 38) cZ 201 wi), (oa (a 39) cZ 8040 ins)]) [0, 1, 2, 3, 4, 5, 6, 7, 8, 9, 10, 11, 12, 13] rfl
                        have hD9 := hD.sub (ws' := [(om k0 a (upd I0 31 (nI on)) J0), (oa (a 1) cI 201 kd), (oa (a 11) cI 201 mn), (oa (a 12) cI 8040 cx), (oa (a 13) cI 8040 cy), (oa (a 32) cI 8 S1), (oa (a 40) cI 6 q_35), (oa (a 29) cI 42 q_36), (oa (a 30) cI 42 q_37), (oa (a 33) cI 42 ox), (oa (a 34) cI 42 oy), (oa (a 37) cZ 201 mt), (oa (a 38) cZ 201 wi), (oa (a 39) cZ 8040 ins)]) [0, 1, 2, 3, 4, 5, 6, 7, 8, 9, 10, 11, 12, 13] (by decide) rfl
                        rw [hQ9]
                        exact W.zret (ty := .boolean) (v := 0) hx hb hr (rfl) (fun t ht hW => ⟨⟨congrArg (fun z => Outcome.returned (some (Value.int z))) (show (0 : Int32) = pI (lawTo (ox 0) (oy 0) (kd f).toInt n (cF40 cx f) (cF40 cy f) (kd g).toInt m2 (cF40 cx g) (cF40 cy g) MT WI IN (fun k => ∃ e, e < eO (kd f).toInt on ∧ swp on ox oy (cF40 cx f) (cF40 cy f) (cF40 cx g k).toInt (cF40 cy g k).toInt e)) from (zp_f (fun h => (h.2.2.1 k (by omega)).2 (by omega) (by assumption))).symm), (nI on), S1, q_35, q_36, q_37, by rw [ht]; exact hP9, hD9⟩, hS.F ht⟩) hS.2.2 dX11_isLawfulTo_184
                    · exact absurd (by decide) c_34
              · have c_31 : 5 ≤ (kd f).toInt := zp_1 c_31
                refine lv_aload_n hx hb dX11_isLawfulTo_109 rfl (lv_at hl 3 rfl) ?_
                refine lv_iload_n hx hb dX11_isLawfulTo_110 rfl (lv_at hl 4 rfl) ?_
                refine lv_iload hx hb dX11_isLawfulTo_111 (lv_at hl 1 rfl) ?_
                refine lv_iload hx hb dX11_isLawfulTo_113 (lv_at hl 0 rfl) ?_
                have hPc := hP.sub (ws' := [(om k0 a (upd I0 31 z9) J0), (oa (a 1) cI 201 kd), (oa (a 11) cI 201 mn), (oa (a 12) cI 8040 cx), (oa (a 13) cI 8040 cy), (oa (a 32) cI 8 S1)]) [0, 1, 2, 3, 4, 5] rfl
                have hDc := hD.sub (ws' := [(om k0 a (upd I0 31 z9) J0), (oa (a 1) cI 201 kd), (oa (a 11) cI 201 mn), (oa (a 12) cI 8040 cx), (oa (a 13) cI 8040 cy), (oa (a 32) cI 8 S1)]) [0, 1, 2, 3, 4, 5] (by decide) rfl
                have hFc := va_free (wc := [(om k0 a (upd I0 31 z9) J0), (oa (a 1) cI 201 kd), (oa (a 11) cI 201 mn), (oa (a 12) cI 8040 cx), (oa (a 13) cI 8040 cy), (oa (a 32) cI 8 S1)]) hD hS hA [0, 1, 2, 3, 4, 5] rfl
                refine zcall (st1 := [.int (pI (¬ (∃ i, i < eO (kd f).toInt n ∧ eOn n (cF40 cx f) (cF40 cy f) i (cx (40 * g + k)).toInt (cy (40 * g + k)).toInt) ∧ par2 (eTg n (cF40 cx f) (cF40 cy f) (cx (40 * g + k)).toInt (cy (40 * g + k)).toInt) (eO (kd f).toInt n)))]) (va_runV (As := [.int (nI f), .int (cx (40 * g + k)), .int (cy (40 * g + k))]) (rest := []) ⟨hx, hb, hml, hown, hts⟩ (k_M_isInside l dC dI cI cZ cF H.size k0 a (upd I0 31 z9) J0 f n kd mn cx cy S1 (cx (40 * g + k)) (cy (40 * g + k)) (by omega) (by assumption) (by omega) (by assumption) ((hp_g k hk9).1) ((hp_g k hk9).2)) (cwV 3 hts (zz_gV mw_1471 mw_1473 mw_62 mw_110 mc_yX11_isInside) rfl rfl rfl (by decide +kernel) ⟨Nat.le_of_ble_eq_true rfl, Nat.le_of_ble_eq_true rfl⟩) (zPV2 (q0 := 0) (ci := 9) hPc hDc hK hXN rfl rfl) rfl rfl hl.1 rfl (lv_room (Nat.le_of_ble_eq_true rfl)) dX11_isLawfulTo_115 ⟨Nat.le_of_ble_eq_true rfl, Nat.le_of_ble_eq_true rfl⟩) hS hFc hFc rfl (fun t H1 locs ht hB hk1 hS => ?_)
                obtain ⟨q_39, hP1, hD1⟩ := hB
                rw [ht] at hP1
                obtain ⟨hP, hD⟩ := va_join (wr := [(oa (a 40) cI 6 T1), (oa (a 29) cI 42 P1), (oa (a 30) cI 42 Q1), (oa (a 33) cI 42 ox), (oa (a 34) cI 42 oy), (oa (a 37) cZ 201 mt), (oa (a 38) cZ 201 wi), (oa (a 39) cZ 8040 ins)]) (w1 := [(om k0 a (upd I0 31 z9) J0), (oa (a 1) cI 201 kd), (oa (a 11) cI 201 mn), (oa (a 12) cI 8040 cx), (oa (a 13) cI 8040 cy), (oa (a 32) cI 8 q_39)]) hP hD [0, 1, 2, 3, 4, 5] [6, 7, 8, 9, 10, 11, 12, 13] rfl rfl (by decide) (by decide) hk1 hFc hP1 hD1
                clear hk1 hPc hDc hFc hP1 hD1 ht
                generalize H1 = H at hP hS ⊢
                have hP := hP.sub (ws' := [(om k0 a (upd I0 31 z9) J0), (oa (a 1) cI 201 kd), (oa (a 11) cI 201 mn), (oa (a 12) cI 8040 cx), (oa (a 13) cI 8040 cy), (oa (a 32) cI 8 q_39), (oa (a 40) cI 6 T1), (oa (a 29) cI 42 P1), (oa (a 30) cI 42 Q1), (oa (a 33) cI 42 ox), (oa (a 34) cI 42 oy), (oa (a 37) cZ 201 mt), (oa (a 38) cZ 201 wi), (oa (a 39) cZ 8040 ins)]) [8, 9, 10, 11, 12, 13, 0, 1, 2, 3, 4, 5, 6, 7] rfl
                have hD := hD.sub (ws' := [(om k0 a (upd I0 31 z9) J0), (oa (a 1) cI 201 kd), (oa (a 11) cI 201 mn), (oa (a 12) cI 8040 cx), (oa (a 13) cI 8040 cy), (oa (a 32) cI 8 q_39), (oa (a 40) cI 6 T1), (oa (a 29) cI 42 P1), (oa (a 30) cI 42 Q1), (oa (a 33) cI 42 ox), (oa (a 34) cI 42 oy), (oa (a 37) cZ 201 mt), (oa (a 38) cZ 201 wi), (oa (a 39) cZ 8040 ins)]) [8, 9, 10, 11, 12, 13, 0, 1, 2, 3, 4, 5, 6, 7] (by decide) rfl
                have hP : va_P (dC, dI) classes [(om k0 a (upd I0 31 z9) J0), (oa (a 1) cI 201 kd), (oa (a 11) cI 201 mn), (oa (a 12) cI 8040 cx), (oa (a 13) cI 8040 cy), (oa (a 32) cI 8 q_39), (oa (a 40) cI 6 T1), (oa (a 29) cI 42 P1), (oa (a 30) cI 42 Q1), (oa (a 33) cI 42 ox), (oa (a 34) cI 42 oy), (oa (a 37) cZ 201 mt), (oa (a 38) cZ 201 wi), (oa (a 39) cZ 8040 ins)] H := hP
                have hD : va_D A [(om k0 a (upd I0 31 z9) J0), (oa (a 1) cI 201 kd), (oa (a 11) cI 201 mn), (oa (a 12) cI 8040 cx), (oa (a 13) cI 8040 cy), (oa (a 32) cI 8 q_39), (oa (a 40) cI 6 T1), (oa (a 29) cI 42 P1), (oa (a 30) cI 42 Q1), (oa (a 33) cI 42 ox), (oa (a 34) cI 42 oy), (oa (a 37) cZ 201 mt), (oa (a 38) cZ 201 wi), (oa (a 39) cZ 8040 ins)] := hD
                refine zz_i (v := pI (inF (kd f).toInt n (cF40 cx f) (cF40 cy f) (cF40 cx g k).toInt (cF40 cy g k).toInt)) (rfl) ?_
                refine lv_aload_n hx hb dX11_isLawfulTo_118 rfl (lv_at hl 3 rfl) ?_
                refine va_get (D := (dC, dI)) (ci := 9) (v := .ref (a 39)) (C := RX11) (T := TX11) (N := 55) hx hb hts inX11 hown hK hP 0 rfl rfl 39 (by decide) (hts _ mw_1198) (fun _ h9 => h9) rfl dX11_isLawfulTo_119 ?_
                refine lv_bipush (v := 40) hx hb dX11_isLawfulTo_122 (by decide) ?_
                refine lv_iload_n hx hb dX11_isLawfulTo_124 rfl (lv_at hl 5 rfl) ?_
                refine lv_imul hx hb dX11_isLawfulTo_125 ?_
                refine zz_i (v := nI (40 * g)) (pk_mul 40 g) ?_
                refine lv_iload hx hb dX11_isLawfulTo_126 (lv_at hl 2 rfl) ?_
                refine lv_iadd hx hb dX11_isLawfulTo_128 ?_
                refine zz_i (v := nI (40 * g + k)) (nI_add (40 * g) k) ?_
                refine z_zald hx hb hK hP 13 1 rfl rfl (e := 40 * g + k) rfl (by omega) (by omega) dX11_isLawfulTo_129 ?_
                refine zz_i (v := pI (IN k)) (hin k (by omega) (by omega)) ?_
                refine lv_icmp_eq (tgt := 135) hx hb dX11_isLawfulTo_130 (by decide) (fun c_40 => ?_) (fun c_40 => ?_)
                · have c_40 : (pI (inF (kd f).toInt n (cF40 cx f) (cF40 cy f) (cF40 cx g k).toInt (cF40 cy g k).toInt)).toInt = (pI (IN k)).toInt := zc_eq rfl rfl c_40
                  refine lv_aload_n hx hb dX11_isLawfulTo_135 rfl (lv_at hl 3 rfl) ?_
                  refine va_get (D := (dC, dI)) (ci := 9) (v := .ref (a 1)) (C := RX11) (T := TX11) (N := 55) hx hb hts inX11 hown hK hP 0 rfl rfl 1 (by decide) (hts _ mw_1160) (fun _ h9 => h9) rfl dX11_isLawfulTo_136 ?_
                  refine lv_iload_n hx hb dX11_isLawfulTo_139 rfl (lv_at hl 4 rfl) ?_
                  refine z_iald hx hb hK hP 1 0 rfl rfl (e := f) rfl (by omega) (by omega) dX11_isLawfulTo_140 ?_
                  refine lv_if_eq (tgt := 185) hx hb dX11_isLawfulTo_141 (by decide) (fun c_41 => ?_) (fun c_41 => ?_)
                  · have c_41 : (kd f).toInt = 0 := zc_eq rfl (by decide) c_41
                    refine lv_iinc (v := nI (k + 1)) (lv' := [(5, .int (nI (k + 1))), (7, .int (cy (40 * g + k))), (6, .int (cx (40 * g + k))), (0, .ref k0), (1, .int (nI f)), (2, .int (nI g)), (3, .int (nI h)), (4, .int (-1))]) hx hb dX11_isLawfulTo_185 hl (k := 2) rfl (nI_add k 1) (by decide) rfl (fun ls hl => ?_)
                    refine lv_goto (tgt := 62) hx hb dX11_isLawfulTo_188 (by decide) ?_
                    exact ih_62 (k + 1) z9 q_39 T1 P1 Q1 H locs ls (by omega) (by omega) (by intro j hj; rcases Nat.lt_or_ge j k with h | h; exact hall j h; obtain rfl : j = k := (by omega); exact ⟨fun h5 => (by first | (exfalso; omega) | exact zp_ieq.mp (by assumption)), fun h0 => (by first | (exfalso; omega) | exact id | assumption)⟩) hP hD hS (lv_sub hl [0, 3, 4, 5, 6, 7] rfl)
                  · have c_41 : ¬ (kd f).toInt = 0 := zc_ne rfl (by decide) c_41
                    refine lv_iload_n hx hb dX11_isLawfulTo_144 rfl (lv_at hl 6 rfl) ?_
                    refine lv_iconst (v := 5) hx hb dX11_isLawfulTo_145 (by decide) ?_
                    refine lv_icmp_eq (tgt := 185) hx hb dX11_isLawfulTo_146 (by decide) (fun c_42 => ?_) (fun c_42 => ?_)
                    · have c_42 : ((h : Nat) : Int) = 5 := zc_eq (nI_toInt (by omega)) (by decide) c_42
                      exfalso; omega
                    · have c_42 : ¬ ((h : Nat) : Int) = 5 := zc_ne (nI_toInt (by omega)) (by decide) c_42
                      refine lv_iload hx hb dX11_isLawfulTo_149 (lv_at hl 7 rfl) ?_
                      refine lv_iconst (v := (-1)) hx hb dX11_isLawfulTo_151 (by decide) ?_
                      refine lv_icmp_eq (tgt := 171) hx hb dX11_isLawfulTo_152 (by decide) (fun c_43 => ?_) (fun c_43 => ?_)
                      · refine lv_aload_n hx hb dX11_isLawfulTo_171 rfl (lv_at hl 3 rfl) ?_
                        refine lv_iload_n hx hb dX11_isLawfulTo_172 rfl (lv_at hl 4 rfl) ?_
                        refine lv_iload hx hb dX11_isLawfulTo_173 (lv_at hl 1 rfl) ?_
                        refine lv_iload hx hb dX11_isLawfulTo_175 (lv_at hl 0 rfl) ?_
                        have hPc := hP.sub (ws' := [(om k0 a (upd I0 31 z9) J0), (oa (a 1) cI 201 kd), (oa (a 11) cI 201 mn), (oa (a 12) cI 8040 cx), (oa (a 13) cI 8040 cy), (oa (a 40) cI 6 T1), (oa (a 29) cI 42 P1), (oa (a 30) cI 42 Q1), (oa (a 33) cI 42 ox), (oa (a 34) cI 42 oy)]) [0, 1, 2, 3, 4, 6, 7, 8, 9, 10] rfl
                        have hDc := hD.sub (ws' := [(om k0 a (upd I0 31 z9) J0), (oa (a 1) cI 201 kd), (oa (a 11) cI 201 mn), (oa (a 12) cI 8040 cx), (oa (a 13) cI 8040 cy), (oa (a 40) cI 6 T1), (oa (a 29) cI 42 P1), (oa (a 30) cI 42 Q1), (oa (a 33) cI 42 ox), (oa (a 34) cI 42 oy)]) [0, 1, 2, 3, 4, 6, 7, 8, 9, 10] (by decide) rfl
                        have hFc := va_free (wc := [(om k0 a (upd I0 31 z9) J0), (oa (a 1) cI 201 kd), (oa (a 11) cI 201 mn), (oa (a 12) cI 8040 cx), (oa (a 13) cI 8040 cy), (oa (a 40) cI 6 T1), (oa (a 29) cI 42 P1), (oa (a 30) cI 42 Q1), (oa (a 33) cI 42 ox), (oa (a 34) cI 42 oy)]) hD hS hA [0, 1, 2, 3, 4, 6, 7, 8, 9, 10] rfl
                        refine zcall (st1 := [.int (pI (∃ e9, e9 < eO (kd f).toInt on ∧ swp on ox oy (cF40 cx f) (cF40 cy f) (cx (40 * g + k)).toInt (cy (40 * g + k)).toInt e9))]) (va_runV (As := [.int (nI f), .int (cx (40 * g + k)), .int (cy (40 * g + k))]) (rest := []) ⟨hx, hb, hml, hown, hts⟩ (k_M_isSwept l dC dI cI cZ cF H.size k0 a (upd I0 31 z9) J0 f on (cx (40 * g + k)) (cy (40 * g + k)) kd mn cx cy T1 P1 Q1 ox oy (hon) (by omega) (by omega) (by rw [← hon2]; assumption) (by omega) (by rw [← hon2]; assumption) (by assumption) ((hp_g k hk9).1) ((hp_g k hk9).2)) (cwV 3 hts (zz_gV mw_1494 mw_1496 mw_67 mw_110 mc_yX11_isSwept) rfl rfl rfl (by decide +kernel) ⟨Nat.le_of_ble_eq_true rfl, Nat.le_of_ble_eq_true rfl⟩) (zPV2 (q0 := 0) (ci := 9) hPc hDc hK hXN rfl rfl) rfl rfl hl.1 rfl (lv_room (Nat.le_of_ble_eq_true rfl)) dX11_isLawfulTo_177 ⟨Nat.le_of_ble_eq_true rfl, Nat.le_of_ble_eq_true rfl⟩) hS hFc hFc rfl (fun t H1 locs ht hB hk1 hS => ?_)
                        obtain ⟨q_44, q_45, q_46, hP1, hD1⟩ := hB
                        rw [ht] at hP1
                        obtain ⟨hP, hD⟩ := va_join (wr := [(oa (a 32) cI 8 q_39), (oa (a 37) cZ 201 mt), (oa (a 38) cZ 201 wi), (oa (a 39) cZ 8040 ins)]) (w1 := [(om k0 a (upd I0 31 (nI on)) J0), (oa (a 1) cI 201 kd), (oa (a 11) cI 201 mn), (oa (a 12) cI 8040 cx), (oa (a 13) cI 8040 cy), (oa (a 40) cI 6 q_44), (oa (a 29) cI 42 q_45), (oa (a 30) cI 42 q_46), (oa (a 33) cI 42 ox), (oa (a 34) cI 42 oy)]) hP hD [0, 1, 2, 3, 4, 6, 7, 8, 9, 10] [5, 11, 12, 13] rfl rfl (by decide) (by decide) hk1 hFc hP1 hD1
                        clear hk1 hPc hDc hFc hP1 hD1 ht
                        generalize H1 = H at hP hS ⊢
                        have hP := hP.sub (ws' := [(om k0 a (upd I0 31 (nI on)) J0), (oa (a 1) cI 201 kd), (oa (a 11) cI 201 mn), (oa (a 12) cI 8040 cx), (oa (a 13) cI 8040 cy), (oa (a 32) cI 8 q_39), (oa (a 40) cI 6 q_44), (oa (a 29) cI 42 q_45), (oa (a 30) cI 42 q_46), (oa (a 33) cI 42 ox), (oa (a 34) cI 42 oy), (oa (a 37) cZ 201 mt), (oa (a 38) cZ 201 wi), (oa (a 39) cZ 8040 ins)]) [4, 5, 6, 7, 8, 0, 9, 10, 11, 12, 13, 1, 2, 3] rfl
                        have hD := hD.sub (ws' := [(om k0 a (upd I0 31 (nI on)) J0), (oa (a 1) cI 201 kd), (oa (a 11) cI 201 mn), (oa (a 12) cI 8040 cx), (oa (a 13) cI 8040 cy), (oa (a 32) cI 8 q_39), (oa (a 40) cI 6 q_44), (oa (a 29) cI 42 q_45), (oa (a 30) cI 42 q_46), (oa (a 33) cI 42 ox), (oa (a 34) cI 42 oy), (oa (a 37) cZ 201 mt), (oa (a 38) cZ 201 wi), (oa (a 39) cZ 8040 ins)]) [4, 5, 6, 7, 8, 0, 9, 10, 11, 12, 13, 1, 2, 3] (by decide) rfl
                        have hP : va_P (dC, dI) classes [(om k0 a (upd I0 31 (nI on)) J0), (oa (a 1) cI 201 kd), (oa (a 11) cI 201 mn), (oa (a 12) cI 8040 cx), (oa (a 13) cI 8040 cy), (oa (a 32) cI 8 q_39), (oa (a 40) cI 6 q_44), (oa (a 29) cI 42 q_45), (oa (a 30) cI 42 q_46), (oa (a 33) cI 42 ox), (oa (a 34) cI 42 oy), (oa (a 37) cZ 201 mt), (oa (a 38) cZ 201 wi), (oa (a 39) cZ 8040 ins)] H := hP
                        have hD : va_D A [(om k0 a (upd I0 31 (nI on)) J0), (oa (a 1) cI 201 kd), (oa (a 11) cI 201 mn), (oa (a 12) cI 8040 cx), (oa (a 13) cI 8040 cy), (oa (a 32) cI 8 q_39), (oa (a 40) cI 6 q_44), (oa (a 29) cI 42 q_45), (oa (a 30) cI 42 q_46), (oa (a 33) cI 42 ox), (oa (a 34) cI 42 oy), (oa (a 37) cZ 201 mt), (oa (a 38) cZ 201 wi), (oa (a 39) cZ 8040 ins)] := hD
                        refine zz_i (v := pI ((fun k => ∃ e, e < eO (kd f).toInt on ∧ swp on ox oy (cF40 cx f) (cF40 cy f) (cF40 cx g k).toInt (cF40 cy g k).toInt e) k)) (rfl) ?_
                        refine lv_if_eq (tgt := 185) hx hb dX11_isLawfulTo_180 (by decide) (fun c_47 => ?_) (fun c_47 => ?_)
                        · have c_47 : ¬ ((fun k => ∃ e, e < eO (kd f).toInt on ∧ swp on ox oy (cF40 cx f) (cF40 cy f) (cF40 cx g k).toInt (cF40 cy g k).toInt e) k) := zp_0 c_47
                          refine lv_iinc (v := nI (k + 1)) (lv' := [(5, .int (nI (k + 1))), (7, .int (cy (40 * g + k))), (6, .int (cx (40 * g + k))), (0, .ref k0), (1, .int (nI f)), (2, .int (nI g)), (3, .int (nI h)), (4, .int (-1))]) hx hb dX11_isLawfulTo_185 hl (k := 2) rfl (nI_add k 1) (by decide) rfl (fun ls hl => ?_)
                          refine lv_goto (tgt := 62) hx hb dX11_isLawfulTo_188 (by decide) ?_
                          exact ih_62 (k + 1) (nI on) q_39 q_44 q_45 q_46 H locs ls (by omega) (by omega) (by intro j hj; rcases Nat.lt_or_ge j k with h | h; exact hall j h; obtain rfl : j = k := (by omega); exact ⟨fun h5 => (by first | (exfalso; omega) | exact zp_ieq.mp (by assumption)), fun h0 => (by first | (exfalso; omega) | exact id | assumption)⟩) hP hD hS (lv_sub hl [0, 3, 4, 5, 6, 7] rfl)
                        · have c_47 : (fun k => ∃ e, e < eO (kd f).toInt on ∧ swp on ox oy (cF40 cx f) (cF40 cy f) (cF40 cx g k).toInt (cF40 cy g k).toInt e) k := zp_1 c_47
                          refine lv_iconst (v := 0) hx hb dX11_isLawfulTo_183 (by decide) ?_
                          have hP9 := hP.sub (ws' := [(om k0 a (upd I0 31 (nI on)) J0), (oa (a 1) cI 201 kd), (oa (a 11) cI 201 mn), (oa (a 12) cI 8040 cx), (oa (a 13) cI 8040 cy), (oa (a 32) cI 8 q_39), (oa (a 40) cI 6 q_44), (oa (a 29) cI 42 q_45), (oa (a 30) cI 42 q_46), (oa (a 33) cI 42 ox), (oa (a 34) cI 42 oy), (oa (a 37) cZ 201 mt), (oa (a 38) cZ 201 wi), (oa (a 39) cZ 8040 ins)]) [0, 1, 2, 3, 4, 5, 6, 7, 8, 9, 10, 11, 12, 13] rfl
                          have hD9 := hD.sub (ws' := [(om k0 a (upd I0 31 (nI on)) J0), (oa (a 1) cI 201 kd), (oa (a 11) cI 201 mn), (oa (a 12) cI 8040 cx), (oa (a 13) cI 8040 cy), (oa (a 32) cI 8 q_39), (oa (a 40) cI 6 q_44), (oa (a 29) cI 42 q_45), (oa (a 30) cI 42 q_46), (oa (a 33) cI 42 ox), (oa (a 34) cI 42 oy), (oa (a 37) cZ 201 mt), (oa (a 38) cZ 201 wi), (oa (a 39) cZ 8040 ins)]) [0, 1, 2, 3, 4, 5, 6, 7, 8, 9, 10, 11, 12, 13] (by decide) rfl
                          rw [hQ9]
                          exact W.zret (ty := .boolean) (v := 0) hx hb hr (rfl) (fun t ht hW => ⟨⟨congrArg (fun z => Outcome.returned (some (Value.int z))) (show (0 : Int32) = pI (lawTo (ox 0) (oy 0) (kd f).toInt n (cF40 cx f) (cF40 cy f) (kd g).toInt m2 (cF40 cx g) (cF40 cy g) MT WI IN (fun k => ∃ e, e < eO (kd f).toInt on ∧ swp on ox oy (cF40 cx f) (cF40 cy f) (cF40 cx g k).toInt (cF40 cy g k).toInt e)) from (zp_f (fun h => (h.2.2.1 k (by omega)).2 (by omega) (by assumption))).symm), (nI on), q_39, q_44, q_45, q_46, by rw [ht]; exact hP9, hD9⟩, hS.F ht⟩) hS.2.2 dX11_isLawfulTo_184
                      · exact absurd (by decide) c_43
                · have c_40 : ¬ (pI (inF (kd f).toInt n (cF40 cx f) (cF40 cy f) (cF40 cx g k).toInt (cF40 cy g k).toInt)).toInt = (pI (IN k)).toInt := zc_ne rfl rfl c_40
                  refine lv_iconst (v := 0) hx hb dX11_isLawfulTo_133 (by decide) ?_
                  have hP9 := hP.sub (ws' := [(om k0 a (upd I0 31 z9) J0), (oa (a 1) cI 201 kd), (oa (a 11) cI 201 mn), (oa (a 12) cI 8040 cx), (oa (a 13) cI 8040 cy), (oa (a 32) cI 8 q_39), (oa (a 40) cI 6 T1), (oa (a 29) cI 42 P1), (oa (a 30) cI 42 Q1), (oa (a 33) cI 42 ox), (oa (a 34) cI 42 oy), (oa (a 37) cZ 201 mt), (oa (a 38) cZ 201 wi), (oa (a 39) cZ 8040 ins)]) [0, 1, 2, 3, 4, 5, 6, 7, 8, 9, 10, 11, 12, 13] rfl
                  have hD9 := hD.sub (ws' := [(om k0 a (upd I0 31 z9) J0), (oa (a 1) cI 201 kd), (oa (a 11) cI 201 mn), (oa (a 12) cI 8040 cx), (oa (a 13) cI 8040 cy), (oa (a 32) cI 8 q_39), (oa (a 40) cI 6 T1), (oa (a 29) cI 42 P1), (oa (a 30) cI 42 Q1), (oa (a 33) cI 42 ox), (oa (a 34) cI 42 oy), (oa (a 37) cZ 201 mt), (oa (a 38) cZ 201 wi), (oa (a 39) cZ 8040 ins)]) [0, 1, 2, 3, 4, 5, 6, 7, 8, 9, 10, 11, 12, 13] (by decide) rfl
                  rw [hQ9]
                  exact W.zret (ty := .boolean) (v := 0) hx hb hr (rfl) (fun t ht hW => ⟨⟨congrArg (fun z => Outcome.returned (some (Value.int z))) (show (0 : Int32) = pI (lawTo (ox 0) (oy 0) (kd f).toInt n (cF40 cx f) (cF40 cy f) (kd g).toInt m2 (cF40 cx g) (cF40 cy g) MT WI IN (fun k => ∃ e, e < eO (kd f).toInt on ∧ swp on ox oy (cF40 cx f) (cF40 cy f) (cF40 cx g k).toInt (cF40 cy g k).toInt e)) from (zp_f (fun h => absurd (zp_ieq.mpr ((h.2.2.1 k (by omega)).1 (by omega))) (by assumption))).symm), z9, q_39, T1, P1, Q1, by rw [ht]; exact hP9, hD9⟩, hS.F ht⟩) hS.2.2 dX11_isLawfulTo_134
        exact hl_62 _ 0 (I0 31) q_25 T0 P0 Q0 H locs ls (Nat.lt_succ_self _) (by omega) (by intro j hj; omega) hP hD hS (lv_sub hl [0, 1, 2, 3, 4, 5] rfl)
      · have c_26 : ¬ (pI (inF (kd g).toInt m2 (cF40 cx g) (cF40 cy g) (cF40 cx f 0).toInt (cF40 cy f 0).toInt)).toInt = (pI WI).toInt := zc_ne rfl rfl c_26
        refine lv_iconst (v := 0) hx hb dX11_isLawfulTo_57 (by decide) ?_
        have hP9 := hP.sub (ws' := [(om k0 a I0 J0), (oa (a 1) cI 201 kd), (oa (a 11) cI 201 mn), (oa (a 12) cI 8040 cx), (oa (a 13) cI 8040 cy), (oa (a 32) cI 8 q_25), (oa (a 40) cI 6 T0), (oa (a 29) cI 42 P0), (oa (a 30) cI 42 Q0), (oa (a 33) cI 42 ox), (oa (a 34) cI 42 oy), (oa (a 37) cZ 201 mt), (oa (a 38) cZ 201 wi), (oa (a 39) cZ 8040 ins)]) [0, 1, 2, 3, 4, 5, 6, 7, 8, 9, 10, 11, 12, 13] rfl
        have hD9 := hD.sub (ws' := [(om k0 a I0 J0), (oa (a 1) cI 201 kd), (oa (a 11) cI 201 mn), (oa (a 12) cI 8040 cx), (oa (a 13) cI 8040 cy), (oa (a 32) cI 8 q_25), (oa (a 40) cI 6 T0), (oa (a 29) cI 42 P0), (oa (a 30) cI 42 Q0), (oa (a 33) cI 42 ox), (oa (a 34) cI 42 oy), (oa (a 37) cZ 201 mt), (oa (a 38) cZ 201 wi), (oa (a 39) cZ 8040 ins)]) [0, 1, 2, 3, 4, 5, 6, 7, 8, 9, 10, 11, 12, 13] (by decide) rfl
        rw [hQ9]
        exact W.zret (ty := .boolean) (v := 0) hx hb hr (rfl) (fun t ht hW => ⟨⟨congrArg (fun z => Outcome.returned (some (Value.int z))) (show (0 : Int32) = pI (lawTo (ox 0) (oy 0) (kd f).toInt n (cF40 cx f) (cF40 cy f) (kd g).toInt m2 (cF40 cx g) (cF40 cy g) MT WI IN (fun k => ∃ e, e < eO (kd f).toInt on ∧ swp on ox oy (cF40 cx f) (cF40 cy f) (cF40 cx g k).toInt (cF40 cy g k).toInt e)) from (zp_f (fun h => absurd (zp_ieq.mpr (h.2.1 (by omega))) (by assumption))).symm), (I0 31), q_25, T0, P0, Q0, by rw [ht]; exact hP9, hD9⟩, hS.F ht⟩) hS.2.2 dX11_isLawfulTo_58
  · have c_2 : ¬ (pI (mtF (kd f).toInt n (cF40 cx f) (cF40 cy f) (kd g).toInt m2 (cF40 cx g) (cF40 cy g))).toInt = (pI MT).toInt := zc_ne rfl rfl c_2
    refine lv_iconst (v := 0) hx hb dX11_isLawfulTo_15 (by decide) ?_
    have hP9 := hP.sub (ws' := [(om k0 a I0 J0), (oa (a 1) cI 201 kd), (oa (a 11) cI 201 mn), (oa (a 12) cI 8040 cx), (oa (a 13) cI 8040 cy), (oa (a 32) cI 8 q_1), (oa (a 40) cI 6 T0), (oa (a 29) cI 42 P0), (oa (a 30) cI 42 Q0), (oa (a 33) cI 42 ox), (oa (a 34) cI 42 oy), (oa (a 37) cZ 201 mt), (oa (a 38) cZ 201 wi), (oa (a 39) cZ 8040 ins)]) [0, 1, 2, 3, 4, 5, 6, 7, 8, 9, 10, 11, 12, 13] rfl
    have hD9 := hD.sub (ws' := [(om k0 a I0 J0), (oa (a 1) cI 201 kd), (oa (a 11) cI 201 mn), (oa (a 12) cI 8040 cx), (oa (a 13) cI 8040 cy), (oa (a 32) cI 8 q_1), (oa (a 40) cI 6 T0), (oa (a 29) cI 42 P0), (oa (a 30) cI 42 Q0), (oa (a 33) cI 42 ox), (oa (a 34) cI 42 oy), (oa (a 37) cZ 201 mt), (oa (a 38) cZ 201 wi), (oa (a 39) cZ 8040 ins)]) [0, 1, 2, 3, 4, 5, 6, 7, 8, 9, 10, 11, 12, 13] (by decide) rfl
    rw [hQ9]
    exact W.zret (ty := .boolean) (v := 0) hx hb hr (rfl) (fun t ht hW => ⟨⟨congrArg (fun z => Outcome.returned (some (Value.int z))) (show (0 : Int32) = pI (lawTo (ox 0) (oy 0) (kd f).toInt n (cF40 cx f) (cF40 cy f) (kd g).toInt m2 (cF40 cx g) (cF40 cy g) MT WI IN (fun k => ∃ e, e < eO (kd f).toInt on ∧ swp on ox oy (cF40 cx f) (cF40 cy f) (cF40 cx g k).toInt (cF40 cy g k).toInt e)) from (zp_f (fun h => absurd (zp_ieq.mpr h.1) (by assumption))).symm), (I0 31), q_1, T0, P0, Q0, by rw [ht]; exact hP9, hD9⟩, hS.F ht⟩) hS.2.2 dX11_isLawfulTo_16
