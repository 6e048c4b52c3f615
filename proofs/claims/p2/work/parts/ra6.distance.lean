set_option maxHeartbeats 4000000 in
set_option maxRecDepth 100000 in
theorem k_M_distance_m (l : Launch) (dC : Nat → ClassId) (dI : Nat → Nat → Nat) (cI cZ cF : ClassId) (sz : Nat) (k0 : Nat) (a : Nat → Nat) (I0 : Nat → Int32) (J0 : Nat → Int64) (f : Nat) (n : Nat) (g : Nat) (m2 : Nat) (kd : Nat → Int32) (mn : Nat → Int32) (cx : Nat → Int32) (cy : Nat → Int32) (S0 : Nat → Int32) (hf_f : f ≤ 200) (hm_f : mn f = nI n) (hn_f : 1 ≤ n ∧ n ≤ 40) (hp_f : pls n (cF40 cx f) (cF40 cy f)) (hf_g : g ≤ 200) (hm_g : mn g = nI m2) (hn_g : 1 ≤ m2 ∧ m2 ≤ 40) (hp_g : pls m2 (cF40 cx g) (cF40 cy g)) (hmt : mtF (kd f).toInt n (cF40 cx f) (cF40 cy f) (kd g).toInt m2 (cF40 cx g) (cF40 cy g)) : Met l yX11_distance (.code yX11_distance cX11_distance 5 none :: ws0) ({ frames := 4, cells := 0, slots := 0, locals := 105 } : Room) (va_Pc [.ref k0, .int (nI f), .int (nI g)] (zPre (dC, dI) classes (zTy cI cZ cF) [(om k0 a I0 J0), (oa (a 1) cI 201 kd), (oa (a 11) cI 201 mn), (oa (a 12) cI 8040 cx), (oa (a 13) cI 8040 cy), (oa (a 32) cI 8 S0)] sz zXN)) (zQ none (fun t => ∃ (S1 : Nat → Int32), va_P (dC, dI) classes [(om k0 a I0 (vp_updL (vp_updL J0 48 (jI 0)) 49 (jI 1))), (oa (a 1) cI 201 kd), (oa (a 11) cI 201 mn), (oa (a 12) cI 8040 cx), (oa (a 13) cI 8040 cy), (oa (a 32) cI 8 S1)] t.heap ∧ va_D (va_A [(om k0 a I0 J0), (oa (a 1) cI 201 kd), (oa (a 11) cI 201 mn), (oa (a 12) cI 8040 cx), (oa (a 13) cI 8040 cy), (oa (a 32) cI 8 S0)] sz) [(om k0 a I0 (vp_updL (vp_updL J0 48 (jI 0)) 49 (jI 1))), (oa (a 1) cI 201 kd), (oa (a 11) cI 201 mn), (oa (a 12) cI 8040 cx), (oa (a 13) cI 8040 cy), (oa (a 32) cI 8 S1)]) (va_A [(om k0 a I0 J0), (oa (a 1) cI 201 kd), (oa (a 11) cI 201 mn), (oa (a 12) cI 8040 cx), (oa (a 13) cI 8040 cy), (oa (a 32) cI 8 S0)] sz)) 0 0 (va_A [(om k0 a I0 J0), (oa (a 1) cI 201 kd), (oa (a 11) cI 201 mn), (oa (a 12) cI 8040 cx), (oa (a 13) cI 8040 cy), (oa (a 32) cI 8 S0)] sz) := by
  refine Met.ofW (cc := cX11_distance) (maxL := 5) (ret := none) (by decide) rfl ?_
  intro p e s m args below meth c s₁ B hml hv
  obtain ⟨rfl, hsz, hP, hK, hD0, hXN⟩ := hv
  have hx := B.exec
  have hb := B.bytes
  have hr := B.returns
  have hts0 := atoms_spec (ws := .code yX11_distance cX11_distance 5 none :: ws0) B.pre
  have hts : ∀ w9 ∈ ws0, w9.before ([.ref k0, .int (nI f), .int (nI g)] : List Value).toArray s = true := fun w9 h => hts0 w9 (List.mem_cons_of_mem _ h)
  have hown : s.vm.findClass "ScaleShopModel" = some m.cls := findClass_of_methodNamed B.named
  have hlocks := B.notSynchronized
  subst hsz
  have hD := hD0.self (sz := s.heap.size)
  clear hD0
  generalize hAe : va_A [(om k0 a I0 J0), (oa (a 1) cI 201 kd), (oa (a 11) cI 201 mn), (oa (a 12) cI 8040 cx), (oa (a 13) cI 8040 cy), (oa (a 32) cI 8 S0)] s.heap.size = A at hD ⊢
  have hA : ∀ q : Nat, s.heap.size ≤ q → A q := fun q h => by rw [← hAe]; exact Or.inr h
  clear hAe
  have hS : va_S A s.heap s.heap [] := va_S.rf
  have hP : va_P (dC, dI) classes [(om k0 a I0 J0), (oa (a 1) cI 201 kd), (oa (a 11) cI 201 mn), (oa (a 12) cI 8040 cx), (oa (a 13) cI 8040 cy), (oa (a 32) cI 8 S0)] s.heap := hP
  obtain ⟨Q9, hQ9⟩ : ∃ Q9 : State → Prop, Q9 = MQ below (zQ none (fun t => ∃ (S1 : Nat → Int32), va_P (dC, dI) classes [(om k0 a I0 (vp_updL (vp_updL J0 48 (jI 0)) 49 (jI 1))), (oa (a 1) cI 201 kd), (oa (a 11) cI 201 mn), (oa (a 12) cI 8040 cx), (oa (a 13) cI 8040 cy), (oa (a 32) cI 8 S1)] t.heap ∧ va_D A [(om k0 a I0 (vp_updL (vp_updL J0 48 (jI 0)) 49 (jI 1))), (oa (a 1) cI 201 kd), (oa (a 11) cI 201 mn), (oa (a 12) cI 8040 cx), (oa (a 13) cI 8040 cy), (oa (a 32) cI 8 S1)]) A) ([.ref k0, .int (nI f), .int (nI g)] : List Value).toArray s 0 0 A := ⟨_, rfl⟩
  rw [← hQ9]
  have hl := lv_entry ([.ref k0, .int (nI f), .int (nI g)]) (n := 5) (Nat.le_of_ble_eq_true rfl)
  rw [lg_entry_eq]
  generalize (lg_sl ([.ref k0, .int (nI f), .int (nI g)]) ++ List.replicate (5 - (lg_sl ([.ref k0, .int (nI f), .int (nI g)])).length) Slot.unset).toArray = ls at hl ⊢
  have hl : lv_has ls 5 [(0, .ref k0), (1, .int (nI f)), (2, .int (nI g))] := hl
  refine lv_aload_n hx hb dX11_distance_0 rfl (lv_at hl 0 rfl) ?_
  refine lv_lconst (v := 0) hx hb dX11_distance_1 (by decide) ?_
  refine zz_l (v := jI 0) (jI_0) ?_
  refine va_put (D := (dC, dI)) (ci := 9) (v := .long (jI 0)) (ty := .long) (C := RX11) (T := TX11) (N := 55) hx hb hts inX11 tyX11 tyX11_ok nmX11 hown hK hP hD hS 0 rfl rfl 48 (by decide) (hts _ mw_1207) (fun _ h9 => h9) rfl (by decide +kernel) rfl rfl (Nat.le_of_ble_eq_true rfl) dX11_distance_2 (fun H locs hP hD hS => ?_)
  have hP : va_P (dC, dI) classes [(om k0 a I0 (vp_updL J0 48 (jI 0))), (oa (a 1) cI 201 kd), (oa (a 11) cI 201 mn), (oa (a 12) cI 8040 cx), (oa (a 13) cI 8040 cy), (oa (a 32) cI 8 S0)] H := hP
  have hD : va_D A [(om k0 a I0 (vp_updL J0 48 (jI 0))), (oa (a 1) cI 201 kd), (oa (a 11) cI 201 mn), (oa (a 12) cI 8040 cx), (oa (a 13) cI 8040 cy), (oa (a 32) cI 8 S0)] := hD
  refine lv_aload_n hx hb dX11_distance_5 rfl (lv_at hl 0 rfl) ?_
  refine lv_lconst (v := 0) hx hb dX11_distance_6 (by decide) ?_
  refine zz_l (v := jI 0) (jI_0) ?_
  refine va_put (D := (dC, dI)) (ci := 9) (v := .long (jI 0)) (ty := .long) (C := RX11) (T := TX11) (N := 55) hx hb hts inX11 tyX11 tyX11_ok nmX11 hown hK hP hD hS 0 rfl rfl 49 (by decide) (hts _ mw_1208) (fun _ h9 => h9) rfl (by decide +kernel) rfl rfl (Nat.le_of_ble_eq_true rfl) dX11_distance_7 (fun H locs hP hD hS => ?_)
  have hP : va_P (dC, dI) classes [(om k0 a I0 (vp_updL (vp_updL J0 48 (jI 0)) 49 (jI 0))), (oa (a 1) cI 201 kd), (oa (a 11) cI 201 mn), (oa (a 12) cI 8040 cx), (oa (a 13) cI 8040 cy), (oa (a 32) cI 8 S0)] H := hP
  have hD : va_D A [(om k0 a I0 (vp_updL (vp_updL J0 48 (jI 0)) 49 (jI 0))), (oa (a 1) cI 201 kd), (oa (a 11) cI 201 mn), (oa (a 12) cI 8040 cx), (oa (a 13) cI 8040 cy), (oa (a 32) cI 8 S0)] := hD
  refine lv_aload_n hx hb dX11_distance_10 rfl (lv_at hl 0 rfl) ?_
  refine lv_iload_n hx hb dX11_distance_11 rfl (lv_at hl 1 rfl) ?_
  refine lv_iload_n hx hb dX11_distance_12 rfl (lv_at hl 2 rfl) ?_
  have hPc := hP.sub (ws' := [(om k0 a I0 (vp_updL (vp_updL J0 48 (jI 0)) 49 (jI 0))), (oa (a 1) cI 201 kd), (oa (a 11) cI 201 mn), (oa (a 12) cI 8040 cx), (oa (a 13) cI 8040 cy), (oa (a 32) cI 8 S0)]) [0, 1, 2, 3, 4, 5] rfl
  have hDc := hD.sub (ws' := [(om k0 a I0 (vp_updL (vp_updL J0 48 (jI 0)) 49 (jI 0))), (oa (a 1) cI 201 kd), (oa (a 11) cI 201 mn), (oa (a 12) cI 8040 cx), (oa (a 13) cI 8040 cy), (oa (a 32) cI 8 S0)]) [0, 1, 2, 3, 4, 5] (by decide) rfl
  have hFc := va_free (wc := [(om k0 a I0 (vp_updL (vp_updL J0 48 (jI 0)) 49 (jI 0))), (oa (a 1) cI 201 kd), (oa (a 11) cI 201 mn), (oa (a 12) cI 8040 cx), (oa (a 13) cI 8040 cy), (oa (a 32) cI 8 S0)]) hD hS hA [0, 1, 2, 3, 4, 5] rfl
  refine zcall (st1 := [.int (pI (∃ i, i < eO (kd f).toInt n ∧ ∃ j, j < eO (kd g).toInt m2 ∧ eMt n (cF40 cx f) (cF40 cy f) i m2 (cF40 cx g) (cF40 cy g) j))]) (va_runV (As := [.int (nI f), .int (nI g)]) (rest := []) ⟨hx, hb, hml, hown, hts⟩ (k_M_isMet l dC dI cI cZ cF H.size k0 a I0 (vp_updL (vp_updL J0 48 (jI 0)) 49 (jI 0)) f n g m2 kd mn cx cy S0 (by omega) (by assumption) (by omega) (by assumption) (by omega) (by assumption) (by omega) (by assumption)) (cwV 2 hts (zz_gV mw_1467 mw_1469 mw_61 mw_110 mc_yX11_isMet) rfl rfl rfl (by decide +kernel) ⟨Nat.le_of_ble_eq_true rfl, Nat.le_of_ble_eq_true rfl⟩) (zPV2 (q0 := 0) (ci := 9) hPc hDc hK hXN rfl rfl) rfl rfl hl.1 rfl (lv_room (Nat.le_of_ble_eq_true rfl)) dX11_distance_13 ⟨Nat.le_of_ble_eq_true rfl, Nat.le_of_ble_eq_true rfl⟩) hS hFc hFc rfl (fun t H1 locs ht hB hk1 hS => ?_)
  obtain ⟨q_1, hP1, hD1⟩ := hB
  rw [ht] at hP1
  obtain ⟨hP, hD⟩ := va_join (wr := []) (w1 := [(om k0 a I0 (vp_updL (vp_updL J0 48 (jI 0)) 49 (jI 0))), (oa (a 1) cI 201 kd), (oa (a 11) cI 201 mn), (oa (a 12) cI 8040 cx), (oa (a 13) cI 8040 cy), (oa (a 32) cI 8 q_1)]) hP hD [0, 1, 2, 3, 4, 5] [] rfl rfl (by decide) (by decide) hk1 hFc hP1 hD1
  clear hk1 hPc hDc hFc hP1 hD1 ht
  generalize H1 = H at hP hS ⊢
  have hP : va_P (dC, dI) classes [(om k0 a I0 (vp_updL (vp_updL J0 48 (jI 0)) 49 (jI 0))), (oa (a 1) cI 201 kd), (oa (a 11) cI 201 mn), (oa (a 12) cI 8040 cx), (oa (a 13) cI 8040 cy), (oa (a 32) cI 8 q_1)] H := hP
  have hD : va_D A [(om k0 a I0 (vp_updL (vp_updL J0 48 (jI 0)) 49 (jI 0))), (oa (a 1) cI 201 kd), (oa (a 11) cI 201 mn), (oa (a 12) cI 8040 cx), (oa (a 13) cI 8040 cy), (oa (a 32) cI 8 q_1)] := hD
  refine zz_i (v := pI (mtF (kd f).toInt n (cF40 cx f) (cF40 cy f) (kd g).toInt m2 (cF40 cx g) (cF40 cy g))) (rfl) ?_
  refine lv_if_eq (tgt := 25) hx hb dX11_distance_16 (by decide) (fun c_2 => ?_) (fun c_2 => ?_)
  · have c_2 : ¬ (mtF (kd f).toInt n (cF40 cx f) (cF40 cy f) (kd g).toInt m2 (cF40 cx g) (cF40 cy g)) := zp_0 c_2
    exfalso; exact absurd hmt (by assumption)
  · have c_2 : mtF (kd f).toInt n (cF40 cx f) (cF40 cy f) (kd g).toInt m2 (cF40 cx g) (cF40 cy g) := zp_1 c_2
    refine lv_aload_n hx hb dX11_distance_19 rfl (lv_at hl 0 rfl) ?_
    refine lv_lconst (v := 1) hx hb dX11_distance_20 (by decide) ?_
    refine zz_l (v := jI 1) (jI_1) ?_
    refine va_put (D := (dC, dI)) (ci := 9) (v := .long (jI 1)) (ty := .long) (C := RX11) (T := TX11) (N := 55) hx hb hts inX11 tyX11 tyX11_ok nmX11 hown hK hP hD hS 0 rfl rfl 49 (by decide) (hts _ mw_1208) (fun _ h9 => h9) rfl (by decide +kernel) rfl rfl (Nat.le_of_ble_eq_true rfl) dX11_distance_21 (fun H locs hP hD hS => ?_)
    have hP : va_P (dC, dI) classes [(om k0 a I0 (vp_updL (vp_updL J0 48 (jI 0)) 49 (jI 1))), (oa (a 1) cI 201 kd), (oa (a 11) cI 201 mn), (oa (a 12) cI 8040 cx), (oa (a 13) cI 8040 cy), (oa (a 32) cI 8 q_1)] H := hP
    have hD : va_D A [(om k0 a I0 (vp_updL (vp_updL J0 48 (jI 0)) 49 (jI 1))), (oa (a 1) cI 201 kd), (oa (a 11) cI 201 mn), (oa (a 12) cI 8040 cx), (oa (a 13) cI 8040 cy), (oa (a 32) cI 8 q_1)] := hD
    have hP9 := hP.sub (ws' := [(om k0 a I0 (vp_updL (vp_updL J0 48 (jI 0)) 49 (jI 1))), (oa (a 1) cI 201 kd), (oa (a 11) cI 201 mn), (oa (a 12) cI 8040 cx), (oa (a 13) cI 8040 cy), (oa (a 32) cI 8 q_1)]) [0, 1, 2, 3, 4, 5] rfl
    have hD9 := hD.sub (ws' := [(om k0 a I0 (vp_updL (vp_updL J0 48 (jI 0)) 49 (jI 1))), (oa (a 1) cI 201 kd), (oa (a 11) cI 201 mn), (oa (a 12) cI 8040 cx), (oa (a 13) cI 8040 cy), (oa (a 32) cI 8 q_1)]) [0, 1, 2, 3, 4, 5] (by decide) rfl
    rw [hQ9]
    exact W.vret hx hb hr (fun t ht hW => ⟨⟨rfl, q_1, by rw [ht]; exact hP9, hD9⟩, hS.F ht⟩) hS.2.2 dX11_distance_24
set_option maxHeartbeats 4000000 in
set_option maxRecDepth 100000 in
theorem k_M_distance_n (l : Launch) (dC : Nat → ClassId) (dI : Nat → Nat → Nat) (cI cZ cF : ClassId) (sz : Nat) (k0 : Nat) (a : Nat → Nat) (I0 : Nat → Int32) (J0 : Nat → Int64) (f : Nat) (n : Nat) (g : Nat) (m2 : Nat) (kd : Nat → Int32) (mn : Nat → Int32) (cx : Nat → Int32) (cy : Nat → Int32) (S0 : Nat → Int32) (hf_f : f ≤ 200) (hm_f : mn f = nI n) (hn_f : 1 ≤ n ∧ n ≤ 40) (hp_f : pls n (cF40 cx f) (cF40 cy f)) (hf_g : g ≤ 200) (hm_g : mn g = nI m2) (hn_g : 1 ≤ m2 ∧ m2 ≤ 40) (hp_g : pls m2 (cF40 cx g) (cF40 cy g)) (hmt : ¬ mtF (kd f).toInt n (cF40 cx f) (cF40 cy f) (kd g).toInt m2 (cF40 cx g) (cF40 cy g)) (he_f : 1 ≤ eO (kd f).toInt n) (he_g : 1 ≤ eO (kd g).toInt m2) : Met l yX11_distance (.code yX11_distance cX11_distance 5 none :: ws0) ({ frames := 4, cells := 0, slots := 0, locals := 105 } : Room) (va_Pc [.ref k0, .int (nI f), .int (nI g)] (zPre (dC, dI) classes (zTy cI cZ cF) [(om k0 a I0 J0), (oa (a 1) cI 201 kd), (oa (a 11) cI 201 mn), (oa (a 12) cI 8040 cx), (oa (a 13) cI 8040 cy), (oa (a 32) cI 8 S0)] sz zXN)) (zQ none (fun t => ∃ (un : Nat), ∃ (dd : Nat), ∃ (S1 : Nat → Int32), (IM (dcP n (cF40 cx f) (cF40 cy f) m2 (cF40 cx g) (cF40 cy g) (eO (kd g).toInt m2) (eO (kd f).toInt n) 0) ((un : Nat) : Int) ((dd : Nat) : Int)) ∧ (un ≤ 4000000000000 ∧ 1 ≤ dd ∧ dd ≤ 2000000) ∧ va_P (dC, dI) classes [(om k0 a I0 (vp_updL (vp_updL J0 48 (jI ((un / Nat.gcd un dd : Nat) : Int))) 49 (jI ((dd / Nat.gcd un dd : Nat) : Int)))), (oa (a 1) cI 201 kd), (oa (a 11) cI 201 mn), (oa (a 12) cI 8040 cx), (oa (a 13) cI 8040 cy), (oa (a 32) cI 8 S1)] t.heap ∧ va_D (va_A [(om k0 a I0 J0), (oa (a 1) cI 201 kd), (oa (a 11) cI 201 mn), (oa (a 12) cI 8040 cx), (oa (a 13) cI 8040 cy), (oa (a 32) cI 8 S0)] sz) [(om k0 a I0 (vp_updL (vp_updL J0 48 (jI ((un / Nat.gcd un dd : Nat) : Int))) 49 (jI ((dd / Nat.gcd un dd : Nat) : Int)))), (oa (a 1) cI 201 kd), (oa (a 11) cI 201 mn), (oa (a 12) cI 8040 cx), (oa (a 13) cI 8040 cy), (oa (a 32) cI 8 S1)]) (va_A [(om k0 a I0 J0), (oa (a 1) cI 201 kd), (oa (a 11) cI 201 mn), (oa (a 12) cI 8040 cx), (oa (a 13) cI 8040 cy), (oa (a 32) cI 8 S0)] sz)) 0 0 (va_A [(om k0 a I0 J0), (oa (a 1) cI 201 kd), (oa (a 11) cI 201 mn), (oa (a 12) cI 8040 cx), (oa (a 13) cI 8040 cy), (oa (a 32) cI 8 S0)] sz) := by
  refine Met.ofW (cc := cX11_distance) (maxL := 5) (ret := none) (by decide) rfl ?_
  intro p e s m args below meth c s₁ B hml hv
  obtain ⟨rfl, hsz, hP, hK, hD0, hXN⟩ := hv
  have hx := B.exec
  have hb := B.bytes
  have hr := B.returns
  have hts0 := atoms_spec (ws := .code yX11_distance cX11_distance 5 none :: ws0) B.pre
  have hts : ∀ w9 ∈ ws0, w9.before ([.ref k0, .int (nI f), .int (nI g)] : List Value).toArray s = true := fun w9 h => hts0 w9 (List.mem_cons_of_mem _ h)
  have hown : s.vm.findClass "ScaleShopModel" = some m.cls := findClass_of_methodNamed B.named
  have hlocks := B.notSynchronized
  subst hsz
  have hD := hD0.self (sz := s.heap.size)
  clear hD0
  generalize hAe : va_A [(om k0 a I0 J0), (oa (a 1) cI 201 kd), (oa (a 11) cI 201 mn), (oa (a 12) cI 8040 cx), (oa (a 13) cI 8040 cy), (oa (a 32) cI 8 S0)] s.heap.size = A at hD ⊢
  have hA : ∀ q : Nat, s.heap.size ≤ q → A q := fun q h => by rw [← hAe]; exact Or.inr h
  clear hAe
  have hS : va_S A s.heap s.heap [] := va_S.rf
  have hP : va_P (dC, dI) classes [(om k0 a I0 J0), (oa (a 1) cI 201 kd), (oa (a 11) cI 201 mn), (oa (a 12) cI 8040 cx), (oa (a 13) cI 8040 cy), (oa (a 32) cI 8 S0)] s.heap := hP
  obtain ⟨Q9, hQ9⟩ : ∃ Q9 : State → Prop, Q9 = MQ below (zQ none (fun t => ∃ (un : Nat), ∃ (dd : Nat), ∃ (S1 : Nat → Int32), (IM (dcP n (cF40 cx f) (cF40 cy f) m2 (cF40 cx g) (cF40 cy g) (eO (kd g).toInt m2) (eO (kd f).toInt n) 0) ((un : Nat) : Int) ((dd : Nat) : Int)) ∧ (un ≤ 4000000000000 ∧ 1 ≤ dd ∧ dd ≤ 2000000) ∧ va_P (dC, dI) classes [(om k0 a I0 (vp_updL (vp_updL J0 48 (jI ((un / Nat.gcd un dd : Nat) : Int))) 49 (jI ((dd / Nat.gcd un dd : Nat) : Int)))), (oa (a 1) cI 201 kd), (oa (a 11) cI 201 mn), (oa (a 12) cI 8040 cx), (oa (a 13) cI 8040 cy), (oa (a 32) cI 8 S1)] t.heap ∧ va_D A [(om k0 a I0 (vp_updL (vp_updL J0 48 (jI ((un / Nat.gcd un dd : Nat) : Int))) 49 (jI ((dd / Nat.gcd un dd : Nat) : Int)))), (oa (a 1) cI 201 kd), (oa (a 11) cI 201 mn), (oa (a 12) cI 8040 cx), (oa (a 13) cI 8040 cy), (oa (a 32) cI 8 S1)]) A) ([.ref k0, .int (nI f), .int (nI g)] : List Value).toArray s 0 0 A := ⟨_, rfl⟩
  rw [← hQ9]
  have hl := lv_entry ([.ref k0, .int (nI f), .int (nI g)]) (n := 5) (Nat.le_of_ble_eq_true rfl)
  rw [lg_entry_eq]
  generalize (lg_sl ([.ref k0, .int (nI f), .int (nI g)]) ++ List.replicate (5 - (lg_sl ([.ref k0, .int (nI f), .int (nI g)])).length) Slot.unset).toArray = ls at hl ⊢
  have hl : lv_has ls 5 [(0, .ref k0), (1, .int (nI f)), (2, .int (nI g))] := hl
  have hef := eO_le (k := (kd f).toInt) hn_f.1
  have heg := eO_le (k := (kd g).toInt) hn_g.1
  refine lv_aload_n hx hb dX11_distance_0 rfl (lv_at hl 0 rfl) ?_
  refine lv_lconst (v := 0) hx hb dX11_distance_1 (by decide) ?_
  refine zz_l (v := jI 0) (jI_0) ?_
  refine va_put (D := (dC, dI)) (ci := 9) (v := .long (jI 0)) (ty := .long) (C := RX11) (T := TX11) (N := 55) hx hb hts inX11 tyX11 tyX11_ok nmX11 hown hK hP hD hS 0 rfl rfl 48 (by decide) (hts _ mw_1207) (fun _ h9 => h9) rfl (by decide +kernel) rfl rfl (Nat.le_of_ble_eq_true rfl) dX11_distance_2 (fun H locs hP hD hS => ?_)
  have hP : va_P (dC, dI) classes [(om k0 a I0 (vp_updL J0 48 (jI 0))), (oa (a 1) cI 201 kd), (oa (a 11) cI 201 mn), (oa (a 12) cI 8040 cx), (oa (a 13) cI 8040 cy), (oa (a 32) cI 8 S0)] H := hP
  have hD : va_D A [(om k0 a I0 (vp_updL J0 48 (jI 0))), (oa (a 1) cI 201 kd), (oa (a 11) cI 201 mn), (oa (a 12) cI 8040 cx), (oa (a 13) cI 8040 cy), (oa (a 32) cI 8 S0)] := hD
  refine lv_aload_n hx hb dX11_distance_5 rfl (lv_at hl 0 rfl) ?_
  refine lv_lconst (v := 0) hx hb dX11_distance_6 (by decide) ?_
  refine zz_l (v := jI 0) (jI_0) ?_
  refine va_put (D := (dC, dI)) (ci := 9) (v := .long (jI 0)) (ty := .long) (C := RX11) (T := TX11) (N := 55) hx hb hts inX11 tyX11 tyX11_ok nmX11 hown hK hP hD hS 0 rfl rfl 49 (by decide) (hts _ mw_1208) (fun _ h9 => h9) rfl (by decide +kernel) rfl rfl (Nat.le_of_ble_eq_true rfl) dX11_distance_7 (fun H locs hP hD hS => ?_)
  have hP : va_P (dC, dI) classes [(om k0 a I0 (vp_updL (vp_updL J0 48 (jI 0)) 49 (jI 0))), (oa (a 1) cI 201 kd), (oa (a 11) cI 201 mn), (oa (a 12) cI 8040 cx), (oa (a 13) cI 8040 cy), (oa (a 32) cI 8 S0)] H := hP
  have hD : va_D A [(om k0 a I0 (vp_updL (vp_updL J0 48 (jI 0)) 49 (jI 0))), (oa (a 1) cI 201 kd), (oa (a 11) cI 201 mn), (oa (a 12) cI 8040 cx), (oa (a 13) cI 8040 cy), (oa (a 32) cI 8 S0)] := hD
  refine lv_aload_n hx hb dX11_distance_10 rfl (lv_at hl 0 rfl) ?_
  refine lv_iload_n hx hb dX11_distance_11 rfl (lv_at hl 1 rfl) ?_
  refine lv_iload_n hx hb dX11_distance_12 rfl (lv_at hl 2 rfl) ?_
  have hPc := hP.sub (ws' := [(om k0 a I0 (vp_updL (vp_updL J0 48 (jI 0)) 49 (jI 0))), (oa (a 1) cI 201 kd), (oa (a 11) cI 201 mn), (oa (a 12) cI 8040 cx), (oa (a 13) cI 8040 cy), (oa (a 32) cI 8 S0)]) [0, 1, 2, 3, 4, 5] rfl
  have hDc := hD.sub (ws' := [(om k0 a I0 (vp_updL (vp_updL J0 48 (jI 0)) 49 (jI 0))), (oa (a 1) cI 201 kd), (oa (a 11) cI 201 mn), (oa (a 12) cI 8040 cx), (oa (a 13) cI 8040 cy), (oa (a 32) cI 8 S0)]) [0, 1, 2, 3, 4, 5] (by decide) rfl
  have hFc := va_free (wc := [(om k0 a I0 (vp_updL (vp_updL J0 48 (jI 0)) 49 (jI 0))), (oa (a 1) cI 201 kd), (oa (a 11) cI 201 mn), (oa (a 12) cI 8040 cx), (oa (a 13) cI 8040 cy), (oa (a 32) cI 8 S0)]) hD hS hA [0, 1, 2, 3, 4, 5] rfl
  refine zcall (st1 := [.int (pI (∃ i, i < eO (kd f).toInt n ∧ ∃ j, j < eO (kd g).toInt m2 ∧ eMt n (cF40 cx f) (cF40 cy f) i m2 (cF40 cx g) (cF40 cy g) j))]) (va_runV (As := [.int (nI f), .int (nI g)]) (rest := []) ⟨hx, hb, hml, hown, hts⟩ (k_M_isMet l dC dI cI cZ cF H.size k0 a I0 (vp_updL (vp_updL J0 48 (jI 0)) 49 (jI 0)) f n g m2 kd mn cx cy S0 (by omega) (by assumption) (by omega) (by assumption) (by omega) (by assumption) (by omega) (by assumption)) (cwV 2 hts (zz_gV mw_1467 mw_1469 mw_61 mw_110 mc_yX11_isMet) rfl rfl rfl (by decide +kernel) ⟨Nat.le_of_ble_eq_true rfl, Nat.le_of_ble_eq_true rfl⟩) (zPV2 (q0 := 0) (ci := 9) hPc hDc hK hXN rfl rfl) rfl rfl hl.1 rfl (lv_room (Nat.le_of_ble_eq_true rfl)) dX11_distance_13 ⟨Nat.le_of_ble_eq_true rfl, Nat.le_of_ble_eq_true rfl⟩) hS hFc hFc rfl (fun t H1 locs ht hB hk1 hS => ?_)
  obtain ⟨q_1, hP1, hD1⟩ := hB
  rw [ht] at hP1
  obtain ⟨hP, hD⟩ := va_join (wr := []) (w1 := [(om k0 a I0 (vp_updL (vp_updL J0 48 (jI 0)) 49 (jI 0))), (oa (a 1) cI 201 kd), (oa (a 11) cI 201 mn), (oa (a 12) cI 8040 cx), (oa (a 13) cI 8040 cy), (oa (a 32) cI 8 q_1)]) hP hD [0, 1, 2, 3, 4, 5] [] rfl rfl (by decide) (by decide) hk1 hFc hP1 hD1
  clear hk1 hPc hDc hFc hP1 hD1 ht
  generalize H1 = H at hP hS ⊢
  have hP : va_P (dC, dI) classes [(om k0 a I0 (vp_updL (vp_updL J0 48 (jI 0)) 49 (jI 0))), (oa (a 1) cI 201 kd), (oa (a 11) cI 201 mn), (oa (a 12) cI 8040 cx), (oa (a 13) cI 8040 cy), (oa (a 32) cI 8 q_1)] H := hP
  have hD : va_D A [(om k0 a I0 (vp_updL (vp_updL J0 48 (jI 0)) 49 (jI 0))), (oa (a 1) cI 201 kd), (oa (a 11) cI 201 mn), (oa (a 12) cI 8040 cx), (oa (a 13) cI 8040 cy), (oa (a 32) cI 8 q_1)] := hD
  refine zz_i (v := pI (mtF (kd f).toInt n (cF40 cx f) (cF40 cy f) (kd g).toInt m2 (cF40 cx g) (cF40 cy g))) (rfl) ?_
  refine lv_if_eq (tgt := 25) hx hb dX11_distance_16 (by decide) (fun c_2 => ?_) (fun c_2 => ?_)
  · have c_2 : ¬ (mtF (kd f).toInt n (cF40 cx f) (cF40 cy f) (kd g).toInt m2 (cF40 cx g) (cF40 cy g)) := zp_0 c_2
    refine lv_iconst (v := 0) hx hb dX11_distance_25 (by decide) ?_
    refine lv_istore_n (lv' := [(3, .int 0), (0, .ref k0), (1, .int (nI f)), (2, .int (nI g))]) hx hb dX11_distance_26 rfl hl (by decide) rfl (fun ls hl => ?_)
    have hl_27 : ∀ (n9 : Nat) (i : Nat) (S1 : Nat → Int32) (u : Int) (d : Int) (H : Heap) (locs : List Loc) (ls : Array Slot), eO (kd f).toInt n - i < n9 → (i ≤ eO (kd f).toInt n) → (IM (dcP n (cF40 cx f) (cF40 cy f) m2 (cF40 cx g) (cF40 cy g) (eO (kd g).toInt m2) i 0) u d) → ((0 ≤ u ∧ u ≤ 4000000000000) ∧ (0 ≤ d ∧ d ≤ 2000000)) → va_P (dC, dI) classes [(om k0 a I0 (vp_updL (vp_updL J0 48 (jI u)) 49 (jI d))), (oa (a 1) cI 201 kd), (oa (a 11) cI 201 mn), (oa (a 12) cI 8040 cx), (oa (a 13) cI 8040 cy), (oa (a 32) cI 8 S1)] H → va_D A [(om k0 a I0 (vp_updL (vp_updL J0 48 (jI u)) 49 (jI d))), (oa (a 1) cI 201 kd), (oa (a 11) cI 201 mn), (oa (a 12) cI 8040 cx), (oa (a 13) cI 8040 cy), (oa (a 32) cI 8 S1)] → va_S A s.heap H locs → lv_has ls 5 [(3, .int (nI i)), (0, .ref k0), (1, .int (nI f)), (2, .int (nI g))] → W p l e ((headSpec (.code yX11_distance cX11_distance 5 none :: ws0) ({ frames := 4, cells := 0, slots := 0, locals := 105 } : Room)).room) s m ([.ref k0, .int (nI f), .int (nI g)] : List Value).toArray below meth c H locs 0 0 Q9 (F0 m 27 ls []) := by
      intro n9
      induction n9 with
      | zero => intro i S1 u d H locs ls hm; exact absurd hm (Nat.not_lt_zero _)
      | succ n9 ih_27 =>
        intro i S1 u d H locs ls hm hi him hud hP hD hS hl
        refine lv_iload_n hx hb dX11_distance_27 rfl (lv_at hl 0 rfl) ?_
        refine lv_aload_n hx hb dX11_distance_28 rfl (lv_at hl 1 rfl) ?_
        refine lv_iload_n hx hb dX11_distance_29 rfl (lv_at hl 2 rfl) ?_
        have hPc := hP.sub (ws' := [(om k0 a I0 (vp_updL (vp_updL J0 48 (jI u)) 49 (jI d))), (oa (a 1) cI 201 kd), (oa (a 11) cI 201 mn)]) [0, 1, 2] rfl
        have hDc := hD.sub (ws' := [(om k0 a I0 (vp_updL (vp_updL J0 48 (jI u)) 49 (jI d))), (oa (a 1) cI 201 kd), (oa (a 11) cI 201 mn)]) [0, 1, 2] (by decide) rfl
        have hFc := va_free (wc := [(om k0 a I0 (vp_updL (vp_updL J0 48 (jI u)) 49 (jI d))), (oa (a 1) cI 201 kd), (oa (a 11) cI 201 mn)]) hD hS hA [0, 1, 2] rfl
        refine zcall (st1 := [.int (nI (eO (kd f).toInt n)), .int (nI i)]) (va_runV (As := [.int (nI f)]) (rest := [.int (nI i)]) ⟨hx, hb, hml, hown, hts⟩ (k_M_edgesOf l dC dI cI cZ cF H.size k0 a I0 (vp_updL (vp_updL J0 48 (jI u)) 49 (jI d)) f n kd mn (by omega) (by assumption) (by omega)) (cwV 1 hts (zz_gV mw_1369 mw_1371 mw_41 mw_110 mc_yX11_edgesOf) rfl rfl rfl (by decide +kernel) ⟨Nat.le_of_ble_eq_true rfl, Nat.le_of_ble_eq_true rfl⟩) (zPV2 (q0 := 0) (ci := 9) hPc hDc hK hXN rfl rfl) rfl rfl hl.1 rfl (lv_room (Nat.le_of_ble_eq_true rfl)) dX11_distance_30 ⟨Nat.le_of_ble_eq_true rfl, Nat.le_of_ble_eq_true rfl⟩) hS hFc hFc rfl (fun t H1 locs ht hB hk1 hS => ?_)
        obtain ⟨hP1, hD1⟩ := hB
        rw [ht] at hP1
        obtain ⟨hP, hD⟩ := va_join (wr := [(oa (a 12) cI 8040 cx), (oa (a 13) cI 8040 cy), (oa (a 32) cI 8 S1)]) (w1 := [(om k0 a I0 (vp_updL (vp_updL J0 48 (jI u)) 49 (jI d))), (oa (a 1) cI 201 kd), (oa (a 11) cI 201 mn)]) hP hD [0, 1, 2] [3, 4, 5] rfl rfl (by decide) (by decide) hk1 hFc hP1 hD1
        clear hk1 hPc hDc hFc hP1 hD1 ht
        generalize H1 = H at hP hS ⊢
        have hP := hP.sub (ws' := [(om k0 a I0 (vp_updL (vp_updL J0 48 (jI u)) 49 (jI d))), (oa (a 1) cI 201 kd), (oa (a 11) cI 201 mn), (oa (a 12) cI 8040 cx), (oa (a 13) cI 8040 cy), (oa (a 32) cI 8 S1)]) [3, 4, 5, 0, 1, 2] rfl
        have hD := hD.sub (ws' := [(om k0 a I0 (vp_updL (vp_updL J0 48 (jI u)) 49 (jI d))), (oa (a 1) cI 201 kd), (oa (a 11) cI 201 mn), (oa (a 12) cI 8040 cx), (oa (a 13) cI 8040 cy), (oa (a 32) cI 8 S1)]) [3, 4, 5, 0, 1, 2] (by decide) rfl
        have hP : va_P (dC, dI) classes [(om k0 a I0 (vp_updL (vp_updL J0 48 (jI u)) 49 (jI d))), (oa (a 1) cI 201 kd), (oa (a 11) cI 201 mn), (oa (a 12) cI 8040 cx), (oa (a 13) cI 8040 cy), (oa (a 32) cI 8 S1)] H := hP
        have hD : va_D A [(om k0 a I0 (vp_updL (vp_updL J0 48 (jI u)) 49 (jI d))), (oa (a 1) cI 201 kd), (oa (a 11) cI 201 mn), (oa (a 12) cI 8040 cx), (oa (a 13) cI 8040 cy), (oa (a 32) cI 8 S1)] := hD
        refine lv_icmp_ge (tgt := 162) hx hb dX11_distance_33 (by decide) (fun c_3 => ?_) (fun c_3 => ?_)
        · have c_3 : ((eO (kd f).toInt n : Nat) : Int) ≤ ((i : Nat) : Int) := zc_le (nI_toInt (by omega)) (nI_toInt (by omega)) c_3
          have hie : i = eO (kd f).toInt n := (by omega)
          rw [hie] at him
          have hd1 := dcP_e him he_f he_g
          obtain ⟨un, hun⟩ : ∃ un : Nat, u = ((un : Nat) : Int) := ⟨u.toNat, by omega⟩
          obtain ⟨dd, hdd⟩ : ∃ dd : Nat, d = ((dd : Nat) : Int) := ⟨d.toNat, by omega⟩
          rw [hun, hdd] at hP hD
          refine lv_aload_n hx hb dX11_distance_162 rfl (lv_at hl 1 rfl) ?_
          have hPc := hP.sub (ws' := [(om k0 a I0 (vp_updL (vp_updL J0 48 (jI ((un : Nat) : Int))) 49 (jI ((dd : Nat) : Int))))]) [0] rfl
          have hDc := hD.sub (ws' := [(om k0 a I0 (vp_updL (vp_updL J0 48 (jI ((un : Nat) : Int))) 49 (jI ((dd : Nat) : Int))))]) [0] (by decide) rfl
          have hFc := va_free (wc := [(om k0 a I0 (vp_updL (vp_updL J0 48 (jI ((un : Nat) : Int))) 49 (jI ((dd : Nat) : Int))))]) hD hS hA [0] rfl
          refine zcall (st1 := []) (va_runV (As := []) (rest := []) ⟨hx, hb, hml, hown, hts⟩ (k_M_plainFraction l dC dI cI cZ cF H.size k0 a I0 (vp_updL (vp_updL J0 48 (jI ((un : Nat) : Int))) 49 (jI ((dd : Nat) : Int))) un dd (by omega) (by omega)) (cwV 0 hts (zz_gV mw_1600 mw_1602 mw_87 mw_110 mc_yX11_plainFraction) rfl rfl rfl (by decide +kernel) ⟨Nat.le_of_ble_eq_true rfl, Nat.le_of_ble_eq_true rfl⟩) (zPV2 (q0 := 0) (ci := 9) hPc hDc hK hXN rfl rfl) rfl rfl hl.1 rfl (lv_room (Nat.le_of_ble_eq_true rfl)) dX11_distance_163 ⟨Nat.le_of_ble_eq_true rfl, Nat.le_of_ble_eq_true rfl⟩) hS hFc hFc rfl (fun t H1 locs ht hB hk1 hS => ?_)
          obtain ⟨hP1, hD1⟩ := hB
          rw [ht] at hP1
          obtain ⟨hP, hD⟩ := va_join (wr := [(oa (a 1) cI 201 kd), (oa (a 11) cI 201 mn), (oa (a 12) cI 8040 cx), (oa (a 13) cI 8040 cy), (oa (a 32) cI 8 S1)]) (w1 := [(om k0 a I0 (vp_updL (vp_updL J0 48 (jI ((un / Nat.gcd un dd : Nat) : Int))) 49 (jI ((dd / Nat.gcd un dd : Nat) : Int))))]) hP hD [0] [1, 2, 3, 4, 5] rfl rfl (by decide) (by decide) hk1 hFc hP1 hD1
          clear hk1 hPc hDc hFc hP1 hD1 ht
          generalize H1 = H at hP hS ⊢
          have hP := hP.sub (ws' := [(om k0 a I0 (vp_updL (vp_updL J0 48 (jI ((un / Nat.gcd un dd : Nat) : Int))) 49 (jI ((dd / Nat.gcd un dd : Nat) : Int)))), (oa (a 1) cI 201 kd), (oa (a 11) cI 201 mn), (oa (a 12) cI 8040 cx), (oa (a 13) cI 8040 cy), (oa (a 32) cI 8 S1)]) [5, 0, 1, 2, 3, 4] rfl
          have hD := hD.sub (ws' := [(om k0 a I0 (vp_updL (vp_updL J0 48 (jI ((un / Nat.gcd un dd : Nat) : Int))) 49 (jI ((dd / Nat.gcd un dd : Nat) : Int)))), (oa (a 1) cI 201 kd), (oa (a 11) cI 201 mn), (oa (a 12) cI 8040 cx), (oa (a 13) cI 8040 cy), (oa (a 32) cI 8 S1)]) [5, 0, 1, 2, 3, 4] (by decide) rfl
          have hP : va_P (dC, dI) classes [(om k0 a I0 (vp_updL (vp_updL J0 48 (jI ((un / Nat.gcd un dd : Nat) : Int))) 49 (jI ((dd / Nat.gcd un dd : Nat) : Int)))), (oa (a 1) cI 201 kd), (oa (a 11) cI 201 mn), (oa (a 12) cI 8040 cx), (oa (a 13) cI 8040 cy), (oa (a 32) cI 8 S1)] H := hP
          have hD : va_D A [(om k0 a I0 (vp_updL (vp_updL J0 48 (jI ((un / Nat.gcd un dd : Nat) : Int))) 49 (jI ((dd / Nat.gcd un dd : Nat) : Int)))), (oa (a 1) cI 201 kd), (oa (a 11) cI 201 mn), (oa (a 12) cI 8040 cx), (oa (a 13) cI 8040 cy), (oa (a 32) cI 8 S1)] := hD
          have hP9 := hP.sub (ws' := [(om k0 a I0 (vp_updL (vp_updL J0 48 (jI ((un / Nat.gcd un dd : Nat) : Int))) 49 (jI ((dd / Nat.gcd un dd : Nat) : Int)))), (oa (a 1) cI 201 kd), (oa (a 11) cI 201 mn), (oa (a 12) cI 8040 cx), (oa (a 13) cI 8040 cy), (oa (a 32) cI 8 S1)]) [0, 1, 2, 3, 4, 5] rfl
          have hD9 := hD.sub (ws' := [(om k0 a I0 (vp_updL (vp_updL J0 48 (jI ((un / Nat.gcd un dd : Nat) : Int))) 49 (jI ((dd / Nat.gcd un dd : Nat) : Int)))), (oa (a 1) cI 201 kd), (oa (a 11) cI 201 mn), (oa (a 12) cI 8040 cx), (oa (a 13) cI 8040 cy), (oa (a 32) cI 8 S1)]) [0, 1, 2, 3, 4, 5] (by decide) rfl
          rw [hQ9]
          exact W.vret hx hb hr (fun t ht hW => ⟨⟨rfl, un, dd, S1, (by rw [← hun, ← hdd]; exact him), (by omega), by rw [ht]; exact hP9, hD9⟩, hS.F ht⟩) hS.2.2 dX11_distance_166
        · have c_3 : ((i : Nat) : Int) < ((eO (kd f).toInt n : Nat) : Int) := zc_nle (nI_toInt (by omega)) (nI_toInt (by omega)) c_3
          have hin9 : i < n := (by omega)
          have hnx := nxt_lt (n := n) (i := i) (by omega)
          refine lv_aload_n hx hb dX11_distance_36 rfl (lv_at hl 1 rfl) ?_
          refine lv_iload_n hx hb dX11_distance_37 rfl (lv_at hl 2 rfl) ?_
          refine lv_iload_n hx hb dX11_distance_38 rfl (lv_at hl 0 rfl) ?_
          refine lv_iconst (v := 0) hx hb dX11_distance_39 (by decide) ?_
          have hPc := hP.sub (ws' := [(om k0 a I0 (vp_updL (vp_updL J0 48 (jI u)) 49 (jI d))), (oa (a 11) cI 201 mn), (oa (a 12) cI 8040 cx), (oa (a 13) cI 8040 cy), (oa (a 32) cI 8 S1)]) [0, 2, 3, 4, 5] rfl
          have hDc := hD.sub (ws' := [(om k0 a I0 (vp_updL (vp_updL J0 48 (jI u)) 49 (jI d))), (oa (a 11) cI 201 mn), (oa (a 12) cI 8040 cx), (oa (a 13) cI 8040 cy), (oa (a 32) cI 8 S1)]) [0, 2, 3, 4, 5] (by decide) rfl
          have hFc := va_free (wc := [(om k0 a I0 (vp_updL (vp_updL J0 48 (jI u)) 49 (jI d))), (oa (a 11) cI 201 mn), (oa (a 12) cI 8040 cx), (oa (a 13) cI 8040 cy), (oa (a 32) cI 8 S1)]) hD hS hA [0, 2, 3, 4, 5] rfl
          refine zcall (st1 := []) (va_runV (As := [.int (nI f), .int (nI i), .int 0]) (rest := []) ⟨hx, hb, hml, hown, hts⟩ (k_M_edge l dC dI cI cZ cF H.size k0 a I0 (vp_updL (vp_updL J0 48 (jI u)) 49 (jI d)) f n i 0 mn cx cy S1 (by omega) (by assumption) (by omega) (by omega) (by omega)) (cwV 3 hts (zz_gV mw_1373 mw_1375 mw_42 mw_110 mc_yX11_edge) rfl rfl rfl (by decide +kernel) ⟨Nat.le_of_ble_eq_true rfl, Nat.le_of_ble_eq_true rfl⟩) (zPV2 (q0 := 0) (ci := 9) hPc hDc hK hXN rfl rfl) rfl rfl hl.1 rfl (lv_room (Nat.le_of_ble_eq_true rfl)) dX11_distance_40 ⟨Nat.le_of_ble_eq_true rfl, Nat.le_of_ble_eq_true rfl⟩) hS hFc hFc rfl (fun t H1 locs ht hB hk1 hS => ?_)
          obtain ⟨S2, t0, t1, t2, t3, tr, hP1, hD1⟩ := hB
          rw [ht] at hP1
          obtain ⟨hP, hD⟩ := va_join (wr := [(oa (a 1) cI 201 kd)]) (w1 := [(om k0 a I0 (vp_updL (vp_updL J0 48 (jI u)) 49 (jI d))), (oa (a 11) cI 201 mn), (oa (a 12) cI 8040 cx), (oa (a 13) cI 8040 cy), (oa (a 32) cI 8 S2)]) hP hD [0, 2, 3, 4, 5] [1] rfl rfl (by decide) (by decide) hk1 hFc hP1 hD1
          clear hk1 hPc hDc hFc hP1 hD1 ht
          generalize H1 = H at hP hS ⊢
          have hP := hP.sub (ws' := [(om k0 a I0 (vp_updL (vp_updL J0 48 (jI u)) 49 (jI d))), (oa (a 1) cI 201 kd), (oa (a 11) cI 201 mn), (oa (a 12) cI 8040 cx), (oa (a 13) cI 8040 cy), (oa (a 32) cI 8 S2)]) [1, 0, 2, 3, 4, 5] rfl
          have hD := hD.sub (ws' := [(om k0 a I0 (vp_updL (vp_updL J0 48 (jI u)) 49 (jI d))), (oa (a 1) cI 201 kd), (oa (a 11) cI 201 mn), (oa (a 12) cI 8040 cx), (oa (a 13) cI 8040 cy), (oa (a 32) cI 8 S2)]) [1, 0, 2, 3, 4, 5] (by decide) rfl
          have hP : va_P (dC, dI) classes [(om k0 a I0 (vp_updL (vp_updL J0 48 (jI u)) 49 (jI d))), (oa (a 1) cI 201 kd), (oa (a 11) cI 201 mn), (oa (a 12) cI 8040 cx), (oa (a 13) cI 8040 cy), (oa (a 32) cI 8 S2)] H := hP
          have hD : va_D A [(om k0 a I0 (vp_updL (vp_updL J0 48 (jI u)) 49 (jI d))), (oa (a 1) cI 201 kd), (oa (a 11) cI 201 mn), (oa (a 12) cI 8040 cx), (oa (a 13) cI 8040 cy), (oa (a 32) cI 8 S2)] := hD
          refine lv_iconst (v := 0) hx hb dX11_distance_43 (by decide) ?_
          refine lv_istore (lv' := [(4, .int 0), (3, .int (nI i)), (0, .ref k0), (1, .int (nI f)), (2, .int (nI g))]) hx hb dX11_distance_44 hl (by decide) rfl (fun ls hl => ?_)
          have hl_46 : ∀ (n9 : Nat) (k : Nat) (S2 : Nat → Int32) (u2 : Int) (d2 : Int) (H : Heap) (locs : List Loc) (ls : Array Slot), eO (kd g).toInt m2 - k < n9 → (k ≤ eO (kd g).toInt m2) → (S2 0 = cx (40 * f + i)) → (S2 1 = cy (40 * f + i)) → (S2 2 = cx (40 * f + nxt n i)) → (S2 3 = cy (40 * f + nxt n i)) → (IM (dcP n (cF40 cx f) (cF40 cy f) m2 (cF40 cx g) (cF40 cy g) (eO (kd g).toInt m2) i k) u2 d2) → ((0 ≤ u2 ∧ u2 ≤ 4000000000000) ∧ (0 ≤ d2 ∧ d2 ≤ 2000000)) → va_P (dC, dI) classes [(om k0 a I0 (vp_updL (vp_updL J0 48 (jI u2)) 49 (jI d2))), (oa (a 1) cI 201 kd), (oa (a 11) cI 201 mn), (oa (a 12) cI 8040 cx), (oa (a 13) cI 8040 cy), (oa (a 32) cI 8 S2)] H → va_D A [(om k0 a I0 (vp_updL (vp_updL J0 48 (jI u2)) 49 (jI d2))), (oa (a 1) cI 201 kd), (oa (a 11) cI 201 mn), (oa (a 12) cI 8040 cx), (oa (a 13) cI 8040 cy), (oa (a 32) cI 8 S2)] → va_S A s.heap H locs → lv_has ls 5 [(4, .int (nI k)), (3, .int (nI i)), (0, .ref k0), (1, .int (nI f)), (2, .int (nI g))] → W p l e ((headSpec (.code yX11_distance cX11_distance 5 none :: ws0) ({ frames := 4, cells := 0, slots := 0, locals := 105 } : Room)).room) s m ([.ref k0, .int (nI f), .int (nI g)] : List Value).toArray below meth c H locs 0 0 Q9 (F0 m 46 ls []) := by
            intro n9
            induction n9 with
            | zero => intro k S2 u2 d2 H locs ls hm; exact absurd hm (Nat.not_lt_zero _)
            | succ n9 ih_46 =>
              intro k S2 u2 d2 H locs ls hm hk g0 g1 g2 g3 him2 hud2 hP hD hS hl
              refine lv_iload hx hb dX11_distance_46 (lv_at hl 0 rfl) ?_
              refine lv_aload_n hx hb dX11_distance_48 rfl (lv_at hl 2 rfl) ?_
              refine lv_iload_n hx hb dX11_distance_49 rfl (lv_at hl 4 rfl) ?_
              have hPc := hP.sub (ws' := [(om k0 a I0 (vp_updL (vp_updL J0 48 (jI u2)) 49 (jI d2))), (oa (a 1) cI 201 kd), (oa (a 11) cI 201 mn)]) [0, 1, 2] rfl
              have hDc := hD.sub (ws' := [(om k0 a I0 (vp_updL (vp_updL J0 48 (jI u2)) 49 (jI d2))), (oa (a 1) cI 201 kd), (oa (a 11) cI 201 mn)]) [0, 1, 2] (by decide) rfl
              have hFc := va_free (wc := [(om k0 a I0 (vp_updL (vp_updL J0 48 (jI u2)) 49 (jI d2))), (oa (a 1) cI 201 kd), (oa (a 11) cI 201 mn)]) hD hS hA [0, 1, 2] rfl
              refine zcall (st1 := [.int (nI (eO (kd g).toInt m2)), .int (nI k)]) (va_runV (As := [.int (nI g)]) (rest := [.int (nI k)]) ⟨hx, hb, hml, hown, hts⟩ (k_M_edgesOf l dC dI cI cZ cF H.size k0 a I0 (vp_updL (vp_updL J0 48 (jI u2)) 49 (jI d2)) g m2 kd mn (by omega) (by assumption) (by omega)) (cwV 1 hts (zz_gV mw_1369 mw_1371 mw_41 mw_110 mc_yX11_edgesOf) rfl rfl rfl (by decide +kernel) ⟨Nat.le_of_ble_eq_true rfl, Nat.le_of_ble_eq_true rfl⟩) (zPV2 (q0 := 0) (ci := 9) hPc hDc hK hXN rfl rfl) rfl rfl hl.1 rfl (lv_room (Nat.le_of_ble_eq_true rfl)) dX11_distance_50 ⟨Nat.le_of_ble_eq_true rfl, Nat.le_of_ble_eq_true rfl⟩) hS hFc hFc rfl (fun t H1 locs ht hB hk1 hS => ?_)
              obtain ⟨hP1, hD1⟩ := hB
              rw [ht] at hP1
              obtain ⟨hP, hD⟩ := va_join (wr := [(oa (a 12) cI 8040 cx), (oa (a 13) cI 8040 cy), (oa (a 32) cI 8 S2)]) (w1 := [(om k0 a I0 (vp_updL (vp_updL J0 48 (jI u2)) 49 (jI d2))), (oa (a 1) cI 201 kd), (oa (a 11) cI 201 mn)]) hP hD [0, 1, 2] [3, 4, 5] rfl rfl (by decide) (by decide) hk1 hFc hP1 hD1
              clear hk1 hPc hDc hFc hP1 hD1 ht
              generalize H1 = H at hP hS ⊢
              have hP := hP.sub (ws' := [(om k0 a I0 (vp_updL (vp_updL J0 48 (jI u2)) 49 (jI d2))), (oa (a 1) cI 201 kd), (oa (a 11) cI 201 mn), (oa (a 12) cI 8040 cx), (oa (a 13) cI 8040 cy), (oa (a 32) cI 8 S2)]) [3, 4, 5, 0, 1, 2] rfl
              have hD := hD.sub (ws' := [(om k0 a I0 (vp_updL (vp_updL J0 48 (jI u2)) 49 (jI d2))), (oa (a 1) cI 201 kd), (oa (a 11) cI 201 mn), (oa (a 12) cI 8040 cx), (oa (a 13) cI 8040 cy), (oa (a 32) cI 8 S2)]) [3, 4, 5, 0, 1, 2] (by decide) rfl
              have hP : va_P (dC, dI) classes [(om k0 a I0 (vp_updL (vp_updL J0 48 (jI u2)) 49 (jI d2))), (oa (a 1) cI 201 kd), (oa (a 11) cI 201 mn), (oa (a 12) cI 8040 cx), (oa (a 13) cI 8040 cy), (oa (a 32) cI 8 S2)] H := hP
              have hD : va_D A [(om k0 a I0 (vp_updL (vp_updL J0 48 (jI u2)) 49 (jI d2))), (oa (a 1) cI 201 kd), (oa (a 11) cI 201 mn), (oa (a 12) cI 8040 cx), (oa (a 13) cI 8040 cy), (oa (a 32) cI 8 S2)] := hD
              refine lv_icmp_ge (tgt := 156) hx hb dX11_distance_53 (by decide) (fun c_4 => ?_) (fun c_4 => ?_)
              · have c_4 : ((eO (kd g).toInt m2 : Nat) : Int) ≤ ((k : Nat) : Int) := zc_le (nI_toInt (by omega)) (nI_toInt (by omega)) c_4
                refine lv_iinc (v := nI (i + 1)) (lv' := [(3, .int (nI (i + 1))), (4, .int (nI k)), (0, .ref k0), (1, .int (nI f)), (2, .int (nI g))]) hx hb dX11_distance_156 hl (k := 1) rfl (nI_add i 1) (by decide) rfl (fun ls hl => ?_)
                refine lv_goto (tgt := 27) hx hb dX11_distance_159 (by decide) ?_
                exact ih_27 (i + 1) S2 u2 d2 H locs ls (by omega) (by omega) (dcP_n (by rw [show k = eO (kd g).toInt m2 by omega] at him2; exact him2)) (hud2) hP hD hS (lv_sub hl [0, 2, 3, 4] rfl)
              · have c_4 : ((k : Nat) : Int) < ((eO (kd g).toInt m2 : Nat) : Int) := zc_nle (nI_toInt (by omega)) (nI_toInt (by omega)) c_4
                have hjm : k < m2 := (by omega)
                have hnj := nxt_lt (n := m2) (i := k) (by omega)
                refine lv_aload_n hx hb dX11_distance_56 rfl (lv_at hl 2 rfl) ?_
                refine lv_iload_n hx hb dX11_distance_57 rfl (lv_at hl 4 rfl) ?_
                refine lv_iload hx hb dX11_distance_58 (lv_at hl 0 rfl) ?_
                refine lv_iconst (v := 4) hx hb dX11_distance_60 (by decide) ?_
                have hPc := hP.sub (ws' := [(om k0 a I0 (vp_updL (vp_updL J0 48 (jI u2)) 49 (jI d2))), (oa (a 11) cI 201 mn), (oa (a 12) cI 8040 cx), (oa (a 13) cI 8040 cy), (oa (a 32) cI 8 S2)]) [0, 2, 3, 4, 5] rfl
                have hDc := hD.sub (ws' := [(om k0 a I0 (vp_updL (vp_updL J0 48 (jI u2)) 49 (jI d2))), (oa (a 11) cI 201 mn), (oa (a 12) cI 8040 cx), (oa (a 13) cI 8040 cy), (oa (a 32) cI 8 S2)]) [0, 2, 3, 4, 5] (by decide) rfl
                have hFc := va_free (wc := [(om k0 a I0 (vp_updL (vp_updL J0 48 (jI u2)) 49 (jI d2))), (oa (a 11) cI 201 mn), (oa (a 12) cI 8040 cx), (oa (a 13) cI 8040 cy), (oa (a 32) cI 8 S2)]) hD hS hA [0, 2, 3, 4, 5] rfl
                refine zcall (st1 := []) (va_runV (As := [.int (nI g), .int (nI k), .int 4]) (rest := []) ⟨hx, hb, hml, hown, hts⟩ (k_M_edge l dC dI cI cZ cF H.size k0 a I0 (vp_updL (vp_updL J0 48 (jI u2)) 49 (jI d2)) g m2 k 4 mn cx cy S2 (by omega) (by assumption) (by omega) (by omega) (by omega)) (cwV 3 hts (zz_gV mw_1373 mw_1375 mw_42 mw_110 mc_yX11_edge) rfl rfl rfl (by decide +kernel) ⟨Nat.le_of_ble_eq_true rfl, Nat.le_of_ble_eq_true rfl⟩) (zPV2 (q0 := 0) (ci := 9) hPc hDc hK hXN rfl rfl) rfl rfl hl.1 rfl (lv_room (Nat.le_of_ble_eq_true rfl)) dX11_distance_61 ⟨Nat.le_of_ble_eq_true rfl, Nat.le_of_ble_eq_true rfl⟩) hS hFc hFc rfl (fun t H1 locs ht hB hk1 hS => ?_)
                obtain ⟨S3, w0, w1, w2, w3, ur, hP1, hD1⟩ := hB
                rw [ht] at hP1
                obtain ⟨hP, hD⟩ := va_join (wr := [(oa (a 1) cI 201 kd)]) (w1 := [(om k0 a I0 (vp_updL (vp_updL J0 48 (jI u2)) 49 (jI d2))), (oa (a 11) cI 201 mn), (oa (a 12) cI 8040 cx), (oa (a 13) cI 8040 cy), (oa (a 32) cI 8 S3)]) hP hD [0, 2, 3, 4, 5] [1] rfl rfl (by decide) (by decide) hk1 hFc hP1 hD1
                clear hk1 hPc hDc hFc hP1 hD1 ht
                generalize H1 = H at hP hS ⊢
                have hP := hP.sub (ws' := [(om k0 a I0 (vp_updL (vp_updL J0 48 (jI u2)) 49 (jI d2))), (oa (a 1) cI 201 kd), (oa (a 11) cI 201 mn), (oa (a 12) cI 8040 cx), (oa (a 13) cI 8040 cy), (oa (a 32) cI 8 S3)]) [1, 0, 2, 3, 4, 5] rfl
                have hD := hD.sub (ws' := [(om k0 a I0 (vp_updL (vp_updL J0 48 (jI u2)) 49 (jI d2))), (oa (a 1) cI 201 kd), (oa (a 11) cI 201 mn), (oa (a 12) cI 8040 cx), (oa (a 13) cI 8040 cy), (oa (a 32) cI 8 S3)]) [1, 0, 2, 3, 4, 5] (by decide) rfl
                have hP : va_P (dC, dI) classes [(om k0 a I0 (vp_updL (vp_updL J0 48 (jI u2)) 49 (jI d2))), (oa (a 1) cI 201 kd), (oa (a 11) cI 201 mn), (oa (a 12) cI 8040 cx), (oa (a 13) cI 8040 cy), (oa (a 32) cI 8 S3)] H := hP
                have hD : va_D A [(om k0 a I0 (vp_updL (vp_updL J0 48 (jI u2)) 49 (jI d2))), (oa (a 1) cI 201 kd), (oa (a 11) cI 201 mn), (oa (a 12) cI 8040 cx), (oa (a 13) cI 8040 cy), (oa (a 32) cI 8 S3)] := hD
                have v0 : S3 0 = cF40 cx f i := (ur 0 (by omega)).trans g0
                have v1 : S3 1 = cF40 cy f i := (ur 1 (by omega)).trans g1
                have v2 : S3 2 = cF40 cx f (nxt n i) := (ur 2 (by omega)).trans g2
                have v3 : S3 3 = cF40 cy f (nxt n i) := (ur 3 (by omega)).trans g3
                have v4 : S3 4 = cF40 cx g k := w0
                have v5 : S3 5 = cF40 cy g k := w1
                have v6 : S3 6 = cF40 cx g (nxt m2 k) := w2
                have v7 : S3 7 = cF40 cy g (nxt m2 k) := w3
                have hs3 := sPl (S := S3) (by rw [v0]; exact (hp_f i hin9).1) (by rw [v1]; exact (hp_f i hin9).2) (by rw [v2]; exact (hp_f _ hnx).1) (by rw [v3]; exact (hp_f _ hnx).2) (by rw [v4]; exact (hp_g k hjm).1) (by rw [v5]; exact (hp_g k hjm).2) (by rw [v6]; exact (hp_g _ hnj).1) (by rw [v7]; exact (hp_g _ hnj).2)
                refine lv_aload_n hx hb dX11_distance_64 rfl (lv_at hl 2 rfl) ?_
                refine lv_aload_n hx hb dX11_distance_65 rfl (lv_at hl 2 rfl) ?_
                refine va_get (D := (dC, dI)) (ci := 9) (v := .ref (a 32)) (C := RX11) (T := TX11) (N := 55) hx hb hts inX11 hown hK hP 0 rfl rfl 32 (by decide) (hts _ mw_1191) (fun _ h9 => h9) rfl dX11_distance_66 ?_
                refine lv_aload_n hx hb dX11_distance_69 rfl (lv_at hl 2 rfl) ?_
                refine va_get (D := (dC, dI)) (ci := 9) (v := .ref (a 32)) (C := RX11) (T := TX11) (N := 55) hx hb hts inX11 hown hK hP 0 rfl rfl 32 (by decide) (hts _ mw_1191) (fun _ h9 => h9) rfl dX11_distance_70 ?_
                refine lv_iconst (v := 4) hx hb dX11_distance_73 (by decide) ?_
                refine z_iald hx hb hK hP 5 0 rfl rfl (e := 4) rfl (by omega) (by omega) dX11_distance_74 ?_
                refine zz_i (v := cF40 cx g k) (v4) ?_
                refine lv_aload_n hx hb dX11_distance_75 rfl (lv_at hl 2 rfl) ?_
                refine va_get (D := (dC, dI)) (ci := 9) (v := .ref (a 32)) (C := RX11) (T := TX11) (N := 55) hx hb hts inX11 hown hK hP 0 rfl rfl 32 (by decide) (hts _ mw_1191) (fun _ h9 => h9) rfl dX11_distance_76 ?_
                refine lv_iconst (v := 5) hx hb dX11_distance_79 (by decide) ?_
                refine z_iald hx hb hK hP 5 0 rfl rfl (e := 5) rfl (by omega) (by omega) dX11_distance_80 ?_
                refine zz_i (v := cF40 cy g k) (v5) ?_
                refine lv_iconst (v := 0) hx hb dX11_distance_81 (by decide) ?_
                have hPc := hP.sub (ws' := [(om k0 a I0 (vp_updL (vp_updL J0 48 (jI u2)) 49 (jI d2))), (oa (a 32) cI 8 S3)]) [0, 5] rfl
                have hDc := hD.sub (ws' := [(om k0 a I0 (vp_updL (vp_updL J0 48 (jI u2)) 49 (jI d2))), (oa (a 32) cI 8 S3)]) [0, 5] (by decide) rfl
                have hFc := va_free (wc := [(om k0 a I0 (vp_updL (vp_updL J0 48 (jI u2)) 49 (jI d2))), (oa (a 32) cI 8 S3)]) hD hS hA [0, 5] rfl
                refine zcall (st1 := []) (va_runV (As := [.ref (a 32), .int (cF40 cx g k), .int (cF40 cy g k), .int 0]) (rest := []) ⟨hx, hb, hml, hown, hts⟩ (k_M_nearer l dC dI cI cZ cF H.size k0 a I0 (vp_updL (vp_updL J0 48 (jI u2)) 49 (jI d2)) 0 (cF40 cx g k) (cF40 cy g k) u2 d2 S3 (by omega) (hs3) ((hp_g k hjm).1) ((hp_g k hjm).2) (hud2.1) (hud2.2)) (cwV 4 hts (zz_gV mw_1592 mw_1594 mw_85 mw_110 mc_yX11_nearer) rfl rfl rfl (by decide +kernel) ⟨Nat.le_of_ble_eq_true rfl, Nat.le_of_ble_eq_true rfl⟩) (zPV2 (q0 := 0) (ci := 9) hPc hDc hK hXN rfl rfl) rfl rfl hl.1 rfl (lv_room (Nat.le_of_ble_eq_true rfl)) dX11_distance_82 ⟨Nat.le_of_ble_eq_true rfl, Nat.le_of_ble_eq_true rfl⟩) hS hFc hFc rfl (fun t H1 locs ht hB hk1 hS => ?_)
                obtain ⟨zu1, zd1, hnd1, hP1, hD1⟩ := hB
                rw [ht] at hP1
                obtain ⟨hP, hD⟩ := va_join (wr := [(oa (a 1) cI 201 kd), (oa (a 11) cI 201 mn), (oa (a 12) cI 8040 cx), (oa (a 13) cI 8040 cy)]) (w1 := [(om k0 a I0 (vp_updL (vp_updL J0 48 (jI zu1)) 49 (jI zd1))), (oa (a 32) cI 8 S3)]) hP hD [0, 5] [1, 2, 3, 4] rfl rfl (by decide) (by decide) hk1 hFc hP1 hD1
                clear hk1 hPc hDc hFc hP1 hD1 ht
                generalize H1 = H at hP hS ⊢
                have hP := hP.sub (ws' := [(om k0 a I0 (vp_updL (vp_updL J0 48 (jI zu1)) 49 (jI zd1))), (oa (a 1) cI 201 kd), (oa (a 11) cI 201 mn), (oa (a 12) cI 8040 cx), (oa (a 13) cI 8040 cy), (oa (a 32) cI 8 S3)]) [4, 0, 1, 2, 3, 5] rfl
                have hD := hD.sub (ws' := [(om k0 a I0 (vp_updL (vp_updL J0 48 (jI zu1)) 49 (jI zd1))), (oa (a 1) cI 201 kd), (oa (a 11) cI 201 mn), (oa (a 12) cI 8040 cx), (oa (a 13) cI 8040 cy), (oa (a 32) cI 8 S3)]) [4, 0, 1, 2, 3, 5] (by decide) rfl
                have hP : va_P (dC, dI) classes [(om k0 a I0 (vp_updL (vp_updL J0 48 (jI zu1)) 49 (jI zd1))), (oa (a 1) cI 201 kd), (oa (a 11) cI 201 mn), (oa (a 12) cI 8040 cx), (oa (a 13) cI 8040 cy), (oa (a 32) cI 8 S3)] H := hP
                have hD : va_D A [(om k0 a I0 (vp_updL (vp_updL J0 48 (jI zu1)) 49 (jI zd1))), (oa (a 1) cI 201 kd), (oa (a 11) cI 201 mn), (oa (a 12) cI 8040 cx), (oa (a 13) cI 8040 cy), (oa (a 32) cI 8 S3)] := hD
                have hx1 : ndP u2 d2 (nrU (S3 0).toInt (S3 1).toInt (S3 2).toInt (S3 3).toInt (cF40 cx g k).toInt (cF40 cy g k).toInt) (nrD (S3 0).toInt (S3 1).toInt (S3 2).toInt (S3 3).toInt (cF40 cx g k).toInt (cF40 cy g k).toInt) zu1 zd1 := hnd1
                rw [v0, v1, v2, v3] at hx1
                have hb1_9 := ndP_b hud2.1 hud2.2 (nrU_b (hp_f i hin9).1 (hp_f i hin9).2 (hp_f _ hnx).1 (hp_f _ hnx).2 (hp_g k hjm).1 (hp_g k hjm).2) hx1
                refine lv_aload_n hx hb dX11_distance_85 rfl (lv_at hl 2 rfl) ?_
                refine lv_aload_n hx hb dX11_distance_86 rfl (lv_at hl 2 rfl) ?_
                refine va_get (D := (dC, dI)) (ci := 9) (v := .ref (a 32)) (C := RX11) (T := TX11) (N := 55) hx hb hts inX11 hown hK hP 0 rfl rfl 32 (by decide) (hts _ mw_1191) (fun _ h9 => h9) rfl dX11_distance_87 ?_
                refine lv_aload_n hx hb dX11_distance_90 rfl (lv_at hl 2 rfl) ?_
                refine va_get (D := (dC, dI)) (ci := 9) (v := .ref (a 32)) (C := RX11) (T := TX11) (N := 55) hx hb hts inX11 hown hK hP 0 rfl rfl 32 (by decide) (hts _ mw_1191) (fun _ h9 => h9) rfl dX11_distance_91 ?_
                refine lv_bipush (v := 6) hx hb dX11_distance_94 (by decide) ?_
                refine z_iald hx hb hK hP 5 0 rfl rfl (e := 6) rfl (by omega) (by omega) dX11_distance_96 ?_
                refine zz_i (v := cF40 cx g (nxt m2 k)) (v6) ?_
                refine lv_aload_n hx hb dX11_distance_97 rfl (lv_at hl 2 rfl) ?_
                refine va_get (D := (dC, dI)) (ci := 9) (v := .ref (a 32)) (C := RX11) (T := TX11) (N := 55) hx hb hts inX11 hown hK hP 0 rfl rfl 32 (by decide) (hts _ mw_1191) (fun _ h9 => h9) rfl dX11_distance_98 ?_
                refine lv_bipush (v := 7) hx hb dX11_distance_101 (by decide) ?_
                refine z_iald hx hb hK hP 5 0 rfl rfl (e := 7) rfl (by omega) (by omega) dX11_distance_103 ?_
                refine zz_i (v := cF40 cy g (nxt m2 k)) (v7) ?_
                refine lv_iconst (v := 0) hx hb dX11_distance_104 (by decide) ?_
                have hPc := hP.sub (ws' := [(om k0 a I0 (vp_updL (vp_updL J0 48 (jI zu1)) 49 (jI zd1))), (oa (a 32) cI 8 S3)]) [0, 5] rfl
                have hDc := hD.sub (ws' := [(om k0 a I0 (vp_updL (vp_updL J0 48 (jI zu1)) 49 (jI zd1))), (oa (a 32) cI 8 S3)]) [0, 5] (by decide) rfl
                have hFc := va_free (wc := [(om k0 a I0 (vp_updL (vp_updL J0 48 (jI zu1)) 49 (jI zd1))), (oa (a 32) cI 8 S3)]) hD hS hA [0, 5] rfl
                refine zcall (st1 := []) (va_runV (As := [.ref (a 32), .int (cF40 cx g (nxt m2 k)), .int (cF40 cy g (nxt m2 k)), .int 0]) (rest := []) ⟨hx, hb, hml, hown, hts⟩ (k_M_nearer l dC dI cI cZ cF H.size k0 a I0 (vp_updL (vp_updL J0 48 (jI zu1)) 49 (jI zd1)) 0 (cF40 cx g (nxt m2 k)) (cF40 cy g (nxt m2 k)) zu1 zd1 S3 (by omega) (hs3) ((hp_g _ hnj).1) ((hp_g _ hnj).2) (hb1_9.1) (hb1_9.2)) (cwV 4 hts (zz_gV mw_1592 mw_1594 mw_85 mw_110 mc_yX11_nearer) rfl rfl rfl (by decide +kernel) ⟨Nat.le_of_ble_eq_true rfl, Nat.le_of_ble_eq_true rfl⟩) (zPV2 (q0 := 0) (ci := 9) hPc hDc hK hXN rfl rfl) rfl rfl hl.1 rfl (lv_room (Nat.le_of_ble_eq_true rfl)) dX11_distance_105 ⟨Nat.le_of_ble_eq_true rfl, Nat.le_of_ble_eq_true rfl⟩) hS hFc hFc rfl (fun t H1 locs ht hB hk1 hS => ?_)
                obtain ⟨zu2, zd2, hnd2, hP1, hD1⟩ := hB
                rw [ht] at hP1
                obtain ⟨hP, hD⟩ := va_join (wr := [(oa (a 1) cI 201 kd), (oa (a 11) cI 201 mn), (oa (a 12) cI 8040 cx), (oa (a 13) cI 8040 cy)]) (w1 := [(om k0 a I0 (vp_updL (vp_updL J0 48 (jI zu2)) 49 (jI zd2))), (oa (a 32) cI 8 S3)]) hP hD [0, 5] [1, 2, 3, 4] rfl rfl (by decide) (by decide) hk1 hFc hP1 hD1
                clear hk1 hPc hDc hFc hP1 hD1 ht
                generalize H1 = H at hP hS ⊢
                have hP := hP.sub (ws' := [(om k0 a I0 (vp_updL (vp_updL J0 48 (jI zu2)) 49 (jI zd2))), (oa (a 1) cI 201 kd), (oa (a 11) cI 201 mn), (oa (a 12) cI 8040 cx), (oa (a 13) cI 8040 cy), (oa (a 32) cI 8 S3)]) [4, 0, 1, 2, 3, 5] rfl
                have hD := hD.sub (ws' := [(om k0 a I0 (vp_updL (vp_updL J0 48 (jI zu2)) 49 (jI zd2))), (oa (a 1) cI 201 kd), (oa (a 11) cI 201 mn), (oa (a 12) cI 8040 cx), (oa (a 13) cI 8040 cy), (oa (a 32) cI 8 S3)]) [4, 0, 1, 2, 3, 5] (by decide) rfl
                have hP : va_P (dC, dI) classes [(om k0 a I0 (vp_updL (vp_updL J0 48 (jI zu2)) 49 (jI zd2))), (oa (a 1) cI 201 kd), (oa (a 11) cI 201 mn), (oa (a 12) cI 8040 cx), (oa (a 13) cI 8040 cy), (oa (a 32) cI 8 S3)] H := hP
                have hD : va_D A [(om k0 a I0 (vp_updL (vp_updL J0 48 (jI zu2)) 49 (jI zd2))), (oa (a 1) cI 201 kd), (oa (a 11) cI 201 mn), (oa (a 12) cI 8040 cx), (oa (a 13) cI 8040 cy), (oa (a 32) cI 8 S3)] := hD
                have hx2 : ndP zu1 zd1 (nrU (S3 0).toInt (S3 1).toInt (S3 2).toInt (S3 3).toInt (cF40 cx g (nxt m2 k)).toInt (cF40 cy g (nxt m2 k)).toInt) (nrD (S3 0).toInt (S3 1).toInt (S3 2).toInt (S3 3).toInt (cF40 cx g (nxt m2 k)).toInt (cF40 cy g (nxt m2 k)).toInt) zu2 zd2 := hnd2
                rw [v0, v1, v2, v3] at hx2
                have hb2_9 := ndP_b hb1_9.1 hb1_9.2 (nrU_b (hp_f i hin9).1 (hp_f i hin9).2 (hp_f _ hnx).1 (hp_f _ hnx).2 (hp_g _ hnj).1 (hp_g _ hnj).2) hx2
                refine lv_aload_n hx hb dX11_distance_108 rfl (lv_at hl 2 rfl) ?_
                refine lv_aload_n hx hb dX11_distance_109 rfl (lv_at hl 2 rfl) ?_
                refine va_get (D := (dC, dI)) (ci := 9) (v := .ref (a 32)) (C := RX11) (T := TX11) (N := 55) hx hb hts inX11 hown hK hP 0 rfl rfl 32 (by decide) (hts _ mw_1191) (fun _ h9 => h9) rfl dX11_distance_110 ?_
                refine lv_aload_n hx hb dX11_distance_113 rfl (lv_at hl 2 rfl) ?_
                refine va_get (D := (dC, dI)) (ci := 9) (v := .ref (a 32)) (C := RX11) (T := TX11) (N := 55) hx hb hts inX11 hown hK hP 0 rfl rfl 32 (by decide) (hts _ mw_1191) (fun _ h9 => h9) rfl dX11_distance_114 ?_
                refine lv_iconst (v := 0) hx hb dX11_distance_117 (by decide) ?_
                refine z_iald hx hb hK hP 5 0 rfl rfl (e := 0) rfl (by omega) (by omega) dX11_distance_118 ?_
                refine zz_i (v := cF40 cx f i) (v0) ?_
                refine lv_aload_n hx hb dX11_distance_119 rfl (lv_at hl 2 rfl) ?_
                refine va_get (D := (dC, dI)) (ci := 9) (v := .ref (a 32)) (C := RX11) (T := TX11) (N := 55) hx hb hts inX11 hown hK hP 0 rfl rfl 32 (by decide) (hts _ mw_1191) (fun _ h9 => h9) rfl dX11_distance_120 ?_
                refine lv_iconst (v := 1) hx hb dX11_distance_123 (by decide) ?_
                refine z_iald hx hb hK hP 5 0 rfl rfl (e := 1) rfl (by omega) (by omega) dX11_distance_124 ?_
                refine zz_i (v := cF40 cy f i) (v1) ?_
                refine lv_iconst (v := 4) hx hb dX11_distance_125 (by decide) ?_
                have hPc := hP.sub (ws' := [(om k0 a I0 (vp_updL (vp_updL J0 48 (jI zu2)) 49 (jI zd2))), (oa (a 32) cI 8 S3)]) [0, 5] rfl
                have hDc := hD.sub (ws' := [(om k0 a I0 (vp_updL (vp_updL J0 48 (jI zu2)) 49 (jI zd2))), (oa (a 32) cI 8 S3)]) [0, 5] (by decide) rfl
                have hFc := va_free (wc := [(om k0 a I0 (vp_updL (vp_updL J0 48 (jI zu2)) 49 (jI zd2))), (oa (a 32) cI 8 S3)]) hD hS hA [0, 5] rfl
                refine zcall (st1 := []) (va_runV (As := [.ref (a 32), .int (cF40 cx f i), .int (cF40 cy f i), .int 4]) (rest := []) ⟨hx, hb, hml, hown, hts⟩ (k_M_nearer l dC dI cI cZ cF H.size k0 a I0 (vp_updL (vp_updL J0 48 (jI zu2)) 49 (jI zd2)) 4 (cF40 cx f i) (cF40 cy f i) zu2 zd2 S3 (by omega) (hs3) ((hp_f i hin9).1) ((hp_f i hin9).2) (hb2_9.1) (hb2_9.2)) (cwV 4 hts (zz_gV mw_1592 mw_1594 mw_85 mw_110 mc_yX11_nearer) rfl rfl rfl (by decide +kernel) ⟨Nat.le_of_ble_eq_true rfl, Nat.le_of_ble_eq_true rfl⟩) (zPV2 (q0 := 0) (ci := 9) hPc hDc hK hXN rfl rfl) rfl rfl hl.1 rfl (lv_room (Nat.le_of_ble_eq_true rfl)) dX11_distance_126 ⟨Nat.le_of_ble_eq_true rfl, Nat.le_of_ble_eq_true rfl⟩) hS hFc hFc rfl (fun t H1 locs ht hB hk1 hS => ?_)
                obtain ⟨zu3, zd3, hnd3, hP1, hD1⟩ := hB
                rw [ht] at hP1
                obtain ⟨hP, hD⟩ := va_join (wr := [(oa (a 1) cI 201 kd), (oa (a 11) cI 201 mn), (oa (a 12) cI 8040 cx), (oa (a 13) cI 8040 cy)]) (w1 := [(om k0 a I0 (vp_updL (vp_updL J0 48 (jI zu3)) 49 (jI zd3))), (oa (a 32) cI 8 S3)]) hP hD [0, 5] [1, 2, 3, 4] rfl rfl (by decide) (by decide) hk1 hFc hP1 hD1
                clear hk1 hPc hDc hFc hP1 hD1 ht
                generalize H1 = H at hP hS ⊢
                have hP := hP.sub (ws' := [(om k0 a I0 (vp_updL (vp_updL J0 48 (jI zu3)) 49 (jI zd3))), (oa (a 1) cI 201 kd), (oa (a 11) cI 201 mn), (oa (a 12) cI 8040 cx), (oa (a 13) cI 8040 cy), (oa (a 32) cI 8 S3)]) [4, 0, 1, 2, 3, 5] rfl
                have hD := hD.sub (ws' := [(om k0 a I0 (vp_updL (vp_updL J0 48 (jI zu3)) 49 (jI zd3))), (oa (a 1) cI 201 kd), (oa (a 11) cI 201 mn), (oa (a 12) cI 8040 cx), (oa (a 13) cI 8040 cy), (oa (a 32) cI 8 S3)]) [4, 0, 1, 2, 3, 5] (by decide) rfl
                have hP : va_P (dC, dI) classes [(om k0 a I0 (vp_updL (vp_updL J0 48 (jI zu3)) 49 (jI zd3))), (oa (a 1) cI 201 kd), (oa (a 11) cI 201 mn), (oa (a 12) cI 8040 cx), (oa (a 13) cI 8040 cy), (oa (a 32) cI 8 S3)] H := hP
                have hD : va_D A [(om k0 a I0 (vp_updL (vp_updL J0 48 (jI zu3)) 49 (jI zd3))), (oa (a 1) cI 201 kd), (oa (a 11) cI 201 mn), (oa (a 12) cI 8040 cx), (oa (a 13) cI 8040 cy), (oa (a 32) cI 8 S3)] := hD
                have hx3 : ndP zu2 zd2 (nrU (S3 4).toInt (S3 5).toInt (S3 6).toInt (S3 7).toInt (cF40 cx f i).toInt (cF40 cy f i).toInt) (nrD (S3 4).toInt (S3 5).toInt (S3 6).toInt (S3 7).toInt (cF40 cx f i).toInt (cF40 cy f i).toInt) zu3 zd3 := hnd3
                rw [v4, v5, v6, v7] at hx3
                have hb3_9 := ndP_b hb2_9.1 hb2_9.2 (nrU_b (hp_g k hjm).1 (hp_g k hjm).2 (hp_g _ hnj).1 (hp_g _ hnj).2 (hp_f i hin9).1 (hp_f i hin9).2) hx3
                refine lv_aload_n hx hb dX11_distance_129 rfl (lv_at hl 2 rfl) ?_
                refine lv_aload_n hx hb dX11_distance_130 rfl (lv_at hl 2 rfl) ?_
                refine va_get (D := (dC, dI)) (ci := 9) (v := .ref (a 32)) (C := RX11) (T := TX11) (N := 55) hx hb hts inX11 hown hK hP 0 rfl rfl 32 (by decide) (hts _ mw_1191) (fun _ h9 => h9) rfl dX11_distance_131 ?_
                refine lv_aload_n hx hb dX11_distance_134 rfl (lv_at hl 2 rfl) ?_
                refine va_get (D := (dC, dI)) (ci := 9) (v := .ref (a 32)) (C := RX11) (T := TX11) (N := 55) hx hb hts inX11 hown hK hP 0 rfl rfl 32 (by decide) (hts _ mw_1191) (fun _ h9 => h9) rfl dX11_distance_135 ?_
                refine lv_iconst (v := 2) hx hb dX11_distance_138 (by decide) ?_
                refine z_iald hx hb hK hP 5 0 rfl rfl (e := 2) rfl (by omega) (by omega) dX11_distance_139 ?_
                refine zz_i (v := cF40 cx f (nxt n i)) (v2) ?_
                refine lv_aload_n hx hb dX11_distance_140 rfl (lv_at hl 2 rfl) ?_
                refine va_get (D := (dC, dI)) (ci := 9) (v := .ref (a 32)) (C := RX11) (T := TX11) (N := 55) hx hb hts inX11 hown hK hP 0 rfl rfl 32 (by decide) (hts _ mw_1191) (fun _ h9 => h9) rfl dX11_distance_141 ?_
                refine lv_iconst (v := 3) hx hb dX11_distance_144 (by decide) ?_
                refine z_iald hx hb hK hP 5 0 rfl rfl (e := 3) rfl (by omega) (by omega) dX11_distance_145 ?_
                refine zz_i (v := cF40 cy f (nxt n i)) (v3) ?_
                refine lv_iconst (v := 4) hx hb dX11_distance_146 (by decide) ?_
                have hPc := hP.sub (ws' := [(om k0 a I0 (vp_updL (vp_updL J0 48 (jI zu3)) 49 (jI zd3))), (oa (a 32) cI 8 S3)]) [0, 5] rfl
                have hDc := hD.sub (ws' := [(om k0 a I0 (vp_updL (vp_updL J0 48 (jI zu3)) 49 (jI zd3))), (oa (a 32) cI 8 S3)]) [0, 5] (by decide) rfl
                have hFc := va_free (wc := [(om k0 a I0 (vp_updL (vp_updL J0 48 (jI zu3)) 49 (jI zd3))), (oa (a 32) cI 8 S3)]) hD hS hA [0, 5] rfl
                refine zcall (st1 := []) (va_runV (As := [.ref (a 32), .int (cF40 cx f (nxt n i)), .int (cF40 cy f (nxt n i)), .int 4]) (rest := []) ⟨hx, hb, hml, hown, hts⟩ (k_M_nearer l dC dI cI cZ cF H.size k0 a I0 (vp_updL (vp_updL J0 48 (jI zu3)) 49 (jI zd3)) 4 (cF40 cx f (nxt n i)) (cF40 cy f (nxt n i)) zu3 zd3 S3 (by omega) (hs3) ((hp_f _ hnx).1) ((hp_f _ hnx).2) (hb3_9.1) (hb3_9.2)) (cwV 4 hts (zz_gV mw_1592 mw_1594 mw_85 mw_110 mc_yX11_nearer) rfl rfl rfl (by decide +kernel) ⟨Nat.le_of_ble_eq_true rfl, Nat.le_of_ble_eq_true rfl⟩) (zPV2 (q0 := 0) (ci := 9) hPc hDc hK hXN rfl rfl) rfl rfl hl.1 rfl (lv_room (Nat.le_of_ble_eq_true rfl)) dX11_distance_147 ⟨Nat.le_of_ble_eq_true rfl, Nat.le_of_ble_eq_true rfl⟩) hS hFc hFc rfl (fun t H1 locs ht hB hk1 hS => ?_)
                obtain ⟨zu4, zd4, hnd4, hP1, hD1⟩ := hB
                rw [ht] at hP1
                obtain ⟨hP, hD⟩ := va_join (wr := [(oa (a 1) cI 201 kd), (oa (a 11) cI 201 mn), (oa (a 12) cI 8040 cx), (oa (a 13) cI 8040 cy)]) (w1 := [(om k0 a I0 (vp_updL (vp_updL J0 48 (jI zu4)) 49 (jI zd4))), (oa (a 32) cI 8 S3)]) hP hD [0, 5] [1, 2, 3, 4] rfl rfl (by decide) (by decide) hk1 hFc hP1 hD1
                clear hk1 hPc hDc hFc hP1 hD1 ht
                generalize H1 = H at hP hS ⊢
                have hP := hP.sub (ws' := [(om k0 a I0 (vp_updL (vp_updL J0 48 (jI zu4)) 49 (jI zd4))), (oa (a 1) cI 201 kd), (oa (a 11) cI 201 mn), (oa (a 12) cI 8040 cx), (oa (a 13) cI 8040 cy), (oa (a 32) cI 8 S3)]) [4, 0, 1, 2, 3, 5] rfl
                have hD := hD.sub (ws' := [(om k0 a I0 (vp_updL (vp_updL J0 48 (jI zu4)) 49 (jI zd4))), (oa (a 1) cI 201 kd), (oa (a 11) cI 201 mn), (oa (a 12) cI 8040 cx), (oa (a 13) cI 8040 cy), (oa (a 32) cI 8 S3)]) [4, 0, 1, 2, 3, 5] (by decide) rfl
                have hP : va_P (dC, dI) classes [(om k0 a I0 (vp_updL (vp_updL J0 48 (jI zu4)) 49 (jI zd4))), (oa (a 1) cI 201 kd), (oa (a 11) cI 201 mn), (oa (a 12) cI 8040 cx), (oa (a 13) cI 8040 cy), (oa (a 32) cI 8 S3)] H := hP
                have hD : va_D A [(om k0 a I0 (vp_updL (vp_updL J0 48 (jI zu4)) 49 (jI zd4))), (oa (a 1) cI 201 kd), (oa (a 11) cI 201 mn), (oa (a 12) cI 8040 cx), (oa (a 13) cI 8040 cy), (oa (a 32) cI 8 S3)] := hD
                have hx4 : ndP zu3 zd3 (nrU (S3 4).toInt (S3 5).toInt (S3 6).toInt (S3 7).toInt (cF40 cx f (nxt n i)).toInt (cF40 cy f (nxt n i)).toInt) (nrD (S3 4).toInt (S3 5).toInt (S3 6).toInt (S3 7).toInt (cF40 cx f (nxt n i)).toInt (cF40 cy f (nxt n i)).toInt) zu4 zd4 := hnd4
                rw [v4, v5, v6, v7] at hx4
                have hb4_9 := ndP_b hb3_9.1 hb3_9.2 (nrU_b (hp_g k hjm).1 (hp_g k hjm).2 (hp_g _ hnj).1 (hp_g _ hnj).2 (hp_f _ hnx).1 (hp_f _ hnx).2) hx4
                refine lv_iinc (v := nI (k + 1)) (lv' := [(4, .int (nI (k + 1))), (3, .int (nI i)), (0, .ref k0), (1, .int (nI f)), (2, .int (nI g))]) hx hb dX11_distance_150 hl (k := 0) rfl (nI_add k 1) (by decide) rfl (fun ls hl => ?_)
                refine lv_goto (tgt := 46) hx hb dX11_distance_153 (by decide) ?_
                exact ih_46 (k + 1) S3 zu4 zd4 H locs ls (by omega) (by omega) (by rw [ur _ (by omega)]; exact g0) (by rw [ur _ (by omega)]; exact g1) (by rw [ur _ (by omega)]; exact g2) (by rw [ur _ (by omega)]; exact g3) (dcP_s hp_f hp_g hin9 hjm heg him2 hx1 hx2 hx3 hx4) (hb4_9) hP hD hS (lv_sub hl [0, 1, 2, 3, 4] rfl)
          exact hl_46 _ 0 S2 u d H locs ls (Nat.lt_succ_self _) (by omega) (by assumption) (by assumption) (by assumption) (by assumption) (him) (hud) hP hD hS (lv_sub hl [0, 1, 2, 3, 4] rfl)
    exact hl_27 _ 0 q_1 0 0 H locs ls (Nat.lt_succ_self _) (by omega) (dcP_0 _ _ _ _ _ _ _) (by omega) hP hD hS (lv_sub hl [0, 1, 2, 3] rfl)
  · have c_2 : mtF (kd f).toInt n (cF40 cx f) (cF40 cy f) (kd g).toInt m2 (cF40 cx g) (cF40 cy g) := zp_1 c_2
    exfalso; exact absurd (by assumption) hmt
