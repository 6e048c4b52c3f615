section
set_option maxHeartbeats 4000000 in
set_option maxRecDepth 100000 in
theorem k_M_isClash (l : Launch) (dC : Nat → ClassId) (dI : Nat → Nat → Nat) (cI cZ cF : ClassId) (sz : Nat) (k0 : Nat) (a : Nat → Nat) (I0 : Nat → Int32) (J0 : Nat → Int64) (f : Nat) (g : Nat) (ft : Nat) (gp9 : Int32) (st : Nat → Int32) (tn : Nat → Int32) (kd : Nat → Int32) (mn : Nat → Int32) (cx : Nat → Int32) (cy : Nat → Int32) (S0 : Nat → Int32) (wd : Nat → Int32) (hft : I0 0 = nI ft) (h200 : ft ≤ 200) (hwf : ∀ q, lvF ft st tn q → wfM mn cx cy q) (hef : ∀ q, lvF ft st tn q → 1 ≤ eO (kd q).toInt (nN (mn q))) (hwd : ∀ q, q < ft → 0 ≤ (wd q).toInt ∧ (wd q).toInt ≤ 100) (hgp : 0 ≤ gp9.toInt ∧ gp9.toInt ≤ 200) (hf_t : f < ft) (hg_t : g < ft) : Met l yX11_isClash (.code yX11_isClash cX11_isClash 6 (some .boolean) :: ws0) ({ frames := 5, cells := 0, slots := 0, locals := 129 } : Room) (va_Pc [.ref k0, .int (nI f), .int (nI g), .int gp9] (zPre (dC, dI) classes (zTy cI cZ cF) [(om k0 a I0 J0), (oa (a 5) cI 201 st), (oa (a 6) cZ 201 tn), (oa (a 1) cI 201 kd), (oa (a 11) cI 201 mn), (oa (a 12) cI 8040 cx), (oa (a 13) cI 8040 cy), (oa (a 32) cI 8 S0), (oa (a 3) cI 201 wd)] sz zXN)) (zQ (some (.int (pI (clP ft st tn kd mn cx cy wd gp9 f g)))) (fun t => ∃ (u9 : Int64), ∃ (d9 : Int64), ∃ (S1 : Nat → Int32), va_P (dC, dI) classes [(om k0 a I0 (vp_updL (vp_updL J0 48 u9) 49 d9)), (oa (a 5) cI 201 st), (oa (a 6) cZ 201 tn), (oa (a 1) cI 201 kd), (oa (a 11) cI 201 mn), (oa (a 12) cI 8040 cx), (oa (a 13) cI 8040 cy), (oa (a 32) cI 8 S1), (oa (a 3) cI 201 wd)] t.heap ∧ va_D (va_A [(om k0 a I0 J0), (oa (a 5) cI 201 st), (oa (a 6) cZ 201 tn), (oa (a 1) cI 201 kd), (oa (a 11) cI 201 mn), (oa (a 12) cI 8040 cx), (oa (a 13) cI 8040 cy), (oa (a 32) cI 8 S0), (oa (a 3) cI 201 wd)] sz) [(om k0 a I0 (vp_updL (vp_updL J0 48 u9) 49 d9)), (oa (a 5) cI 201 st), (oa (a 6) cZ 201 tn), (oa (a 1) cI 201 kd), (oa (a 11) cI 201 mn), (oa (a 12) cI 8040 cx), (oa (a 13) cI 8040 cy), (oa (a 32) cI 8 S1), (oa (a 3) cI 201 wd)]) (va_A [(om k0 a I0 J0), (oa (a 5) cI 201 st), (oa (a 6) cZ 201 tn), (oa (a 1) cI 201 kd), (oa (a 11) cI 201 mn), (oa (a 12) cI 8040 cx), (oa (a 13) cI 8040 cy), (oa (a 32) cI 8 S0), (oa (a 3) cI 201 wd)] sz)) 0 0 (va_A [(om k0 a I0 J0), (oa (a 5) cI 201 st), (oa (a 6) cZ 201 tn), (oa (a 1) cI 201 kd), (oa (a 11) cI 201 mn), (oa (a 12) cI 8040 cx), (oa (a 13) cI 8040 cy), (oa (a 32) cI 8 S0), (oa (a 3) cI 201 wd)] sz) := by
  refine Met.ofW (cc := cX11_isClash) (maxL := 6) (ret := (some .boolean)) rfl rfl ?_
  intro p e s m args below meth c s₁ B hml hv
  obtain ⟨rfl, hsz, hP, hK, hD0, hXN⟩ := hv
  have hx := B.exec
  have hb := B.bytes
  have hr := B.returns
  have hts0 := atoms_spec (ws := .code yX11_isClash cX11_isClash 6 (some .boolean) :: ws0) B.pre
  have hts : ∀ w9 ∈ ws0, w9.before ([.ref k0, .int (nI f), .int (nI g), .int gp9] : List Value).toArray s = true := fun w9 h => hts0 w9 (List.mem_cons_of_mem _ h)
  have hown : s.vm.findClass "ScaleShopModel" = some m.cls := findClass_of_methodNamed B.named
  have hlocks := B.notSynchronized
  subst hsz
  have hD := hD0.self (sz := s.heap.size)
  clear hD0
  generalize hAe : va_A [(om k0 a I0 J0), (oa (a 5) cI 201 st), (oa (a 6) cZ 201 tn), (oa (a 1) cI 201 kd), (oa (a 11) cI 201 mn), (oa (a 12) cI 8040 cx), (oa (a 13) cI 8040 cy), (oa (a 32) cI 8 S0), (oa (a 3) cI 201 wd)] s.heap.size = A at hD ⊢
  have hA : ∀ q : Nat, s.heap.size ≤ q → A q := fun q h => by rw [← hAe]; exact Or.inr h
  clear hAe
  have hS : va_S A s.heap s.heap [] := va_S.rf
  have hP : va_P (dC, dI) classes [(om k0 a I0 J0), (oa (a 5) cI 201 st), (oa (a 6) cZ 201 tn), (oa (a 1) cI 201 kd), (oa (a 11) cI 201 mn), (oa (a 12) cI 8040 cx), (oa (a 13) cI 8040 cy), (oa (a 32) cI 8 S0), (oa (a 3) cI 201 wd)] s.heap := hP
  obtain ⟨Q9, hQ9⟩ : ∃ Q9 : State → Prop, Q9 = MQ below (zQ (some (.int (pI (clP ft st tn kd mn cx cy wd gp9 f g)))) (fun t => ∃ (u9 : Int64), ∃ (d9 : Int64), ∃ (S1 : Nat → Int32), va_P (dC, dI) classes [(om k0 a I0 (vp_updL (vp_updL J0 48 u9) 49 d9)), (oa (a 5) cI 201 st), (oa (a 6) cZ 201 tn), (oa (a 1) cI 201 kd), (oa (a 11) cI 201 mn), (oa (a 12) cI 8040 cx), (oa (a 13) cI 8040 cy), (oa (a 32) cI 8 S1), (oa (a 3) cI 201 wd)] t.heap ∧ va_D A [(om k0 a I0 (vp_updL (vp_updL J0 48 u9) 49 d9)), (oa (a 5) cI 201 st), (oa (a 6) cZ 201 tn), (oa (a 1) cI 201 kd), (oa (a 11) cI 201 mn), (oa (a 12) cI 8040 cx), (oa (a 13) cI 8040 cy), (oa (a 32) cI 8 S1), (oa (a 3) cI 201 wd)]) A) ([.ref k0, .int (nI f), .int (nI g), .int gp9] : List Value).toArray s 0 0 A := ⟨_, rfl⟩
  rw [← hQ9]
  have hl := lv_entry ([.ref k0, .int (nI f), .int (nI g), .int gp9]) (n := 6) (Nat.le_of_ble_eq_true rfl)
  rw [lg_entry_eq]
  generalize (lg_sl ([.ref k0, .int (nI f), .int (nI g), .int gp9]) ++ List.replicate (6 - (lg_sl ([.ref k0, .int (nI f), .int (nI g), .int gp9])).length) Slot.unset).toArray = ls at hl ⊢
  have hl : lv_has ls 6 [(0, .ref k0), (1, .int (nI f)), (2, .int (nI g)), (3, .int gp9)] := hl
  refine lv_aload_n hx hb dX11_isClash_0 rfl (lv_at hl 0 rfl) ?_
  refine lv_iload_n hx hb dX11_isClash_1 rfl (lv_at hl 1 rfl) ?_
  obtain ⟨hPc, hDc, hFc⟩ := zc_sub (wc := [(om k0 a I0 J0), (oa (a 5) cI 201 st), (oa (a 6) cZ 201 tn)]) hP hD hS hA [0, 1, 2] rfl rfl
  refine zcall (st1 := [.int (pI (f < ft ∧ (st f).toInt = 1 ∧ (tn f).toInt = 0))]) (va_runV (As := [.int (nI f)]) (rest := []) ⟨hx, hb, hml, hown, hts⟩ (k_M_is_n l dC dI cI cZ cF s.heap.size k0 a I0 J0 f ft st tn (by first | with_reducible assumption | assumption) (by first | with_reducible assumption | omega) (by first | with_reducible assumption | omega)) (csV_179 hts rfl rfl ⟨Nat.le_of_ble_eq_true rfl, Nat.le_of_ble_eq_true rfl⟩) (zPV2 (q0 := 0) (ci := 9) hPc hDc hK hXN rfl rfl) rfl rfl hl.1 rfl (lv_room (Nat.le_of_ble_eq_true rfl)) dX11_isClash_2 ⟨Nat.le_of_ble_eq_true rfl, Nat.le_of_ble_eq_true rfl⟩) hS hFc hFc rfl (fun t H locs ht hB hk1 hS => ?_)
  obtain ⟨hP1, hD1⟩ := hB
  rw [ht] at hP1
  obtain ⟨hP, hD⟩ := zk (W2 := [(om k0 a I0 J0), (oa (a 5) cI 201 st), (oa (a 6) cZ 201 tn), (oa (a 1) cI 201 kd), (oa (a 11) cI 201 mn), (oa (a 12) cI 8040 cx), (oa (a 13) cI 8040 cy), (oa (a 32) cI 8 S0), (oa (a 3) cI 201 wd)]) hP hD [0, 1, 2] [3, 4, 5, 6, 7, 8] [3, 4, 5, 6, 7, 8] [0, 1, 2] [6, 7, 8, 0, 1, 2, 3, 4, 5] 9 rfl rfl rfl rfl rfl rfl rfl rfl rfl hk1 hFc hP1 hD1
  clear hk1 hPc hDc hFc hP1 hD1 ht
  refine lv_if_eq (tgt := 25) hx hb dX11_isClash_5 rfl (fun c_1 => ?_) (fun c_1 => ?_)
  · have c_1 : ¬ (f < ft ∧ (st f).toInt = 1 ∧ (tn f).toInt = 0) := zp_0 c_1
    refine lv_iconst (v := 0) hx hb dX11_isClash_25 rfl ?_
    obtain ⟨hP9, hD9⟩ := zq_sub (wc := [(om k0 a I0 J0), (oa (a 5) cI 201 st), (oa (a 6) cZ 201 tn), (oa (a 1) cI 201 kd), (oa (a 11) cI 201 mn), (oa (a 12) cI 8040 cx), (oa (a 13) cI 8040 cy), (oa (a 32) cI 8 S0), (oa (a 3) cI 201 wd)]) hP hD [0, 1, 2, 3, 4, 5, 6, 7, 8] rfl rfl
    rw [hQ9]
    exact W.zret (ty := .boolean) (v := 0) hx hb hr (rfl) (fun t ht hW => ⟨⟨congrArg (fun z => Outcome.returned (some (Value.int z))) (show (0 : Int32) = pI (clP ft st tn kd mn cx cy wd gp9 f g) from (zp_f (by first | exact fun h => absurd h.1 (by first | with_reducible assumption | assumption) | exact fun h => absurd h.2.1 (by first | with_reducible assumption | assumption) | exact fun h => absurd (by first | with_reducible assumption | assumption) h.2.2.1)).symm), (J0 48), (J0 49), S0, by rw [ht]; exact hP9, hD9⟩, hS.F ht⟩) hS.2.2 dX11_isClash_26
  · have c_1 : f < ft ∧ (st f).toInt = 1 ∧ (tn f).toInt = 0 := zp_1 c_1
    have hw_ff := hwf f (by first | with_reducible assumption | assumption)
    have hm_ff := hw_ff.1
    have hn_ff := hw_ff.2.1
    have hp_ff := hw_ff.2.2
    have he_ff := hef f (by first | with_reducible assumption | assumption)
    refine lv_aload_n hx hb dX11_isClash_8 rfl (lv_at hl 0 rfl) ?_
    refine lv_iload_n hx hb dX11_isClash_9 rfl (lv_at hl 2 rfl) ?_
    obtain ⟨hPc, hDc, hFc⟩ := zc_sub (wc := [(om k0 a I0 J0), (oa (a 5) cI 201 st), (oa (a 6) cZ 201 tn)]) hP hD hS hA [0, 1, 2] rfl rfl
    refine zcall (st1 := [.int (pI (g < ft ∧ (st g).toInt = 1 ∧ (tn g).toInt = 0))]) (va_runV (As := [.int (nI g)]) (rest := []) ⟨hx, hb, hml, hown, hts⟩ (k_M_is_n l dC dI cI cZ cF H.size k0 a I0 J0 g ft st tn (by first | with_reducible assumption | assumption) (by first | with_reducible assumption | omega) (by first | with_reducible assumption | omega)) (csV_179 hts rfl rfl ⟨Nat.le_of_ble_eq_true rfl, Nat.le_of_ble_eq_true rfl⟩) (zPV2 (q0 := 0) (ci := 9) hPc hDc hK hXN rfl rfl) rfl rfl hl.1 rfl (lv_room (Nat.le_of_ble_eq_true rfl)) dX11_isClash_10 ⟨Nat.le_of_ble_eq_true rfl, Nat.le_of_ble_eq_true rfl⟩) hS hFc hFc rfl (fun t H locs ht hB hk1 hS => ?_)
    obtain ⟨hP1, hD1⟩ := hB
    rw [ht] at hP1
    obtain ⟨hP, hD⟩ := zk (W2 := [(om k0 a I0 J0), (oa (a 5) cI 201 st), (oa (a 6) cZ 201 tn), (oa (a 1) cI 201 kd), (oa (a 11) cI 201 mn), (oa (a 12) cI 8040 cx), (oa (a 13) cI 8040 cy), (oa (a 32) cI 8 S0), (oa (a 3) cI 201 wd)]) hP hD [0, 1, 2] [3, 4, 5, 6, 7, 8] [3, 4, 5, 6, 7, 8] [0, 1, 2] [6, 7, 8, 0, 1, 2, 3, 4, 5] 9 rfl rfl rfl rfl rfl rfl rfl rfl rfl hk1 hFc hP1 hD1
    clear hk1 hPc hDc hFc hP1 hD1 ht
    refine lv_if_eq (tgt := 25) hx hb dX11_isClash_13 rfl (fun c_2 => ?_) (fun c_2 => ?_)
    · have c_2 : ¬ (g < ft ∧ (st g).toInt = 1 ∧ (tn g).toInt = 0) := zp_0 c_2
      refine lv_iconst (v := 0) hx hb dX11_isClash_25 rfl ?_
      obtain ⟨hP9, hD9⟩ := zq_sub (wc := [(om k0 a I0 J0), (oa (a 5) cI 201 st), (oa (a 6) cZ 201 tn), (oa (a 1) cI 201 kd), (oa (a 11) cI 201 mn), (oa (a 12) cI 8040 cx), (oa (a 13) cI 8040 cy), (oa (a 32) cI 8 S0), (oa (a 3) cI 201 wd)]) hP hD [0, 1, 2, 3, 4, 5, 6, 7, 8] rfl rfl
      rw [hQ9]
      exact W.zret (ty := .boolean) (v := 0) hx hb hr (rfl) (fun t ht hW => ⟨⟨congrArg (fun z => Outcome.returned (some (Value.int z))) (show (0 : Int32) = pI (clP ft st tn kd mn cx cy wd gp9 f g) from (zp_f (by first | exact fun h => absurd h.1 (by first | with_reducible assumption | assumption) | exact fun h => absurd h.2.1 (by first | with_reducible assumption | assumption) | exact fun h => absurd (by first | with_reducible assumption | assumption) h.2.2.1)).symm), (J0 48), (J0 49), S0, by rw [ht]; exact hP9, hD9⟩, hS.F ht⟩) hS.2.2 dX11_isClash_26
    · have c_2 : g < ft ∧ (st g).toInt = 1 ∧ (tn g).toInt = 0 := zp_1 c_2
      have hw_gg := hwf g (by first | with_reducible assumption | assumption)
      have hm_gg := hw_gg.1
      have hn_gg := hw_gg.2.1
      have hp_gg := hw_gg.2.2
      have he_gg := hef g (by first | with_reducible assumption | assumption)
      refine lv_aload_n hx hb dX11_isClash_16 rfl (lv_at hl 0 rfl) ?_
      refine lv_iload_n hx hb dX11_isClash_17 rfl (lv_at hl 1 rfl) ?_
      refine lv_iload_n hx hb dX11_isClash_18 rfl (lv_at hl 2 rfl) ?_
      obtain ⟨hPc, hDc, hFc⟩ := zc_sub (wc := [(om k0 a I0 J0), (oa (a 1) cI 201 kd), (oa (a 11) cI 201 mn), (oa (a 12) cI 8040 cx), (oa (a 13) cI 8040 cy), (oa (a 32) cI 8 S0)]) hP hD hS hA [0, 3, 4, 5, 6, 7] rfl rfl
      refine zcall (st1 := [.int (pI (∃ i, i < eO (kd f).toInt (nN (mn f)) ∧ ∃ j, j < eO (kd g).toInt (nN (mn g)) ∧ eMt (nN (mn f)) (cF40 cx f) (cF40 cy f) i (nN (mn g)) (cF40 cx g) (cF40 cy g) j))]) (va_runV (As := [.int (nI f), .int (nI g)]) (rest := []) ⟨hx, hb, hml, hown, hts⟩ (k_M_isMet l dC dI cI cZ cF H.size k0 a I0 J0 f (nN (mn f)) g (nN (mn g)) kd mn cx cy S0 (by first | with_reducible assumption | omega) (by first | with_reducible assumption | assumption) (by first | with_reducible assumption | omega) (by first | with_reducible assumption | assumption) (by first | with_reducible assumption | omega) (by first | with_reducible assumption | assumption) (by first | with_reducible assumption | omega) (by first | with_reducible assumption | assumption)) (csV_180 hts rfl rfl ⟨Nat.le_of_ble_eq_true rfl, Nat.le_of_ble_eq_true rfl⟩) (zPV2 (q0 := 0) (ci := 9) hPc hDc hK hXN rfl rfl) rfl rfl hl.1 rfl (lv_room (Nat.le_of_ble_eq_true rfl)) dX11_isClash_19 ⟨Nat.le_of_ble_eq_true rfl, Nat.le_of_ble_eq_true rfl⟩) hS hFc hFc rfl (fun t H locs ht hB hk1 hS => ?_)
      obtain ⟨q_3, hP1, hD1⟩ := hB
      rw [ht] at hP1
      obtain ⟨hP, hD⟩ := zk (W2 := [(om k0 a I0 J0), (oa (a 5) cI 201 st), (oa (a 6) cZ 201 tn), (oa (a 1) cI 201 kd), (oa (a 11) cI 201 mn), (oa (a 12) cI 8040 cx), (oa (a 13) cI 8040 cy), (oa (a 32) cI 8 q_3), (oa (a 3) cI 201 wd)]) hP hD [0, 3, 4, 5, 6, 7] [1, 2, 8] [1, 2, 8] [0, 3, 4, 5, 6, 7] [3, 0, 1, 4, 5, 6, 7, 8, 2] 9 rfl rfl rfl rfl rfl rfl rfl rfl rfl hk1 hFc hP1 hD1
      clear hk1 hPc hDc hFc hP1 hD1 ht
      refine zz_i (v := pI (mtF (kd f).toInt (nN (mn f)) (cF40 cx f) (cF40 cy f) (kd g).toInt (nN (mn g)) (cF40 cx g) (cF40 cy g))) (rfl) ?_
      refine lv_if_eq (tgt := 27) hx hb dX11_isClash_22 rfl (fun c_4 => ?_) (fun c_4 => ?_)
      · have c_4 : ¬ (mtF (kd f).toInt (nN (mn f)) (cF40 cx f) (cF40 cy f) (kd g).toInt (nN (mn g)) (cF40 cx g) (cF40 cy g)) := zp_0 c_4
        refine lv_aload_n hx hb dX11_isClash_27 rfl (lv_at hl 0 rfl) ?_
        refine lv_iload_n hx hb dX11_isClash_28 rfl (lv_at hl 1 rfl) ?_
        refine lv_iload_n hx hb dX11_isClash_29 rfl (lv_at hl 2 rfl) ?_
        obtain ⟨hPc, hDc, hFc⟩ := zc_sub (wc := [(om k0 a I0 J0), (oa (a 1) cI 201 kd), (oa (a 11) cI 201 mn), (oa (a 12) cI 8040 cx), (oa (a 13) cI 8040 cy), (oa (a 32) cI 8 q_3)]) hP hD hS hA [0, 3, 4, 5, 6, 7] rfl rfl
        refine zcall (st1 := []) (va_runV (As := [.int (nI f), .int (nI g)]) (rest := []) ⟨hx, hb, hml, hown, hts⟩ (k_M_distance_n l dC dI cI cZ cF H.size k0 a I0 J0 f (nN (mn f)) g (nN (mn g)) kd mn cx cy q_3 (by first | with_reducible assumption | omega) (by first | with_reducible assumption | assumption) (by first | with_reducible assumption | omega) (by first | with_reducible assumption | assumption) (by first | with_reducible assumption | omega) (by first | with_reducible assumption | assumption) (by first | with_reducible assumption | omega) (by first | with_reducible assumption | assumption) (by first | with_reducible assumption | assumption) (he_ff) (he_gg)) (csV_226 hts rfl rfl ⟨Nat.le_of_ble_eq_true rfl, Nat.le_of_ble_eq_true rfl⟩) (zPV2 (q0 := 0) (ci := 9) hPc hDc hK hXN rfl rfl) rfl rfl hl.1 rfl (lv_room (Nat.le_of_ble_eq_true rfl)) dX11_isClash_30 ⟨Nat.le_of_ble_eq_true rfl, Nat.le_of_ble_eq_true rfl⟩) hS hFc hFc rfl (fun t H locs ht hB hk1 hS => ?_)
        obtain ⟨un, dd, S1, hmin, hub, hP1, hD1⟩ := hB
        rw [ht] at hP1
        obtain ⟨hP, hD⟩ := zk (W2 := [(om k0 a I0 (vp_updL (vp_updL J0 48 (jI ((un / Nat.gcd un dd : Nat) : Int))) 49 (jI ((dd / Nat.gcd un dd : Nat) : Int)))), (oa (a 5) cI 201 st), (oa (a 6) cZ 201 tn), (oa (a 1) cI 201 kd), (oa (a 11) cI 201 mn), (oa (a 12) cI 8040 cx), (oa (a 13) cI 8040 cy), (oa (a 32) cI 8 S1), (oa (a 3) cI 201 wd)]) hP hD [0, 3, 4, 5, 6, 7] [1, 2, 8] [1, 2, 8] [0, 3, 4, 5, 6, 7] [3, 0, 1, 4, 5, 6, 7, 8, 2] 9 rfl rfl rfl rfl rfl rfl rfl rfl rfl hk1 hFc hP1 hD1
        clear hk1 hPc hDc hFc hP1 hD1 ht
        have hge := Nat.gcd_pos_of_pos_right un (show 0 < dd by omega)
        have hq1 : un / Nat.gcd un dd ≤ un := Nat.div_le_self _ _
        have hq2 : dd / Nat.gcd un dd ≤ dd := Nat.div_le_self _ _
        have hcm := rd_gt (c := ((wd f).toInt + (wd g).toInt + 2 * gp9.toInt) * ((wd f).toInt + (wd g).toInt + 2 * gp9.toInt)) (u := un) (d := dd) hub.2.1
        obtain ⟨uq, huq⟩ : ∃ uq, uq = un / Nat.gcd un dd := ⟨_, rfl⟩
        obtain ⟨dq, hdq⟩ : ∃ dq, dq = dd / Nat.gcd un dd := ⟨_, rfl⟩
        rw [← huq, ← hdq] at hP hD hcm
        rw [← huq] at hq1
        rw [← hdq] at hq2
        have hwf9 := hwd f (by omega)
        have hwg9 := hwd g (by omega)
        have hcb := clB (c := ((wd f).toInt + (wd g).toInt + 2 * gp9.toInt)) (D := dq) (by omega) (by omega)
        refine lv_aload_n hx hb dX11_isClash_33 rfl (lv_at hl 0 rfl) ?_
        refine va_get (D := (dC, dI)) (ci := 9) (v := .ref (a 3)) (C := RX11) (T := TX11) (N := 55) hx hb hts inX11 hown hK hP 0 rfl rfl 3 (Nat.le_of_ble_eq_true rfl) (hts _ mw_1162) (fun _ h9 => h9) rfl dX11_isClash_34 ?_
        refine lv_iload_n hx hb dX11_isClash_37 rfl (lv_at hl 1 rfl) ?_
        have b9_5 : f < 201 := by omega
        refine z_iald hx hb hK hP 8 0 rfl rfl (e := f) rfl b9_5 (Nat.le_of_ble_eq_true rfl) dX11_isClash_38 ?_
        refine lv_aload_n hx hb dX11_isClash_39 rfl (lv_at hl 0 rfl) ?_
        refine va_get (D := (dC, dI)) (ci := 9) (v := .ref (a 3)) (C := RX11) (T := TX11) (N := 55) hx hb hts inX11 hown hK hP 0 rfl rfl 3 (Nat.le_of_ble_eq_true rfl) (hts _ mw_1162) (fun _ h9 => h9) rfl dX11_isClash_40 ?_
        refine lv_iload_n hx hb dX11_isClash_43 rfl (lv_at hl 2 rfl) ?_
        have b9_6 : g < 201 := by omega
        refine z_iald hx hb hK hP 8 0 rfl rfl (e := g) rfl b9_6 (Nat.le_of_ble_eq_true rfl) dX11_isClash_44 ?_
        refine lv_iadd hx hb dX11_isClash_45 ?_
        refine lv_i2l (v := ((wd f) + (wd g)).toInt64) hx hb dX11_isClash_46 (rfl) ?_
        refine lv_ldc2 hx hb hown (hts _ mw_1575) dX11_isClash_47 ?_
        refine lv_iload_n hx hb dX11_isClash_50 rfl (lv_at hl 3 rfl) ?_
        refine lv_i2l (v := gp9.toInt64) hx hb dX11_isClash_51 (rfl) ?_
        refine lv_lmul hx hb dX11_isClash_52 ?_
        refine lv_ladd hx hb dX11_isClash_53 ?_
        refine zz_l (v := jI ((wd f).toInt + (wd g).toInt + 2 * gp9.toInt)) (clL hwf9 hwg9 hgp) ?_
        refine lv_lstore (lv' := [(4, .long (jI ((wd f).toInt + (wd g).toInt + 2 * gp9.toInt))), (0, .ref k0), (1, .int (nI f)), (2, .int (nI g)), (3, .int gp9)]) hx hb dX11_isClash_54 hl (Nat.le_of_ble_eq_true rfl) rfl (fun ls hl => ?_)
        refine lv_ldc2 hx hb hown (hts _ mw_1685) dX11_isClash_56 ?_
        refine lv_aload_n hx hb dX11_isClash_59 rfl (lv_at hl 1 rfl) ?_
        refine va_get (D := (dC, dI)) (ci := 9) (v := .long (jI ((uq : Nat) : Int))) (C := RX11) (T := TX11) (N := 55) hx hb hts inX11 hown hK hP 0 rfl rfl 48 (Nat.le_of_ble_eq_true rfl) (hts _ mw_1207) (fun _ h9 => h9) rfl dX11_isClash_60 ?_
        refine lv_lmul hx hb dX11_isClash_63 ?_
        refine zz_l (v := jI (4 * ((uq : Nat) : Int))) (by rw [show (4 : Int64) = jI 4 from rfl]; exact jI_mul (by omega) (by omega) (by omega)) ?_
        refine lv_lload hx hb dX11_isClash_64 (lv_at hl 0 rfl) ?_
        refine lv_lload hx hb dX11_isClash_66 (lv_at hl 0 rfl) ?_
        refine lv_lmul hx hb dX11_isClash_68 ?_
        refine zz_l (v := jI (((wd f).toInt + (wd g).toInt + 2 * gp9.toInt) * ((wd f).toInt + (wd g).toInt + 2 * gp9.toInt))) (jI_mul (by omega) (by omega) (by omega)) ?_
        refine lv_aload_n hx hb dX11_isClash_69 rfl (lv_at hl 1 rfl) ?_
        refine va_get (D := (dC, dI)) (ci := 9) (v := .long (jI ((dq : Nat) : Int))) (C := RX11) (T := TX11) (N := 55) hx hb hts inX11 hown hK hP 0 rfl rfl 49 (Nat.le_of_ble_eq_true rfl) (hts _ mw_1208) (fun _ h9 => h9) rfl dX11_isClash_70 ?_
        refine lv_lmul hx hb dX11_isClash_73 ?_
        refine zz_l (v := jI (((wd f).toInt + (wd g).toInt + 2 * gp9.toInt) * ((wd f).toInt + (wd g).toInt + 2 * gp9.toInt) * ((dq : Nat) : Int))) (jI_mul (by omega) (by omega) (by omega)) ?_
        refine W.lcmp hx hb dX11_isClash_74 ?_
        refine lv_if_ge (tgt := 82) hx hb dX11_isClash_75 rfl (fun c_7 => ?_) (fun c_7 => ?_)
        · have c_7 : (((wd f).toInt + (wd g).toInt + 2 * gp9.toInt) * ((wd f).toInt + (wd g).toInt + 2 * gp9.toInt) * ((dq : Nat) : Int)) ≤ (4 * ((uq : Nat) : Int)) := zl_ge (jI_toInt (by omega)) (jI_toInt (by omega)) c_7
          refine lv_iconst (v := 0) hx hb dX11_isClash_82 rfl ?_
          obtain ⟨hP9, hD9⟩ := zq_sub (wc := [(om k0 a I0 (vp_updL (vp_updL J0 48 (jI ((uq : Nat) : Int))) 49 (jI ((dq : Nat) : Int)))), (oa (a 5) cI 201 st), (oa (a 6) cZ 201 tn), (oa (a 1) cI 201 kd), (oa (a 11) cI 201 mn), (oa (a 12) cI 8040 cx), (oa (a 13) cI 8040 cy), (oa (a 32) cI 8 S1), (oa (a 3) cI 201 wd)]) hP hD [0, 1, 2, 3, 4, 5, 6, 7, 8] rfl rfl
          rw [hQ9]
          exact W.zret (ty := .boolean) (v := 0) hx hb hr (rfl) (fun t ht hW => ⟨⟨congrArg (fun z => Outcome.returned (some (Value.int z))) (show (0 : Int32) = pI (clP ft st tn kd mn cx cy wd gp9 f g) from (zp_f (by first | exact ⟨by assumption, by assumption, by assumption, fun u9 d9 h9 hI9 => im_gt hmin hI9 (by omega) (by omega) (hcm.mp (by first | with_reducible assumption | assumption))⟩ | exact fun h => absurd (hcm.mpr (h.2.2.2 un dd hub.2.1 hmin)) (by omega))).symm), (jI ((uq : Nat) : Int)), (jI ((dq : Nat) : Int)), S1, by rw [ht]; exact hP9, hD9⟩, hS.F ht⟩) hS.2.2 dX11_isClash_83
        · have c_7 : (4 * ((uq : Nat) : Int)) < (((wd f).toInt + (wd g).toInt + 2 * gp9.toInt) * ((wd f).toInt + (wd g).toInt + 2 * gp9.toInt) * ((dq : Nat) : Int)) := zl_nge (jI_toInt (by omega)) (jI_toInt (by omega)) c_7
          refine lv_iconst (v := 1) hx hb dX11_isClash_78 rfl ?_
          refine lv_goto (tgt := 83) hx hb dX11_isClash_79 rfl ?_
          obtain ⟨hP9, hD9⟩ := zq_sub (wc := [(om k0 a I0 (vp_updL (vp_updL J0 48 (jI ((uq : Nat) : Int))) 49 (jI ((dq : Nat) : Int)))), (oa (a 5) cI 201 st), (oa (a 6) cZ 201 tn), (oa (a 1) cI 201 kd), (oa (a 11) cI 201 mn), (oa (a 12) cI 8040 cx), (oa (a 13) cI 8040 cy), (oa (a 32) cI 8 S1), (oa (a 3) cI 201 wd)]) hP hD [0, 1, 2, 3, 4, 5, 6, 7, 8] rfl rfl
          rw [hQ9]
          exact W.zret (ty := .boolean) (v := 1) hx hb hr (rfl) (fun t ht hW => ⟨⟨congrArg (fun z => Outcome.returned (some (Value.int z))) (show (1 : Int32) = pI (clP ft st tn kd mn cx cy wd gp9 f g) from (zp_t (by first | exact ⟨by assumption, by assumption, by assumption, fun u9 d9 h9 hI9 => im_gt hmin hI9 (by omega) (by omega) (hcm.mp (by first | with_reducible assumption | assumption))⟩ | exact fun h => absurd (hcm.mpr (h.2.2.2 un dd hub.2.1 hmin)) (by omega))).symm), (jI ((uq : Nat) : Int)), (jI ((dq : Nat) : Int)), S1, by rw [ht]; exact hP9, hD9⟩, hS.F ht⟩) hS.2.2 dX11_isClash_83
      · have c_4 : mtF (kd f).toInt (nN (mn f)) (cF40 cx f) (cF40 cy f) (kd g).toInt (nN (mn g)) (cF40 cx g) (cF40 cy g) := zp_1 c_4
        refine lv_iconst (v := 0) hx hb dX11_isClash_25 rfl ?_
        obtain ⟨hP9, hD9⟩ := zq_sub (wc := [(om k0 a I0 J0), (oa (a 5) cI 201 st), (oa (a 6) cZ 201 tn), (oa (a 1) cI 201 kd), (oa (a 11) cI 201 mn), (oa (a 12) cI 8040 cx), (oa (a 13) cI 8040 cy), (oa (a 32) cI 8 q_3), (oa (a 3) cI 201 wd)]) hP hD [0, 1, 2, 3, 4, 5, 6, 7, 8] rfl rfl
        rw [hQ9]
        exact W.zret (ty := .boolean) (v := 0) hx hb hr (rfl) (fun t ht hW => ⟨⟨congrArg (fun z => Outcome.returned (some (Value.int z))) (show (0 : Int32) = pI (clP ft st tn kd mn cx cy wd gp9 f g) from (zp_f (by first | exact fun h => absurd h.1 (by first | with_reducible assumption | assumption) | exact fun h => absurd h.2.1 (by first | with_reducible assumption | assumption) | exact fun h => absurd (by first | with_reducible assumption | assumption) h.2.2.1)).symm), (J0 48), (J0 49), q_3, by rw [ht]; exact hP9, hD9⟩, hS.F ht⟩) hS.2.2 dX11_isClash_26
set_option maxHeartbeats 4000000 in
set_option maxRecDepth 100000 in
theorem k_M_clashes_r (l : Launch) (dC : Nat → ClassId) (dI : Nat → Nat → Nat) (cI cZ cF : ClassId) (sz : Nat) (k0 : Nat) (a : Nat → Nat) (I0 : Nat → Int32) (J0 : Nat → Int64) (gp9 : Int32) (hgp : ¬ (0 ≤ gp9.toInt ∧ gp9.toInt ≤ 200)) : Met l yX11_clashes (.code yX11_clashes cX11_clashes 5 (some .int) :: ws0) ({ frames := 0, cells := 0, slots := 0, locals := 0 } : Room) (va_Pc [.ref k0, .int gp9] (zPre (dC, dI) classes (zTy cI cZ cF) [(om k0 a I0 J0)] sz zXN)) (zQ (some (.int (-1))) (fun t => va_P (dC, dI) classes [(om k0 a I0 J0)] t.heap ∧ va_D (va_A [(om k0 a I0 J0)] sz) [(om k0 a I0 J0)]) (va_A [(om k0 a I0 J0)] sz)) 0 0 (va_A [(om k0 a I0 J0)] sz) := by
  refine Met.ofW (cc := cX11_clashes) (maxL := 5) (ret := (some .int)) rfl rfl ?_
  intro p e s m args below meth c s₁ B hml hv
  obtain ⟨rfl, hsz, hP, hK, hD0, hXN⟩ := hv
  have hx := B.exec
  have hb := B.bytes
  have hr := B.returns
  have hts0 := atoms_spec (ws := .code yX11_clashes cX11_clashes 5 (some .int) :: ws0) B.pre
  have hts : ∀ w9 ∈ ws0, w9.before ([.ref k0, .int gp9] : List Value).toArray s = true := fun w9 h => hts0 w9 (List.mem_cons_of_mem _ h)
  have hown : s.vm.findClass "ScaleShopModel" = some m.cls := findClass_of_methodNamed B.named
  have hlocks := B.notSynchronized
  subst hsz
  have hD := hD0.self (sz := s.heap.size)
  clear hD0
  generalize hAe : va_A [(om k0 a I0 J0)] s.heap.size = A at hD ⊢
  have hA : ∀ q : Nat, s.heap.size ≤ q → A q := fun q h => by rw [← hAe]; exact Or.inr h
  clear hAe
  have hS : va_S A s.heap s.heap [] := va_S.rf
  have hP : va_P (dC, dI) classes [(om k0 a I0 J0)] s.heap := hP
  obtain ⟨Q9, hQ9⟩ : ∃ Q9 : State → Prop, Q9 = MQ below (zQ (some (.int (-1))) (fun t => va_P (dC, dI) classes [(om k0 a I0 J0)] t.heap ∧ va_D A [(om k0 a I0 J0)]) A) ([.ref k0, .int gp9] : List Value).toArray s 0 0 A := ⟨_, rfl⟩
  rw [← hQ9]
  have hl := lv_entry ([.ref k0, .int gp9]) (n := 5) (Nat.le_of_ble_eq_true rfl)
  rw [lg_entry_eq]
  generalize (lg_sl ([.ref k0, .int gp9]) ++ List.replicate (5 - (lg_sl ([.ref k0, .int gp9])).length) Slot.unset).toArray = ls at hl ⊢
  have hl : lv_has ls 5 [(0, .ref k0), (1, .int gp9)] := hl
  refine lv_iload_n hx hb dX11_clashes_0 rfl (lv_at hl 1 rfl) ?_
  refine lv_if_lt (tgt := 11) hx hb dX11_clashes_1 rfl (fun c_1 => ?_) (fun c_1 => ?_)
  · have c_1 : gp9.toInt < 0 := zc_lt rfl rfl c_1
    refine lv_iconst (v := (-1)) hx hb dX11_clashes_11 rfl ?_
    obtain ⟨hP9, hD9⟩ := zq_sub (wc := [(om k0 a I0 J0)]) hP hD [0] rfl rfl
    rw [hQ9]
    exact W.iret (v := (-1)) hx hb hr (fun t ht hW => ⟨⟨rfl, by rw [ht]; exact hP9, hD9⟩, hS.F ht⟩) hS.2.2 dX11_clashes_12
  · have c_1 : 0 ≤ gp9.toInt := zc_nlt rfl rfl c_1
    refine lv_iload_n hx hb dX11_clashes_4 rfl (lv_at hl 1 rfl) ?_
    refine lv_sipush (v := 200) hx hb dX11_clashes_5 rfl ?_
    refine lv_icmp_le (tgt := 13) hx hb dX11_clashes_8 rfl (fun c_2 => ?_) (fun c_2 => ?_)
    · have c_2 : gp9.toInt ≤ 200 := zc_le rfl rfl c_2
      exfalso; omega
    · have c_2 : 200 < gp9.toInt := zc_nle rfl rfl c_2
      refine lv_iconst (v := (-1)) hx hb dX11_clashes_11 rfl ?_
      obtain ⟨hP9, hD9⟩ := zq_sub (wc := [(om k0 a I0 J0)]) hP hD [0] rfl rfl
      rw [hQ9]
      exact W.iret (v := (-1)) hx hb hr (fun t ht hW => ⟨⟨rfl, by rw [ht]; exact hP9, hD9⟩, hS.F ht⟩) hS.2.2 dX11_clashes_12
set_option maxHeartbeats 4000000 in
set_option maxRecDepth 100000 in
theorem k_M_clashes_y (l : Launch) (dC : Nat → ClassId) (dI : Nat → Nat → Nat) (cI cZ cF : ClassId) (sz : Nat) (k0 : Nat) (a : Nat → Nat) (I0 : Nat → Int32) (J0 : Nat → Int64) (ft : Nat) (gp9 : Int32) (st : Nat → Int32) (tn : Nat → Int32) (kd : Nat → Int32) (mn : Nat → Int32) (cx : Nat → Int32) (cy : Nat → Int32) (S0 : Nat → Int32) (wd : Nat → Int32) (hft : I0 0 = nI ft) (h200 : ft ≤ 200) (hwf : ∀ q, lvF ft st tn q → wfM mn cx cy q) (hef : ∀ q, lvF ft st tn q → 1 ≤ eO (kd q).toInt (nN (mn q))) (hwd : ∀ q, q < ft → 0 ≤ (wd q).toInt ∧ (wd q).toInt ≤ 100) (hgp : 0 ≤ gp9.toInt ∧ gp9.toInt ≤ 200) : Met l yX11_clashes (.code yX11_clashes cX11_clashes 5 (some .int) :: ws0) ({ frames := 6, cells := 0, slots := 0, locals := 154 } : Room) (va_Pc [.ref k0, .int gp9] (zPre (dC, dI) classes (zTy cI cZ cF) [(om k0 a I0 J0), (oa (a 5) cI 201 st), (oa (a 6) cZ 201 tn), (oa (a 1) cI 201 kd), (oa (a 11) cI 201 mn), (oa (a 12) cI 8040 cx), (oa (a 13) cI 8040 cy), (oa (a 32) cI 8 S0), (oa (a 3) cI 201 wd)] sz zXN)) (zQ (some (.int (nI (clT (clP ft st tn kd mn cx cy wd gp9) ft ft)))) (fun t => ∃ (u9 : Int64), ∃ (d9 : Int64), ∃ (S1 : Nat → Int32), va_P (dC, dI) classes [(om k0 a I0 (vp_updL (vp_updL J0 48 u9) 49 d9)), (oa (a 5) cI 201 st), (oa (a 6) cZ 201 tn), (oa (a 1) cI 201 kd), (oa (a 11) cI 201 mn), (oa (a 12) cI 8040 cx), (oa (a 13) cI 8040 cy), (oa (a 32) cI 8 S1), (oa (a 3) cI 201 wd)] t.heap ∧ va_D (va_A [(om k0 a I0 J0), (oa (a 5) cI 201 st), (oa (a 6) cZ 201 tn), (oa (a 1) cI 201 kd), (oa (a 11) cI 201 mn), (oa (a 12) cI 8040 cx), (oa (a 13) cI 8040 cy), (oa (a 32) cI 8 S0), (oa (a 3) cI 201 wd)] sz) [(om k0 a I0 (vp_updL (vp_updL J0 48 u9) 49 d9)), (oa (a 5) cI 201 st), (oa (a 6) cZ 201 tn), (oa (a 1) cI 201 kd), (oa (a 11) cI 201 mn), (oa (a 12) cI 8040 cx), (oa (a 13) cI 8040 cy), (oa (a 32) cI 8 S1), (oa (a 3) cI 201 wd)]) (va_A [(om k0 a I0 J0), (oa (a 5) cI 201 st), (oa (a 6) cZ 201 tn), (oa (a 1) cI 201 kd), (oa (a 11) cI 201 mn), (oa (a 12) cI 8040 cx), (oa (a 13) cI 8040 cy), (oa (a 32) cI 8 S0), (oa (a 3) cI 201 wd)] sz)) 0 0 (va_A [(om k0 a I0 J0), (oa (a 5) cI 201 st), (oa (a 6) cZ 201 tn), (oa (a 1) cI 201 kd), (oa (a 11) cI 201 mn), (oa (a 12) cI 8040 cx), (oa (a 13) cI 8040 cy), (oa (a 32) cI 8 S0), (oa (a 3) cI 201 wd)] sz) := by
  refine Met.ofW (cc := cX11_clashes) (maxL := 5) (ret := (some .int)) rfl rfl ?_
  intro p e s m args below meth c s₁ B hml hv
  obtain ⟨rfl, hsz, hP, hK, hD0, hXN⟩ := hv
  have hx := B.exec
  have hb := B.bytes
  have hr := B.returns
  have hts0 := atoms_spec (ws := .code yX11_clashes cX11_clashes 5 (some .int) :: ws0) B.pre
  have hts : ∀ w9 ∈ ws0, w9.before ([.ref k0, .int gp9] : List Value).toArray s = true := fun w9 h => hts0 w9 (List.mem_cons_of_mem _ h)
  have hown : s.vm.findClass "ScaleShopModel" = some m.cls := findClass_of_methodNamed B.named
  have hlocks := B.notSynchronized
  subst hsz
  have hD := hD0.self (sz := s.heap.size)
  clear hD0
  generalize hAe : va_A [(om k0 a I0 J0), (oa (a 5) cI 201 st), (oa (a 6) cZ 201 tn), (oa (a 1) cI 201 kd), (oa (a 11) cI 201 mn), (oa (a 12) cI 8040 cx), (oa (a 13) cI 8040 cy), (oa (a 32) cI 8 S0), (oa (a 3) cI 201 wd)] s.heap.size = A at hD ⊢
  have hA : ∀ q : Nat, s.heap.size ≤ q → A q := fun q h => by rw [← hAe]; exact Or.inr h
  clear hAe
  have hS : va_S A s.heap s.heap [] := va_S.rf
  have hP : va_P (dC, dI) classes [(om k0 a I0 J0), (oa (a 5) cI 201 st), (oa (a 6) cZ 201 tn), (oa (a 1) cI 201 kd), (oa (a 11) cI 201 mn), (oa (a 12) cI 8040 cx), (oa (a 13) cI 8040 cy), (oa (a 32) cI 8 S0), (oa (a 3) cI 201 wd)] s.heap := hP
  obtain ⟨Q9, hQ9⟩ : ∃ Q9 : State → Prop, Q9 = MQ below (zQ (some (.int (nI (clT (clP ft st tn kd mn cx cy wd gp9) ft ft)))) (fun t => ∃ (u9 : Int64), ∃ (d9 : Int64), ∃ (S1 : Nat → Int32), va_P (dC, dI) classes [(om k0 a I0 (vp_updL (vp_updL J0 48 u9) 49 d9)), (oa (a 5) cI 201 st), (oa (a 6) cZ 201 tn), (oa (a 1) cI 201 kd), (oa (a 11) cI 201 mn), (oa (a 12) cI 8040 cx), (oa (a 13) cI 8040 cy), (oa (a 32) cI 8 S1), (oa (a 3) cI 201 wd)] t.heap ∧ va_D A [(om k0 a I0 (vp_updL (vp_updL J0 48 u9) 49 d9)), (oa (a 5) cI 201 st), (oa (a 6) cZ 201 tn), (oa (a 1) cI 201 kd), (oa (a 11) cI 201 mn), (oa (a 12) cI 8040 cx), (oa (a 13) cI 8040 cy), (oa (a 32) cI 8 S1), (oa (a 3) cI 201 wd)]) A) ([.ref k0, .int gp9] : List Value).toArray s 0 0 A := ⟨_, rfl⟩
  rw [← hQ9]
  have hl := lv_entry ([.ref k0, .int gp9]) (n := 5) (Nat.le_of_ble_eq_true rfl)
  rw [lg_entry_eq]
  generalize (lg_sl ([.ref k0, .int gp9]) ++ List.replicate (5 - (lg_sl ([.ref k0, .int gp9])).length) Slot.unset).toArray = ls at hl ⊢
  have hl : lv_has ls 5 [(0, .ref k0), (1, .int gp9)] := hl
  refine lv_iload_n hx hb dX11_clashes_0 rfl (lv_at hl 1 rfl) ?_
  refine lv_if_lt (tgt := 11) hx hb dX11_clashes_1 rfl (fun c_1 => ?_) (fun c_1 => ?_)
  · have c_1 : gp9.toInt < 0 := zc_lt rfl rfl c_1
    exfalso; omega
  · have c_1 : 0 ≤ gp9.toInt := zc_nlt rfl rfl c_1
    refine lv_iload_n hx hb dX11_clashes_4 rfl (lv_at hl 1 rfl) ?_
    refine lv_sipush (v := 200) hx hb dX11_clashes_5 rfl ?_
    refine lv_icmp_le (tgt := 13) hx hb dX11_clashes_8 rfl (fun c_2 => ?_) (fun c_2 => ?_)
    · have c_2 : gp9.toInt ≤ 200 := zc_le rfl rfl c_2
      refine lv_iconst (v := 0) hx hb dX11_clashes_13 rfl ?_
      refine lv_istore_n (lv' := [(2, .int 0), (0, .ref k0), (1, .int gp9)]) hx hb dX11_clashes_14 rfl hl (Nat.le_of_ble_eq_true rfl) rfl (fun ls hl => ?_)
      refine lv_iconst (v := 0) hx hb dX11_clashes_15 rfl ?_
      refine lv_istore_n (lv' := [(3, .int 0), (2, .int 0), (0, .ref k0), (1, .int gp9)]) hx hb dX11_clashes_16 rfl hl (Nat.le_of_ble_eq_true rfl) rfl (fun ls hl => ?_)
      have hl_17 : ∀ (n9 : Nat) (a9 : Nat) (u9 : Int64) (d9 : Int64) (S1 : Nat → Int32) (H : Heap) (locs : List Loc) (ls : Array Slot), ft - a9 < n9 → (a9 ≤ ft) → va_P (dC, dI) classes [(om k0 a I0 (vp_updL (vp_updL J0 48 u9) 49 d9)), (oa (a 5) cI 201 st), (oa (a 6) cZ 201 tn), (oa (a 1) cI 201 kd), (oa (a 11) cI 201 mn), (oa (a 12) cI 8040 cx), (oa (a 13) cI 8040 cy), (oa (a 32) cI 8 S1), (oa (a 3) cI 201 wd)] H → va_D A [(om k0 a I0 (vp_updL (vp_updL J0 48 u9) 49 d9)), (oa (a 5) cI 201 st), (oa (a 6) cZ 201 tn), (oa (a 1) cI 201 kd), (oa (a 11) cI 201 mn), (oa (a 12) cI 8040 cx), (oa (a 13) cI 8040 cy), (oa (a 32) cI 8 S1), (oa (a 3) cI 201 wd)] → va_S A s.heap H locs → lv_has ls 5 [(3, .int (nI a9)), (2, .int (nI (clT (clP ft st tn kd mn cx cy wd gp9) ft a9))), (0, .ref k0), (1, .int gp9)] → W p l e ((headSpec (.code yX11_clashes cX11_clashes 5 (some .int) :: ws0) ({ frames := 6, cells := 0, slots := 0, locals := 154 } : Room)).room) s m ([.ref k0, .int gp9] : List Value).toArray below meth c H locs 0 0 Q9 (F0 m 17 ls []) := by
        intro n9
        induction n9 with
        | zero => intro a9 u9 d9 S1 H locs ls hm; exact absurd hm (Nat.not_lt_zero _)
        | succ n9 ih_17 =>
          intro a9 u9 d9 S1 H locs ls hm ha9 hP hD hS hl
          have hct := clT_200 (clP ft st tn kd mn cx cy wd gp9) h200 ha9
          refine lv_iload_n hx hb dX11_clashes_17 rfl (lv_at hl 0 rfl) ?_
          refine lv_aload_n hx hb dX11_clashes_18 rfl (lv_at hl 2 rfl) ?_
          refine va_get (D := (dC, dI)) (ci := 9) (v := .int (I0 0)) (C := RX11) (T := TX11) (N := 55) hx hb hts inX11 hown hK hP 0 rfl rfl 0 (Nat.le_of_ble_eq_true rfl) (hts _ mw_1159) (fun _ h9 => h9) rfl dX11_clashes_19 ?_
          refine zz_i (v := nI ft) (hft) ?_
          have b9_4 : a9 < 2147483648 := by omega
          have b9_5 : ft < 2147483648 := by omega
          refine lv_icmp_ge (tgt := 70) hx hb dX11_clashes_22 rfl (fun c_3 => ?_) (fun c_3 => ?_)
          · have c_3 : ((ft : Nat) : Int) ≤ ((a9 : Nat) : Int) := zc_le (nI_toInt b9_5) (nI_toInt b9_4) c_3
            refine lv_iload_n hx hb dX11_clashes_70 rfl (lv_at hl 1 rfl) ?_
            obtain ⟨hP9, hD9⟩ := zq_sub (wc := [(om k0 a I0 (vp_updL (vp_updL J0 48 u9) 49 d9)), (oa (a 5) cI 201 st), (oa (a 6) cZ 201 tn), (oa (a 1) cI 201 kd), (oa (a 11) cI 201 mn), (oa (a 12) cI 8040 cx), (oa (a 13) cI 8040 cy), (oa (a 32) cI 8 S1), (oa (a 3) cI 201 wd)]) hP hD [0, 1, 2, 3, 4, 5, 6, 7, 8] rfl rfl
            rw [hQ9]
            exact W.iret (v := nI (clT (clP ft st tn kd mn cx cy wd gp9) ft a9)) hx hb hr (fun t ht hW => ⟨⟨congrArg (fun z => Outcome.returned (some (Value.int z))) (show (nI (clT (clP ft st tn kd mn cx cy wd gp9) ft a9) : Int32) = nI (clT (clP ft st tn kd mn cx cy wd gp9) ft ft) from zn_eq (by rw [show a9 = ft by omega])), u9, d9, S1, by rw [ht]; exact hP9, hD9⟩, hS.F ht⟩) hS.2.2 dX11_clashes_71
          · have c_3 : ((a9 : Nat) : Int) < ((ft : Nat) : Int) := zc_nle (nI_toInt b9_5) (nI_toInt b9_4) c_3
            refine lv_iload_n hx hb dX11_clashes_25 rfl (lv_at hl 0 rfl) ?_
            refine lv_iconst (v := 1) hx hb dX11_clashes_26 rfl ?_
            refine lv_iadd hx hb dX11_clashes_27 ?_
            refine zz_i (v := nI (a9 + 1)) (nI_add a9 1) ?_
            refine lv_istore (lv' := [(4, .int (nI (a9 + 1))), (3, .int (nI a9)), (2, .int (nI (clT (clP ft st tn kd mn cx cy wd gp9) ft a9))), (0, .ref k0), (1, .int gp9)]) hx hb dX11_clashes_28 hl (Nat.le_of_ble_eq_true rfl) rfl (fun ls hl => ?_)
            have hl_30 : ∀ (n9 : Nat) (b9 : Nat) (u9 : Int64) (d9 : Int64) (S1 : Nat → Int32) (H : Heap) (locs : List Loc) (ls : Array Slot), ft - b9 < n9 → (a9 < b9 ∧ b9 ≤ ft) → va_P (dC, dI) classes [(om k0 a I0 (vp_updL (vp_updL J0 48 u9) 49 d9)), (oa (a 5) cI 201 st), (oa (a 6) cZ 201 tn), (oa (a 1) cI 201 kd), (oa (a 11) cI 201 mn), (oa (a 12) cI 8040 cx), (oa (a 13) cI 8040 cy), (oa (a 32) cI 8 S1), (oa (a 3) cI 201 wd)] H → va_D A [(om k0 a I0 (vp_updL (vp_updL J0 48 u9) 49 d9)), (oa (a 5) cI 201 st), (oa (a 6) cZ 201 tn), (oa (a 1) cI 201 kd), (oa (a 11) cI 201 mn), (oa (a 12) cI 8040 cx), (oa (a 13) cI 8040 cy), (oa (a 32) cI 8 S1), (oa (a 3) cI 201 wd)] → va_S A s.heap H locs → lv_has ls 5 [(4, .int (nI b9)), (3, .int (nI a9)), (2, .int (nI (clT (clP ft st tn kd mn cx cy wd gp9) ft a9 + cntP (fun b => a9 < b ∧ clP ft st tn kd mn cx cy wd gp9 a9 b) b9))), (0, .ref k0), (1, .int gp9)] → W p l e ((headSpec (.code yX11_clashes cX11_clashes 5 (some .int) :: ws0) ({ frames := 6, cells := 0, slots := 0, locals := 154 } : Room)).room) s m ([.ref k0, .int gp9] : List Value).toArray below meth c H locs 0 0 Q9 (F0 m 30 ls []) := by
              intro n9
              induction n9 with
              | zero => intro b9 u9 d9 S1 H locs ls hm; exact absurd hm (Nat.not_lt_zero _)
              | succ n9 ih_30 =>
                intro b9 u9 d9 S1 H locs ls hm hb9 hP hD hS hl
                have hcn := cntP_b (fun b => a9 < b ∧ clP ft st tn kd mn cx cy wd gp9 a9 b) b9
                refine lv_iload hx hb dX11_clashes_30 (lv_at hl 0 rfl) ?_
                refine lv_aload_n hx hb dX11_clashes_32 rfl (lv_at hl 3 rfl) ?_
                refine va_get (D := (dC, dI)) (ci := 9) (v := .int (I0 0)) (C := RX11) (T := TX11) (N := 55) hx hb hts inX11 hown hK hP 0 rfl rfl 0 (Nat.le_of_ble_eq_true rfl) (hts _ mw_1159) (fun _ h9 => h9) rfl dX11_clashes_33 ?_
                refine zz_i (v := nI ft) (hft) ?_
                have b9_7 : b9 < 2147483648 := by omega
                refine lv_icmp_ge (tgt := 64) hx hb dX11_clashes_36 rfl (fun c_6 => ?_) (fun c_6 => ?_)
                · have c_6 : ((ft : Nat) : Int) ≤ ((b9 : Nat) : Int) := zc_le (nI_toInt b9_5) (nI_toInt b9_7) c_6
                  refine lv_iinc (v := nI (a9 + 1)) (lv' := [(3, .int (nI (a9 + 1))), (4, .int (nI b9)), (2, .int (nI (clT (clP ft st tn kd mn cx cy wd gp9) ft a9 + cntP (fun b => a9 < b ∧ clP ft st tn kd mn cx cy wd gp9 a9 b) b9))), (0, .ref k0), (1, .int gp9)]) hx hb dX11_clashes_64 hl (k := 1) rfl (nI_add a9 1) (Nat.le_of_ble_eq_true rfl) rfl (fun ls hl => ?_)
                  refine lv_goto (tgt := 17) hx hb dX11_clashes_67 rfl ?_
                  have hl9 := lv_sub hl [0, 2, 3, 4] rfl
                  have e9_2 : nI (clT (clP ft st tn kd mn cx cy wd gp9) ft (a9 + 1)) = (nI (clT (clP ft st tn kd mn cx cy wd gp9) ft a9 + cntP (fun b => a9 < b ∧ clP ft st tn kd mn cx cy wd gp9 a9 b) b9) : Int32) := by exact zn_eq (by rw [show b9 = ft by omega]; rfl)
                  have hl9 : lv_has ls 5 [(3, .int (nI (a9 + 1))), (2, .int (nI (clT (clP ft st tn kd mn cx cy wd gp9) ft (a9 + 1)))), (0, .ref k0), (1, .int gp9)] := by rw [e9_2]; exact hl9
                  exact ih_17 (a9 + 1) u9 d9 S1 H locs ls (by first | with_reducible assumption | omega) (by first | with_reducible assumption | omega) hP hD hS hl9
                · have c_6 : ((b9 : Nat) : Int) < ((ft : Nat) : Int) := zc_nle (nI_toInt b9_5) (nI_toInt b9_7) c_6
                  refine lv_iload_n hx hb dX11_clashes_39 rfl (lv_at hl 2 rfl) ?_
                  refine lv_aload_n hx hb dX11_clashes_40 rfl (lv_at hl 3 rfl) ?_
                  refine lv_iload_n hx hb dX11_clashes_41 rfl (lv_at hl 1 rfl) ?_
                  refine lv_iload hx hb dX11_clashes_42 (lv_at hl 0 rfl) ?_
                  refine lv_iload_n hx hb dX11_clashes_44 rfl (lv_at hl 4 rfl) ?_
                  obtain ⟨hPc, hDc, hFc⟩ := zc_sub (wc := [(om k0 a I0 (vp_updL (vp_updL J0 48 u9) 49 d9)), (oa (a 5) cI 201 st), (oa (a 6) cZ 201 tn), (oa (a 1) cI 201 kd), (oa (a 11) cI 201 mn), (oa (a 12) cI 8040 cx), (oa (a 13) cI 8040 cy), (oa (a 32) cI 8 S1), (oa (a 3) cI 201 wd)]) hP hD hS hA [0, 1, 2, 3, 4, 5, 6, 7, 8] rfl rfl
                  refine zcall (st1 := [.int (pI (clP ft st tn kd mn cx cy wd gp9 a9 b9)), .int (nI (clT (clP ft st tn kd mn cx cy wd gp9) ft a9 + cntP (fun b => a9 < b ∧ clP ft st tn kd mn cx cy wd gp9 a9 b) b9))]) (va_runV (As := [.int (nI a9), .int (nI b9), .int gp9]) (rest := [.int (nI (clT (clP ft st tn kd mn cx cy wd gp9) ft a9 + cntP (fun b => a9 < b ∧ clP ft st tn kd mn cx cy wd gp9 a9 b) b9))]) ⟨hx, hb, hml, hown, hts⟩ (k_M_isClash l dC dI cI cZ cF H.size k0 a I0 (vp_updL (vp_updL J0 48 u9) 49 d9) a9 b9 ft gp9 st tn kd mn cx cy S1 wd (by first | with_reducible assumption | assumption) (by first | with_reducible assumption | omega) (by first | with_reducible assumption | assumption) (by first | with_reducible assumption | assumption) (by first | with_reducible assumption | assumption) (by first | with_reducible assumption | assumption) (by first | with_reducible assumption | omega) (by first | with_reducible assumption | omega)) (csV_230 hts rfl rfl ⟨Nat.le_of_ble_eq_true rfl, Nat.le_of_ble_eq_true rfl⟩) (zPV2 (q0 := 0) (ci := 9) hPc hDc hK hXN rfl rfl) rfl rfl hl.1 rfl (lv_room (Nat.le_of_ble_eq_true rfl)) dX11_clashes_45 ⟨Nat.le_of_ble_eq_true rfl, Nat.le_of_ble_eq_true rfl⟩) hS hFc hFc rfl (fun t H locs ht hB hk1 hS => ?_)
                  obtain ⟨q_8, q_9, q_10, hP1, hD1⟩ := hB
                  rw [ht] at hP1
                  obtain ⟨hP, hD⟩ := zk (W2 := [(om k0 a I0 (vp_updL (vp_updL J0 48 q_8) 49 q_9)), (oa (a 5) cI 201 st), (oa (a 6) cZ 201 tn), (oa (a 1) cI 201 kd), (oa (a 11) cI 201 mn), (oa (a 12) cI 8040 cx), (oa (a 13) cI 8040 cy), (oa (a 32) cI 8 q_10), (oa (a 3) cI 201 wd)]) hP hD [0, 1, 2, 3, 4, 5, 6, 7, 8] [] [] [0, 1, 2, 3, 4, 5, 6, 7, 8] [0, 1, 2, 3, 4, 5, 6, 7, 8] 9 rfl rfl rfl rfl rfl rfl rfl rfl rfl hk1 hFc hP1 hD1
                  clear hk1 hPc hDc hFc hP1 hD1 ht
                  refine lv_if_eq (tgt := 55) hx hb dX11_clashes_48 rfl (fun c_11 => ?_) (fun c_11 => ?_)
                  · have c_11 : ¬ (clP ft st tn kd mn cx cy wd gp9 a9 b9) := zp_0 c_11
                    refine lv_iconst (v := 0) hx hb dX11_clashes_55 rfl ?_
                    refine lv_iadd hx hb dX11_clashes_56 ?_
                    refine zz_i (v := nI ((clT (clP ft st tn kd mn cx cy wd gp9) ft a9 + cntP (fun b => a9 < b ∧ clP ft st tn kd mn cx cy wd gp9 a9 b) b9) + 0)) (nI_add (clT (clP ft st tn kd mn cx cy wd gp9) ft a9 + cntP (fun b => a9 < b ∧ clP ft st tn kd mn cx cy wd gp9 a9 b) b9) 0) ?_
                    refine lv_istore_n (lv' := [(2, .int (nI ((clT (clP ft st tn kd mn cx cy wd gp9) ft a9 + cntP (fun b => a9 < b ∧ clP ft st tn kd mn cx cy wd gp9 a9 b) b9) + 0))), (4, .int (nI b9)), (3, .int (nI a9)), (0, .ref k0), (1, .int gp9)]) hx hb dX11_clashes_57 rfl hl (Nat.le_of_ble_eq_true rfl) rfl (fun ls hl => ?_)
                    refine lv_iinc (v := nI (b9 + 1)) (lv' := [(4, .int (nI (b9 + 1))), (2, .int (nI ((clT (clP ft st tn kd mn cx cy wd gp9) ft a9 + cntP (fun b => a9 < b ∧ clP ft st tn kd mn cx cy wd gp9 a9 b) b9) + 0))), (3, .int (nI a9)), (0, .ref k0), (1, .int gp9)]) hx hb dX11_clashes_58 hl (k := 1) rfl (nI_add b9 1) (Nat.le_of_ble_eq_true rfl) rfl (fun ls hl => ?_)
                    refine lv_goto (tgt := 30) hx hb dX11_clashes_61 rfl ?_
                    have hl9 := lv_sub hl [0, 2, 1, 3, 4] rfl
                    have e9_2 : nI (clT (clP ft st tn kd mn cx cy wd gp9) ft a9 + cntP (fun b => a9 < b ∧ clP ft st tn kd mn cx cy wd gp9 a9 b) (b9 + 1)) = (nI ((clT (clP ft st tn kd mn cx cy wd gp9) ft a9 + cntP (fun b => a9 < b ∧ clP ft st tn kd mn cx cy wd gp9 a9 b) b9) + 0) : Int32) := by first | exact zn_eq (by rw [cntP_y (P := fun b => a9 < b ∧ clP ft st tn kd mn cx cy wd gp9 a9 b) ⟨by omega, by assumption⟩]; first | done | omega) | exact zn_eq (by rw [cntP_n (P := fun b => a9 < b ∧ clP ft st tn kd mn cx cy wd gp9 a9 b) (fun h => absurd h.2 (by first | with_reducible assumption | assumption))]; first | done | omega)
                    have hl9 : lv_has ls 5 [(4, .int (nI (b9 + 1))), (3, .int (nI a9)), (2, .int (nI (clT (clP ft st tn kd mn cx cy wd gp9) ft a9 + cntP (fun b => a9 < b ∧ clP ft st tn kd mn cx cy wd gp9 a9 b) (b9 + 1)))), (0, .ref k0), (1, .int gp9)] := by rw [e9_2]; exact hl9
                    exact ih_30 (b9 + 1) q_8 q_9 q_10 H locs ls (by first | with_reducible assumption | omega) (by first | with_reducible assumption | omega) hP hD hS hl9
                  · have c_11 : clP ft st tn kd mn cx cy wd gp9 a9 b9 := zp_1 c_11
                    refine lv_iconst (v := 1) hx hb dX11_clashes_51 rfl ?_
                    refine lv_goto (tgt := 56) hx hb dX11_clashes_52 rfl ?_
                    refine lv_iadd hx hb dX11_clashes_56 ?_
                    refine zz_i (v := nI ((clT (clP ft st tn kd mn cx cy wd gp9) ft a9 + cntP (fun b => a9 < b ∧ clP ft st tn kd mn cx cy wd gp9 a9 b) b9) + 1)) (nI_add (clT (clP ft st tn kd mn cx cy wd gp9) ft a9 + cntP (fun b => a9 < b ∧ clP ft st tn kd mn cx cy wd gp9 a9 b) b9) 1) ?_
                    refine lv_istore_n (lv' := [(2, .int (nI ((clT (clP ft st tn kd mn cx cy wd gp9) ft a9 + cntP (fun b => a9 < b ∧ clP ft st tn kd mn cx cy wd gp9 a9 b) b9) + 1))), (4, .int (nI b9)), (3, .int (nI a9)), (0, .ref k0), (1, .int gp9)]) hx hb dX11_clashes_57 rfl hl (Nat.le_of_ble_eq_true rfl) rfl (fun ls hl => ?_)
                    refine lv_iinc (v := nI (b9 + 1)) (lv' := [(4, .int (nI (b9 + 1))), (2, .int (nI ((clT (clP ft st tn kd mn cx cy wd gp9) ft a9 + cntP (fun b => a9 < b ∧ clP ft st tn kd mn cx cy wd gp9 a9 b) b9) + 1))), (3, .int (nI a9)), (0, .ref k0), (1, .int gp9)]) hx hb dX11_clashes_58 hl (k := 1) rfl (nI_add b9 1) (Nat.le_of_ble_eq_true rfl) rfl (fun ls hl => ?_)
                    refine lv_goto (tgt := 30) hx hb dX11_clashes_61 rfl ?_
                    have hl9 := lv_sub hl [0, 2, 1, 3, 4] rfl
                    have e9_2 : nI (clT (clP ft st tn kd mn cx cy wd gp9) ft a9 + cntP (fun b => a9 < b ∧ clP ft st tn kd mn cx cy wd gp9 a9 b) (b9 + 1)) = (nI ((clT (clP ft st tn kd mn cx cy wd gp9) ft a9 + cntP (fun b => a9 < b ∧ clP ft st tn kd mn cx cy wd gp9 a9 b) b9) + 1) : Int32) := by first | exact zn_eq (by rw [cntP_y (P := fun b => a9 < b ∧ clP ft st tn kd mn cx cy wd gp9 a9 b) ⟨by omega, by assumption⟩]; first | done | omega) | exact zn_eq (by rw [cntP_n (P := fun b => a9 < b ∧ clP ft st tn kd mn cx cy wd gp9 a9 b) (fun h => absurd h.2 (by first | with_reducible assumption | assumption))]; first | done | omega)
                    have hl9 : lv_has ls 5 [(4, .int (nI (b9 + 1))), (3, .int (nI a9)), (2, .int (nI (clT (clP ft st tn kd mn cx cy wd gp9) ft a9 + cntP (fun b => a9 < b ∧ clP ft st tn kd mn cx cy wd gp9 a9 b) (b9 + 1)))), (0, .ref k0), (1, .int gp9)] := by rw [e9_2]; exact hl9
                    exact ih_30 (b9 + 1) q_8 q_9 q_10 H locs ls (by first | with_reducible assumption | omega) (by first | with_reducible assumption | omega) hP hD hS hl9
            have e9_2 : nI (clT (clP ft st tn kd mn cx cy wd gp9) ft a9 + cntP (fun b => a9 < b ∧ clP ft st tn kd mn cx cy wd gp9 a9 b) (a9 + 1)) = (nI (clT (clP ft st tn kd mn cx cy wd gp9) ft a9) : Int32) := by exact zn_eq (by rw [cl_0 (clP ft st tn kd mn cx cy wd gp9) a9 (a9 + 1) (Nat.le_refl _)]; rfl)
            have hl9 : lv_has ls 5 [(4, .int (nI (a9 + 1))), (3, .int (nI a9)), (2, .int (nI (clT (clP ft st tn kd mn cx cy wd gp9) ft a9 + cntP (fun b => a9 < b ∧ clP ft st tn kd mn cx cy wd gp9 a9 b) (a9 + 1)))), (0, .ref k0), (1, .int gp9)] := by rw [e9_2]; exact lv_sub hl [0, 1, 2, 3, 4] rfl
            exact hl_30 _ (a9 + 1) u9 d9 S1 H locs ls (Nat.lt_succ_self _) (by first | with_reducible assumption | omega) hP hD hS hl9
      have e9_2 : nI (clT (clP ft st tn kd mn cx cy wd gp9) ft 0) = (0 : Int32) := by rfl
      have hl9 : lv_has ls 5 [(3, .int (nI 0)), (2, .int (nI (clT (clP ft st tn kd mn cx cy wd gp9) ft 0))), (0, .ref k0), (1, .int gp9)] := by rw [e9_2]; exact lv_sub hl [0, 1, 2, 3] rfl
      exact hl_17 _ 0 (J0 48) (J0 49) S0 s.heap [] ls (Nat.lt_succ_self _) (by first | with_reducible assumption | omega) hP hD hS hl9
    · have c_2 : 200 < gp9.toInt := zc_nle rfl rfl c_2
      exfalso; omega
set_option maxHeartbeats 4000000 in
set_option maxRecDepth 100000 in
theorem k_M_clash_r (l : Launch) (dC : Nat → ClassId) (dI : Nat → Nat → Nat) (cI cZ cF : ClassId) (sz : Nat) (k0 : Nat) (a : Nat → Nat) (I0 : Nat → Int32) (J0 : Nat → Int64) (gp9 : Int32) (iv : Int32) (w : Int32) (hgp : ¬ (0 ≤ gp9.toInt ∧ gp9.toInt ≤ 200 ∧ 0 ≤ iv.toInt ∧ 0 ≤ w.toInt ∧ w.toInt ≤ 1)) : Met l yX11_clash (.code yX11_clash cX11_clash 7 (some .int) :: ws0) ({ frames := 0, cells := 0, slots := 0, locals := 0 } : Room) (va_Pc [.ref k0, .int gp9, .int iv, .int w] (zPre (dC, dI) classes (zTy cI cZ cF) [(om k0 a I0 J0)] sz zXN)) (zQ (some (.int (-1))) (fun t => va_P (dC, dI) classes [(om k0 a I0 J0)] t.heap ∧ va_D (va_A [(om k0 a I0 J0)] sz) [(om k0 a I0 J0)]) (va_A [(om k0 a I0 J0)] sz)) 0 0 (va_A [(om k0 a I0 J0)] sz) := by
  refine Met.ofW (cc := cX11_clash) (maxL := 7) (ret := (some .int)) rfl rfl ?_
  intro p e s m args below meth c s₁ B hml hv
  obtain ⟨rfl, hsz, hP, hK, hD0, hXN⟩ := hv
  have hx := B.exec
  have hb := B.bytes
  have hr := B.returns
  have hts0 := atoms_spec (ws := .code yX11_clash cX11_clash 7 (some .int) :: ws0) B.pre
  have hts : ∀ w9 ∈ ws0, w9.before ([.ref k0, .int gp9, .int iv, .int w] : List Value).toArray s = true := fun w9 h => hts0 w9 (List.mem_cons_of_mem _ h)
  have hown : s.vm.findClass "ScaleShopModel" = some m.cls := findClass_of_methodNamed B.named
  have hlocks := B.notSynchronized
  subst hsz
  have hD := hD0.self (sz := s.heap.size)
  clear hD0
  generalize hAe : va_A [(om k0 a I0 J0)] s.heap.size = A at hD ⊢
  have hA : ∀ q : Nat, s.heap.size ≤ q → A q := fun q h => by rw [← hAe]; exact Or.inr h
  clear hAe
  have hS : va_S A s.heap s.heap [] := va_S.rf
  have hP : va_P (dC, dI) classes [(om k0 a I0 J0)] s.heap := hP
  obtain ⟨Q9, hQ9⟩ : ∃ Q9 : State → Prop, Q9 = MQ below (zQ (some (.int (-1))) (fun t => va_P (dC, dI) classes [(om k0 a I0 J0)] t.heap ∧ va_D A [(om k0 a I0 J0)]) A) ([.ref k0, .int gp9, .int iv, .int w] : List Value).toArray s 0 0 A := ⟨_, rfl⟩
  rw [← hQ9]
  have hl := lv_entry ([.ref k0, .int gp9, .int iv, .int w]) (n := 7) (Nat.le_of_ble_eq_true rfl)
  rw [lg_entry_eq]
  generalize (lg_sl ([.ref k0, .int gp9, .int iv, .int w]) ++ List.replicate (7 - (lg_sl ([.ref k0, .int gp9, .int iv, .int w])).length) Slot.unset).toArray = ls at hl ⊢
  have hl : lv_has ls 7 [(0, .ref k0), (1, .int gp9), (2, .int iv), (3, .int w)] := hl
  refine lv_iload_n hx hb dX11_clash_0 rfl (lv_at hl 1 rfl) ?_
  refine lv_if_lt (tgt := 24) hx hb dX11_clash_1 rfl (fun c_1 => ?_) (fun c_1 => ?_)
  · have c_1 : gp9.toInt < 0 := zc_lt rfl rfl c_1
    refine lv_iconst (v := (-1)) hx hb dX11_clash_24 rfl ?_
    obtain ⟨hP9, hD9⟩ := zq_sub (wc := [(om k0 a I0 J0)]) hP hD [0] rfl rfl
    rw [hQ9]
    exact W.iret (v := (-1)) hx hb hr (fun t ht hW => ⟨⟨rfl, by rw [ht]; exact hP9, hD9⟩, hS.F ht⟩) hS.2.2 dX11_clash_25
  · have c_1 : 0 ≤ gp9.toInt := zc_nlt rfl rfl c_1
    refine lv_iload_n hx hb dX11_clash_4 rfl (lv_at hl 1 rfl) ?_
    refine lv_sipush (v := 200) hx hb dX11_clash_5 rfl ?_
    refine lv_icmp_gt (tgt := 24) hx hb dX11_clash_8 rfl (fun c_2 => ?_) (fun c_2 => ?_)
    · have c_2 : 200 < gp9.toInt := zc_lt rfl rfl c_2
      refine lv_iconst (v := (-1)) hx hb dX11_clash_24 rfl ?_
      obtain ⟨hP9, hD9⟩ := zq_sub (wc := [(om k0 a I0 J0)]) hP hD [0] rfl rfl
      rw [hQ9]
      exact W.iret (v := (-1)) hx hb hr (fun t ht hW => ⟨⟨rfl, by rw [ht]; exact hP9, hD9⟩, hS.F ht⟩) hS.2.2 dX11_clash_25
    · have c_2 : gp9.toInt ≤ 200 := zc_nlt rfl rfl c_2
      refine lv_iload_n hx hb dX11_clash_11 rfl (lv_at hl 2 rfl) ?_
      refine lv_if_lt (tgt := 24) hx hb dX11_clash_12 rfl (fun c_3 => ?_) (fun c_3 => ?_)
      · have c_3 : iv.toInt < 0 := zc_lt rfl rfl c_3
        refine lv_iconst (v := (-1)) hx hb dX11_clash_24 rfl ?_
        obtain ⟨hP9, hD9⟩ := zq_sub (wc := [(om k0 a I0 J0)]) hP hD [0] rfl rfl
        rw [hQ9]
        exact W.iret (v := (-1)) hx hb hr (fun t ht hW => ⟨⟨rfl, by rw [ht]; exact hP9, hD9⟩, hS.F ht⟩) hS.2.2 dX11_clash_25
      · have c_3 : 0 ≤ iv.toInt := zc_nlt rfl rfl c_3
        refine lv_iload_n hx hb dX11_clash_15 rfl (lv_at hl 3 rfl) ?_
        refine lv_if_lt (tgt := 24) hx hb dX11_clash_16 rfl (fun c_4 => ?_) (fun c_4 => ?_)
        · have c_4 : w.toInt < 0 := zc_lt rfl rfl c_4
          refine lv_iconst (v := (-1)) hx hb dX11_clash_24 rfl ?_
          obtain ⟨hP9, hD9⟩ := zq_sub (wc := [(om k0 a I0 J0)]) hP hD [0] rfl rfl
          rw [hQ9]
          exact W.iret (v := (-1)) hx hb hr (fun t ht hW => ⟨⟨rfl, by rw [ht]; exact hP9, hD9⟩, hS.F ht⟩) hS.2.2 dX11_clash_25
        · have c_4 : 0 ≤ w.toInt := zc_nlt rfl rfl c_4
          refine lv_iload_n hx hb dX11_clash_19 rfl (lv_at hl 3 rfl) ?_
          refine lv_iconst (v := 1) hx hb dX11_clash_20 rfl ?_
          refine lv_icmp_le (tgt := 26) hx hb dX11_clash_21 rfl (fun c_5 => ?_) (fun c_5 => ?_)
          · have c_5 : w.toInt ≤ 1 := zc_le rfl rfl c_5
            exfalso; omega
          · have c_5 : 1 < w.toInt := zc_nle rfl rfl c_5
            refine lv_iconst (v := (-1)) hx hb dX11_clash_24 rfl ?_
            obtain ⟨hP9, hD9⟩ := zq_sub (wc := [(om k0 a I0 J0)]) hP hD [0] rfl rfl
            rw [hQ9]
            exact W.iret (v := (-1)) hx hb hr (fun t ht hW => ⟨⟨rfl, by rw [ht]; exact hP9, hD9⟩, hS.F ht⟩) hS.2.2 dX11_clash_25
set_option maxHeartbeats 4000000 in
set_option maxRecDepth 100000 in
theorem k_M_clash_y0 (l : Launch) (dC : Nat → ClassId) (dI : Nat → Nat → Nat) (cI cZ cF : ClassId) (sz : Nat) (k0 : Nat) (a : Nat → Nat) (I0 : Nat → Int32) (J0 : Nat → Int64) (ft : Nat) (i : Nat) (a7 : Nat) (b7 : Nat) (gp9 : Int32) (st : Nat → Int32) (tn : Nat → Int32) (kd : Nat → Int32) (mn : Nat → Int32) (cx : Nat → Int32) (cy : Nat → Int32) (S0 : Nat → Int32) (wd : Nat → Int32) (hft : I0 0 = nI ft) (h200 : ft ≤ 200) (hwf : ∀ q, lvF ft st tn q → wfM mn cx cy q) (hef : ∀ q, lvF ft st tn q → 1 ≤ eO (kd q).toInt (nN (mn q))) (hwd : ∀ q, q < ft → 0 ≤ (wd q).toInt ∧ (wd q).toInt ≤ 100) (hgp : 0 ≤ gp9.toInt ∧ gp9.toInt ≤ 200) (hi31 : i < 2147483648) (hit : clI (clP ft st tn kd mn cx cy wd gp9) ft a7 b7 i) : Met l yX11_clash (.code yX11_clash cX11_clash 7 (some .int) :: ws0) ({ frames := 6, cells := 0, slots := 0, locals := 154 } : Room) (va_Pc [.ref k0, .int gp9, .int (nI i), .int 0] (zPre (dC, dI) classes (zTy cI cZ cF) [(om k0 a I0 J0), (oa (a 5) cI 201 st), (oa (a 6) cZ 201 tn), (oa (a 1) cI 201 kd), (oa (a 11) cI 201 mn), (oa (a 12) cI 8040 cx), (oa (a 13) cI 8040 cy), (oa (a 32) cI 8 S0), (oa (a 3) cI 201 wd)] sz zXN)) (zQ (some (.int (nI a7))) (fun t => ∃ (u9 : Int64), ∃ (d9 : Int64), ∃ (S1 : Nat → Int32), va_P (dC, dI) classes [(om k0 a I0 (vp_updL (vp_updL J0 48 u9) 49 d9)), (oa (a 5) cI 201 st), (oa (a 6) cZ 201 tn), (oa (a 1) cI 201 kd), (oa (a 11) cI 201 mn), (oa (a 12) cI 8040 cx), (oa (a 13) cI 8040 cy), (oa (a 32) cI 8 S1), (oa (a 3) cI 201 wd)] t.heap ∧ va_D (va_A [(om k0 a I0 J0), (oa (a 5) cI 201 st), (oa (a 6) cZ 201 tn), (oa (a 1) cI 201 kd), (oa (a 11) cI 201 mn), (oa (a 12) cI 8040 cx), (oa (a 13) cI 8040 cy), (oa (a 32) cI 8 S0), (oa (a 3) cI 201 wd)] sz) [(om k0 a I0 (vp_updL (vp_updL J0 48 u9) 49 d9)), (oa (a 5) cI 201 st), (oa (a 6) cZ 201 tn), (oa (a 1) cI 201 kd), (oa (a 11) cI 201 mn), (oa (a 12) cI 8040 cx), (oa (a 13) cI 8040 cy), (oa (a 32) cI 8 S1), (oa (a 3) cI 201 wd)]) (va_A [(om k0 a I0 J0), (oa (a 5) cI 201 st), (oa (a 6) cZ 201 tn), (oa (a 1) cI 201 kd), (oa (a 11) cI 201 mn), (oa (a 12) cI 8040 cx), (oa (a 13) cI 8040 cy), (oa (a 32) cI 8 S0), (oa (a 3) cI 201 wd)] sz)) 0 0 (va_A [(om k0 a I0 J0), (oa (a 5) cI 201 st), (oa (a 6) cZ 201 tn), (oa (a 1) cI 201 kd), (oa (a 11) cI 201 mn), (oa (a 12) cI 8040 cx), (oa (a 13) cI 8040 cy), (oa (a 32) cI 8 S0), (oa (a 3) cI 201 wd)] sz) := by
  refine Met.ofW (cc := cX11_clash) (maxL := 7) (ret := (some .int)) rfl rfl ?_
  intro p e s m args below meth c s₁ B hml hv
  obtain ⟨rfl, hsz, hP, hK, hD0, hXN⟩ := hv
  have hx := B.exec
  have hb := B.bytes
  have hr := B.returns
  have hts0 := atoms_spec (ws := .code yX11_clash cX11_clash 7 (some .int) :: ws0) B.pre
  have hts : ∀ w9 ∈ ws0, w9.before ([.ref k0, .int gp9, .int (nI i), .int 0] : List Value).toArray s = true := fun w9 h => hts0 w9 (List.mem_cons_of_mem _ h)
  have hown : s.vm.findClass "ScaleShopModel" = some m.cls := findClass_of_methodNamed B.named
  have hlocks := B.notSynchronized
  subst hsz
  have hD := hD0.self (sz := s.heap.size)
  clear hD0
  generalize hAe : va_A [(om k0 a I0 J0), (oa (a 5) cI 201 st), (oa (a 6) cZ 201 tn), (oa (a 1) cI 201 kd), (oa (a 11) cI 201 mn), (oa (a 12) cI 8040 cx), (oa (a 13) cI 8040 cy), (oa (a 32) cI 8 S0), (oa (a 3) cI 201 wd)] s.heap.size = A at hD ⊢
  have hA : ∀ q : Nat, s.heap.size ≤ q → A q := fun q h => by rw [← hAe]; exact Or.inr h
  clear hAe
  have hS : va_S A s.heap s.heap [] := va_S.rf
  have hP : va_P (dC, dI) classes [(om k0 a I0 J0), (oa (a 5) cI 201 st), (oa (a 6) cZ 201 tn), (oa (a 1) cI 201 kd), (oa (a 11) cI 201 mn), (oa (a 12) cI 8040 cx), (oa (a 13) cI 8040 cy), (oa (a 32) cI 8 S0), (oa (a 3) cI 201 wd)] s.heap := hP
  obtain ⟨Q9, hQ9⟩ : ∃ Q9 : State → Prop, Q9 = MQ below (zQ (some (.int (nI a7))) (fun t => ∃ (u9 : Int64), ∃ (d9 : Int64), ∃ (S1 : Nat → Int32), va_P (dC, dI) classes [(om k0 a I0 (vp_updL (vp_updL J0 48 u9) 49 d9)), (oa (a 5) cI 201 st), (oa (a 6) cZ 201 tn), (oa (a 1) cI 201 kd), (oa (a 11) cI 201 mn), (oa (a 12) cI 8040 cx), (oa (a 13) cI 8040 cy), (oa (a 32) cI 8 S1), (oa (a 3) cI 201 wd)] t.heap ∧ va_D A [(om k0 a I0 (vp_updL (vp_updL J0 48 u9) 49 d9)), (oa (a 5) cI 201 st), (oa (a 6) cZ 201 tn), (oa (a 1) cI 201 kd), (oa (a 11) cI 201 mn), (oa (a 12) cI 8040 cx), (oa (a 13) cI 8040 cy), (oa (a 32) cI 8 S1), (oa (a 3) cI 201 wd)]) A) ([.ref k0, .int gp9, .int (nI i), .int 0] : List Value).toArray s 0 0 A := ⟨_, rfl⟩
  rw [← hQ9]
  have hl := lv_entry ([.ref k0, .int gp9, .int (nI i), .int 0]) (n := 7) (Nat.le_of_ble_eq_true rfl)
  rw [lg_entry_eq]
  generalize (lg_sl ([.ref k0, .int gp9, .int (nI i), .int 0]) ++ List.replicate (7 - (lg_sl ([.ref k0, .int gp9, .int (nI i), .int 0])).length) Slot.unset).toArray = ls at hl ⊢
  have hl : lv_has ls 7 [(0, .ref k0), (1, .int gp9), (2, .int (nI i)), (3, .int 0)] := hl
  refine lv_iload_n hx hb dX11_clash_0 rfl (lv_at hl 1 rfl) ?_
  refine lv_if_lt (tgt := 24) hx hb dX11_clash_1 rfl (fun c_1 => ?_) (fun c_1 => ?_)
  · have c_1 : gp9.toInt < 0 := zc_lt rfl rfl c_1
    exfalso; omega
  · have c_1 : 0 ≤ gp9.toInt := zc_nlt rfl rfl c_1
    refine lv_iload_n hx hb dX11_clash_4 rfl (lv_at hl 1 rfl) ?_
    refine lv_sipush (v := 200) hx hb dX11_clash_5 rfl ?_
    refine lv_icmp_gt (tgt := 24) hx hb dX11_clash_8 rfl (fun c_2 => ?_) (fun c_2 => ?_)
    · have c_2 : 200 < gp9.toInt := zc_lt rfl rfl c_2
      exfalso; omega
    · have c_2 : gp9.toInt ≤ 200 := zc_nlt rfl rfl c_2
      refine lv_iload_n hx hb dX11_clash_11 rfl (lv_at hl 2 rfl) ?_
      have b9_4 : i < 2147483648 := by omega
      refine lv_if_lt (tgt := 24) hx hb dX11_clash_12 rfl (fun c_3 => ?_) (fun c_3 => ?_)
      · have c_3 : ((i : Nat) : Int) < 0 := zc_lt (nI_toInt b9_4) rfl c_3
        exfalso; omega
      · have c_3 : 0 ≤ ((i : Nat) : Int) := zc_nlt (nI_toInt b9_4) rfl c_3
        refine lv_iload_n hx hb dX11_clash_15 rfl (lv_at hl 3 rfl) ?_
        refine lv_if_lt (tgt := 24) hx hb dX11_clash_16 rfl (fun c_5 => ?_) (fun c_5 => ?_)
        · exact absurd c_5 (by decide)
        · refine lv_iload_n hx hb dX11_clash_19 rfl (lv_at hl 3 rfl) ?_
          refine lv_iconst (v := 1) hx hb dX11_clash_20 rfl ?_
          refine lv_icmp_le (tgt := 26) hx hb dX11_clash_21 rfl (fun c_6 => ?_) (fun c_6 => ?_)
          · refine lv_iconst (v := 0) hx hb dX11_clash_26 rfl ?_
            refine lv_istore (lv' := [(4, .int 0), (0, .ref k0), (1, .int gp9), (2, .int (nI i)), (3, .int 0)]) hx hb dX11_clash_27 hl (Nat.le_of_ble_eq_true rfl) rfl (fun ls hl => ?_)
            refine lv_iconst (v := 0) hx hb dX11_clash_29 rfl ?_
            refine lv_istore (lv' := [(5, .int 0), (4, .int 0), (0, .ref k0), (1, .int gp9), (2, .int (nI i)), (3, .int 0)]) hx hb dX11_clash_30 hl (Nat.le_of_ble_eq_true rfl) rfl (fun ls hl => ?_)
            have hl_32 : ∀ (n9 : Nat) (a9 : Nat) (u9 : Int64) (d9 : Int64) (S1 : Nat → Int32) (H : Heap) (locs : List Loc) (ls : Array Slot), ft - a9 < n9 → (a9 ≤ ft) → (∀ a8 b8, a8 < a9 → ¬ clI (clP ft st tn kd mn cx cy wd gp9) ft a8 b8 i) → va_P (dC, dI) classes [(om k0 a I0 (vp_updL (vp_updL J0 48 u9) 49 d9)), (oa (a 5) cI 201 st), (oa (a 6) cZ 201 tn), (oa (a 1) cI 201 kd), (oa (a 11) cI 201 mn), (oa (a 12) cI 8040 cx), (oa (a 13) cI 8040 cy), (oa (a 32) cI 8 S1), (oa (a 3) cI 201 wd)] H → va_D A [(om k0 a I0 (vp_updL (vp_updL J0 48 u9) 49 d9)), (oa (a 5) cI 201 st), (oa (a 6) cZ 201 tn), (oa (a 1) cI 201 kd), (oa (a 11) cI 201 mn), (oa (a 12) cI 8040 cx), (oa (a 13) cI 8040 cy), (oa (a 32) cI 8 S1), (oa (a 3) cI 201 wd)] → va_S A s.heap H locs → lv_has ls 7 [(5, .int (nI a9)), (4, .int (nI (clT (clP ft st tn kd mn cx cy wd gp9) ft a9))), (0, .ref k0), (1, .int gp9), (2, .int (nI i)), (3, .int 0)] → W p l e ((headSpec (.code yX11_clash cX11_clash 7 (some .int) :: ws0) ({ frames := 6, cells := 0, slots := 0, locals := 154 } : Room)).room) s m ([.ref k0, .int gp9, .int (nI i), .int 0] : List Value).toArray below meth c H locs 0 0 Q9 (F0 m 32 ls []) := by
              intro n9
              induction n9 with
              | zero => intro a9 u9 d9 S1 H locs ls hm; exact absurd hm (Nat.not_lt_zero _)
              | succ n9 ih_32 =>
                intro a9 u9 d9 S1 H locs ls hm ha9 hno hP hD hS hl
                have hct := clT_200 (clP ft st tn kd mn cx cy wd gp9) h200 ha9
                refine lv_iload hx hb dX11_clash_32 (lv_at hl 0 rfl) ?_
                refine lv_aload_n hx hb dX11_clash_34 rfl (lv_at hl 2 rfl) ?_
                refine va_get (D := (dC, dI)) (ci := 9) (v := .int (I0 0)) (C := RX11) (T := TX11) (N := 55) hx hb hts inX11 hown hK hP 0 rfl rfl 0 (Nat.le_of_ble_eq_true rfl) (hts _ mw_1159) (fun _ h9 => h9) rfl dX11_clash_35 ?_
                refine zz_i (v := nI ft) (hft) ?_
                have b9_8 : a9 < 2147483648 := by omega
                have b9_9 : ft < 2147483648 := by omega
                refine lv_icmp_ge (tgt := 104) hx hb dX11_clash_38 rfl (fun c_7 => ?_) (fun c_7 => ?_)
                · have c_7 : ((ft : Nat) : Int) ≤ ((a9 : Nat) : Int) := zc_le (nI_toInt b9_9) (nI_toInt b9_8) c_7
                  exfalso; exact hno a7 b7 (by have := hit.1; have := hit.2.1; omega) hit
                · have c_7 : ((a9 : Nat) : Int) < ((ft : Nat) : Int) := zc_nle (nI_toInt b9_9) (nI_toInt b9_8) c_7
                  refine lv_iload hx hb dX11_clash_41 (lv_at hl 0 rfl) ?_
                  refine lv_iconst (v := 1) hx hb dX11_clash_43 rfl ?_
                  refine lv_iadd hx hb dX11_clash_44 ?_
                  refine zz_i (v := nI (a9 + 1)) (nI_add a9 1) ?_
                  refine lv_istore (lv' := [(6, .int (nI (a9 + 1))), (5, .int (nI a9)), (4, .int (nI (clT (clP ft st tn kd mn cx cy wd gp9) ft a9))), (0, .ref k0), (1, .int gp9), (2, .int (nI i)), (3, .int 0)]) hx hb dX11_clash_45 hl (Nat.le_of_ble_eq_true rfl) rfl (fun ls hl => ?_)
                  have hl_47 : ∀ (n9 : Nat) (b9 : Nat) (u9 : Int64) (d9 : Int64) (S1 : Nat → Int32) (H : Heap) (locs : List Loc) (ls : Array Slot), ft - b9 < n9 → (a9 < b9 ∧ b9 ≤ ft) → (∀ b8, b8 < b9 → ¬ clI (clP ft st tn kd mn cx cy wd gp9) ft a9 b8 i) → va_P (dC, dI) classes [(om k0 a I0 (vp_updL (vp_updL J0 48 u9) 49 d9)), (oa (a 5) cI 201 st), (oa (a 6) cZ 201 tn), (oa (a 1) cI 201 kd), (oa (a 11) cI 201 mn), (oa (a 12) cI 8040 cx), (oa (a 13) cI 8040 cy), (oa (a 32) cI 8 S1), (oa (a 3) cI 201 wd)] H → va_D A [(om k0 a I0 (vp_updL (vp_updL J0 48 u9) 49 d9)), (oa (a 5) cI 201 st), (oa (a 6) cZ 201 tn), (oa (a 1) cI 201 kd), (oa (a 11) cI 201 mn), (oa (a 12) cI 8040 cx), (oa (a 13) cI 8040 cy), (oa (a 32) cI 8 S1), (oa (a 3) cI 201 wd)] → va_S A s.heap H locs → lv_has ls 7 [(6, .int (nI b9)), (5, .int (nI a9)), (4, .int (nI (clT (clP ft st tn kd mn cx cy wd gp9) ft a9 + cntP (fun b => a9 < b ∧ clP ft st tn kd mn cx cy wd gp9 a9 b) b9))), (0, .ref k0), (1, .int gp9), (2, .int (nI i)), (3, .int 0)] → W p l e ((headSpec (.code yX11_clash cX11_clash 7 (some .int) :: ws0) ({ frames := 6, cells := 0, slots := 0, locals := 154 } : Room)).room) s m ([.ref k0, .int gp9, .int (nI i), .int 0] : List Value).toArray below meth c H locs 0 0 Q9 (F0 m 47 ls []) := by
                    intro n9
                    induction n9 with
                    | zero => intro b9 u9 d9 S1 H locs ls hm; exact absurd hm (Nat.not_lt_zero _)
                    | succ n9 ih_47 =>
                      intro b9 u9 d9 S1 H locs ls hm hb9 hnb hP hD hS hl
                      have hcn := cntP_b (fun b => a9 < b ∧ clP ft st tn kd mn cx cy wd gp9 a9 b) b9
                      refine lv_iload hx hb dX11_clash_47 (lv_at hl 0 rfl) ?_
                      refine lv_aload_n hx hb dX11_clash_49 rfl (lv_at hl 3 rfl) ?_
                      refine va_get (D := (dC, dI)) (ci := 9) (v := .int (I0 0)) (C := RX11) (T := TX11) (N := 55) hx hb hts inX11 hown hK hP 0 rfl rfl 0 (Nat.le_of_ble_eq_true rfl) (hts _ mw_1159) (fun _ h9 => h9) rfl dX11_clash_50 ?_
                      refine zz_i (v := nI ft) (hft) ?_
                      have b9_11 : b9 < 2147483648 := by omega
                      refine lv_icmp_ge (tgt := 98) hx hb dX11_clash_53 rfl (fun c_10 => ?_) (fun c_10 => ?_)
                      · have c_10 : ((ft : Nat) : Int) ≤ ((b9 : Nat) : Int) := zc_le (nI_toInt b9_9) (nI_toInt b9_11) c_10
                        refine lv_iinc (v := nI (a9 + 1)) (lv' := [(5, .int (nI (a9 + 1))), (6, .int (nI b9)), (4, .int (nI (clT (clP ft st tn kd mn cx cy wd gp9) ft a9 + cntP (fun b => a9 < b ∧ clP ft st tn kd mn cx cy wd gp9 a9 b) b9))), (0, .ref k0), (1, .int gp9), (2, .int (nI i)), (3, .int 0)]) hx hb dX11_clash_98 hl (k := 1) rfl (nI_add a9 1) (Nat.le_of_ble_eq_true rfl) rfl (fun ls hl => ?_)
                        refine lv_goto (tgt := 32) hx hb dX11_clash_101 rfl ?_
                        have hl9 := lv_sub hl [0, 2, 3, 4, 5, 6] rfl
                        have e9_4 : nI (clT (clP ft st tn kd mn cx cy wd gp9) ft (a9 + 1)) = (nI (clT (clP ft st tn kd mn cx cy wd gp9) ft a9 + cntP (fun b => a9 < b ∧ clP ft st tn kd mn cx cy wd gp9 a9 b) b9) : Int32) := by exact zn_eq (by rw [show b9 = ft by omega]; rfl)
                        have hl9 : lv_has ls 7 [(5, .int (nI (a9 + 1))), (4, .int (nI (clT (clP ft st tn kd mn cx cy wd gp9) ft (a9 + 1)))), (0, .ref k0), (1, .int gp9), (2, .int (nI i)), (3, .int 0)] := by rw [e9_4]; exact hl9
                        exact ih_32 (a9 + 1) u9 d9 S1 H locs ls (by first | with_reducible assumption | omega) (by first | with_reducible assumption | omega) (fun a8 b8 h h2 => (by rcases Nat.lt_or_ge a8 a9 with q | q; exact hno a8 b8 q h2; rw [show a8 = a9 by omega] at h2; exact hnb b8 (by have := h2.2.1; omega) h2)) hP hD hS hl9
                      · have c_10 : ((b9 : Nat) : Int) < ((ft : Nat) : Int) := zc_nle (nI_toInt b9_9) (nI_toInt b9_11) c_10
                        refine lv_aload_n hx hb dX11_clash_56 rfl (lv_at hl 3 rfl) ?_
                        refine lv_iload hx hb dX11_clash_57 (lv_at hl 1 rfl) ?_
                        refine lv_iload hx hb dX11_clash_59 (lv_at hl 0 rfl) ?_
                        refine lv_iload_n hx hb dX11_clash_61 rfl (lv_at hl 4 rfl) ?_
                        obtain ⟨hPc, hDc, hFc⟩ := zc_sub (wc := [(om k0 a I0 (vp_updL (vp_updL J0 48 u9) 49 d9)), (oa (a 5) cI 201 st), (oa (a 6) cZ 201 tn), (oa (a 1) cI 201 kd), (oa (a 11) cI 201 mn), (oa (a 12) cI 8040 cx), (oa (a 13) cI 8040 cy), (oa (a 32) cI 8 S1), (oa (a 3) cI 201 wd)]) hP hD hS hA [0, 1, 2, 3, 4, 5, 6, 7, 8] rfl rfl
                        refine zcall (st1 := [.int (pI (clP ft st tn kd mn cx cy wd gp9 a9 b9))]) (va_runV (As := [.int (nI a9), .int (nI b9), .int gp9]) (rest := []) ⟨hx, hb, hml, hown, hts⟩ (k_M_isClash l dC dI cI cZ cF H.size k0 a I0 (vp_updL (vp_updL J0 48 u9) 49 d9) a9 b9 ft gp9 st tn kd mn cx cy S1 wd (by first | with_reducible assumption | assumption) (by first | with_reducible assumption | omega) (by first | with_reducible assumption | assumption) (by first | with_reducible assumption | assumption) (by first | with_reducible assumption | assumption) (by first | with_reducible assumption | assumption) (by first | with_reducible assumption | omega) (by first | with_reducible assumption | omega)) (csV_230 hts rfl rfl ⟨Nat.le_of_ble_eq_true rfl, Nat.le_of_ble_eq_true rfl⟩) (zPV2 (q0 := 0) (ci := 9) hPc hDc hK hXN rfl rfl) rfl rfl hl.1 rfl (lv_room (Nat.le_of_ble_eq_true rfl)) dX11_clash_62 ⟨Nat.le_of_ble_eq_true rfl, Nat.le_of_ble_eq_true rfl⟩) hS hFc hFc rfl (fun t H locs ht hB hk1 hS => ?_)
                        obtain ⟨q_12, q_13, q_14, hP1, hD1⟩ := hB
                        rw [ht] at hP1
                        obtain ⟨hP, hD⟩ := zk (W2 := [(om k0 a I0 (vp_updL (vp_updL J0 48 q_12) 49 q_13)), (oa (a 5) cI 201 st), (oa (a 6) cZ 201 tn), (oa (a 1) cI 201 kd), (oa (a 11) cI 201 mn), (oa (a 12) cI 8040 cx), (oa (a 13) cI 8040 cy), (oa (a 32) cI 8 q_14), (oa (a 3) cI 201 wd)]) hP hD [0, 1, 2, 3, 4, 5, 6, 7, 8] [] [] [0, 1, 2, 3, 4, 5, 6, 7, 8] [0, 1, 2, 3, 4, 5, 6, 7, 8] 9 rfl rfl rfl rfl rfl rfl rfl rfl rfl hk1 hFc hP1 hD1
                        clear hk1 hPc hDc hFc hP1 hD1 ht
                        refine lv_if_ne (tgt := 71) hx hb dX11_clash_65 rfl (fun c_15 => ?_) (fun c_15 => ?_)
                        · have c_15 : clP ft st tn kd mn cx cy wd gp9 a9 b9 := zp_1 c_15
                          refine lv_iload hx hb dX11_clash_71 (lv_at hl 2 rfl) ?_
                          refine lv_iload_n hx hb dX11_clash_73 rfl (lv_at hl 5 rfl) ?_
                          have b9_17 : (clT (clP ft st tn kd mn cx cy wd gp9) ft a9 + cntP (fun b => a9 < b ∧ clP ft st tn kd mn cx cy wd gp9 a9 b) b9) < 2147483648 := by omega
                          refine lv_icmp_ne (tgt := 89) hx hb dX11_clash_74 rfl (fun c_16 => ?_) (fun c_16 => ?_)
                          · have c_16 : ¬ ((clT (clP ft st tn kd mn cx cy wd gp9) ft a9 + cntP (fun b => a9 < b ∧ clP ft st tn kd mn cx cy wd gp9 a9 b) b9 : Nat) : Int) = ((i : Nat) : Int) := zc_ne (nI_toInt b9_17) (nI_toInt b9_4) c_16
                            refine lv_iinc (v := nI ((clT (clP ft st tn kd mn cx cy wd gp9) ft a9 + cntP (fun b => a9 < b ∧ clP ft st tn kd mn cx cy wd gp9 a9 b) b9) + 1)) (lv' := [(4, .int (nI ((clT (clP ft st tn kd mn cx cy wd gp9) ft a9 + cntP (fun b => a9 < b ∧ clP ft st tn kd mn cx cy wd gp9 a9 b) b9) + 1))), (6, .int (nI b9)), (5, .int (nI a9)), (0, .ref k0), (1, .int gp9), (2, .int (nI i)), (3, .int 0)]) hx hb dX11_clash_89 hl (k := 2) rfl (nI_add (clT (clP ft st tn kd mn cx cy wd gp9) ft a9 + cntP (fun b => a9 < b ∧ clP ft st tn kd mn cx cy wd gp9 a9 b) b9) 1) (Nat.le_of_ble_eq_true rfl) rfl (fun ls hl => ?_)
                            refine lv_iinc (v := nI (b9 + 1)) (lv' := [(6, .int (nI (b9 + 1))), (4, .int (nI ((clT (clP ft st tn kd mn cx cy wd gp9) ft a9 + cntP (fun b => a9 < b ∧ clP ft st tn kd mn cx cy wd gp9 a9 b) b9) + 1))), (5, .int (nI a9)), (0, .ref k0), (1, .int gp9), (2, .int (nI i)), (3, .int 0)]) hx hb dX11_clash_92 hl (k := 1) rfl (nI_add b9 1) (Nat.le_of_ble_eq_true rfl) rfl (fun ls hl => ?_)
                            refine lv_goto (tgt := 47) hx hb dX11_clash_95 rfl ?_
                            have hl9 := lv_sub hl [0, 2, 1, 3, 4, 5, 6] rfl
                            have e9_4 : nI (clT (clP ft st tn kd mn cx cy wd gp9) ft a9 + cntP (fun b => a9 < b ∧ clP ft st tn kd mn cx cy wd gp9 a9 b) (b9 + 1)) = (nI ((clT (clP ft st tn kd mn cx cy wd gp9) ft a9 + cntP (fun b => a9 < b ∧ clP ft st tn kd mn cx cy wd gp9 a9 b) b9) + 1) : Int32) := by first | exact zn_eq (by rw [cntP_y (P := fun b => a9 < b ∧ clP ft st tn kd mn cx cy wd gp9 a9 b) ⟨by omega, by assumption⟩]; first | done | omega) | exact zn_eq (by rw [cntP_n (P := fun b => a9 < b ∧ clP ft st tn kd mn cx cy wd gp9 a9 b) (fun h => absurd h.2 (by first | with_reducible assumption | assumption))]; first | done | omega)
                            have hl9 : lv_has ls 7 [(6, .int (nI (b9 + 1))), (5, .int (nI a9)), (4, .int (nI (clT (clP ft st tn kd mn cx cy wd gp9) ft a9 + cntP (fun b => a9 < b ∧ clP ft st tn kd mn cx cy wd gp9 a9 b) (b9 + 1)))), (0, .ref k0), (1, .int gp9), (2, .int (nI i)), (3, .int 0)] := by rw [e9_4]; exact hl9
                            exact ih_47 (b9 + 1) q_12 q_13 q_14 H locs ls (by first | with_reducible assumption | omega) (by first | with_reducible assumption | omega) (fun b8 h h2 => (by rcases Nat.lt_or_ge b8 b9 with q | q; exact hnb b8 q h2; rw [show b8 = b9 by omega] at h2; first | exact absurd h2.2.2.1 (by first | with_reducible assumption | assumption) | (have h7 := h2.2.2.2; omega))) hP hD hS hl9
                          · have c_16 : ((clT (clP ft st tn kd mn cx cy wd gp9) ft a9 + cntP (fun b => a9 < b ∧ clP ft st tn kd mn cx cy wd gp9 a9 b) b9 : Nat) : Int) = ((i : Nat) : Int) := zc_eq (nI_toInt b9_17) (nI_toInt b9_4) c_16
                            have hci : clI (clP ft st tn kd mn cx cy wd gp9) ft a9 b9 i := ⟨by omega, by omega, by assumption, by omega⟩
                            refine lv_iload_n hx hb dX11_clash_77 rfl (lv_at hl 6 rfl) ?_
                            refine lv_if_ne (tgt := 86) hx hb dX11_clash_78 rfl (fun c_18 => ?_) (fun c_18 => ?_)
                            · exact absurd (by decide) c_18
                            · refine lv_iload hx hb dX11_clash_81 (lv_at hl 1 rfl) ?_
                              refine lv_goto (tgt := 88) hx hb dX11_clash_83 rfl ?_
                              obtain ⟨hP9, hD9⟩ := zq_sub (wc := [(om k0 a I0 (vp_updL (vp_updL J0 48 q_12) 49 q_13)), (oa (a 5) cI 201 st), (oa (a 6) cZ 201 tn), (oa (a 1) cI 201 kd), (oa (a 11) cI 201 mn), (oa (a 12) cI 8040 cx), (oa (a 13) cI 8040 cy), (oa (a 32) cI 8 q_14), (oa (a 3) cI 201 wd)]) hP hD [0, 1, 2, 3, 4, 5, 6, 7, 8] rfl rfl
                              rw [hQ9]
                              exact W.iret (v := nI a9) hx hb hr (fun t ht hW => ⟨⟨congrArg (fun z => Outcome.returned (some (Value.int z))) (show (nI a9 : Int32) = nI a7 from zn_eq (clI_u hci hit).1), q_12, q_13, q_14, by rw [ht]; exact hP9, hD9⟩, hS.F ht⟩) hS.2.2 dX11_clash_88
                        · have c_15 : ¬ (clP ft st tn kd mn cx cy wd gp9 a9 b9) := zp_0 c_15
                          refine lv_goto (tgt := 92) hx hb dX11_clash_68 rfl ?_
                          refine lv_iinc (v := nI (b9 + 1)) (lv' := [(6, .int (nI (b9 + 1))), (5, .int (nI a9)), (4, .int (nI (clT (clP ft st tn kd mn cx cy wd gp9) ft a9 + cntP (fun b => a9 < b ∧ clP ft st tn kd mn cx cy wd gp9 a9 b) b9))), (0, .ref k0), (1, .int gp9), (2, .int (nI i)), (3, .int 0)]) hx hb dX11_clash_92 hl (k := 0) rfl (nI_add b9 1) (Nat.le_of_ble_eq_true rfl) rfl (fun ls hl => ?_)
                          refine lv_goto (tgt := 47) hx hb dX11_clash_95 rfl ?_
                          have hl9 := lv_sub hl [0, 1, 2, 3, 4, 5, 6] rfl
                          have e9_4 : nI (clT (clP ft st tn kd mn cx cy wd gp9) ft a9 + cntP (fun b => a9 < b ∧ clP ft st tn kd mn cx cy wd gp9 a9 b) (b9 + 1)) = (nI (clT (clP ft st tn kd mn cx cy wd gp9) ft a9 + cntP (fun b => a9 < b ∧ clP ft st tn kd mn cx cy wd gp9 a9 b) b9) : Int32) := by first | exact zn_eq (by rw [cntP_y (P := fun b => a9 < b ∧ clP ft st tn kd mn cx cy wd gp9 a9 b) ⟨by omega, by assumption⟩]; first | done | omega) | exact zn_eq (by rw [cntP_n (P := fun b => a9 < b ∧ clP ft st tn kd mn cx cy wd gp9 a9 b) (fun h => absurd h.2 (by first | with_reducible assumption | assumption))]; first | done | omega)
                          have hl9 : lv_has ls 7 [(6, .int (nI (b9 + 1))), (5, .int (nI a9)), (4, .int (nI (clT (clP ft st tn kd mn cx cy wd gp9) ft a9 + cntP (fun b => a9 < b ∧ clP ft st tn kd mn cx cy wd gp9 a9 b) (b9 + 1)))), (0, .ref k0), (1, .int gp9), (2, .int (nI i)), (3, .int 0)] := by rw [e9_4]; exact hl9
                          exact ih_47 (b9 + 1) q_12 q_13 q_14 H locs ls (by first | with_reducible assumption | omega) (by first | with_reducible assumption | omega) (fun b8 h h2 => (by rcases Nat.lt_or_ge b8 b9 with q | q; exact hnb b8 q h2; rw [show b8 = b9 by omega] at h2; first | exact absurd h2.2.2.1 (by first | with_reducible assumption | assumption) | (have h7 := h2.2.2.2; omega))) hP hD hS hl9
                  have e9_4 : nI (clT (clP ft st tn kd mn cx cy wd gp9) ft a9 + cntP (fun b => a9 < b ∧ clP ft st tn kd mn cx cy wd gp9 a9 b) (a9 + 1)) = (nI (clT (clP ft st tn kd mn cx cy wd gp9) ft a9) : Int32) := by exact zn_eq (by rw [cl_0 (clP ft st tn kd mn cx cy wd gp9) a9 (a9 + 1) (Nat.le_refl _)]; rfl)
                  have hl9 : lv_has ls 7 [(6, .int (nI (a9 + 1))), (5, .int (nI a9)), (4, .int (nI (clT (clP ft st tn kd mn cx cy wd gp9) ft a9 + cntP (fun b => a9 < b ∧ clP ft st tn kd mn cx cy wd gp9 a9 b) (a9 + 1)))), (0, .ref k0), (1, .int gp9), (2, .int (nI i)), (3, .int 0)] := by rw [e9_4]; exact lv_sub hl [0, 1, 2, 3, 4, 5, 6] rfl
                  exact hl_47 _ (a9 + 1) u9 d9 S1 H locs ls (Nat.lt_succ_self _) (by first | with_reducible assumption | omega) (fun b8 h h2 => (by have := h2.1; omega)) hP hD hS hl9
            have e9_4 : nI (clT (clP ft st tn kd mn cx cy wd gp9) ft 0) = (0 : Int32) := by rfl
            have hl9 : lv_has ls 7 [(5, .int (nI 0)), (4, .int (nI (clT (clP ft st tn kd mn cx cy wd gp9) ft 0))), (0, .ref k0), (1, .int gp9), (2, .int (nI i)), (3, .int 0)] := by rw [e9_4]; exact lv_sub hl [0, 1, 2, 3, 4, 5] rfl
            exact hl_32 _ 0 (J0 48) (J0 49) S0 s.heap [] ls (Nat.lt_succ_self _) (by first | with_reducible assumption | omega) (fun a8 b8 h => absurd h (Nat.not_lt_zero _)) hP hD hS hl9
          · exact absurd (by decide) c_6
set_option maxHeartbeats 4000000 in
set_option maxRecDepth 100000 in
theorem k_M_clash_y1 (l : Launch) (dC : Nat → ClassId) (dI : Nat → Nat → Nat) (cI cZ cF : ClassId) (sz : Nat) (k0 : Nat) (a : Nat → Nat) (I0 : Nat → Int32) (J0 : Nat → Int64) (ft : Nat) (i : Nat) (a7 : Nat) (b7 : Nat) (gp9 : Int32) (st : Nat → Int32) (tn : Nat → Int32) (kd : Nat → Int32) (mn : Nat → Int32) (cx : Nat → Int32) (cy : Nat → Int32) (S0 : Nat → Int32) (wd : Nat → Int32) (hft : I0 0 = nI ft) (h200 : ft ≤ 200) (hwf : ∀ q, lvF ft st tn q → wfM mn cx cy q) (hef : ∀ q, lvF ft st tn q → 1 ≤ eO (kd q).toInt (nN (mn q))) (hwd : ∀ q, q < ft → 0 ≤ (wd q).toInt ∧ (wd q).toInt ≤ 100) (hgp : 0 ≤ gp9.toInt ∧ gp9.toInt ≤ 200) (hi31 : i < 2147483648) (hit : clI (clP ft st tn kd mn cx cy wd gp9) ft a7 b7 i) : Met l yX11_clash (.code yX11_clash cX11_clash 7 (some .int) :: ws0) ({ frames := 6, cells := 0, slots := 0, locals := 154 } : Room) (va_Pc [.ref k0, .int gp9, .int (nI i), .int 1] (zPre (dC, dI) classes (zTy cI cZ cF) [(om k0 a I0 J0), (oa (a 5) cI 201 st), (oa (a 6) cZ 201 tn), (oa (a 1) cI 201 kd), (oa (a 11) cI 201 mn), (oa (a 12) cI 8040 cx), (oa (a 13) cI 8040 cy), (oa (a 32) cI 8 S0), (oa (a 3) cI 201 wd)] sz zXN)) (zQ (some (.int (nI b7))) (fun t => ∃ (u9 : Int64), ∃ (d9 : Int64), ∃ (S1 : Nat → Int32), va_P (dC, dI) classes [(om k0 a I0 (vp_updL (vp_updL J0 48 u9) 49 d9)), (oa (a 5) cI 201 st), (oa (a 6) cZ 201 tn), (oa (a 1) cI 201 kd), (oa (a 11) cI 201 mn), (oa (a 12) cI 8040 cx), (oa (a 13) cI 8040 cy), (oa (a 32) cI 8 S1), (oa (a 3) cI 201 wd)] t.heap ∧ va_D (va_A [(om k0 a I0 J0), (oa (a 5) cI 201 st), (oa (a 6) cZ 201 tn), (oa (a 1) cI 201 kd), (oa (a 11) cI 201 mn), (oa (a 12) cI 8040 cx), (oa (a 13) cI 8040 cy), (oa (a 32) cI 8 S0), (oa (a 3) cI 201 wd)] sz) [(om k0 a I0 (vp_updL (vp_updL J0 48 u9) 49 d9)), (oa (a 5) cI 201 st), (oa (a 6) cZ 201 tn), (oa (a 1) cI 201 kd), (oa (a 11) cI 201 mn), (oa (a 12) cI 8040 cx), (oa (a 13) cI 8040 cy), (oa (a 32) cI 8 S1), (oa (a 3) cI 201 wd)]) (va_A [(om k0 a I0 J0), (oa (a 5) cI 201 st), (oa (a 6) cZ 201 tn), (oa (a 1) cI 201 kd), (oa (a 11) cI 201 mn), (oa (a 12) cI 8040 cx), (oa (a 13) cI 8040 cy), (oa (a 32) cI 8 S0), (oa (a 3) cI 201 wd)] sz)) 0 0 (va_A [(om k0 a I0 J0), (oa (a 5) cI 201 st), (oa (a 6) cZ 201 tn), (oa (a 1) cI 201 kd), (oa (a 11) cI 201 mn), (oa (a 12) cI 8040 cx), (oa (a 13) cI 8040 cy), (oa (a 32) cI 8 S0), (oa (a 3) cI 201 wd)] sz) := by
  refine Met.ofW (cc := cX11_clash) (maxL := 7) (ret := (some .int)) rfl rfl ?_
  intro p e s m args below meth c s₁ B hml hv
  obtain ⟨rfl, hsz, hP, hK, hD0, hXN⟩ := hv
  have hx := B.exec
  have hb := B.bytes
  have hr := B.returns
  have hts0 := atoms_spec (ws := .code yX11_clash cX11_clash 7 (some .int) :: ws0) B.pre
  have hts : ∀ w9 ∈ ws0, w9.before ([.ref k0, .int gp9, .int (nI i), .int 1] : List Value).toArray s = true := fun w9 h => hts0 w9 (List.mem_cons_of_mem _ h)
  have hown : s.vm.findClass "ScaleShopModel" = some m.cls := findClass_of_methodNamed B.named
  have hlocks := B.notSynchronized
  subst hsz
  have hD := hD0.self (sz := s.heap.size)
  clear hD0
  generalize hAe : va_A [(om k0 a I0 J0), (oa (a 5) cI 201 st), (oa (a 6) cZ 201 tn), (oa (a 1) cI 201 kd), (oa (a 11) cI 201 mn), (oa (a 12) cI 8040 cx), (oa (a 13) cI 8040 cy), (oa (a 32) cI 8 S0), (oa (a 3) cI 201 wd)] s.heap.size = A at hD ⊢
  have hA : ∀ q : Nat, s.heap.size ≤ q → A q := fun q h => by rw [← hAe]; exact Or.inr h
  clear hAe
  have hS : va_S A s.heap s.heap [] := va_S.rf
  have hP : va_P (dC, dI) classes [(om k0 a I0 J0), (oa (a 5) cI 201 st), (oa (a 6) cZ 201 tn), (oa (a 1) cI 201 kd), (oa (a 11) cI 201 mn), (oa (a 12) cI 8040 cx), (oa (a 13) cI 8040 cy), (oa (a 32) cI 8 S0), (oa (a 3) cI 201 wd)] s.heap := hP
  obtain ⟨Q9, hQ9⟩ : ∃ Q9 : State → Prop, Q9 = MQ below (zQ (some (.int (nI b7))) (fun t => ∃ (u9 : Int64), ∃ (d9 : Int64), ∃ (S1 : Nat → Int32), va_P (dC, dI) classes [(om k0 a I0 (vp_updL (vp_updL J0 48 u9) 49 d9)), (oa (a 5) cI 201 st), (oa (a 6) cZ 201 tn), (oa (a 1) cI 201 kd), (oa (a 11) cI 201 mn), (oa (a 12) cI 8040 cx), (oa (a 13) cI 8040 cy), (oa (a 32) cI 8 S1), (oa (a 3) cI 201 wd)] t.heap ∧ va_D A [(om k0 a I0 (vp_updL (vp_updL J0 48 u9) 49 d9)), (oa (a 5) cI 201 st), (oa (a 6) cZ 201 tn), (oa (a 1) cI 201 kd), (oa (a 11) cI 201 mn), (oa (a 12) cI 8040 cx), (oa (a 13) cI 8040 cy), (oa (a 32) cI 8 S1), (oa (a 3) cI 201 wd)]) A) ([.ref k0, .int gp9, .int (nI i), .int 1] : List Value).toArray s 0 0 A := ⟨_, rfl⟩
  rw [← hQ9]
  have hl := lv_entry ([.ref k0, .int gp9, .int (nI i), .int 1]) (n := 7) (Nat.le_of_ble_eq_true rfl)
  rw [lg_entry_eq]
  generalize (lg_sl ([.ref k0, .int gp9, .int (nI i), .int 1]) ++ List.replicate (7 - (lg_sl ([.ref k0, .int gp9, .int (nI i), .int 1])).length) Slot.unset).toArray = ls at hl ⊢
  have hl : lv_has ls 7 [(0, .ref k0), (1, .int gp9), (2, .int (nI i)), (3, .int 1)] := hl
  refine lv_iload_n hx hb dX11_clash_0 rfl (lv_at hl 1 rfl) ?_
  refine lv_if_lt (tgt := 24) hx hb dX11_clash_1 rfl (fun c_1 => ?_) (fun c_1 => ?_)
  · have c_1 : gp9.toInt < 0 := zc_lt rfl rfl c_1
    exfalso; omega
  · have c_1 : 0 ≤ gp9.toInt := zc_nlt rfl rfl c_1
    refine lv_iload_n hx hb dX11_clash_4 rfl (lv_at hl 1 rfl) ?_
    refine lv_sipush (v := 200) hx hb dX11_clash_5 rfl ?_
    refine lv_icmp_gt (tgt := 24) hx hb dX11_clash_8 rfl (fun c_2 => ?_) (fun c_2 => ?_)
    · have c_2 : 200 < gp9.toInt := zc_lt rfl rfl c_2
      exfalso; omega
    · have c_2 : gp9.toInt ≤ 200 := zc_nlt rfl rfl c_2
      refine lv_iload_n hx hb dX11_clash_11 rfl (lv_at hl 2 rfl) ?_
      have b9_4 : i < 2147483648 := by omega
      refine lv_if_lt (tgt := 24) hx hb dX11_clash_12 rfl (fun c_3 => ?_) (fun c_3 => ?_)
      · have c_3 : ((i : Nat) : Int) < 0 := zc_lt (nI_toInt b9_4) rfl c_3
        exfalso; omega
      · have c_3 : 0 ≤ ((i : Nat) : Int) := zc_nlt (nI_toInt b9_4) rfl c_3
        refine lv_iload_n hx hb dX11_clash_15 rfl (lv_at hl 3 rfl) ?_
        refine lv_if_lt (tgt := 24) hx hb dX11_clash_16 rfl (fun c_5 => ?_) (fun c_5 => ?_)
        · exact absurd c_5 (by decide)
        · refine lv_iload_n hx hb dX11_clash_19 rfl (lv_at hl 3 rfl) ?_
          refine lv_iconst (v := 1) hx hb dX11_clash_20 rfl ?_
          refine lv_icmp_le (tgt := 26) hx hb dX11_clash_21 rfl (fun c_6 => ?_) (fun c_6 => ?_)
          · refine lv_iconst (v := 0) hx hb dX11_clash_26 rfl ?_
            refine lv_istore (lv' := [(4, .int 0), (0, .ref k0), (1, .int gp9), (2, .int (nI i)), (3, .int 1)]) hx hb dX11_clash_27 hl (Nat.le_of_ble_eq_true rfl) rfl (fun ls hl => ?_)
            refine lv_iconst (v := 0) hx hb dX11_clash_29 rfl ?_
            refine lv_istore (lv' := [(5, .int 0), (4, .int 0), (0, .ref k0), (1, .int gp9), (2, .int (nI i)), (3, .int 1)]) hx hb dX11_clash_30 hl (Nat.le_of_ble_eq_true rfl) rfl (fun ls hl => ?_)
            have hl_32 : ∀ (n9 : Nat) (a9 : Nat) (u9 : Int64) (d9 : Int64) (S1 : Nat → Int32) (H : Heap) (locs : List Loc) (ls : Array Slot), ft - a9 < n9 → (a9 ≤ ft) → (∀ a8 b8, a8 < a9 → ¬ clI (clP ft st tn kd mn cx cy wd gp9) ft a8 b8 i) → va_P (dC, dI) classes [(om k0 a I0 (vp_updL (vp_updL J0 48 u9) 49 d9)), (oa (a 5) cI 201 st), (oa (a 6) cZ 201 tn), (oa (a 1) cI 201 kd), (oa (a 11) cI 201 mn), (oa (a 12) cI 8040 cx), (oa (a 13) cI 8040 cy), (oa (a 32) cI 8 S1), (oa (a 3) cI 201 wd)] H → va_D A [(om k0 a I0 (vp_updL (vp_updL J0 48 u9) 49 d9)), (oa (a 5) cI 201 st), (oa (a 6) cZ 201 tn), (oa (a 1) cI 201 kd), (oa (a 11) cI 201 mn), (oa (a 12) cI 8040 cx), (oa (a 13) cI 8040 cy), (oa (a 32) cI 8 S1), (oa (a 3) cI 201 wd)] → va_S A s.heap H locs → lv_has ls 7 [(5, .int (nI a9)), (4, .int (nI (clT (clP ft st tn kd mn cx cy wd gp9) ft a9))), (0, .ref k0), (1, .int gp9), (2, .int (nI i)), (3, .int 1)] → W p l e ((headSpec (.code yX11_clash cX11_clash 7 (some .int) :: ws0) ({ frames := 6, cells := 0, slots := 0, locals := 154 } : Room)).room) s m ([.ref k0, .int gp9, .int (nI i), .int 1] : List Value).toArray below meth c H locs 0 0 Q9 (F0 m 32 ls []) := by
              intro n9
              induction n9 with
              | zero => intro a9 u9 d9 S1 H locs ls hm; exact absurd hm (Nat.not_lt_zero _)
              | succ n9 ih_32 =>
                intro a9 u9 d9 S1 H locs ls hm ha9 hno hP hD hS hl
                have hct := clT_200 (clP ft st tn kd mn cx cy wd gp9) h200 ha9
                refine lv_iload hx hb dX11_clash_32 (lv_at hl 0 rfl) ?_
                refine lv_aload_n hx hb dX11_clash_34 rfl (lv_at hl 2 rfl) ?_
                refine va_get (D := (dC, dI)) (ci := 9) (v := .int (I0 0)) (C := RX11) (T := TX11) (N := 55) hx hb hts inX11 hown hK hP 0 rfl rfl 0 (Nat.le_of_ble_eq_true rfl) (hts _ mw_1159) (fun _ h9 => h9) rfl dX11_clash_35 ?_
                refine zz_i (v := nI ft) (hft) ?_
                have b9_8 : a9 < 2147483648 := by omega
                have b9_9 : ft < 2147483648 := by omega
                refine lv_icmp_ge (tgt := 104) hx hb dX11_clash_38 rfl (fun c_7 => ?_) (fun c_7 => ?_)
                · have c_7 : ((ft : Nat) : Int) ≤ ((a9 : Nat) : Int) := zc_le (nI_toInt b9_9) (nI_toInt b9_8) c_7
                  exfalso; exact hno a7 b7 (by have := hit.1; have := hit.2.1; omega) hit
                · have c_7 : ((a9 : Nat) : Int) < ((ft : Nat) : Int) := zc_nle (nI_toInt b9_9) (nI_toInt b9_8) c_7
                  refine lv_iload hx hb dX11_clash_41 (lv_at hl 0 rfl) ?_
                  refine lv_iconst (v := 1) hx hb dX11_clash_43 rfl ?_
                  refine lv_iadd hx hb dX11_clash_44 ?_
                  refine zz_i (v := nI (a9 + 1)) (nI_add a9 1) ?_
                  refine lv_istore (lv' := [(6, .int (nI (a9 + 1))), (5, .int (nI a9)), (4, .int (nI (clT (clP ft st tn kd mn cx cy wd gp9) ft a9))), (0, .ref k0), (1, .int gp9), (2, .int (nI i)), (3, .int 1)]) hx hb dX11_clash_45 hl (Nat.le_of_ble_eq_true rfl) rfl (fun ls hl => ?_)
                  have hl_47 : ∀ (n9 : Nat) (b9 : Nat) (u9 : Int64) (d9 : Int64) (S1 : Nat → Int32) (H : Heap) (locs : List Loc) (ls : Array Slot), ft - b9 < n9 → (a9 < b9 ∧ b9 ≤ ft) → (∀ b8, b8 < b9 → ¬ clI (clP ft st tn kd mn cx cy wd gp9) ft a9 b8 i) → va_P (dC, dI) classes [(om k0 a I0 (vp_updL (vp_updL J0 48 u9) 49 d9)), (oa (a 5) cI 201 st), (oa (a 6) cZ 201 tn), (oa (a 1) cI 201 kd), (oa (a 11) cI 201 mn), (oa (a 12) cI 8040 cx), (oa (a 13) cI 8040 cy), (oa (a 32) cI 8 S1), (oa (a 3) cI 201 wd)] H → va_D A [(om k0 a I0 (vp_updL (vp_updL J0 48 u9) 49 d9)), (oa (a 5) cI 201 st), (oa (a 6) cZ 201 tn), (oa (a 1) cI 201 kd), (oa (a 11) cI 201 mn), (oa (a 12) cI 8040 cx), (oa (a 13) cI 8040 cy), (oa (a 32) cI 8 S1), (oa (a 3) cI 201 wd)] → va_S A s.heap H locs → lv_has ls 7 [(6, .int (nI b9)), (5, .int (nI a9)), (4, .int (nI (clT (clP ft st tn kd mn cx cy wd gp9) ft a9 + cntP (fun b => a9 < b ∧ clP ft st tn kd mn cx cy wd gp9 a9 b) b9))), (0, .ref k0), (1, .int gp9), (2, .int (nI i)), (3, .int 1)] → W p l e ((headSpec (.code yX11_clash cX11_clash 7 (some .int) :: ws0) ({ frames := 6, cells := 0, slots := 0, locals := 154 } : Room)).room) s m ([.ref k0, .int gp9, .int (nI i), .int 1] : List Value).toArray below meth c H locs 0 0 Q9 (F0 m 47 ls []) := by
                    intro n9
                    induction n9 with
                    | zero => intro b9 u9 d9 S1 H locs ls hm; exact absurd hm (Nat.not_lt_zero _)
                    | succ n9 ih_47 =>
                      intro b9 u9 d9 S1 H locs ls hm hb9 hnb hP hD hS hl
                      have hcn := cntP_b (fun b => a9 < b ∧ clP ft st tn kd mn cx cy wd gp9 a9 b) b9
                      refine lv_iload hx hb dX11_clash_47 (lv_at hl 0 rfl) ?_
                      refine lv_aload_n hx hb dX11_clash_49 rfl (lv_at hl 3 rfl) ?_
                      refine va_get (D := (dC, dI)) (ci := 9) (v := .int (I0 0)) (C := RX11) (T := TX11) (N := 55) hx hb hts inX11 hown hK hP 0 rfl rfl 0 (Nat.le_of_ble_eq_true rfl) (hts _ mw_1159) (fun _ h9 => h9) rfl dX11_clash_50 ?_
                      refine zz_i (v := nI ft) (hft) ?_
                      have b9_11 : b9 < 2147483648 := by omega
                      refine lv_icmp_ge (tgt := 98) hx hb dX11_clash_53 rfl (fun c_10 => ?_) (fun c_10 => ?_)
                      · have c_10 : ((ft : Nat) : Int) ≤ ((b9 : Nat) : Int) := zc_le (nI_toInt b9_9) (nI_toInt b9_11) c_10
                        refine lv_iinc (v := nI (a9 + 1)) (lv' := [(5, .int (nI (a9 + 1))), (6, .int (nI b9)), (4, .int (nI (clT (clP ft st tn kd mn cx cy wd gp9) ft a9 + cntP (fun b => a9 < b ∧ clP ft st tn kd mn cx cy wd gp9 a9 b) b9))), (0, .ref k0), (1, .int gp9), (2, .int (nI i)), (3, .int 1)]) hx hb dX11_clash_98 hl (k := 1) rfl (nI_add a9 1) (Nat.le_of_ble_eq_true rfl) rfl (fun ls hl => ?_)
                        refine lv_goto (tgt := 32) hx hb dX11_clash_101 rfl ?_
                        have hl9 := lv_sub hl [0, 2, 3, 4, 5, 6] rfl
                        have e9_4 : nI (clT (clP ft st tn kd mn cx cy wd gp9) ft (a9 + 1)) = (nI (clT (clP ft st tn kd mn cx cy wd gp9) ft a9 + cntP (fun b => a9 < b ∧ clP ft st tn kd mn cx cy wd gp9 a9 b) b9) : Int32) := by exact zn_eq (by rw [show b9 = ft by omega]; rfl)
                        have hl9 : lv_has ls 7 [(5, .int (nI (a9 + 1))), (4, .int (nI (clT (clP ft st tn kd mn cx cy wd gp9) ft (a9 + 1)))), (0, .ref k0), (1, .int gp9), (2, .int (nI i)), (3, .int 1)] := by rw [e9_4]; exact hl9
                        exact ih_32 (a9 + 1) u9 d9 S1 H locs ls (by first | with_reducible assumption | omega) (by first | with_reducible assumption | omega) (fun a8 b8 h h2 => (by rcases Nat.lt_or_ge a8 a9 with q | q; exact hno a8 b8 q h2; rw [show a8 = a9 by omega] at h2; exact hnb b8 (by have := h2.2.1; omega) h2)) hP hD hS hl9
                      · have c_10 : ((b9 : Nat) : Int) < ((ft : Nat) : Int) := zc_nle (nI_toInt b9_9) (nI_toInt b9_11) c_10
                        refine lv_aload_n hx hb dX11_clash_56 rfl (lv_at hl 3 rfl) ?_
                        refine lv_iload hx hb dX11_clash_57 (lv_at hl 1 rfl) ?_
                        refine lv_iload hx hb dX11_clash_59 (lv_at hl 0 rfl) ?_
                        refine lv_iload_n hx hb dX11_clash_61 rfl (lv_at hl 4 rfl) ?_
                        obtain ⟨hPc, hDc, hFc⟩ := zc_sub (wc := [(om k0 a I0 (vp_updL (vp_updL J0 48 u9) 49 d9)), (oa (a 5) cI 201 st), (oa (a 6) cZ 201 tn), (oa (a 1) cI 201 kd), (oa (a 11) cI 201 mn), (oa (a 12) cI 8040 cx), (oa (a 13) cI 8040 cy), (oa (a 32) cI 8 S1), (oa (a 3) cI 201 wd)]) hP hD hS hA [0, 1, 2, 3, 4, 5, 6, 7, 8] rfl rfl
                        refine zcall (st1 := [.int (pI (clP ft st tn kd mn cx cy wd gp9 a9 b9))]) (va_runV (As := [.int (nI a9), .int (nI b9), .int gp9]) (rest := []) ⟨hx, hb, hml, hown, hts⟩ (k_M_isClash l dC dI cI cZ cF H.size k0 a I0 (vp_updL (vp_updL J0 48 u9) 49 d9) a9 b9 ft gp9 st tn kd mn cx cy S1 wd (by first | with_reducible assumption | assumption) (by first | with_reducible assumption | omega) (by first | with_reducible assumption | assumption) (by first | with_reducible assumption | assumption) (by first | with_reducible assumption | assumption) (by first | with_reducible assumption | assumption) (by first | with_reducible assumption | omega) (by first | with_reducible assumption | omega)) (csV_230 hts rfl rfl ⟨Nat.le_of_ble_eq_true rfl, Nat.le_of_ble_eq_true rfl⟩) (zPV2 (q0 := 0) (ci := 9) hPc hDc hK hXN rfl rfl) rfl rfl hl.1 rfl (lv_room (Nat.le_of_ble_eq_true rfl)) dX11_clash_62 ⟨Nat.le_of_ble_eq_true rfl, Nat.le_of_ble_eq_true rfl⟩) hS hFc hFc rfl (fun t H locs ht hB hk1 hS => ?_)
                        obtain ⟨q_12, q_13, q_14, hP1, hD1⟩ := hB
                        rw [ht] at hP1
                        obtain ⟨hP, hD⟩ := zk (W2 := [(om k0 a I0 (vp_updL (vp_updL J0 48 q_12) 49 q_13)), (oa (a 5) cI 201 st), (oa (a 6) cZ 201 tn), (oa (a 1) cI 201 kd), (oa (a 11) cI 201 mn), (oa (a 12) cI 8040 cx), (oa (a 13) cI 8040 cy), (oa (a 32) cI 8 q_14), (oa (a 3) cI 201 wd)]) hP hD [0, 1, 2, 3, 4, 5, 6, 7, 8] [] [] [0, 1, 2, 3, 4, 5, 6, 7, 8] [0, 1, 2, 3, 4, 5, 6, 7, 8] 9 rfl rfl rfl rfl rfl rfl rfl rfl rfl hk1 hFc hP1 hD1
                        clear hk1 hPc hDc hFc hP1 hD1 ht
                        refine lv_if_ne (tgt := 71) hx hb dX11_clash_65 rfl (fun c_15 => ?_) (fun c_15 => ?_)
                        · have c_15 : clP ft st tn kd mn cx cy wd gp9 a9 b9 := zp_1 c_15
                          refine lv_iload hx hb dX11_clash_71 (lv_at hl 2 rfl) ?_
                          refine lv_iload_n hx hb dX11_clash_73 rfl (lv_at hl 5 rfl) ?_
                          have b9_17 : (clT (clP ft st tn kd mn cx cy wd gp9) ft a9 + cntP (fun b => a9 < b ∧ clP ft st tn kd mn cx cy wd gp9 a9 b) b9) < 2147483648 := by omega
                          refine lv_icmp_ne (tgt := 89) hx hb dX11_clash_74 rfl (fun c_16 => ?_) (fun c_16 => ?_)
                          · have c_16 : ¬ ((clT (clP ft st tn kd mn cx cy wd gp9) ft a9 + cntP (fun b => a9 < b ∧ clP ft st tn kd mn cx cy wd gp9 a9 b) b9 : Nat) : Int) = ((i : Nat) : Int) := zc_ne (nI_toInt b9_17) (nI_toInt b9_4) c_16
                            refine lv_iinc (v := nI ((clT (clP ft st tn kd mn cx cy wd gp9) ft a9 + cntP (fun b => a9 < b ∧ clP ft st tn kd mn cx cy wd gp9 a9 b) b9) + 1)) (lv' := [(4, .int (nI ((clT (clP ft st tn kd mn cx cy wd gp9) ft a9 + cntP (fun b => a9 < b ∧ clP ft st tn kd mn cx cy wd gp9 a9 b) b9) + 1))), (6, .int (nI b9)), (5, .int (nI a9)), (0, .ref k0), (1, .int gp9), (2, .int (nI i)), (3, .int 1)]) hx hb dX11_clash_89 hl (k := 2) rfl (nI_add (clT (clP ft st tn kd mn cx cy wd gp9) ft a9 + cntP (fun b => a9 < b ∧ clP ft st tn kd mn cx cy wd gp9 a9 b) b9) 1) (Nat.le_of_ble_eq_true rfl) rfl (fun ls hl => ?_)
                            refine lv_iinc (v := nI (b9 + 1)) (lv' := [(6, .int (nI (b9 + 1))), (4, .int (nI ((clT (clP ft st tn kd mn cx cy wd gp9) ft a9 + cntP (fun b => a9 < b ∧ clP ft st tn kd mn cx cy wd gp9 a9 b) b9) + 1))), (5, .int (nI a9)), (0, .ref k0), (1, .int gp9), (2, .int (nI i)), (3, .int 1)]) hx hb dX11_clash_92 hl (k := 1) rfl (nI_add b9 1) (Nat.le_of_ble_eq_true rfl) rfl (fun ls hl => ?_)
                            refine lv_goto (tgt := 47) hx hb dX11_clash_95 rfl ?_
                            have hl9 := lv_sub hl [0, 2, 1, 3, 4, 5, 6] rfl
                            have e9_4 : nI (clT (clP ft st tn kd mn cx cy wd gp9) ft a9 + cntP (fun b => a9 < b ∧ clP ft st tn kd mn cx cy wd gp9 a9 b) (b9 + 1)) = (nI ((clT (clP ft st tn kd mn cx cy wd gp9) ft a9 + cntP (fun b => a9 < b ∧ clP ft st tn kd mn cx cy wd gp9 a9 b) b9) + 1) : Int32) := by first | exact zn_eq (by rw [cntP_y (P := fun b => a9 < b ∧ clP ft st tn kd mn cx cy wd gp9 a9 b) ⟨by omega, by assumption⟩]; first | done | omega) | exact zn_eq (by rw [cntP_n (P := fun b => a9 < b ∧ clP ft st tn kd mn cx cy wd gp9 a9 b) (fun h => absurd h.2 (by first | with_reducible assumption | assumption))]; first | done | omega)
                            have hl9 : lv_has ls 7 [(6, .int (nI (b9 + 1))), (5, .int (nI a9)), (4, .int (nI (clT (clP ft st tn kd mn cx cy wd gp9) ft a9 + cntP (fun b => a9 < b ∧ clP ft st tn kd mn cx cy wd gp9 a9 b) (b9 + 1)))), (0, .ref k0), (1, .int gp9), (2, .int (nI i)), (3, .int 1)] := by rw [e9_4]; exact hl9
                            exact ih_47 (b9 + 1) q_12 q_13 q_14 H locs ls (by first | with_reducible assumption | omega) (by first | with_reducible assumption | omega) (fun b8 h h2 => (by rcases Nat.lt_or_ge b8 b9 with q | q; exact hnb b8 q h2; rw [show b8 = b9 by omega] at h2; first | exact absurd h2.2.2.1 (by first | with_reducible assumption | assumption) | (have h7 := h2.2.2.2; omega))) hP hD hS hl9
                          · have c_16 : ((clT (clP ft st tn kd mn cx cy wd gp9) ft a9 + cntP (fun b => a9 < b ∧ clP ft st tn kd mn cx cy wd gp9 a9 b) b9 : Nat) : Int) = ((i : Nat) : Int) := zc_eq (nI_toInt b9_17) (nI_toInt b9_4) c_16
                            have hci : clI (clP ft st tn kd mn cx cy wd gp9) ft a9 b9 i := ⟨by omega, by omega, by assumption, by omega⟩
                            refine lv_iload_n hx hb dX11_clash_77 rfl (lv_at hl 6 rfl) ?_
                            refine lv_if_ne (tgt := 86) hx hb dX11_clash_78 rfl (fun c_18 => ?_) (fun c_18 => ?_)
                            · refine lv_iload hx hb dX11_clash_86 (lv_at hl 0 rfl) ?_
                              obtain ⟨hP9, hD9⟩ := zq_sub (wc := [(om k0 a I0 (vp_updL (vp_updL J0 48 q_12) 49 q_13)), (oa (a 5) cI 201 st), (oa (a 6) cZ 201 tn), (oa (a 1) cI 201 kd), (oa (a 11) cI 201 mn), (oa (a 12) cI 8040 cx), (oa (a 13) cI 8040 cy), (oa (a 32) cI 8 q_14), (oa (a 3) cI 201 wd)]) hP hD [0, 1, 2, 3, 4, 5, 6, 7, 8] rfl rfl
                              rw [hQ9]
                              exact W.iret (v := nI b9) hx hb hr (fun t ht hW => ⟨⟨congrArg (fun z => Outcome.returned (some (Value.int z))) (show (nI b9 : Int32) = nI b7 from zn_eq (clI_u hci hit).2), q_12, q_13, q_14, by rw [ht]; exact hP9, hD9⟩, hS.F ht⟩) hS.2.2 dX11_clash_88
                            · exact absurd c_18 (by decide)
                        · have c_15 : ¬ (clP ft st tn kd mn cx cy wd gp9 a9 b9) := zp_0 c_15
                          refine lv_goto (tgt := 92) hx hb dX11_clash_68 rfl ?_
                          refine lv_iinc (v := nI (b9 + 1)) (lv' := [(6, .int (nI (b9 + 1))), (5, .int (nI a9)), (4, .int (nI (clT (clP ft st tn kd mn cx cy wd gp9) ft a9 + cntP (fun b => a9 < b ∧ clP ft st tn kd mn cx cy wd gp9 a9 b) b9))), (0, .ref k0), (1, .int gp9), (2, .int (nI i)), (3, .int 1)]) hx hb dX11_clash_92 hl (k := 0) rfl (nI_add b9 1) (Nat.le_of_ble_eq_true rfl) rfl (fun ls hl => ?_)
                          refine lv_goto (tgt := 47) hx hb dX11_clash_95 rfl ?_
                          have hl9 := lv_sub hl [0, 1, 2, 3, 4, 5, 6] rfl
                          have e9_4 : nI (clT (clP ft st tn kd mn cx cy wd gp9) ft a9 + cntP (fun b => a9 < b ∧ clP ft st tn kd mn cx cy wd gp9 a9 b) (b9 + 1)) = (nI (clT (clP ft st tn kd mn cx cy wd gp9) ft a9 + cntP (fun b => a9 < b ∧ clP ft st tn kd mn cx cy wd gp9 a9 b) b9) : Int32) := by first | exact zn_eq (by rw [cntP_y (P := fun b => a9 < b ∧ clP ft st tn kd mn cx cy wd gp9 a9 b) ⟨by omega, by assumption⟩]; first | done | omega) | exact zn_eq (by rw [cntP_n (P := fun b => a9 < b ∧ clP ft st tn kd mn cx cy wd gp9 a9 b) (fun h => absurd h.2 (by first | with_reducible assumption | assumption))]; first | done | omega)
                          have hl9 : lv_has ls 7 [(6, .int (nI (b9 + 1))), (5, .int (nI a9)), (4, .int (nI (clT (clP ft st tn kd mn cx cy wd gp9) ft a9 + cntP (fun b => a9 < b ∧ clP ft st tn kd mn cx cy wd gp9 a9 b) (b9 + 1)))), (0, .ref k0), (1, .int gp9), (2, .int (nI i)), (3, .int 1)] := by rw [e9_4]; exact hl9
                          exact ih_47 (b9 + 1) q_12 q_13 q_14 H locs ls (by first | with_reducible assumption | omega) (by first | with_reducible assumption | omega) (fun b8 h h2 => (by rcases Nat.lt_or_ge b8 b9 with q | q; exact hnb b8 q h2; rw [show b8 = b9 by omega] at h2; first | exact absurd h2.2.2.1 (by first | with_reducible assumption | assumption) | (have h7 := h2.2.2.2; omega))) hP hD hS hl9
                  have e9_4 : nI (clT (clP ft st tn kd mn cx cy wd gp9) ft a9 + cntP (fun b => a9 < b ∧ clP ft st tn kd mn cx cy wd gp9 a9 b) (a9 + 1)) = (nI (clT (clP ft st tn kd mn cx cy wd gp9) ft a9) : Int32) := by exact zn_eq (by rw [cl_0 (clP ft st tn kd mn cx cy wd gp9) a9 (a9 + 1) (Nat.le_refl _)]; rfl)
                  have hl9 : lv_has ls 7 [(6, .int (nI (a9 + 1))), (5, .int (nI a9)), (4, .int (nI (clT (clP ft st tn kd mn cx cy wd gp9) ft a9 + cntP (fun b => a9 < b ∧ clP ft st tn kd mn cx cy wd gp9 a9 b) (a9 + 1)))), (0, .ref k0), (1, .int gp9), (2, .int (nI i)), (3, .int 1)] := by rw [e9_4]; exact lv_sub hl [0, 1, 2, 3, 4, 5, 6] rfl
                  exact hl_47 _ (a9 + 1) u9 d9 S1 H locs ls (Nat.lt_succ_self _) (by first | with_reducible assumption | omega) (fun b8 h h2 => (by have := h2.1; omega)) hP hD hS hl9
            have e9_4 : nI (clT (clP ft st tn kd mn cx cy wd gp9) ft 0) = (0 : Int32) := by rfl
            have hl9 : lv_has ls 7 [(5, .int (nI 0)), (4, .int (nI (clT (clP ft st tn kd mn cx cy wd gp9) ft 0))), (0, .ref k0), (1, .int gp9), (2, .int (nI i)), (3, .int 1)] := by rw [e9_4]; exact lv_sub hl [0, 1, 2, 3, 4, 5] rfl
            exact hl_32 _ 0 (J0 48) (J0 49) S0 s.heap [] ls (Nat.lt_succ_self _) (by first | with_reducible assumption | omega) (fun a8 b8 h => absurd h (Nat.not_lt_zero _)) hP hD hS hl9
          · exact absurd (by decide) c_6
set_option maxHeartbeats 4000000 in
set_option maxRecDepth 100000 in
theorem k_M_clash_n (l : Launch) (dC : Nat → ClassId) (dI : Nat → Nat → Nat) (cI cZ cF : ClassId) (sz : Nat) (k0 : Nat) (a : Nat → Nat) (I0 : Nat → Int32) (J0 : Nat → Int64) (ft : Nat) (i : Nat) (gp9 : Int32) (w : Int32) (st : Nat → Int32) (tn : Nat → Int32) (kd : Nat → Int32) (mn : Nat → Int32) (cx : Nat → Int32) (cy : Nat → Int32) (S0 : Nat → Int32) (wd : Nat → Int32) (hft : I0 0 = nI ft) (h200 : ft ≤ 200) (hwf : ∀ q, lvF ft st tn q → wfM mn cx cy q) (hef : ∀ q, lvF ft st tn q → 1 ≤ eO (kd q).toInt (nN (mn q))) (hwd : ∀ q, q < ft → 0 ≤ (wd q).toInt ∧ (wd q).toInt ≤ 100) (hgp : 0 ≤ gp9.toInt ∧ gp9.toInt ≤ 200) (hi31 : i < 2147483648) (hw9 : 0 ≤ w.toInt ∧ w.toInt ≤ 1) (hit : ∀ a7 b7, ¬ clI (clP ft st tn kd mn cx cy wd gp9) ft a7 b7 i) : Met l yX11_clash (.code yX11_clash cX11_clash 7 (some .int) :: ws0) ({ frames := 6, cells := 0, slots := 0, locals := 154 } : Room) (va_Pc [.ref k0, .int gp9, .int (nI i), .int w] (zPre (dC, dI) classes (zTy cI cZ cF) [(om k0 a I0 J0), (oa (a 5) cI 201 st), (oa (a 6) cZ 201 tn), (oa (a 1) cI 201 kd), (oa (a 11) cI 201 mn), (oa (a 12) cI 8040 cx), (oa (a 13) cI 8040 cy), (oa (a 32) cI 8 S0), (oa (a 3) cI 201 wd)] sz zXN)) (zQ (some (.int (-1))) (fun t => ∃ (u9 : Int64), ∃ (d9 : Int64), ∃ (S1 : Nat → Int32), va_P (dC, dI) classes [(om k0 a I0 (vp_updL (vp_updL J0 48 u9) 49 d9)), (oa (a 5) cI 201 st), (oa (a 6) cZ 201 tn), (oa (a 1) cI 201 kd), (oa (a 11) cI 201 mn), (oa (a 12) cI 8040 cx), (oa (a 13) cI 8040 cy), (oa (a 32) cI 8 S1), (oa (a 3) cI 201 wd)] t.heap ∧ va_D (va_A [(om k0 a I0 J0), (oa (a 5) cI 201 st), (oa (a 6) cZ 201 tn), (oa (a 1) cI 201 kd), (oa (a 11) cI 201 mn), (oa (a 12) cI 8040 cx), (oa (a 13) cI 8040 cy), (oa (a 32) cI 8 S0), (oa (a 3) cI 201 wd)] sz) [(om k0 a I0 (vp_updL (vp_updL J0 48 u9) 49 d9)), (oa (a 5) cI 201 st), (oa (a 6) cZ 201 tn), (oa (a 1) cI 201 kd), (oa (a 11) cI 201 mn), (oa (a 12) cI 8040 cx), (oa (a 13) cI 8040 cy), (oa (a 32) cI 8 S1), (oa (a 3) cI 201 wd)]) (va_A [(om k0 a I0 J0), (oa (a 5) cI 201 st), (oa (a 6) cZ 201 tn), (oa (a 1) cI 201 kd), (oa (a 11) cI 201 mn), (oa (a 12) cI 8040 cx), (oa (a 13) cI 8040 cy), (oa (a 32) cI 8 S0), (oa (a 3) cI 201 wd)] sz)) 0 0 (va_A [(om k0 a I0 J0), (oa (a 5) cI 201 st), (oa (a 6) cZ 201 tn), (oa (a 1) cI 201 kd), (oa (a 11) cI 201 mn), (oa (a 12) cI 8040 cx), (oa (a 13) cI 8040 cy), (oa (a 32) cI 8 S0), (oa (a 3) cI 201 wd)] sz) := by
  refine Met.ofW (cc := cX11_clash) (maxL := 7) (ret := (some .int)) rfl rfl ?_
  intro p e s m args below meth c s₁ B hml hv
  obtain ⟨rfl, hsz, hP, hK, hD0, hXN⟩ := hv
  have hx := B.exec
  have hb := B.bytes
  have hr := B.returns
  have hts0 := atoms_spec (ws := .code yX11_clash cX11_clash 7 (some .int) :: ws0) B.pre
  have hts : ∀ w9 ∈ ws0, w9.before ([.ref k0, .int gp9, .int (nI i), .int w] : List Value).toArray s = true := fun w9 h => hts0 w9 (List.mem_cons_of_mem _ h)
  have hown : s.vm.findClass "ScaleShopModel" = some m.cls := findClass_of_methodNamed B.named
  have hlocks := B.notSynchronized
  subst hsz
  have hD := hD0.self (sz := s.heap.size)
  clear hD0
  generalize hAe : va_A [(om k0 a I0 J0), (oa (a 5) cI 201 st), (oa (a 6) cZ 201 tn), (oa (a 1) cI 201 kd), (oa (a 11) cI 201 mn), (oa (a 12) cI 8040 cx), (oa (a 13) cI 8040 cy), (oa (a 32) cI 8 S0), (oa (a 3) cI 201 wd)] s.heap.size = A at hD ⊢
  have hA : ∀ q : Nat, s.heap.size ≤ q → A q := fun q h => by rw [← hAe]; exact Or.inr h
  clear hAe
  have hS : va_S A s.heap s.heap [] := va_S.rf
  have hP : va_P (dC, dI) classes [(om k0 a I0 J0), (oa (a 5) cI 201 st), (oa (a 6) cZ 201 tn), (oa (a 1) cI 201 kd), (oa (a 11) cI 201 mn), (oa (a 12) cI 8040 cx), (oa (a 13) cI 8040 cy), (oa (a 32) cI 8 S0), (oa (a 3) cI 201 wd)] s.heap := hP
  obtain ⟨Q9, hQ9⟩ : ∃ Q9 : State → Prop, Q9 = MQ below (zQ (some (.int (-1))) (fun t => ∃ (u9 : Int64), ∃ (d9 : Int64), ∃ (S1 : Nat → Int32), va_P (dC, dI) classes [(om k0 a I0 (vp_updL (vp_updL J0 48 u9) 49 d9)), (oa (a 5) cI 201 st), (oa (a 6) cZ 201 tn), (oa (a 1) cI 201 kd), (oa (a 11) cI 201 mn), (oa (a 12) cI 8040 cx), (oa (a 13) cI 8040 cy), (oa (a 32) cI 8 S1), (oa (a 3) cI 201 wd)] t.heap ∧ va_D A [(om k0 a I0 (vp_updL (vp_updL J0 48 u9) 49 d9)), (oa (a 5) cI 201 st), (oa (a 6) cZ 201 tn), (oa (a 1) cI 201 kd), (oa (a 11) cI 201 mn), (oa (a 12) cI 8040 cx), (oa (a 13) cI 8040 cy), (oa (a 32) cI 8 S1), (oa (a 3) cI 201 wd)]) A) ([.ref k0, .int gp9, .int (nI i), .int w] : List Value).toArray s 0 0 A := ⟨_, rfl⟩
  rw [← hQ9]
  have hl := lv_entry ([.ref k0, .int gp9, .int (nI i), .int w]) (n := 7) (Nat.le_of_ble_eq_true rfl)
  rw [lg_entry_eq]
  generalize (lg_sl ([.ref k0, .int gp9, .int (nI i), .int w]) ++ List.replicate (7 - (lg_sl ([.ref k0, .int gp9, .int (nI i), .int w])).length) Slot.unset).toArray = ls at hl ⊢
  have hl : lv_has ls 7 [(0, .ref k0), (1, .int gp9), (2, .int (nI i)), (3, .int w)] := hl
  refine lv_iload_n hx hb dX11_clash_0 rfl (lv_at hl 1 rfl) ?_
  refine lv_if_lt (tgt := 24) hx hb dX11_clash_1 rfl (fun c_1 => ?_) (fun c_1 => ?_)
  · have c_1 : gp9.toInt < 0 := zc_lt rfl rfl c_1
    exfalso; omega
  · have c_1 : 0 ≤ gp9.toInt := zc_nlt rfl rfl c_1
    refine lv_iload_n hx hb dX11_clash_4 rfl (lv_at hl 1 rfl) ?_
    refine lv_sipush (v := 200) hx hb dX11_clash_5 rfl ?_
    refine lv_icmp_gt (tgt := 24) hx hb dX11_clash_8 rfl (fun c_2 => ?_) (fun c_2 => ?_)
    · have c_2 : 200 < gp9.toInt := zc_lt rfl rfl c_2
      exfalso; omega
    · have c_2 : gp9.toInt ≤ 200 := zc_nlt rfl rfl c_2
      refine lv_iload_n hx hb dX11_clash_11 rfl (lv_at hl 2 rfl) ?_
      have b9_4 : i < 2147483648 := by omega
      refine lv_if_lt (tgt := 24) hx hb dX11_clash_12 rfl (fun c_3 => ?_) (fun c_3 => ?_)
      · have c_3 : ((i : Nat) : Int) < 0 := zc_lt (nI_toInt b9_4) rfl c_3
        exfalso; omega
      · have c_3 : 0 ≤ ((i : Nat) : Int) := zc_nlt (nI_toInt b9_4) rfl c_3
        refine lv_iload_n hx hb dX11_clash_15 rfl (lv_at hl 3 rfl) ?_
        refine lv_if_lt (tgt := 24) hx hb dX11_clash_16 rfl (fun c_5 => ?_) (fun c_5 => ?_)
        · have c_5 : w.toInt < 0 := zc_lt rfl rfl c_5
          exfalso; omega
        · have c_5 : 0 ≤ w.toInt := zc_nlt rfl rfl c_5
          refine lv_iload_n hx hb dX11_clash_19 rfl (lv_at hl 3 rfl) ?_
          refine lv_iconst (v := 1) hx hb dX11_clash_20 rfl ?_
          refine lv_icmp_le (tgt := 26) hx hb dX11_clash_21 rfl (fun c_6 => ?_) (fun c_6 => ?_)
          · have c_6 : w.toInt ≤ 1 := zc_le rfl rfl c_6
            refine lv_iconst (v := 0) hx hb dX11_clash_26 rfl ?_
            refine lv_istore (lv' := [(4, .int 0), (0, .ref k0), (1, .int gp9), (2, .int (nI i)), (3, .int w)]) hx hb dX11_clash_27 hl (Nat.le_of_ble_eq_true rfl) rfl (fun ls hl => ?_)
            refine lv_iconst (v := 0) hx hb dX11_clash_29 rfl ?_
            refine lv_istore (lv' := [(5, .int 0), (4, .int 0), (0, .ref k0), (1, .int gp9), (2, .int (nI i)), (3, .int w)]) hx hb dX11_clash_30 hl (Nat.le_of_ble_eq_true rfl) rfl (fun ls hl => ?_)
            have hl_32 : ∀ (n9 : Nat) (a9 : Nat) (u9 : Int64) (d9 : Int64) (S1 : Nat → Int32) (H : Heap) (locs : List Loc) (ls : Array Slot), ft - a9 < n9 → (a9 ≤ ft) → (∀ a8 b8, a8 < a9 → ¬ clI (clP ft st tn kd mn cx cy wd gp9) ft a8 b8 i) → va_P (dC, dI) classes [(om k0 a I0 (vp_updL (vp_updL J0 48 u9) 49 d9)), (oa (a 5) cI 201 st), (oa (a 6) cZ 201 tn), (oa (a 1) cI 201 kd), (oa (a 11) cI 201 mn), (oa (a 12) cI 8040 cx), (oa (a 13) cI 8040 cy), (oa (a 32) cI 8 S1), (oa (a 3) cI 201 wd)] H → va_D A [(om k0 a I0 (vp_updL (vp_updL J0 48 u9) 49 d9)), (oa (a 5) cI 201 st), (oa (a 6) cZ 201 tn), (oa (a 1) cI 201 kd), (oa (a 11) cI 201 mn), (oa (a 12) cI 8040 cx), (oa (a 13) cI 8040 cy), (oa (a 32) cI 8 S1), (oa (a 3) cI 201 wd)] → va_S A s.heap H locs → lv_has ls 7 [(5, .int (nI a9)), (4, .int (nI (clT (clP ft st tn kd mn cx cy wd gp9) ft a9))), (0, .ref k0), (1, .int gp9), (2, .int (nI i)), (3, .int w)] → W p l e ((headSpec (.code yX11_clash cX11_clash 7 (some .int) :: ws0) ({ frames := 6, cells := 0, slots := 0, locals := 154 } : Room)).room) s m ([.ref k0, .int gp9, .int (nI i), .int w] : List Value).toArray below meth c H locs 0 0 Q9 (F0 m 32 ls []) := by
              intro n9
              induction n9 with
              | zero => intro a9 u9 d9 S1 H locs ls hm; exact absurd hm (Nat.not_lt_zero _)
              | succ n9 ih_32 =>
                intro a9 u9 d9 S1 H locs ls hm ha9 hno hP hD hS hl
                have hct := clT_200 (clP ft st tn kd mn cx cy wd gp9) h200 ha9
                refine lv_iload hx hb dX11_clash_32 (lv_at hl 0 rfl) ?_
                refine lv_aload_n hx hb dX11_clash_34 rfl (lv_at hl 2 rfl) ?_
                refine va_get (D := (dC, dI)) (ci := 9) (v := .int (I0 0)) (C := RX11) (T := TX11) (N := 55) hx hb hts inX11 hown hK hP 0 rfl rfl 0 (Nat.le_of_ble_eq_true rfl) (hts _ mw_1159) (fun _ h9 => h9) rfl dX11_clash_35 ?_
                refine zz_i (v := nI ft) (hft) ?_
                have b9_8 : a9 < 2147483648 := by omega
                have b9_9 : ft < 2147483648 := by omega
                refine lv_icmp_ge (tgt := 104) hx hb dX11_clash_38 rfl (fun c_7 => ?_) (fun c_7 => ?_)
                · have c_7 : ((ft : Nat) : Int) ≤ ((a9 : Nat) : Int) := zc_le (nI_toInt b9_9) (nI_toInt b9_8) c_7
                  refine lv_iconst (v := (-1)) hx hb dX11_clash_104 rfl ?_
                  obtain ⟨hP9, hD9⟩ := zq_sub (wc := [(om k0 a I0 (vp_updL (vp_updL J0 48 u9) 49 d9)), (oa (a 5) cI 201 st), (oa (a 6) cZ 201 tn), (oa (a 1) cI 201 kd), (oa (a 11) cI 201 mn), (oa (a 12) cI 8040 cx), (oa (a 13) cI 8040 cy), (oa (a 32) cI 8 S1), (oa (a 3) cI 201 wd)]) hP hD [0, 1, 2, 3, 4, 5, 6, 7, 8] rfl rfl
                  rw [hQ9]
                  exact W.iret (v := (-1)) hx hb hr (fun t ht hW => ⟨⟨rfl, u9, d9, S1, by rw [ht]; exact hP9, hD9⟩, hS.F ht⟩) hS.2.2 dX11_clash_105
                · have c_7 : ((a9 : Nat) : Int) < ((ft : Nat) : Int) := zc_nle (nI_toInt b9_9) (nI_toInt b9_8) c_7
                  refine lv_iload hx hb dX11_clash_41 (lv_at hl 0 rfl) ?_
                  refine lv_iconst (v := 1) hx hb dX11_clash_43 rfl ?_
                  refine lv_iadd hx hb dX11_clash_44 ?_
                  refine zz_i (v := nI (a9 + 1)) (nI_add a9 1) ?_
                  refine lv_istore (lv' := [(6, .int (nI (a9 + 1))), (5, .int (nI a9)), (4, .int (nI (clT (clP ft st tn kd mn cx cy wd gp9) ft a9))), (0, .ref k0), (1, .int gp9), (2, .int (nI i)), (3, .int w)]) hx hb dX11_clash_45 hl (Nat.le_of_ble_eq_true rfl) rfl (fun ls hl => ?_)
                  have hl_47 : ∀ (n9 : Nat) (b9 : Nat) (u9 : Int64) (d9 : Int64) (S1 : Nat → Int32) (H : Heap) (locs : List Loc) (ls : Array Slot), ft - b9 < n9 → (a9 < b9 ∧ b9 ≤ ft) → (∀ b8, b8 < b9 → ¬ clI (clP ft st tn kd mn cx cy wd gp9) ft a9 b8 i) → va_P (dC, dI) classes [(om k0 a I0 (vp_updL (vp_updL J0 48 u9) 49 d9)), (oa (a 5) cI 201 st), (oa (a 6) cZ 201 tn), (oa (a 1) cI 201 kd), (oa (a 11) cI 201 mn), (oa (a 12) cI 8040 cx), (oa (a 13) cI 8040 cy), (oa (a 32) cI 8 S1), (oa (a 3) cI 201 wd)] H → va_D A [(om k0 a I0 (vp_updL (vp_updL J0 48 u9) 49 d9)), (oa (a 5) cI 201 st), (oa (a 6) cZ 201 tn), (oa (a 1) cI 201 kd), (oa (a 11) cI 201 mn), (oa (a 12) cI 8040 cx), (oa (a 13) cI 8040 cy), (oa (a 32) cI 8 S1), (oa (a 3) cI 201 wd)] → va_S A s.heap H locs → lv_has ls 7 [(6, .int (nI b9)), (5, .int (nI a9)), (4, .int (nI (clT (clP ft st tn kd mn cx cy wd gp9) ft a9 + cntP (fun b => a9 < b ∧ clP ft st tn kd mn cx cy wd gp9 a9 b) b9))), (0, .ref k0), (1, .int gp9), (2, .int (nI i)), (3, .int w)] → W p l e ((headSpec (.code yX11_clash cX11_clash 7 (some .int) :: ws0) ({ frames := 6, cells := 0, slots := 0, locals := 154 } : Room)).room) s m ([.ref k0, .int gp9, .int (nI i), .int w] : List Value).toArray below meth c H locs 0 0 Q9 (F0 m 47 ls []) := by
                    intro n9
                    induction n9 with
                    | zero => intro b9 u9 d9 S1 H locs ls hm; exact absurd hm (Nat.not_lt_zero _)
                    | succ n9 ih_47 =>
                      intro b9 u9 d9 S1 H locs ls hm hb9 hnb hP hD hS hl
                      have hcn := cntP_b (fun b => a9 < b ∧ clP ft st tn kd mn cx cy wd gp9 a9 b) b9
                      refine lv_iload hx hb dX11_clash_47 (lv_at hl 0 rfl) ?_
                      refine lv_aload_n hx hb dX11_clash_49 rfl (lv_at hl 3 rfl) ?_
                      refine va_get (D := (dC, dI)) (ci := 9) (v := .int (I0 0)) (C := RX11) (T := TX11) (N := 55) hx hb hts inX11 hown hK hP 0 rfl rfl 0 (Nat.le_of_ble_eq_true rfl) (hts _ mw_1159) (fun _ h9 => h9) rfl dX11_clash_50 ?_
                      refine zz_i (v := nI ft) (hft) ?_
                      have b9_11 : b9 < 2147483648 := by omega
                      refine lv_icmp_ge (tgt := 98) hx hb dX11_clash_53 rfl (fun c_10 => ?_) (fun c_10 => ?_)
                      · have c_10 : ((ft : Nat) : Int) ≤ ((b9 : Nat) : Int) := zc_le (nI_toInt b9_9) (nI_toInt b9_11) c_10
                        refine lv_iinc (v := nI (a9 + 1)) (lv' := [(5, .int (nI (a9 + 1))), (6, .int (nI b9)), (4, .int (nI (clT (clP ft st tn kd mn cx cy wd gp9) ft a9 + cntP (fun b => a9 < b ∧ clP ft st tn kd mn cx cy wd gp9 a9 b) b9))), (0, .ref k0), (1, .int gp9), (2, .int (nI i)), (3, .int w)]) hx hb dX11_clash_98 hl (k := 1) rfl (nI_add a9 1) (Nat.le_of_ble_eq_true rfl) rfl (fun ls hl => ?_)
                        refine lv_goto (tgt := 32) hx hb dX11_clash_101 rfl ?_
                        have hl9 := lv_sub hl [0, 2, 3, 4, 5, 6] rfl
                        have e9_4 : nI (clT (clP ft st tn kd mn cx cy wd gp9) ft (a9 + 1)) = (nI (clT (clP ft st tn kd mn cx cy wd gp9) ft a9 + cntP (fun b => a9 < b ∧ clP ft st tn kd mn cx cy wd gp9 a9 b) b9) : Int32) := by exact zn_eq (by rw [show b9 = ft by omega]; rfl)
                        have hl9 : lv_has ls 7 [(5, .int (nI (a9 + 1))), (4, .int (nI (clT (clP ft st tn kd mn cx cy wd gp9) ft (a9 + 1)))), (0, .ref k0), (1, .int gp9), (2, .int (nI i)), (3, .int w)] := by rw [e9_4]; exact hl9
                        exact ih_32 (a9 + 1) u9 d9 S1 H locs ls (by first | with_reducible assumption | omega) (by first | with_reducible assumption | omega) (fun a8 b8 h h2 => (by rcases Nat.lt_or_ge a8 a9 with q | q; exact hno a8 b8 q h2; rw [show a8 = a9 by omega] at h2; exact hnb b8 (by have := h2.2.1; omega) h2)) hP hD hS hl9
                      · have c_10 : ((b9 : Nat) : Int) < ((ft : Nat) : Int) := zc_nle (nI_toInt b9_9) (nI_toInt b9_11) c_10
                        refine lv_aload_n hx hb dX11_clash_56 rfl (lv_at hl 3 rfl) ?_
                        refine lv_iload hx hb dX11_clash_57 (lv_at hl 1 rfl) ?_
                        refine lv_iload hx hb dX11_clash_59 (lv_at hl 0 rfl) ?_
                        refine lv_iload_n hx hb dX11_clash_61 rfl (lv_at hl 4 rfl) ?_
                        obtain ⟨hPc, hDc, hFc⟩ := zc_sub (wc := [(om k0 a I0 (vp_updL (vp_updL J0 48 u9) 49 d9)), (oa (a 5) cI 201 st), (oa (a 6) cZ 201 tn), (oa (a 1) cI 201 kd), (oa (a 11) cI 201 mn), (oa (a 12) cI 8040 cx), (oa (a 13) cI 8040 cy), (oa (a 32) cI 8 S1), (oa (a 3) cI 201 wd)]) hP hD hS hA [0, 1, 2, 3, 4, 5, 6, 7, 8] rfl rfl
                        refine zcall (st1 := [.int (pI (clP ft st tn kd mn cx cy wd gp9 a9 b9))]) (va_runV (As := [.int (nI a9), .int (nI b9), .int gp9]) (rest := []) ⟨hx, hb, hml, hown, hts⟩ (k_M_isClash l dC dI cI cZ cF H.size k0 a I0 (vp_updL (vp_updL J0 48 u9) 49 d9) a9 b9 ft gp9 st tn kd mn cx cy S1 wd (by first | with_reducible assumption | assumption) (by first | with_reducible assumption | omega) (by first | with_reducible assumption | assumption) (by first | with_reducible assumption | assumption) (by first | with_reducible assumption | assumption) (by first | with_reducible assumption | assumption) (by first | with_reducible assumption | omega) (by first | with_reducible assumption | omega)) (csV_230 hts rfl rfl ⟨Nat.le_of_ble_eq_true rfl, Nat.le_of_ble_eq_true rfl⟩) (zPV2 (q0 := 0) (ci := 9) hPc hDc hK hXN rfl rfl) rfl rfl hl.1 rfl (lv_room (Nat.le_of_ble_eq_true rfl)) dX11_clash_62 ⟨Nat.le_of_ble_eq_true rfl, Nat.le_of_ble_eq_true rfl⟩) hS hFc hFc rfl (fun t H locs ht hB hk1 hS => ?_)
                        obtain ⟨q_12, q_13, q_14, hP1, hD1⟩ := hB
                        rw [ht] at hP1
                        obtain ⟨hP, hD⟩ := zk (W2 := [(om k0 a I0 (vp_updL (vp_updL J0 48 q_12) 49 q_13)), (oa (a 5) cI 201 st), (oa (a 6) cZ 201 tn), (oa (a 1) cI 201 kd), (oa (a 11) cI 201 mn), (oa (a 12) cI 8040 cx), (oa (a 13) cI 8040 cy), (oa (a 32) cI 8 q_14), (oa (a 3) cI 201 wd)]) hP hD [0, 1, 2, 3, 4, 5, 6, 7, 8] [] [] [0, 1, 2, 3, 4, 5, 6, 7, 8] [0, 1, 2, 3, 4, 5, 6, 7, 8] 9 rfl rfl rfl rfl rfl rfl rfl rfl rfl hk1 hFc hP1 hD1
                        clear hk1 hPc hDc hFc hP1 hD1 ht
                        refine lv_if_ne (tgt := 71) hx hb dX11_clash_65 rfl (fun c_15 => ?_) (fun c_15 => ?_)
                        · have c_15 : clP ft st tn kd mn cx cy wd gp9 a9 b9 := zp_1 c_15
                          refine lv_iload hx hb dX11_clash_71 (lv_at hl 2 rfl) ?_
                          refine lv_iload_n hx hb dX11_clash_73 rfl (lv_at hl 5 rfl) ?_
                          have b9_17 : (clT (clP ft st tn kd mn cx cy wd gp9) ft a9 + cntP (fun b => a9 < b ∧ clP ft st tn kd mn cx cy wd gp9 a9 b) b9) < 2147483648 := by omega
                          refine lv_icmp_ne (tgt := 89) hx hb dX11_clash_74 rfl (fun c_16 => ?_) (fun c_16 => ?_)
                          · have c_16 : ¬ ((clT (clP ft st tn kd mn cx cy wd gp9) ft a9 + cntP (fun b => a9 < b ∧ clP ft st tn kd mn cx cy wd gp9 a9 b) b9 : Nat) : Int) = ((i : Nat) : Int) := zc_ne (nI_toInt b9_17) (nI_toInt b9_4) c_16
                            refine lv_iinc (v := nI ((clT (clP ft st tn kd mn cx cy wd gp9) ft a9 + cntP (fun b => a9 < b ∧ clP ft st tn kd mn cx cy wd gp9 a9 b) b9) + 1)) (lv' := [(4, .int (nI ((clT (clP ft st tn kd mn cx cy wd gp9) ft a9 + cntP (fun b => a9 < b ∧ clP ft st tn kd mn cx cy wd gp9 a9 b) b9) + 1))), (6, .int (nI b9)), (5, .int (nI a9)), (0, .ref k0), (1, .int gp9), (2, .int (nI i)), (3, .int w)]) hx hb dX11_clash_89 hl (k := 2) rfl (nI_add (clT (clP ft st tn kd mn cx cy wd gp9) ft a9 + cntP (fun b => a9 < b ∧ clP ft st tn kd mn cx cy wd gp9 a9 b) b9) 1) (Nat.le_of_ble_eq_true rfl) rfl (fun ls hl => ?_)
                            refine lv_iinc (v := nI (b9 + 1)) (lv' := [(6, .int (nI (b9 + 1))), (4, .int (nI ((clT (clP ft st tn kd mn cx cy wd gp9) ft a9 + cntP (fun b => a9 < b ∧ clP ft st tn kd mn cx cy wd gp9 a9 b) b9) + 1))), (5, .int (nI a9)), (0, .ref k0), (1, .int gp9), (2, .int (nI i)), (3, .int w)]) hx hb dX11_clash_92 hl (k := 1) rfl (nI_add b9 1) (Nat.le_of_ble_eq_true rfl) rfl (fun ls hl => ?_)
                            refine lv_goto (tgt := 47) hx hb dX11_clash_95 rfl ?_
                            have hl9 := lv_sub hl [0, 2, 1, 3, 4, 5, 6] rfl
                            have e9_4 : nI (clT (clP ft st tn kd mn cx cy wd gp9) ft a9 + cntP (fun b => a9 < b ∧ clP ft st tn kd mn cx cy wd gp9 a9 b) (b9 + 1)) = (nI ((clT (clP ft st tn kd mn cx cy wd gp9) ft a9 + cntP (fun b => a9 < b ∧ clP ft st tn kd mn cx cy wd gp9 a9 b) b9) + 1) : Int32) := by first | exact zn_eq (by rw [cntP_y (P := fun b => a9 < b ∧ clP ft st tn kd mn cx cy wd gp9 a9 b) ⟨by omega, by assumption⟩]; first | done | omega) | exact zn_eq (by rw [cntP_n (P := fun b => a9 < b ∧ clP ft st tn kd mn cx cy wd gp9 a9 b) (fun h => absurd h.2 (by first | with_reducible assumption | assumption))]; first | done | omega)
                            have hl9 : lv_has ls 7 [(6, .int (nI (b9 + 1))), (5, .int (nI a9)), (4, .int (nI (clT (clP ft st tn kd mn cx cy wd gp9) ft a9 + cntP (fun b => a9 < b ∧ clP ft st tn kd mn cx cy wd gp9 a9 b) (b9 + 1)))), (0, .ref k0), (1, .int gp9), (2, .int (nI i)), (3, .int w)] := by rw [e9_4]; exact hl9
                            exact ih_47 (b9 + 1) q_12 q_13 q_14 H locs ls (by first | with_reducible assumption | omega) (by first | with_reducible assumption | omega) (fun b8 h h2 => (by rcases Nat.lt_or_ge b8 b9 with q | q; exact hnb b8 q h2; rw [show b8 = b9 by omega] at h2; first | exact absurd h2.2.2.1 (by first | with_reducible assumption | assumption) | (have h7 := h2.2.2.2; omega))) hP hD hS hl9
                          · have c_16 : ((clT (clP ft st tn kd mn cx cy wd gp9) ft a9 + cntP (fun b => a9 < b ∧ clP ft st tn kd mn cx cy wd gp9 a9 b) b9 : Nat) : Int) = ((i : Nat) : Int) := zc_eq (nI_toInt b9_17) (nI_toInt b9_4) c_16
                            exfalso; exact hit a9 b9 ⟨by omega, by omega, by assumption, by omega⟩
                        · have c_15 : ¬ (clP ft st tn kd mn cx cy wd gp9 a9 b9) := zp_0 c_15
                          refine lv_goto (tgt := 92) hx hb dX11_clash_68 rfl ?_
                          refine lv_iinc (v := nI (b9 + 1)) (lv' := [(6, .int (nI (b9 + 1))), (5, .int (nI a9)), (4, .int (nI (clT (clP ft st tn kd mn cx cy wd gp9) ft a9 + cntP (fun b => a9 < b ∧ clP ft st tn kd mn cx cy wd gp9 a9 b) b9))), (0, .ref k0), (1, .int gp9), (2, .int (nI i)), (3, .int w)]) hx hb dX11_clash_92 hl (k := 0) rfl (nI_add b9 1) (Nat.le_of_ble_eq_true rfl) rfl (fun ls hl => ?_)
                          refine lv_goto (tgt := 47) hx hb dX11_clash_95 rfl ?_
                          have hl9 := lv_sub hl [0, 1, 2, 3, 4, 5, 6] rfl
                          have e9_4 : nI (clT (clP ft st tn kd mn cx cy wd gp9) ft a9 + cntP (fun b => a9 < b ∧ clP ft st tn kd mn cx cy wd gp9 a9 b) (b9 + 1)) = (nI (clT (clP ft st tn kd mn cx cy wd gp9) ft a9 + cntP (fun b => a9 < b ∧ clP ft st tn kd mn cx cy wd gp9 a9 b) b9) : Int32) := by first | exact zn_eq (by rw [cntP_y (P := fun b => a9 < b ∧ clP ft st tn kd mn cx cy wd gp9 a9 b) ⟨by omega, by assumption⟩]; first | done | omega) | exact zn_eq (by rw [cntP_n (P := fun b => a9 < b ∧ clP ft st tn kd mn cx cy wd gp9 a9 b) (fun h => absurd h.2 (by first | with_reducible assumption | assumption))]; first | done | omega)
                          have hl9 : lv_has ls 7 [(6, .int (nI (b9 + 1))), (5, .int (nI a9)), (4, .int (nI (clT (clP ft st tn kd mn cx cy wd gp9) ft a9 + cntP (fun b => a9 < b ∧ clP ft st tn kd mn cx cy wd gp9 a9 b) (b9 + 1)))), (0, .ref k0), (1, .int gp9), (2, .int (nI i)), (3, .int w)] := by rw [e9_4]; exact hl9
                          exact ih_47 (b9 + 1) q_12 q_13 q_14 H locs ls (by first | with_reducible assumption | omega) (by first | with_reducible assumption | omega) (fun b8 h h2 => (by rcases Nat.lt_or_ge b8 b9 with q | q; exact hnb b8 q h2; rw [show b8 = b9 by omega] at h2; first | exact absurd h2.2.2.1 (by first | with_reducible assumption | assumption) | (have h7 := h2.2.2.2; omega))) hP hD hS hl9
                  have e9_4 : nI (clT (clP ft st tn kd mn cx cy wd gp9) ft a9 + cntP (fun b => a9 < b ∧ clP ft st tn kd mn cx cy wd gp9 a9 b) (a9 + 1)) = (nI (clT (clP ft st tn kd mn cx cy wd gp9) ft a9) : Int32) := by exact zn_eq (by rw [cl_0 (clP ft st tn kd mn cx cy wd gp9) a9 (a9 + 1) (Nat.le_refl _)]; rfl)
                  have hl9 : lv_has ls 7 [(6, .int (nI (a9 + 1))), (5, .int (nI a9)), (4, .int (nI (clT (clP ft st tn kd mn cx cy wd gp9) ft a9 + cntP (fun b => a9 < b ∧ clP ft st tn kd mn cx cy wd gp9 a9 b) (a9 + 1)))), (0, .ref k0), (1, .int gp9), (2, .int (nI i)), (3, .int w)] := by rw [e9_4]; exact lv_sub hl [0, 1, 2, 3, 4, 5, 6] rfl
                  exact hl_47 _ (a9 + 1) u9 d9 S1 H locs ls (Nat.lt_succ_self _) (by first | with_reducible assumption | omega) (fun b8 h h2 => (by have := h2.1; omega)) hP hD hS hl9
            have e9_4 : nI (clT (clP ft st tn kd mn cx cy wd gp9) ft 0) = (0 : Int32) := by rfl
            have hl9 : lv_has ls 7 [(5, .int (nI 0)), (4, .int (nI (clT (clP ft st tn kd mn cx cy wd gp9) ft 0))), (0, .ref k0), (1, .int gp9), (2, .int (nI i)), (3, .int w)] := by rw [e9_4]; exact lv_sub hl [0, 1, 2, 3, 4, 5] rfl
            exact hl_32 _ 0 (J0 48) (J0 49) S0 s.heap [] ls (Nat.lt_succ_self _) (by first | with_reducible assumption | omega) (fun a8 b8 h => absurd h (Nat.not_lt_zero _)) hP hD hS hl9
          · have c_6 : 1 < w.toInt := zc_nle rfl rfl c_6
            exfalso; omega
end
section
set_option maxHeartbeats 4000000 in
set_option maxRecDepth 100000 in
theorem k_M_nearer_q (l : Launch) (dC : Nat → ClassId) (dI : Nat → Nat → Nat) (cI cZ cF : ClassId) (sz : Nat) (k0 : Nat) (a : Nat → Nat) (I0 : Nat → Int32) (J0 : Nat → Int64) (q : Nat) (px : Int32) (py : Int32) (u : Int) (d : Int) (S0 : Nat → Int32) (hq4 : q ≤ 4) (hs : ∀ k, q ≤ k → k < q + 4 → pl (S0 k)) (hpx : pl px) (hpy : pl py) (hu9 : 0 ≤ u ∧ u ≤ 4000000000000) (hd9 : 0 ≤ d ∧ d ≤ 2000000) : Met l yX11_nearer (.code yX11_nearer cX11_nearer 23 none :: ws0) ({ frames := 1, cells := 0, slots := 0, locals := 28 } : Room) (va_Pc [.ref k0, .ref (a 32), .int px, .int py, .int (nI q)] (zPre (dC, dI) classes (zTy cI cZ cF) [(om k0 a I0 (vp_updL (vp_updL J0 48 (jI u)) 49 (jI d))), (oa (a 32) cI 8 S0)] sz zXN)) (zQ none (fun t => ∃ (zu : Int), ∃ (zd : Int), (ndP u d (nrU (S0 q).toInt (S0 (q + 1)).toInt (S0 (q + 2)).toInt (S0 (q + 3)).toInt px.toInt py.toInt) (nrD (S0 q).toInt (S0 (q + 1)).toInt (S0 (q + 2)).toInt (S0 (q + 3)).toInt px.toInt py.toInt) zu zd) ∧ va_P (dC, dI) classes [(om k0 a I0 (vp_updL (vp_updL J0 48 (jI zu)) 49 (jI zd))), (oa (a 32) cI 8 S0)] t.heap ∧ va_D (va_A [(om k0 a I0 (vp_updL (vp_updL J0 48 (jI u)) 49 (jI d))), (oa (a 32) cI 8 S0)] sz) [(om k0 a I0 (vp_updL (vp_updL J0 48 (jI zu)) 49 (jI zd))), (oa (a 32) cI 8 S0)]) (va_A [(om k0 a I0 (vp_updL (vp_updL J0 48 (jI u)) 49 (jI d))), (oa (a 32) cI 8 S0)] sz)) 0 0 (va_A [(om k0 a I0 (vp_updL (vp_updL J0 48 (jI u)) 49 (jI d))), (oa (a 32) cI 8 S0)] sz) := by
  refine Met.ofW (cc := cX11_nearer) (maxL := 23) (ret := none) rfl rfl ?_
  intro p e s m args below meth c s₁ B hml hv
  obtain ⟨rfl, hsz, hP, hK, hD0, hXN⟩ := hv
  have hx := B.exec
  have hb := B.bytes
  have hr := B.returns
  have hts0 := atoms_spec (ws := .code yX11_nearer cX11_nearer 23 none :: ws0) B.pre
  have hts : ∀ w9 ∈ ws0, w9.before ([.ref k0, .ref (a 32), .int px, .int py, .int (nI q)] : List Value).toArray s = true := fun w9 h => hts0 w9 (List.mem_cons_of_mem _ h)
  have hown : s.vm.findClass "ScaleShopModel" = some m.cls := findClass_of_methodNamed B.named
  have hlocks := B.notSynchronized
  subst hsz
  have hD := hD0.self (sz := s.heap.size)
  clear hD0
  generalize hAe : va_A [(om k0 a I0 (vp_updL (vp_updL J0 48 (jI u)) 49 (jI d))), (oa (a 32) cI 8 S0)] s.heap.size = A at hD ⊢
  have hA : ∀ q : Nat, s.heap.size ≤ q → A q := fun q h => by rw [← hAe]; exact Or.inr h
  clear hAe
  have hS : va_S A s.heap s.heap [] := va_S.rf
  have hP : va_P (dC, dI) classes [(om k0 a I0 (vp_updL (vp_updL J0 48 (jI u)) 49 (jI d))), (oa (a 32) cI 8 S0)] s.heap := hP
  obtain ⟨Q9, hQ9⟩ : ∃ Q9 : State → Prop, Q9 = MQ below (zQ none (fun t => ∃ (zu : Int), ∃ (zd : Int), (ndP u d (nrU (S0 q).toInt (S0 (q + 1)).toInt (S0 (q + 2)).toInt (S0 (q + 3)).toInt px.toInt py.toInt) (nrD (S0 q).toInt (S0 (q + 1)).toInt (S0 (q + 2)).toInt (S0 (q + 3)).toInt px.toInt py.toInt) zu zd) ∧ va_P (dC, dI) classes [(om k0 a I0 (vp_updL (vp_updL J0 48 (jI zu)) 49 (jI zd))), (oa (a 32) cI 8 S0)] t.heap ∧ va_D A [(om k0 a I0 (vp_updL (vp_updL J0 48 (jI zu)) 49 (jI zd))), (oa (a 32) cI 8 S0)]) A) ([.ref k0, .ref (a 32), .int px, .int py, .int (nI q)] : List Value).toArray s 0 0 A := ⟨_, rfl⟩
  rw [← hQ9]
  have hl := lv_entry ([.ref k0, .ref (a 32), .int px, .int py, .int (nI q)]) (n := 23) (Nat.le_of_ble_eq_true rfl)
  rw [lg_entry_eq]
  generalize (lg_sl ([.ref k0, .ref (a 32), .int px, .int py, .int (nI q)]) ++ List.replicate (23 - (lg_sl ([.ref k0, .ref (a 32), .int px, .int py, .int (nI q)])).length) Slot.unset).toArray = ls at hl ⊢
  have hl : lv_has ls 23 [(0, .ref k0), (1, .ref (a 32)), (2, .int px), (3, .int py), (4, .int (nI q))] := hl
  have hLb := nrL_b (hs q (by omega) (by omega)) (hs (q + 1) (by omega) (by omega)) (hs (q + 2) (by omega) (by omega)) (hs (q + 3) (by omega) (by omega))
  have hTb := nrT_b (hs q (by omega) (by omega)) (hs (q + 1) (by omega) (by omega)) (hs (q + 2) (by omega) (by omega)) (hs (q + 3) (by omega) (by omega)) hpx hpy
  have hUb := nrU_b (hs q (by omega) (by omega)) (hs (q + 1) (by omega) (by omega)) (hs (q + 2) (by omega) (by omega)) (hs (q + 3) (by omega) (by omega)) hpx hpy
  refine lv_aload_n hx hb dX11_nearer_0 rfl (lv_at hl 1 rfl) ?_
  refine lv_iload hx hb dX11_nearer_1 (lv_at hl 4 rfl) ?_
  refine lv_iconst (v := 2) hx hb dX11_nearer_3 rfl ?_
  refine lv_iadd hx hb dX11_nearer_4 ?_
  refine zz_i (v := nI (q + 2)) (nI_add q 2) ?_
  have b9_1 : q + 2 < 8 := by omega
  refine z_iald hx hb hK hP 1 0 rfl rfl (e := q + 2) rfl b9_1 (Nat.le_of_ble_eq_true rfl) dX11_nearer_5 ?_
  refine lv_aload_n hx hb dX11_nearer_6 rfl (lv_at hl 1 rfl) ?_
  refine lv_iload hx hb dX11_nearer_7 (lv_at hl 4 rfl) ?_
  have b9_2 : q < 8 := by omega
  refine z_iald hx hb hK hP 1 0 rfl rfl (e := q) rfl b9_2 (Nat.le_of_ble_eq_true rfl) dX11_nearer_9 ?_
  refine lv_isub hx hb dX11_nearer_10 ?_
  refine lv_i2l (v := ((S0 (q + 2)) - (S0 q)).toInt64) hx hb dX11_nearer_11 (rfl) ?_
  refine lv_lstore (lv' := [(5, .long (((S0 (q + 2)) - (S0 q)).toInt64)), (0, .ref k0), (1, .ref (a 32)), (2, .int px), (3, .int py), (4, .int (nI q))]) hx hb dX11_nearer_12 hl (Nat.le_of_ble_eq_true rfl) rfl (fun ls hl => ?_)
  refine lv_aload_n hx hb dX11_nearer_14 rfl (lv_at hl 2 rfl) ?_
  refine lv_iload hx hb dX11_nearer_15 (lv_at hl 5 rfl) ?_
  refine lv_iconst (v := 3) hx hb dX11_nearer_17 rfl ?_
  refine lv_iadd hx hb dX11_nearer_18 ?_
  refine zz_i (v := nI (q + 3)) (nI_add q 3) ?_
  have b9_3 : q + 3 < 8 := by omega
  refine z_iald hx hb hK hP 1 0 rfl rfl (e := q + 3) rfl b9_3 (Nat.le_of_ble_eq_true rfl) dX11_nearer_19 ?_
  refine lv_aload_n hx hb dX11_nearer_20 rfl (lv_at hl 2 rfl) ?_
  refine lv_iload hx hb dX11_nearer_21 (lv_at hl 5 rfl) ?_
  refine lv_iconst (v := 1) hx hb dX11_nearer_23 rfl ?_
  refine lv_iadd hx hb dX11_nearer_24 ?_
  refine zz_i (v := nI (q + 1)) (nI_add q 1) ?_
  have b9_4 : q + 1 < 8 := by omega
  refine z_iald hx hb hK hP 1 0 rfl rfl (e := q + 1) rfl b9_4 (Nat.le_of_ble_eq_true rfl) dX11_nearer_25 ?_
  refine lv_isub hx hb dX11_nearer_26 ?_
  refine lv_i2l (v := ((S0 (q + 3)) - (S0 (q + 1))).toInt64) hx hb dX11_nearer_27 (rfl) ?_
  refine lv_lstore (lv' := [(7, .long (((S0 (q + 3)) - (S0 (q + 1))).toInt64)), (5, .long (((S0 (q + 2)) - (S0 q)).toInt64)), (0, .ref k0), (1, .ref (a 32)), (2, .int px), (3, .int py), (4, .int (nI q))]) hx hb dX11_nearer_28 hl (Nat.le_of_ble_eq_true rfl) rfl (fun ls hl => ?_)
  refine lv_iload_n hx hb dX11_nearer_30 rfl (lv_at hl 4 rfl) ?_
  refine lv_aload_n hx hb dX11_nearer_31 rfl (lv_at hl 3 rfl) ?_
  refine lv_iload hx hb dX11_nearer_32 (lv_at hl 6 rfl) ?_
  refine z_iald hx hb hK hP 1 0 rfl rfl (e := q) rfl b9_2 (Nat.le_of_ble_eq_true rfl) dX11_nearer_34 ?_
  refine lv_isub hx hb dX11_nearer_35 ?_
  refine lv_i2l (v := (px - (S0 q)).toInt64) hx hb dX11_nearer_36 (rfl) ?_
  refine lv_lstore (lv' := [(9, .long ((px - (S0 q)).toInt64)), (7, .long (((S0 (q + 3)) - (S0 (q + 1))).toInt64)), (5, .long (((S0 (q + 2)) - (S0 q)).toInt64)), (0, .ref k0), (1, .ref (a 32)), (2, .int px), (3, .int py), (4, .int (nI q))]) hx hb dX11_nearer_37 hl (Nat.le_of_ble_eq_true rfl) rfl (fun ls hl => ?_)
  refine lv_iload_n hx hb dX11_nearer_39 rfl (lv_at hl 6 rfl) ?_
  refine lv_aload_n hx hb dX11_nearer_40 rfl (lv_at hl 4 rfl) ?_
  refine lv_iload hx hb dX11_nearer_41 (lv_at hl 7 rfl) ?_
  refine lv_iconst (v := 1) hx hb dX11_nearer_43 rfl ?_
  refine lv_iadd hx hb dX11_nearer_44 ?_
  refine zz_i (v := nI (q + 1)) (nI_add q 1) ?_
  refine z_iald hx hb hK hP 1 0 rfl rfl (e := q + 1) rfl b9_4 (Nat.le_of_ble_eq_true rfl) dX11_nearer_45 ?_
  refine lv_isub hx hb dX11_nearer_46 ?_
  refine lv_i2l (v := (py - (S0 (q + 1))).toInt64) hx hb dX11_nearer_47 (rfl) ?_
  refine lv_lstore (lv' := [(11, .long ((py - (S0 (q + 1))).toInt64)), (9, .long ((px - (S0 q)).toInt64)), (7, .long (((S0 (q + 3)) - (S0 (q + 1))).toInt64)), (5, .long (((S0 (q + 2)) - (S0 q)).toInt64)), (0, .ref k0), (1, .ref (a 32)), (2, .int px), (3, .int py), (4, .int (nI q))]) hx hb dX11_nearer_48 hl (Nat.le_of_ble_eq_true rfl) rfl (fun ls hl => ?_)
  refine lv_lload hx hb dX11_nearer_50 (lv_at hl 3 rfl) ?_
  refine lv_lload hx hb dX11_nearer_52 (lv_at hl 3 rfl) ?_
  refine lv_lmul hx hb dX11_nearer_54 ?_
  refine lv_lload hx hb dX11_nearer_55 (lv_at hl 2 rfl) ?_
  refine lv_lload hx hb dX11_nearer_57 (lv_at hl 2 rfl) ?_
  refine lv_lmul hx hb dX11_nearer_59 ?_
  refine lv_ladd hx hb dX11_nearer_60 ?_
  refine zz_l (v := jI (nrL (S0 q).toInt (S0 (q + 1)).toInt (S0 (q + 2)).toInt (S0 (q + 3)).toInt)) (nr_len (hs q (by omega) (by omega)) (hs (q + 1) (by omega) (by omega)) (hs (q + 2) (by omega) (by omega)) (hs (q + 3) (by omega) (by omega))) ?_
  refine lv_lstore (lv' := [(13, .long (jI (nrL (S0 q).toInt (S0 (q + 1)).toInt (S0 (q + 2)).toInt (S0 (q + 3)).toInt))), (11, .long ((py - (S0 (q + 1))).toInt64)), (9, .long ((px - (S0 q)).toInt64)), (7, .long (((S0 (q + 3)) - (S0 (q + 1))).toInt64)), (5, .long (((S0 (q + 2)) - (S0 q)).toInt64)), (0, .ref k0), (1, .ref (a 32)), (2, .int px), (3, .int py), (4, .int (nI q))]) hx hb dX11_nearer_61 hl (Nat.le_of_ble_eq_true rfl) rfl (fun ls hl => ?_)
  refine lv_lload hx hb dX11_nearer_63 (lv_at hl 4 rfl) ?_
  refine lv_lload hx hb dX11_nearer_65 (lv_at hl 2 rfl) ?_
  refine lv_lmul hx hb dX11_nearer_67 ?_
  refine lv_lload hx hb dX11_nearer_68 (lv_at hl 3 rfl) ?_
  refine lv_lload hx hb dX11_nearer_70 (lv_at hl 1 rfl) ?_
  refine lv_lmul hx hb dX11_nearer_72 ?_
  refine lv_ladd hx hb dX11_nearer_73 ?_
  refine zz_l (v := jI (nrT (S0 q).toInt (S0 (q + 1)).toInt (S0 (q + 2)).toInt (S0 (q + 3)).toInt px.toInt py.toInt)) (nr_dot (hs q (by omega) (by omega)) (hs (q + 1) (by omega) (by omega)) (hs (q + 2) (by omega) (by omega)) (hs (q + 3) (by omega) (by omega)) hpx hpy) ?_
  refine lv_lstore (lv' := [(15, .long (jI (nrT (S0 q).toInt (S0 (q + 1)).toInt (S0 (q + 2)).toInt (S0 (q + 3)).toInt px.toInt py.toInt))), (13, .long (jI (nrL (S0 q).toInt (S0 (q + 1)).toInt (S0 (q + 2)).toInt (S0 (q + 3)).toInt))), (11, .long ((py - (S0 (q + 1))).toInt64)), (9, .long ((px - (S0 q)).toInt64)), (7, .long (((S0 (q + 3)) - (S0 (q + 1))).toInt64)), (5, .long (((S0 (q + 2)) - (S0 q)).toInt64)), (0, .ref k0), (1, .ref (a 32)), (2, .int px), (3, .int py), (4, .int (nI q))]) hx hb dX11_nearer_74 hl (Nat.le_of_ble_eq_true rfl) rfl (fun ls hl => ?_)
  refine lv_lconst (v := 1) hx hb dX11_nearer_76 rfl ?_
  refine lv_lstore (lv' := [(19, .long 1), (15, .long (jI (nrT (S0 q).toInt (S0 (q + 1)).toInt (S0 (q + 2)).toInt (S0 (q + 3)).toInt px.toInt py.toInt))), (13, .long (jI (nrL (S0 q).toInt (S0 (q + 1)).toInt (S0 (q + 2)).toInt (S0 (q + 3)).toInt))), (11, .long ((py - (S0 (q + 1))).toInt64)), (9, .long ((px - (S0 q)).toInt64)), (7, .long (((S0 (q + 3)) - (S0 (q + 1))).toInt64)), (5, .long (((S0 (q + 2)) - (S0 q)).toInt64)), (0, .ref k0), (1, .ref (a 32)), (2, .int px), (3, .int py), (4, .int (nI q))]) hx hb dX11_nearer_77 hl (Nat.le_of_ble_eq_true rfl) rfl (fun ls hl => ?_)
  refine lv_lload hx hb dX11_nearer_79 (lv_at hl 2 rfl) ?_
  refine lv_lconst (v := 0) hx hb dX11_nearer_81 rfl ?_
  refine W.lcmp hx hb dX11_nearer_82 ?_
  refine lv_if_eq (tgt := 93) hx hb dX11_nearer_83 rfl (fun c_5 => ?_) (fun c_5 => ?_)
  · have c_5 : (nrL (S0 q).toInt (S0 (q + 1)).toInt (S0 (q + 2)).toInt (S0 (q + 3)).toInt) = 0 := zl_eq (jI_toInt (by omega)) rfl c_5
    have hT0 : nrT (S0 q).toInt (S0 (q + 1)).toInt (S0 (q + 2)).toInt (S0 (q + 3)).toInt px.toInt py.toInt ≤ 0 := (by first | omega | (have h9 := nrT_0 (x := px.toInt) (y := py.toInt) (show nrL (S0 q).toInt (S0 (q + 1)).toInt (S0 (q + 2)).toInt (S0 (q + 3)).toInt = 0 by assumption); omega))
    refine lv_lload hx hb dX11_nearer_93 (lv_at hl 4 rfl) ?_
    refine lv_lload hx hb dX11_nearer_95 (lv_at hl 4 rfl) ?_
    refine lv_lmul hx hb dX11_nearer_97 ?_
    refine lv_lload hx hb dX11_nearer_98 (lv_at hl 3 rfl) ?_
    refine lv_lload hx hb dX11_nearer_100 (lv_at hl 3 rfl) ?_
    refine lv_lmul hx hb dX11_nearer_102 ?_
    refine lv_ladd hx hb dX11_nearer_103 ?_
    refine zz_l (v := jI (nrU (S0 q).toInt (S0 (q + 1)).toInt (S0 (q + 2)).toInt (S0 (q + 3)).toInt px.toInt py.toInt)) (nr_u0 (hs q (by omega) (by omega)) (hs (q + 1) (by omega) (by omega)) hpx hpy hT0) ?_
    refine lv_lstore (lv' := [(17, .long (jI (nrU (S0 q).toInt (S0 (q + 1)).toInt (S0 (q + 2)).toInt (S0 (q + 3)).toInt px.toInt py.toInt))), (19, .long 1), (15, .long (jI (nrT (S0 q).toInt (S0 (q + 1)).toInt (S0 (q + 2)).toInt (S0 (q + 3)).toInt px.toInt py.toInt))), (13, .long (jI (nrL (S0 q).toInt (S0 (q + 1)).toInt (S0 (q + 2)).toInt (S0 (q + 3)).toInt))), (11, .long ((py - (S0 (q + 1))).toInt64)), (9, .long ((px - (S0 q)).toInt64)), (7, .long (((S0 (q + 3)) - (S0 (q + 1))).toInt64)), (5, .long (((S0 (q + 2)) - (S0 q)).toInt64)), (0, .ref k0), (1, .ref (a 32)), (2, .int px), (3, .int py), (4, .int (nI q))]) hx hb dX11_nearer_104 hl (Nat.le_of_ble_eq_true rfl) rfl (fun ls hl => ?_)
    refine lv_goto (tgt := 169) hx hb dX11_nearer_106 rfl ?_
    refine lv_aload_n hx hb dX11_nearer_169 rfl (lv_at hl 8 rfl) ?_
    refine va_get (D := (dC, dI)) (ci := 9) (v := .long (jI d)) (C := RX11) (T := TX11) (N := 55) hx hb hts inX11 hown hK hP 0 rfl rfl 49 (Nat.le_of_ble_eq_true rfl) (hts _ mw_1208) (fun _ h9 => h9) rfl dX11_nearer_170 ?_
    refine lv_lconst (v := 0) hx hb dX11_nearer_173 rfl ?_
    refine W.lcmp hx hb dX11_nearer_174 ?_
    refine lv_if_eq (tgt := 197) hx hb dX11_nearer_175 rfl (fun c_6 => ?_) (fun c_6 => ?_)
    · have c_6 : d = 0 := zl_eq (jI_toInt (by omega)) rfl c_6
      refine lv_aload_n hx hb dX11_nearer_197 rfl (lv_at hl 8 rfl) ?_
      refine lv_lload hx hb dX11_nearer_198 (lv_at hl 0 rfl) ?_
      refine va_put (D := (dC, dI)) (ci := 9) (v := .long (jI (nrU (S0 q).toInt (S0 (q + 1)).toInt (S0 (q + 2)).toInt (S0 (q + 3)).toInt px.toInt py.toInt))) (ty := .long) (C := RX11) (T := TX11) (N := 55) hx hb hts inX11 tyX11 tyX11_ok nmX11 hown hK hP hD hS 0 rfl rfl 48 (by decide) (hts _ mw_1207) (fun _ h9 => h9) rfl (by decide +kernel) rfl rfl (Nat.le_of_ble_eq_true rfl) dX11_nearer_200 (fun H locs hP hD hS => ?_)
      obtain ⟨hP, hD⟩ : zPD (dC, dI) classes A [(om k0 a I0 (vp_updL (vp_updL J0 48 (jI (nrU (S0 q).toInt (S0 (q + 1)).toInt (S0 (q + 2)).toInt (S0 (q + 3)).toInt px.toInt py.toInt))) 49 (jI d))), (oa (a 32) cI 8 S0)] H := ⟨hP, hD⟩
      refine lv_aload_n hx hb dX11_nearer_203 rfl (lv_at hl 8 rfl) ?_
      refine lv_lload hx hb dX11_nearer_204 (lv_at hl 1 rfl) ?_
      refine zz_l (v := jI (nrD (S0 q).toInt (S0 (q + 1)).toInt (S0 (q + 2)).toInt (S0 (q + 3)).toInt px.toInt py.toInt)) (by first | (rw [nrD_0 hT0]; exact jI_1) | (rw [nrD_1 (by omega) (by omega)]; exact jI_1) | (rw [nrD_2 (by omega) (by omega)])) ?_
      refine va_put (D := (dC, dI)) (ci := 9) (v := .long (jI (nrD (S0 q).toInt (S0 (q + 1)).toInt (S0 (q + 2)).toInt (S0 (q + 3)).toInt px.toInt py.toInt))) (ty := .long) (C := RX11) (T := TX11) (N := 55) hx hb hts inX11 tyX11 tyX11_ok nmX11 hown hK hP hD hS 0 rfl rfl 49 (by decide) (hts _ mw_1208) (fun _ h9 => h9) rfl (by decide +kernel) rfl rfl (Nat.le_of_ble_eq_true rfl) dX11_nearer_206 (fun H locs hP hD hS => ?_)
      obtain ⟨hP, hD⟩ : zPD (dC, dI) classes A [(om k0 a I0 (vp_updL (vp_updL J0 48 (jI (nrU (S0 q).toInt (S0 (q + 1)).toInt (S0 (q + 2)).toInt (S0 (q + 3)).toInt px.toInt py.toInt))) 49 (jI (nrD (S0 q).toInt (S0 (q + 1)).toInt (S0 (q + 2)).toInt (S0 (q + 3)).toInt px.toInt py.toInt)))), (oa (a 32) cI 8 S0)] H := ⟨hP, hD⟩
      obtain ⟨hP9, hD9⟩ := zq_sub (wc := [(om k0 a I0 (vp_updL (vp_updL J0 48 (jI (nrU (S0 q).toInt (S0 (q + 1)).toInt (S0 (q + 2)).toInt (S0 (q + 3)).toInt px.toInt py.toInt))) 49 (jI (nrD (S0 q).toInt (S0 (q + 1)).toInt (S0 (q + 2)).toInt (S0 (q + 3)).toInt px.toInt py.toInt)))), (oa (a 32) cI 8 S0)]) hP hD [0, 1] rfl rfl
      rw [hQ9]
      exact W.vret hx hb hr (fun t ht hW => ⟨⟨rfl, (nrU (S0 q).toInt (S0 (q + 1)).toInt (S0 (q + 2)).toInt (S0 (q + 3)).toInt px.toInt py.toInt), (nrD (S0 q).toInt (S0 (q + 1)).toInt (S0 (q + 2)).toInt (S0 (q + 3)).toInt px.toInt py.toInt), (by unfold ndP; first | exact Or.inl ⟨Or.inl (by omega), rfl, rfl⟩ | exact Or.inl ⟨Or.inr (by first | with_reducible assumption | assumption), rfl, rfl⟩ | exact Or.inr ⟨fun h => h.elim (by omega) (by first | with_reducible assumption | assumption), rfl, rfl⟩), by rw [ht]; exact hP9, hD9⟩, hS.F ht⟩) hS.2.2 dX11_nearer_209
    · have c_6 : ¬ d = 0 := zl_ne (jI_toInt (by omega)) rfl c_6
      refine lv_aload_n hx hb dX11_nearer_178 rfl (lv_at hl 8 rfl) ?_
      refine lv_lload hx hb dX11_nearer_179 (lv_at hl 0 rfl) ?_
      refine lv_lload hx hb dX11_nearer_181 (lv_at hl 1 rfl) ?_
      refine zz_l (v := jI (nrD (S0 q).toInt (S0 (q + 1)).toInt (S0 (q + 2)).toInt (S0 (q + 3)).toInt px.toInt py.toInt)) (by first | (rw [nrD_0 hT0]; exact jI_1) | (rw [nrD_1 (by omega) (by omega)]; exact jI_1) | (rw [nrD_2 (by omega) (by omega)])) ?_
      refine lv_aload_n hx hb dX11_nearer_183 rfl (lv_at hl 8 rfl) ?_
      refine va_get (D := (dC, dI)) (ci := 9) (v := .long (jI u)) (C := RX11) (T := TX11) (N := 55) hx hb hts inX11 hown hK hP 0 rfl rfl 48 (Nat.le_of_ble_eq_true rfl) (hts _ mw_1207) (fun _ h9 => h9) rfl dX11_nearer_184 ?_
      refine lv_aload_n hx hb dX11_nearer_187 rfl (lv_at hl 8 rfl) ?_
      refine va_get (D := (dC, dI)) (ci := 9) (v := .long (jI d)) (C := RX11) (T := TX11) (N := 55) hx hb hts inX11 hown hK hP 0 rfl rfl 49 (Nat.le_of_ble_eq_true rfl) (hts _ mw_1208) (fun _ h9 => h9) rfl dX11_nearer_188 ?_
      obtain ⟨hPc, hDc, hFc⟩ := zc_sub (wc := [(om k0 a I0 (vp_updL (vp_updL J0 48 (jI u)) 49 (jI d)))]) hP hD hS hA [0] rfl rfl
      refine zcall (st1 := [.int (pI ((nrU (S0 q).toInt (S0 (q + 1)).toInt (S0 (q + 2)).toInt (S0 (q + 3)).toInt px.toInt py.toInt) * d < u * (nrD (S0 q).toInt (S0 (q + 1)).toInt (S0 (q + 2)).toInt (S0 (q + 3)).toInt px.toInt py.toInt)))]) (va_runV (As := [.long (jI (nrU (S0 q).toInt (S0 (q + 1)).toInt (S0 (q + 2)).toInt (S0 (q + 3)).toInt px.toInt py.toInt)), .long (jI (nrD (S0 q).toInt (S0 (q + 1)).toInt (S0 (q + 2)).toInt (S0 (q + 3)).toInt px.toInt py.toInt)), .long (jI u), .long (jI d)]) (rest := []) ⟨hx, hb, hml, hown, hts⟩ (k_M_isLess l dC dI cI cZ cF s.heap.size k0 a I0 (vp_updL (vp_updL J0 48 (jI u)) 49 (jI d)) (nrU (S0 q).toInt (S0 (q + 1)).toInt (S0 (q + 2)).toInt (S0 (q + 3)).toInt px.toInt py.toInt) (nrD (S0 q).toInt (S0 (q + 1)).toInt (S0 (q + 2)).toInt (S0 (q + 3)).toInt px.toInt py.toInt) u d (prN hUb.1 hd9) (prN hu9 ⟨by omega, hUb.2.2⟩) (by first | with_reducible assumption | omega) (by first | with_reducible assumption | omega) (by first | with_reducible assumption | omega) (by first | with_reducible assumption | omega)) (csV_217 hts rfl rfl ⟨Nat.le_of_ble_eq_true rfl, Nat.le_of_ble_eq_true rfl⟩) (zPV2 (q0 := 0) (ci := 9) hPc hDc hK hXN rfl rfl) rfl rfl hl.1 rfl (lv_room (Nat.le_of_ble_eq_true rfl)) dX11_nearer_191 ⟨Nat.le_of_ble_eq_true rfl, Nat.le_of_ble_eq_true rfl⟩) hS hFc hFc rfl (fun t H locs ht hB hk1 hS => ?_)
      obtain ⟨hP1, hD1⟩ := hB
      rw [ht] at hP1
      obtain ⟨hP, hD⟩ := zk (W2 := [(om k0 a I0 (vp_updL (vp_updL J0 48 (jI u)) 49 (jI d))), (oa (a 32) cI 8 S0)]) hP hD [0] [1] [1] [0] [1, 0] 2 rfl rfl rfl rfl rfl rfl rfl rfl rfl hk1 hFc hP1 hD1
      clear hk1 hPc hDc hFc hP1 hD1 ht
      refine lv_if_eq (tgt := 209) hx hb dX11_nearer_194 rfl (fun c_7 => ?_) (fun c_7 => ?_)
      · have c_7 : ¬ ((nrU (S0 q).toInt (S0 (q + 1)).toInt (S0 (q + 2)).toInt (S0 (q + 3)).toInt px.toInt py.toInt) * d < u * (nrD (S0 q).toInt (S0 (q + 1)).toInt (S0 (q + 2)).toInt (S0 (q + 3)).toInt px.toInt py.toInt)) := zp_0 c_7
        obtain ⟨hP9, hD9⟩ := zq_sub (wc := [(om k0 a I0 (vp_updL (vp_updL J0 48 (jI u)) 49 (jI d))), (oa (a 32) cI 8 S0)]) hP hD [0, 1] rfl rfl
        rw [hQ9]
        exact W.vret hx hb hr (fun t ht hW => ⟨⟨rfl, u, d, (by unfold ndP; first | exact Or.inl ⟨Or.inl (by omega), rfl, rfl⟩ | exact Or.inl ⟨Or.inr (by first | with_reducible assumption | assumption), rfl, rfl⟩ | exact Or.inr ⟨fun h => h.elim (by omega) (by first | with_reducible assumption | assumption), rfl, rfl⟩), by rw [ht]; exact hP9, hD9⟩, hS.F ht⟩) hS.2.2 dX11_nearer_209
      · have c_7 : (nrU (S0 q).toInt (S0 (q + 1)).toInt (S0 (q + 2)).toInt (S0 (q + 3)).toInt px.toInt py.toInt) * d < u * (nrD (S0 q).toInt (S0 (q + 1)).toInt (S0 (q + 2)).toInt (S0 (q + 3)).toInt px.toInt py.toInt) := zp_1 c_7
        refine lv_aload_n hx hb dX11_nearer_197 rfl (lv_at hl 8 rfl) ?_
        refine lv_lload hx hb dX11_nearer_198 (lv_at hl 0 rfl) ?_
        refine va_put (D := (dC, dI)) (ci := 9) (v := .long (jI (nrU (S0 q).toInt (S0 (q + 1)).toInt (S0 (q + 2)).toInt (S0 (q + 3)).toInt px.toInt py.toInt))) (ty := .long) (C := RX11) (T := TX11) (N := 55) hx hb hts inX11 tyX11 tyX11_ok nmX11 hown hK hP hD hS 0 rfl rfl 48 (by decide) (hts _ mw_1207) (fun _ h9 => h9) rfl (by decide +kernel) rfl rfl (Nat.le_of_ble_eq_true rfl) dX11_nearer_200 (fun H locs hP hD hS => ?_)
        obtain ⟨hP, hD⟩ : zPD (dC, dI) classes A [(om k0 a I0 (vp_updL (vp_updL J0 48 (jI (nrU (S0 q).toInt (S0 (q + 1)).toInt (S0 (q + 2)).toInt (S0 (q + 3)).toInt px.toInt py.toInt))) 49 (jI d))), (oa (a 32) cI 8 S0)] H := ⟨hP, hD⟩
        refine lv_aload_n hx hb dX11_nearer_203 rfl (lv_at hl 8 rfl) ?_
        refine lv_lload hx hb dX11_nearer_204 (lv_at hl 1 rfl) ?_
        refine zz_l (v := jI (nrD (S0 q).toInt (S0 (q + 1)).toInt (S0 (q + 2)).toInt (S0 (q + 3)).toInt px.toInt py.toInt)) (by first | (rw [nrD_0 hT0]; exact jI_1) | (rw [nrD_1 (by omega) (by omega)]; exact jI_1) | (rw [nrD_2 (by omega) (by omega)])) ?_
        refine va_put (D := (dC, dI)) (ci := 9) (v := .long (jI (nrD (S0 q).toInt (S0 (q + 1)).toInt (S0 (q + 2)).toInt (S0 (q + 3)).toInt px.toInt py.toInt))) (ty := .long) (C := RX11) (T := TX11) (N := 55) hx hb hts inX11 tyX11 tyX11_ok nmX11 hown hK hP hD hS 0 rfl rfl 49 (by decide) (hts _ mw_1208) (fun _ h9 => h9) rfl (by decide +kernel) rfl rfl (Nat.le_of_ble_eq_true rfl) dX11_nearer_206 (fun H locs hP hD hS => ?_)
        obtain ⟨hP, hD⟩ : zPD (dC, dI) classes A [(om k0 a I0 (vp_updL (vp_updL J0 48 (jI (nrU (S0 q).toInt (S0 (q + 1)).toInt (S0 (q + 2)).toInt (S0 (q + 3)).toInt px.toInt py.toInt))) 49 (jI (nrD (S0 q).toInt (S0 (q + 1)).toInt (S0 (q + 2)).toInt (S0 (q + 3)).toInt px.toInt py.toInt)))), (oa (a 32) cI 8 S0)] H := ⟨hP, hD⟩
        obtain ⟨hP9, hD9⟩ := zq_sub (wc := [(om k0 a I0 (vp_updL (vp_updL J0 48 (jI (nrU (S0 q).toInt (S0 (q + 1)).toInt (S0 (q + 2)).toInt (S0 (q + 3)).toInt px.toInt py.toInt))) 49 (jI (nrD (S0 q).toInt (S0 (q + 1)).toInt (S0 (q + 2)).toInt (S0 (q + 3)).toInt px.toInt py.toInt)))), (oa (a 32) cI 8 S0)]) hP hD [0, 1] rfl rfl
        rw [hQ9]
        exact W.vret hx hb hr (fun t ht hW => ⟨⟨rfl, (nrU (S0 q).toInt (S0 (q + 1)).toInt (S0 (q + 2)).toInt (S0 (q + 3)).toInt px.toInt py.toInt), (nrD (S0 q).toInt (S0 (q + 1)).toInt (S0 (q + 2)).toInt (S0 (q + 3)).toInt px.toInt py.toInt), (by unfold ndP; first | exact Or.inl ⟨Or.inl (by omega), rfl, rfl⟩ | exact Or.inl ⟨Or.inr (by first | with_reducible assumption | assumption), rfl, rfl⟩ | exact Or.inr ⟨fun h => h.elim (by omega) (by first | with_reducible assumption | assumption), rfl, rfl⟩), by rw [ht]; exact hP9, hD9⟩, hS.F ht⟩) hS.2.2 dX11_nearer_209
  · have c_5 : ¬ (nrL (S0 q).toInt (S0 (q + 1)).toInt (S0 (q + 2)).toInt (S0 (q + 3)).toInt) = 0 := zl_ne (jI_toInt (by omega)) rfl c_5
    refine lv_lload hx hb dX11_nearer_86 (lv_at hl 1 rfl) ?_
    refine lv_lconst (v := 0) hx hb dX11_nearer_88 rfl ?_
    refine W.lcmp hx hb dX11_nearer_89 ?_
    refine lv_if_gt (tgt := 109) hx hb dX11_nearer_90 rfl (fun c_8 => ?_) (fun c_8 => ?_)
    · have c_8 : 0 < (nrT (S0 q).toInt (S0 (q + 1)).toInt (S0 (q + 2)).toInt (S0 (q + 3)).toInt px.toInt py.toInt) := zl_gt (jI_toInt (by omega)) rfl c_8
      refine lv_lload hx hb dX11_nearer_109 (lv_at hl 1 rfl) ?_
      refine lv_lload hx hb dX11_nearer_111 (lv_at hl 2 rfl) ?_
      refine W.lcmp hx hb dX11_nearer_113 ?_
      refine lv_if_lt (tgt := 145) hx hb dX11_nearer_114 rfl (fun c_9 => ?_) (fun c_9 => ?_)
      · have c_9 : (nrT (S0 q).toInt (S0 (q + 1)).toInt (S0 (q + 2)).toInt (S0 (q + 3)).toInt px.toInt py.toInt) < (nrL (S0 q).toInt (S0 (q + 1)).toInt (S0 (q + 2)).toInt (S0 (q + 3)).toInt) := zl_lt (jI_toInt (by omega)) (jI_toInt (by omega)) c_9
        refine lv_lload hx hb dX11_nearer_145 (lv_at hl 6 rfl) ?_
        refine lv_lload hx hb dX11_nearer_147 (lv_at hl 3 rfl) ?_
        refine lv_lmul hx hb dX11_nearer_149 ?_
        refine lv_lload hx hb dX11_nearer_150 (lv_at hl 5 rfl) ?_
        refine lv_lload hx hb dX11_nearer_152 (lv_at hl 4 rfl) ?_
        refine lv_lmul hx hb dX11_nearer_154 ?_
        refine lv_lsub hx hb dX11_nearer_155 ?_
        refine lv_lstore (lv' := [(21, .long (((((S0 (q + 2)) - (S0 q)).toInt64) * ((py - (S0 (q + 1))).toInt64)) - ((((S0 (q + 3)) - (S0 (q + 1))).toInt64) * ((px - (S0 q)).toInt64)))), (19, .long 1), (15, .long (jI (nrT (S0 q).toInt (S0 (q + 1)).toInt (S0 (q + 2)).toInt (S0 (q + 3)).toInt px.toInt py.toInt))), (13, .long (jI (nrL (S0 q).toInt (S0 (q + 1)).toInt (S0 (q + 2)).toInt (S0 (q + 3)).toInt))), (11, .long ((py - (S0 (q + 1))).toInt64)), (9, .long ((px - (S0 q)).toInt64)), (7, .long (((S0 (q + 3)) - (S0 (q + 1))).toInt64)), (5, .long (((S0 (q + 2)) - (S0 q)).toInt64)), (0, .ref k0), (1, .ref (a 32)), (2, .int px), (3, .int py), (4, .int (nI q))]) hx hb dX11_nearer_156 hl (Nat.le_of_ble_eq_true rfl) rfl (fun ls hl => ?_)
        refine lv_lload hx hb dX11_nearer_158 (lv_at hl 0 rfl) ?_
        refine lv_lload hx hb dX11_nearer_160 (lv_at hl 0 rfl) ?_
        refine lv_lmul hx hb dX11_nearer_162 ?_
        refine zz_l (v := jI (nrU (S0 q).toInt (S0 (q + 1)).toInt (S0 (q + 2)).toInt (S0 (q + 3)).toInt px.toInt py.toInt)) (nr_u2 (hs q (by omega) (by omega)) (hs (q + 1) (by omega) (by omega)) (hs (q + 2) (by omega) (by omega)) (hs (q + 3) (by omega) (by omega)) hpx hpy (by omega) (by omega)) ?_
        refine lv_lstore (lv' := [(17, .long (jI (nrU (S0 q).toInt (S0 (q + 1)).toInt (S0 (q + 2)).toInt (S0 (q + 3)).toInt px.toInt py.toInt))), (21, .long (((((S0 (q + 2)) - (S0 q)).toInt64) * ((py - (S0 (q + 1))).toInt64)) - ((((S0 (q + 3)) - (S0 (q + 1))).toInt64) * ((px - (S0 q)).toInt64)))), (19, .long 1), (15, .long (jI (nrT (S0 q).toInt (S0 (q + 1)).toInt (S0 (q + 2)).toInt (S0 (q + 3)).toInt px.toInt py.toInt))), (13, .long (jI (nrL (S0 q).toInt (S0 (q + 1)).toInt (S0 (q + 2)).toInt (S0 (q + 3)).toInt))), (11, .long ((py - (S0 (q + 1))).toInt64)), (9, .long ((px - (S0 q)).toInt64)), (7, .long (((S0 (q + 3)) - (S0 (q + 1))).toInt64)), (5, .long (((S0 (q + 2)) - (S0 q)).toInt64)), (0, .ref k0), (1, .ref (a 32)), (2, .int px), (3, .int py), (4, .int (nI q))]) hx hb dX11_nearer_163 hl (Nat.le_of_ble_eq_true rfl) rfl (fun ls hl => ?_)
        refine lv_lload hx hb dX11_nearer_165 (lv_at hl 4 rfl) ?_
        refine lv_lstore (lv' := [(19, .long (jI (nrL (S0 q).toInt (S0 (q + 1)).toInt (S0 (q + 2)).toInt (S0 (q + 3)).toInt))), (17, .long (jI (nrU (S0 q).toInt (S0 (q + 1)).toInt (S0 (q + 2)).toInt (S0 (q + 3)).toInt px.toInt py.toInt))), (21, .long (((((S0 (q + 2)) - (S0 q)).toInt64) * ((py - (S0 (q + 1))).toInt64)) - ((((S0 (q + 3)) - (S0 (q + 1))).toInt64) * ((px - (S0 q)).toInt64)))), (15, .long (jI (nrT (S0 q).toInt (S0 (q + 1)).toInt (S0 (q + 2)).toInt (S0 (q + 3)).toInt px.toInt py.toInt))), (13, .long (jI (nrL (S0 q).toInt (S0 (q + 1)).toInt (S0 (q + 2)).toInt (S0 (q + 3)).toInt))), (11, .long ((py - (S0 (q + 1))).toInt64)), (9, .long ((px - (S0 q)).toInt64)), (7, .long (((S0 (q + 3)) - (S0 (q + 1))).toInt64)), (5, .long (((S0 (q + 2)) - (S0 q)).toInt64)), (0, .ref k0), (1, .ref (a 32)), (2, .int px), (3, .int py), (4, .int (nI q))]) hx hb dX11_nearer_167 hl (Nat.le_of_ble_eq_true rfl) rfl (fun ls hl => ?_)
        refine lv_aload_n hx hb dX11_nearer_169 rfl (lv_at hl 9 rfl) ?_
        refine va_get (D := (dC, dI)) (ci := 9) (v := .long (jI d)) (C := RX11) (T := TX11) (N := 55) hx hb hts inX11 hown hK hP 0 rfl rfl 49 (Nat.le_of_ble_eq_true rfl) (hts _ mw_1208) (fun _ h9 => h9) rfl dX11_nearer_170 ?_
        refine lv_lconst (v := 0) hx hb dX11_nearer_173 rfl ?_
        refine W.lcmp hx hb dX11_nearer_174 ?_
        refine lv_if_eq (tgt := 197) hx hb dX11_nearer_175 rfl (fun c_10 => ?_) (fun c_10 => ?_)
        · have c_10 : d = 0 := zl_eq (jI_toInt (by omega)) rfl c_10
          refine lv_aload_n hx hb dX11_nearer_197 rfl (lv_at hl 9 rfl) ?_
          refine lv_lload hx hb dX11_nearer_198 (lv_at hl 1 rfl) ?_
          refine va_put (D := (dC, dI)) (ci := 9) (v := .long (jI (nrU (S0 q).toInt (S0 (q + 1)).toInt (S0 (q + 2)).toInt (S0 (q + 3)).toInt px.toInt py.toInt))) (ty := .long) (C := RX11) (T := TX11) (N := 55) hx hb hts inX11 tyX11 tyX11_ok nmX11 hown hK hP hD hS 0 rfl rfl 48 (by decide) (hts _ mw_1207) (fun _ h9 => h9) rfl (by decide +kernel) rfl rfl (Nat.le_of_ble_eq_true rfl) dX11_nearer_200 (fun H locs hP hD hS => ?_)
          obtain ⟨hP, hD⟩ : zPD (dC, dI) classes A [(om k0 a I0 (vp_updL (vp_updL J0 48 (jI (nrU (S0 q).toInt (S0 (q + 1)).toInt (S0 (q + 2)).toInt (S0 (q + 3)).toInt px.toInt py.toInt))) 49 (jI d))), (oa (a 32) cI 8 S0)] H := ⟨hP, hD⟩
          refine lv_aload_n hx hb dX11_nearer_203 rfl (lv_at hl 9 rfl) ?_
          refine lv_lload hx hb dX11_nearer_204 (lv_at hl 0 rfl) ?_
          refine zz_l (v := jI (nrD (S0 q).toInt (S0 (q + 1)).toInt (S0 (q + 2)).toInt (S0 (q + 3)).toInt px.toInt py.toInt)) (by first | (rw [nrD_0 hT0]; exact jI_1) | (rw [nrD_1 (by omega) (by omega)]; exact jI_1) | (rw [nrD_2 (by omega) (by omega)])) ?_
          refine va_put (D := (dC, dI)) (ci := 9) (v := .long (jI (nrD (S0 q).toInt (S0 (q + 1)).toInt (S0 (q + 2)).toInt (S0 (q + 3)).toInt px.toInt py.toInt))) (ty := .long) (C := RX11) (T := TX11) (N := 55) hx hb hts inX11 tyX11 tyX11_ok nmX11 hown hK hP hD hS 0 rfl rfl 49 (by decide) (hts _ mw_1208) (fun _ h9 => h9) rfl (by decide +kernel) rfl rfl (Nat.le_of_ble_eq_true rfl) dX11_nearer_206 (fun H locs hP hD hS => ?_)
          obtain ⟨hP, hD⟩ : zPD (dC, dI) classes A [(om k0 a I0 (vp_updL (vp_updL J0 48 (jI (nrU (S0 q).toInt (S0 (q + 1)).toInt (S0 (q + 2)).toInt (S0 (q + 3)).toInt px.toInt py.toInt))) 49 (jI (nrD (S0 q).toInt (S0 (q + 1)).toInt (S0 (q + 2)).toInt (S0 (q + 3)).toInt px.toInt py.toInt)))), (oa (a 32) cI 8 S0)] H := ⟨hP, hD⟩
          obtain ⟨hP9, hD9⟩ := zq_sub (wc := [(om k0 a I0 (vp_updL (vp_updL J0 48 (jI (nrU (S0 q).toInt (S0 (q + 1)).toInt (S0 (q + 2)).toInt (S0 (q + 3)).toInt px.toInt py.toInt))) 49 (jI (nrD (S0 q).toInt (S0 (q + 1)).toInt (S0 (q + 2)).toInt (S0 (q + 3)).toInt px.toInt py.toInt)))), (oa (a 32) cI 8 S0)]) hP hD [0, 1] rfl rfl
          rw [hQ9]
          exact W.vret hx hb hr (fun t ht hW => ⟨⟨rfl, (nrU (S0 q).toInt (S0 (q + 1)).toInt (S0 (q + 2)).toInt (S0 (q + 3)).toInt px.toInt py.toInt), (nrD (S0 q).toInt (S0 (q + 1)).toInt (S0 (q + 2)).toInt (S0 (q + 3)).toInt px.toInt py.toInt), (by unfold ndP; first | exact Or.inl ⟨Or.inl (by omega), rfl, rfl⟩ | exact Or.inl ⟨Or.inr (by first | with_reducible assumption | assumption), rfl, rfl⟩ | exact Or.inr ⟨fun h => h.elim (by omega) (by first | with_reducible assumption | assumption), rfl, rfl⟩), by rw [ht]; exact hP9, hD9⟩, hS.F ht⟩) hS.2.2 dX11_nearer_209
        · have c_10 : ¬ d = 0 := zl_ne (jI_toInt (by omega)) rfl c_10
          refine lv_aload_n hx hb dX11_nearer_178 rfl (lv_at hl 9 rfl) ?_
          refine lv_lload hx hb dX11_nearer_179 (lv_at hl 1 rfl) ?_
          refine lv_lload hx hb dX11_nearer_181 (lv_at hl 0 rfl) ?_
          refine zz_l (v := jI (nrD (S0 q).toInt (S0 (q + 1)).toInt (S0 (q + 2)).toInt (S0 (q + 3)).toInt px.toInt py.toInt)) (by first | (rw [nrD_0 hT0]; exact jI_1) | (rw [nrD_1 (by omega) (by omega)]; exact jI_1) | (rw [nrD_2 (by omega) (by omega)])) ?_
          refine lv_aload_n hx hb dX11_nearer_183 rfl (lv_at hl 9 rfl) ?_
          refine va_get (D := (dC, dI)) (ci := 9) (v := .long (jI u)) (C := RX11) (T := TX11) (N := 55) hx hb hts inX11 hown hK hP 0 rfl rfl 48 (Nat.le_of_ble_eq_true rfl) (hts _ mw_1207) (fun _ h9 => h9) rfl dX11_nearer_184 ?_
          refine lv_aload_n hx hb dX11_nearer_187 rfl (lv_at hl 9 rfl) ?_
          refine va_get (D := (dC, dI)) (ci := 9) (v := .long (jI d)) (C := RX11) (T := TX11) (N := 55) hx hb hts inX11 hown hK hP 0 rfl rfl 49 (Nat.le_of_ble_eq_true rfl) (hts _ mw_1208) (fun _ h9 => h9) rfl dX11_nearer_188 ?_
          obtain ⟨hPc, hDc, hFc⟩ := zc_sub (wc := [(om k0 a I0 (vp_updL (vp_updL J0 48 (jI u)) 49 (jI d)))]) hP hD hS hA [0] rfl rfl
          refine zcall (st1 := [.int (pI ((nrU (S0 q).toInt (S0 (q + 1)).toInt (S0 (q + 2)).toInt (S0 (q + 3)).toInt px.toInt py.toInt) * d < u * (nrD (S0 q).toInt (S0 (q + 1)).toInt (S0 (q + 2)).toInt (S0 (q + 3)).toInt px.toInt py.toInt)))]) (va_runV (As := [.long (jI (nrU (S0 q).toInt (S0 (q + 1)).toInt (S0 (q + 2)).toInt (S0 (q + 3)).toInt px.toInt py.toInt)), .long (jI (nrD (S0 q).toInt (S0 (q + 1)).toInt (S0 (q + 2)).toInt (S0 (q + 3)).toInt px.toInt py.toInt)), .long (jI u), .long (jI d)]) (rest := []) ⟨hx, hb, hml, hown, hts⟩ (k_M_isLess l dC dI cI cZ cF s.heap.size k0 a I0 (vp_updL (vp_updL J0 48 (jI u)) 49 (jI d)) (nrU (S0 q).toInt (S0 (q + 1)).toInt (S0 (q + 2)).toInt (S0 (q + 3)).toInt px.toInt py.toInt) (nrD (S0 q).toInt (S0 (q + 1)).toInt (S0 (q + 2)).toInt (S0 (q + 3)).toInt px.toInt py.toInt) u d (prN hUb.1 hd9) (prN hu9 ⟨by omega, hUb.2.2⟩) (by first | with_reducible assumption | omega) (by first | with_reducible assumption | omega) (by first | with_reducible assumption | omega) (by first | with_reducible assumption | omega)) (csV_217 hts rfl rfl ⟨Nat.le_of_ble_eq_true rfl, Nat.le_of_ble_eq_true rfl⟩) (zPV2 (q0 := 0) (ci := 9) hPc hDc hK hXN rfl rfl) rfl rfl hl.1 rfl (lv_room (Nat.le_of_ble_eq_true rfl)) dX11_nearer_191 ⟨Nat.le_of_ble_eq_true rfl, Nat.le_of_ble_eq_true rfl⟩) hS hFc hFc rfl (fun t H locs ht hB hk1 hS => ?_)
          obtain ⟨hP1, hD1⟩ := hB
          rw [ht] at hP1
          obtain ⟨hP, hD⟩ := zk (W2 := [(om k0 a I0 (vp_updL (vp_updL J0 48 (jI u)) 49 (jI d))), (oa (a 32) cI 8 S0)]) hP hD [0] [1] [1] [0] [1, 0] 2 rfl rfl rfl rfl rfl rfl rfl rfl rfl hk1 hFc hP1 hD1
          clear hk1 hPc hDc hFc hP1 hD1 ht
          refine lv_if_eq (tgt := 209) hx hb dX11_nearer_194 rfl (fun c_11 => ?_) (fun c_11 => ?_)
          · have c_11 : ¬ ((nrU (S0 q).toInt (S0 (q + 1)).toInt (S0 (q + 2)).toInt (S0 (q + 3)).toInt px.toInt py.toInt) * d < u * (nrD (S0 q).toInt (S0 (q + 1)).toInt (S0 (q + 2)).toInt (S0 (q + 3)).toInt px.toInt py.toInt)) := zp_0 c_11
            obtain ⟨hP9, hD9⟩ := zq_sub (wc := [(om k0 a I0 (vp_updL (vp_updL J0 48 (jI u)) 49 (jI d))), (oa (a 32) cI 8 S0)]) hP hD [0, 1] rfl rfl
            rw [hQ9]
            exact W.vret hx hb hr (fun t ht hW => ⟨⟨rfl, u, d, (by unfold ndP; first | exact Or.inl ⟨Or.inl (by omega), rfl, rfl⟩ | exact Or.inl ⟨Or.inr (by first | with_reducible assumption | assumption), rfl, rfl⟩ | exact Or.inr ⟨fun h => h.elim (by omega) (by first | with_reducible assumption | assumption), rfl, rfl⟩), by rw [ht]; exact hP9, hD9⟩, hS.F ht⟩) hS.2.2 dX11_nearer_209
          · have c_11 : (nrU (S0 q).toInt (S0 (q + 1)).toInt (S0 (q + 2)).toInt (S0 (q + 3)).toInt px.toInt py.toInt) * d < u * (nrD (S0 q).toInt (S0 (q + 1)).toInt (S0 (q + 2)).toInt (S0 (q + 3)).toInt px.toInt py.toInt) := zp_1 c_11
            refine lv_aload_n hx hb dX11_nearer_197 rfl (lv_at hl 9 rfl) ?_
            refine lv_lload hx hb dX11_nearer_198 (lv_at hl 1 rfl) ?_
            refine va_put (D := (dC, dI)) (ci := 9) (v := .long (jI (nrU (S0 q).toInt (S0 (q + 1)).toInt (S0 (q + 2)).toInt (S0 (q + 3)).toInt px.toInt py.toInt))) (ty := .long) (C := RX11) (T := TX11) (N := 55) hx hb hts inX11 tyX11 tyX11_ok nmX11 hown hK hP hD hS 0 rfl rfl 48 (by decide) (hts _ mw_1207) (fun _ h9 => h9) rfl (by decide +kernel) rfl rfl (Nat.le_of_ble_eq_true rfl) dX11_nearer_200 (fun H locs hP hD hS => ?_)
            obtain ⟨hP, hD⟩ : zPD (dC, dI) classes A [(om k0 a I0 (vp_updL (vp_updL J0 48 (jI (nrU (S0 q).toInt (S0 (q + 1)).toInt (S0 (q + 2)).toInt (S0 (q + 3)).toInt px.toInt py.toInt))) 49 (jI d))), (oa (a 32) cI 8 S0)] H := ⟨hP, hD⟩
            refine lv_aload_n hx hb dX11_nearer_203 rfl (lv_at hl 9 rfl) ?_
            refine lv_lload hx hb dX11_nearer_204 (lv_at hl 0 rfl) ?_
            refine zz_l (v := jI (nrD (S0 q).toInt (S0 (q + 1)).toInt (S0 (q + 2)).toInt (S0 (q + 3)).toInt px.toInt py.toInt)) (by first | (rw [nrD_0 hT0]; exact jI_1) | (rw [nrD_1 (by omega) (by omega)]; exact jI_1) | (rw [nrD_2 (by omega) (by omega)])) ?_
            refine va_put (D := (dC, dI)) (ci := 9) (v := .long (jI (nrD (S0 q).toInt (S0 (q + 1)).toInt (S0 (q + 2)).toInt (S0 (q + 3)).toInt px.toInt py.toInt))) (ty := .long) (C := RX11) (T := TX11) (N := 55) hx hb hts inX11 tyX11 tyX11_ok nmX11 hown hK hP hD hS 0 rfl rfl 49 (by decide) (hts _ mw_1208) (fun _ h9 => h9) rfl (by decide +kernel) rfl rfl (Nat.le_of_ble_eq_true rfl) dX11_nearer_206 (fun H locs hP hD hS => ?_)
            obtain ⟨hP, hD⟩ : zPD (dC, dI) classes A [(om k0 a I0 (vp_updL (vp_updL J0 48 (jI (nrU (S0 q).toInt (S0 (q + 1)).toInt (S0 (q + 2)).toInt (S0 (q + 3)).toInt px.toInt py.toInt))) 49 (jI (nrD (S0 q).toInt (S0 (q + 1)).toInt (S0 (q + 2)).toInt (S0 (q + 3)).toInt px.toInt py.toInt)))), (oa (a 32) cI 8 S0)] H := ⟨hP, hD⟩
            obtain ⟨hP9, hD9⟩ := zq_sub (wc := [(om k0 a I0 (vp_updL (vp_updL J0 48 (jI (nrU (S0 q).toInt (S0 (q + 1)).toInt (S0 (q + 2)).toInt (S0 (q + 3)).toInt px.toInt py.toInt))) 49 (jI (nrD (S0 q).toInt (S0 (q + 1)).toInt (S0 (q + 2)).toInt (S0 (q + 3)).toInt px.toInt py.toInt)))), (oa (a 32) cI 8 S0)]) hP hD [0, 1] rfl rfl
            rw [hQ9]
            exact W.vret hx hb hr (fun t ht hW => ⟨⟨rfl, (nrU (S0 q).toInt (S0 (q + 1)).toInt (S0 (q + 2)).toInt (S0 (q + 3)).toInt px.toInt py.toInt), (nrD (S0 q).toInt (S0 (q + 1)).toInt (S0 (q + 2)).toInt (S0 (q + 3)).toInt px.toInt py.toInt), (by unfold ndP; first | exact Or.inl ⟨Or.inl (by omega), rfl, rfl⟩ | exact Or.inl ⟨Or.inr (by first | with_reducible assumption | assumption), rfl, rfl⟩ | exact Or.inr ⟨fun h => h.elim (by omega) (by first | with_reducible assumption | assumption), rfl, rfl⟩), by rw [ht]; exact hP9, hD9⟩, hS.F ht⟩) hS.2.2 dX11_nearer_209
      · have c_9 : (nrL (S0 q).toInt (S0 (q + 1)).toInt (S0 (q + 2)).toInt (S0 (q + 3)).toInt) ≤ (nrT (S0 q).toInt (S0 (q + 1)).toInt (S0 (q + 2)).toInt (S0 (q + 3)).toInt px.toInt py.toInt) := zl_nlt (jI_toInt (by omega)) (jI_toInt (by omega)) c_9
        refine lv_lload hx hb dX11_nearer_117 (lv_at hl 4 rfl) ?_
        refine lv_lload hx hb dX11_nearer_119 (lv_at hl 6 rfl) ?_
        refine lv_lsub hx hb dX11_nearer_121 ?_
        refine lv_lload hx hb dX11_nearer_122 (lv_at hl 4 rfl) ?_
        refine lv_lload hx hb dX11_nearer_124 (lv_at hl 6 rfl) ?_
        refine lv_lsub hx hb dX11_nearer_126 ?_
        refine lv_lmul hx hb dX11_nearer_127 ?_
        refine lv_lload hx hb dX11_nearer_128 (lv_at hl 3 rfl) ?_
        refine lv_lload hx hb dX11_nearer_130 (lv_at hl 5 rfl) ?_
        refine lv_lsub hx hb dX11_nearer_132 ?_
        refine lv_lload hx hb dX11_nearer_133 (lv_at hl 3 rfl) ?_
        refine lv_lload hx hb dX11_nearer_135 (lv_at hl 5 rfl) ?_
        refine lv_lsub hx hb dX11_nearer_137 ?_
        refine lv_lmul hx hb dX11_nearer_138 ?_
        refine lv_ladd hx hb dX11_nearer_139 ?_
        refine zz_l (v := jI (nrU (S0 q).toInt (S0 (q + 1)).toInt (S0 (q + 2)).toInt (S0 (q + 3)).toInt px.toInt py.toInt)) (nr_u1 (hs q (by omega) (by omega)) (hs (q + 1) (by omega) (by omega)) (hs (q + 2) (by omega) (by omega)) (hs (q + 3) (by omega) (by omega)) hpx hpy (by omega) (by omega)) ?_
        refine lv_lstore (lv' := [(17, .long (jI (nrU (S0 q).toInt (S0 (q + 1)).toInt (S0 (q + 2)).toInt (S0 (q + 3)).toInt px.toInt py.toInt))), (19, .long 1), (15, .long (jI (nrT (S0 q).toInt (S0 (q + 1)).toInt (S0 (q + 2)).toInt (S0 (q + 3)).toInt px.toInt py.toInt))), (13, .long (jI (nrL (S0 q).toInt (S0 (q + 1)).toInt (S0 (q + 2)).toInt (S0 (q + 3)).toInt))), (11, .long ((py - (S0 (q + 1))).toInt64)), (9, .long ((px - (S0 q)).toInt64)), (7, .long (((S0 (q + 3)) - (S0 (q + 1))).toInt64)), (5, .long (((S0 (q + 2)) - (S0 q)).toInt64)), (0, .ref k0), (1, .ref (a 32)), (2, .int px), (3, .int py), (4, .int (nI q))]) hx hb dX11_nearer_140 hl (Nat.le_of_ble_eq_true rfl) rfl (fun ls hl => ?_)
        refine lv_goto (tgt := 169) hx hb dX11_nearer_142 rfl ?_
        refine lv_aload_n hx hb dX11_nearer_169 rfl (lv_at hl 8 rfl) ?_
        refine va_get (D := (dC, dI)) (ci := 9) (v := .long (jI d)) (C := RX11) (T := TX11) (N := 55) hx hb hts inX11 hown hK hP 0 rfl rfl 49 (Nat.le_of_ble_eq_true rfl) (hts _ mw_1208) (fun _ h9 => h9) rfl dX11_nearer_170 ?_
        refine lv_lconst (v := 0) hx hb dX11_nearer_173 rfl ?_
        refine W.lcmp hx hb dX11_nearer_174 ?_
        refine lv_if_eq (tgt := 197) hx hb dX11_nearer_175 rfl (fun c_12 => ?_) (fun c_12 => ?_)
        · have c_12 : d = 0 := zl_eq (jI_toInt (by omega)) rfl c_12
          refine lv_aload_n hx hb dX11_nearer_197 rfl (lv_at hl 8 rfl) ?_
          refine lv_lload hx hb dX11_nearer_198 (lv_at hl 0 rfl) ?_
          refine va_put (D := (dC, dI)) (ci := 9) (v := .long (jI (nrU (S0 q).toInt (S0 (q + 1)).toInt (S0 (q + 2)).toInt (S0 (q + 3)).toInt px.toInt py.toInt))) (ty := .long) (C := RX11) (T := TX11) (N := 55) hx hb hts inX11 tyX11 tyX11_ok nmX11 hown hK hP hD hS 0 rfl rfl 48 (by decide) (hts _ mw_1207) (fun _ h9 => h9) rfl (by decide +kernel) rfl rfl (Nat.le_of_ble_eq_true rfl) dX11_nearer_200 (fun H locs hP hD hS => ?_)
          obtain ⟨hP, hD⟩ : zPD (dC, dI) classes A [(om k0 a I0 (vp_updL (vp_updL J0 48 (jI (nrU (S0 q).toInt (S0 (q + 1)).toInt (S0 (q + 2)).toInt (S0 (q + 3)).toInt px.toInt py.toInt))) 49 (jI d))), (oa (a 32) cI 8 S0)] H := ⟨hP, hD⟩
          refine lv_aload_n hx hb dX11_nearer_203 rfl (lv_at hl 8 rfl) ?_
          refine lv_lload hx hb dX11_nearer_204 (lv_at hl 1 rfl) ?_
          refine zz_l (v := jI (nrD (S0 q).toInt (S0 (q + 1)).toInt (S0 (q + 2)).toInt (S0 (q + 3)).toInt px.toInt py.toInt)) (by first | (rw [nrD_0 hT0]; exact jI_1) | (rw [nrD_1 (by omega) (by omega)]; exact jI_1) | (rw [nrD_2 (by omega) (by omega)])) ?_
          refine va_put (D := (dC, dI)) (ci := 9) (v := .long (jI (nrD (S0 q).toInt (S0 (q + 1)).toInt (S0 (q + 2)).toInt (S0 (q + 3)).toInt px.toInt py.toInt))) (ty := .long) (C := RX11) (T := TX11) (N := 55) hx hb hts inX11 tyX11 tyX11_ok nmX11 hown hK hP hD hS 0 rfl rfl 49 (by decide) (hts _ mw_1208) (fun _ h9 => h9) rfl (by decide +kernel) rfl rfl (Nat.le_of_ble_eq_true rfl) dX11_nearer_206 (fun H locs hP hD hS => ?_)
          obtain ⟨hP, hD⟩ : zPD (dC, dI) classes A [(om k0 a I0 (vp_updL (vp_updL J0 48 (jI (nrU (S0 q).toInt (S0 (q + 1)).toInt (S0 (q + 2)).toInt (S0 (q + 3)).toInt px.toInt py.toInt))) 49 (jI (nrD (S0 q).toInt (S0 (q + 1)).toInt (S0 (q + 2)).toInt (S0 (q + 3)).toInt px.toInt py.toInt)))), (oa (a 32) cI 8 S0)] H := ⟨hP, hD⟩
          obtain ⟨hP9, hD9⟩ := zq_sub (wc := [(om k0 a I0 (vp_updL (vp_updL J0 48 (jI (nrU (S0 q).toInt (S0 (q + 1)).toInt (S0 (q + 2)).toInt (S0 (q + 3)).toInt px.toInt py.toInt))) 49 (jI (nrD (S0 q).toInt (S0 (q + 1)).toInt (S0 (q + 2)).toInt (S0 (q + 3)).toInt px.toInt py.toInt)))), (oa (a 32) cI 8 S0)]) hP hD [0, 1] rfl rfl
          rw [hQ9]
          exact W.vret hx hb hr (fun t ht hW => ⟨⟨rfl, (nrU (S0 q).toInt (S0 (q + 1)).toInt (S0 (q + 2)).toInt (S0 (q + 3)).toInt px.toInt py.toInt), (nrD (S0 q).toInt (S0 (q + 1)).toInt (S0 (q + 2)).toInt (S0 (q + 3)).toInt px.toInt py.toInt), (by unfold ndP; first | exact Or.inl ⟨Or.inl (by omega), rfl, rfl⟩ | exact Or.inl ⟨Or.inr (by first | with_reducible assumption | assumption), rfl, rfl⟩ | exact Or.inr ⟨fun h => h.elim (by omega) (by first | with_reducible assumption | assumption), rfl, rfl⟩), by rw [ht]; exact hP9, hD9⟩, hS.F ht⟩) hS.2.2 dX11_nearer_209
        · have c_12 : ¬ d = 0 := zl_ne (jI_toInt (by omega)) rfl c_12
          refine lv_aload_n hx hb dX11_nearer_178 rfl (lv_at hl 8 rfl) ?_
          refine lv_lload hx hb dX11_nearer_179 (lv_at hl 0 rfl) ?_
          refine lv_lload hx hb dX11_nearer_181 (lv_at hl 1 rfl) ?_
          refine zz_l (v := jI (nrD (S0 q).toInt (S0 (q + 1)).toInt (S0 (q + 2)).toInt (S0 (q + 3)).toInt px.toInt py.toInt)) (by first | (rw [nrD_0 hT0]; exact jI_1) | (rw [nrD_1 (by omega) (by omega)]; exact jI_1) | (rw [nrD_2 (by omega) (by omega)])) ?_
          refine lv_aload_n hx hb dX11_nearer_183 rfl (lv_at hl 8 rfl) ?_
          refine va_get (D := (dC, dI)) (ci := 9) (v := .long (jI u)) (C := RX11) (T := TX11) (N := 55) hx hb hts inX11 hown hK hP 0 rfl rfl 48 (Nat.le_of_ble_eq_true rfl) (hts _ mw_1207) (fun _ h9 => h9) rfl dX11_nearer_184 ?_
          refine lv_aload_n hx hb dX11_nearer_187 rfl (lv_at hl 8 rfl) ?_
          refine va_get (D := (dC, dI)) (ci := 9) (v := .long (jI d)) (C := RX11) (T := TX11) (N := 55) hx hb hts inX11 hown hK hP 0 rfl rfl 49 (Nat.le_of_ble_eq_true rfl) (hts _ mw_1208) (fun _ h9 => h9) rfl dX11_nearer_188 ?_
          obtain ⟨hPc, hDc, hFc⟩ := zc_sub (wc := [(om k0 a I0 (vp_updL (vp_updL J0 48 (jI u)) 49 (jI d)))]) hP hD hS hA [0] rfl rfl
          refine zcall (st1 := [.int (pI ((nrU (S0 q).toInt (S0 (q + 1)).toInt (S0 (q + 2)).toInt (S0 (q + 3)).toInt px.toInt py.toInt) * d < u * (nrD (S0 q).toInt (S0 (q + 1)).toInt (S0 (q + 2)).toInt (S0 (q + 3)).toInt px.toInt py.toInt)))]) (va_runV (As := [.long (jI (nrU (S0 q).toInt (S0 (q + 1)).toInt (S0 (q + 2)).toInt (S0 (q + 3)).toInt px.toInt py.toInt)), .long (jI (nrD (S0 q).toInt (S0 (q + 1)).toInt (S0 (q + 2)).toInt (S0 (q + 3)).toInt px.toInt py.toInt)), .long (jI u), .long (jI d)]) (rest := []) ⟨hx, hb, hml, hown, hts⟩ (k_M_isLess l dC dI cI cZ cF s.heap.size k0 a I0 (vp_updL (vp_updL J0 48 (jI u)) 49 (jI d)) (nrU (S0 q).toInt (S0 (q + 1)).toInt (S0 (q + 2)).toInt (S0 (q + 3)).toInt px.toInt py.toInt) (nrD (S0 q).toInt (S0 (q + 1)).toInt (S0 (q + 2)).toInt (S0 (q + 3)).toInt px.toInt py.toInt) u d (prN hUb.1 hd9) (prN hu9 ⟨by omega, hUb.2.2⟩) (by first | with_reducible assumption | omega) (by first | with_reducible assumption | omega) (by first | with_reducible assumption | omega) (by first | with_reducible assumption | omega)) (csV_217 hts rfl rfl ⟨Nat.le_of_ble_eq_true rfl, Nat.le_of_ble_eq_true rfl⟩) (zPV2 (q0 := 0) (ci := 9) hPc hDc hK hXN rfl rfl) rfl rfl hl.1 rfl (lv_room (Nat.le_of_ble_eq_true rfl)) dX11_nearer_191 ⟨Nat.le_of_ble_eq_true rfl, Nat.le_of_ble_eq_true rfl⟩) hS hFc hFc rfl (fun t H locs ht hB hk1 hS => ?_)
          obtain ⟨hP1, hD1⟩ := hB
          rw [ht] at hP1
          obtain ⟨hP, hD⟩ := zk (W2 := [(om k0 a I0 (vp_updL (vp_updL J0 48 (jI u)) 49 (jI d))), (oa (a 32) cI 8 S0)]) hP hD [0] [1] [1] [0] [1, 0] 2 rfl rfl rfl rfl rfl rfl rfl rfl rfl hk1 hFc hP1 hD1
          clear hk1 hPc hDc hFc hP1 hD1 ht
          refine lv_if_eq (tgt := 209) hx hb dX11_nearer_194 rfl (fun c_13 => ?_) (fun c_13 => ?_)
          · have c_13 : ¬ ((nrU (S0 q).toInt (S0 (q + 1)).toInt (S0 (q + 2)).toInt (S0 (q + 3)).toInt px.toInt py.toInt) * d < u * (nrD (S0 q).toInt (S0 (q + 1)).toInt (S0 (q + 2)).toInt (S0 (q + 3)).toInt px.toInt py.toInt)) := zp_0 c_13
            obtain ⟨hP9, hD9⟩ := zq_sub (wc := [(om k0 a I0 (vp_updL (vp_updL J0 48 (jI u)) 49 (jI d))), (oa (a 32) cI 8 S0)]) hP hD [0, 1] rfl rfl
            rw [hQ9]
            exact W.vret hx hb hr (fun t ht hW => ⟨⟨rfl, u, d, (by unfold ndP; first | exact Or.inl ⟨Or.inl (by omega), rfl, rfl⟩ | exact Or.inl ⟨Or.inr (by first | with_reducible assumption | assumption), rfl, rfl⟩ | exact Or.inr ⟨fun h => h.elim (by omega) (by first | with_reducible assumption | assumption), rfl, rfl⟩), by rw [ht]; exact hP9, hD9⟩, hS.F ht⟩) hS.2.2 dX11_nearer_209
          · have c_13 : (nrU (S0 q).toInt (S0 (q + 1)).toInt (S0 (q + 2)).toInt (S0 (q + 3)).toInt px.toInt py.toInt) * d < u * (nrD (S0 q).toInt (S0 (q + 1)).toInt (S0 (q + 2)).toInt (S0 (q + 3)).toInt px.toInt py.toInt) := zp_1 c_13
            refine lv_aload_n hx hb dX11_nearer_197 rfl (lv_at hl 8 rfl) ?_
            refine lv_lload hx hb dX11_nearer_198 (lv_at hl 0 rfl) ?_
            refine va_put (D := (dC, dI)) (ci := 9) (v := .long (jI (nrU (S0 q).toInt (S0 (q + 1)).toInt (S0 (q + 2)).toInt (S0 (q + 3)).toInt px.toInt py.toInt))) (ty := .long) (C := RX11) (T := TX11) (N := 55) hx hb hts inX11 tyX11 tyX11_ok nmX11 hown hK hP hD hS 0 rfl rfl 48 (by decide) (hts _ mw_1207) (fun _ h9 => h9) rfl (by decide +kernel) rfl rfl (Nat.le_of_ble_eq_true rfl) dX11_nearer_200 (fun H locs hP hD hS => ?_)
            obtain ⟨hP, hD⟩ : zPD (dC, dI) classes A [(om k0 a I0 (vp_updL (vp_updL J0 48 (jI (nrU (S0 q).toInt (S0 (q + 1)).toInt (S0 (q + 2)).toInt (S0 (q + 3)).toInt px.toInt py.toInt))) 49 (jI d))), (oa (a 32) cI 8 S0)] H := ⟨hP, hD⟩
            refine lv_aload_n hx hb dX11_nearer_203 rfl (lv_at hl 8 rfl) ?_
            refine lv_lload hx hb dX11_nearer_204 (lv_at hl 1 rfl) ?_
            refine zz_l (v := jI (nrD (S0 q).toInt (S0 (q + 1)).toInt (S0 (q + 2)).toInt (S0 (q + 3)).toInt px.toInt py.toInt)) (by first | (rw [nrD_0 hT0]; exact jI_1) | (rw [nrD_1 (by omega) (by omega)]; exact jI_1) | (rw [nrD_2 (by omega) (by omega)])) ?_
            refine va_put (D := (dC, dI)) (ci := 9) (v := .long (jI (nrD (S0 q).toInt (S0 (q + 1)).toInt (S0 (q + 2)).toInt (S0 (q + 3)).toInt px.toInt py.toInt))) (ty := .long) (C := RX11) (T := TX11) (N := 55) hx hb hts inX11 tyX11 tyX11_ok nmX11 hown hK hP hD hS 0 rfl rfl 49 (by decide) (hts _ mw_1208) (fun _ h9 => h9) rfl (by decide +kernel) rfl rfl (Nat.le_of_ble_eq_true rfl) dX11_nearer_206 (fun H locs hP hD hS => ?_)
            obtain ⟨hP, hD⟩ : zPD (dC, dI) classes A [(om k0 a I0 (vp_updL (vp_updL J0 48 (jI (nrU (S0 q).toInt (S0 (q + 1)).toInt (S0 (q + 2)).toInt (S0 (q + 3)).toInt px.toInt py.toInt))) 49 (jI (nrD (S0 q).toInt (S0 (q + 1)).toInt (S0 (q + 2)).toInt (S0 (q + 3)).toInt px.toInt py.toInt)))), (oa (a 32) cI 8 S0)] H := ⟨hP, hD⟩
            obtain ⟨hP9, hD9⟩ := zq_sub (wc := [(om k0 a I0 (vp_updL (vp_updL J0 48 (jI (nrU (S0 q).toInt (S0 (q + 1)).toInt (S0 (q + 2)).toInt (S0 (q + 3)).toInt px.toInt py.toInt))) 49 (jI (nrD (S0 q).toInt (S0 (q + 1)).toInt (S0 (q + 2)).toInt (S0 (q + 3)).toInt px.toInt py.toInt)))), (oa (a 32) cI 8 S0)]) hP hD [0, 1] rfl rfl
            rw [hQ9]
            exact W.vret hx hb hr (fun t ht hW => ⟨⟨rfl, (nrU (S0 q).toInt (S0 (q + 1)).toInt (S0 (q + 2)).toInt (S0 (q + 3)).toInt px.toInt py.toInt), (nrD (S0 q).toInt (S0 (q + 1)).toInt (S0 (q + 2)).toInt (S0 (q + 3)).toInt px.toInt py.toInt), (by unfold ndP; first | exact Or.inl ⟨Or.inl (by omega), rfl, rfl⟩ | exact Or.inl ⟨Or.inr (by first | with_reducible assumption | assumption), rfl, rfl⟩ | exact Or.inr ⟨fun h => h.elim (by omega) (by first | with_reducible assumption | assumption), rfl, rfl⟩), by rw [ht]; exact hP9, hD9⟩, hS.F ht⟩) hS.2.2 dX11_nearer_209
    · have c_8 : (nrT (S0 q).toInt (S0 (q + 1)).toInt (S0 (q + 2)).toInt (S0 (q + 3)).toInt px.toInt py.toInt) ≤ 0 := zl_ngt (jI_toInt (by omega)) rfl c_8
      have hT0 : nrT (S0 q).toInt (S0 (q + 1)).toInt (S0 (q + 2)).toInt (S0 (q + 3)).toInt px.toInt py.toInt ≤ 0 := (by first | omega | (have h9 := nrT_0 (x := px.toInt) (y := py.toInt) (show nrL (S0 q).toInt (S0 (q + 1)).toInt (S0 (q + 2)).toInt (S0 (q + 3)).toInt = 0 by assumption); omega))
      refine lv_lload hx hb dX11_nearer_93 (lv_at hl 4 rfl) ?_
      refine lv_lload hx hb dX11_nearer_95 (lv_at hl 4 rfl) ?_
      refine lv_lmul hx hb dX11_nearer_97 ?_
      refine lv_lload hx hb dX11_nearer_98 (lv_at hl 3 rfl) ?_
      refine lv_lload hx hb dX11_nearer_100 (lv_at hl 3 rfl) ?_
      refine lv_lmul hx hb dX11_nearer_102 ?_
      refine lv_ladd hx hb dX11_nearer_103 ?_
      refine zz_l (v := jI (nrU (S0 q).toInt (S0 (q + 1)).toInt (S0 (q + 2)).toInt (S0 (q + 3)).toInt px.toInt py.toInt)) (nr_u0 (hs q (by omega) (by omega)) (hs (q + 1) (by omega) (by omega)) hpx hpy hT0) ?_
      refine lv_lstore (lv' := [(17, .long (jI (nrU (S0 q).toInt (S0 (q + 1)).toInt (S0 (q + 2)).toInt (S0 (q + 3)).toInt px.toInt py.toInt))), (19, .long 1), (15, .long (jI (nrT (S0 q).toInt (S0 (q + 1)).toInt (S0 (q + 2)).toInt (S0 (q + 3)).toInt px.toInt py.toInt))), (13, .long (jI (nrL (S0 q).toInt (S0 (q + 1)).toInt (S0 (q + 2)).toInt (S0 (q + 3)).toInt))), (11, .long ((py - (S0 (q + 1))).toInt64)), (9, .long ((px - (S0 q)).toInt64)), (7, .long (((S0 (q + 3)) - (S0 (q + 1))).toInt64)), (5, .long (((S0 (q + 2)) - (S0 q)).toInt64)), (0, .ref k0), (1, .ref (a 32)), (2, .int px), (3, .int py), (4, .int (nI q))]) hx hb dX11_nearer_104 hl (Nat.le_of_ble_eq_true rfl) rfl (fun ls hl => ?_)
      refine lv_goto (tgt := 169) hx hb dX11_nearer_106 rfl ?_
      refine lv_aload_n hx hb dX11_nearer_169 rfl (lv_at hl 8 rfl) ?_
      refine va_get (D := (dC, dI)) (ci := 9) (v := .long (jI d)) (C := RX11) (T := TX11) (N := 55) hx hb hts inX11 hown hK hP 0 rfl rfl 49 (Nat.le_of_ble_eq_true rfl) (hts _ mw_1208) (fun _ h9 => h9) rfl dX11_nearer_170 ?_
      refine lv_lconst (v := 0) hx hb dX11_nearer_173 rfl ?_
      refine W.lcmp hx hb dX11_nearer_174 ?_
      refine lv_if_eq (tgt := 197) hx hb dX11_nearer_175 rfl (fun c_14 => ?_) (fun c_14 => ?_)
      · have c_14 : d = 0 := zl_eq (jI_toInt (by omega)) rfl c_14
        refine lv_aload_n hx hb dX11_nearer_197 rfl (lv_at hl 8 rfl) ?_
        refine lv_lload hx hb dX11_nearer_198 (lv_at hl 0 rfl) ?_
        refine va_put (D := (dC, dI)) (ci := 9) (v := .long (jI (nrU (S0 q).toInt (S0 (q + 1)).toInt (S0 (q + 2)).toInt (S0 (q + 3)).toInt px.toInt py.toInt))) (ty := .long) (C := RX11) (T := TX11) (N := 55) hx hb hts inX11 tyX11 tyX11_ok nmX11 hown hK hP hD hS 0 rfl rfl 48 (by decide) (hts _ mw_1207) (fun _ h9 => h9) rfl (by decide +kernel) rfl rfl (Nat.le_of_ble_eq_true rfl) dX11_nearer_200 (fun H locs hP hD hS => ?_)
        obtain ⟨hP, hD⟩ : zPD (dC, dI) classes A [(om k0 a I0 (vp_updL (vp_updL J0 48 (jI (nrU (S0 q).toInt (S0 (q + 1)).toInt (S0 (q + 2)).toInt (S0 (q + 3)).toInt px.toInt py.toInt))) 49 (jI d))), (oa (a 32) cI 8 S0)] H := ⟨hP, hD⟩
        refine lv_aload_n hx hb dX11_nearer_203 rfl (lv_at hl 8 rfl) ?_
        refine lv_lload hx hb dX11_nearer_204 (lv_at hl 1 rfl) ?_
        refine zz_l (v := jI (nrD (S0 q).toInt (S0 (q + 1)).toInt (S0 (q + 2)).toInt (S0 (q + 3)).toInt px.toInt py.toInt)) (by first | (rw [nrD_0 hT0]; exact jI_1) | (rw [nrD_1 (by omega) (by omega)]; exact jI_1) | (rw [nrD_2 (by omega) (by omega)])) ?_
        refine va_put (D := (dC, dI)) (ci := 9) (v := .long (jI (nrD (S0 q).toInt (S0 (q + 1)).toInt (S0 (q + 2)).toInt (S0 (q + 3)).toInt px.toInt py.toInt))) (ty := .long) (C := RX11) (T := TX11) (N := 55) hx hb hts inX11 tyX11 tyX11_ok nmX11 hown hK hP hD hS 0 rfl rfl 49 (by decide) (hts _ mw_1208) (fun _ h9 => h9) rfl (by decide +kernel) rfl rfl (Nat.le_of_ble_eq_true rfl) dX11_nearer_206 (fun H locs hP hD hS => ?_)
        obtain ⟨hP, hD⟩ : zPD (dC, dI) classes A [(om k0 a I0 (vp_updL (vp_updL J0 48 (jI (nrU (S0 q).toInt (S0 (q + 1)).toInt (S0 (q + 2)).toInt (S0 (q + 3)).toInt px.toInt py.toInt))) 49 (jI (nrD (S0 q).toInt (S0 (q + 1)).toInt (S0 (q + 2)).toInt (S0 (q + 3)).toInt px.toInt py.toInt)))), (oa (a 32) cI 8 S0)] H := ⟨hP, hD⟩
        obtain ⟨hP9, hD9⟩ := zq_sub (wc := [(om k0 a I0 (vp_updL (vp_updL J0 48 (jI (nrU (S0 q).toInt (S0 (q + 1)).toInt (S0 (q + 2)).toInt (S0 (q + 3)).toInt px.toInt py.toInt))) 49 (jI (nrD (S0 q).toInt (S0 (q + 1)).toInt (S0 (q + 2)).toInt (S0 (q + 3)).toInt px.toInt py.toInt)))), (oa (a 32) cI 8 S0)]) hP hD [0, 1] rfl rfl
        rw [hQ9]
        exact W.vret hx hb hr (fun t ht hW => ⟨⟨rfl, (nrU (S0 q).toInt (S0 (q + 1)).toInt (S0 (q + 2)).toInt (S0 (q + 3)).toInt px.toInt py.toInt), (nrD (S0 q).toInt (S0 (q + 1)).toInt (S0 (q + 2)).toInt (S0 (q + 3)).toInt px.toInt py.toInt), (by unfold ndP; first | exact Or.inl ⟨Or.inl (by omega), rfl, rfl⟩ | exact Or.inl ⟨Or.inr (by first | with_reducible assumption | assumption), rfl, rfl⟩ | exact Or.inr ⟨fun h => h.elim (by omega) (by first | with_reducible assumption | assumption), rfl, rfl⟩), by rw [ht]; exact hP9, hD9⟩, hS.F ht⟩) hS.2.2 dX11_nearer_209
      · have c_14 : ¬ d = 0 := zl_ne (jI_toInt (by omega)) rfl c_14
        refine lv_aload_n hx hb dX11_nearer_178 rfl (lv_at hl 8 rfl) ?_
        refine lv_lload hx hb dX11_nearer_179 (lv_at hl 0 rfl) ?_
        refine lv_lload hx hb dX11_nearer_181 (lv_at hl 1 rfl) ?_
        refine zz_l (v := jI (nrD (S0 q).toInt (S0 (q + 1)).toInt (S0 (q + 2)).toInt (S0 (q + 3)).toInt px.toInt py.toInt)) (by first | (rw [nrD_0 hT0]; exact jI_1) | (rw [nrD_1 (by omega) (by omega)]; exact jI_1) | (rw [nrD_2 (by omega) (by omega)])) ?_
        refine lv_aload_n hx hb dX11_nearer_183 rfl (lv_at hl 8 rfl) ?_
        refine va_get (D := (dC, dI)) (ci := 9) (v := .long (jI u)) (C := RX11) (T := TX11) (N := 55) hx hb hts inX11 hown hK hP 0 rfl rfl 48 (Nat.le_of_ble_eq_true rfl) (hts _ mw_1207) (fun _ h9 => h9) rfl dX11_nearer_184 ?_
        refine lv_aload_n hx hb dX11_nearer_187 rfl (lv_at hl 8 rfl) ?_
        refine va_get (D := (dC, dI)) (ci := 9) (v := .long (jI d)) (C := RX11) (T := TX11) (N := 55) hx hb hts inX11 hown hK hP 0 rfl rfl 49 (Nat.le_of_ble_eq_true rfl) (hts _ mw_1208) (fun _ h9 => h9) rfl dX11_nearer_188 ?_
        obtain ⟨hPc, hDc, hFc⟩ := zc_sub (wc := [(om k0 a I0 (vp_updL (vp_updL J0 48 (jI u)) 49 (jI d)))]) hP hD hS hA [0] rfl rfl
        refine zcall (st1 := [.int (pI ((nrU (S0 q).toInt (S0 (q + 1)).toInt (S0 (q + 2)).toInt (S0 (q + 3)).toInt px.toInt py.toInt) * d < u * (nrD (S0 q).toInt (S0 (q + 1)).toInt (S0 (q + 2)).toInt (S0 (q + 3)).toInt px.toInt py.toInt)))]) (va_runV (As := [.long (jI (nrU (S0 q).toInt (S0 (q + 1)).toInt (S0 (q + 2)).toInt (S0 (q + 3)).toInt px.toInt py.toInt)), .long (jI (nrD (S0 q).toInt (S0 (q + 1)).toInt (S0 (q + 2)).toInt (S0 (q + 3)).toInt px.toInt py.toInt)), .long (jI u), .long (jI d)]) (rest := []) ⟨hx, hb, hml, hown, hts⟩ (k_M_isLess l dC dI cI cZ cF s.heap.size k0 a I0 (vp_updL (vp_updL J0 48 (jI u)) 49 (jI d)) (nrU (S0 q).toInt (S0 (q + 1)).toInt (S0 (q + 2)).toInt (S0 (q + 3)).toInt px.toInt py.toInt) (nrD (S0 q).toInt (S0 (q + 1)).toInt (S0 (q + 2)).toInt (S0 (q + 3)).toInt px.toInt py.toInt) u d (prN hUb.1 hd9) (prN hu9 ⟨by omega, hUb.2.2⟩) (by first | with_reducible assumption | omega) (by first | with_reducible assumption | omega) (by first | with_reducible assumption | omega) (by first | with_reducible assumption | omega)) (csV_217 hts rfl rfl ⟨Nat.le_of_ble_eq_true rfl, Nat.le_of_ble_eq_true rfl⟩) (zPV2 (q0 := 0) (ci := 9) hPc hDc hK hXN rfl rfl) rfl rfl hl.1 rfl (lv_room (Nat.le_of_ble_eq_true rfl)) dX11_nearer_191 ⟨Nat.le_of_ble_eq_true rfl, Nat.le_of_ble_eq_true rfl⟩) hS hFc hFc rfl (fun t H locs ht hB hk1 hS => ?_)
        obtain ⟨hP1, hD1⟩ := hB
        rw [ht] at hP1
        obtain ⟨hP, hD⟩ := zk (W2 := [(om k0 a I0 (vp_updL (vp_updL J0 48 (jI u)) 49 (jI d))), (oa (a 32) cI 8 S0)]) hP hD [0] [1] [1] [0] [1, 0] 2 rfl rfl rfl rfl rfl rfl rfl rfl rfl hk1 hFc hP1 hD1
        clear hk1 hPc hDc hFc hP1 hD1 ht
        refine lv_if_eq (tgt := 209) hx hb dX11_nearer_194 rfl (fun c_15 => ?_) (fun c_15 => ?_)
        · have c_15 : ¬ ((nrU (S0 q).toInt (S0 (q + 1)).toInt (S0 (q + 2)).toInt (S0 (q + 3)).toInt px.toInt py.toInt) * d < u * (nrD (S0 q).toInt (S0 (q + 1)).toInt (S0 (q + 2)).toInt (S0 (q + 3)).toInt px.toInt py.toInt)) := zp_0 c_15
          obtain ⟨hP9, hD9⟩ := zq_sub (wc := [(om k0 a I0 (vp_updL (vp_updL J0 48 (jI u)) 49 (jI d))), (oa (a 32) cI 8 S0)]) hP hD [0, 1] rfl rfl
          rw [hQ9]
          exact W.vret hx hb hr (fun t ht hW => ⟨⟨rfl, u, d, (by unfold ndP; first | exact Or.inl ⟨Or.inl (by omega), rfl, rfl⟩ | exact Or.inl ⟨Or.inr (by first | with_reducible assumption | assumption), rfl, rfl⟩ | exact Or.inr ⟨fun h => h.elim (by omega) (by first | with_reducible assumption | assumption), rfl, rfl⟩), by rw [ht]; exact hP9, hD9⟩, hS.F ht⟩) hS.2.2 dX11_nearer_209
        · have c_15 : (nrU (S0 q).toInt (S0 (q + 1)).toInt (S0 (q + 2)).toInt (S0 (q + 3)).toInt px.toInt py.toInt) * d < u * (nrD (S0 q).toInt (S0 (q + 1)).toInt (S0 (q + 2)).toInt (S0 (q + 3)).toInt px.toInt py.toInt) := zp_1 c_15
          refine lv_aload_n hx hb dX11_nearer_197 rfl (lv_at hl 8 rfl) ?_
          refine lv_lload hx hb dX11_nearer_198 (lv_at hl 0 rfl) ?_
          refine va_put (D := (dC, dI)) (ci := 9) (v := .long (jI (nrU (S0 q).toInt (S0 (q + 1)).toInt (S0 (q + 2)).toInt (S0 (q + 3)).toInt px.toInt py.toInt))) (ty := .long) (C := RX11) (T := TX11) (N := 55) hx hb hts inX11 tyX11 tyX11_ok nmX11 hown hK hP hD hS 0 rfl rfl 48 (by decide) (hts _ mw_1207) (fun _ h9 => h9) rfl (by decide +kernel) rfl rfl (Nat.le_of_ble_eq_true rfl) dX11_nearer_200 (fun H locs hP hD hS => ?_)
          obtain ⟨hP, hD⟩ : zPD (dC, dI) classes A [(om k0 a I0 (vp_updL (vp_updL J0 48 (jI (nrU (S0 q).toInt (S0 (q + 1)).toInt (S0 (q + 2)).toInt (S0 (q + 3)).toInt px.toInt py.toInt))) 49 (jI d))), (oa (a 32) cI 8 S0)] H := ⟨hP, hD⟩
          refine lv_aload_n hx hb dX11_nearer_203 rfl (lv_at hl 8 rfl) ?_
          refine lv_lload hx hb dX11_nearer_204 (lv_at hl 1 rfl) ?_
          refine zz_l (v := jI (nrD (S0 q).toInt (S0 (q + 1)).toInt (S0 (q + 2)).toInt (S0 (q + 3)).toInt px.toInt py.toInt)) (by first | (rw [nrD_0 hT0]; exact jI_1) | (rw [nrD_1 (by omega) (by omega)]; exact jI_1) | (rw [nrD_2 (by omega) (by omega)])) ?_
          refine va_put (D := (dC, dI)) (ci := 9) (v := .long (jI (nrD (S0 q).toInt (S0 (q + 1)).toInt (S0 (q + 2)).toInt (S0 (q + 3)).toInt px.toInt py.toInt))) (ty := .long) (C := RX11) (T := TX11) (N := 55) hx hb hts inX11 tyX11 tyX11_ok nmX11 hown hK hP hD hS 0 rfl rfl 49 (by decide) (hts _ mw_1208) (fun _ h9 => h9) rfl (by decide +kernel) rfl rfl (Nat.le_of_ble_eq_true rfl) dX11_nearer_206 (fun H locs hP hD hS => ?_)
          obtain ⟨hP, hD⟩ : zPD (dC, dI) classes A [(om k0 a I0 (vp_updL (vp_updL J0 48 (jI (nrU (S0 q).toInt (S0 (q + 1)).toInt (S0 (q + 2)).toInt (S0 (q + 3)).toInt px.toInt py.toInt))) 49 (jI (nrD (S0 q).toInt (S0 (q + 1)).toInt (S0 (q + 2)).toInt (S0 (q + 3)).toInt px.toInt py.toInt)))), (oa (a 32) cI 8 S0)] H := ⟨hP, hD⟩
          obtain ⟨hP9, hD9⟩ := zq_sub (wc := [(om k0 a I0 (vp_updL (vp_updL J0 48 (jI (nrU (S0 q).toInt (S0 (q + 1)).toInt (S0 (q + 2)).toInt (S0 (q + 3)).toInt px.toInt py.toInt))) 49 (jI (nrD (S0 q).toInt (S0 (q + 1)).toInt (S0 (q + 2)).toInt (S0 (q + 3)).toInt px.toInt py.toInt)))), (oa (a 32) cI 8 S0)]) hP hD [0, 1] rfl rfl
          rw [hQ9]
          exact W.vret hx hb hr (fun t ht hW => ⟨⟨rfl, (nrU (S0 q).toInt (S0 (q + 1)).toInt (S0 (q + 2)).toInt (S0 (q + 3)).toInt px.toInt py.toInt), (nrD (S0 q).toInt (S0 (q + 1)).toInt (S0 (q + 2)).toInt (S0 (q + 3)).toInt px.toInt py.toInt), (by unfold ndP; first | exact Or.inl ⟨Or.inl (by omega), rfl, rfl⟩ | exact Or.inl ⟨Or.inr (by first | with_reducible assumption | assumption), rfl, rfl⟩ | exact Or.inr ⟨fun h => h.elim (by omega) (by first | with_reducible assumption | assumption), rfl, rfl⟩), by rw [ht]; exact hP9, hD9⟩, hS.F ht⟩) hS.2.2 dX11_nearer_209
set_option maxHeartbeats 4000000 in
set_option maxRecDepth 100000 in
theorem k_M_far_x (l : Launch) (dC : Nat → ClassId) (dI : Nat → Nat → Nat) (cI cZ cF : ClassId) (sz : Nat) (k0 : Nat) (a : Nat → Nat) (I0 : Nat → Int32) (J0 : Nat → Int64) (ft : Nat) (v : Int32) (w : Int32) (hft : I0 0 = nI ft) (h200 : ft ≤ 200) (hv : ¬ (0 ≤ v.toInt ∧ v.toInt < (ft : Int))) : Met l yX11_far (.code yX11_far cX11_far 9 (some .long) :: ws0) ({ frames := 2, cells := 0, slots := 0, locals := 42 } : Room) (va_Pc [.ref k0, .int v, .int w] (zPre (dC, dI) classes (zTy cI cZ cF) [(om k0 a I0 J0)] sz zXN)) (zQ (some (.long (-1))) (fun t => va_P (dC, dI) classes [(om k0 a I0 J0)] t.heap ∧ va_D (va_A [(om k0 a I0 J0)] sz) [(om k0 a I0 J0)]) (va_A [(om k0 a I0 J0)] sz)) 0 0 (va_A [(om k0 a I0 J0)] sz) := by
  refine Met.ofW (cc := cX11_far) (maxL := 9) (ret := (some .long)) rfl rfl ?_
  intro p e s m args below meth c s₁ B hml hv
  obtain ⟨rfl, hsz, hP, hK, hD0, hXN⟩ := hv
  have hx := B.exec
  have hb := B.bytes
  have hr := B.returns
  have hts0 := atoms_spec (ws := .code yX11_far cX11_far 9 (some .long) :: ws0) B.pre
  have hts : ∀ w9 ∈ ws0, w9.before ([.ref k0, .int v, .int w] : List Value).toArray s = true := fun w9 h => hts0 w9 (List.mem_cons_of_mem _ h)
  have hown : s.vm.findClass "ScaleShopModel" = some m.cls := findClass_of_methodNamed B.named
  have hlocks := B.notSynchronized
  subst hsz
  have hD := hD0.self (sz := s.heap.size)
  clear hD0
  generalize hAe : va_A [(om k0 a I0 J0)] s.heap.size = A at hD ⊢
  have hA : ∀ q : Nat, s.heap.size ≤ q → A q := fun q h => by rw [← hAe]; exact Or.inr h
  clear hAe
  have hS : va_S A s.heap s.heap [] := va_S.rf
  have hP : va_P (dC, dI) classes [(om k0 a I0 J0)] s.heap := hP
  obtain ⟨Q9, hQ9⟩ : ∃ Q9 : State → Prop, Q9 = MQ below (zQ (some (.long (-1))) (fun t => va_P (dC, dI) classes [(om k0 a I0 J0)] t.heap ∧ va_D A [(om k0 a I0 J0)]) A) ([.ref k0, .int v, .int w] : List Value).toArray s 0 0 A := ⟨_, rfl⟩
  rw [← hQ9]
  have hl := lv_entry ([.ref k0, .int v, .int w]) (n := 9) (Nat.le_of_ble_eq_true rfl)
  rw [lg_entry_eq]
  generalize (lg_sl ([.ref k0, .int v, .int w]) ++ List.replicate (9 - (lg_sl ([.ref k0, .int v, .int w])).length) Slot.unset).toArray = ls at hl ⊢
  have hl : lv_has ls 9 [(0, .ref k0), (1, .int v), (2, .int w)] := hl
  refine lv_aload_n hx hb dX11_far_0 rfl (lv_at hl 0 rfl) ?_
  refine lv_iload_n hx hb dX11_far_1 rfl (lv_at hl 1 rfl) ?_
  obtain ⟨hPc, hDc, hFc⟩ := zc_sub (wc := [(om k0 a I0 J0)]) hP hD hS hA [0] rfl rfl
  refine zcall (st1 := [.int 0]) (va_runV (As := [.int v]) (rest := []) ⟨hx, hb, hml, hown, hts⟩ (k_M_is_x l dC dI cI cZ cF s.heap.size k0 a I0 J0 ft v (by first | with_reducible assumption | assumption) (by first | with_reducible assumption | omega) (by first | with_reducible assumption | assumption)) (csV_179 hts rfl rfl ⟨Nat.le_of_ble_eq_true rfl, Nat.le_of_ble_eq_true rfl⟩) (zPV2 (q0 := 0) (ci := 9) hPc hDc hK hXN rfl rfl) rfl rfl hl.1 rfl (lv_room (Nat.le_of_ble_eq_true rfl)) dX11_far_2 ⟨Nat.le_of_ble_eq_true rfl, Nat.le_of_ble_eq_true rfl⟩) hS hFc hFc rfl (fun t H locs ht hB hk1 hS => ?_)
  obtain ⟨hP1, hD1⟩ := hB
  rw [ht] at hP1
  obtain ⟨hP, hD⟩ := zk (W2 := [(om k0 a I0 J0)]) hP hD [0] [] [] [0] [0] 1 rfl rfl rfl rfl rfl rfl rfl rfl rfl hk1 hFc hP1 hD1
  clear hk1 hPc hDc hFc hP1 hD1 ht
  refine lv_if_eq (tgt := 17) hx hb dX11_far_5 rfl (fun c_1 => ?_) (fun c_1 => ?_)
  · refine lv_ldc2 hx hb hown (hts _ mw_1620) dX11_far_17 ?_
    obtain ⟨hP9, hD9⟩ := zq_sub (wc := [(om k0 a I0 J0)]) hP hD [0] rfl rfl
    rw [hQ9]
    exact W.lret (v := (-1)) hx hb hr (fun t ht hW => ⟨⟨rfl, by rw [ht]; exact hP9, hD9⟩, hS.F ht⟩) hS.2.2 dX11_far_20
  · exact absurd (by decide) c_1
set_option maxHeartbeats 4000000 in
set_option maxRecDepth 100000 in
theorem k_M_far_r (l : Launch) (dC : Nat → ClassId) (dI : Nat → Nat → Nat) (cI cZ cF : ClassId) (sz : Nat) (k0 : Nat) (a : Nat → Nat) (I0 : Nat → Int32) (J0 : Nat → Int64) (f : Nat) (ft : Nat) (w : Int32) (st : Nat → Int32) (tn : Nat → Int32) (hft : I0 0 = nI ft) (h200 : ft ≤ 200) (hf_t : f < ft) (hbad : ¬ (lvF ft st tn f ∧ 0 ≤ w.toInt ∧ w.toInt ≤ 1)) : Met l yX11_far (.code yX11_far cX11_far 9 (some .long) :: ws0) ({ frames := 2, cells := 0, slots := 0, locals := 42 } : Room) (va_Pc [.ref k0, .int (nI f), .int w] (zPre (dC, dI) classes (zTy cI cZ cF) [(om k0 a I0 J0), (oa (a 5) cI 201 st), (oa (a 6) cZ 201 tn)] sz zXN)) (zQ (some (.long (-1))) (fun t => va_P (dC, dI) classes [(om k0 a I0 J0), (oa (a 5) cI 201 st), (oa (a 6) cZ 201 tn)] t.heap ∧ va_D (va_A [(om k0 a I0 J0), (oa (a 5) cI 201 st), (oa (a 6) cZ 201 tn)] sz) [(om k0 a I0 J0), (oa (a 5) cI 201 st), (oa (a 6) cZ 201 tn)]) (va_A [(om k0 a I0 J0), (oa (a 5) cI 201 st), (oa (a 6) cZ 201 tn)] sz)) 0 0 (va_A [(om k0 a I0 J0), (oa (a 5) cI 201 st), (oa (a 6) cZ 201 tn)] sz) := by
  refine Met.ofW (cc := cX11_far) (maxL := 9) (ret := (some .long)) rfl rfl ?_
  intro p e s m args below meth c s₁ B hml hv
  obtain ⟨rfl, hsz, hP, hK, hD0, hXN⟩ := hv
  have hx := B.exec
  have hb := B.bytes
  have hr := B.returns
  have hts0 := atoms_spec (ws := .code yX11_far cX11_far 9 (some .long) :: ws0) B.pre
  have hts : ∀ w9 ∈ ws0, w9.before ([.ref k0, .int (nI f), .int w] : List Value).toArray s = true := fun w9 h => hts0 w9 (List.mem_cons_of_mem _ h)
  have hown : s.vm.findClass "ScaleShopModel" = some m.cls := findClass_of_methodNamed B.named
  have hlocks := B.notSynchronized
  subst hsz
  have hD := hD0.self (sz := s.heap.size)
  clear hD0
  generalize hAe : va_A [(om k0 a I0 J0), (oa (a 5) cI 201 st), (oa (a 6) cZ 201 tn)] s.heap.size = A at hD ⊢
  have hA : ∀ q : Nat, s.heap.size ≤ q → A q := fun q h => by rw [← hAe]; exact Or.inr h
  clear hAe
  have hS : va_S A s.heap s.heap [] := va_S.rf
  have hP : va_P (dC, dI) classes [(om k0 a I0 J0), (oa (a 5) cI 201 st), (oa (a 6) cZ 201 tn)] s.heap := hP
  obtain ⟨Q9, hQ9⟩ : ∃ Q9 : State → Prop, Q9 = MQ below (zQ (some (.long (-1))) (fun t => va_P (dC, dI) classes [(om k0 a I0 J0), (oa (a 5) cI 201 st), (oa (a 6) cZ 201 tn)] t.heap ∧ va_D A [(om k0 a I0 J0), (oa (a 5) cI 201 st), (oa (a 6) cZ 201 tn)]) A) ([.ref k0, .int (nI f), .int w] : List Value).toArray s 0 0 A := ⟨_, rfl⟩
  rw [← hQ9]
  have hl := lv_entry ([.ref k0, .int (nI f), .int w]) (n := 9) (Nat.le_of_ble_eq_true rfl)
  rw [lg_entry_eq]
  generalize (lg_sl ([.ref k0, .int (nI f), .int w]) ++ List.replicate (9 - (lg_sl ([.ref k0, .int (nI f), .int w])).length) Slot.unset).toArray = ls at hl ⊢
  have hl : lv_has ls 9 [(0, .ref k0), (1, .int (nI f)), (2, .int w)] := hl
  refine lv_aload_n hx hb dX11_far_0 rfl (lv_at hl 0 rfl) ?_
  refine lv_iload_n hx hb dX11_far_1 rfl (lv_at hl 1 rfl) ?_
  obtain ⟨hPc, hDc, hFc⟩ := zc_sub (wc := [(om k0 a I0 J0), (oa (a 5) cI 201 st), (oa (a 6) cZ 201 tn)]) hP hD hS hA [0, 1, 2] rfl rfl
  refine zcall (st1 := [.int (pI (f < ft ∧ (st f).toInt = 1 ∧ (tn f).toInt = 0))]) (va_runV (As := [.int (nI f)]) (rest := []) ⟨hx, hb, hml, hown, hts⟩ (k_M_is_n l dC dI cI cZ cF s.heap.size k0 a I0 J0 f ft st tn (by first | with_reducible assumption | assumption) (by first | with_reducible assumption | omega) (by first | with_reducible assumption | omega)) (csV_179 hts rfl rfl ⟨Nat.le_of_ble_eq_true rfl, Nat.le_of_ble_eq_true rfl⟩) (zPV2 (q0 := 0) (ci := 9) hPc hDc hK hXN rfl rfl) rfl rfl hl.1 rfl (lv_room (Nat.le_of_ble_eq_true rfl)) dX11_far_2 ⟨Nat.le_of_ble_eq_true rfl, Nat.le_of_ble_eq_true rfl⟩) hS hFc hFc rfl (fun t H locs ht hB hk1 hS => ?_)
  obtain ⟨hP1, hD1⟩ := hB
  rw [ht] at hP1
  obtain ⟨hP, hD⟩ := zk (W2 := [(om k0 a I0 J0), (oa (a 5) cI 201 st), (oa (a 6) cZ 201 tn)]) hP hD [0, 1, 2] [] [] [0, 1, 2] [0, 1, 2] 3 rfl rfl rfl rfl rfl rfl rfl rfl rfl hk1 hFc hP1 hD1
  clear hk1 hPc hDc hFc hP1 hD1 ht
  refine lv_if_eq (tgt := 17) hx hb dX11_far_5 rfl (fun c_1 => ?_) (fun c_1 => ?_)
  · have c_1 : ¬ (f < ft ∧ (st f).toInt = 1 ∧ (tn f).toInt = 0) := zp_0 c_1
    refine lv_ldc2 hx hb hown (hts _ mw_1620) dX11_far_17 ?_
    obtain ⟨hP9, hD9⟩ := zq_sub (wc := [(om k0 a I0 J0), (oa (a 5) cI 201 st), (oa (a 6) cZ 201 tn)]) hP hD [0, 1, 2] rfl rfl
    rw [hQ9]
    exact W.lret (v := (-1)) hx hb hr (fun t ht hW => ⟨⟨rfl, by rw [ht]; exact hP9, hD9⟩, hS.F ht⟩) hS.2.2 dX11_far_20
  · have c_1 : f < ft ∧ (st f).toInt = 1 ∧ (tn f).toInt = 0 := zp_1 c_1
    refine lv_iload_n hx hb dX11_far_8 rfl (lv_at hl 2 rfl) ?_
    refine lv_if_lt (tgt := 17) hx hb dX11_far_9 rfl (fun c_2 => ?_) (fun c_2 => ?_)
    · have c_2 : w.toInt < 0 := zc_lt rfl rfl c_2
      refine lv_ldc2 hx hb hown (hts _ mw_1620) dX11_far_17 ?_
      obtain ⟨hP9, hD9⟩ := zq_sub (wc := [(om k0 a I0 J0), (oa (a 5) cI 201 st), (oa (a 6) cZ 201 tn)]) hP hD [0, 1, 2] rfl rfl
      rw [hQ9]
      exact W.lret (v := (-1)) hx hb hr (fun t ht hW => ⟨⟨rfl, by rw [ht]; exact hP9, hD9⟩, hS.F ht⟩) hS.2.2 dX11_far_20
    · have c_2 : 0 ≤ w.toInt := zc_nlt rfl rfl c_2
      refine lv_iload_n hx hb dX11_far_12 rfl (lv_at hl 2 rfl) ?_
      refine lv_iconst (v := 1) hx hb dX11_far_13 rfl ?_
      refine lv_icmp_le (tgt := 21) hx hb dX11_far_14 rfl (fun c_3 => ?_) (fun c_3 => ?_)
      · have c_3 : w.toInt ≤ 1 := zc_le rfl rfl c_3
        exact absurd ⟨by assumption, by omega, by omega⟩ hbad
      · have c_3 : 1 < w.toInt := zc_nle rfl rfl c_3
        refine lv_ldc2 hx hb hown (hts _ mw_1620) dX11_far_17 ?_
        obtain ⟨hP9, hD9⟩ := zq_sub (wc := [(om k0 a I0 J0), (oa (a 5) cI 201 st), (oa (a 6) cZ 201 tn)]) hP hD [0, 1, 2] rfl rfl
        rw [hQ9]
        exact W.lret (v := (-1)) hx hb hr (fun t ht hW => ⟨⟨rfl, by rw [ht]; exact hP9, hD9⟩, hS.F ht⟩) hS.2.2 dX11_far_20
set_option maxHeartbeats 4000000 in
set_option maxRecDepth 100000 in
theorem k_M_far_s (l : Launch) (dC : Nat → ClassId) (dI : Nat → Nat → Nat) (cI cZ cF : ClassId) (sz : Nat) (k0 : Nat) (a : Nat → Nat) (I0 : Nat → Int32) (J0 : Nat → Int64) (f : Nat) (ft : Nat) (ln : Nat) (cl : Nat) (w : Int32) (st : Nat → Int32) (tn : Nat → Int32) (kd : Nat → Int32) (mn : Nat → Int32) (cx : Nat → Int32) (cy : Nat → Int32) (S0 : Nat → Int32) (la : Nat → Int32) (lb : Nat → Int32) (lc : Nat → Int32) (ld : Nat → Int32) (hft : I0 0 = nI ft) (h200 : ft ≤ 200) (hwf : ∀ q, lvF ft st tn q → wfM mn cx cy q) (hln : I0 26 = nI ln) (hlc : ln ≤ 64 * cl) (hcl1 : 1 ≤ cl) (hclm : cl ≤ 1000000) (hf_t : f < ft) (hlv : lvF ft st tn f) (hw1 : 0 ≤ w.toInt ∧ w.toInt ≤ 1) (he_f : 1 ≤ eO (kd f).toInt (nN (mn f))) (hpl : ∀ j, j < ln → pl (lb j) ∧ pl (lc j)) : Met l yX11_far (.code yX11_far cX11_far 9 (some .long) :: ws0) ({ frames := 2, cells := 0, slots := 0, locals := 70 } : Room) (va_Pc [.ref k0, .int (nI f), .int w] (zPre (dC, dI) classes (zTy cI cZ cF) [(om k0 a I0 J0), (oa (a 5) cI 201 st), (oa (a 6) cZ 201 tn), (oa (a 1) cI 201 kd), (oa (a 11) cI 201 mn), (oa (a 12) cI 8040 cx), (oa (a 13) cI 8040 cy), (oa (a 32) cI 8 S0), (oa (a 22) cI (64 * cl) la), (oa (a 23) cI (64 * cl) lb), (oa (a 24) cI (64 * cl) lc), (oa (a 25) cI (64 * cl) ld)] sz zXN)) (zQe (fun v9 t => ∃ (zr : Int64), ∃ (u9 : Int64), ∃ (d9 : Int64), ∃ (S1 : Nat → Int32), v9 = (some (.long zr)) ∧ va_P (dC, dI) classes [(om k0 a I0 (vp_updL (vp_updL J0 48 u9) 49 d9)), (oa (a 5) cI 201 st), (oa (a 6) cZ 201 tn), (oa (a 1) cI 201 kd), (oa (a 11) cI 201 mn), (oa (a 12) cI 8040 cx), (oa (a 13) cI 8040 cy), (oa (a 32) cI 8 S1), (oa (a 22) cI (64 * cl) la), (oa (a 23) cI (64 * cl) lb), (oa (a 24) cI (64 * cl) lc), (oa (a 25) cI (64 * cl) ld)] t.heap ∧ va_D (va_A [(om k0 a I0 J0), (oa (a 5) cI 201 st), (oa (a 6) cZ 201 tn), (oa (a 1) cI 201 kd), (oa (a 11) cI 201 mn), (oa (a 12) cI 8040 cx), (oa (a 13) cI 8040 cy), (oa (a 32) cI 8 S0), (oa (a 22) cI (64 * cl) la), (oa (a 23) cI (64 * cl) lb), (oa (a 24) cI (64 * cl) lc), (oa (a 25) cI (64 * cl) ld)] sz) [(om k0 a I0 (vp_updL (vp_updL J0 48 u9) 49 d9)), (oa (a 5) cI 201 st), (oa (a 6) cZ 201 tn), (oa (a 1) cI 201 kd), (oa (a 11) cI 201 mn), (oa (a 12) cI 8040 cx), (oa (a 13) cI 8040 cy), (oa (a 32) cI 8 S1), (oa (a 22) cI (64 * cl) la), (oa (a 23) cI (64 * cl) lb), (oa (a 24) cI (64 * cl) lc), (oa (a 25) cI (64 * cl) ld)]) (va_A [(om k0 a I0 J0), (oa (a 5) cI 201 st), (oa (a 6) cZ 201 tn), (oa (a 1) cI 201 kd), (oa (a 11) cI 201 mn), (oa (a 12) cI 8040 cx), (oa (a 13) cI 8040 cy), (oa (a 32) cI 8 S0), (oa (a 22) cI (64 * cl) la), (oa (a 23) cI (64 * cl) lb), (oa (a 24) cI (64 * cl) lc), (oa (a 25) cI (64 * cl) ld)] sz)) 0 0 (va_A [(om k0 a I0 J0), (oa (a 5) cI 201 st), (oa (a 6) cZ 201 tn), (oa (a 1) cI 201 kd), (oa (a 11) cI 201 mn), (oa (a 12) cI 8040 cx), (oa (a 13) cI 8040 cy), (oa (a 32) cI 8 S0), (oa (a 22) cI (64 * cl) la), (oa (a 23) cI (64 * cl) lb), (oa (a 24) cI (64 * cl) lc), (oa (a 25) cI (64 * cl) ld)] sz) := by
  refine Met.ofW (cc := cX11_far) (maxL := 9) (ret := (some .long)) rfl rfl ?_
  intro p e s m args below meth c s₁ B hml hv
  obtain ⟨rfl, hsz, hP, hK, hD0, hXN⟩ := hv
  have hx := B.exec
  have hb := B.bytes
  have hr := B.returns
  have hts0 := atoms_spec (ws := .code yX11_far cX11_far 9 (some .long) :: ws0) B.pre
  have hts : ∀ w9 ∈ ws0, w9.before ([.ref k0, .int (nI f), .int w] : List Value).toArray s = true := fun w9 h => hts0 w9 (List.mem_cons_of_mem _ h)
  have hown : s.vm.findClass "ScaleShopModel" = some m.cls := findClass_of_methodNamed B.named
  have hlocks := B.notSynchronized
  subst hsz
  have hD := hD0.self (sz := s.heap.size)
  clear hD0
  generalize hAe : va_A [(om k0 a I0 J0), (oa (a 5) cI 201 st), (oa (a 6) cZ 201 tn), (oa (a 1) cI 201 kd), (oa (a 11) cI 201 mn), (oa (a 12) cI 8040 cx), (oa (a 13) cI 8040 cy), (oa (a 32) cI 8 S0), (oa (a 22) cI (64 * cl) la), (oa (a 23) cI (64 * cl) lb), (oa (a 24) cI (64 * cl) lc), (oa (a 25) cI (64 * cl) ld)] s.heap.size = A at hD ⊢
  have hA : ∀ q : Nat, s.heap.size ≤ q → A q := fun q h => by rw [← hAe]; exact Or.inr h
  clear hAe
  have hS : va_S A s.heap s.heap [] := va_S.rf
  have hP : va_P (dC, dI) classes [(om k0 a I0 J0), (oa (a 5) cI 201 st), (oa (a 6) cZ 201 tn), (oa (a 1) cI 201 kd), (oa (a 11) cI 201 mn), (oa (a 12) cI 8040 cx), (oa (a 13) cI 8040 cy), (oa (a 32) cI 8 S0), (oa (a 22) cI (64 * cl) la), (oa (a 23) cI (64 * cl) lb), (oa (a 24) cI (64 * cl) lc), (oa (a 25) cI (64 * cl) ld)] s.heap := hP
  obtain ⟨Q9, hQ9⟩ : ∃ Q9 : State → Prop, Q9 = MQ below (zQe (fun v9 t => ∃ (zr : Int64), ∃ (u9 : Int64), ∃ (d9 : Int64), ∃ (S1 : Nat → Int32), v9 = (some (.long zr)) ∧ va_P (dC, dI) classes [(om k0 a I0 (vp_updL (vp_updL J0 48 u9) 49 d9)), (oa (a 5) cI 201 st), (oa (a 6) cZ 201 tn), (oa (a 1) cI 201 kd), (oa (a 11) cI 201 mn), (oa (a 12) cI 8040 cx), (oa (a 13) cI 8040 cy), (oa (a 32) cI 8 S1), (oa (a 22) cI (64 * cl) la), (oa (a 23) cI (64 * cl) lb), (oa (a 24) cI (64 * cl) lc), (oa (a 25) cI (64 * cl) ld)] t.heap ∧ va_D A [(om k0 a I0 (vp_updL (vp_updL J0 48 u9) 49 d9)), (oa (a 5) cI 201 st), (oa (a 6) cZ 201 tn), (oa (a 1) cI 201 kd), (oa (a 11) cI 201 mn), (oa (a 12) cI 8040 cx), (oa (a 13) cI 8040 cy), (oa (a 32) cI 8 S1), (oa (a 22) cI (64 * cl) la), (oa (a 23) cI (64 * cl) lb), (oa (a 24) cI (64 * cl) lc), (oa (a 25) cI (64 * cl) ld)]) A) ([.ref k0, .int (nI f), .int w] : List Value).toArray s 0 0 A := ⟨_, rfl⟩
  rw [← hQ9]
  have hl := lv_entry ([.ref k0, .int (nI f), .int w]) (n := 9) (Nat.le_of_ble_eq_true rfl)
  rw [lg_entry_eq]
  generalize (lg_sl ([.ref k0, .int (nI f), .int w]) ++ List.replicate (9 - (lg_sl ([.ref k0, .int (nI f), .int w])).length) Slot.unset).toArray = ls at hl ⊢
  have hl : lv_has ls 9 [(0, .ref k0), (1, .int (nI f)), (2, .int w)] := hl
  have hw_ff := hwf f (by first | with_reducible assumption | assumption)
  have hm_ff := hw_ff.1
  have hn_ff := hw_ff.2.1
  have hp_ff := hw_ff.2.2
  have hee := eO_le (k := (kd f).toInt) hn_ff.1
  refine lv_aload_n hx hb dX11_far_0 rfl (lv_at hl 0 rfl) ?_
  refine lv_iload_n hx hb dX11_far_1 rfl (lv_at hl 1 rfl) ?_
  obtain ⟨hPc, hDc, hFc⟩ := zc_sub (wc := [(om k0 a I0 J0), (oa (a 5) cI 201 st), (oa (a 6) cZ 201 tn)]) hP hD hS hA [0, 1, 2] rfl rfl
  refine zcall (st1 := [.int (pI (f < ft ∧ (st f).toInt = 1 ∧ (tn f).toInt = 0))]) (va_runV (As := [.int (nI f)]) (rest := []) ⟨hx, hb, hml, hown, hts⟩ (k_M_is_n l dC dI cI cZ cF s.heap.size k0 a I0 J0 f ft st tn (by first | with_reducible assumption | assumption) (by first | with_reducible assumption | omega) (by first | with_reducible assumption | omega)) (csV_179 hts rfl rfl ⟨Nat.le_of_ble_eq_true rfl, Nat.le_of_ble_eq_true rfl⟩) (zPV2 (q0 := 0) (ci := 9) hPc hDc hK hXN rfl rfl) rfl rfl hl.1 rfl (lv_room (Nat.le_of_ble_eq_true rfl)) dX11_far_2 ⟨Nat.le_of_ble_eq_true rfl, Nat.le_of_ble_eq_true rfl⟩) hS hFc hFc rfl (fun t H locs ht hB hk1 hS => ?_)
  obtain ⟨hP1, hD1⟩ := hB
  rw [ht] at hP1
  obtain ⟨hP, hD⟩ := zk (W2 := [(om k0 a I0 J0), (oa (a 5) cI 201 st), (oa (a 6) cZ 201 tn), (oa (a 1) cI 201 kd), (oa (a 11) cI 201 mn), (oa (a 12) cI 8040 cx), (oa (a 13) cI 8040 cy), (oa (a 32) cI 8 S0), (oa (a 22) cI (64 * cl) la), (oa (a 23) cI (64 * cl) lb), (oa (a 24) cI (64 * cl) lc), (oa (a 25) cI (64 * cl) ld)]) hP hD [0, 1, 2] [3, 4, 5, 6, 7, 8, 9, 10, 11] [3, 4, 5, 6, 7, 8, 9, 10, 11] [0, 1, 2] [9, 10, 11, 0, 1, 2, 3, 4, 5, 6, 7, 8] 12 rfl rfl rfl rfl rfl rfl rfl rfl rfl hk1 hFc hP1 hD1
  clear hk1 hPc hDc hFc hP1 hD1 ht
  refine lv_if_eq (tgt := 17) hx hb dX11_far_5 rfl (fun c_1 => ?_) (fun c_1 => ?_)
  · have c_1 : ¬ (f < ft ∧ (st f).toInt = 1 ∧ (tn f).toInt = 0) := zp_0 c_1
    exfalso; exact absurd hlv (by first | with_reducible assumption | assumption)
  · have c_1 : f < ft ∧ (st f).toInt = 1 ∧ (tn f).toInt = 0 := zp_1 c_1
    refine lv_iload_n hx hb dX11_far_8 rfl (lv_at hl 2 rfl) ?_
    refine lv_if_lt (tgt := 17) hx hb dX11_far_9 rfl (fun c_2 => ?_) (fun c_2 => ?_)
    · have c_2 : w.toInt < 0 := zc_lt rfl rfl c_2
      exfalso; omega
    · have c_2 : 0 ≤ w.toInt := zc_nlt rfl rfl c_2
      refine lv_iload_n hx hb dX11_far_12 rfl (lv_at hl 2 rfl) ?_
      refine lv_iconst (v := 1) hx hb dX11_far_13 rfl ?_
      refine lv_icmp_le (tgt := 21) hx hb dX11_far_14 rfl (fun c_3 => ?_) (fun c_3 => ?_)
      · have c_3 : w.toInt ≤ 1 := zc_le rfl rfl c_3
        refine lv_lconst (v := 0) hx hb dX11_far_21 rfl ?_
        refine zz_l (v := jI 0) (jI_0) ?_
        refine lv_lstore_n (lv' := [(3, .long (jI 0)), (0, .ref k0), (1, .int (nI f)), (2, .int w)]) hx hb dX11_far_22 rfl hl (Nat.le_of_ble_eq_true rfl) rfl (fun ls hl => ?_)
        refine lv_lconst (v := 1) hx hb dX11_far_23 rfl ?_
        refine zz_l (v := jI 1) (jI_1) ?_
        refine lv_lstore (lv' := [(5, .long (jI 1)), (3, .long (jI 0)), (0, .ref k0), (1, .int (nI f)), (2, .int w)]) hx hb dX11_far_24 hl (Nat.le_of_ble_eq_true rfl) rfl (fun ls hl => ?_)
        refine lv_iconst (v := 0) hx hb dX11_far_26 rfl ?_
        refine lv_istore (lv' := [(7, .int 0), (5, .long (jI 1)), (3, .long (jI 0)), (0, .ref k0), (1, .int (nI f)), (2, .int w)]) hx hb dX11_far_27 hl (Nat.le_of_ble_eq_true rfl) rfl (fun ls hl => ?_)
        have hl_29 : ∀ (n9 : Nat) (j9 : Nat) (ua : Int) (ub : Int) (u9 : Int64) (d9 : Int64) (S1 : Nat → Int32) (H : Heap) (locs : List Loc) (ls : Array Slot), ln - j9 < n9 → (j9 ≤ ln) → ((0 ≤ ua ∧ ua ≤ 4000000000000) ∧ (1 ≤ ub ∧ ub ≤ 2000000)) → va_P (dC, dI) classes [(om k0 a I0 (vp_updL (vp_updL J0 48 u9) 49 d9)), (oa (a 5) cI 201 st), (oa (a 6) cZ 201 tn), (oa (a 1) cI 201 kd), (oa (a 11) cI 201 mn), (oa (a 12) cI 8040 cx), (oa (a 13) cI 8040 cy), (oa (a 32) cI 8 S1), (oa (a 22) cI (64 * cl) la), (oa (a 23) cI (64 * cl) lb), (oa (a 24) cI (64 * cl) lc), (oa (a 25) cI (64 * cl) ld)] H → va_D A [(om k0 a I0 (vp_updL (vp_updL J0 48 u9) 49 d9)), (oa (a 5) cI 201 st), (oa (a 6) cZ 201 tn), (oa (a 1) cI 201 kd), (oa (a 11) cI 201 mn), (oa (a 12) cI 8040 cx), (oa (a 13) cI 8040 cy), (oa (a 32) cI 8 S1), (oa (a 22) cI (64 * cl) la), (oa (a 23) cI (64 * cl) lb), (oa (a 24) cI (64 * cl) lc), (oa (a 25) cI (64 * cl) ld)] → va_S A s.heap H locs → lv_has ls 9 [(7, .int (nI j9)), (5, .long (jI ub)), (3, .long (jI ua)), (0, .ref k0), (1, .int (nI f)), (2, .int w)] → W p l e ((headSpec (.code yX11_far cX11_far 9 (some .long) :: ws0) ({ frames := 2, cells := 0, slots := 0, locals := 70 } : Room)).room) s m ([.ref k0, .int (nI f), .int w] : List Value).toArray below meth c H locs 0 0 Q9 (F0 m 29 ls []) := by
          intro n9
          induction n9 with
          | zero => intro j9 ua ub u9 d9 S1 H locs ls hm; exact absurd hm (Nat.not_lt_zero _)
          | succ n9 ih_29 =>
            intro j9 ua ub u9 d9 S1 H locs ls hm hj9 hab hP hD hS hl
            refine lv_iload hx hb dX11_far_29 (lv_at hl 0 rfl) ?_
            refine lv_aload_n hx hb dX11_far_31 rfl (lv_at hl 3 rfl) ?_
            refine va_get (D := (dC, dI)) (ci := 9) (v := .int (I0 26)) (C := RX11) (T := TX11) (N := 55) hx hb hts inX11 hown hK hP 0 rfl rfl 26 (Nat.le_of_ble_eq_true rfl) (hts _ mw_1185) (fun _ h9 => h9) rfl dX11_far_32 ?_
            refine zz_i (v := nI ln) (hln) ?_
            have b9_5 : j9 < 2147483648 := by omega
            have b9_6 : ln < 2147483648 := by omega
            refine lv_icmp_ge (tgt := 161) hx hb dX11_far_35 rfl (fun c_4 => ?_) (fun c_4 => ?_)
            · have c_4 : ((ln : Nat) : Int) ≤ ((j9 : Nat) : Int) := zc_le (nI_toInt b9_6) (nI_toInt b9_5) c_4
              refine lv_aload_n hx hb dX11_far_161 rfl (lv_at hl 3 rfl) ?_
              refine lv_lload_n hx hb dX11_far_162 rfl (lv_at hl 2 rfl) ?_
              refine va_put (D := (dC, dI)) (ci := 9) (v := .long (jI ua)) (ty := .long) (C := RX11) (T := TX11) (N := 55) hx hb hts inX11 tyX11 tyX11_ok nmX11 hown hK hP hD hS 0 rfl rfl 48 (by decide) (hts _ mw_1207) (fun _ h9 => h9) rfl (by decide +kernel) rfl rfl (Nat.le_of_ble_eq_true rfl) dX11_far_163 (fun H locs hP hD hS => ?_)
              obtain ⟨hP, hD⟩ : zPD (dC, dI) classes A [(om k0 a I0 (vp_updL (vp_updL J0 48 (jI ua)) 49 d9)), (oa (a 5) cI 201 st), (oa (a 6) cZ 201 tn), (oa (a 1) cI 201 kd), (oa (a 11) cI 201 mn), (oa (a 12) cI 8040 cx), (oa (a 13) cI 8040 cy), (oa (a 32) cI 8 S1), (oa (a 22) cI (64 * cl) la), (oa (a 23) cI (64 * cl) lb), (oa (a 24) cI (64 * cl) lc), (oa (a 25) cI (64 * cl) ld)] H := ⟨hP, hD⟩
              refine lv_aload_n hx hb dX11_far_166 rfl (lv_at hl 3 rfl) ?_
              refine lv_lload hx hb dX11_far_167 (lv_at hl 1 rfl) ?_
              refine va_put (D := (dC, dI)) (ci := 9) (v := .long (jI ub)) (ty := .long) (C := RX11) (T := TX11) (N := 55) hx hb hts inX11 tyX11 tyX11_ok nmX11 hown hK hP hD hS 0 rfl rfl 49 (by decide) (hts _ mw_1208) (fun _ h9 => h9) rfl (by decide +kernel) rfl rfl (Nat.le_of_ble_eq_true rfl) dX11_far_169 (fun H locs hP hD hS => ?_)
              obtain ⟨hP, hD⟩ : zPD (dC, dI) classes A [(om k0 a I0 (vp_updL (vp_updL J0 48 (jI ua)) 49 (jI ub))), (oa (a 5) cI 201 st), (oa (a 6) cZ 201 tn), (oa (a 1) cI 201 kd), (oa (a 11) cI 201 mn), (oa (a 12) cI 8040 cx), (oa (a 13) cI 8040 cy), (oa (a 32) cI 8 S1), (oa (a 22) cI (64 * cl) la), (oa (a 23) cI (64 * cl) lb), (oa (a 24) cI (64 * cl) lc), (oa (a 25) cI (64 * cl) ld)] H := ⟨hP, hD⟩
              obtain ⟨un, hun⟩ : ∃ un : Nat, ua = ((un : Nat) : Int) := ⟨ua.toNat, by omega⟩
              obtain ⟨dd, hdd⟩ : ∃ dd : Nat, ub = ((dd : Nat) : Int) := ⟨ub.toNat, by omega⟩
              rw [hun, hdd] at hP hD
              refine lv_aload_n hx hb dX11_far_172 rfl (lv_at hl 3 rfl) ?_
              obtain ⟨hPc, hDc, hFc⟩ := zc_sub (wc := [(om k0 a I0 (vp_updL (vp_updL J0 48 (jI ((un : Nat) : Int))) 49 (jI ((dd : Nat) : Int))))]) hP hD hS hA [0] rfl rfl
              refine zcall (st1 := []) (va_runV (As := []) (rest := []) ⟨hx, hb, hml, hown, hts⟩ (k_M_plainFraction l dC dI cI cZ cF H.size k0 a I0 (vp_updL (vp_updL J0 48 (jI ((un : Nat) : Int))) 49 (jI ((dd : Nat) : Int))) un dd (by first | with_reducible assumption | omega) (by first | with_reducible assumption | omega)) (csV_224 hts rfl rfl ⟨Nat.le_of_ble_eq_true rfl, Nat.le_of_ble_eq_true rfl⟩) (zPV2 (q0 := 0) (ci := 9) hPc hDc hK hXN rfl rfl) rfl rfl hl.1 rfl (lv_room (Nat.le_of_ble_eq_true rfl)) dX11_far_173 ⟨Nat.le_of_ble_eq_true rfl, Nat.le_of_ble_eq_true rfl⟩) hS hFc hFc rfl (fun t H locs ht hB hk1 hS => ?_)
              obtain ⟨hP1, hD1⟩ := hB
              rw [ht] at hP1
              obtain ⟨hP, hD⟩ := zk (W2 := [(om k0 a I0 (vp_updL (vp_updL J0 48 (jI ((un / Nat.gcd un dd : Nat) : Int))) 49 (jI ((dd / Nat.gcd un dd : Nat) : Int)))), (oa (a 5) cI 201 st), (oa (a 6) cZ 201 tn), (oa (a 1) cI 201 kd), (oa (a 11) cI 201 mn), (oa (a 12) cI 8040 cx), (oa (a 13) cI 8040 cy), (oa (a 32) cI 8 S1), (oa (a 22) cI (64 * cl) la), (oa (a 23) cI (64 * cl) lb), (oa (a 24) cI (64 * cl) lc), (oa (a 25) cI (64 * cl) ld)]) hP hD [0] [1, 2, 3, 4, 5, 6, 7, 8, 9, 10, 11] [1, 2, 3, 4, 5, 6, 7, 8, 9, 10, 11] [0] [11, 0, 1, 2, 3, 4, 5, 6, 7, 8, 9, 10] 12 rfl rfl rfl rfl rfl rfl rfl rfl rfl hk1 hFc hP1 hD1
              clear hk1 hPc hDc hFc hP1 hD1 ht
              refine lv_iload_n hx hb dX11_far_176 rfl (lv_at hl 5 rfl) ?_
              refine lv_if_ne (tgt := 187) hx hb dX11_far_177 rfl (fun c_7 => ?_) (fun c_7 => ?_)
              · have c_7 : ¬ w.toInt = 0 := zc_ne rfl rfl c_7
                refine lv_aload_n hx hb dX11_far_187 rfl (lv_at hl 3 rfl) ?_
                refine va_get (D := (dC, dI)) (ci := 9) (v := .long (jI ((dd / Nat.gcd un dd : Nat) : Int))) (C := RX11) (T := TX11) (N := 55) hx hb hts inX11 hown hK hP 0 rfl rfl 49 (Nat.le_of_ble_eq_true rfl) (hts _ mw_1208) (fun _ h9 => h9) rfl dX11_far_188 ?_
                obtain ⟨hP9, hD9⟩ := zq_sub (wc := [(om k0 a I0 (vp_updL (vp_updL J0 48 (jI ((un / Nat.gcd un dd : Nat) : Int))) 49 (jI ((dd / Nat.gcd un dd : Nat) : Int)))), (oa (a 5) cI 201 st), (oa (a 6) cZ 201 tn), (oa (a 1) cI 201 kd), (oa (a 11) cI 201 mn), (oa (a 12) cI 8040 cx), (oa (a 13) cI 8040 cy), (oa (a 32) cI 8 S1), (oa (a 22) cI (64 * cl) la), (oa (a 23) cI (64 * cl) lb), (oa (a 24) cI (64 * cl) lc), (oa (a 25) cI (64 * cl) ld)]) hP hD [0, 1, 2, 3, 4, 5, 6, 7, 8, 9, 10, 11] rfl rfl
                rw [hQ9]
                exact W.lret (v := jI ((dd / Nat.gcd un dd : Nat) : Int)) hx hb hr (fun t ht hW => ⟨⟨_, rfl, (jI ((dd / Nat.gcd un dd : Nat) : Int)), (jI ((un / Nat.gcd un dd : Nat) : Int)), (jI ((dd / Nat.gcd un dd : Nat) : Int)), S1, rfl, by rw [ht]; exact hP9, hD9⟩, hS.F ht⟩) hS.2.2 dX11_far_191
              · have c_7 : w.toInt = 0 := zc_eq rfl rfl c_7
                refine lv_aload_n hx hb dX11_far_180 rfl (lv_at hl 3 rfl) ?_
                refine va_get (D := (dC, dI)) (ci := 9) (v := .long (jI ((un / Nat.gcd un dd : Nat) : Int))) (C := RX11) (T := TX11) (N := 55) hx hb hts inX11 hown hK hP 0 rfl rfl 48 (Nat.le_of_ble_eq_true rfl) (hts _ mw_1207) (fun _ h9 => h9) rfl dX11_far_181 ?_
                refine lv_goto (tgt := 191) hx hb dX11_far_184 rfl ?_
                obtain ⟨hP9, hD9⟩ := zq_sub (wc := [(om k0 a I0 (vp_updL (vp_updL J0 48 (jI ((un / Nat.gcd un dd : Nat) : Int))) 49 (jI ((dd / Nat.gcd un dd : Nat) : Int)))), (oa (a 5) cI 201 st), (oa (a 6) cZ 201 tn), (oa (a 1) cI 201 kd), (oa (a 11) cI 201 mn), (oa (a 12) cI 8040 cx), (oa (a 13) cI 8040 cy), (oa (a 32) cI 8 S1), (oa (a 22) cI (64 * cl) la), (oa (a 23) cI (64 * cl) lb), (oa (a 24) cI (64 * cl) lc), (oa (a 25) cI (64 * cl) ld)]) hP hD [0, 1, 2, 3, 4, 5, 6, 7, 8, 9, 10, 11] rfl rfl
                rw [hQ9]
                exact W.lret (v := jI ((un / Nat.gcd un dd : Nat) : Int)) hx hb hr (fun t ht hW => ⟨⟨_, rfl, (jI ((un / Nat.gcd un dd : Nat) : Int)), (jI ((un / Nat.gcd un dd : Nat) : Int)), (jI ((dd / Nat.gcd un dd : Nat) : Int)), S1, rfl, by rw [ht]; exact hP9, hD9⟩, hS.F ht⟩) hS.2.2 dX11_far_191
            · have c_4 : ((j9 : Nat) : Int) < ((ln : Nat) : Int) := zc_nle (nI_toInt b9_6) (nI_toInt b9_5) c_4
              refine lv_aload_n hx hb dX11_far_38 rfl (lv_at hl 3 rfl) ?_
              refine va_get (D := (dC, dI)) (ci := 9) (v := .ref (a 22)) (C := RX11) (T := TX11) (N := 55) hx hb hts inX11 hown hK hP 0 rfl rfl 22 (Nat.le_of_ble_eq_true rfl) (hts _ mw_1181) (fun _ h9 => h9) rfl dX11_far_39 ?_
              refine lv_iload hx hb dX11_far_42 (lv_at hl 0 rfl) ?_
              have b9_8 : j9 < (64 * cl) := by omega
              have b9_9 : (64 * cl) < 2147483648 := by omega
              refine z_iald hx hb hK hP 8 0 rfl rfl (e := j9) rfl b9_8 b9_9 dX11_far_44 ?_
              refine lv_iload_n hx hb dX11_far_45 rfl (lv_at hl 4 rfl) ?_
              have b9_11 : f < 2147483648 := by omega
              refine lv_icmp_ne (tgt := 155) hx hb dX11_far_46 rfl (fun c_10 => ?_) (fun c_10 => ?_)
              · have c_10 : ¬ (la j9).toInt = ((f : Nat) : Int) := zc_ne rfl (nI_toInt b9_11) c_10
                refine lv_iinc (v := nI (j9 + 1)) (lv' := [(7, .int (nI (j9 + 1))), (5, .long (jI ub)), (3, .long (jI ua)), (0, .ref k0), (1, .int (nI f)), (2, .int w)]) hx hb dX11_far_155 hl (k := 0) rfl (nI_add j9 1) (Nat.le_of_ble_eq_true rfl) rfl (fun ls hl => ?_)
                refine lv_goto (tgt := 29) hx hb dX11_far_158 rfl ?_
                exact ih_29 (j9 + 1) ua ub u9 d9 S1 H locs ls (by first | with_reducible assumption | omega) (by first | with_reducible assumption | omega) (by first | exact hab | (have h9 := hd1 (by first | with_reducible assumption | omega); omega)) hP hD hS (lv_sub hl [0, 1, 2, 3, 4, 5] rfl)
              · have c_10 : (la j9).toInt = ((f : Nat) : Int) := zc_eq rfl (nI_toInt b9_11) c_10
                refine lv_aload_n hx hb dX11_far_49 rfl (lv_at hl 3 rfl) ?_
                refine va_get (D := (dC, dI)) (ci := 9) (v := .ref (a 25)) (C := RX11) (T := TX11) (N := 55) hx hb hts inX11 hown hK hP 0 rfl rfl 25 (Nat.le_of_ble_eq_true rfl) (hts _ mw_1184) (fun _ h9 => h9) rfl dX11_far_50 ?_
                refine lv_iload hx hb dX11_far_53 (lv_at hl 0 rfl) ?_
                refine z_iald hx hb hK hP 11 0 rfl rfl (e := j9) rfl b9_8 b9_9 dX11_far_55 ?_
                refine lv_aload_n hx hb dX11_far_56 rfl (lv_at hl 3 rfl) ?_
                refine va_get (D := (dC, dI)) (ci := 9) (v := .int (I0 19)) (C := RX11) (T := TX11) (N := 55) hx hb hts inX11 hown hK hP 0 rfl rfl 19 (Nat.le_of_ble_eq_true rfl) (hts _ mw_1178) (fun _ h9 => h9) rfl dX11_far_57 ?_
                refine lv_icmp_le (tgt := 66) hx hb dX11_far_60 rfl (fun c_12 => ?_) (fun c_12 => ?_)
                · have c_12 : (ld j9).toInt ≤ (I0 19).toInt := zc_le rfl rfl c_12
                  refine lv_aload_n hx hb dX11_far_66 rfl (lv_at hl 3 rfl) ?_
                  refine lv_lconst (v := 0) hx hb dX11_far_67 rfl ?_
                  refine zz_l (v := jI 0) (jI_0) ?_
                  refine va_put (D := (dC, dI)) (ci := 9) (v := .long (jI 0)) (ty := .long) (C := RX11) (T := TX11) (N := 55) hx hb hts inX11 tyX11 tyX11_ok nmX11 hown hK hP hD hS 0 rfl rfl 48 (by decide) (hts _ mw_1207) (fun _ h9 => h9) rfl (by decide +kernel) rfl rfl (Nat.le_of_ble_eq_true rfl) dX11_far_68 (fun H locs hP hD hS => ?_)
                  obtain ⟨hP, hD⟩ : zPD (dC, dI) classes A [(om k0 a I0 (vp_updL (vp_updL J0 48 (jI 0)) 49 d9)), (oa (a 5) cI 201 st), (oa (a 6) cZ 201 tn), (oa (a 1) cI 201 kd), (oa (a 11) cI 201 mn), (oa (a 12) cI 8040 cx), (oa (a 13) cI 8040 cy), (oa (a 32) cI 8 S1), (oa (a 22) cI (64 * cl) la), (oa (a 23) cI (64 * cl) lb), (oa (a 24) cI (64 * cl) lc), (oa (a 25) cI (64 * cl) ld)] H := ⟨hP, hD⟩
                  refine lv_aload_n hx hb dX11_far_71 rfl (lv_at hl 3 rfl) ?_
                  refine lv_lconst (v := 0) hx hb dX11_far_72 rfl ?_
                  refine zz_l (v := jI 0) (jI_0) ?_
                  refine va_put (D := (dC, dI)) (ci := 9) (v := .long (jI 0)) (ty := .long) (C := RX11) (T := TX11) (N := 55) hx hb hts inX11 tyX11 tyX11_ok nmX11 hown hK hP hD hS 0 rfl rfl 49 (by decide) (hts _ mw_1208) (fun _ h9 => h9) rfl (by decide +kernel) rfl rfl (Nat.le_of_ble_eq_true rfl) dX11_far_73 (fun H locs hP hD hS => ?_)
                  obtain ⟨hP, hD⟩ : zPD (dC, dI) classes A [(om k0 a I0 (vp_updL (vp_updL J0 48 (jI 0)) 49 (jI 0))), (oa (a 5) cI 201 st), (oa (a 6) cZ 201 tn), (oa (a 1) cI 201 kd), (oa (a 11) cI 201 mn), (oa (a 12) cI 8040 cx), (oa (a 13) cI 8040 cy), (oa (a 32) cI 8 S1), (oa (a 22) cI (64 * cl) la), (oa (a 23) cI (64 * cl) lb), (oa (a 24) cI (64 * cl) lc), (oa (a 25) cI (64 * cl) ld)] H := ⟨hP, hD⟩
                  refine lv_iconst (v := 0) hx hb dX11_far_76 rfl ?_
                  refine lv_istore (lv' := [(8, .int 0), (7, .int (nI j9)), (5, .long (jI ub)), (3, .long (jI ua)), (0, .ref k0), (1, .int (nI f)), (2, .int w)]) hx hb dX11_far_77 hl (Nat.le_of_ble_eq_true rfl) rfl (fun ls hl => ?_)
                  have hl_79 : ∀ (n9 : Nat) (e9 : Nat) (u2 : Int) (d2 : Int) (S2 : Nat → Int32) (H : Heap) (locs : List Loc) (ls : Array Slot), eO (kd f).toInt (nN (mn f)) - e9 < n9 → (e9 ≤ eO (kd f).toInt (nN (mn f))) → ((0 ≤ u2 ∧ u2 ≤ 4000000000000) ∧ (0 ≤ d2 ∧ d2 ≤ 2000000)) → (0 < e9 → 1 ≤ d2) → va_P (dC, dI) classes [(om k0 a I0 (vp_updL (vp_updL J0 48 (jI u2)) 49 (jI d2))), (oa (a 5) cI 201 st), (oa (a 6) cZ 201 tn), (oa (a 1) cI 201 kd), (oa (a 11) cI 201 mn), (oa (a 12) cI 8040 cx), (oa (a 13) cI 8040 cy), (oa (a 32) cI 8 S2), (oa (a 22) cI (64 * cl) la), (oa (a 23) cI (64 * cl) lb), (oa (a 24) cI (64 * cl) lc), (oa (a 25) cI (64 * cl) ld)] H → va_D A [(om k0 a I0 (vp_updL (vp_updL J0 48 (jI u2)) 49 (jI d2))), (oa (a 5) cI 201 st), (oa (a 6) cZ 201 tn), (oa (a 1) cI 201 kd), (oa (a 11) cI 201 mn), (oa (a 12) cI 8040 cx), (oa (a 13) cI 8040 cy), (oa (a 32) cI 8 S2), (oa (a 22) cI (64 * cl) la), (oa (a 23) cI (64 * cl) lb), (oa (a 24) cI (64 * cl) lc), (oa (a 25) cI (64 * cl) ld)] → va_S A s.heap H locs → lv_has ls 9 [(8, .int (nI e9)), (7, .int (nI j9)), (5, .long (jI ub)), (3, .long (jI ua)), (0, .ref k0), (1, .int (nI f)), (2, .int w)] → W p l e ((headSpec (.code yX11_far cX11_far 9 (some .long) :: ws0) ({ frames := 2, cells := 0, slots := 0, locals := 70 } : Room)).room) s m ([.ref k0, .int (nI f), .int w] : List Value).toArray below meth c H locs 0 0 Q9 (F0 m 79 ls []) := by
                    intro n9
                    induction n9 with
                    | zero => intro e9 u2 d2 S2 H locs ls hm; exact absurd hm (Nat.not_lt_zero _)
                    | succ n9 ih_79 =>
                      intro e9 u2 d2 S2 H locs ls hm he9 hud2 hd1 hP hD hS hl
                      refine lv_iload hx hb dX11_far_79 (lv_at hl 0 rfl) ?_
                      refine lv_aload_n hx hb dX11_far_81 rfl (lv_at hl 4 rfl) ?_
                      refine lv_iload_n hx hb dX11_far_82 rfl (lv_at hl 5 rfl) ?_
                      obtain ⟨hPc, hDc, hFc⟩ := zc_sub (wc := [(om k0 a I0 (vp_updL (vp_updL J0 48 (jI u2)) 49 (jI d2))), (oa (a 1) cI 201 kd), (oa (a 11) cI 201 mn)]) hP hD hS hA [0, 3, 4] rfl rfl
                      refine zcall (st1 := [.int (nI (eO (kd f).toInt (nN (mn f)))), .int (nI e9)]) (va_runV (As := [.int (nI f)]) (rest := [.int (nI e9)]) ⟨hx, hb, hml, hown, hts⟩ (k_M_edgesOf l dC dI cI cZ cF H.size k0 a I0 (vp_updL (vp_updL J0 48 (jI u2)) 49 (jI d2)) f (nN (mn f)) kd mn (by first | with_reducible assumption | omega) (hm_ff) (hn_ff)) (csV_166 hts rfl rfl ⟨Nat.le_of_ble_eq_true rfl, Nat.le_of_ble_eq_true rfl⟩) (zPV2 (q0 := 0) (ci := 9) hPc hDc hK hXN rfl rfl) rfl rfl hl.1 rfl (lv_room (Nat.le_of_ble_eq_true rfl)) dX11_far_83 ⟨Nat.le_of_ble_eq_true rfl, Nat.le_of_ble_eq_true rfl⟩) hS hFc hFc rfl (fun t H locs ht hB hk1 hS => ?_)
                      obtain ⟨hP1, hD1⟩ := hB
                      rw [ht] at hP1
                      obtain ⟨hP, hD⟩ := zk (W2 := [(om k0 a I0 (vp_updL (vp_updL J0 48 (jI u2)) 49 (jI d2))), (oa (a 5) cI 201 st), (oa (a 6) cZ 201 tn), (oa (a 1) cI 201 kd), (oa (a 11) cI 201 mn), (oa (a 12) cI 8040 cx), (oa (a 13) cI 8040 cy), (oa (a 32) cI 8 S2), (oa (a 22) cI (64 * cl) la), (oa (a 23) cI (64 * cl) lb), (oa (a 24) cI (64 * cl) lc), (oa (a 25) cI (64 * cl) ld)]) hP hD [0, 3, 4] [1, 2, 5, 6, 7, 8, 9, 10, 11] [1, 2, 5, 6, 7, 8, 9, 10, 11] [0, 3, 4] [9, 0, 1, 10, 11, 2, 3, 4, 5, 6, 7, 8] 12 rfl rfl rfl rfl rfl rfl rfl rfl rfl hk1 hFc hP1 hD1
                      clear hk1 hPc hDc hFc hP1 hD1 ht
                      have b9_14 : e9 < 2147483648 := by omega
                      have b9_15 : (eO (kd f).toInt (nN (mn f))) < 2147483648 := by omega
                      refine lv_icmp_ge (tgt := 126) hx hb dX11_far_86 rfl (fun c_13 => ?_) (fun c_13 => ?_)
                      · have c_13 : ((eO (kd f).toInt (nN (mn f)) : Nat) : Int) ≤ ((e9 : Nat) : Int) := zc_le (nI_toInt b9_15) (nI_toInt b9_14) c_13
                        refine lv_aload_n hx hb dX11_far_126 rfl (lv_at hl 4 rfl) ?_
                        refine lv_lload_n hx hb dX11_far_127 rfl (lv_at hl 3 rfl) ?_
                        refine lv_lload hx hb dX11_far_128 (lv_at hl 2 rfl) ?_
                        refine lv_aload_n hx hb dX11_far_130 rfl (lv_at hl 4 rfl) ?_
                        refine va_get (D := (dC, dI)) (ci := 9) (v := .long (jI u2)) (C := RX11) (T := TX11) (N := 55) hx hb hts inX11 hown hK hP 0 rfl rfl 48 (Nat.le_of_ble_eq_true rfl) (hts _ mw_1207) (fun _ h9 => h9) rfl dX11_far_131 ?_
                        refine lv_aload_n hx hb dX11_far_134 rfl (lv_at hl 4 rfl) ?_
                        refine va_get (D := (dC, dI)) (ci := 9) (v := .long (jI d2)) (C := RX11) (T := TX11) (N := 55) hx hb hts inX11 hown hK hP 0 rfl rfl 49 (Nat.le_of_ble_eq_true rfl) (hts _ mw_1208) (fun _ h9 => h9) rfl dX11_far_135 ?_
                        obtain ⟨hPc, hDc, hFc⟩ := zc_sub (wc := [(om k0 a I0 (vp_updL (vp_updL J0 48 (jI u2)) 49 (jI d2)))]) hP hD hS hA [0] rfl rfl
                        refine zcall (st1 := [.int (pI (ua * d2 < u2 * ub))]) (va_runV (As := [.long (jI ua), .long (jI ub), .long (jI u2), .long (jI d2)]) (rest := []) ⟨hx, hb, hml, hown, hts⟩ (k_M_isLess l dC dI cI cZ cF H.size k0 a I0 (vp_updL (vp_updL J0 48 (jI u2)) 49 (jI d2)) ua ub u2 d2 (prN hab.1 hud2.2) (prN hud2.1 ⟨by omega, hab.2.2⟩) (by first | with_reducible assumption | omega) (by first | with_reducible assumption | omega) (by first | with_reducible assumption | omega) (by first | with_reducible assumption | omega)) (csV_217 hts rfl rfl ⟨Nat.le_of_ble_eq_true rfl, Nat.le_of_ble_eq_true rfl⟩) (zPV2 (q0 := 0) (ci := 9) hPc hDc hK hXN rfl rfl) rfl rfl hl.1 rfl (lv_room (Nat.le_of_ble_eq_true rfl)) dX11_far_138 ⟨Nat.le_of_ble_eq_true rfl, Nat.le_of_ble_eq_true rfl⟩) hS hFc hFc rfl (fun t H locs ht hB hk1 hS => ?_)
                        obtain ⟨hP1, hD1⟩ := hB
                        rw [ht] at hP1
                        obtain ⟨hP, hD⟩ := zk (W2 := [(om k0 a I0 (vp_updL (vp_updL J0 48 (jI u2)) 49 (jI d2))), (oa (a 5) cI 201 st), (oa (a 6) cZ 201 tn), (oa (a 1) cI 201 kd), (oa (a 11) cI 201 mn), (oa (a 12) cI 8040 cx), (oa (a 13) cI 8040 cy), (oa (a 32) cI 8 S2), (oa (a 22) cI (64 * cl) la), (oa (a 23) cI (64 * cl) lb), (oa (a 24) cI (64 * cl) lc), (oa (a 25) cI (64 * cl) ld)]) hP hD [0] [1, 2, 3, 4, 5, 6, 7, 8, 9, 10, 11] [1, 2, 3, 4, 5, 6, 7, 8, 9, 10, 11] [0] [11, 0, 1, 2, 3, 4, 5, 6, 7, 8, 9, 10] 12 rfl rfl rfl rfl rfl rfl rfl rfl rfl hk1 hFc hP1 hD1
                        clear hk1 hPc hDc hFc hP1 hD1 ht
                        refine lv_if_eq (tgt := 155) hx hb dX11_far_141 rfl (fun c_16 => ?_) (fun c_16 => ?_)
                        · have c_16 : ¬ (ua * d2 < u2 * ub) := zp_0 c_16
                          refine lv_iinc (v := nI (j9 + 1)) (lv' := [(7, .int (nI (j9 + 1))), (8, .int (nI e9)), (5, .long (jI ub)), (3, .long (jI ua)), (0, .ref k0), (1, .int (nI f)), (2, .int w)]) hx hb dX11_far_155 hl (k := 1) rfl (nI_add j9 1) (Nat.le_of_ble_eq_true rfl) rfl (fun ls hl => ?_)
                          refine lv_goto (tgt := 29) hx hb dX11_far_158 rfl ?_
                          exact ih_29 (j9 + 1) ua ub (jI u2) (jI d2) S2 H locs ls (by first | with_reducible assumption | omega) (by first | with_reducible assumption | omega) (by first | exact hab | (have h9 := hd1 (by first | with_reducible assumption | omega); omega)) hP hD hS (lv_sub hl [0, 2, 3, 4, 5, 6] rfl)
                        · have c_16 : ua * d2 < u2 * ub := zp_1 c_16
                          refine lv_aload_n hx hb dX11_far_144 rfl (lv_at hl 4 rfl) ?_
                          refine va_get (D := (dC, dI)) (ci := 9) (v := .long (jI u2)) (C := RX11) (T := TX11) (N := 55) hx hb hts inX11 hown hK hP 0 rfl rfl 48 (Nat.le_of_ble_eq_true rfl) (hts _ mw_1207) (fun _ h9 => h9) rfl dX11_far_145 ?_
                          refine lv_lstore_n (lv' := [(3, .long (jI u2)), (8, .int (nI e9)), (7, .int (nI j9)), (5, .long (jI ub)), (0, .ref k0), (1, .int (nI f)), (2, .int w)]) hx hb dX11_far_148 rfl hl (Nat.le_of_ble_eq_true rfl) rfl (fun ls hl => ?_)
                          refine lv_aload_n hx hb dX11_far_149 rfl (lv_at hl 4 rfl) ?_
                          refine va_get (D := (dC, dI)) (ci := 9) (v := .long (jI d2)) (C := RX11) (T := TX11) (N := 55) hx hb hts inX11 hown hK hP 0 rfl rfl 49 (Nat.le_of_ble_eq_true rfl) (hts _ mw_1208) (fun _ h9 => h9) rfl dX11_far_150 ?_
                          refine lv_lstore (lv' := [(5, .long (jI d2)), (3, .long (jI u2)), (8, .int (nI e9)), (7, .int (nI j9)), (0, .ref k0), (1, .int (nI f)), (2, .int w)]) hx hb dX11_far_153 hl (Nat.le_of_ble_eq_true rfl) rfl (fun ls hl => ?_)
                          refine lv_iinc (v := nI (j9 + 1)) (lv' := [(7, .int (nI (j9 + 1))), (5, .long (jI d2)), (3, .long (jI u2)), (8, .int (nI e9)), (0, .ref k0), (1, .int (nI f)), (2, .int w)]) hx hb dX11_far_155 hl (k := 3) rfl (nI_add j9 1) (Nat.le_of_ble_eq_true rfl) rfl (fun ls hl => ?_)
                          refine lv_goto (tgt := 29) hx hb dX11_far_158 rfl ?_
                          exact ih_29 (j9 + 1) u2 d2 (jI u2) (jI d2) S2 H locs ls (by first | with_reducible assumption | omega) (by first | with_reducible assumption | omega) (by first | exact hab | (have h9 := hd1 (by first | with_reducible assumption | omega); omega)) hP hD hS (lv_sub hl [0, 1, 2, 4, 5, 6] rfl)
                      · have c_13 : ((e9 : Nat) : Int) < ((eO (kd f).toInt (nN (mn f)) : Nat) : Int) := zc_nle (nI_toInt b9_15) (nI_toInt b9_14) c_13
                        have hi9 : e9 < nN (mn f) := (by omega)
                        have hnx := nxt_lt (n := nN (mn f)) (i := e9) (by omega)
                        refine lv_aload_n hx hb dX11_far_89 rfl (lv_at hl 4 rfl) ?_
                        refine lv_iload_n hx hb dX11_far_90 rfl (lv_at hl 5 rfl) ?_
                        refine lv_iload hx hb dX11_far_91 (lv_at hl 0 rfl) ?_
                        refine lv_iconst (v := 0) hx hb dX11_far_93 rfl ?_
                        obtain ⟨hPc, hDc, hFc⟩ := zc_sub (wc := [(om k0 a I0 (vp_updL (vp_updL J0 48 (jI u2)) 49 (jI d2))), (oa (a 11) cI 201 mn), (oa (a 12) cI 8040 cx), (oa (a 13) cI 8040 cy), (oa (a 32) cI 8 S2)]) hP hD hS hA [0, 4, 5, 6, 7] rfl rfl
                        refine zcall (st1 := []) (va_runV (As := [.int (nI f), .int (nI e9), .int 0]) (rest := []) ⟨hx, hb, hml, hown, hts⟩ (k_M_edge l dC dI cI cZ cF H.size k0 a I0 (vp_updL (vp_updL J0 48 (jI u2)) 49 (jI d2)) f (nN (mn f)) e9 0 mn cx cy S2 (by first | with_reducible assumption | omega) (hm_ff) (hn_ff) (by first | with_reducible assumption | omega) (by first | with_reducible assumption | omega)) (csV_167 hts rfl rfl ⟨Nat.le_of_ble_eq_true rfl, Nat.le_of_ble_eq_true rfl⟩) (zPV2 (q0 := 0) (ci := 9) hPc hDc hK hXN rfl rfl) rfl rfl hl.1 rfl (lv_room (Nat.le_of_ble_eq_true rfl)) dX11_far_94 ⟨Nat.le_of_ble_eq_true rfl, Nat.le_of_ble_eq_true rfl⟩) hS hFc hFc rfl (fun t H locs ht hB hk1 hS => ?_)
                        obtain ⟨S3, t0, t1, t2, t3, tr, hP1, hD1⟩ := hB
                        rw [ht] at hP1
                        obtain ⟨hP, hD⟩ := zk (W2 := [(om k0 a I0 (vp_updL (vp_updL J0 48 (jI u2)) 49 (jI d2))), (oa (a 5) cI 201 st), (oa (a 6) cZ 201 tn), (oa (a 1) cI 201 kd), (oa (a 11) cI 201 mn), (oa (a 12) cI 8040 cx), (oa (a 13) cI 8040 cy), (oa (a 32) cI 8 S3), (oa (a 22) cI (64 * cl) la), (oa (a 23) cI (64 * cl) lb), (oa (a 24) cI (64 * cl) lc), (oa (a 25) cI (64 * cl) ld)]) hP hD [0, 4, 5, 6, 7] [1, 2, 3, 8, 9, 10, 11] [1, 2, 3, 8, 9, 10, 11] [0, 4, 5, 6, 7] [7, 0, 1, 2, 8, 9, 10, 11, 3, 4, 5, 6] 12 rfl rfl rfl rfl rfl rfl rfl rfl rfl hk1 hFc hP1 hD1
                        clear hk1 hPc hDc hFc hP1 hD1 ht
                        have v0 : S3 0 = cF40 cx f e9 := t0
                        have v1 : S3 1 = cF40 cy f e9 := t1
                        have v2 : S3 2 = cF40 cx f (nxt (nN (mn f)) e9) := t2
                        have v3 : S3 3 = cF40 cy f (nxt (nN (mn f)) e9) := t3
                        have hs3 : ∀ k, 0 ≤ k → k < 0 + 4 → pl (S3 k) := fun k _ hk => (by rcases (show k = 0 ∨ k = 1 ∨ k = 2 ∨ k = 3 by omega) with h | h | h | h <;> rw [h]; (rw [v0]; exact (hp_ff e9 hi9).1); (rw [v1]; exact (hp_ff e9 hi9).2); (rw [v2]; exact (hp_ff _ hnx).1); (rw [v3]; exact (hp_ff _ hnx).2))
                        refine lv_aload_n hx hb dX11_far_97 rfl (lv_at hl 4 rfl) ?_
                        refine lv_aload_n hx hb dX11_far_98 rfl (lv_at hl 4 rfl) ?_
                        refine va_get (D := (dC, dI)) (ci := 9) (v := .ref (a 32)) (C := RX11) (T := TX11) (N := 55) hx hb hts inX11 hown hK hP 0 rfl rfl 32 (Nat.le_of_ble_eq_true rfl) (hts _ mw_1191) (fun _ h9 => h9) rfl dX11_far_99 ?_
                        refine lv_aload_n hx hb dX11_far_102 rfl (lv_at hl 4 rfl) ?_
                        refine va_get (D := (dC, dI)) (ci := 9) (v := .ref (a 23)) (C := RX11) (T := TX11) (N := 55) hx hb hts inX11 hown hK hP 0 rfl rfl 23 (Nat.le_of_ble_eq_true rfl) (hts _ mw_1182) (fun _ h9 => h9) rfl dX11_far_103 ?_
                        refine lv_iload hx hb dX11_far_106 (lv_at hl 1 rfl) ?_
                        refine z_iald hx hb hK hP 9 0 rfl rfl (e := j9) rfl b9_8 b9_9 dX11_far_108 ?_
                        refine lv_aload_n hx hb dX11_far_109 rfl (lv_at hl 4 rfl) ?_
                        refine va_get (D := (dC, dI)) (ci := 9) (v := .ref (a 24)) (C := RX11) (T := TX11) (N := 55) hx hb hts inX11 hown hK hP 0 rfl rfl 24 (Nat.le_of_ble_eq_true rfl) (hts _ mw_1183) (fun _ h9 => h9) rfl dX11_far_110 ?_
                        refine lv_iload hx hb dX11_far_113 (lv_at hl 1 rfl) ?_
                        refine z_iald hx hb hK hP 10 0 rfl rfl (e := j9) rfl b9_8 b9_9 dX11_far_115 ?_
                        refine lv_iconst (v := 0) hx hb dX11_far_116 rfl ?_
                        obtain ⟨hPc, hDc, hFc⟩ := zc_sub (wc := [(om k0 a I0 (vp_updL (vp_updL J0 48 (jI u2)) 49 (jI d2))), (oa (a 32) cI 8 S3)]) hP hD hS hA [0, 7] rfl rfl
                        refine zcall (st1 := []) (va_runV (As := [.ref (a 32), .int (lb j9), .int (lc j9), .int 0]) (rest := []) ⟨hx, hb, hml, hown, hts⟩ (k_M_nearer_q l dC dI cI cZ cF H.size k0 a I0 (vp_updL (vp_updL J0 48 (jI u2)) 49 (jI d2)) 0 (lb j9) (lc j9) u2 d2 S3 (by first | with_reducible assumption | omega) (hs3) ((hpl j9 (by first | with_reducible assumption | omega)).1) ((hpl j9 (by first | with_reducible assumption | omega)).2) (hud2.1) (hud2.2)) (csV_225 hts rfl rfl ⟨Nat.le_of_ble_eq_true rfl, Nat.le_of_ble_eq_true rfl⟩) (zPV2 (q0 := 0) (ci := 9) hPc hDc hK hXN rfl rfl) rfl rfl hl.1 rfl (lv_room (Nat.le_of_ble_eq_true rfl)) dX11_far_117 ⟨Nat.le_of_ble_eq_true rfl, Nat.le_of_ble_eq_true rfl⟩) hS hFc hFc rfl (fun t H locs ht hB hk1 hS => ?_)
                        obtain ⟨zu1, zd1, hnd1, hP1, hD1⟩ := hB
                        rw [ht] at hP1
                        obtain ⟨hP, hD⟩ := zk (W2 := [(om k0 a I0 (vp_updL (vp_updL J0 48 (jI zu1)) 49 (jI zd1))), (oa (a 5) cI 201 st), (oa (a 6) cZ 201 tn), (oa (a 1) cI 201 kd), (oa (a 11) cI 201 mn), (oa (a 12) cI 8040 cx), (oa (a 13) cI 8040 cy), (oa (a 32) cI 8 S3), (oa (a 22) cI (64 * cl) la), (oa (a 23) cI (64 * cl) lb), (oa (a 24) cI (64 * cl) lc), (oa (a 25) cI (64 * cl) ld)]) hP hD [0, 7] [1, 2, 3, 4, 5, 6, 8, 9, 10, 11] [1, 2, 3, 4, 5, 6, 8, 9, 10, 11] [0, 7] [10, 0, 1, 2, 3, 4, 5, 11, 6, 7, 8, 9] 12 rfl rfl rfl rfl rfl rfl rfl rfl rfl hk1 hFc hP1 hD1
                        clear hk1 hPc hDc hFc hP1 hD1 ht
                        have hx1 : ndP u2 d2 (nrU (S3 0).toInt (S3 1).toInt (S3 2).toInt (S3 3).toInt (lb j9).toInt (lc j9).toInt) (nrD (S3 0).toInt (S3 1).toInt (S3 2).toInt (S3 3).toInt (lb j9).toInt (lc j9).toInt) zu1 zd1 := hnd1
                        have hUb9 := nrU_b (hs3 0 (by omega) (by omega)) (hs3 1 (by omega) (by omega)) (hs3 2 (by omega) (by omega)) (hs3 3 (by omega) (by omega)) (hpl j9 (by omega)).1 (hpl j9 (by omega)).2
                        have hb1 := ndP_b hud2.1 hud2.2 hUb9 hx1
                        have hz1 : 1 ≤ zd1 := (by unfold ndP at hx1; rcases hx1 with h9 | h9 <;> omega)
                        refine lv_iinc (v := nI (e9 + 1)) (lv' := [(8, .int (nI (e9 + 1))), (7, .int (nI j9)), (5, .long (jI ub)), (3, .long (jI ua)), (0, .ref k0), (1, .int (nI f)), (2, .int w)]) hx hb dX11_far_120 hl (k := 0) rfl (nI_add e9 1) (Nat.le_of_ble_eq_true rfl) rfl (fun ls hl => ?_)
                        refine lv_goto (tgt := 79) hx hb dX11_far_123 rfl ?_
                        exact ih_79 (e9 + 1) zu1 zd1 S3 H locs ls (by first | with_reducible assumption | omega) (by first | with_reducible assumption | omega) (hb1) (fun _ => hz1) hP hD hS (lv_sub hl [0, 1, 2, 3, 4, 5, 6] rfl)
                  exact hl_79 _ 0 0 0 S1 H locs ls (Nat.lt_succ_self _) (by first | with_reducible assumption | omega) (by first | with_reducible assumption | omega) (by first | with_reducible assumption | omega) hP hD hS (lv_sub hl [0, 1, 2, 3, 4, 5, 6] rfl)
                · have c_12 : (I0 19).toInt < (ld j9).toInt := zc_nle rfl rfl c_12
                  refine lv_goto (tgt := 155) hx hb dX11_far_63 rfl ?_
                  refine lv_iinc (v := nI (j9 + 1)) (lv' := [(7, .int (nI (j9 + 1))), (5, .long (jI ub)), (3, .long (jI ua)), (0, .ref k0), (1, .int (nI f)), (2, .int w)]) hx hb dX11_far_155 hl (k := 0) rfl (nI_add j9 1) (Nat.le_of_ble_eq_true rfl) rfl (fun ls hl => ?_)
                  refine lv_goto (tgt := 29) hx hb dX11_far_158 rfl ?_
                  exact ih_29 (j9 + 1) ua ub u9 d9 S1 H locs ls (by first | with_reducible assumption | omega) (by first | with_reducible assumption | omega) (by first | exact hab | (have h9 := hd1 (by first | with_reducible assumption | omega); omega)) hP hD hS (lv_sub hl [0, 1, 2, 3, 4, 5] rfl)
        exact hl_29 _ 0 0 1 (J0 48) (J0 49) S0 H locs ls (Nat.lt_succ_self _) (by first | with_reducible assumption | omega) (by first | with_reducible assumption | omega) hP hD hS (lv_sub hl [0, 1, 2, 3, 4, 5] rfl)
      · have c_3 : 1 < w.toInt := zc_nle rfl rfl c_3
        exfalso; omega
end
section
set_option maxHeartbeats 4000000 in
set_option maxRecDepth 100000 in
theorem k_M_told_a (l : Launch) (dC : Nat → ClassId) (dI : Nat → Nat → Nat) (cI cZ cF : ClassId) (sz : Nat) (k0 : Nat) (a : Nat → Nat) (I0 : Nat → Int32) (J0 : Nat → Int64) (f : Nat) (ft : Nat) (w : Int32) (kd : Nat → Int32) (rk : Nat → Int32) (wd : Nat → Int32) (tw : Nat → Int32) (mn : Nat → Int32) (st : Nat → Int32) (tn : Nat → Int32) (gb : Nat → Int32) (pa : Nat → Int32) (pb : Nat → Int32) (it : Nat → Int32) (hft : I0 0 = nI ft) (h200 : ft ≤ 200) (hf_t : f < ft) : Met l yX11_told (.code yX11_told cX11_told 3 (some .int) :: ws0) ({ frames := 1, cells := 0, slots := 0, locals := 21 } : Room) (va_Pc [.ref k0, .int (nI f), .int w] (zPre (dC, dI) classes (zTy cI cZ cF) [(om k0 a I0 J0), (oa (a 1) cI 201 kd), (oa (a 2) cI 201 rk), (oa (a 3) cI 201 wd), (oa (a 4) cI 201 tw), (oa (a 11) cI 201 mn), (oa (a 5) cI 201 st), (oa (a 6) cZ 201 tn), (oa (a 7) cI 201 gb), (oa (a 8) cI 201 pa), (oa (a 9) cI 201 pb), (oa (a 10) cI 201 it)] sz zXN)) (zQe (fun v9 t => ∃ (b9 : Int32), v9 = (some (.int b9)) ∧ va_P (dC, dI) classes [(om k0 a I0 J0), (oa (a 1) cI 201 kd), (oa (a 2) cI 201 rk), (oa (a 3) cI 201 wd), (oa (a 4) cI 201 tw), (oa (a 11) cI 201 mn), (oa (a 5) cI 201 st), (oa (a 6) cZ 201 tn), (oa (a 7) cI 201 gb), (oa (a 8) cI 201 pa), (oa (a 9) cI 201 pb), (oa (a 10) cI 201 it)] t.heap ∧ va_D (va_A [(om k0 a I0 J0), (oa (a 1) cI 201 kd), (oa (a 2) cI 201 rk), (oa (a 3) cI 201 wd), (oa (a 4) cI 201 tw), (oa (a 11) cI 201 mn), (oa (a 5) cI 201 st), (oa (a 6) cZ 201 tn), (oa (a 7) cI 201 gb), (oa (a 8) cI 201 pa), (oa (a 9) cI 201 pb), (oa (a 10) cI 201 it)] sz) [(om k0 a I0 J0), (oa (a 1) cI 201 kd), (oa (a 2) cI 201 rk), (oa (a 3) cI 201 wd), (oa (a 4) cI 201 tw), (oa (a 11) cI 201 mn), (oa (a 5) cI 201 st), (oa (a 6) cZ 201 tn), (oa (a 7) cI 201 gb), (oa (a 8) cI 201 pa), (oa (a 9) cI 201 pb), (oa (a 10) cI 201 it)]) (va_A [(om k0 a I0 J0), (oa (a 1) cI 201 kd), (oa (a 2) cI 201 rk), (oa (a 3) cI 201 wd), (oa (a 4) cI 201 tw), (oa (a 11) cI 201 mn), (oa (a 5) cI 201 st), (oa (a 6) cZ 201 tn), (oa (a 7) cI 201 gb), (oa (a 8) cI 201 pa), (oa (a 9) cI 201 pb), (oa (a 10) cI 201 it)] sz)) 0 0 (va_A [(om k0 a I0 J0), (oa (a 1) cI 201 kd), (oa (a 2) cI 201 rk), (oa (a 3) cI 201 wd), (oa (a 4) cI 201 tw), (oa (a 11) cI 201 mn), (oa (a 5) cI 201 st), (oa (a 6) cZ 201 tn), (oa (a 7) cI 201 gb), (oa (a 8) cI 201 pa), (oa (a 9) cI 201 pb), (oa (a 10) cI 201 it)] sz) := by
  refine Met.ofW (cc := cX11_told) (maxL := 3) (ret := (some .int)) rfl rfl ?_
  intro p e s m args below meth c s₁ B hml hv
  obtain ⟨rfl, hsz, hP, hK, hD0, hXN⟩ := hv
  have hx := B.exec
  have hb := B.bytes
  have hr := B.returns
  have hts0 := atoms_spec (ws := .code yX11_told cX11_told 3 (some .int) :: ws0) B.pre
  have hts : ∀ w9 ∈ ws0, w9.before ([.ref k0, .int (nI f), .int w] : List Value).toArray s = true := fun w9 h => hts0 w9 (List.mem_cons_of_mem _ h)
  have hown : s.vm.findClass "ScaleShopModel" = some m.cls := findClass_of_methodNamed B.named
  have hlocks := B.notSynchronized
  subst hsz
  have hD := hD0.self (sz := s.heap.size)
  clear hD0
  generalize hAe : va_A [(om k0 a I0 J0), (oa (a 1) cI 201 kd), (oa (a 2) cI 201 rk), (oa (a 3) cI 201 wd), (oa (a 4) cI 201 tw), (oa (a 11) cI 201 mn), (oa (a 5) cI 201 st), (oa (a 6) cZ 201 tn), (oa (a 7) cI 201 gb), (oa (a 8) cI 201 pa), (oa (a 9) cI 201 pb), (oa (a 10) cI 201 it)] s.heap.size = A at hD ⊢
  have hA : ∀ q : Nat, s.heap.size ≤ q → A q := fun q h => by rw [← hAe]; exact Or.inr h
  clear hAe
  have hS : va_S A s.heap s.heap [] := va_S.rf
  have hP : va_P (dC, dI) classes [(om k0 a I0 J0), (oa (a 1) cI 201 kd), (oa (a 2) cI 201 rk), (oa (a 3) cI 201 wd), (oa (a 4) cI 201 tw), (oa (a 11) cI 201 mn), (oa (a 5) cI 201 st), (oa (a 6) cZ 201 tn), (oa (a 7) cI 201 gb), (oa (a 8) cI 201 pa), (oa (a 9) cI 201 pb), (oa (a 10) cI 201 it)] s.heap := hP
  obtain ⟨Q9, hQ9⟩ : ∃ Q9 : State → Prop, Q9 = MQ below (zQe (fun v9 t => ∃ (b9 : Int32), v9 = (some (.int b9)) ∧ va_P (dC, dI) classes [(om k0 a I0 J0), (oa (a 1) cI 201 kd), (oa (a 2) cI 201 rk), (oa (a 3) cI 201 wd), (oa (a 4) cI 201 tw), (oa (a 11) cI 201 mn), (oa (a 5) cI 201 st), (oa (a 6) cZ 201 tn), (oa (a 7) cI 201 gb), (oa (a 8) cI 201 pa), (oa (a 9) cI 201 pb), (oa (a 10) cI 201 it)] t.heap ∧ va_D A [(om k0 a I0 J0), (oa (a 1) cI 201 kd), (oa (a 2) cI 201 rk), (oa (a 3) cI 201 wd), (oa (a 4) cI 201 tw), (oa (a 11) cI 201 mn), (oa (a 5) cI 201 st), (oa (a 6) cZ 201 tn), (oa (a 7) cI 201 gb), (oa (a 8) cI 201 pa), (oa (a 9) cI 201 pb), (oa (a 10) cI 201 it)]) A) ([.ref k0, .int (nI f), .int w] : List Value).toArray s 0 0 A := ⟨_, rfl⟩
  rw [← hQ9]
  have hl := lv_entry ([.ref k0, .int (nI f), .int w]) (n := 3) (Nat.le_of_ble_eq_true rfl)
  rw [lg_entry_eq]
  generalize (lg_sl ([.ref k0, .int (nI f), .int w]) ++ List.replicate (3 - (lg_sl ([.ref k0, .int (nI f), .int w])).length) Slot.unset).toArray = ls at hl ⊢
  have hl : lv_has ls 3 [(0, .ref k0), (1, .int (nI f)), (2, .int w)] := hl
  refine lv_aload_n hx hb dX11_told_0 rfl (lv_at hl 0 rfl) ?_
  refine lv_iload_n hx hb dX11_told_1 rfl (lv_at hl 1 rfl) ?_
  obtain ⟨hPc, hDc, hFc⟩ := zc_sub (wc := [(om k0 a I0 J0)]) hP hD hS hA [0] rfl rfl
  refine zcall (st1 := [.int (pI (f < ft))]) (va_runV (As := [.int (nI f)]) (rest := []) ⟨hx, hb, hml, hown, hts⟩ (k_M_isFeature_n l dC dI cI cZ cF s.heap.size k0 a I0 J0 f ft (by first | with_reducible assumption | assumption) (by first | with_reducible assumption | omega) (by first | with_reducible assumption | omega)) (csV_178 hts rfl rfl ⟨Nat.le_of_ble_eq_true rfl, Nat.le_of_ble_eq_true rfl⟩) (zPV2 (q0 := 0) (ci := 9) hPc hDc hK hXN rfl rfl) rfl rfl hl.1 rfl (lv_room (Nat.le_of_ble_eq_true rfl)) dX11_told_2 ⟨Nat.le_of_ble_eq_true rfl, Nat.le_of_ble_eq_true rfl⟩) hS hFc hFc rfl (fun t H locs ht hB hk1 hS => ?_)
  obtain ⟨hP1, hD1⟩ := hB
  rw [ht] at hP1
  obtain ⟨hP, hD⟩ := zk (W2 := [(om k0 a I0 J0), (oa (a 1) cI 201 kd), (oa (a 2) cI 201 rk), (oa (a 3) cI 201 wd), (oa (a 4) cI 201 tw), (oa (a 11) cI 201 mn), (oa (a 5) cI 201 st), (oa (a 6) cZ 201 tn), (oa (a 7) cI 201 gb), (oa (a 8) cI 201 pa), (oa (a 9) cI 201 pb), (oa (a 10) cI 201 it)]) hP hD [0] [1, 2, 3, 4, 5, 6, 7, 8, 9, 10, 11] [1, 2, 3, 4, 5, 6, 7, 8, 9, 10, 11] [0] [11, 0, 1, 2, 3, 4, 5, 6, 7, 8, 9, 10] 12 rfl rfl rfl rfl rfl rfl rfl rfl rfl hk1 hFc hP1 hD1
  clear hk1 hPc hDc hFc hP1 hD1 ht
  refine lv_if_ne (tgt := 10) hx hb dX11_told_5 rfl (fun c_1 => ?_) (fun c_1 => ?_)
  · have c_1 : f < ft := zp_1 c_1
    refine lv_iload_n hx hb dX11_told_10 rfl (lv_at hl 2 rfl) ?_
    rcases zz_sw (lo := 0) (hi := 10) rfl with c_2 | c_2
    · refine lv_tableOut (tgt := 166) hx hb dX11_told_11 c_2.1 (by decide) ?_
      refine lv_iconst (v := (-1)) hx hb dX11_told_166 rfl ?_
      obtain ⟨hP9, hD9⟩ := zq_sub (wc := [(om k0 a I0 J0), (oa (a 1) cI 201 kd), (oa (a 2) cI 201 rk), (oa (a 3) cI 201 wd), (oa (a 4) cI 201 tw), (oa (a 11) cI 201 mn), (oa (a 5) cI 201 st), (oa (a 6) cZ 201 tn), (oa (a 7) cI 201 gb), (oa (a 8) cI 201 pa), (oa (a 9) cI 201 pb), (oa (a 10) cI 201 it)]) hP hD [0, 1, 2, 3, 4, 5, 6, 7, 8, 9, 10, 11] rfl rfl
      rw [hQ9]
      exact W.iret (v := (-1)) hx hb hr (fun t ht hW => ⟨⟨_, rfl, (-1), rfl, by rw [ht]; exact hP9, hD9⟩, hS.F ht⟩) hS.2.2 dX11_told_167
    · by_cases c_3 : w.toInt = 0
      · refine lv_tableIn (tgt := 68) (off := 57) hx hb dX11_told_11 c_2.2.1 c_2.2.2 (by rw [show (w).toInt = 0 from (rfl).trans c_3]; rfl) (by decide) ?_
        refine lv_aload_n hx hb dX11_told_68 rfl (lv_at hl 0 rfl) ?_
        refine va_get (D := (dC, dI)) (ci := 9) (v := .ref (a 1)) (C := RX11) (T := TX11) (N := 55) hx hb hts inX11 hown hK hP 0 rfl rfl 1 (Nat.le_of_ble_eq_true rfl) (hts _ mw_1160) (fun _ h9 => h9) rfl dX11_told_69 ?_
        refine lv_iload_n hx hb dX11_told_72 rfl (lv_at hl 1 rfl) ?_
        have b9_4 : f < 201 := by omega
        refine z_iald hx hb hK hP 1 0 rfl rfl (e := f) rfl b9_4 (Nat.le_of_ble_eq_true rfl) dX11_told_73 ?_
        obtain ⟨hP9, hD9⟩ := zq_sub (wc := [(om k0 a I0 J0), (oa (a 1) cI 201 kd), (oa (a 2) cI 201 rk), (oa (a 3) cI 201 wd), (oa (a 4) cI 201 tw), (oa (a 11) cI 201 mn), (oa (a 5) cI 201 st), (oa (a 6) cZ 201 tn), (oa (a 7) cI 201 gb), (oa (a 8) cI 201 pa), (oa (a 9) cI 201 pb), (oa (a 10) cI 201 it)]) hP hD [0, 1, 2, 3, 4, 5, 6, 7, 8, 9, 10, 11] rfl rfl
        rw [hQ9]
        exact W.iret (v := kd f) hx hb hr (fun t ht hW => ⟨⟨_, rfl, (kd f), rfl, by rw [ht]; exact hP9, hD9⟩, hS.F ht⟩) hS.2.2 dX11_told_74
      by_cases c_5 : w.toInt = 1
      · refine lv_tableIn (tgt := 75) (off := 64) hx hb dX11_told_11 c_2.2.1 c_2.2.2 (by rw [show (w).toInt = 1 from (rfl).trans c_5]; rfl) (by decide) ?_
        refine lv_aload_n hx hb dX11_told_75 rfl (lv_at hl 0 rfl) ?_
        refine va_get (D := (dC, dI)) (ci := 9) (v := .ref (a 2)) (C := RX11) (T := TX11) (N := 55) hx hb hts inX11 hown hK hP 0 rfl rfl 2 (Nat.le_of_ble_eq_true rfl) (hts _ mw_1161) (fun _ h9 => h9) rfl dX11_told_76 ?_
        refine lv_iload_n hx hb dX11_told_79 rfl (lv_at hl 1 rfl) ?_
        have b9_6 : f < 201 := by omega
        refine z_iald hx hb hK hP 2 0 rfl rfl (e := f) rfl b9_6 (Nat.le_of_ble_eq_true rfl) dX11_told_80 ?_
        obtain ⟨hP9, hD9⟩ := zq_sub (wc := [(om k0 a I0 J0), (oa (a 1) cI 201 kd), (oa (a 2) cI 201 rk), (oa (a 3) cI 201 wd), (oa (a 4) cI 201 tw), (oa (a 11) cI 201 mn), (oa (a 5) cI 201 st), (oa (a 6) cZ 201 tn), (oa (a 7) cI 201 gb), (oa (a 8) cI 201 pa), (oa (a 9) cI 201 pb), (oa (a 10) cI 201 it)]) hP hD [0, 1, 2, 3, 4, 5, 6, 7, 8, 9, 10, 11] rfl rfl
        rw [hQ9]
        exact W.iret (v := rk f) hx hb hr (fun t ht hW => ⟨⟨_, rfl, (rk f), rfl, by rw [ht]; exact hP9, hD9⟩, hS.F ht⟩) hS.2.2 dX11_told_81
      by_cases c_7 : w.toInt = 2
      · refine lv_tableIn (tgt := 82) (off := 71) hx hb dX11_told_11 c_2.2.1 c_2.2.2 (by rw [show (w).toInt = 2 from (rfl).trans c_7]; rfl) (by decide) ?_
        refine lv_aload_n hx hb dX11_told_82 rfl (lv_at hl 0 rfl) ?_
        refine va_get (D := (dC, dI)) (ci := 9) (v := .ref (a 3)) (C := RX11) (T := TX11) (N := 55) hx hb hts inX11 hown hK hP 0 rfl rfl 3 (Nat.le_of_ble_eq_true rfl) (hts _ mw_1162) (fun _ h9 => h9) rfl dX11_told_83 ?_
        refine lv_iload_n hx hb dX11_told_86 rfl (lv_at hl 1 rfl) ?_
        have b9_8 : f < 201 := by omega
        refine z_iald hx hb hK hP 3 0 rfl rfl (e := f) rfl b9_8 (Nat.le_of_ble_eq_true rfl) dX11_told_87 ?_
        obtain ⟨hP9, hD9⟩ := zq_sub (wc := [(om k0 a I0 J0), (oa (a 1) cI 201 kd), (oa (a 2) cI 201 rk), (oa (a 3) cI 201 wd), (oa (a 4) cI 201 tw), (oa (a 11) cI 201 mn), (oa (a 5) cI 201 st), (oa (a 6) cZ 201 tn), (oa (a 7) cI 201 gb), (oa (a 8) cI 201 pa), (oa (a 9) cI 201 pb), (oa (a 10) cI 201 it)]) hP hD [0, 1, 2, 3, 4, 5, 6, 7, 8, 9, 10, 11] rfl rfl
        rw [hQ9]
        exact W.iret (v := wd f) hx hb hr (fun t ht hW => ⟨⟨_, rfl, (wd f), rfl, by rw [ht]; exact hP9, hD9⟩, hS.F ht⟩) hS.2.2 dX11_told_88
      by_cases c_9 : w.toInt = 3
      · refine lv_tableIn (tgt := 89) (off := 78) hx hb dX11_told_11 c_2.2.1 c_2.2.2 (by rw [show (w).toInt = 3 from (rfl).trans c_9]; rfl) (by decide) ?_
        refine lv_aload_n hx hb dX11_told_89 rfl (lv_at hl 0 rfl) ?_
        refine va_get (D := (dC, dI)) (ci := 9) (v := .ref (a 4)) (C := RX11) (T := TX11) (N := 55) hx hb hts inX11 hown hK hP 0 rfl rfl 4 (Nat.le_of_ble_eq_true rfl) (hts _ mw_1163) (fun _ h9 => h9) rfl dX11_told_90 ?_
        refine lv_iload_n hx hb dX11_told_93 rfl (lv_at hl 1 rfl) ?_
        have b9_10 : f < 201 := by omega
        refine z_iald hx hb hK hP 4 0 rfl rfl (e := f) rfl b9_10 (Nat.le_of_ble_eq_true rfl) dX11_told_94 ?_
        obtain ⟨hP9, hD9⟩ := zq_sub (wc := [(om k0 a I0 J0), (oa (a 1) cI 201 kd), (oa (a 2) cI 201 rk), (oa (a 3) cI 201 wd), (oa (a 4) cI 201 tw), (oa (a 11) cI 201 mn), (oa (a 5) cI 201 st), (oa (a 6) cZ 201 tn), (oa (a 7) cI 201 gb), (oa (a 8) cI 201 pa), (oa (a 9) cI 201 pb), (oa (a 10) cI 201 it)]) hP hD [0, 1, 2, 3, 4, 5, 6, 7, 8, 9, 10, 11] rfl rfl
        rw [hQ9]
        exact W.iret (v := tw f) hx hb hr (fun t ht hW => ⟨⟨_, rfl, (tw f), rfl, by rw [ht]; exact hP9, hD9⟩, hS.F ht⟩) hS.2.2 dX11_told_95
      by_cases c_11 : w.toInt = 4
      · refine lv_tableIn (tgt := 96) (off := 85) hx hb dX11_told_11 c_2.2.1 c_2.2.2 (by rw [show (w).toInt = 4 from (rfl).trans c_11]; rfl) (by decide) ?_
        refine lv_aload_n hx hb dX11_told_96 rfl (lv_at hl 0 rfl) ?_
        refine va_get (D := (dC, dI)) (ci := 9) (v := .ref (a 6)) (C := RX11) (T := TX11) (N := 55) hx hb hts inX11 hown hK hP 0 rfl rfl 6 (Nat.le_of_ble_eq_true rfl) (hts _ mw_1165) (fun _ h9 => h9) rfl dX11_told_97 ?_
        refine lv_iload_n hx hb dX11_told_100 rfl (lv_at hl 1 rfl) ?_
        have b9_12 : f < 201 := by omega
        refine z_zald hx hb hK hP 7 1 rfl rfl (e := f) rfl b9_12 (Nat.le_of_ble_eq_true rfl) dX11_told_101 ?_
        refine lv_if_eq (tgt := 109) hx hb dX11_told_102 rfl (fun c_13 => ?_) (fun c_13 => ?_)
        · have c_13 : (tn f).toInt = 0 := zc_eq rfl rfl c_13
          refine lv_aload_n hx hb dX11_told_109 rfl (lv_at hl 0 rfl) ?_
          refine va_get (D := (dC, dI)) (ci := 9) (v := .ref (a 11)) (C := RX11) (T := TX11) (N := 55) hx hb hts inX11 hown hK hP 0 rfl rfl 11 (Nat.le_of_ble_eq_true rfl) (hts _ mw_1170) (fun _ h9 => h9) rfl dX11_told_110 ?_
          refine lv_iload_n hx hb dX11_told_113 rfl (lv_at hl 1 rfl) ?_
          refine z_iald hx hb hK hP 5 0 rfl rfl (e := f) rfl b9_12 (Nat.le_of_ble_eq_true rfl) dX11_told_114 ?_
          obtain ⟨hP9, hD9⟩ := zq_sub (wc := [(om k0 a I0 J0), (oa (a 1) cI 201 kd), (oa (a 2) cI 201 rk), (oa (a 3) cI 201 wd), (oa (a 4) cI 201 tw), (oa (a 11) cI 201 mn), (oa (a 5) cI 201 st), (oa (a 6) cZ 201 tn), (oa (a 7) cI 201 gb), (oa (a 8) cI 201 pa), (oa (a 9) cI 201 pb), (oa (a 10) cI 201 it)]) hP hD [0, 1, 2, 3, 4, 5, 6, 7, 8, 9, 10, 11] rfl rfl
          rw [hQ9]
          exact W.iret (v := mn f) hx hb hr (fun t ht hW => ⟨⟨_, rfl, (mn f), rfl, by rw [ht]; exact hP9, hD9⟩, hS.F ht⟩) hS.2.2 dX11_told_115
        · have c_13 : ¬ (tn f).toInt = 0 := zc_ne rfl rfl c_13
          refine lv_iconst (v := 0) hx hb dX11_told_105 rfl ?_
          refine lv_goto (tgt := 115) hx hb dX11_told_106 rfl ?_
          obtain ⟨hP9, hD9⟩ := zq_sub (wc := [(om k0 a I0 J0), (oa (a 1) cI 201 kd), (oa (a 2) cI 201 rk), (oa (a 3) cI 201 wd), (oa (a 4) cI 201 tw), (oa (a 11) cI 201 mn), (oa (a 5) cI 201 st), (oa (a 6) cZ 201 tn), (oa (a 7) cI 201 gb), (oa (a 8) cI 201 pa), (oa (a 9) cI 201 pb), (oa (a 10) cI 201 it)]) hP hD [0, 1, 2, 3, 4, 5, 6, 7, 8, 9, 10, 11] rfl rfl
          rw [hQ9]
          exact W.iret (v := 0) hx hb hr (fun t ht hW => ⟨⟨_, rfl, 0, rfl, by rw [ht]; exact hP9, hD9⟩, hS.F ht⟩) hS.2.2 dX11_told_115
      by_cases c_14 : w.toInt = 5
      · refine lv_tableIn (tgt := 116) (off := 105) hx hb dX11_told_11 c_2.2.1 c_2.2.2 (by rw [show (w).toInt = 5 from (rfl).trans c_14]; rfl) (by decide) ?_
        refine lv_aload_n hx hb dX11_told_116 rfl (lv_at hl 0 rfl) ?_
        refine va_get (D := (dC, dI)) (ci := 9) (v := .ref (a 5)) (C := RX11) (T := TX11) (N := 55) hx hb hts inX11 hown hK hP 0 rfl rfl 5 (Nat.le_of_ble_eq_true rfl) (hts _ mw_1164) (fun _ h9 => h9) rfl dX11_told_117 ?_
        refine lv_iload_n hx hb dX11_told_120 rfl (lv_at hl 1 rfl) ?_
        have b9_15 : f < 201 := by omega
        refine z_iald hx hb hK hP 6 0 rfl rfl (e := f) rfl b9_15 (Nat.le_of_ble_eq_true rfl) dX11_told_121 ?_
        obtain ⟨hP9, hD9⟩ := zq_sub (wc := [(om k0 a I0 J0), (oa (a 1) cI 201 kd), (oa (a 2) cI 201 rk), (oa (a 3) cI 201 wd), (oa (a 4) cI 201 tw), (oa (a 11) cI 201 mn), (oa (a 5) cI 201 st), (oa (a 6) cZ 201 tn), (oa (a 7) cI 201 gb), (oa (a 8) cI 201 pa), (oa (a 9) cI 201 pb), (oa (a 10) cI 201 it)]) hP hD [0, 1, 2, 3, 4, 5, 6, 7, 8, 9, 10, 11] rfl rfl
        rw [hQ9]
        exact W.iret (v := st f) hx hb hr (fun t ht hW => ⟨⟨_, rfl, (st f), rfl, by rw [ht]; exact hP9, hD9⟩, hS.F ht⟩) hS.2.2 dX11_told_122
      by_cases c_16 : w.toInt = 6
      · refine lv_tableIn (tgt := 123) (off := 112) hx hb dX11_told_11 c_2.2.1 c_2.2.2 (by rw [show (w).toInt = 6 from (rfl).trans c_16]; rfl) (by decide) ?_
        refine lv_aload_n hx hb dX11_told_123 rfl (lv_at hl 0 rfl) ?_
        refine va_get (D := (dC, dI)) (ci := 9) (v := .ref (a 6)) (C := RX11) (T := TX11) (N := 55) hx hb hts inX11 hown hK hP 0 rfl rfl 6 (Nat.le_of_ble_eq_true rfl) (hts _ mw_1165) (fun _ h9 => h9) rfl dX11_told_124 ?_
        refine lv_iload_n hx hb dX11_told_127 rfl (lv_at hl 1 rfl) ?_
        have b9_17 : f < 201 := by omega
        refine z_zald hx hb hK hP 7 1 rfl rfl (e := f) rfl b9_17 (Nat.le_of_ble_eq_true rfl) dX11_told_128 ?_
        refine lv_if_eq (tgt := 136) hx hb dX11_told_129 rfl (fun c_18 => ?_) (fun c_18 => ?_)
        · have c_18 : (tn f).toInt = 0 := zc_eq rfl rfl c_18
          refine lv_iconst (v := 0) hx hb dX11_told_136 rfl ?_
          obtain ⟨hP9, hD9⟩ := zq_sub (wc := [(om k0 a I0 J0), (oa (a 1) cI 201 kd), (oa (a 2) cI 201 rk), (oa (a 3) cI 201 wd), (oa (a 4) cI 201 tw), (oa (a 11) cI 201 mn), (oa (a 5) cI 201 st), (oa (a 6) cZ 201 tn), (oa (a 7) cI 201 gb), (oa (a 8) cI 201 pa), (oa (a 9) cI 201 pb), (oa (a 10) cI 201 it)]) hP hD [0, 1, 2, 3, 4, 5, 6, 7, 8, 9, 10, 11] rfl rfl
          rw [hQ9]
          exact W.iret (v := 0) hx hb hr (fun t ht hW => ⟨⟨_, rfl, 0, rfl, by rw [ht]; exact hP9, hD9⟩, hS.F ht⟩) hS.2.2 dX11_told_137
        · have c_18 : ¬ (tn f).toInt = 0 := zc_ne rfl rfl c_18
          refine lv_iconst (v := 1) hx hb dX11_told_132 rfl ?_
          refine lv_goto (tgt := 137) hx hb dX11_told_133 rfl ?_
          obtain ⟨hP9, hD9⟩ := zq_sub (wc := [(om k0 a I0 J0), (oa (a 1) cI 201 kd), (oa (a 2) cI 201 rk), (oa (a 3) cI 201 wd), (oa (a 4) cI 201 tw), (oa (a 11) cI 201 mn), (oa (a 5) cI 201 st), (oa (a 6) cZ 201 tn), (oa (a 7) cI 201 gb), (oa (a 8) cI 201 pa), (oa (a 9) cI 201 pb), (oa (a 10) cI 201 it)]) hP hD [0, 1, 2, 3, 4, 5, 6, 7, 8, 9, 10, 11] rfl rfl
          rw [hQ9]
          exact W.iret (v := 1) hx hb hr (fun t ht hW => ⟨⟨_, rfl, 1, rfl, by rw [ht]; exact hP9, hD9⟩, hS.F ht⟩) hS.2.2 dX11_told_137
      by_cases c_19 : w.toInt = 7
      · refine lv_tableIn (tgt := 138) (off := 127) hx hb dX11_told_11 c_2.2.1 c_2.2.2 (by rw [show (w).toInt = 7 from (rfl).trans c_19]; rfl) (by decide) ?_
        refine lv_aload_n hx hb dX11_told_138 rfl (lv_at hl 0 rfl) ?_
        refine va_get (D := (dC, dI)) (ci := 9) (v := .ref (a 7)) (C := RX11) (T := TX11) (N := 55) hx hb hts inX11 hown hK hP 0 rfl rfl 7 (Nat.le_of_ble_eq_true rfl) (hts _ mw_1166) (fun _ h9 => h9) rfl dX11_told_139 ?_
        refine lv_iload_n hx hb dX11_told_142 rfl (lv_at hl 1 rfl) ?_
        have b9_20 : f < 201 := by omega
        refine z_iald hx hb hK hP 8 0 rfl rfl (e := f) rfl b9_20 (Nat.le_of_ble_eq_true rfl) dX11_told_143 ?_
        obtain ⟨hP9, hD9⟩ := zq_sub (wc := [(om k0 a I0 J0), (oa (a 1) cI 201 kd), (oa (a 2) cI 201 rk), (oa (a 3) cI 201 wd), (oa (a 4) cI 201 tw), (oa (a 11) cI 201 mn), (oa (a 5) cI 201 st), (oa (a 6) cZ 201 tn), (oa (a 7) cI 201 gb), (oa (a 8) cI 201 pa), (oa (a 9) cI 201 pb), (oa (a 10) cI 201 it)]) hP hD [0, 1, 2, 3, 4, 5, 6, 7, 8, 9, 10, 11] rfl rfl
        rw [hQ9]
        exact W.iret (v := gb f) hx hb hr (fun t ht hW => ⟨⟨_, rfl, (gb f), rfl, by rw [ht]; exact hP9, hD9⟩, hS.F ht⟩) hS.2.2 dX11_told_144
      by_cases c_21 : w.toInt = 8
      · refine lv_tableIn (tgt := 145) (off := 134) hx hb dX11_told_11 c_2.2.1 c_2.2.2 (by rw [show (w).toInt = 8 from (rfl).trans c_21]; rfl) (by decide) ?_
        refine lv_aload_n hx hb dX11_told_145 rfl (lv_at hl 0 rfl) ?_
        refine va_get (D := (dC, dI)) (ci := 9) (v := .ref (a 8)) (C := RX11) (T := TX11) (N := 55) hx hb hts inX11 hown hK hP 0 rfl rfl 8 (Nat.le_of_ble_eq_true rfl) (hts _ mw_1167) (fun _ h9 => h9) rfl dX11_told_146 ?_
        refine lv_iload_n hx hb dX11_told_149 rfl (lv_at hl 1 rfl) ?_
        have b9_22 : f < 201 := by omega
        refine z_iald hx hb hK hP 9 0 rfl rfl (e := f) rfl b9_22 (Nat.le_of_ble_eq_true rfl) dX11_told_150 ?_
        obtain ⟨hP9, hD9⟩ := zq_sub (wc := [(om k0 a I0 J0), (oa (a 1) cI 201 kd), (oa (a 2) cI 201 rk), (oa (a 3) cI 201 wd), (oa (a 4) cI 201 tw), (oa (a 11) cI 201 mn), (oa (a 5) cI 201 st), (oa (a 6) cZ 201 tn), (oa (a 7) cI 201 gb), (oa (a 8) cI 201 pa), (oa (a 9) cI 201 pb), (oa (a 10) cI 201 it)]) hP hD [0, 1, 2, 3, 4, 5, 6, 7, 8, 9, 10, 11] rfl rfl
        rw [hQ9]
        exact W.iret (v := pa f) hx hb hr (fun t ht hW => ⟨⟨_, rfl, (pa f), rfl, by rw [ht]; exact hP9, hD9⟩, hS.F ht⟩) hS.2.2 dX11_told_151
      by_cases c_23 : w.toInt = 9
      · refine lv_tableIn (tgt := 152) (off := 141) hx hb dX11_told_11 c_2.2.1 c_2.2.2 (by rw [show (w).toInt = 9 from (rfl).trans c_23]; rfl) (by decide) ?_
        refine lv_aload_n hx hb dX11_told_152 rfl (lv_at hl 0 rfl) ?_
        refine va_get (D := (dC, dI)) (ci := 9) (v := .ref (a 9)) (C := RX11) (T := TX11) (N := 55) hx hb hts inX11 hown hK hP 0 rfl rfl 9 (Nat.le_of_ble_eq_true rfl) (hts _ mw_1168) (fun _ h9 => h9) rfl dX11_told_153 ?_
        refine lv_iload_n hx hb dX11_told_156 rfl (lv_at hl 1 rfl) ?_
        have b9_24 : f < 201 := by omega
        refine z_iald hx hb hK hP 10 0 rfl rfl (e := f) rfl b9_24 (Nat.le_of_ble_eq_true rfl) dX11_told_157 ?_
        obtain ⟨hP9, hD9⟩ := zq_sub (wc := [(om k0 a I0 J0), (oa (a 1) cI 201 kd), (oa (a 2) cI 201 rk), (oa (a 3) cI 201 wd), (oa (a 4) cI 201 tw), (oa (a 11) cI 201 mn), (oa (a 5) cI 201 st), (oa (a 6) cZ 201 tn), (oa (a 7) cI 201 gb), (oa (a 8) cI 201 pa), (oa (a 9) cI 201 pb), (oa (a 10) cI 201 it)]) hP hD [0, 1, 2, 3, 4, 5, 6, 7, 8, 9, 10, 11] rfl rfl
        rw [hQ9]
        exact W.iret (v := pb f) hx hb hr (fun t ht hW => ⟨⟨_, rfl, (pb f), rfl, by rw [ht]; exact hP9, hD9⟩, hS.F ht⟩) hS.2.2 dX11_told_158
      by_cases c_25 : w.toInt = 10
      · refine lv_tableIn (tgt := 159) (off := 148) hx hb dX11_told_11 c_2.2.1 c_2.2.2 (by rw [show (w).toInt = 10 from (rfl).trans c_25]; rfl) (by decide) ?_
        refine lv_aload_n hx hb dX11_told_159 rfl (lv_at hl 0 rfl) ?_
        refine va_get (D := (dC, dI)) (ci := 9) (v := .ref (a 10)) (C := RX11) (T := TX11) (N := 55) hx hb hts inX11 hown hK hP 0 rfl rfl 10 (Nat.le_of_ble_eq_true rfl) (hts _ mw_1169) (fun _ h9 => h9) rfl dX11_told_160 ?_
        refine lv_iload_n hx hb dX11_told_163 rfl (lv_at hl 1 rfl) ?_
        have b9_26 : f < 201 := by omega
        refine z_iald hx hb hK hP 11 0 rfl rfl (e := f) rfl b9_26 (Nat.le_of_ble_eq_true rfl) dX11_told_164 ?_
        obtain ⟨hP9, hD9⟩ := zq_sub (wc := [(om k0 a I0 J0), (oa (a 1) cI 201 kd), (oa (a 2) cI 201 rk), (oa (a 3) cI 201 wd), (oa (a 4) cI 201 tw), (oa (a 11) cI 201 mn), (oa (a 5) cI 201 st), (oa (a 6) cZ 201 tn), (oa (a 7) cI 201 gb), (oa (a 8) cI 201 pa), (oa (a 9) cI 201 pb), (oa (a 10) cI 201 it)]) hP hD [0, 1, 2, 3, 4, 5, 6, 7, 8, 9, 10, 11] rfl rfl
        rw [hQ9]
        exact W.iret (v := it f) hx hb hr (fun t ht hW => ⟨⟨_, rfl, (it f), rfl, by rw [ht]; exact hP9, hD9⟩, hS.F ht⟩) hS.2.2 dX11_told_165
      exfalso; omega
  · have c_1 : ¬ (f < ft) := zp_0 c_1
    exfalso; omega
set_option maxHeartbeats 4000000 in
set_option maxRecDepth 100000 in
theorem k_M_step_a (l : Launch) (dC : Nat → ClassId) (dI : Nat → Nat → Nat) (cI cZ cF : ClassId) (sz : Nat) (k0 : Nat) (a : Nat → Nat) (I0 : Nat → Int32) (J0 : Nat → Int64) (i : Nat) (dn : Nat) (rd : Nat) (w : Int32) (wh : Nat → Int32) (of9 : Nat → Int32) (we : Nat → Int32) (hdn : I0 19 = nI dn) (hrd : I0 20 = nI rd) (hsum : dn + rd ≤ 512) (hi1 : 1 ≤ i ∧ i ≤ dn + rd) : Met l yX11_step (.code yX11_step cX11_step 3 (some .int) :: ws0) ({ frames := 0, cells := 0, slots := 0, locals := 0 } : Room) (va_Pc [.ref k0, .int (nI i), .int w] (zPre (dC, dI) classes (zTy cI cZ cF) [(om k0 a I0 J0), (oa (a 16) cI 514 wh), (oa (a 17) cI 514 of9), (oa (a 18) cI 514 we)] sz zXN)) (zQe (fun v9 t => ∃ (b9 : Int32), v9 = (some (.int b9)) ∧ va_P (dC, dI) classes [(om k0 a I0 J0), (oa (a 16) cI 514 wh), (oa (a 17) cI 514 of9), (oa (a 18) cI 514 we)] t.heap ∧ va_D (va_A [(om k0 a I0 J0), (oa (a 16) cI 514 wh), (oa (a 17) cI 514 of9), (oa (a 18) cI 514 we)] sz) [(om k0 a I0 J0), (oa (a 16) cI 514 wh), (oa (a 17) cI 514 of9), (oa (a 18) cI 514 we)]) (va_A [(om k0 a I0 J0), (oa (a 16) cI 514 wh), (oa (a 17) cI 514 of9), (oa (a 18) cI 514 we)] sz)) 0 0 (va_A [(om k0 a I0 J0), (oa (a 16) cI 514 wh), (oa (a 17) cI 514 of9), (oa (a 18) cI 514 we)] sz) := by
  refine Met.ofW (cc := cX11_step) (maxL := 3) (ret := (some .int)) rfl rfl ?_
  intro p e s m args below meth c s₁ B hml hv
  obtain ⟨rfl, hsz, hP, hK, hD0, hXN⟩ := hv
  have hx := B.exec
  have hb := B.bytes
  have hr := B.returns
  have hts0 := atoms_spec (ws := .code yX11_step cX11_step 3 (some .int) :: ws0) B.pre
  have hts : ∀ w9 ∈ ws0, w9.before ([.ref k0, .int (nI i), .int w] : List Value).toArray s = true := fun w9 h => hts0 w9 (List.mem_cons_of_mem _ h)
  have hown : s.vm.findClass "ScaleShopModel" = some m.cls := findClass_of_methodNamed B.named
  have hlocks := B.notSynchronized
  subst hsz
  have hD := hD0.self (sz := s.heap.size)
  clear hD0
  generalize hAe : va_A [(om k0 a I0 J0), (oa (a 16) cI 514 wh), (oa (a 17) cI 514 of9), (oa (a 18) cI 514 we)] s.heap.size = A at hD ⊢
  have hA : ∀ q : Nat, s.heap.size ≤ q → A q := fun q h => by rw [← hAe]; exact Or.inr h
  clear hAe
  have hS : va_S A s.heap s.heap [] := va_S.rf
  have hP : va_P (dC, dI) classes [(om k0 a I0 J0), (oa (a 16) cI 514 wh), (oa (a 17) cI 514 of9), (oa (a 18) cI 514 we)] s.heap := hP
  obtain ⟨Q9, hQ9⟩ : ∃ Q9 : State → Prop, Q9 = MQ below (zQe (fun v9 t => ∃ (b9 : Int32), v9 = (some (.int b9)) ∧ va_P (dC, dI) classes [(om k0 a I0 J0), (oa (a 16) cI 514 wh), (oa (a 17) cI 514 of9), (oa (a 18) cI 514 we)] t.heap ∧ va_D A [(om k0 a I0 J0), (oa (a 16) cI 514 wh), (oa (a 17) cI 514 of9), (oa (a 18) cI 514 we)]) A) ([.ref k0, .int (nI i), .int w] : List Value).toArray s 0 0 A := ⟨_, rfl⟩
  rw [← hQ9]
  have hl := lv_entry ([.ref k0, .int (nI i), .int w]) (n := 3) (Nat.le_of_ble_eq_true rfl)
  rw [lg_entry_eq]
  generalize (lg_sl ([.ref k0, .int (nI i), .int w]) ++ List.replicate (3 - (lg_sl ([.ref k0, .int (nI i), .int w])).length) Slot.unset).toArray = ls at hl ⊢
  have hl : lv_has ls 3 [(0, .ref k0), (1, .int (nI i)), (2, .int w)] := hl
  refine lv_iload_n hx hb dX11_step_0 rfl (lv_at hl 1 rfl) ?_
  refine lv_iconst (v := 1) hx hb dX11_step_1 rfl ?_
  have b9_2 : i < 2147483648 := by omega
  refine lv_icmp_lt (tgt := 18) hx hb dX11_step_2 rfl (fun c_1 => ?_) (fun c_1 => ?_)
  · have c_1 : ((i : Nat) : Int) < 1 := zc_lt (nI_toInt b9_2) rfl c_1
    exfalso; omega
  · have c_1 : 1 ≤ ((i : Nat) : Int) := zc_nlt (nI_toInt b9_2) rfl c_1
    refine lv_iload_n hx hb dX11_step_5 rfl (lv_at hl 1 rfl) ?_
    refine lv_aload_n hx hb dX11_step_6 rfl (lv_at hl 0 rfl) ?_
    refine va_get (D := (dC, dI)) (ci := 9) (v := .int (I0 19)) (C := RX11) (T := TX11) (N := 55) hx hb hts inX11 hown hK hP 0 rfl rfl 19 (Nat.le_of_ble_eq_true rfl) (hts _ mw_1178) (fun _ h9 => h9) rfl dX11_step_7 ?_
    refine zz_i (v := nI dn) (hdn) ?_
    refine lv_aload_n hx hb dX11_step_10 rfl (lv_at hl 0 rfl) ?_
    refine va_get (D := (dC, dI)) (ci := 9) (v := .int (I0 20)) (C := RX11) (T := TX11) (N := 55) hx hb hts inX11 hown hK hP 0 rfl rfl 20 (Nat.le_of_ble_eq_true rfl) (hts _ mw_1179) (fun _ h9 => h9) rfl dX11_step_11 ?_
    refine zz_i (v := nI rd) (hrd) ?_
    refine lv_iadd hx hb dX11_step_14 ?_
    refine zz_i (v := nI (dn + rd)) (nI_add dn rd) ?_
    have b9_4 : (dn + rd) < 2147483648 := by omega
    refine lv_icmp_le (tgt := 20) hx hb dX11_step_15 rfl (fun c_3 => ?_) (fun c_3 => ?_)
    · have c_3 : ((i : Nat) : Int) ≤ ((dn + rd : Nat) : Int) := zc_le (nI_toInt b9_2) (nI_toInt b9_4) c_3
      refine lv_iload_n hx hb dX11_step_20 rfl (lv_at hl 2 rfl) ?_
      rcases zz_sw (lo := 0) (hi := 3) rfl with c_5 | c_5
      · refine lv_tableOut (tgt := 87) hx hb dX11_step_21 c_5.1 (by decide) ?_
        refine lv_iconst (v := (-1)) hx hb dX11_step_87 rfl ?_
        obtain ⟨hP9, hD9⟩ := zq_sub (wc := [(om k0 a I0 J0), (oa (a 16) cI 514 wh), (oa (a 17) cI 514 of9), (oa (a 18) cI 514 we)]) hP hD [0, 1, 2, 3] rfl rfl
        rw [hQ9]
        exact W.iret (v := (-1)) hx hb hr (fun t ht hW => ⟨⟨_, rfl, (-1), rfl, by rw [ht]; exact hP9, hD9⟩, hS.F ht⟩) hS.2.2 dX11_step_88
      · by_cases c_6 : w.toInt = 0
        · refine lv_tableIn (tgt := 52) (off := 31) hx hb dX11_step_21 c_5.2.1 c_5.2.2 (by rw [show (w).toInt = 0 from (rfl).trans c_6]; rfl) (by decide) ?_
          refine lv_aload_n hx hb dX11_step_52 rfl (lv_at hl 0 rfl) ?_
          refine va_get (D := (dC, dI)) (ci := 9) (v := .ref (a 16)) (C := RX11) (T := TX11) (N := 55) hx hb hts inX11 hown hK hP 0 rfl rfl 16 (Nat.le_of_ble_eq_true rfl) (hts _ mw_1175) (fun _ h9 => h9) rfl dX11_step_53 ?_
          refine lv_iload_n hx hb dX11_step_56 rfl (lv_at hl 1 rfl) ?_
          have b9_7 : i < 514 := by omega
          refine z_iald hx hb hK hP 1 0 rfl rfl (e := i) rfl b9_7 (Nat.le_of_ble_eq_true rfl) dX11_step_57 ?_
          obtain ⟨hP9, hD9⟩ := zq_sub (wc := [(om k0 a I0 J0), (oa (a 16) cI 514 wh), (oa (a 17) cI 514 of9), (oa (a 18) cI 514 we)]) hP hD [0, 1, 2, 3] rfl rfl
          rw [hQ9]
          exact W.iret (v := wh i) hx hb hr (fun t ht hW => ⟨⟨_, rfl, (wh i), rfl, by rw [ht]; exact hP9, hD9⟩, hS.F ht⟩) hS.2.2 dX11_step_58
        by_cases c_8 : w.toInt = 1
        · refine lv_tableIn (tgt := 59) (off := 38) hx hb dX11_step_21 c_5.2.1 c_5.2.2 (by rw [show (w).toInt = 1 from (rfl).trans c_8]; rfl) (by decide) ?_
          refine lv_aload_n hx hb dX11_step_59 rfl (lv_at hl 0 rfl) ?_
          refine va_get (D := (dC, dI)) (ci := 9) (v := .ref (a 17)) (C := RX11) (T := TX11) (N := 55) hx hb hts inX11 hown hK hP 0 rfl rfl 17 (Nat.le_of_ble_eq_true rfl) (hts _ mw_1176) (fun _ h9 => h9) rfl dX11_step_60 ?_
          refine lv_iload_n hx hb dX11_step_63 rfl (lv_at hl 1 rfl) ?_
          have b9_9 : i < 514 := by omega
          refine z_iald hx hb hK hP 2 0 rfl rfl (e := i) rfl b9_9 (Nat.le_of_ble_eq_true rfl) dX11_step_64 ?_
          obtain ⟨hP9, hD9⟩ := zq_sub (wc := [(om k0 a I0 J0), (oa (a 16) cI 514 wh), (oa (a 17) cI 514 of9), (oa (a 18) cI 514 we)]) hP hD [0, 1, 2, 3] rfl rfl
          rw [hQ9]
          exact W.iret (v := of9 i) hx hb hr (fun t ht hW => ⟨⟨_, rfl, (of9 i), rfl, by rw [ht]; exact hP9, hD9⟩, hS.F ht⟩) hS.2.2 dX11_step_65
        by_cases c_10 : w.toInt = 2
        · refine lv_tableIn (tgt := 66) (off := 45) hx hb dX11_step_21 c_5.2.1 c_5.2.2 (by rw [show (w).toInt = 2 from (rfl).trans c_10]; rfl) (by decide) ?_
          refine lv_aload_n hx hb dX11_step_66 rfl (lv_at hl 0 rfl) ?_
          refine va_get (D := (dC, dI)) (ci := 9) (v := .ref (a 18)) (C := RX11) (T := TX11) (N := 55) hx hb hts inX11 hown hK hP 0 rfl rfl 18 (Nat.le_of_ble_eq_true rfl) (hts _ mw_1177) (fun _ h9 => h9) rfl dX11_step_67 ?_
          refine lv_iload_n hx hb dX11_step_70 rfl (lv_at hl 1 rfl) ?_
          have b9_11 : i < 514 := by omega
          refine z_iald hx hb hK hP 3 0 rfl rfl (e := i) rfl b9_11 (Nat.le_of_ble_eq_true rfl) dX11_step_71 ?_
          obtain ⟨hP9, hD9⟩ := zq_sub (wc := [(om k0 a I0 J0), (oa (a 16) cI 514 wh), (oa (a 17) cI 514 of9), (oa (a 18) cI 514 we)]) hP hD [0, 1, 2, 3] rfl rfl
          rw [hQ9]
          exact W.iret (v := we i) hx hb hr (fun t ht hW => ⟨⟨_, rfl, (we i), rfl, by rw [ht]; exact hP9, hD9⟩, hS.F ht⟩) hS.2.2 dX11_step_72
        by_cases c_12 : w.toInt = 3
        · refine lv_tableIn (tgt := 73) (off := 52) hx hb dX11_step_21 c_5.2.1 c_5.2.2 (by rw [show (w).toInt = 3 from (rfl).trans c_12]; rfl) (by decide) ?_
          refine lv_iload_n hx hb dX11_step_73 rfl (lv_at hl 1 rfl) ?_
          refine lv_aload_n hx hb dX11_step_74 rfl (lv_at hl 0 rfl) ?_
          refine va_get (D := (dC, dI)) (ci := 9) (v := .int (I0 19)) (C := RX11) (T := TX11) (N := 55) hx hb hts inX11 hown hK hP 0 rfl rfl 19 (Nat.le_of_ble_eq_true rfl) (hts _ mw_1178) (fun _ h9 => h9) rfl dX11_step_75 ?_
          refine zz_i (v := nI dn) (hdn) ?_
          have b9_14 : dn < 2147483648 := by omega
          refine lv_icmp_gt (tgt := 85) hx hb dX11_step_78 rfl (fun c_13 => ?_) (fun c_13 => ?_)
          · have c_13 : ((dn : Nat) : Int) < ((i : Nat) : Int) := zc_lt (nI_toInt b9_14) (nI_toInt b9_2) c_13
            refine lv_iconst (v := 0) hx hb dX11_step_85 rfl ?_
            obtain ⟨hP9, hD9⟩ := zq_sub (wc := [(om k0 a I0 J0), (oa (a 16) cI 514 wh), (oa (a 17) cI 514 of9), (oa (a 18) cI 514 we)]) hP hD [0, 1, 2, 3] rfl rfl
            rw [hQ9]
            exact W.iret (v := 0) hx hb hr (fun t ht hW => ⟨⟨_, rfl, 0, rfl, by rw [ht]; exact hP9, hD9⟩, hS.F ht⟩) hS.2.2 dX11_step_86
          · have c_13 : ((i : Nat) : Int) ≤ ((dn : Nat) : Int) := zc_nlt (nI_toInt b9_14) (nI_toInt b9_2) c_13
            refine lv_iconst (v := 1) hx hb dX11_step_81 rfl ?_
            refine lv_goto (tgt := 86) hx hb dX11_step_82 rfl ?_
            obtain ⟨hP9, hD9⟩ := zq_sub (wc := [(om k0 a I0 J0), (oa (a 16) cI 514 wh), (oa (a 17) cI 514 of9), (oa (a 18) cI 514 we)]) hP hD [0, 1, 2, 3] rfl rfl
            rw [hQ9]
            exact W.iret (v := 1) hx hb hr (fun t ht hW => ⟨⟨_, rfl, 1, rfl, by rw [ht]; exact hP9, hD9⟩, hS.F ht⟩) hS.2.2 dX11_step_86
        exfalso; omega
    · have c_3 : ((dn + rd : Nat) : Int) < ((i : Nat) : Int) := zc_nle (nI_toInt b9_2) (nI_toInt b9_4) c_3
      exfalso; omega
set_option maxHeartbeats 4000000 in
set_option maxRecDepth 100000 in
theorem k_M_count_a (l : Launch) (dC : Nat → ClassId) (dI : Nat → Nat → Nat) (cI cZ cF : ClassId) (sz : Nat) (k0 : Nat) (a : Nat → Nat) (I0 : Nat → Int32) (J0 : Nat → Int64) (ft : Nat) (w : Int32) (st : Nat → Int32) (tn : Nat → Int32) (mn : Nat → Int32) (hft : I0 0 = nI ft) (h200 : ft ≤ 200) (hmw : ∀ q, lvF ft st tn q → mn q = nI (nN (mn q)) ∧ nN (mn q) ≤ 40) : Met l yX11_count (.code yX11_count cX11_count 7 (some .int) :: ws0) ({ frames := 2, cells := 0, slots := 0, locals := 42 } : Room) (va_Pc [.ref k0, .int w] (zPre (dC, dI) classes (zTy cI cZ cF) [(om k0 a I0 J0), (oa (a 5) cI 201 st), (oa (a 6) cZ 201 tn), (oa (a 11) cI 201 mn)] sz zXN)) (zQe (fun v9 t => ∃ (b9 : Int32), v9 = (some (.int b9)) ∧ va_P (dC, dI) classes [(om k0 a I0 J0), (oa (a 5) cI 201 st), (oa (a 6) cZ 201 tn), (oa (a 11) cI 201 mn)] t.heap ∧ va_D (va_A [(om k0 a I0 J0), (oa (a 5) cI 201 st), (oa (a 6) cZ 201 tn), (oa (a 11) cI 201 mn)] sz) [(om k0 a I0 J0), (oa (a 5) cI 201 st), (oa (a 6) cZ 201 tn), (oa (a 11) cI 201 mn)]) (va_A [(om k0 a I0 J0), (oa (a 5) cI 201 st), (oa (a 6) cZ 201 tn), (oa (a 11) cI 201 mn)] sz)) 0 0 (va_A [(om k0 a I0 J0), (oa (a 5) cI 201 st), (oa (a 6) cZ 201 tn), (oa (a 11) cI 201 mn)] sz) := by
  refine Met.ofW (cc := cX11_count) (maxL := 7) (ret := (some .int)) rfl rfl ?_
  intro p e s m args below meth c s₁ B hml hv
  obtain ⟨rfl, hsz, hP, hK, hD0, hXN⟩ := hv
  have hx := B.exec
  have hb := B.bytes
  have hr := B.returns
  have hts0 := atoms_spec (ws := .code yX11_count cX11_count 7 (some .int) :: ws0) B.pre
  have hts : ∀ w9 ∈ ws0, w9.before ([.ref k0, .int w] : List Value).toArray s = true := fun w9 h => hts0 w9 (List.mem_cons_of_mem _ h)
  have hown : s.vm.findClass "ScaleShopModel" = some m.cls := findClass_of_methodNamed B.named
  have hlocks := B.notSynchronized
  subst hsz
  have hD := hD0.self (sz := s.heap.size)
  clear hD0
  generalize hAe : va_A [(om k0 a I0 J0), (oa (a 5) cI 201 st), (oa (a 6) cZ 201 tn), (oa (a 11) cI 201 mn)] s.heap.size = A at hD ⊢
  have hA : ∀ q : Nat, s.heap.size ≤ q → A q := fun q h => by rw [← hAe]; exact Or.inr h
  clear hAe
  have hS : va_S A s.heap s.heap [] := va_S.rf
  have hP : va_P (dC, dI) classes [(om k0 a I0 J0), (oa (a 5) cI 201 st), (oa (a 6) cZ 201 tn), (oa (a 11) cI 201 mn)] s.heap := hP
  obtain ⟨Q9, hQ9⟩ : ∃ Q9 : State → Prop, Q9 = MQ below (zQe (fun v9 t => ∃ (b9 : Int32), v9 = (some (.int b9)) ∧ va_P (dC, dI) classes [(om k0 a I0 J0), (oa (a 5) cI 201 st), (oa (a 6) cZ 201 tn), (oa (a 11) cI 201 mn)] t.heap ∧ va_D A [(om k0 a I0 J0), (oa (a 5) cI 201 st), (oa (a 6) cZ 201 tn), (oa (a 11) cI 201 mn)]) A) ([.ref k0, .int w] : List Value).toArray s 0 0 A := ⟨_, rfl⟩
  rw [← hQ9]
  have hl := lv_entry ([.ref k0, .int w]) (n := 7) (Nat.le_of_ble_eq_true rfl)
  rw [lg_entry_eq]
  generalize (lg_sl ([.ref k0, .int w]) ++ List.replicate (7 - (lg_sl ([.ref k0, .int w])).length) Slot.unset).toArray = ls at hl ⊢
  have hl : lv_has ls 7 [(0, .ref k0), (1, .int w)] := hl
  refine lv_iconst (v := 0) hx hb dX11_count_0 rfl ?_
  refine lv_istore_n (lv' := [(2, .int 0), (0, .ref k0), (1, .int w)]) hx hb dX11_count_1 rfl hl (Nat.le_of_ble_eq_true rfl) rfl (fun ls hl => ?_)
  refine lv_iconst (v := 0) hx hb dX11_count_2 rfl ?_
  refine lv_istore_n (lv' := [(3, .int 0), (2, .int 0), (0, .ref k0), (1, .int w)]) hx hb dX11_count_3 rfl hl (Nat.le_of_ble_eq_true rfl) rfl (fun ls hl => ?_)
  refine lv_iconst (v := 0) hx hb dX11_count_4 rfl ?_
  refine lv_istore (lv' := [(4, .int 0), (3, .int 0), (2, .int 0), (0, .ref k0), (1, .int w)]) hx hb dX11_count_5 hl (Nat.le_of_ble_eq_true rfl) rfl (fun ls hl => ?_)
  refine lv_iconst (v := 0) hx hb dX11_count_7 rfl ?_
  refine lv_istore (lv' := [(5, .int 0), (4, .int 0), (3, .int 0), (2, .int 0), (0, .ref k0), (1, .int w)]) hx hb dX11_count_8 hl (Nat.le_of_ble_eq_true rfl) rfl (fun ls hl => ?_)
  refine lv_iconst (v := 0) hx hb dX11_count_10 rfl ?_
  refine lv_istore (lv' := [(6, .int 0), (5, .int 0), (4, .int 0), (3, .int 0), (2, .int 0), (0, .ref k0), (1, .int w)]) hx hb dX11_count_11 hl (Nat.le_of_ble_eq_true rfl) rfl (fun ls hl => ?_)
  have hl_13 : ∀ (n9 : Nat) (q : Nat) (H : Heap) (locs : List Loc) (ls : Array Slot), ft - q < n9 → (q ≤ ft) → va_P (dC, dI) classes [(om k0 a I0 J0), (oa (a 5) cI 201 st), (oa (a 6) cZ 201 tn), (oa (a 11) cI 201 mn)] H → va_D A [(om k0 a I0 J0), (oa (a 5) cI 201 st), (oa (a 6) cZ 201 tn), (oa (a 11) cI 201 mn)] → va_S A s.heap H locs → lv_has ls 7 [(6, .int (nI q)), (5, .int (nI (smP (lvF ft st tn) (fun g => nN (mn g)) q))), (4, .int (nI (cntP (fun g => ¬ (tn g).toInt = 0) q))), (3, .int (nI (cntP (fun g => (st g).toInt = 2) q))), (2, .int (nI (cntP (fun g => (st g).toInt = 1) q))), (0, .ref k0), (1, .int w)] → W p l e ((headSpec (.code yX11_count cX11_count 7 (some .int) :: ws0) ({ frames := 2, cells := 0, slots := 0, locals := 42 } : Room)).room) s m ([.ref k0, .int w] : List Value).toArray below meth c H locs 0 0 Q9 (F0 m 13 ls []) := by
    intro n9
    induction n9 with
    | zero => intro q H locs ls hm; exact absurd hm (Nat.not_lt_zero _)
    | succ n9 ih_13 =>
      intro q H locs ls hm hq hP hD hS hl
      have hc2 := cntP_b (fun g => (st g).toInt = 1) q
      have hc3 := cntP_b (fun g => (st g).toInt = 2) q
      have hc4 := cntP_b (fun g => ¬ (tn g).toInt = 0) q
      have hc5 := smP_b (P := lvF ft st tn) (c := fun g => nN (mn g)) q (fun j _ h => (hmw j h).2)
      refine lv_iload hx hb dX11_count_13 (lv_at hl 0 rfl) ?_
      refine lv_aload_n hx hb dX11_count_15 rfl (lv_at hl 5 rfl) ?_
      refine va_get (D := (dC, dI)) (ci := 9) (v := .int (I0 0)) (C := RX11) (T := TX11) (N := 55) hx hb hts inX11 hown hK hP 0 rfl rfl 0 (Nat.le_of_ble_eq_true rfl) (hts _ mw_1159) (fun _ h9 => h9) rfl dX11_count_16 ?_
      refine zz_i (v := nI ft) (hft) ?_
      have b9_2 : q < 2147483648 := by omega
      have b9_3 : ft < 2147483648 := by omega
      refine lv_icmp_ge (tgt := 111) hx hb dX11_count_19 rfl (fun c_1 => ?_) (fun c_1 => ?_)
      · have c_1 : ((ft : Nat) : Int) ≤ ((q : Nat) : Int) := zc_le (nI_toInt b9_3) (nI_toInt b9_2) c_1
        refine lv_iload_n hx hb dX11_count_111 rfl (lv_at hl 6 rfl) ?_
        rcases zz_sw (lo := 0) (hi := 7) rfl with c_4 | c_4
        · refine lv_tableOut (tgt := 190) hx hb dX11_count_112 c_4.1 (by decide) ?_
          refine lv_iconst (v := (-1)) hx hb dX11_count_190 rfl ?_
          obtain ⟨hP9, hD9⟩ := zq_sub (wc := [(om k0 a I0 J0), (oa (a 5) cI 201 st), (oa (a 6) cZ 201 tn), (oa (a 11) cI 201 mn)]) hP hD [0, 1, 2, 3] rfl rfl
          rw [hQ9]
          exact W.iret (v := (-1)) hx hb hr (fun t ht hW => ⟨⟨_, rfl, (-1), rfl, by rw [ht]; exact hP9, hD9⟩, hS.F ht⟩) hS.2.2 dX11_count_191
        · by_cases c_5 : w.toInt = 0
          · refine lv_tableIn (tgt := 160) (off := 48) hx hb dX11_count_112 c_4.2.1 c_4.2.2 (by rw [show (w).toInt = 0 from (rfl).trans c_5]; rfl) (by decide) ?_
            refine lv_aload_n hx hb dX11_count_160 rfl (lv_at hl 5 rfl) ?_
            refine va_get (D := (dC, dI)) (ci := 9) (v := .int (I0 0)) (C := RX11) (T := TX11) (N := 55) hx hb hts inX11 hown hK hP 0 rfl rfl 0 (Nat.le_of_ble_eq_true rfl) (hts _ mw_1159) (fun _ h9 => h9) rfl dX11_count_161 ?_
            refine zz_i (v := nI ft) (hft) ?_
            obtain ⟨hP9, hD9⟩ := zq_sub (wc := [(om k0 a I0 J0), (oa (a 5) cI 201 st), (oa (a 6) cZ 201 tn), (oa (a 11) cI 201 mn)]) hP hD [0, 1, 2, 3] rfl rfl
            rw [hQ9]
            exact W.iret (v := nI ft) hx hb hr (fun t ht hW => ⟨⟨_, rfl, (nI ft), rfl, by rw [ht]; exact hP9, hD9⟩, hS.F ht⟩) hS.2.2 dX11_count_164
          by_cases c_6 : w.toInt = 1
          · refine lv_tableIn (tgt := 165) (off := 53) hx hb dX11_count_112 c_4.2.1 c_4.2.2 (by rw [show (w).toInt = 1 from (rfl).trans c_6]; rfl) (by decide) ?_
            refine lv_iload_n hx hb dX11_count_165 rfl (lv_at hl 4 rfl) ?_
            obtain ⟨hP9, hD9⟩ := zq_sub (wc := [(om k0 a I0 J0), (oa (a 5) cI 201 st), (oa (a 6) cZ 201 tn), (oa (a 11) cI 201 mn)]) hP hD [0, 1, 2, 3] rfl rfl
            rw [hQ9]
            exact W.iret (v := nI (cntP (fun g => (st g).toInt = 1) q)) hx hb hr (fun t ht hW => ⟨⟨_, rfl, (nI (cntP (fun g => (st g).toInt = 1) q)), rfl, by rw [ht]; exact hP9, hD9⟩, hS.F ht⟩) hS.2.2 dX11_count_166
          by_cases c_7 : w.toInt = 2
          · refine lv_tableIn (tgt := 167) (off := 55) hx hb dX11_count_112 c_4.2.1 c_4.2.2 (by rw [show (w).toInt = 2 from (rfl).trans c_7]; rfl) (by decide) ?_
            refine lv_iload_n hx hb dX11_count_167 rfl (lv_at hl 3 rfl) ?_
            obtain ⟨hP9, hD9⟩ := zq_sub (wc := [(om k0 a I0 J0), (oa (a 5) cI 201 st), (oa (a 6) cZ 201 tn), (oa (a 11) cI 201 mn)]) hP hD [0, 1, 2, 3] rfl rfl
            rw [hQ9]
            exact W.iret (v := nI (cntP (fun g => (st g).toInt = 2) q)) hx hb hr (fun t ht hW => ⟨⟨_, rfl, (nI (cntP (fun g => (st g).toInt = 2) q)), rfl, by rw [ht]; exact hP9, hD9⟩, hS.F ht⟩) hS.2.2 dX11_count_168
          by_cases c_8 : w.toInt = 3
          · refine lv_tableIn (tgt := 169) (off := 57) hx hb dX11_count_112 c_4.2.1 c_4.2.2 (by rw [show (w).toInt = 3 from (rfl).trans c_8]; rfl) (by decide) ?_
            refine lv_iload hx hb dX11_count_169 (lv_at hl 2 rfl) ?_
            obtain ⟨hP9, hD9⟩ := zq_sub (wc := [(om k0 a I0 J0), (oa (a 5) cI 201 st), (oa (a 6) cZ 201 tn), (oa (a 11) cI 201 mn)]) hP hD [0, 1, 2, 3] rfl rfl
            rw [hQ9]
            exact W.iret (v := nI (cntP (fun g => ¬ (tn g).toInt = 0) q)) hx hb hr (fun t ht hW => ⟨⟨_, rfl, (nI (cntP (fun g => ¬ (tn g).toInt = 0) q)), rfl, by rw [ht]; exact hP9, hD9⟩, hS.F ht⟩) hS.2.2 dX11_count_171
          by_cases c_9 : w.toInt = 4
          · refine lv_tableIn (tgt := 172) (off := 60) hx hb dX11_count_112 c_4.2.1 c_4.2.2 (by rw [show (w).toInt = 4 from (rfl).trans c_9]; rfl) (by decide) ?_
            refine lv_iload hx hb dX11_count_172 (lv_at hl 1 rfl) ?_
            obtain ⟨hP9, hD9⟩ := zq_sub (wc := [(om k0 a I0 J0), (oa (a 5) cI 201 st), (oa (a 6) cZ 201 tn), (oa (a 11) cI 201 mn)]) hP hD [0, 1, 2, 3] rfl rfl
            rw [hQ9]
            exact W.iret (v := nI (smP (lvF ft st tn) (fun g => nN (mn g)) q)) hx hb hr (fun t ht hW => ⟨⟨_, rfl, (nI (smP (lvF ft st tn) (fun g => nN (mn g)) q)), rfl, by rw [ht]; exact hP9, hD9⟩, hS.F ht⟩) hS.2.2 dX11_count_174
          by_cases c_10 : w.toInt = 5
          · refine lv_tableIn (tgt := 175) (off := 63) hx hb dX11_count_112 c_4.2.1 c_4.2.2 (by rw [show (w).toInt = 5 from (rfl).trans c_10]; rfl) (by decide) ?_
            refine lv_aload_n hx hb dX11_count_175 rfl (lv_at hl 5 rfl) ?_
            refine va_get (D := (dC, dI)) (ci := 9) (v := .int (I0 19)) (C := RX11) (T := TX11) (N := 55) hx hb hts inX11 hown hK hP 0 rfl rfl 19 (Nat.le_of_ble_eq_true rfl) (hts _ mw_1178) (fun _ h9 => h9) rfl dX11_count_176 ?_
            obtain ⟨hP9, hD9⟩ := zq_sub (wc := [(om k0 a I0 J0), (oa (a 5) cI 201 st), (oa (a 6) cZ 201 tn), (oa (a 11) cI 201 mn)]) hP hD [0, 1, 2, 3] rfl rfl
            rw [hQ9]
            exact W.iret (v := I0 19) hx hb hr (fun t ht hW => ⟨⟨_, rfl, (I0 19), rfl, by rw [ht]; exact hP9, hD9⟩, hS.F ht⟩) hS.2.2 dX11_count_179
          by_cases c_11 : w.toInt = 6
          · refine lv_tableIn (tgt := 180) (off := 68) hx hb dX11_count_112 c_4.2.1 c_4.2.2 (by rw [show (w).toInt = 6 from (rfl).trans c_11]; rfl) (by decide) ?_
            refine lv_aload_n hx hb dX11_count_180 rfl (lv_at hl 5 rfl) ?_
            refine va_get (D := (dC, dI)) (ci := 9) (v := .int (I0 20)) (C := RX11) (T := TX11) (N := 55) hx hb hts inX11 hown hK hP 0 rfl rfl 20 (Nat.le_of_ble_eq_true rfl) (hts _ mw_1179) (fun _ h9 => h9) rfl dX11_count_181 ?_
            obtain ⟨hP9, hD9⟩ := zq_sub (wc := [(om k0 a I0 J0), (oa (a 5) cI 201 st), (oa (a 6) cZ 201 tn), (oa (a 11) cI 201 mn)]) hP hD [0, 1, 2, 3] rfl rfl
            rw [hQ9]
            exact W.iret (v := I0 20) hx hb hr (fun t ht hW => ⟨⟨_, rfl, (I0 20), rfl, by rw [ht]; exact hP9, hD9⟩, hS.F ht⟩) hS.2.2 dX11_count_184
          by_cases c_12 : w.toInt = 7
          · refine lv_tableIn (tgt := 185) (off := 73) hx hb dX11_count_112 c_4.2.1 c_4.2.2 (by rw [show (w).toInt = 7 from (rfl).trans c_12]; rfl) (by decide) ?_
            refine lv_aload_n hx hb dX11_count_185 rfl (lv_at hl 5 rfl) ?_
            refine va_get (D := (dC, dI)) (ci := 9) (v := .int (I0 15)) (C := RX11) (T := TX11) (N := 55) hx hb hts inX11 hown hK hP 0 rfl rfl 15 (Nat.le_of_ble_eq_true rfl) (hts _ mw_1174) (fun _ h9 => h9) rfl dX11_count_186 ?_
            obtain ⟨hP9, hD9⟩ := zq_sub (wc := [(om k0 a I0 J0), (oa (a 5) cI 201 st), (oa (a 6) cZ 201 tn), (oa (a 11) cI 201 mn)]) hP hD [0, 1, 2, 3] rfl rfl
            rw [hQ9]
            exact W.iret (v := I0 15) hx hb hr (fun t ht hW => ⟨⟨_, rfl, (I0 15), rfl, by rw [ht]; exact hP9, hD9⟩, hS.F ht⟩) hS.2.2 dX11_count_189
          exfalso; omega
      · have c_1 : ((q : Nat) : Int) < ((ft : Nat) : Int) := zc_nle (nI_toInt b9_3) (nI_toInt b9_2) c_1
        refine lv_iload_n hx hb dX11_count_22 rfl (lv_at hl 4 rfl) ?_
        refine lv_aload_n hx hb dX11_count_23 rfl (lv_at hl 5 rfl) ?_
        refine va_get (D := (dC, dI)) (ci := 9) (v := .ref (a 5)) (C := RX11) (T := TX11) (N := 55) hx hb hts inX11 hown hK hP 0 rfl rfl 5 (Nat.le_of_ble_eq_true rfl) (hts _ mw_1164) (fun _ h9 => h9) rfl dX11_count_24 ?_
        refine lv_iload hx hb dX11_count_27 (lv_at hl 0 rfl) ?_
        have b9_13 : q < 201 := by omega
        refine z_iald hx hb hK hP 1 0 rfl rfl (e := q) rfl b9_13 (Nat.le_of_ble_eq_true rfl) dX11_count_29 ?_
        refine lv_iconst (v := 1) hx hb dX11_count_30 rfl ?_
        refine lv_icmp_ne (tgt := 38) hx hb dX11_count_31 rfl (fun c_14 => ?_) (fun c_14 => ?_)
        · have c_14 : ¬ (st q).toInt = 1 := zc_ne rfl rfl c_14
          refine lv_iconst (v := 0) hx hb dX11_count_38 rfl ?_
          refine lv_iadd hx hb dX11_count_39 ?_
          refine zz_i (v := nI ((cntP (fun g => (st g).toInt = 1) q) + 0)) (nI_add (cntP (fun g => (st g).toInt = 1) q) 0) ?_
          refine lv_istore_n (lv' := [(2, .int (nI ((cntP (fun g => (st g).toInt = 1) q) + 0))), (6, .int (nI q)), (5, .int (nI (smP (lvF ft st tn) (fun g => nN (mn g)) q))), (4, .int (nI (cntP (fun g => ¬ (tn g).toInt = 0) q))), (3, .int (nI (cntP (fun g => (st g).toInt = 2) q))), (0, .ref k0), (1, .int w)]) hx hb dX11_count_40 rfl hl (Nat.le_of_ble_eq_true rfl) rfl (fun ls hl => ?_)
          refine lv_iload_n hx hb dX11_count_41 rfl (lv_at hl 4 rfl) ?_
          refine lv_aload_n hx hb dX11_count_42 rfl (lv_at hl 5 rfl) ?_
          refine va_get (D := (dC, dI)) (ci := 9) (v := .ref (a 5)) (C := RX11) (T := TX11) (N := 55) hx hb hts inX11 hown hK hP 0 rfl rfl 5 (Nat.le_of_ble_eq_true rfl) (hts _ mw_1164) (fun _ h9 => h9) rfl dX11_count_43 ?_
          refine lv_iload hx hb dX11_count_46 (lv_at hl 1 rfl) ?_
          refine z_iald hx hb hK hP 1 0 rfl rfl (e := q) rfl b9_13 (Nat.le_of_ble_eq_true rfl) dX11_count_48 ?_
          refine lv_iconst (v := 2) hx hb dX11_count_49 rfl ?_
          refine lv_icmp_ne (tgt := 57) hx hb dX11_count_50 rfl (fun c_15 => ?_) (fun c_15 => ?_)
          · have c_15 : ¬ (st q).toInt = 2 := zc_ne rfl rfl c_15
            refine lv_iconst (v := 0) hx hb dX11_count_57 rfl ?_
            refine lv_iadd hx hb dX11_count_58 ?_
            refine zz_i (v := nI ((cntP (fun g => (st g).toInt = 2) q) + 0)) (nI_add (cntP (fun g => (st g).toInt = 2) q) 0) ?_
            refine lv_istore_n (lv' := [(3, .int (nI ((cntP (fun g => (st g).toInt = 2) q) + 0))), (2, .int (nI ((cntP (fun g => (st g).toInt = 1) q) + 0))), (6, .int (nI q)), (5, .int (nI (smP (lvF ft st tn) (fun g => nN (mn g)) q))), (4, .int (nI (cntP (fun g => ¬ (tn g).toInt = 0) q))), (0, .ref k0), (1, .int w)]) hx hb dX11_count_59 rfl hl (Nat.le_of_ble_eq_true rfl) rfl (fun ls hl => ?_)
            refine lv_iload hx hb dX11_count_60 (lv_at hl 4 rfl) ?_
            refine lv_aload_n hx hb dX11_count_62 rfl (lv_at hl 5 rfl) ?_
            refine va_get (D := (dC, dI)) (ci := 9) (v := .ref (a 6)) (C := RX11) (T := TX11) (N := 55) hx hb hts inX11 hown hK hP 0 rfl rfl 6 (Nat.le_of_ble_eq_true rfl) (hts _ mw_1165) (fun _ h9 => h9) rfl dX11_count_63 ?_
            refine lv_iload hx hb dX11_count_66 (lv_at hl 2 rfl) ?_
            refine z_zald hx hb hK hP 2 1 rfl rfl (e := q) rfl b9_13 (Nat.le_of_ble_eq_true rfl) dX11_count_68 ?_
            refine lv_if_eq (tgt := 76) hx hb dX11_count_69 rfl (fun c_16 => ?_) (fun c_16 => ?_)
            · have c_16 : (tn q).toInt = 0 := zc_eq rfl rfl c_16
              refine lv_iconst (v := 0) hx hb dX11_count_76 rfl ?_
              refine lv_iadd hx hb dX11_count_77 ?_
              refine zz_i (v := nI ((cntP (fun g => ¬ (tn g).toInt = 0) q) + 0)) (nI_add (cntP (fun g => ¬ (tn g).toInt = 0) q) 0) ?_
              refine lv_istore (lv' := [(4, .int (nI ((cntP (fun g => ¬ (tn g).toInt = 0) q) + 0))), (3, .int (nI ((cntP (fun g => (st g).toInt = 2) q) + 0))), (2, .int (nI ((cntP (fun g => (st g).toInt = 1) q) + 0))), (6, .int (nI q)), (5, .int (nI (smP (lvF ft st tn) (fun g => nN (mn g)) q))), (0, .ref k0), (1, .int w)]) hx hb dX11_count_78 hl (Nat.le_of_ble_eq_true rfl) rfl (fun ls hl => ?_)
              refine lv_iload hx hb dX11_count_80 (lv_at hl 4 rfl) ?_
              refine lv_aload_n hx hb dX11_count_82 rfl (lv_at hl 5 rfl) ?_
              refine lv_iload hx hb dX11_count_83 (lv_at hl 3 rfl) ?_
              obtain ⟨hPc, hDc, hFc⟩ := zc_sub (wc := [(om k0 a I0 J0), (oa (a 5) cI 201 st), (oa (a 6) cZ 201 tn)]) hP hD hS hA [0, 1, 2] rfl rfl
              refine zcall (st1 := [.int (pI (q < ft ∧ (st q).toInt = 1 ∧ (tn q).toInt = 0)), .int (nI (smP (lvF ft st tn) (fun g => nN (mn g)) q))]) (va_runV (As := [.int (nI q)]) (rest := [.int (nI (smP (lvF ft st tn) (fun g => nN (mn g)) q))]) ⟨hx, hb, hml, hown, hts⟩ (k_M_is_n l dC dI cI cZ cF H.size k0 a I0 J0 q ft st tn (by first | with_reducible assumption | assumption) (by first | with_reducible assumption | omega) (by first | with_reducible assumption | omega)) (csV_179 hts rfl rfl ⟨Nat.le_of_ble_eq_true rfl, Nat.le_of_ble_eq_true rfl⟩) (zPV2 (q0 := 0) (ci := 9) hPc hDc hK hXN rfl rfl) rfl rfl hl.1 rfl (lv_room (Nat.le_of_ble_eq_true rfl)) dX11_count_85 ⟨Nat.le_of_ble_eq_true rfl, Nat.le_of_ble_eq_true rfl⟩) hS hFc hFc rfl (fun t H locs ht hB hk1 hS => ?_)
              obtain ⟨hP1, hD1⟩ := hB
              rw [ht] at hP1
              obtain ⟨hP, hD⟩ := zk (W2 := [(om k0 a I0 J0), (oa (a 5) cI 201 st), (oa (a 6) cZ 201 tn), (oa (a 11) cI 201 mn)]) hP hD [0, 1, 2] [3] [3] [0, 1, 2] [1, 2, 3, 0] 4 rfl rfl rfl rfl rfl rfl rfl rfl rfl hk1 hFc hP1 hD1
              clear hk1 hPc hDc hFc hP1 hD1 ht
              refine lv_if_eq (tgt := 101) hx hb dX11_count_88 rfl (fun c_17 => ?_) (fun c_17 => ?_)
              · have c_17 : ¬ (q < ft ∧ (st q).toInt = 1 ∧ (tn q).toInt = 0) := zp_0 c_17
                refine lv_iconst (v := 0) hx hb dX11_count_101 rfl ?_
                refine lv_iadd hx hb dX11_count_102 ?_
                refine zz_i (v := nI ((smP (lvF ft st tn) (fun g => nN (mn g)) q) + 0)) (nI_add (smP (lvF ft st tn) (fun g => nN (mn g)) q) 0) ?_
                refine lv_istore (lv' := [(5, .int (nI ((smP (lvF ft st tn) (fun g => nN (mn g)) q) + 0))), (4, .int (nI ((cntP (fun g => ¬ (tn g).toInt = 0) q) + 0))), (3, .int (nI ((cntP (fun g => (st g).toInt = 2) q) + 0))), (2, .int (nI ((cntP (fun g => (st g).toInt = 1) q) + 0))), (6, .int (nI q)), (0, .ref k0), (1, .int w)]) hx hb dX11_count_103 hl (Nat.le_of_ble_eq_true rfl) rfl (fun ls hl => ?_)
                refine lv_iinc (v := nI (q + 1)) (lv' := [(6, .int (nI (q + 1))), (5, .int (nI ((smP (lvF ft st tn) (fun g => nN (mn g)) q) + 0))), (4, .int (nI ((cntP (fun g => ¬ (tn g).toInt = 0) q) + 0))), (3, .int (nI ((cntP (fun g => (st g).toInt = 2) q) + 0))), (2, .int (nI ((cntP (fun g => (st g).toInt = 1) q) + 0))), (0, .ref k0), (1, .int w)]) hx hb dX11_count_105 hl (k := 4) rfl (nI_add q 1) (Nat.le_of_ble_eq_true rfl) rfl (fun ls hl => ?_)
                refine lv_goto (tgt := 13) hx hb dX11_count_108 rfl ?_
                have hl9 := lv_sub hl [0, 1, 2, 3, 4, 5, 6] rfl
                have e9_2 : nI (cntP (fun g => (st g).toInt = 1) (q + 1)) = (nI ((cntP (fun g => (st g).toInt = 1) q) + 0) : Int32) := by first | exact congrArg nI (cntP_y (P := fun g => (st g).toInt = 1) (show (st q).toInt = 1 by omega)) | exact congrArg nI (cntP_n0 (P := fun g => (st g).toInt = 1) (show ¬ (st q).toInt = 1 by omega))
                have e9_3 : nI (cntP (fun g => (st g).toInt = 2) (q + 1)) = (nI ((cntP (fun g => (st g).toInt = 2) q) + 0) : Int32) := by first | exact congrArg nI (cntP_y (P := fun g => (st g).toInt = 2) (show (st q).toInt = 2 by omega)) | exact congrArg nI (cntP_n0 (P := fun g => (st g).toInt = 2) (show ¬ (st q).toInt = 2 by omega))
                have e9_4 : nI (cntP (fun g => ¬ (tn g).toInt = 0) (q + 1)) = (nI ((cntP (fun g => ¬ (tn g).toInt = 0) q) + 0) : Int32) := by first | exact congrArg nI (cntP_y (P := fun g => ¬ (tn g).toInt = 0) (show ¬ (tn q).toInt = 0 by omega)) | exact congrArg nI (cntP_n0 (P := fun g => ¬ (tn g).toInt = 0) (show ¬ ¬ (tn q).toInt = 0 by omega))
                have e9_5 : nI (smP (lvF ft st tn) (fun g => nN (mn g)) (q + 1)) = (nI ((smP (lvF ft st tn) (fun g => nN (mn g)) q) + 0) : Int32) := by first | exact congrArg nI (smP_y (P := lvF ft st tn) (by first | with_reducible assumption | assumption)) | exact congrArg nI (smP_n (P := lvF ft st tn) (by first | with_reducible assumption | assumption))
                have hl9 : lv_has ls 7 [(6, .int (nI (q + 1))), (5, .int (nI (smP (lvF ft st tn) (fun g => nN (mn g)) (q + 1)))), (4, .int (nI (cntP (fun g => ¬ (tn g).toInt = 0) (q + 1)))), (3, .int (nI (cntP (fun g => (st g).toInt = 2) (q + 1)))), (2, .int (nI (cntP (fun g => (st g).toInt = 1) (q + 1)))), (0, .ref k0), (1, .int w)] := by rw [e9_2]; rw [e9_3]; rw [e9_4]; rw [e9_5]; exact hl9
                exact ih_13 (q + 1) H locs ls (by first | with_reducible assumption | omega) (by first | with_reducible assumption | omega) hP hD hS hl9
              · have c_17 : q < ft ∧ (st q).toInt = 1 ∧ (tn q).toInt = 0 := zp_1 c_17
                refine lv_aload_n hx hb dX11_count_91 rfl (lv_at hl 5 rfl) ?_
                refine va_get (D := (dC, dI)) (ci := 9) (v := .ref (a 11)) (C := RX11) (T := TX11) (N := 55) hx hb hts inX11 hown hK hP 0 rfl rfl 11 (Nat.le_of_ble_eq_true rfl) (hts _ mw_1170) (fun _ h9 => h9) rfl dX11_count_92 ?_
                refine lv_iload hx hb dX11_count_95 (lv_at hl 3 rfl) ?_
                refine z_iald hx hb hK hP 3 0 rfl rfl (e := q) rfl b9_13 (Nat.le_of_ble_eq_true rfl) dX11_count_97 ?_
                refine zz_i (v := nI (nN (mn q))) ((hmw q (by first | with_reducible assumption | assumption)).1) ?_
                refine lv_goto (tgt := 102) hx hb dX11_count_98 rfl ?_
                refine lv_iadd hx hb dX11_count_102 ?_
                refine zz_i (v := nI ((smP (lvF ft st tn) (fun g => nN (mn g)) q) + (nN (mn q)))) (nI_add (smP (lvF ft st tn) (fun g => nN (mn g)) q) (nN (mn q))) ?_
                refine lv_istore (lv' := [(5, .int (nI ((smP (lvF ft st tn) (fun g => nN (mn g)) q) + (nN (mn q))))), (4, .int (nI ((cntP (fun g => ¬ (tn g).toInt = 0) q) + 0))), (3, .int (nI ((cntP (fun g => (st g).toInt = 2) q) + 0))), (2, .int (nI ((cntP (fun g => (st g).toInt = 1) q) + 0))), (6, .int (nI q)), (0, .ref k0), (1, .int w)]) hx hb dX11_count_103 hl (Nat.le_of_ble_eq_true rfl) rfl (fun ls hl => ?_)
                refine lv_iinc (v := nI (q + 1)) (lv' := [(6, .int (nI (q + 1))), (5, .int (nI ((smP (lvF ft st tn) (fun g => nN (mn g)) q) + (nN (mn q))))), (4, .int (nI ((cntP (fun g => ¬ (tn g).toInt = 0) q) + 0))), (3, .int (nI ((cntP (fun g => (st g).toInt = 2) q) + 0))), (2, .int (nI ((cntP (fun g => (st g).toInt = 1) q) + 0))), (0, .ref k0), (1, .int w)]) hx hb dX11_count_105 hl (k := 4) rfl (nI_add q 1) (Nat.le_of_ble_eq_true rfl) rfl (fun ls hl => ?_)
                refine lv_goto (tgt := 13) hx hb dX11_count_108 rfl ?_
                have hl9 := lv_sub hl [0, 1, 2, 3, 4, 5, 6] rfl
                have e9_2 : nI (cntP (fun g => (st g).toInt = 1) (q + 1)) = (nI ((cntP (fun g => (st g).toInt = 1) q) + 0) : Int32) := by first | exact congrArg nI (cntP_y (P := fun g => (st g).toInt = 1) (show (st q).toInt = 1 by omega)) | exact congrArg nI (cntP_n0 (P := fun g => (st g).toInt = 1) (show ¬ (st q).toInt = 1 by omega))
                have e9_3 : nI (cntP (fun g => (st g).toInt = 2) (q + 1)) = (nI ((cntP (fun g => (st g).toInt = 2) q) + 0) : Int32) := by first | exact congrArg nI (cntP_y (P := fun g => (st g).toInt = 2) (show (st q).toInt = 2 by omega)) | exact congrArg nI (cntP_n0 (P := fun g => (st g).toInt = 2) (show ¬ (st q).toInt = 2 by omega))
                have e9_4 : nI (cntP (fun g => ¬ (tn g).toInt = 0) (q + 1)) = (nI ((cntP (fun g => ¬ (tn g).toInt = 0) q) + 0) : Int32) := by first | exact congrArg nI (cntP_y (P := fun g => ¬ (tn g).toInt = 0) (show ¬ (tn q).toInt = 0 by omega)) | exact congrArg nI (cntP_n0 (P := fun g => ¬ (tn g).toInt = 0) (show ¬ ¬ (tn q).toInt = 0 by omega))
                have e9_5 : nI (smP (lvF ft st tn) (fun g => nN (mn g)) (q + 1)) = (nI ((smP (lvF ft st tn) (fun g => nN (mn g)) q) + (nN (mn q))) : Int32) := by first | exact congrArg nI (smP_y (P := lvF ft st tn) (by first | with_reducible assumption | assumption)) | exact congrArg nI (smP_n (P := lvF ft st tn) (by first | with_reducible assumption | assumption))
                have hl9 : lv_has ls 7 [(6, .int (nI (q + 1))), (5, .int (nI (smP (lvF ft st tn) (fun g => nN (mn g)) (q + 1)))), (4, .int (nI (cntP (fun g => ¬ (tn g).toInt = 0) (q + 1)))), (3, .int (nI (cntP (fun g => (st g).toInt = 2) (q + 1)))), (2, .int (nI (cntP (fun g => (st g).toInt = 1) (q + 1)))), (0, .ref k0), (1, .int w)] := by rw [e9_2]; rw [e9_3]; rw [e9_4]; rw [e9_5]; exact hl9
                exact ih_13 (q + 1) H locs ls (by first | with_reducible assumption | omega) (by first | with_reducible assumption | omega) hP hD hS hl9
            · have c_16 : ¬ (tn q).toInt = 0 := zc_ne rfl rfl c_16
              refine lv_iconst (v := 1) hx hb dX11_count_72 rfl ?_
              refine lv_goto (tgt := 77) hx hb dX11_count_73 rfl ?_
              refine lv_iadd hx hb dX11_count_77 ?_
              refine zz_i (v := nI ((cntP (fun g => ¬ (tn g).toInt = 0) q) + 1)) (nI_add (cntP (fun g => ¬ (tn g).toInt = 0) q) 1) ?_
              refine lv_istore (lv' := [(4, .int (nI ((cntP (fun g => ¬ (tn g).toInt = 0) q) + 1))), (3, .int (nI ((cntP (fun g => (st g).toInt = 2) q) + 0))), (2, .int (nI ((cntP (fun g => (st g).toInt = 1) q) + 0))), (6, .int (nI q)), (5, .int (nI (smP (lvF ft st tn) (fun g => nN (mn g)) q))), (0, .ref k0), (1, .int w)]) hx hb dX11_count_78 hl (Nat.le_of_ble_eq_true rfl) rfl (fun ls hl => ?_)
              refine lv_iload hx hb dX11_count_80 (lv_at hl 4 rfl) ?_
              refine lv_aload_n hx hb dX11_count_82 rfl (lv_at hl 5 rfl) ?_
              refine lv_iload hx hb dX11_count_83 (lv_at hl 3 rfl) ?_
              obtain ⟨hPc, hDc, hFc⟩ := zc_sub (wc := [(om k0 a I0 J0), (oa (a 5) cI 201 st), (oa (a 6) cZ 201 tn)]) hP hD hS hA [0, 1, 2] rfl rfl
              refine zcall (st1 := [.int (pI (q < ft ∧ (st q).toInt = 1 ∧ (tn q).toInt = 0)), .int (nI (smP (lvF ft st tn) (fun g => nN (mn g)) q))]) (va_runV (As := [.int (nI q)]) (rest := [.int (nI (smP (lvF ft st tn) (fun g => nN (mn g)) q))]) ⟨hx, hb, hml, hown, hts⟩ (k_M_is_n l dC dI cI cZ cF H.size k0 a I0 J0 q ft st tn (by first | with_reducible assumption | assumption) (by first | with_reducible assumption | omega) (by first | with_reducible assumption | omega)) (csV_179 hts rfl rfl ⟨Nat.le_of_ble_eq_true rfl, Nat.le_of_ble_eq_true rfl⟩) (zPV2 (q0 := 0) (ci := 9) hPc hDc hK hXN rfl rfl) rfl rfl hl.1 rfl (lv_room (Nat.le_of_ble_eq_true rfl)) dX11_count_85 ⟨Nat.le_of_ble_eq_true rfl, Nat.le_of_ble_eq_true rfl⟩) hS hFc hFc rfl (fun t H locs ht hB hk1 hS => ?_)
              obtain ⟨hP1, hD1⟩ := hB
              rw [ht] at hP1
              obtain ⟨hP, hD⟩ := zk (W2 := [(om k0 a I0 J0), (oa (a 5) cI 201 st), (oa (a 6) cZ 201 tn), (oa (a 11) cI 201 mn)]) hP hD [0, 1, 2] [3] [3] [0, 1, 2] [1, 2, 3, 0] 4 rfl rfl rfl rfl rfl rfl rfl rfl rfl hk1 hFc hP1 hD1
              clear hk1 hPc hDc hFc hP1 hD1 ht
              refine lv_if_eq (tgt := 101) hx hb dX11_count_88 rfl (fun c_18 => ?_) (fun c_18 => ?_)
              · have c_18 : ¬ (q < ft ∧ (st q).toInt = 1 ∧ (tn q).toInt = 0) := zp_0 c_18
                refine lv_iconst (v := 0) hx hb dX11_count_101 rfl ?_
                refine lv_iadd hx hb dX11_count_102 ?_
                refine zz_i (v := nI ((smP (lvF ft st tn) (fun g => nN (mn g)) q) + 0)) (nI_add (smP (lvF ft st tn) (fun g => nN (mn g)) q) 0) ?_
                refine lv_istore (lv' := [(5, .int (nI ((smP (lvF ft st tn) (fun g => nN (mn g)) q) + 0))), (4, .int (nI ((cntP (fun g => ¬ (tn g).toInt = 0) q) + 1))), (3, .int (nI ((cntP (fun g => (st g).toInt = 2) q) + 0))), (2, .int (nI ((cntP (fun g => (st g).toInt = 1) q) + 0))), (6, .int (nI q)), (0, .ref k0), (1, .int w)]) hx hb dX11_count_103 hl (Nat.le_of_ble_eq_true rfl) rfl (fun ls hl => ?_)
                refine lv_iinc (v := nI (q + 1)) (lv' := [(6, .int (nI (q + 1))), (5, .int (nI ((smP (lvF ft st tn) (fun g => nN (mn g)) q) + 0))), (4, .int (nI ((cntP (fun g => ¬ (tn g).toInt = 0) q) + 1))), (3, .int (nI ((cntP (fun g => (st g).toInt = 2) q) + 0))), (2, .int (nI ((cntP (fun g => (st g).toInt = 1) q) + 0))), (0, .ref k0), (1, .int w)]) hx hb dX11_count_105 hl (k := 4) rfl (nI_add q 1) (Nat.le_of_ble_eq_true rfl) rfl (fun ls hl => ?_)
                refine lv_goto (tgt := 13) hx hb dX11_count_108 rfl ?_
                have hl9 := lv_sub hl [0, 1, 2, 3, 4, 5, 6] rfl
                have e9_2 : nI (cntP (fun g => (st g).toInt = 1) (q + 1)) = (nI ((cntP (fun g => (st g).toInt = 1) q) + 0) : Int32) := by first | exact congrArg nI (cntP_y (P := fun g => (st g).toInt = 1) (show (st q).toInt = 1 by omega)) | exact congrArg nI (cntP_n0 (P := fun g => (st g).toInt = 1) (show ¬ (st q).toInt = 1 by omega))
                have e9_3 : nI (cntP (fun g => (st g).toInt = 2) (q + 1)) = (nI ((cntP (fun g => (st g).toInt = 2) q) + 0) : Int32) := by first | exact congrArg nI (cntP_y (P := fun g => (st g).toInt = 2) (show (st q).toInt = 2 by omega)) | exact congrArg nI (cntP_n0 (P := fun g => (st g).toInt = 2) (show ¬ (st q).toInt = 2 by omega))
                have e9_4 : nI (cntP (fun g => ¬ (tn g).toInt = 0) (q + 1)) = (nI ((cntP (fun g => ¬ (tn g).toInt = 0) q) + 1) : Int32) := by first | exact congrArg nI (cntP_y (P := fun g => ¬ (tn g).toInt = 0) (show ¬ (tn q).toInt = 0 by omega)) | exact congrArg nI (cntP_n0 (P := fun g => ¬ (tn g).toInt = 0) (show ¬ ¬ (tn q).toInt = 0 by omega))
                have e9_5 : nI (smP (lvF ft st tn) (fun g => nN (mn g)) (q + 1)) = (nI ((smP (lvF ft st tn) (fun g => nN (mn g)) q) + 0) : Int32) := by first | exact congrArg nI (smP_y (P := lvF ft st tn) (by first | with_reducible assumption | assumption)) | exact congrArg nI (smP_n (P := lvF ft st tn) (by first | with_reducible assumption | assumption))
                have hl9 : lv_has ls 7 [(6, .int (nI (q + 1))), (5, .int (nI (smP (lvF ft st tn) (fun g => nN (mn g)) (q + 1)))), (4, .int (nI (cntP (fun g => ¬ (tn g).toInt = 0) (q + 1)))), (3, .int (nI (cntP (fun g => (st g).toInt = 2) (q + 1)))), (2, .int (nI (cntP (fun g => (st g).toInt = 1) (q + 1)))), (0, .ref k0), (1, .int w)] := by rw [e9_2]; rw [e9_3]; rw [e9_4]; rw [e9_5]; exact hl9
                exact ih_13 (q + 1) H locs ls (by first | with_reducible assumption | omega) (by first | with_reducible assumption | omega) hP hD hS hl9
              · have c_18 : q < ft ∧ (st q).toInt = 1 ∧ (tn q).toInt = 0 := zp_1 c_18
                refine lv_aload_n hx hb dX11_count_91 rfl (lv_at hl 5 rfl) ?_
                refine va_get (D := (dC, dI)) (ci := 9) (v := .ref (a 11)) (C := RX11) (T := TX11) (N := 55) hx hb hts inX11 hown hK hP 0 rfl rfl 11 (Nat.le_of_ble_eq_true rfl) (hts _ mw_1170) (fun _ h9 => h9) rfl dX11_count_92 ?_
                refine lv_iload hx hb dX11_count_95 (lv_at hl 3 rfl) ?_
                refine z_iald hx hb hK hP 3 0 rfl rfl (e := q) rfl b9_13 (Nat.le_of_ble_eq_true rfl) dX11_count_97 ?_
                refine zz_i (v := nI (nN (mn q))) ((hmw q (by first | with_reducible assumption | assumption)).1) ?_
                refine lv_goto (tgt := 102) hx hb dX11_count_98 rfl ?_
                refine lv_iadd hx hb dX11_count_102 ?_
                refine zz_i (v := nI ((smP (lvF ft st tn) (fun g => nN (mn g)) q) + (nN (mn q)))) (nI_add (smP (lvF ft st tn) (fun g => nN (mn g)) q) (nN (mn q))) ?_
                refine lv_istore (lv' := [(5, .int (nI ((smP (lvF ft st tn) (fun g => nN (mn g)) q) + (nN (mn q))))), (4, .int (nI ((cntP (fun g => ¬ (tn g).toInt = 0) q) + 1))), (3, .int (nI ((cntP (fun g => (st g).toInt = 2) q) + 0))), (2, .int (nI ((cntP (fun g => (st g).toInt = 1) q) + 0))), (6, .int (nI q)), (0, .ref k0), (1, .int w)]) hx hb dX11_count_103 hl (Nat.le_of_ble_eq_true rfl) rfl (fun ls hl => ?_)
                refine lv_iinc (v := nI (q + 1)) (lv' := [(6, .int (nI (q + 1))), (5, .int (nI ((smP (lvF ft st tn) (fun g => nN (mn g)) q) + (nN (mn q))))), (4, .int (nI ((cntP (fun g => ¬ (tn g).toInt = 0) q) + 1))), (3, .int (nI ((cntP (fun g => (st g).toInt = 2) q) + 0))), (2, .int (nI ((cntP (fun g => (st g).toInt = 1) q) + 0))), (0, .ref k0), (1, .int w)]) hx hb dX11_count_105 hl (k := 4) rfl (nI_add q 1) (Nat.le_of_ble_eq_true rfl) rfl (fun ls hl => ?_)
                refine lv_goto (tgt := 13) hx hb dX11_count_108 rfl ?_
                have hl9 := lv_sub hl [0, 1, 2, 3, 4, 5, 6] rfl
                have e9_2 : nI (cntP (fun g => (st g).toInt = 1) (q + 1)) = (nI ((cntP (fun g => (st g).toInt = 1) q) + 0) : Int32) := by first | exact congrArg nI (cntP_y (P := fun g => (st g).toInt = 1) (show (st q).toInt = 1 by omega)) | exact congrArg nI (cntP_n0 (P := fun g => (st g).toInt = 1) (show ¬ (st q).toInt = 1 by omega))
                have e9_3 : nI (cntP (fun g => (st g).toInt = 2) (q + 1)) = (nI ((cntP (fun g => (st g).toInt = 2) q) + 0) : Int32) := by first | exact congrArg nI (cntP_y (P := fun g => (st g).toInt = 2) (show (st q).toInt = 2 by omega)) | exact congrArg nI (cntP_n0 (P := fun g => (st g).toInt = 2) (show ¬ (st q).toInt = 2 by omega))
                have e9_4 : nI (cntP (fun g => ¬ (tn g).toInt = 0) (q + 1)) = (nI ((cntP (fun g => ¬ (tn g).toInt = 0) q) + 1) : Int32) := by first | exact congrArg nI (cntP_y (P := fun g => ¬ (tn g).toInt = 0) (show ¬ (tn q).toInt = 0 by omega)) | exact congrArg nI (cntP_n0 (P := fun g => ¬ (tn g).toInt = 0) (show ¬ ¬ (tn q).toInt = 0 by omega))
                have e9_5 : nI (smP (lvF ft st tn) (fun g => nN (mn g)) (q + 1)) = (nI ((smP (lvF ft st tn) (fun g => nN (mn g)) q) + (nN (mn q))) : Int32) := by first | exact congrArg nI (smP_y (P := lvF ft st tn) (by first | with_reducible assumption | assumption)) | exact congrArg nI (smP_n (P := lvF ft st tn) (by first | with_reducible assumption | assumption))
                have hl9 : lv_has ls 7 [(6, .int (nI (q + 1))), (5, .int (nI (smP (lvF ft st tn) (fun g => nN (mn g)) (q + 1)))), (4, .int (nI (cntP (fun g => ¬ (tn g).toInt = 0) (q + 1)))), (3, .int (nI (cntP (fun g => (st g).toInt = 2) (q + 1)))), (2, .int (nI (cntP (fun g => (st g).toInt = 1) (q + 1)))), (0, .ref k0), (1, .int w)] := by rw [e9_2]; rw [e9_3]; rw [e9_4]; rw [e9_5]; exact hl9
                exact ih_13 (q + 1) H locs ls (by first | with_reducible assumption | omega) (by first | with_reducible assumption | omega) hP hD hS hl9
          · have c_15 : (st q).toInt = 2 := zc_eq rfl rfl c_15
            refine lv_iconst (v := 1) hx hb dX11_count_53 rfl ?_
            refine lv_goto (tgt := 58) hx hb dX11_count_54 rfl ?_
            refine lv_iadd hx hb dX11_count_58 ?_
            refine zz_i (v := nI ((cntP (fun g => (st g).toInt = 2) q) + 1)) (nI_add (cntP (fun g => (st g).toInt = 2) q) 1) ?_
            refine lv_istore_n (lv' := [(3, .int (nI ((cntP (fun g => (st g).toInt = 2) q) + 1))), (2, .int (nI ((cntP (fun g => (st g).toInt = 1) q) + 0))), (6, .int (nI q)), (5, .int (nI (smP (lvF ft st tn) (fun g => nN (mn g)) q))), (4, .int (nI (cntP (fun g => ¬ (tn g).toInt = 0) q))), (0, .ref k0), (1, .int w)]) hx hb dX11_count_59 rfl hl (Nat.le_of_ble_eq_true rfl) rfl (fun ls hl => ?_)
            refine lv_iload hx hb dX11_count_60 (lv_at hl 4 rfl) ?_
            refine lv_aload_n hx hb dX11_count_62 rfl (lv_at hl 5 rfl) ?_
            refine va_get (D := (dC, dI)) (ci := 9) (v := .ref (a 6)) (C := RX11) (T := TX11) (N := 55) hx hb hts inX11 hown hK hP 0 rfl rfl 6 (Nat.le_of_ble_eq_true rfl) (hts _ mw_1165) (fun _ h9 => h9) rfl dX11_count_63 ?_
            refine lv_iload hx hb dX11_count_66 (lv_at hl 2 rfl) ?_
            refine z_zald hx hb hK hP 2 1 rfl rfl (e := q) rfl b9_13 (Nat.le_of_ble_eq_true rfl) dX11_count_68 ?_
            refine lv_if_eq (tgt := 76) hx hb dX11_count_69 rfl (fun c_19 => ?_) (fun c_19 => ?_)
            · have c_19 : (tn q).toInt = 0 := zc_eq rfl rfl c_19
              refine lv_iconst (v := 0) hx hb dX11_count_76 rfl ?_
              refine lv_iadd hx hb dX11_count_77 ?_
              refine zz_i (v := nI ((cntP (fun g => ¬ (tn g).toInt = 0) q) + 0)) (nI_add (cntP (fun g => ¬ (tn g).toInt = 0) q) 0) ?_
              refine lv_istore (lv' := [(4, .int (nI ((cntP (fun g => ¬ (tn g).toInt = 0) q) + 0))), (3, .int (nI ((cntP (fun g => (st g).toInt = 2) q) + 1))), (2, .int (nI ((cntP (fun g => (st g).toInt = 1) q) + 0))), (6, .int (nI q)), (5, .int (nI (smP (lvF ft st tn) (fun g => nN (mn g)) q))), (0, .ref k0), (1, .int w)]) hx hb dX11_count_78 hl (Nat.le_of_ble_eq_true rfl) rfl (fun ls hl => ?_)
              refine lv_iload hx hb dX11_count_80 (lv_at hl 4 rfl) ?_
              refine lv_aload_n hx hb dX11_count_82 rfl (lv_at hl 5 rfl) ?_
              refine lv_iload hx hb dX11_count_83 (lv_at hl 3 rfl) ?_
              obtain ⟨hPc, hDc, hFc⟩ := zc_sub (wc := [(om k0 a I0 J0), (oa (a 5) cI 201 st), (oa (a 6) cZ 201 tn)]) hP hD hS hA [0, 1, 2] rfl rfl
              refine zcall (st1 := [.int (pI (q < ft ∧ (st q).toInt = 1 ∧ (tn q).toInt = 0)), .int (nI (smP (lvF ft st tn) (fun g => nN (mn g)) q))]) (va_runV (As := [.int (nI q)]) (rest := [.int (nI (smP (lvF ft st tn) (fun g => nN (mn g)) q))]) ⟨hx, hb, hml, hown, hts⟩ (k_M_is_n l dC dI cI cZ cF H.size k0 a I0 J0 q ft st tn (by first | with_reducible assumption | assumption) (by first | with_reducible assumption | omega) (by first | with_reducible assumption | omega)) (csV_179 hts rfl rfl ⟨Nat.le_of_ble_eq_true rfl, Nat.le_of_ble_eq_true rfl⟩) (zPV2 (q0 := 0) (ci := 9) hPc hDc hK hXN rfl rfl) rfl rfl hl.1 rfl (lv_room (Nat.le_of_ble_eq_true rfl)) dX11_count_85 ⟨Nat.le_of_ble_eq_true rfl, Nat.le_of_ble_eq_true rfl⟩) hS hFc hFc rfl (fun t H locs ht hB hk1 hS => ?_)
              obtain ⟨hP1, hD1⟩ := hB
              rw [ht] at hP1
              obtain ⟨hP, hD⟩ := zk (W2 := [(om k0 a I0 J0), (oa (a 5) cI 201 st), (oa (a 6) cZ 201 tn), (oa (a 11) cI 201 mn)]) hP hD [0, 1, 2] [3] [3] [0, 1, 2] [1, 2, 3, 0] 4 rfl rfl rfl rfl rfl rfl rfl rfl rfl hk1 hFc hP1 hD1
              clear hk1 hPc hDc hFc hP1 hD1 ht
              refine lv_if_eq (tgt := 101) hx hb dX11_count_88 rfl (fun c_20 => ?_) (fun c_20 => ?_)
              · have c_20 : ¬ (q < ft ∧ (st q).toInt = 1 ∧ (tn q).toInt = 0) := zp_0 c_20
                refine lv_iconst (v := 0) hx hb dX11_count_101 rfl ?_
                refine lv_iadd hx hb dX11_count_102 ?_
                refine zz_i (v := nI ((smP (lvF ft st tn) (fun g => nN (mn g)) q) + 0)) (nI_add (smP (lvF ft st tn) (fun g => nN (mn g)) q) 0) ?_
                refine lv_istore (lv' := [(5, .int (nI ((smP (lvF ft st tn) (fun g => nN (mn g)) q) + 0))), (4, .int (nI ((cntP (fun g => ¬ (tn g).toInt = 0) q) + 0))), (3, .int (nI ((cntP (fun g => (st g).toInt = 2) q) + 1))), (2, .int (nI ((cntP (fun g => (st g).toInt = 1) q) + 0))), (6, .int (nI q)), (0, .ref k0), (1, .int w)]) hx hb dX11_count_103 hl (Nat.le_of_ble_eq_true rfl) rfl (fun ls hl => ?_)
                refine lv_iinc (v := nI (q + 1)) (lv' := [(6, .int (nI (q + 1))), (5, .int (nI ((smP (lvF ft st tn) (fun g => nN (mn g)) q) + 0))), (4, .int (nI ((cntP (fun g => ¬ (tn g).toInt = 0) q) + 0))), (3, .int (nI ((cntP (fun g => (st g).toInt = 2) q) + 1))), (2, .int (nI ((cntP (fun g => (st g).toInt = 1) q) + 0))), (0, .ref k0), (1, .int w)]) hx hb dX11_count_105 hl (k := 4) rfl (nI_add q 1) (Nat.le_of_ble_eq_true rfl) rfl (fun ls hl => ?_)
                refine lv_goto (tgt := 13) hx hb dX11_count_108 rfl ?_
                have hl9 := lv_sub hl [0, 1, 2, 3, 4, 5, 6] rfl
                have e9_2 : nI (cntP (fun g => (st g).toInt = 1) (q + 1)) = (nI ((cntP (fun g => (st g).toInt = 1) q) + 0) : Int32) := by first | exact congrArg nI (cntP_y (P := fun g => (st g).toInt = 1) (show (st q).toInt = 1 by omega)) | exact congrArg nI (cntP_n0 (P := fun g => (st g).toInt = 1) (show ¬ (st q).toInt = 1 by omega))
                have e9_3 : nI (cntP (fun g => (st g).toInt = 2) (q + 1)) = (nI ((cntP (fun g => (st g).toInt = 2) q) + 1) : Int32) := by first | exact congrArg nI (cntP_y (P := fun g => (st g).toInt = 2) (show (st q).toInt = 2 by omega)) | exact congrArg nI (cntP_n0 (P := fun g => (st g).toInt = 2) (show ¬ (st q).toInt = 2 by omega))
                have e9_4 : nI (cntP (fun g => ¬ (tn g).toInt = 0) (q + 1)) = (nI ((cntP (fun g => ¬ (tn g).toInt = 0) q) + 0) : Int32) := by first | exact congrArg nI (cntP_y (P := fun g => ¬ (tn g).toInt = 0) (show ¬ (tn q).toInt = 0 by omega)) | exact congrArg nI (cntP_n0 (P := fun g => ¬ (tn g).toInt = 0) (show ¬ ¬ (tn q).toInt = 0 by omega))
                have e9_5 : nI (smP (lvF ft st tn) (fun g => nN (mn g)) (q + 1)) = (nI ((smP (lvF ft st tn) (fun g => nN (mn g)) q) + 0) : Int32) := by first | exact congrArg nI (smP_y (P := lvF ft st tn) (by first | with_reducible assumption | assumption)) | exact congrArg nI (smP_n (P := lvF ft st tn) (by first | with_reducible assumption | assumption))
                have hl9 : lv_has ls 7 [(6, .int (nI (q + 1))), (5, .int (nI (smP (lvF ft st tn) (fun g => nN (mn g)) (q + 1)))), (4, .int (nI (cntP (fun g => ¬ (tn g).toInt = 0) (q + 1)))), (3, .int (nI (cntP (fun g => (st g).toInt = 2) (q + 1)))), (2, .int (nI (cntP (fun g => (st g).toInt = 1) (q + 1)))), (0, .ref k0), (1, .int w)] := by rw [e9_2]; rw [e9_3]; rw [e9_4]; rw [e9_5]; exact hl9
                exact ih_13 (q + 1) H locs ls (by first | with_reducible assumption | omega) (by first | with_reducible assumption | omega) hP hD hS hl9
              · have c_20 : q < ft ∧ (st q).toInt = 1 ∧ (tn q).toInt = 0 := zp_1 c_20
                refine lv_aload_n hx hb dX11_count_91 rfl (lv_at hl 5 rfl) ?_
                refine va_get (D := (dC, dI)) (ci := 9) (v := .ref (a 11)) (C := RX11) (T := TX11) (N := 55) hx hb hts inX11 hown hK hP 0 rfl rfl 11 (Nat.le_of_ble_eq_true rfl) (hts _ mw_1170) (fun _ h9 => h9) rfl dX11_count_92 ?_
                refine lv_iload hx hb dX11_count_95 (lv_at hl 3 rfl) ?_
                refine z_iald hx hb hK hP 3 0 rfl rfl (e := q) rfl b9_13 (Nat.le_of_ble_eq_true rfl) dX11_count_97 ?_
                refine zz_i (v := nI (nN (mn q))) ((hmw q (by first | with_reducible assumption | assumption)).1) ?_
                refine lv_goto (tgt := 102) hx hb dX11_count_98 rfl ?_
                refine lv_iadd hx hb dX11_count_102 ?_
                refine zz_i (v := nI ((smP (lvF ft st tn) (fun g => nN (mn g)) q) + (nN (mn q)))) (nI_add (smP (lvF ft st tn) (fun g => nN (mn g)) q) (nN (mn q))) ?_
                refine lv_istore (lv' := [(5, .int (nI ((smP (lvF ft st tn) (fun g => nN (mn g)) q) + (nN (mn q))))), (4, .int (nI ((cntP (fun g => ¬ (tn g).toInt = 0) q) + 0))), (3, .int (nI ((cntP (fun g => (st g).toInt = 2) q) + 1))), (2, .int (nI ((cntP (fun g => (st g).toInt = 1) q) + 0))), (6, .int (nI q)), (0, .ref k0), (1, .int w)]) hx hb dX11_count_103 hl (Nat.le_of_ble_eq_true rfl) rfl (fun ls hl => ?_)
                refine lv_iinc (v := nI (q + 1)) (lv' := [(6, .int (nI (q + 1))), (5, .int (nI ((smP (lvF ft st tn) (fun g => nN (mn g)) q) + (nN (mn q))))), (4, .int (nI ((cntP (fun g => ¬ (tn g).toInt = 0) q) + 0))), (3, .int (nI ((cntP (fun g => (st g).toInt = 2) q) + 1))), (2, .int (nI ((cntP (fun g => (st g).toInt = 1) q) + 0))), (0, .ref k0), (1, .int w)]) hx hb dX11_count_105 hl (k := 4) rfl (nI_add q 1) (Nat.le_of_ble_eq_true rfl) rfl (fun ls hl => ?_)
                refine lv_goto (tgt := 13) hx hb dX11_count_108 rfl ?_
                have hl9 := lv_sub hl [0, 1, 2, 3, 4, 5, 6] rfl
                have e9_2 : nI (cntP (fun g => (st g).toInt = 1) (q + 1)) = (nI ((cntP (fun g => (st g).toInt = 1) q) + 0) : Int32) := by first | exact congrArg nI (cntP_y (P := fun g => (st g).toInt = 1) (show (st q).toInt = 1 by omega)) | exact congrArg nI (cntP_n0 (P := fun g => (st g).toInt = 1) (show ¬ (st q).toInt = 1 by omega))
                have e9_3 : nI (cntP (fun g => (st g).toInt = 2) (q + 1)) = (nI ((cntP (fun g => (st g).toInt = 2) q) + 1) : Int32) := by first | exact congrArg nI (cntP_y (P := fun g => (st g).toInt = 2) (show (st q).toInt = 2 by omega)) | exact congrArg nI (cntP_n0 (P := fun g => (st g).toInt = 2) (show ¬ (st q).toInt = 2 by omega))
                have e9_4 : nI (cntP (fun g => ¬ (tn g).toInt = 0) (q + 1)) = (nI ((cntP (fun g => ¬ (tn g).toInt = 0) q) + 0) : Int32) := by first | exact congrArg nI (cntP_y (P := fun g => ¬ (tn g).toInt = 0) (show ¬ (tn q).toInt = 0 by omega)) | exact congrArg nI (cntP_n0 (P := fun g => ¬ (tn g).toInt = 0) (show ¬ ¬ (tn q).toInt = 0 by omega))
                have e9_5 : nI (smP (lvF ft st tn) (fun g => nN (mn g)) (q + 1)) = (nI ((smP (lvF ft st tn) (fun g => nN (mn g)) q) + (nN (mn q))) : Int32) := by first | exact congrArg nI (smP_y (P := lvF ft st tn) (by first | with_reducible assumption | assumption)) | exact congrArg nI (smP_n (P := lvF ft st tn) (by first | with_reducible assumption | assumption))
                have hl9 : lv_has ls 7 [(6, .int (nI (q + 1))), (5, .int (nI (smP (lvF ft st tn) (fun g => nN (mn g)) (q + 1)))), (4, .int (nI (cntP (fun g => ¬ (tn g).toInt = 0) (q + 1)))), (3, .int (nI (cntP (fun g => (st g).toInt = 2) (q + 1)))), (2, .int (nI (cntP (fun g => (st g).toInt = 1) (q + 1)))), (0, .ref k0), (1, .int w)] := by rw [e9_2]; rw [e9_3]; rw [e9_4]; rw [e9_5]; exact hl9
                exact ih_13 (q + 1) H locs ls (by first | with_reducible assumption | omega) (by first | with_reducible assumption | omega) hP hD hS hl9
            · have c_19 : ¬ (tn q).toInt = 0 := zc_ne rfl rfl c_19
              refine lv_iconst (v := 1) hx hb dX11_count_72 rfl ?_
              refine lv_goto (tgt := 77) hx hb dX11_count_73 rfl ?_
              refine lv_iadd hx hb dX11_count_77 ?_
              refine zz_i (v := nI ((cntP (fun g => ¬ (tn g).toInt = 0) q) + 1)) (nI_add (cntP (fun g => ¬ (tn g).toInt = 0) q) 1) ?_
              refine lv_istore (lv' := [(4, .int (nI ((cntP (fun g => ¬ (tn g).toInt = 0) q) + 1))), (3, .int (nI ((cntP (fun g => (st g).toInt = 2) q) + 1))), (2, .int (nI ((cntP (fun g => (st g).toInt = 1) q) + 0))), (6, .int (nI q)), (5, .int (nI (smP (lvF ft st tn) (fun g => nN (mn g)) q))), (0, .ref k0), (1, .int w)]) hx hb dX11_count_78 hl (Nat.le_of_ble_eq_true rfl) rfl (fun ls hl => ?_)
              refine lv_iload hx hb dX11_count_80 (lv_at hl 4 rfl) ?_
              refine lv_aload_n hx hb dX11_count_82 rfl (lv_at hl 5 rfl) ?_
              refine lv_iload hx hb dX11_count_83 (lv_at hl 3 rfl) ?_
              obtain ⟨hPc, hDc, hFc⟩ := zc_sub (wc := [(om k0 a I0 J0), (oa (a 5) cI 201 st), (oa (a 6) cZ 201 tn)]) hP hD hS hA [0, 1, 2] rfl rfl
              refine zcall (st1 := [.int (pI (q < ft ∧ (st q).toInt = 1 ∧ (tn q).toInt = 0)), .int (nI (smP (lvF ft st tn) (fun g => nN (mn g)) q))]) (va_runV (As := [.int (nI q)]) (rest := [.int (nI (smP (lvF ft st tn) (fun g => nN (mn g)) q))]) ⟨hx, hb, hml, hown, hts⟩ (k_M_is_n l dC dI cI cZ cF H.size k0 a I0 J0 q ft st tn (by first | with_reducible assumption | assumption) (by first | with_reducible assumption | omega) (by first | with_reducible assumption | omega)) (csV_179 hts rfl rfl ⟨Nat.le_of_ble_eq_true rfl, Nat.le_of_ble_eq_true rfl⟩) (zPV2 (q0 := 0) (ci := 9) hPc hDc hK hXN rfl rfl) rfl rfl hl.1 rfl (lv_room (Nat.le_of_ble_eq_true rfl)) dX11_count_85 ⟨Nat.le_of_ble_eq_true rfl, Nat.le_of_ble_eq_true rfl⟩) hS hFc hFc rfl (fun t H locs ht hB hk1 hS => ?_)
              obtain ⟨hP1, hD1⟩ := hB
              rw [ht] at hP1
              obtain ⟨hP, hD⟩ := zk (W2 := [(om k0 a I0 J0), (oa (a 5) cI 201 st), (oa (a 6) cZ 201 tn), (oa (a 11) cI 201 mn)]) hP hD [0, 1, 2] [3] [3] [0, 1, 2] [1, 2, 3, 0] 4 rfl rfl rfl rfl rfl rfl rfl rfl rfl hk1 hFc hP1 hD1
              clear hk1 hPc hDc hFc hP1 hD1 ht
              refine lv_if_eq (tgt := 101) hx hb dX11_count_88 rfl (fun c_21 => ?_) (fun c_21 => ?_)
              · have c_21 : ¬ (q < ft ∧ (st q).toInt = 1 ∧ (tn q).toInt = 0) := zp_0 c_21
                refine lv_iconst (v := 0) hx hb dX11_count_101 rfl ?_
                refine lv_iadd hx hb dX11_count_102 ?_
                refine zz_i (v := nI ((smP (lvF ft st tn) (fun g => nN (mn g)) q) + 0)) (nI_add (smP (lvF ft st tn) (fun g => nN (mn g)) q) 0) ?_
                refine lv_istore (lv' := [(5, .int (nI ((smP (lvF ft st tn) (fun g => nN (mn g)) q) + 0))), (4, .int (nI ((cntP (fun g => ¬ (tn g).toInt = 0) q) + 1))), (3, .int (nI ((cntP (fun g => (st g).toInt = 2) q) + 1))), (2, .int (nI ((cntP (fun g => (st g).toInt = 1) q) + 0))), (6, .int (nI q)), (0, .ref k0), (1, .int w)]) hx hb dX11_count_103 hl (Nat.le_of_ble_eq_true rfl) rfl (fun ls hl => ?_)
                refine lv_iinc (v := nI (q + 1)) (lv' := [(6, .int (nI (q + 1))), (5, .int (nI ((smP (lvF ft st tn) (fun g => nN (mn g)) q) + 0))), (4, .int (nI ((cntP (fun g => ¬ (tn g).toInt = 0) q) + 1))), (3, .int (nI ((cntP (fun g => (st g).toInt = 2) q) + 1))), (2, .int (nI ((cntP (fun g => (st g).toInt = 1) q) + 0))), (0, .ref k0), (1, .int w)]) hx hb dX11_count_105 hl (k := 4) rfl (nI_add q 1) (Nat.le_of_ble_eq_true rfl) rfl (fun ls hl => ?_)
                refine lv_goto (tgt := 13) hx hb dX11_count_108 rfl ?_
                have hl9 := lv_sub hl [0, 1, 2, 3, 4, 5, 6] rfl
                have e9_2 : nI (cntP (fun g => (st g).toInt = 1) (q + 1)) = (nI ((cntP (fun g => (st g).toInt = 1) q) + 0) : Int32) := by first | exact congrArg nI (cntP_y (P := fun g => (st g).toInt = 1) (show (st q).toInt = 1 by omega)) | exact congrArg nI (cntP_n0 (P := fun g => (st g).toInt = 1) (show ¬ (st q).toInt = 1 by omega))
                have e9_3 : nI (cntP (fun g => (st g).toInt = 2) (q + 1)) = (nI ((cntP (fun g => (st g).toInt = 2) q) + 1) : Int32) := by first | exact congrArg nI (cntP_y (P := fun g => (st g).toInt = 2) (show (st q).toInt = 2 by omega)) | exact congrArg nI (cntP_n0 (P := fun g => (st g).toInt = 2) (show ¬ (st q).toInt = 2 by omega))
                have e9_4 : nI (cntP (fun g => ¬ (tn g).toInt = 0) (q + 1)) = (nI ((cntP (fun g => ¬ (tn g).toInt = 0) q) + 1) : Int32) := by first | exact congrArg nI (cntP_y (P := fun g => ¬ (tn g).toInt = 0) (show ¬ (tn q).toInt = 0 by omega)) | exact congrArg nI (cntP_n0 (P := fun g => ¬ (tn g).toInt = 0) (show ¬ ¬ (tn q).toInt = 0 by omega))
                have e9_5 : nI (smP (lvF ft st tn) (fun g => nN (mn g)) (q + 1)) = (nI ((smP (lvF ft st tn) (fun g => nN (mn g)) q) + 0) : Int32) := by first | exact congrArg nI (smP_y (P := lvF ft st tn) (by first | with_reducible assumption | assumption)) | exact congrArg nI (smP_n (P := lvF ft st tn) (by first | with_reducible assumption | assumption))
                have hl9 : lv_has ls 7 [(6, .int (nI (q + 1))), (5, .int (nI (smP (lvF ft st tn) (fun g => nN (mn g)) (q + 1)))), (4, .int (nI (cntP (fun g => ¬ (tn g).toInt = 0) (q + 1)))), (3, .int (nI (cntP (fun g => (st g).toInt = 2) (q + 1)))), (2, .int (nI (cntP (fun g => (st g).toInt = 1) (q + 1)))), (0, .ref k0), (1, .int w)] := by rw [e9_2]; rw [e9_3]; rw [e9_4]; rw [e9_5]; exact hl9
                exact ih_13 (q + 1) H locs ls (by first | with_reducible assumption | omega) (by first | with_reducible assumption | omega) hP hD hS hl9
              · have c_21 : q < ft ∧ (st q).toInt = 1 ∧ (tn q).toInt = 0 := zp_1 c_21
                refine lv_aload_n hx hb dX11_count_91 rfl (lv_at hl 5 rfl) ?_
                refine va_get (D := (dC, dI)) (ci := 9) (v := .ref (a 11)) (C := RX11) (T := TX11) (N := 55) hx hb hts inX11 hown hK hP 0 rfl rfl 11 (Nat.le_of_ble_eq_true rfl) (hts _ mw_1170) (fun _ h9 => h9) rfl dX11_count_92 ?_
                refine lv_iload hx hb dX11_count_95 (lv_at hl 3 rfl) ?_
                refine z_iald hx hb hK hP 3 0 rfl rfl (e := q) rfl b9_13 (Nat.le_of_ble_eq_true rfl) dX11_count_97 ?_
                refine zz_i (v := nI (nN (mn q))) ((hmw q (by first | with_reducible assumption | assumption)).1) ?_
                refine lv_goto (tgt := 102) hx hb dX11_count_98 rfl ?_
                refine lv_iadd hx hb dX11_count_102 ?_
                refine zz_i (v := nI ((smP (lvF ft st tn) (fun g => nN (mn g)) q) + (nN (mn q)))) (nI_add (smP (lvF ft st tn) (fun g => nN (mn g)) q) (nN (mn q))) ?_
                refine lv_istore (lv' := [(5, .int (nI ((smP (lvF ft st tn) (fun g => nN (mn g)) q) + (nN (mn q))))), (4, .int (nI ((cntP (fun g => ¬ (tn g).toInt = 0) q) + 1))), (3, .int (nI ((cntP (fun g => (st g).toInt = 2) q) + 1))), (2, .int (nI ((cntP (fun g => (st g).toInt = 1) q) + 0))), (6, .int (nI q)), (0, .ref k0), (1, .int w)]) hx hb dX11_count_103 hl (Nat.le_of_ble_eq_true rfl) rfl (fun ls hl => ?_)
                refine lv_iinc (v := nI (q + 1)) (lv' := [(6, .int (nI (q + 1))), (5, .int (nI ((smP (lvF ft st tn) (fun g => nN (mn g)) q) + (nN (mn q))))), (4, .int (nI ((cntP (fun g => ¬ (tn g).toInt = 0) q) + 1))), (3, .int (nI ((cntP (fun g => (st g).toInt = 2) q) + 1))), (2, .int (nI ((cntP (fun g => (st g).toInt = 1) q) + 0))), (0, .ref k0), (1, .int w)]) hx hb dX11_count_105 hl (k := 4) rfl (nI_add q 1) (Nat.le_of_ble_eq_true rfl) rfl (fun ls hl => ?_)
                refine lv_goto (tgt := 13) hx hb dX11_count_108 rfl ?_
                have hl9 := lv_sub hl [0, 1, 2, 3, 4, 5, 6] rfl
                have e9_2 : nI (cntP (fun g => (st g).toInt = 1) (q + 1)) = (nI ((cntP (fun g => (st g).toInt = 1) q) + 0) : Int32) := by first | exact congrArg nI (cntP_y (P := fun g => (st g).toInt = 1) (show (st q).toInt = 1 by omega)) | exact congrArg nI (cntP_n0 (P := fun g => (st g).toInt = 1) (show ¬ (st q).toInt = 1 by omega))
                have e9_3 : nI (cntP (fun g => (st g).toInt = 2) (q + 1)) = (nI ((cntP (fun g => (st g).toInt = 2) q) + 1) : Int32) := by first | exact congrArg nI (cntP_y (P := fun g => (st g).toInt = 2) (show (st q).toInt = 2 by omega)) | exact congrArg nI (cntP_n0 (P := fun g => (st g).toInt = 2) (show ¬ (st q).toInt = 2 by omega))
                have e9_4 : nI (cntP (fun g => ¬ (tn g).toInt = 0) (q + 1)) = (nI ((cntP (fun g => ¬ (tn g).toInt = 0) q) + 1) : Int32) := by first | exact congrArg nI (cntP_y (P := fun g => ¬ (tn g).toInt = 0) (show ¬ (tn q).toInt = 0 by omega)) | exact congrArg nI (cntP_n0 (P := fun g => ¬ (tn g).toInt = 0) (show ¬ ¬ (tn q).toInt = 0 by omega))
                have e9_5 : nI (smP (lvF ft st tn) (fun g => nN (mn g)) (q + 1)) = (nI ((smP (lvF ft st tn) (fun g => nN (mn g)) q) + (nN (mn q))) : Int32) := by first | exact congrArg nI (smP_y (P := lvF ft st tn) (by first | with_reducible assumption | assumption)) | exact congrArg nI (smP_n (P := lvF ft st tn) (by first | with_reducible assumption | assumption))
                have hl9 : lv_has ls 7 [(6, .int (nI (q + 1))), (5, .int (nI (smP (lvF ft st tn) (fun g => nN (mn g)) (q + 1)))), (4, .int (nI (cntP (fun g => ¬ (tn g).toInt = 0) (q + 1)))), (3, .int (nI (cntP (fun g => (st g).toInt = 2) (q + 1)))), (2, .int (nI (cntP (fun g => (st g).toInt = 1) (q + 1)))), (0, .ref k0), (1, .int w)] := by rw [e9_2]; rw [e9_3]; rw [e9_4]; rw [e9_5]; exact hl9
                exact ih_13 (q + 1) H locs ls (by first | with_reducible assumption | omega) (by first | with_reducible assumption | omega) hP hD hS hl9
        · have c_14 : (st q).toInt = 1 := zc_eq rfl rfl c_14
          refine lv_iconst (v := 1) hx hb dX11_count_34 rfl ?_
          refine lv_goto (tgt := 39) hx hb dX11_count_35 rfl ?_
          refine lv_iadd hx hb dX11_count_39 ?_
          refine zz_i (v := nI ((cntP (fun g => (st g).toInt = 1) q) + 1)) (nI_add (cntP (fun g => (st g).toInt = 1) q) 1) ?_
          refine lv_istore_n (lv' := [(2, .int (nI ((cntP (fun g => (st g).toInt = 1) q) + 1))), (6, .int (nI q)), (5, .int (nI (smP (lvF ft st tn) (fun g => nN (mn g)) q))), (4, .int (nI (cntP (fun g => ¬ (tn g).toInt = 0) q))), (3, .int (nI (cntP (fun g => (st g).toInt = 2) q))), (0, .ref k0), (1, .int w)]) hx hb dX11_count_40 rfl hl (Nat.le_of_ble_eq_true rfl) rfl (fun ls hl => ?_)
          refine lv_iload_n hx hb dX11_count_41 rfl (lv_at hl 4 rfl) ?_
          refine lv_aload_n hx hb dX11_count_42 rfl (lv_at hl 5 rfl) ?_
          refine va_get (D := (dC, dI)) (ci := 9) (v := .ref (a 5)) (C := RX11) (T := TX11) (N := 55) hx hb hts inX11 hown hK hP 0 rfl rfl 5 (Nat.le_of_ble_eq_true rfl) (hts _ mw_1164) (fun _ h9 => h9) rfl dX11_count_43 ?_
          refine lv_iload hx hb dX11_count_46 (lv_at hl 1 rfl) ?_
          refine z_iald hx hb hK hP 1 0 rfl rfl (e := q) rfl b9_13 (Nat.le_of_ble_eq_true rfl) dX11_count_48 ?_
          refine lv_iconst (v := 2) hx hb dX11_count_49 rfl ?_
          refine lv_icmp_ne (tgt := 57) hx hb dX11_count_50 rfl (fun c_22 => ?_) (fun c_22 => ?_)
          · have c_22 : ¬ (st q).toInt = 2 := zc_ne rfl rfl c_22
            refine lv_iconst (v := 0) hx hb dX11_count_57 rfl ?_
            refine lv_iadd hx hb dX11_count_58 ?_
            refine zz_i (v := nI ((cntP (fun g => (st g).toInt = 2) q) + 0)) (nI_add (cntP (fun g => (st g).toInt = 2) q) 0) ?_
            refine lv_istore_n (lv' := [(3, .int (nI ((cntP (fun g => (st g).toInt = 2) q) + 0))), (2, .int (nI ((cntP (fun g => (st g).toInt = 1) q) + 1))), (6, .int (nI q)), (5, .int (nI (smP (lvF ft st tn) (fun g => nN (mn g)) q))), (4, .int (nI (cntP (fun g => ¬ (tn g).toInt = 0) q))), (0, .ref k0), (1, .int w)]) hx hb dX11_count_59 rfl hl (Nat.le_of_ble_eq_true rfl) rfl (fun ls hl => ?_)
            refine lv_iload hx hb dX11_count_60 (lv_at hl 4 rfl) ?_
            refine lv_aload_n hx hb dX11_count_62 rfl (lv_at hl 5 rfl) ?_
            refine va_get (D := (dC, dI)) (ci := 9) (v := .ref (a 6)) (C := RX11) (T := TX11) (N := 55) hx hb hts inX11 hown hK hP 0 rfl rfl 6 (Nat.le_of_ble_eq_true rfl) (hts _ mw_1165) (fun _ h9 => h9) rfl dX11_count_63 ?_
            refine lv_iload hx hb dX11_count_66 (lv_at hl 2 rfl) ?_
            refine z_zald hx hb hK hP 2 1 rfl rfl (e := q) rfl b9_13 (Nat.le_of_ble_eq_true rfl) dX11_count_68 ?_
            refine lv_if_eq (tgt := 76) hx hb dX11_count_69 rfl (fun c_23 => ?_) (fun c_23 => ?_)
            · have c_23 : (tn q).toInt = 0 := zc_eq rfl rfl c_23
              refine lv_iconst (v := 0) hx hb dX11_count_76 rfl ?_
              refine lv_iadd hx hb dX11_count_77 ?_
              refine zz_i (v := nI ((cntP (fun g => ¬ (tn g).toInt = 0) q) + 0)) (nI_add (cntP (fun g => ¬ (tn g).toInt = 0) q) 0) ?_
              refine lv_istore (lv' := [(4, .int (nI ((cntP (fun g => ¬ (tn g).toInt = 0) q) + 0))), (3, .int (nI ((cntP (fun g => (st g).toInt = 2) q) + 0))), (2, .int (nI ((cntP (fun g => (st g).toInt = 1) q) + 1))), (6, .int (nI q)), (5, .int (nI (smP (lvF ft st tn) (fun g => nN (mn g)) q))), (0, .ref k0), (1, .int w)]) hx hb dX11_count_78 hl (Nat.le_of_ble_eq_true rfl) rfl (fun ls hl => ?_)
              refine lv_iload hx hb dX11_count_80 (lv_at hl 4 rfl) ?_
              refine lv_aload_n hx hb dX11_count_82 rfl (lv_at hl 5 rfl) ?_
              refine lv_iload hx hb dX11_count_83 (lv_at hl 3 rfl) ?_
              obtain ⟨hPc, hDc, hFc⟩ := zc_sub (wc := [(om k0 a I0 J0), (oa (a 5) cI 201 st), (oa (a 6) cZ 201 tn)]) hP hD hS hA [0, 1, 2] rfl rfl
              refine zcall (st1 := [.int (pI (q < ft ∧ (st q).toInt = 1 ∧ (tn q).toInt = 0)), .int (nI (smP (lvF ft st tn) (fun g => nN (mn g)) q))]) (va_runV (As := [.int (nI q)]) (rest := [.int (nI (smP (lvF ft st tn) (fun g => nN (mn g)) q))]) ⟨hx, hb, hml, hown, hts⟩ (k_M_is_n l dC dI cI cZ cF H.size k0 a I0 J0 q ft st tn (by first | with_reducible assumption | assumption) (by first | with_reducible assumption | omega) (by first | with_reducible assumption | omega)) (csV_179 hts rfl rfl ⟨Nat.le_of_ble_eq_true rfl, Nat.le_of_ble_eq_true rfl⟩) (zPV2 (q0 := 0) (ci := 9) hPc hDc hK hXN rfl rfl) rfl rfl hl.1 rfl (lv_room (Nat.le_of_ble_eq_true rfl)) dX11_count_85 ⟨Nat.le_of_ble_eq_true rfl, Nat.le_of_ble_eq_true rfl⟩) hS hFc hFc rfl (fun t H locs ht hB hk1 hS => ?_)
              obtain ⟨hP1, hD1⟩ := hB
              rw [ht] at hP1
              obtain ⟨hP, hD⟩ := zk (W2 := [(om k0 a I0 J0), (oa (a 5) cI 201 st), (oa (a 6) cZ 201 tn), (oa (a 11) cI 201 mn)]) hP hD [0, 1, 2] [3] [3] [0, 1, 2] [1, 2, 3, 0] 4 rfl rfl rfl rfl rfl rfl rfl rfl rfl hk1 hFc hP1 hD1
              clear hk1 hPc hDc hFc hP1 hD1 ht
              refine lv_if_eq (tgt := 101) hx hb dX11_count_88 rfl (fun c_24 => ?_) (fun c_24 => ?_)
              · have c_24 : ¬ (q < ft ∧ (st q).toInt = 1 ∧ (tn q).toInt = 0) := zp_0 c_24
                refine lv_iconst (v := 0) hx hb dX11_count_101 rfl ?_
                refine lv_iadd hx hb dX11_count_102 ?_
                refine zz_i (v := nI ((smP (lvF ft st tn) (fun g => nN (mn g)) q) + 0)) (nI_add (smP (lvF ft st tn) (fun g => nN (mn g)) q) 0) ?_
                refine lv_istore (lv' := [(5, .int (nI ((smP (lvF ft st tn) (fun g => nN (mn g)) q) + 0))), (4, .int (nI ((cntP (fun g => ¬ (tn g).toInt = 0) q) + 0))), (3, .int (nI ((cntP (fun g => (st g).toInt = 2) q) + 0))), (2, .int (nI ((cntP (fun g => (st g).toInt = 1) q) + 1))), (6, .int (nI q)), (0, .ref k0), (1, .int w)]) hx hb dX11_count_103 hl (Nat.le_of_ble_eq_true rfl) rfl (fun ls hl => ?_)
                refine lv_iinc (v := nI (q + 1)) (lv' := [(6, .int (nI (q + 1))), (5, .int (nI ((smP (lvF ft st tn) (fun g => nN (mn g)) q) + 0))), (4, .int (nI ((cntP (fun g => ¬ (tn g).toInt = 0) q) + 0))), (3, .int (nI ((cntP (fun g => (st g).toInt = 2) q) + 0))), (2, .int (nI ((cntP (fun g => (st g).toInt = 1) q) + 1))), (0, .ref k0), (1, .int w)]) hx hb dX11_count_105 hl (k := 4) rfl (nI_add q 1) (Nat.le_of_ble_eq_true rfl) rfl (fun ls hl => ?_)
                refine lv_goto (tgt := 13) hx hb dX11_count_108 rfl ?_
                have hl9 := lv_sub hl [0, 1, 2, 3, 4, 5, 6] rfl
                have e9_2 : nI (cntP (fun g => (st g).toInt = 1) (q + 1)) = (nI ((cntP (fun g => (st g).toInt = 1) q) + 1) : Int32) := by first | exact congrArg nI (cntP_y (P := fun g => (st g).toInt = 1) (show (st q).toInt = 1 by omega)) | exact congrArg nI (cntP_n0 (P := fun g => (st g).toInt = 1) (show ¬ (st q).toInt = 1 by omega))
                have e9_3 : nI (cntP (fun g => (st g).toInt = 2) (q + 1)) = (nI ((cntP (fun g => (st g).toInt = 2) q) + 0) : Int32) := by first | exact congrArg nI (cntP_y (P := fun g => (st g).toInt = 2) (show (st q).toInt = 2 by omega)) | exact congrArg nI (cntP_n0 (P := fun g => (st g).toInt = 2) (show ¬ (st q).toInt = 2 by omega))
                have e9_4 : nI (cntP (fun g => ¬ (tn g).toInt = 0) (q + 1)) = (nI ((cntP (fun g => ¬ (tn g).toInt = 0) q) + 0) : Int32) := by first | exact congrArg nI (cntP_y (P := fun g => ¬ (tn g).toInt = 0) (show ¬ (tn q).toInt = 0 by omega)) | exact congrArg nI (cntP_n0 (P := fun g => ¬ (tn g).toInt = 0) (show ¬ ¬ (tn q).toInt = 0 by omega))
                have e9_5 : nI (smP (lvF ft st tn) (fun g => nN (mn g)) (q + 1)) = (nI ((smP (lvF ft st tn) (fun g => nN (mn g)) q) + 0) : Int32) := by first | exact congrArg nI (smP_y (P := lvF ft st tn) (by first | with_reducible assumption | assumption)) | exact congrArg nI (smP_n (P := lvF ft st tn) (by first | with_reducible assumption | assumption))
                have hl9 : lv_has ls 7 [(6, .int (nI (q + 1))), (5, .int (nI (smP (lvF ft st tn) (fun g => nN (mn g)) (q + 1)))), (4, .int (nI (cntP (fun g => ¬ (tn g).toInt = 0) (q + 1)))), (3, .int (nI (cntP (fun g => (st g).toInt = 2) (q + 1)))), (2, .int (nI (cntP (fun g => (st g).toInt = 1) (q + 1)))), (0, .ref k0), (1, .int w)] := by rw [e9_2]; rw [e9_3]; rw [e9_4]; rw [e9_5]; exact hl9
                exact ih_13 (q + 1) H locs ls (by first | with_reducible assumption | omega) (by first | with_reducible assumption | omega) hP hD hS hl9
              · have c_24 : q < ft ∧ (st q).toInt = 1 ∧ (tn q).toInt = 0 := zp_1 c_24
                refine lv_aload_n hx hb dX11_count_91 rfl (lv_at hl 5 rfl) ?_
                refine va_get (D := (dC, dI)) (ci := 9) (v := .ref (a 11)) (C := RX11) (T := TX11) (N := 55) hx hb hts inX11 hown hK hP 0 rfl rfl 11 (Nat.le_of_ble_eq_true rfl) (hts _ mw_1170) (fun _ h9 => h9) rfl dX11_count_92 ?_
                refine lv_iload hx hb dX11_count_95 (lv_at hl 3 rfl) ?_
                refine z_iald hx hb hK hP 3 0 rfl rfl (e := q) rfl b9_13 (Nat.le_of_ble_eq_true rfl) dX11_count_97 ?_
                refine zz_i (v := nI (nN (mn q))) ((hmw q (by first | with_reducible assumption | assumption)).1) ?_
                refine lv_goto (tgt := 102) hx hb dX11_count_98 rfl ?_
                refine lv_iadd hx hb dX11_count_102 ?_
                refine zz_i (v := nI ((smP (lvF ft st tn) (fun g => nN (mn g)) q) + (nN (mn q)))) (nI_add (smP (lvF ft st tn) (fun g => nN (mn g)) q) (nN (mn q))) ?_
                refine lv_istore (lv' := [(5, .int (nI ((smP (lvF ft st tn) (fun g => nN (mn g)) q) + (nN (mn q))))), (4, .int (nI ((cntP (fun g => ¬ (tn g).toInt = 0) q) + 0))), (3, .int (nI ((cntP (fun g => (st g).toInt = 2) q) + 0))), (2, .int (nI ((cntP (fun g => (st g).toInt = 1) q) + 1))), (6, .int (nI q)), (0, .ref k0), (1, .int w)]) hx hb dX11_count_103 hl (Nat.le_of_ble_eq_true rfl) rfl (fun ls hl => ?_)
                refine lv_iinc (v := nI (q + 1)) (lv' := [(6, .int (nI (q + 1))), (5, .int (nI ((smP (lvF ft st tn) (fun g => nN (mn g)) q) + (nN (mn q))))), (4, .int (nI ((cntP (fun g => ¬ (tn g).toInt = 0) q) + 0))), (3, .int (nI ((cntP (fun g => (st g).toInt = 2) q) + 0))), (2, .int (nI ((cntP (fun g => (st g).toInt = 1) q) + 1))), (0, .ref k0), (1, .int w)]) hx hb dX11_count_105 hl (k := 4) rfl (nI_add q 1) (Nat.le_of_ble_eq_true rfl) rfl (fun ls hl => ?_)
                refine lv_goto (tgt := 13) hx hb dX11_count_108 rfl ?_
                have hl9 := lv_sub hl [0, 1, 2, 3, 4, 5, 6] rfl
                have e9_2 : nI (cntP (fun g => (st g).toInt = 1) (q + 1)) = (nI ((cntP (fun g => (st g).toInt = 1) q) + 1) : Int32) := by first | exact congrArg nI (cntP_y (P := fun g => (st g).toInt = 1) (show (st q).toInt = 1 by omega)) | exact congrArg nI (cntP_n0 (P := fun g => (st g).toInt = 1) (show ¬ (st q).toInt = 1 by omega))
                have e9_3 : nI (cntP (fun g => (st g).toInt = 2) (q + 1)) = (nI ((cntP (fun g => (st g).toInt = 2) q) + 0) : Int32) := by first | exact congrArg nI (cntP_y (P := fun g => (st g).toInt = 2) (show (st q).toInt = 2 by omega)) | exact congrArg nI (cntP_n0 (P := fun g => (st g).toInt = 2) (show ¬ (st q).toInt = 2 by omega))
                have e9_4 : nI (cntP (fun g => ¬ (tn g).toInt = 0) (q + 1)) = (nI ((cntP (fun g => ¬ (tn g).toInt = 0) q) + 0) : Int32) := by first | exact congrArg nI (cntP_y (P := fun g => ¬ (tn g).toInt = 0) (show ¬ (tn q).toInt = 0 by omega)) | exact congrArg nI (cntP_n0 (P := fun g => ¬ (tn g).toInt = 0) (show ¬ ¬ (tn q).toInt = 0 by omega))
                have e9_5 : nI (smP (lvF ft st tn) (fun g => nN (mn g)) (q + 1)) = (nI ((smP (lvF ft st tn) (fun g => nN (mn g)) q) + (nN (mn q))) : Int32) := by first | exact congrArg nI (smP_y (P := lvF ft st tn) (by first | with_reducible assumption | assumption)) | exact congrArg nI (smP_n (P := lvF ft st tn) (by first | with_reducible assumption | assumption))
                have hl9 : lv_has ls 7 [(6, .int (nI (q + 1))), (5, .int (nI (smP (lvF ft st tn) (fun g => nN (mn g)) (q + 1)))), (4, .int (nI (cntP (fun g => ¬ (tn g).toInt = 0) (q + 1)))), (3, .int (nI (cntP (fun g => (st g).toInt = 2) (q + 1)))), (2, .int (nI (cntP (fun g => (st g).toInt = 1) (q + 1)))), (0, .ref k0), (1, .int w)] := by rw [e9_2]; rw [e9_3]; rw [e9_4]; rw [e9_5]; exact hl9
                exact ih_13 (q + 1) H locs ls (by first | with_reducible assumption | omega) (by first | with_reducible assumption | omega) hP hD hS hl9
            · have c_23 : ¬ (tn q).toInt = 0 := zc_ne rfl rfl c_23
              refine lv_iconst (v := 1) hx hb dX11_count_72 rfl ?_
              refine lv_goto (tgt := 77) hx hb dX11_count_73 rfl ?_
              refine lv_iadd hx hb dX11_count_77 ?_
              refine zz_i (v := nI ((cntP (fun g => ¬ (tn g).toInt = 0) q) + 1)) (nI_add (cntP (fun g => ¬ (tn g).toInt = 0) q) 1) ?_
              refine lv_istore (lv' := [(4, .int (nI ((cntP (fun g => ¬ (tn g).toInt = 0) q) + 1))), (3, .int (nI ((cntP (fun g => (st g).toInt = 2) q) + 0))), (2, .int (nI ((cntP (fun g => (st g).toInt = 1) q) + 1))), (6, .int (nI q)), (5, .int (nI (smP (lvF ft st tn) (fun g => nN (mn g)) q))), (0, .ref k0), (1, .int w)]) hx hb dX11_count_78 hl (Nat.le_of_ble_eq_true rfl) rfl (fun ls hl => ?_)
              refine lv_iload hx hb dX11_count_80 (lv_at hl 4 rfl) ?_
              refine lv_aload_n hx hb dX11_count_82 rfl (lv_at hl 5 rfl) ?_
              refine lv_iload hx hb dX11_count_83 (lv_at hl 3 rfl) ?_
              obtain ⟨hPc, hDc, hFc⟩ := zc_sub (wc := [(om k0 a I0 J0), (oa (a 5) cI 201 st), (oa (a 6) cZ 201 tn)]) hP hD hS hA [0, 1, 2] rfl rfl
              refine zcall (st1 := [.int (pI (q < ft ∧ (st q).toInt = 1 ∧ (tn q).toInt = 0)), .int (nI (smP (lvF ft st tn) (fun g => nN (mn g)) q))]) (va_runV (As := [.int (nI q)]) (rest := [.int (nI (smP (lvF ft st tn) (fun g => nN (mn g)) q))]) ⟨hx, hb, hml, hown, hts⟩ (k_M_is_n l dC dI cI cZ cF H.size k0 a I0 J0 q ft st tn (by first | with_reducible assumption | assumption) (by first | with_reducible assumption | omega) (by first | with_reducible assumption | omega)) (csV_179 hts rfl rfl ⟨Nat.le_of_ble_eq_true rfl, Nat.le_of_ble_eq_true rfl⟩) (zPV2 (q0 := 0) (ci := 9) hPc hDc hK hXN rfl rfl) rfl rfl hl.1 rfl (lv_room (Nat.le_of_ble_eq_true rfl)) dX11_count_85 ⟨Nat.le_of_ble_eq_true rfl, Nat.le_of_ble_eq_true rfl⟩) hS hFc hFc rfl (fun t H locs ht hB hk1 hS => ?_)
              obtain ⟨hP1, hD1⟩ := hB
              rw [ht] at hP1
              obtain ⟨hP, hD⟩ := zk (W2 := [(om k0 a I0 J0), (oa (a 5) cI 201 st), (oa (a 6) cZ 201 tn), (oa (a 11) cI 201 mn)]) hP hD [0, 1, 2] [3] [3] [0, 1, 2] [1, 2, 3, 0] 4 rfl rfl rfl rfl rfl rfl rfl rfl rfl hk1 hFc hP1 hD1
              clear hk1 hPc hDc hFc hP1 hD1 ht
              refine lv_if_eq (tgt := 101) hx hb dX11_count_88 rfl (fun c_25 => ?_) (fun c_25 => ?_)
              · have c_25 : ¬ (q < ft ∧ (st q).toInt = 1 ∧ (tn q).toInt = 0) := zp_0 c_25
                refine lv_iconst (v := 0) hx hb dX11_count_101 rfl ?_
                refine lv_iadd hx hb dX11_count_102 ?_
                refine zz_i (v := nI ((smP (lvF ft st tn) (fun g => nN (mn g)) q) + 0)) (nI_add (smP (lvF ft st tn) (fun g => nN (mn g)) q) 0) ?_
                refine lv_istore (lv' := [(5, .int (nI ((smP (lvF ft st tn) (fun g => nN (mn g)) q) + 0))), (4, .int (nI ((cntP (fun g => ¬ (tn g).toInt = 0) q) + 1))), (3, .int (nI ((cntP (fun g => (st g).toInt = 2) q) + 0))), (2, .int (nI ((cntP (fun g => (st g).toInt = 1) q) + 1))), (6, .int (nI q)), (0, .ref k0), (1, .int w)]) hx hb dX11_count_103 hl (Nat.le_of_ble_eq_true rfl) rfl (fun ls hl => ?_)
                refine lv_iinc (v := nI (q + 1)) (lv' := [(6, .int (nI (q + 1))), (5, .int (nI ((smP (lvF ft st tn) (fun g => nN (mn g)) q) + 0))), (4, .int (nI ((cntP (fun g => ¬ (tn g).toInt = 0) q) + 1))), (3, .int (nI ((cntP (fun g => (st g).toInt = 2) q) + 0))), (2, .int (nI ((cntP (fun g => (st g).toInt = 1) q) + 1))), (0, .ref k0), (1, .int w)]) hx hb dX11_count_105 hl (k := 4) rfl (nI_add q 1) (Nat.le_of_ble_eq_true rfl) rfl (fun ls hl => ?_)
                refine lv_goto (tgt := 13) hx hb dX11_count_108 rfl ?_
                have hl9 := lv_sub hl [0, 1, 2, 3, 4, 5, 6] rfl
                have e9_2 : nI (cntP (fun g => (st g).toInt = 1) (q + 1)) = (nI ((cntP (fun g => (st g).toInt = 1) q) + 1) : Int32) := by first | exact congrArg nI (cntP_y (P := fun g => (st g).toInt = 1) (show (st q).toInt = 1 by omega)) | exact congrArg nI (cntP_n0 (P := fun g => (st g).toInt = 1) (show ¬ (st q).toInt = 1 by omega))
                have e9_3 : nI (cntP (fun g => (st g).toInt = 2) (q + 1)) = (nI ((cntP (fun g => (st g).toInt = 2) q) + 0) : Int32) := by first | exact congrArg nI (cntP_y (P := fun g => (st g).toInt = 2) (show (st q).toInt = 2 by omega)) | exact congrArg nI (cntP_n0 (P := fun g => (st g).toInt = 2) (show ¬ (st q).toInt = 2 by omega))
                have e9_4 : nI (cntP (fun g => ¬ (tn g).toInt = 0) (q + 1)) = (nI ((cntP (fun g => ¬ (tn g).toInt = 0) q) + 1) : Int32) := by first | exact congrArg nI (cntP_y (P := fun g => ¬ (tn g).toInt = 0) (show ¬ (tn q).toInt = 0 by omega)) | exact congrArg nI (cntP_n0 (P := fun g => ¬ (tn g).toInt = 0) (show ¬ ¬ (tn q).toInt = 0 by omega))
                have e9_5 : nI (smP (lvF ft st tn) (fun g => nN (mn g)) (q + 1)) = (nI ((smP (lvF ft st tn) (fun g => nN (mn g)) q) + 0) : Int32) := by first | exact congrArg nI (smP_y (P := lvF ft st tn) (by first | with_reducible assumption | assumption)) | exact congrArg nI (smP_n (P := lvF ft st tn) (by first | with_reducible assumption | assumption))
                have hl9 : lv_has ls 7 [(6, .int (nI (q + 1))), (5, .int (nI (smP (lvF ft st tn) (fun g => nN (mn g)) (q + 1)))), (4, .int (nI (cntP (fun g => ¬ (tn g).toInt = 0) (q + 1)))), (3, .int (nI (cntP (fun g => (st g).toInt = 2) (q + 1)))), (2, .int (nI (cntP (fun g => (st g).toInt = 1) (q + 1)))), (0, .ref k0), (1, .int w)] := by rw [e9_2]; rw [e9_3]; rw [e9_4]; rw [e9_5]; exact hl9
                exact ih_13 (q + 1) H locs ls (by first | with_reducible assumption | omega) (by first | with_reducible assumption | omega) hP hD hS hl9
              · have c_25 : q < ft ∧ (st q).toInt = 1 ∧ (tn q).toInt = 0 := zp_1 c_25
                refine lv_aload_n hx hb dX11_count_91 rfl (lv_at hl 5 rfl) ?_
                refine va_get (D := (dC, dI)) (ci := 9) (v := .ref (a 11)) (C := RX11) (T := TX11) (N := 55) hx hb hts inX11 hown hK hP 0 rfl rfl 11 (Nat.le_of_ble_eq_true rfl) (hts _ mw_1170) (fun _ h9 => h9) rfl dX11_count_92 ?_
                refine lv_iload hx hb dX11_count_95 (lv_at hl 3 rfl) ?_
                refine z_iald hx hb hK hP 3 0 rfl rfl (e := q) rfl b9_13 (Nat.le_of_ble_eq_true rfl) dX11_count_97 ?_
                refine zz_i (v := nI (nN (mn q))) ((hmw q (by first | with_reducible assumption | assumption)).1) ?_
                refine lv_goto (tgt := 102) hx hb dX11_count_98 rfl ?_
                refine lv_iadd hx hb dX11_count_102 ?_
                refine zz_i (v := nI ((smP (lvF ft st tn) (fun g => nN (mn g)) q) + (nN (mn q)))) (nI_add (smP (lvF ft st tn) (fun g => nN (mn g)) q) (nN (mn q))) ?_
                refine lv_istore (lv' := [(5, .int (nI ((smP (lvF ft st tn) (fun g => nN (mn g)) q) + (nN (mn q))))), (4, .int (nI ((cntP (fun g => ¬ (tn g).toInt = 0) q) + 1))), (3, .int (nI ((cntP (fun g => (st g).toInt = 2) q) + 0))), (2, .int (nI ((cntP (fun g => (st g).toInt = 1) q) + 1))), (6, .int (nI q)), (0, .ref k0), (1, .int w)]) hx hb dX11_count_103 hl (Nat.le_of_ble_eq_true rfl) rfl (fun ls hl => ?_)
                refine lv_iinc (v := nI (q + 1)) (lv' := [(6, .int (nI (q + 1))), (5, .int (nI ((smP (lvF ft st tn) (fun g => nN (mn g)) q) + (nN (mn q))))), (4, .int (nI ((cntP (fun g => ¬ (tn g).toInt = 0) q) + 1))), (3, .int (nI ((cntP (fun g => (st g).toInt = 2) q) + 0))), (2, .int (nI ((cntP (fun g => (st g).toInt = 1) q) + 1))), (0, .ref k0), (1, .int w)]) hx hb dX11_count_105 hl (k := 4) rfl (nI_add q 1) (Nat.le_of_ble_eq_true rfl) rfl (fun ls hl => ?_)
                refine lv_goto (tgt := 13) hx hb dX11_count_108 rfl ?_
                have hl9 := lv_sub hl [0, 1, 2, 3, 4, 5, 6] rfl
                have e9_2 : nI (cntP (fun g => (st g).toInt = 1) (q + 1)) = (nI ((cntP (fun g => (st g).toInt = 1) q) + 1) : Int32) := by first | exact congrArg nI (cntP_y (P := fun g => (st g).toInt = 1) (show (st q).toInt = 1 by omega)) | exact congrArg nI (cntP_n0 (P := fun g => (st g).toInt = 1) (show ¬ (st q).toInt = 1 by omega))
                have e9_3 : nI (cntP (fun g => (st g).toInt = 2) (q + 1)) = (nI ((cntP (fun g => (st g).toInt = 2) q) + 0) : Int32) := by first | exact congrArg nI (cntP_y (P := fun g => (st g).toInt = 2) (show (st q).toInt = 2 by omega)) | exact congrArg nI (cntP_n0 (P := fun g => (st g).toInt = 2) (show ¬ (st q).toInt = 2 by omega))
                have e9_4 : nI (cntP (fun g => ¬ (tn g).toInt = 0) (q + 1)) = (nI ((cntP (fun g => ¬ (tn g).toInt = 0) q) + 1) : Int32) := by first | exact congrArg nI (cntP_y (P := fun g => ¬ (tn g).toInt = 0) (show ¬ (tn q).toInt = 0 by omega)) | exact congrArg nI (cntP_n0 (P := fun g => ¬ (tn g).toInt = 0) (show ¬ ¬ (tn q).toInt = 0 by omega))
                have e9_5 : nI (smP (lvF ft st tn) (fun g => nN (mn g)) (q + 1)) = (nI ((smP (lvF ft st tn) (fun g => nN (mn g)) q) + (nN (mn q))) : Int32) := by first | exact congrArg nI (smP_y (P := lvF ft st tn) (by first | with_reducible assumption | assumption)) | exact congrArg nI (smP_n (P := lvF ft st tn) (by first | with_reducible assumption | assumption))
                have hl9 : lv_has ls 7 [(6, .int (nI (q + 1))), (5, .int (nI (smP (lvF ft st tn) (fun g => nN (mn g)) (q + 1)))), (4, .int (nI (cntP (fun g => ¬ (tn g).toInt = 0) (q + 1)))), (3, .int (nI (cntP (fun g => (st g).toInt = 2) (q + 1)))), (2, .int (nI (cntP (fun g => (st g).toInt = 1) (q + 1)))), (0, .ref k0), (1, .int w)] := by rw [e9_2]; rw [e9_3]; rw [e9_4]; rw [e9_5]; exact hl9
                exact ih_13 (q + 1) H locs ls (by first | with_reducible assumption | omega) (by first | with_reducible assumption | omega) hP hD hS hl9
          · have c_22 : (st q).toInt = 2 := zc_eq rfl rfl c_22
            refine lv_iconst (v := 1) hx hb dX11_count_53 rfl ?_
            refine lv_goto (tgt := 58) hx hb dX11_count_54 rfl ?_
            refine lv_iadd hx hb dX11_count_58 ?_
            refine zz_i (v := nI ((cntP (fun g => (st g).toInt = 2) q) + 1)) (nI_add (cntP (fun g => (st g).toInt = 2) q) 1) ?_
            refine lv_istore_n (lv' := [(3, .int (nI ((cntP (fun g => (st g).toInt = 2) q) + 1))), (2, .int (nI ((cntP (fun g => (st g).toInt = 1) q) + 1))), (6, .int (nI q)), (5, .int (nI (smP (lvF ft st tn) (fun g => nN (mn g)) q))), (4, .int (nI (cntP (fun g => ¬ (tn g).toInt = 0) q))), (0, .ref k0), (1, .int w)]) hx hb dX11_count_59 rfl hl (Nat.le_of_ble_eq_true rfl) rfl (fun ls hl => ?_)
            refine lv_iload hx hb dX11_count_60 (lv_at hl 4 rfl) ?_
            refine lv_aload_n hx hb dX11_count_62 rfl (lv_at hl 5 rfl) ?_
            refine va_get (D := (dC, dI)) (ci := 9) (v := .ref (a 6)) (C := RX11) (T := TX11) (N := 55) hx hb hts inX11 hown hK hP 0 rfl rfl 6 (Nat.le_of_ble_eq_true rfl) (hts _ mw_1165) (fun _ h9 => h9) rfl dX11_count_63 ?_
            refine lv_iload hx hb dX11_count_66 (lv_at hl 2 rfl) ?_
            refine z_zald hx hb hK hP 2 1 rfl rfl (e := q) rfl b9_13 (Nat.le_of_ble_eq_true rfl) dX11_count_68 ?_
            refine lv_if_eq (tgt := 76) hx hb dX11_count_69 rfl (fun c_26 => ?_) (fun c_26 => ?_)
            · have c_26 : (tn q).toInt = 0 := zc_eq rfl rfl c_26
              refine lv_iconst (v := 0) hx hb dX11_count_76 rfl ?_
              refine lv_iadd hx hb dX11_count_77 ?_
              refine zz_i (v := nI ((cntP (fun g => ¬ (tn g).toInt = 0) q) + 0)) (nI_add (cntP (fun g => ¬ (tn g).toInt = 0) q) 0) ?_
              refine lv_istore (lv' := [(4, .int (nI ((cntP (fun g => ¬ (tn g).toInt = 0) q) + 0))), (3, .int (nI ((cntP (fun g => (st g).toInt = 2) q) + 1))), (2, .int (nI ((cntP (fun g => (st g).toInt = 1) q) + 1))), (6, .int (nI q)), (5, .int (nI (smP (lvF ft st tn) (fun g => nN (mn g)) q))), (0, .ref k0), (1, .int w)]) hx hb dX11_count_78 hl (Nat.le_of_ble_eq_true rfl) rfl (fun ls hl => ?_)
              refine lv_iload hx hb dX11_count_80 (lv_at hl 4 rfl) ?_
              refine lv_aload_n hx hb dX11_count_82 rfl (lv_at hl 5 rfl) ?_
              refine lv_iload hx hb dX11_count_83 (lv_at hl 3 rfl) ?_
              obtain ⟨hPc, hDc, hFc⟩ := zc_sub (wc := [(om k0 a I0 J0), (oa (a 5) cI 201 st), (oa (a 6) cZ 201 tn)]) hP hD hS hA [0, 1, 2] rfl rfl
              refine zcall (st1 := [.int (pI (q < ft ∧ (st q).toInt = 1 ∧ (tn q).toInt = 0)), .int (nI (smP (lvF ft st tn) (fun g => nN (mn g)) q))]) (va_runV (As := [.int (nI q)]) (rest := [.int (nI (smP (lvF ft st tn) (fun g => nN (mn g)) q))]) ⟨hx, hb, hml, hown, hts⟩ (k_M_is_n l dC dI cI cZ cF H.size k0 a I0 J0 q ft st tn (by first | with_reducible assumption | assumption) (by first | with_reducible assumption | omega) (by first | with_reducible assumption | omega)) (csV_179 hts rfl rfl ⟨Nat.le_of_ble_eq_true rfl, Nat.le_of_ble_eq_true rfl⟩) (zPV2 (q0 := 0) (ci := 9) hPc hDc hK hXN rfl rfl) rfl rfl hl.1 rfl (lv_room (Nat.le_of_ble_eq_true rfl)) dX11_count_85 ⟨Nat.le_of_ble_eq_true rfl, Nat.le_of_ble_eq_true rfl⟩) hS hFc hFc rfl (fun t H locs ht hB hk1 hS => ?_)
              obtain ⟨hP1, hD1⟩ := hB
              rw [ht] at hP1
              obtain ⟨hP, hD⟩ := zk (W2 := [(om k0 a I0 J0), (oa (a 5) cI 201 st), (oa (a 6) cZ 201 tn), (oa (a 11) cI 201 mn)]) hP hD [0, 1, 2] [3] [3] [0, 1, 2] [1, 2, 3, 0] 4 rfl rfl rfl rfl rfl rfl rfl rfl rfl hk1 hFc hP1 hD1
              clear hk1 hPc hDc hFc hP1 hD1 ht
              refine lv_if_eq (tgt := 101) hx hb dX11_count_88 rfl (fun c_27 => ?_) (fun c_27 => ?_)
              · have c_27 : ¬ (q < ft ∧ (st q).toInt = 1 ∧ (tn q).toInt = 0) := zp_0 c_27
                refine lv_iconst (v := 0) hx hb dX11_count_101 rfl ?_
                refine lv_iadd hx hb dX11_count_102 ?_
                refine zz_i (v := nI ((smP (lvF ft st tn) (fun g => nN (mn g)) q) + 0)) (nI_add (smP (lvF ft st tn) (fun g => nN (mn g)) q) 0) ?_
                refine lv_istore (lv' := [(5, .int (nI ((smP (lvF ft st tn) (fun g => nN (mn g)) q) + 0))), (4, .int (nI ((cntP (fun g => ¬ (tn g).toInt = 0) q) + 0))), (3, .int (nI ((cntP (fun g => (st g).toInt = 2) q) + 1))), (2, .int (nI ((cntP (fun g => (st g).toInt = 1) q) + 1))), (6, .int (nI q)), (0, .ref k0), (1, .int w)]) hx hb dX11_count_103 hl (Nat.le_of_ble_eq_true rfl) rfl (fun ls hl => ?_)
                refine lv_iinc (v := nI (q + 1)) (lv' := [(6, .int (nI (q + 1))), (5, .int (nI ((smP (lvF ft st tn) (fun g => nN (mn g)) q) + 0))), (4, .int (nI ((cntP (fun g => ¬ (tn g).toInt = 0) q) + 0))), (3, .int (nI ((cntP (fun g => (st g).toInt = 2) q) + 1))), (2, .int (nI ((cntP (fun g => (st g).toInt = 1) q) + 1))), (0, .ref k0), (1, .int w)]) hx hb dX11_count_105 hl (k := 4) rfl (nI_add q 1) (Nat.le_of_ble_eq_true rfl) rfl (fun ls hl => ?_)
                refine lv_goto (tgt := 13) hx hb dX11_count_108 rfl ?_
                have hl9 := lv_sub hl [0, 1, 2, 3, 4, 5, 6] rfl
                have e9_2 : nI (cntP (fun g => (st g).toInt = 1) (q + 1)) = (nI ((cntP (fun g => (st g).toInt = 1) q) + 1) : Int32) := by first | exact congrArg nI (cntP_y (P := fun g => (st g).toInt = 1) (show (st q).toInt = 1 by omega)) | exact congrArg nI (cntP_n0 (P := fun g => (st g).toInt = 1) (show ¬ (st q).toInt = 1 by omega))
                have e9_3 : nI (cntP (fun g => (st g).toInt = 2) (q + 1)) = (nI ((cntP (fun g => (st g).toInt = 2) q) + 1) : Int32) := by first | exact congrArg nI (cntP_y (P := fun g => (st g).toInt = 2) (show (st q).toInt = 2 by omega)) | exact congrArg nI (cntP_n0 (P := fun g => (st g).toInt = 2) (show ¬ (st q).toInt = 2 by omega))
                have e9_4 : nI (cntP (fun g => ¬ (tn g).toInt = 0) (q + 1)) = (nI ((cntP (fun g => ¬ (tn g).toInt = 0) q) + 0) : Int32) := by first | exact congrArg nI (cntP_y (P := fun g => ¬ (tn g).toInt = 0) (show ¬ (tn q).toInt = 0 by omega)) | exact congrArg nI (cntP_n0 (P := fun g => ¬ (tn g).toInt = 0) (show ¬ ¬ (tn q).toInt = 0 by omega))
                have e9_5 : nI (smP (lvF ft st tn) (fun g => nN (mn g)) (q + 1)) = (nI ((smP (lvF ft st tn) (fun g => nN (mn g)) q) + 0) : Int32) := by first | exact congrArg nI (smP_y (P := lvF ft st tn) (by first | with_reducible assumption | assumption)) | exact congrArg nI (smP_n (P := lvF ft st tn) (by first | with_reducible assumption | assumption))
                have hl9 : lv_has ls 7 [(6, .int (nI (q + 1))), (5, .int (nI (smP (lvF ft st tn) (fun g => nN (mn g)) (q + 1)))), (4, .int (nI (cntP (fun g => ¬ (tn g).toInt = 0) (q + 1)))), (3, .int (nI (cntP (fun g => (st g).toInt = 2) (q + 1)))), (2, .int (nI (cntP (fun g => (st g).toInt = 1) (q + 1)))), (0, .ref k0), (1, .int w)] := by rw [e9_2]; rw [e9_3]; rw [e9_4]; rw [e9_5]; exact hl9
                exact ih_13 (q + 1) H locs ls (by first | with_reducible assumption | omega) (by first | with_reducible assumption | omega) hP hD hS hl9
              · have c_27 : q < ft ∧ (st q).toInt = 1 ∧ (tn q).toInt = 0 := zp_1 c_27
                refine lv_aload_n hx hb dX11_count_91 rfl (lv_at hl 5 rfl) ?_
                refine va_get (D := (dC, dI)) (ci := 9) (v := .ref (a 11)) (C := RX11) (T := TX11) (N := 55) hx hb hts inX11 hown hK hP 0 rfl rfl 11 (Nat.le_of_ble_eq_true rfl) (hts _ mw_1170) (fun _ h9 => h9) rfl dX11_count_92 ?_
                refine lv_iload hx hb dX11_count_95 (lv_at hl 3 rfl) ?_
                refine z_iald hx hb hK hP 3 0 rfl rfl (e := q) rfl b9_13 (Nat.le_of_ble_eq_true rfl) dX11_count_97 ?_
                refine zz_i (v := nI (nN (mn q))) ((hmw q (by first | with_reducible assumption | assumption)).1) ?_
                refine lv_goto (tgt := 102) hx hb dX11_count_98 rfl ?_
                refine lv_iadd hx hb dX11_count_102 ?_
                refine zz_i (v := nI ((smP (lvF ft st tn) (fun g => nN (mn g)) q) + (nN (mn q)))) (nI_add (smP (lvF ft st tn) (fun g => nN (mn g)) q) (nN (mn q))) ?_
                refine lv_istore (lv' := [(5, .int (nI ((smP (lvF ft st tn) (fun g => nN (mn g)) q) + (nN (mn q))))), (4, .int (nI ((cntP (fun g => ¬ (tn g).toInt = 0) q) + 0))), (3, .int (nI ((cntP (fun g => (st g).toInt = 2) q) + 1))), (2, .int (nI ((cntP (fun g => (st g).toInt = 1) q) + 1))), (6, .int (nI q)), (0, .ref k0), (1, .int w)]) hx hb dX11_count_103 hl (Nat.le_of_ble_eq_true rfl) rfl (fun ls hl => ?_)
                refine lv_iinc (v := nI (q + 1)) (lv' := [(6, .int (nI (q + 1))), (5, .int (nI ((smP (lvF ft st tn) (fun g => nN (mn g)) q) + (nN (mn q))))), (4, .int (nI ((cntP (fun g => ¬ (tn g).toInt = 0) q) + 0))), (3, .int (nI ((cntP (fun g => (st g).toInt = 2) q) + 1))), (2, .int (nI ((cntP (fun g => (st g).toInt = 1) q) + 1))), (0, .ref k0), (1, .int w)]) hx hb dX11_count_105 hl (k := 4) rfl (nI_add q 1) (Nat.le_of_ble_eq_true rfl) rfl (fun ls hl => ?_)
                refine lv_goto (tgt := 13) hx hb dX11_count_108 rfl ?_
                have hl9 := lv_sub hl [0, 1, 2, 3, 4, 5, 6] rfl
                have e9_2 : nI (cntP (fun g => (st g).toInt = 1) (q + 1)) = (nI ((cntP (fun g => (st g).toInt = 1) q) + 1) : Int32) := by first | exact congrArg nI (cntP_y (P := fun g => (st g).toInt = 1) (show (st q).toInt = 1 by omega)) | exact congrArg nI (cntP_n0 (P := fun g => (st g).toInt = 1) (show ¬ (st q).toInt = 1 by omega))
                have e9_3 : nI (cntP (fun g => (st g).toInt = 2) (q + 1)) = (nI ((cntP (fun g => (st g).toInt = 2) q) + 1) : Int32) := by first | exact congrArg nI (cntP_y (P := fun g => (st g).toInt = 2) (show (st q).toInt = 2 by omega)) | exact congrArg nI (cntP_n0 (P := fun g => (st g).toInt = 2) (show ¬ (st q).toInt = 2 by omega))
                have e9_4 : nI (cntP (fun g => ¬ (tn g).toInt = 0) (q + 1)) = (nI ((cntP (fun g => ¬ (tn g).toInt = 0) q) + 0) : Int32) := by first | exact congrArg nI (cntP_y (P := fun g => ¬ (tn g).toInt = 0) (show ¬ (tn q).toInt = 0 by omega)) | exact congrArg nI (cntP_n0 (P := fun g => ¬ (tn g).toInt = 0) (show ¬ ¬ (tn q).toInt = 0 by omega))
                have e9_5 : nI (smP (lvF ft st tn) (fun g => nN (mn g)) (q + 1)) = (nI ((smP (lvF ft st tn) (fun g => nN (mn g)) q) + (nN (mn q))) : Int32) := by first | exact congrArg nI (smP_y (P := lvF ft st tn) (by first | with_reducible assumption | assumption)) | exact congrArg nI (smP_n (P := lvF ft st tn) (by first | with_reducible assumption | assumption))
                have hl9 : lv_has ls 7 [(6, .int (nI (q + 1))), (5, .int (nI (smP (lvF ft st tn) (fun g => nN (mn g)) (q + 1)))), (4, .int (nI (cntP (fun g => ¬ (tn g).toInt = 0) (q + 1)))), (3, .int (nI (cntP (fun g => (st g).toInt = 2) (q + 1)))), (2, .int (nI (cntP (fun g => (st g).toInt = 1) (q + 1)))), (0, .ref k0), (1, .int w)] := by rw [e9_2]; rw [e9_3]; rw [e9_4]; rw [e9_5]; exact hl9
                exact ih_13 (q + 1) H locs ls (by first | with_reducible assumption | omega) (by first | with_reducible assumption | omega) hP hD hS hl9
            · have c_26 : ¬ (tn q).toInt = 0 := zc_ne rfl rfl c_26
              refine lv_iconst (v := 1) hx hb dX11_count_72 rfl ?_
              refine lv_goto (tgt := 77) hx hb dX11_count_73 rfl ?_
              refine lv_iadd hx hb dX11_count_77 ?_
              refine zz_i (v := nI ((cntP (fun g => ¬ (tn g).toInt = 0) q) + 1)) (nI_add (cntP (fun g => ¬ (tn g).toInt = 0) q) 1) ?_
              refine lv_istore (lv' := [(4, .int (nI ((cntP (fun g => ¬ (tn g).toInt = 0) q) + 1))), (3, .int (nI ((cntP (fun g => (st g).toInt = 2) q) + 1))), (2, .int (nI ((cntP (fun g => (st g).toInt = 1) q) + 1))), (6, .int (nI q)), (5, .int (nI (smP (lvF ft st tn) (fun g => nN (mn g)) q))), (0, .ref k0), (1, .int w)]) hx hb dX11_count_78 hl (Nat.le_of_ble_eq_true rfl) rfl (fun ls hl => ?_)
              refine lv_iload hx hb dX11_count_80 (lv_at hl 4 rfl) ?_
              refine lv_aload_n hx hb dX11_count_82 rfl (lv_at hl 5 rfl) ?_
              refine lv_iload hx hb dX11_count_83 (lv_at hl 3 rfl) ?_
              obtain ⟨hPc, hDc, hFc⟩ := zc_sub (wc := [(om k0 a I0 J0), (oa (a 5) cI 201 st), (oa (a 6) cZ 201 tn)]) hP hD hS hA [0, 1, 2] rfl rfl
              refine zcall (st1 := [.int (pI (q < ft ∧ (st q).toInt = 1 ∧ (tn q).toInt = 0)), .int (nI (smP (lvF ft st tn) (fun g => nN (mn g)) q))]) (va_runV (As := [.int (nI q)]) (rest := [.int (nI (smP (lvF ft st tn) (fun g => nN (mn g)) q))]) ⟨hx, hb, hml, hown, hts⟩ (k_M_is_n l dC dI cI cZ cF H.size k0 a I0 J0 q ft st tn (by first | with_reducible assumption | assumption) (by first | with_reducible assumption | omega) (by first | with_reducible assumption | omega)) (csV_179 hts rfl rfl ⟨Nat.le_of_ble_eq_true rfl, Nat.le_of_ble_eq_true rfl⟩) (zPV2 (q0 := 0) (ci := 9) hPc hDc hK hXN rfl rfl) rfl rfl hl.1 rfl (lv_room (Nat.le_of_ble_eq_true rfl)) dX11_count_85 ⟨Nat.le_of_ble_eq_true rfl, Nat.le_of_ble_eq_true rfl⟩) hS hFc hFc rfl (fun t H locs ht hB hk1 hS => ?_)
              obtain ⟨hP1, hD1⟩ := hB
              rw [ht] at hP1
              obtain ⟨hP, hD⟩ := zk (W2 := [(om k0 a I0 J0), (oa (a 5) cI 201 st), (oa (a 6) cZ 201 tn), (oa (a 11) cI 201 mn)]) hP hD [0, 1, 2] [3] [3] [0, 1, 2] [1, 2, 3, 0] 4 rfl rfl rfl rfl rfl rfl rfl rfl rfl hk1 hFc hP1 hD1
              clear hk1 hPc hDc hFc hP1 hD1 ht
              refine lv_if_eq (tgt := 101) hx hb dX11_count_88 rfl (fun c_28 => ?_) (fun c_28 => ?_)
              · have c_28 : ¬ (q < ft ∧ (st q).toInt = 1 ∧ (tn q).toInt = 0) := zp_0 c_28
                refine lv_iconst (v := 0) hx hb dX11_count_101 rfl ?_
                refine lv_iadd hx hb dX11_count_102 ?_
                refine zz_i (v := nI ((smP (lvF ft st tn) (fun g => nN (mn g)) q) + 0)) (nI_add (smP (lvF ft st tn) (fun g => nN (mn g)) q) 0) ?_
                refine lv_istore (lv' := [(5, .int (nI ((smP (lvF ft st tn) (fun g => nN (mn g)) q) + 0))), (4, .int (nI ((cntP (fun g => ¬ (tn g).toInt = 0) q) + 1))), (3, .int (nI ((cntP (fun g => (st g).toInt = 2) q) + 1))), (2, .int (nI ((cntP (fun g => (st g).toInt = 1) q) + 1))), (6, .int (nI q)), (0, .ref k0), (1, .int w)]) hx hb dX11_count_103 hl (Nat.le_of_ble_eq_true rfl) rfl (fun ls hl => ?_)
                refine lv_iinc (v := nI (q + 1)) (lv' := [(6, .int (nI (q + 1))), (5, .int (nI ((smP (lvF ft st tn) (fun g => nN (mn g)) q) + 0))), (4, .int (nI ((cntP (fun g => ¬ (tn g).toInt = 0) q) + 1))), (3, .int (nI ((cntP (fun g => (st g).toInt = 2) q) + 1))), (2, .int (nI ((cntP (fun g => (st g).toInt = 1) q) + 1))), (0, .ref k0), (1, .int w)]) hx hb dX11_count_105 hl (k := 4) rfl (nI_add q 1) (Nat.le_of_ble_eq_true rfl) rfl (fun ls hl => ?_)
                refine lv_goto (tgt := 13) hx hb dX11_count_108 rfl ?_
                have hl9 := lv_sub hl [0, 1, 2, 3, 4, 5, 6] rfl
                have e9_2 : nI (cntP (fun g => (st g).toInt = 1) (q + 1)) = (nI ((cntP (fun g => (st g).toInt = 1) q) + 1) : Int32) := by first | exact congrArg nI (cntP_y (P := fun g => (st g).toInt = 1) (show (st q).toInt = 1 by omega)) | exact congrArg nI (cntP_n0 (P := fun g => (st g).toInt = 1) (show ¬ (st q).toInt = 1 by omega))
                have e9_3 : nI (cntP (fun g => (st g).toInt = 2) (q + 1)) = (nI ((cntP (fun g => (st g).toInt = 2) q) + 1) : Int32) := by first | exact congrArg nI (cntP_y (P := fun g => (st g).toInt = 2) (show (st q).toInt = 2 by omega)) | exact congrArg nI (cntP_n0 (P := fun g => (st g).toInt = 2) (show ¬ (st q).toInt = 2 by omega))
                have e9_4 : nI (cntP (fun g => ¬ (tn g).toInt = 0) (q + 1)) = (nI ((cntP (fun g => ¬ (tn g).toInt = 0) q) + 1) : Int32) := by first | exact congrArg nI (cntP_y (P := fun g => ¬ (tn g).toInt = 0) (show ¬ (tn q).toInt = 0 by omega)) | exact congrArg nI (cntP_n0 (P := fun g => ¬ (tn g).toInt = 0) (show ¬ ¬ (tn q).toInt = 0 by omega))
                have e9_5 : nI (smP (lvF ft st tn) (fun g => nN (mn g)) (q + 1)) = (nI ((smP (lvF ft st tn) (fun g => nN (mn g)) q) + 0) : Int32) := by first | exact congrArg nI (smP_y (P := lvF ft st tn) (by first | with_reducible assumption | assumption)) | exact congrArg nI (smP_n (P := lvF ft st tn) (by first | with_reducible assumption | assumption))
                have hl9 : lv_has ls 7 [(6, .int (nI (q + 1))), (5, .int (nI (smP (lvF ft st tn) (fun g => nN (mn g)) (q + 1)))), (4, .int (nI (cntP (fun g => ¬ (tn g).toInt = 0) (q + 1)))), (3, .int (nI (cntP (fun g => (st g).toInt = 2) (q + 1)))), (2, .int (nI (cntP (fun g => (st g).toInt = 1) (q + 1)))), (0, .ref k0), (1, .int w)] := by rw [e9_2]; rw [e9_3]; rw [e9_4]; rw [e9_5]; exact hl9
                exact ih_13 (q + 1) H locs ls (by first | with_reducible assumption | omega) (by first | with_reducible assumption | omega) hP hD hS hl9
              · have c_28 : q < ft ∧ (st q).toInt = 1 ∧ (tn q).toInt = 0 := zp_1 c_28
                refine lv_aload_n hx hb dX11_count_91 rfl (lv_at hl 5 rfl) ?_
                refine va_get (D := (dC, dI)) (ci := 9) (v := .ref (a 11)) (C := RX11) (T := TX11) (N := 55) hx hb hts inX11 hown hK hP 0 rfl rfl 11 (Nat.le_of_ble_eq_true rfl) (hts _ mw_1170) (fun _ h9 => h9) rfl dX11_count_92 ?_
                refine lv_iload hx hb dX11_count_95 (lv_at hl 3 rfl) ?_
                refine z_iald hx hb hK hP 3 0 rfl rfl (e := q) rfl b9_13 (Nat.le_of_ble_eq_true rfl) dX11_count_97 ?_
                refine zz_i (v := nI (nN (mn q))) ((hmw q (by first | with_reducible assumption | assumption)).1) ?_
                refine lv_goto (tgt := 102) hx hb dX11_count_98 rfl ?_
                refine lv_iadd hx hb dX11_count_102 ?_
                refine zz_i (v := nI ((smP (lvF ft st tn) (fun g => nN (mn g)) q) + (nN (mn q)))) (nI_add (smP (lvF ft st tn) (fun g => nN (mn g)) q) (nN (mn q))) ?_
                refine lv_istore (lv' := [(5, .int (nI ((smP (lvF ft st tn) (fun g => nN (mn g)) q) + (nN (mn q))))), (4, .int (nI ((cntP (fun g => ¬ (tn g).toInt = 0) q) + 1))), (3, .int (nI ((cntP (fun g => (st g).toInt = 2) q) + 1))), (2, .int (nI ((cntP (fun g => (st g).toInt = 1) q) + 1))), (6, .int (nI q)), (0, .ref k0), (1, .int w)]) hx hb dX11_count_103 hl (Nat.le_of_ble_eq_true rfl) rfl (fun ls hl => ?_)
                refine lv_iinc (v := nI (q + 1)) (lv' := [(6, .int (nI (q + 1))), (5, .int (nI ((smP (lvF ft st tn) (fun g => nN (mn g)) q) + (nN (mn q))))), (4, .int (nI ((cntP (fun g => ¬ (tn g).toInt = 0) q) + 1))), (3, .int (nI ((cntP (fun g => (st g).toInt = 2) q) + 1))), (2, .int (nI ((cntP (fun g => (st g).toInt = 1) q) + 1))), (0, .ref k0), (1, .int w)]) hx hb dX11_count_105 hl (k := 4) rfl (nI_add q 1) (Nat.le_of_ble_eq_true rfl) rfl (fun ls hl => ?_)
                refine lv_goto (tgt := 13) hx hb dX11_count_108 rfl ?_
                have hl9 := lv_sub hl [0, 1, 2, 3, 4, 5, 6] rfl
                have e9_2 : nI (cntP (fun g => (st g).toInt = 1) (q + 1)) = (nI ((cntP (fun g => (st g).toInt = 1) q) + 1) : Int32) := by first | exact congrArg nI (cntP_y (P := fun g => (st g).toInt = 1) (show (st q).toInt = 1 by omega)) | exact congrArg nI (cntP_n0 (P := fun g => (st g).toInt = 1) (show ¬ (st q).toInt = 1 by omega))
                have e9_3 : nI (cntP (fun g => (st g).toInt = 2) (q + 1)) = (nI ((cntP (fun g => (st g).toInt = 2) q) + 1) : Int32) := by first | exact congrArg nI (cntP_y (P := fun g => (st g).toInt = 2) (show (st q).toInt = 2 by omega)) | exact congrArg nI (cntP_n0 (P := fun g => (st g).toInt = 2) (show ¬ (st q).toInt = 2 by omega))
                have e9_4 : nI (cntP (fun g => ¬ (tn g).toInt = 0) (q + 1)) = (nI ((cntP (fun g => ¬ (tn g).toInt = 0) q) + 1) : Int32) := by first | exact congrArg nI (cntP_y (P := fun g => ¬ (tn g).toInt = 0) (show ¬ (tn q).toInt = 0 by omega)) | exact congrArg nI (cntP_n0 (P := fun g => ¬ (tn g).toInt = 0) (show ¬ ¬ (tn q).toInt = 0 by omega))
                have e9_5 : nI (smP (lvF ft st tn) (fun g => nN (mn g)) (q + 1)) = (nI ((smP (lvF ft st tn) (fun g => nN (mn g)) q) + (nN (mn q))) : Int32) := by first | exact congrArg nI (smP_y (P := lvF ft st tn) (by first | with_reducible assumption | assumption)) | exact congrArg nI (smP_n (P := lvF ft st tn) (by first | with_reducible assumption | assumption))
                have hl9 : lv_has ls 7 [(6, .int (nI (q + 1))), (5, .int (nI (smP (lvF ft st tn) (fun g => nN (mn g)) (q + 1)))), (4, .int (nI (cntP (fun g => ¬ (tn g).toInt = 0) (q + 1)))), (3, .int (nI (cntP (fun g => (st g).toInt = 2) (q + 1)))), (2, .int (nI (cntP (fun g => (st g).toInt = 1) (q + 1)))), (0, .ref k0), (1, .int w)] := by rw [e9_2]; rw [e9_3]; rw [e9_4]; rw [e9_5]; exact hl9
                exact ih_13 (q + 1) H locs ls (by first | with_reducible assumption | omega) (by first | with_reducible assumption | omega) hP hD hS hl9
  have e9_2 : nI (cntP (fun g => (st g).toInt = 1) 0) = (0 : Int32) := by rfl
  have e9_3 : nI (cntP (fun g => (st g).toInt = 2) 0) = (0 : Int32) := by rfl
  have e9_4 : nI (cntP (fun g => ¬ (tn g).toInt = 0) 0) = (0 : Int32) := by rfl
  have e9_5 : nI (smP (lvF ft st tn) (fun g => nN (mn g)) 0) = (0 : Int32) := by rfl
  have hl9 : lv_has ls 7 [(6, .int (nI 0)), (5, .int (nI (smP (lvF ft st tn) (fun g => nN (mn g)) 0))), (4, .int (nI (cntP (fun g => ¬ (tn g).toInt = 0) 0))), (3, .int (nI (cntP (fun g => (st g).toInt = 2) 0))), (2, .int (nI (cntP (fun g => (st g).toInt = 1) 0))), (0, .ref k0), (1, .int w)] := by rw [e9_2]; rw [e9_3]; rw [e9_4]; rw [e9_5]; exact lv_sub hl [0, 1, 2, 3, 4, 5, 6] rfl
  exact hl_13 _ 0 s.heap [] ls (Nat.lt_succ_self _) (by first | with_reducible assumption | omega) hP hD hS hl9
set_option maxHeartbeats 4000000 in
set_option maxRecDepth 100000 in
theorem k_M_near_a (l : Launch) (dC : Nat → ClassId) (dI : Nat → Nat → Nat) (cI cZ cF : ClassId) (sz : Nat) (k0 : Nat) (a : Nat → Nat) (I0 : Nat → Int32) (J0 : Nat → Int64) (f : Nat) (g : Nat) (ft : Nat) (w : Int32) (st : Nat → Int32) (tn : Nat → Int32) (kd : Nat → Int32) (mn : Nat → Int32) (cx : Nat → Int32) (cy : Nat → Int32) (S0 : Nat → Int32) (hft : I0 0 = nI ft) (h200 : ft ≤ 200) (hwf : ∀ q, lvF ft st tn q → wfM mn cx cy q) (hf_t : f < ft) (hg_t : g < ft) (hlf : lvF ft st tn f) (hlg : lvF ft st tn g) (hw1 : 0 ≤ w.toInt ∧ w.toInt ≤ 1) (he_f : 1 ≤ eO (kd f).toInt (nN (mn f))) (he_g : 1 ≤ eO (kd g).toInt (nN (mn g))) : Met l yX11_near (.code yX11_near cX11_near 4 (some .long) :: ws0) ({ frames := 5, cells := 0, slots := 0, locals := 129 } : Room) (va_Pc [.ref k0, .int (nI f), .int (nI g), .int w] (zPre (dC, dI) classes (zTy cI cZ cF) [(om k0 a I0 J0), (oa (a 5) cI 201 st), (oa (a 6) cZ 201 tn), (oa (a 1) cI 201 kd), (oa (a 11) cI 201 mn), (oa (a 12) cI 8040 cx), (oa (a 13) cI 8040 cy), (oa (a 32) cI 8 S0)] sz zXN)) (zQe (fun v9 t => ∃ (b9 : Int64), ∃ (un : Nat), ∃ (dd : Nat), ∃ (S1 : Nat → Int32), v9 = (some (.long b9)) ∧ va_P (dC, dI) classes [(om k0 a I0 (vp_updL (vp_updL J0 48 (jI ((un : Nat) : Int))) 49 (jI ((dd : Nat) : Int)))), (oa (a 5) cI 201 st), (oa (a 6) cZ 201 tn), (oa (a 1) cI 201 kd), (oa (a 11) cI 201 mn), (oa (a 12) cI 8040 cx), (oa (a 13) cI 8040 cy), (oa (a 32) cI 8 S1)] t.heap ∧ va_D (va_A [(om k0 a I0 J0), (oa (a 5) cI 201 st), (oa (a 6) cZ 201 tn), (oa (a 1) cI 201 kd), (oa (a 11) cI 201 mn), (oa (a 12) cI 8040 cx), (oa (a 13) cI 8040 cy), (oa (a 32) cI 8 S0)] sz) [(om k0 a I0 (vp_updL (vp_updL J0 48 (jI ((un : Nat) : Int))) 49 (jI ((dd : Nat) : Int)))), (oa (a 5) cI 201 st), (oa (a 6) cZ 201 tn), (oa (a 1) cI 201 kd), (oa (a 11) cI 201 mn), (oa (a 12) cI 8040 cx), (oa (a 13) cI 8040 cy), (oa (a 32) cI 8 S1)]) (va_A [(om k0 a I0 J0), (oa (a 5) cI 201 st), (oa (a 6) cZ 201 tn), (oa (a 1) cI 201 kd), (oa (a 11) cI 201 mn), (oa (a 12) cI 8040 cx), (oa (a 13) cI 8040 cy), (oa (a 32) cI 8 S0)] sz)) 0 0 (va_A [(om k0 a I0 J0), (oa (a 5) cI 201 st), (oa (a 6) cZ 201 tn), (oa (a 1) cI 201 kd), (oa (a 11) cI 201 mn), (oa (a 12) cI 8040 cx), (oa (a 13) cI 8040 cy), (oa (a 32) cI 8 S0)] sz) := by
  refine Met.ofW (cc := cX11_near) (maxL := 4) (ret := (some .long)) rfl rfl ?_
  intro p e s m args below meth c s₁ B hml hv
  obtain ⟨rfl, hsz, hP, hK, hD0, hXN⟩ := hv
  have hx := B.exec
  have hb := B.bytes
  have hr := B.returns
  have hts0 := atoms_spec (ws := .code yX11_near cX11_near 4 (some .long) :: ws0) B.pre
  have hts : ∀ w9 ∈ ws0, w9.before ([.ref k0, .int (nI f), .int (nI g), .int w] : List Value).toArray s = true := fun w9 h => hts0 w9 (List.mem_cons_of_mem _ h)
  have hown : s.vm.findClass "ScaleShopModel" = some m.cls := findClass_of_methodNamed B.named
  have hlocks := B.notSynchronized
  subst hsz
  have hD := hD0.self (sz := s.heap.size)
  clear hD0
  generalize hAe : va_A [(om k0 a I0 J0), (oa (a 5) cI 201 st), (oa (a 6) cZ 201 tn), (oa (a 1) cI 201 kd), (oa (a 11) cI 201 mn), (oa (a 12) cI 8040 cx), (oa (a 13) cI 8040 cy), (oa (a 32) cI 8 S0)] s.heap.size = A at hD ⊢
  have hA : ∀ q : Nat, s.heap.size ≤ q → A q := fun q h => by rw [← hAe]; exact Or.inr h
  clear hAe
  have hS : va_S A s.heap s.heap [] := va_S.rf
  have hP : va_P (dC, dI) classes [(om k0 a I0 J0), (oa (a 5) cI 201 st), (oa (a 6) cZ 201 tn), (oa (a 1) cI 201 kd), (oa (a 11) cI 201 mn), (oa (a 12) cI 8040 cx), (oa (a 13) cI 8040 cy), (oa (a 32) cI 8 S0)] s.heap := hP
  obtain ⟨Q9, hQ9⟩ : ∃ Q9 : State → Prop, Q9 = MQ below (zQe (fun v9 t => ∃ (b9 : Int64), ∃ (un : Nat), ∃ (dd : Nat), ∃ (S1 : Nat → Int32), v9 = (some (.long b9)) ∧ va_P (dC, dI) classes [(om k0 a I0 (vp_updL (vp_updL J0 48 (jI ((un : Nat) : Int))) 49 (jI ((dd : Nat) : Int)))), (oa (a 5) cI 201 st), (oa (a 6) cZ 201 tn), (oa (a 1) cI 201 kd), (oa (a 11) cI 201 mn), (oa (a 12) cI 8040 cx), (oa (a 13) cI 8040 cy), (oa (a 32) cI 8 S1)] t.heap ∧ va_D A [(om k0 a I0 (vp_updL (vp_updL J0 48 (jI ((un : Nat) : Int))) 49 (jI ((dd : Nat) : Int)))), (oa (a 5) cI 201 st), (oa (a 6) cZ 201 tn), (oa (a 1) cI 201 kd), (oa (a 11) cI 201 mn), (oa (a 12) cI 8040 cx), (oa (a 13) cI 8040 cy), (oa (a 32) cI 8 S1)]) A) ([.ref k0, .int (nI f), .int (nI g), .int w] : List Value).toArray s 0 0 A := ⟨_, rfl⟩
  rw [← hQ9]
  have hl := lv_entry ([.ref k0, .int (nI f), .int (nI g), .int w]) (n := 4) (Nat.le_of_ble_eq_true rfl)
  rw [lg_entry_eq]
  generalize (lg_sl ([.ref k0, .int (nI f), .int (nI g), .int w]) ++ List.replicate (4 - (lg_sl ([.ref k0, .int (nI f), .int (nI g), .int w])).length) Slot.unset).toArray = ls at hl ⊢
  have hl : lv_has ls 4 [(0, .ref k0), (1, .int (nI f)), (2, .int (nI g)), (3, .int w)] := hl
  refine lv_aload_n hx hb dX11_near_0 rfl (lv_at hl 0 rfl) ?_
  refine lv_iload_n hx hb dX11_near_1 rfl (lv_at hl 1 rfl) ?_
  obtain ⟨hPc, hDc, hFc⟩ := zc_sub (wc := [(om k0 a I0 J0), (oa (a 5) cI 201 st), (oa (a 6) cZ 201 tn)]) hP hD hS hA [0, 1, 2] rfl rfl
  refine zcall (st1 := [.int (pI (f < ft ∧ (st f).toInt = 1 ∧ (tn f).toInt = 0))]) (va_runV (As := [.int (nI f)]) (rest := []) ⟨hx, hb, hml, hown, hts⟩ (k_M_is_n l dC dI cI cZ cF s.heap.size k0 a I0 J0 f ft st tn (by first | with_reducible assumption | assumption) (by first | with_reducible assumption | omega) (by first | with_reducible assumption | omega)) (csV_179 hts rfl rfl ⟨Nat.le_of_ble_eq_true rfl, Nat.le_of_ble_eq_true rfl⟩) (zPV2 (q0 := 0) (ci := 9) hPc hDc hK hXN rfl rfl) rfl rfl hl.1 rfl (lv_room (Nat.le_of_ble_eq_true rfl)) dX11_near_2 ⟨Nat.le_of_ble_eq_true rfl, Nat.le_of_ble_eq_true rfl⟩) hS hFc hFc rfl (fun t H locs ht hB hk1 hS => ?_)
  obtain ⟨hP1, hD1⟩ := hB
  rw [ht] at hP1
  obtain ⟨hP, hD⟩ := zk (W2 := [(om k0 a I0 J0), (oa (a 5) cI 201 st), (oa (a 6) cZ 201 tn), (oa (a 1) cI 201 kd), (oa (a 11) cI 201 mn), (oa (a 12) cI 8040 cx), (oa (a 13) cI 8040 cy), (oa (a 32) cI 8 S0)]) hP hD [0, 1, 2] [3, 4, 5, 6, 7] [3, 4, 5, 6, 7] [0, 1, 2] [5, 6, 7, 0, 1, 2, 3, 4] 8 rfl rfl rfl rfl rfl rfl rfl rfl rfl hk1 hFc hP1 hD1
  clear hk1 hPc hDc hFc hP1 hD1 ht
  refine lv_if_eq (tgt := 25) hx hb dX11_near_5 rfl (fun c_1 => ?_) (fun c_1 => ?_)
  · have c_1 : ¬ (f < ft ∧ (st f).toInt = 1 ∧ (tn f).toInt = 0) := zp_0 c_1
    exfalso; exact absurd hlf (by first | with_reducible assumption | assumption)
  · have c_1 : f < ft ∧ (st f).toInt = 1 ∧ (tn f).toInt = 0 := zp_1 c_1
    have hw_ff := hwf f (by first | with_reducible assumption | assumption)
    have hm_ff := hw_ff.1
    have hn_ff := hw_ff.2.1
    have hp_ff := hw_ff.2.2
    refine lv_aload_n hx hb dX11_near_8 rfl (lv_at hl 0 rfl) ?_
    refine lv_iload_n hx hb dX11_near_9 rfl (lv_at hl 2 rfl) ?_
    obtain ⟨hPc, hDc, hFc⟩ := zc_sub (wc := [(om k0 a I0 J0), (oa (a 5) cI 201 st), (oa (a 6) cZ 201 tn)]) hP hD hS hA [0, 1, 2] rfl rfl
    refine zcall (st1 := [.int (pI (g < ft ∧ (st g).toInt = 1 ∧ (tn g).toInt = 0))]) (va_runV (As := [.int (nI g)]) (rest := []) ⟨hx, hb, hml, hown, hts⟩ (k_M_is_n l dC dI cI cZ cF H.size k0 a I0 J0 g ft st tn (by first | with_reducible assumption | assumption) (by first | with_reducible assumption | omega) (by first | with_reducible assumption | omega)) (csV_179 hts rfl rfl ⟨Nat.le_of_ble_eq_true rfl, Nat.le_of_ble_eq_true rfl⟩) (zPV2 (q0 := 0) (ci := 9) hPc hDc hK hXN rfl rfl) rfl rfl hl.1 rfl (lv_room (Nat.le_of_ble_eq_true rfl)) dX11_near_10 ⟨Nat.le_of_ble_eq_true rfl, Nat.le_of_ble_eq_true rfl⟩) hS hFc hFc rfl (fun t H locs ht hB hk1 hS => ?_)
    obtain ⟨hP1, hD1⟩ := hB
    rw [ht] at hP1
    obtain ⟨hP, hD⟩ := zk (W2 := [(om k0 a I0 J0), (oa (a 5) cI 201 st), (oa (a 6) cZ 201 tn), (oa (a 1) cI 201 kd), (oa (a 11) cI 201 mn), (oa (a 12) cI 8040 cx), (oa (a 13) cI 8040 cy), (oa (a 32) cI 8 S0)]) hP hD [0, 1, 2] [3, 4, 5, 6, 7] [3, 4, 5, 6, 7] [0, 1, 2] [5, 6, 7, 0, 1, 2, 3, 4] 8 rfl rfl rfl rfl rfl rfl rfl rfl rfl hk1 hFc hP1 hD1
    clear hk1 hPc hDc hFc hP1 hD1 ht
    refine lv_if_eq (tgt := 25) hx hb dX11_near_13 rfl (fun c_2 => ?_) (fun c_2 => ?_)
    · have c_2 : ¬ (g < ft ∧ (st g).toInt = 1 ∧ (tn g).toInt = 0) := zp_0 c_2
      exfalso; exact absurd hlg (by first | with_reducible assumption | assumption)
    · have c_2 : g < ft ∧ (st g).toInt = 1 ∧ (tn g).toInt = 0 := zp_1 c_2
      have hw_gg := hwf g (by first | with_reducible assumption | assumption)
      have hm_gg := hw_gg.1
      have hn_gg := hw_gg.2.1
      have hp_gg := hw_gg.2.2
      refine lv_iload_n hx hb dX11_near_16 rfl (lv_at hl 3 rfl) ?_
      refine lv_if_lt (tgt := 25) hx hb dX11_near_17 rfl (fun c_3 => ?_) (fun c_3 => ?_)
      · have c_3 : w.toInt < 0 := zc_lt rfl rfl c_3
        exfalso; omega
      · have c_3 : 0 ≤ w.toInt := zc_nlt rfl rfl c_3
        refine lv_iload_n hx hb dX11_near_20 rfl (lv_at hl 3 rfl) ?_
        refine lv_iconst (v := 1) hx hb dX11_near_21 rfl ?_
        refine lv_icmp_le (tgt := 29) hx hb dX11_near_22 rfl (fun c_4 => ?_) (fun c_4 => ?_)
        · have c_4 : w.toInt ≤ 1 := zc_le rfl rfl c_4
          refine lv_aload_n hx hb dX11_near_29 rfl (lv_at hl 0 rfl) ?_
          refine lv_iload_n hx hb dX11_near_30 rfl (lv_at hl 1 rfl) ?_
          refine lv_iload_n hx hb dX11_near_31 rfl (lv_at hl 2 rfl) ?_
          obtain ⟨hPc, hDc, hFc⟩ := zc_sub (wc := [(om k0 a I0 J0), (oa (a 1) cI 201 kd), (oa (a 11) cI 201 mn), (oa (a 12) cI 8040 cx), (oa (a 13) cI 8040 cy), (oa (a 32) cI 8 S0)]) hP hD hS hA [0, 3, 4, 5, 6, 7] rfl rfl
          refine zcall (st1 := []) (va_runV (As := [.int (nI f), .int (nI g)]) (rest := []) ⟨hx, hb, hml, hown, hts⟩ (k_M_distance_a l dC dI cI cZ cF H.size k0 a I0 J0 f (nN (mn f)) g (nN (mn g)) kd mn cx cy S0 (by first | with_reducible assumption | omega) (by first | with_reducible assumption | assumption) (by first | with_reducible assumption | omega) (by first | with_reducible assumption | assumption) (by first | with_reducible assumption | omega) (by first | with_reducible assumption | assumption) (by first | with_reducible assumption | omega) (by first | with_reducible assumption | assumption) (he_f) (he_g)) (csV_226 hts rfl rfl ⟨Nat.le_of_ble_eq_true rfl, Nat.le_of_ble_eq_true rfl⟩) (zPV2 (q0 := 0) (ci := 9) hPc hDc hK hXN rfl rfl) rfl rfl hl.1 rfl (lv_room (Nat.le_of_ble_eq_true rfl)) dX11_near_32 ⟨Nat.le_of_ble_eq_true rfl, Nat.le_of_ble_eq_true rfl⟩) hS hFc hFc rfl (fun t H locs ht hB hk1 hS => ?_)
          obtain ⟨un, dd, S1, hfr, hub, hP1, hD1⟩ := hB
          rw [ht] at hP1
          obtain ⟨hP, hD⟩ := zk (W2 := [(om k0 a I0 (vp_updL (vp_updL J0 48 (jI ((un : Nat) : Int))) 49 (jI ((dd : Nat) : Int)))), (oa (a 5) cI 201 st), (oa (a 6) cZ 201 tn), (oa (a 1) cI 201 kd), (oa (a 11) cI 201 mn), (oa (a 12) cI 8040 cx), (oa (a 13) cI 8040 cy), (oa (a 32) cI 8 S1)]) hP hD [0, 3, 4, 5, 6, 7] [1, 2] [1, 2] [0, 3, 4, 5, 6, 7] [2, 0, 1, 3, 4, 5, 6, 7] 8 rfl rfl rfl rfl rfl rfl rfl rfl rfl hk1 hFc hP1 hD1
          clear hk1 hPc hDc hFc hP1 hD1 ht
          refine lv_iload_n hx hb dX11_near_35 rfl (lv_at hl 3 rfl) ?_
          refine lv_if_ne (tgt := 46) hx hb dX11_near_36 rfl (fun c_5 => ?_) (fun c_5 => ?_)
          · have c_5 : ¬ w.toInt = 0 := zc_ne rfl rfl c_5
            refine lv_aload_n hx hb dX11_near_46 rfl (lv_at hl 0 rfl) ?_
            refine va_get (D := (dC, dI)) (ci := 9) (v := .long (jI ((dd : Nat) : Int))) (C := RX11) (T := TX11) (N := 55) hx hb hts inX11 hown hK hP 0 rfl rfl 49 (Nat.le_of_ble_eq_true rfl) (hts _ mw_1208) (fun _ h9 => h9) rfl dX11_near_47 ?_
            obtain ⟨hP9, hD9⟩ := zq_sub (wc := [(om k0 a I0 (vp_updL (vp_updL J0 48 (jI ((un : Nat) : Int))) 49 (jI ((dd : Nat) : Int)))), (oa (a 5) cI 201 st), (oa (a 6) cZ 201 tn), (oa (a 1) cI 201 kd), (oa (a 11) cI 201 mn), (oa (a 12) cI 8040 cx), (oa (a 13) cI 8040 cy), (oa (a 32) cI 8 S1)]) hP hD [0, 1, 2, 3, 4, 5, 6, 7] rfl rfl
            rw [hQ9]
            exact W.lret (v := jI ((dd : Nat) : Int)) hx hb hr (fun t ht hW => ⟨⟨_, rfl, (jI ((dd : Nat) : Int)), un, dd, S1, rfl, by rw [ht]; exact hP9, hD9⟩, hS.F ht⟩) hS.2.2 dX11_near_50
          · have c_5 : w.toInt = 0 := zc_eq rfl rfl c_5
            refine lv_aload_n hx hb dX11_near_39 rfl (lv_at hl 0 rfl) ?_
            refine va_get (D := (dC, dI)) (ci := 9) (v := .long (jI ((un : Nat) : Int))) (C := RX11) (T := TX11) (N := 55) hx hb hts inX11 hown hK hP 0 rfl rfl 48 (Nat.le_of_ble_eq_true rfl) (hts _ mw_1207) (fun _ h9 => h9) rfl dX11_near_40 ?_
            refine lv_goto (tgt := 50) hx hb dX11_near_43 rfl ?_
            obtain ⟨hP9, hD9⟩ := zq_sub (wc := [(om k0 a I0 (vp_updL (vp_updL J0 48 (jI ((un : Nat) : Int))) 49 (jI ((dd : Nat) : Int)))), (oa (a 5) cI 201 st), (oa (a 6) cZ 201 tn), (oa (a 1) cI 201 kd), (oa (a 11) cI 201 mn), (oa (a 12) cI 8040 cx), (oa (a 13) cI 8040 cy), (oa (a 32) cI 8 S1)]) hP hD [0, 1, 2, 3, 4, 5, 6, 7] rfl rfl
            rw [hQ9]
            exact W.lret (v := jI ((un : Nat) : Int)) hx hb hr (fun t ht hW => ⟨⟨_, rfl, (jI ((un : Nat) : Int)), un, dd, S1, rfl, by rw [ht]; exact hP9, hD9⟩, hS.F ht⟩) hS.2.2 dX11_near_50
        · have c_4 : 1 < w.toInt := zc_nle rfl rfl c_4
          exfalso; omega
end
section
/-! the reference as it is made -/
abbrev oc9 (a : Nat) (v0 : Int32) (v1 : Value) (v2 : Value) (v3 : Value) (v4 : Value) (v5 : Value) (v6 : Value) (v7 : Value) (v8 : Value) (v9 : Value) (v10 : Value) (v11 : Value) (v12 : Value) (v13 : Value) (v14 : Int32) (v15 : Int32) (v16 : Value) (v17 : Value) (v18 : Value) (v19 : Int32) (v20 : Int32) (v21 : Int32) (v22 : Value) (v23 : Value) (v24 : Value) (v25 : Value) (v26 : Int32) (v27 : Value) (v28 : Value) (v29 : Value) (v30 : Value) (v31 : Int32) (v32 : Value) (v33 : Value) (v34 : Value) (v35 : Int32) (v36 : Int32) (v37 : Value) (v38 : Value) (v39 : Value) (v40 : Value) (v41 : Int32) (v42 : Int32) (v43 : Value) (v44 : Int32) (v45 : Int32) (v46 : Int32) (v47 : Int32) (v48 : Int64) (v49 : Int64) (v50 : Value) (v51 : Value) (v52 : Value) (v53 : Value) (v54 : Int32) : Nat × va_E := (a, .inr (9, .int v0 :: v1 :: v2 :: v3 :: v4 :: v5 :: v6 :: v7 :: v8 :: v9 :: v10 :: v11 :: v12 :: v13 :: .int v14 :: .int v15 :: v16 :: v17 :: v18 :: .int v19 :: .int v20 :: .int v21 :: v22 :: v23 :: v24 :: v25 :: .int v26 :: v27 :: v28 :: v29 :: v30 :: .int v31 :: v32 :: v33 :: v34 :: .int v35 :: .int v36 :: v37 :: v38 :: v39 :: v40 :: .int v41 :: .int v42 :: v43 :: .int v44 :: .int v45 :: .int v46 :: .int v47 :: .long v48 :: .long v49 :: v50 :: v51 :: v52 :: v53 :: .int v54 :: []))
end
