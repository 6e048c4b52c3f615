section
set_option maxHeartbeats 4000000 in
set_option maxRecDepth 100000 in
theorem k_M_isLawfulTo_p (l : Launch) (dC : Nat → ClassId) (dI : Nat → Nat → Nat) (cI cZ cF : ClassId) (sz : Nat) (k0 : Nat) (a : Nat → Nat) (I0 : Nat → Int32) (J0 : Nat → Int64) (f : Nat) (n : Nat) (g : Nat) (m2 : Nat) (on : Nat) (b : Nat) (kd : Nat → Int32) (mn : Nat → Int32) (cx : Nat → Int32) (cy : Nat → Int32) (S0 : Nat → Int32) (T0 : Nat → Int32) (P0 : Nat → Int32) (Q0 : Nat → Int32) (ox : Nat → Int32) (oy : Nat → Int32) (mt : Nat → Int32) (wi : Nat → Int32) (ins : Nat → Int32) (MT : Prop) (WI : Prop) (IN : Nat → Prop) (hf_f : f ≤ 200) (hm_f : mn f = nI n) (hn_f : 1 ≤ n ∧ n ≤ 40) (hp_f : pls n (cF40 cx f) (cF40 cy f)) (hf_g : g ≤ 200) (hm_g : mn g = nI m2) (hn_g : 1 ≤ m2 ∧ m2 ≤ 40) (hp_g : pls m2 (cF40 cx g) (cF40 cy g)) (hon : I0 35 = nI on) (ho40 : on ≤ 40) (ho1 : 1 ≤ on) (hpo : pls on ox oy) (hmt : mt g = pI MT) (hwi : 5 ≤ (kd g).toInt → wi g = pI WI) (hin : ∀ k, k < m2 → 5 ≤ (kd f).toInt → ins (40 * g + k) = pI (IN k)) (hb9 : b < on) : Met l yX11_isLawfulTo (.code yX11_isLawfulTo cX11_isLawfulTo 8 (some .boolean) :: ws0) ({ frames := 4, cells := 0, slots := 0, locals := 108 } : Room) (va_Pc [.ref k0, .int (nI f), .int (nI g), .int 1, .int (nI b)] (zPre (dC, dI) classes (zTy cI cZ cF) [(om k0 a I0 J0), (oa (a 1) cI 201 kd), (oa (a 11) cI 201 mn), (oa (a 12) cI 8040 cx), (oa (a 13) cI 8040 cy), (oa (a 32) cI 8 S0), (oa (a 40) cI 6 T0), (oa (a 29) cI 42 P0), (oa (a 30) cI 42 Q0), (oa (a 33) cI 42 ox), (oa (a 34) cI 42 oy), (oa (a 37) cZ 201 mt), (oa (a 38) cZ 201 wi), (oa (a 39) cZ 8040 ins)] sz zXN)) (zQ (some (.int (pI (lawTo (ox 0) (oy 0) (kd f).toInt n (cF40 cx f) (cF40 cy f) (kd g).toInt m2 (cF40 cx g) (cF40 cy g) MT WI IN (fun k => swB on ox oy b (cF40 cx g k).toInt (cF40 cy g k).toInt))))) (fun t => ∃ (z9 : Int32), ∃ (S1 : Nat → Int32), ∃ (T1 : Nat → Int32), ∃ (P1 : Nat → Int32), ∃ (Q1 : Nat → Int32), va_P (dC, dI) classes [(om k0 a (upd I0 31 z9) J0), (oa (a 1) cI 201 kd), (oa (a 11) cI 201 mn), (oa (a 12) cI 8040 cx), (oa (a 13) cI 8040 cy), (oa (a 32) cI 8 S1), (oa (a 40) cI 6 T1), (oa (a 29) cI 42 P1), (oa (a 30) cI 42 Q1), (oa (a 33) cI 42 ox), (oa (a 34) cI 42 oy), (oa (a 37) cZ 201 mt), (oa (a 38) cZ 201 wi), (oa (a 39) cZ 8040 ins)] t.heap ∧ va_D (va_A [(om k0 a I0 J0), (oa (a 1) cI 201 kd), (oa (a 11) cI 201 mn), (oa (a 12) cI 8040 cx), (oa (a 13) cI 8040 cy), (oa (a 32) cI 8 S0), (oa (a 40) cI 6 T0), (oa (a 29) cI 42 P0), (oa (a 30) cI 42 Q0), (oa (a 33) cI 42 ox), (oa (a 34) cI 42 oy), (oa (a 37) cZ 201 mt), (oa (a 38) cZ 201 wi), (oa (a 39) cZ 8040 ins)] sz) [(om k0 a (upd I0 31 z9) J0), (oa (a 1) cI 201 kd), (oa (a 11) cI 201 mn), (oa (a 12) cI 8040 cx), (oa (a 13) cI 8040 cy), (oa (a 32) cI 8 S1), (oa (a 40) cI 6 T1), (oa (a 29) cI 42 P1), (oa (a 30) cI 42 Q1), (oa (a 33) cI 42 ox), (oa (a 34) cI 42 oy), (oa (a 37) cZ 201 mt), (oa (a 38) cZ 201 wi), (oa (a 39) cZ 8040 ins)]) (va_A [(om k0 a I0 J0), (oa (a 1) cI 201 kd), (oa (a 11) cI 201 mn), (oa (a 12) cI 8040 cx), (oa (a 13) cI 8040 cy), (oa (a 32) cI 8 S0), (oa (a 40) cI 6 T0), (oa (a 29) cI 42 P0), (oa (a 30) cI 42 Q0), (oa (a 33) cI 42 ox), (oa (a 34) cI 42 oy), (oa (a 37) cZ 201 mt), (oa (a 38) cZ 201 wi), (oa (a 39) cZ 8040 ins)] sz)) 0 0 (va_A [(om k0 a I0 J0), (oa (a 1) cI 201 kd), (oa (a 11) cI 201 mn), (oa (a 12) cI 8040 cx), (oa (a 13) cI 8040 cy), (oa (a 32) cI 8 S0), (oa (a 40) cI 6 T0), (oa (a 29) cI 42 P0), (oa (a 30) cI 42 Q0), (oa (a 33) cI 42 ox), (oa (a 34) cI 42 oy), (oa (a 37) cZ 201 mt), (oa (a 38) cZ 201 wi), (oa (a 39) cZ 8040 ins)] sz) := by
  refine Met.ofW (cc := cX11_isLawfulTo) (maxL := 8) (ret := (some .boolean)) rfl rfl ?_
  intro p e s m args below meth c s₁ B hml hv
  obtain ⟨rfl, hsz, hP, hK, hD0, hXN⟩ := hv
  have hx := B.exec
  have hb := B.bytes
  have hr := B.returns
  have hts0 := atoms_spec (ws := .code yX11_isLawfulTo cX11_isLawfulTo 8 (some .boolean) :: ws0) B.pre
  have hts : ∀ w9 ∈ ws0, w9.before ([.ref k0, .int (nI f), .int (nI g), .int 1, .int (nI b)] : List Value).toArray s = true := fun w9 h => hts0 w9 (List.mem_cons_of_mem _ h)
  have hown : s.vm.findClass "ScaleShopModel" = some m.cls := findClass_of_methodNamed B.named
  have hlocks := B.notSynchronized
  subst hsz
  have hD := hD0.self (sz := s.heap.size)
  clear hD0
  generalize hAe : va_A [(om k0 a I0 J0), (oa (a 1) cI 201 kd), (oa (a 11) cI 201 mn), (oa (a 12) cI 8040 cx), (oa (a 13) cI 8040 cy), (oa (a 32) cI 8 S0), (oa (a 40) cI 6 T0), (oa (a 29) cI 42 P0), (oa (a 30) cI 42 Q0), (oa (a 33) cI 42 ox), (oa (a 34) cI 42 oy), (oa (a 37) cZ 201 mt), (oa (a 38) cZ 201 wi), (oa (a 39) cZ 8040 ins)] s.heap.size = A at hD ⊢
  have hA : ∀ q : Nat, s.heap.size ≤ q → A q := fun q h => by rw [← hAe]; exact Or.inr h
  clear hAe
  have hS : va_S A s.heap s.heap [] := va_S.rf
  have hP : va_P (dC, dI) classes [(om k0 a I0 J0), (oa (a 1) cI 201 kd), (oa (a 11) cI 201 mn), (oa (a 12) cI 8040 cx), (oa (a 13) cI 8040 cy), (oa (a 32) cI 8 S0), (oa (a 40) cI 6 T0), (oa (a 29) cI 42 P0), (oa (a 30) cI 42 Q0), (oa (a 33) cI 42 ox), (oa (a 34) cI 42 oy), (oa (a 37) cZ 201 mt), (oa (a 38) cZ 201 wi), (oa (a 39) cZ 8040 ins)] s.heap := hP
  obtain ⟨Q9, hQ9⟩ : ∃ Q9 : State → Prop, Q9 = MQ below (zQ (some (.int (pI (lawTo (ox 0) (oy 0) (kd f).toInt n (cF40 cx f) (cF40 cy f) (kd g).toInt m2 (cF40 cx g) (cF40 cy g) MT WI IN (fun k => swB on ox oy b (cF40 cx g k).toInt (cF40 cy g k).toInt))))) (fun t => ∃ (z9 : Int32), ∃ (S1 : Nat → Int32), ∃ (T1 : Nat → Int32), ∃ (P1 : Nat → Int32), ∃ (Q1 : Nat → Int32), va_P (dC, dI) classes [(om k0 a (upd I0 31 z9) J0), (oa (a 1) cI 201 kd), (oa (a 11) cI 201 mn), (oa (a 12) cI 8040 cx), (oa (a 13) cI 8040 cy), (oa (a 32) cI 8 S1), (oa (a 40) cI 6 T1), (oa (a 29) cI 42 P1), (oa (a 30) cI 42 Q1), (oa (a 33) cI 42 ox), (oa (a 34) cI 42 oy), (oa (a 37) cZ 201 mt), (oa (a 38) cZ 201 wi), (oa (a 39) cZ 8040 ins)] t.heap ∧ va_D A [(om k0 a (upd I0 31 z9) J0), (oa (a 1) cI 201 kd), (oa (a 11) cI 201 mn), (oa (a 12) cI 8040 cx), (oa (a 13) cI 8040 cy), (oa (a 32) cI 8 S1), (oa (a 40) cI 6 T1), (oa (a 29) cI 42 P1), (oa (a 30) cI 42 Q1), (oa (a 33) cI 42 ox), (oa (a 34) cI 42 oy), (oa (a 37) cZ 201 mt), (oa (a 38) cZ 201 wi), (oa (a 39) cZ 8040 ins)]) A) ([.ref k0, .int (nI f), .int (nI g), .int 1, .int (nI b)] : List Value).toArray s 0 0 A := ⟨_, rfl⟩
  rw [← hQ9]
  have hl := lv_entry ([.ref k0, .int (nI f), .int (nI g), .int 1, .int (nI b)]) (n := 8) (Nat.le_of_ble_eq_true rfl)
  rw [lg_entry_eq]
  generalize (lg_sl ([.ref k0, .int (nI f), .int (nI g), .int 1, .int (nI b)]) ++ List.replicate (8 - (lg_sl ([.ref k0, .int (nI f), .int (nI g), .int 1, .int (nI b)])).length) Slot.unset).toArray = ls at hl ⊢
  have hl : lv_has ls 8 [(0, .ref k0), (1, .int (nI f)), (2, .int (nI g)), (3, .int 1), (4, .int (nI b))] := hl
  refine lv_aload_n hx hb dX11_isLawfulTo_0 rfl (lv_at hl 0 rfl) ?_
  refine lv_iload_n hx hb dX11_isLawfulTo_1 rfl (lv_at hl 1 rfl) ?_
  refine lv_iload_n hx hb dX11_isLawfulTo_2 rfl (lv_at hl 2 rfl) ?_
  obtain ⟨hPc, hDc, hFc⟩ := zc_sub (wc := [(om k0 a I0 J0), (oa (a 1) cI 201 kd), (oa (a 11) cI 201 mn), (oa (a 12) cI 8040 cx), (oa (a 13) cI 8040 cy), (oa (a 32) cI 8 S0)]) hP hD hS hA [0, 1, 2, 3, 4, 5] rfl rfl
  refine zcall (st1 := [.int (pI (∃ i, i < eO (kd f).toInt n ∧ ∃ j, j < eO (kd g).toInt m2 ∧ eMt n (cF40 cx f) (cF40 cy f) i m2 (cF40 cx g) (cF40 cy g) j))]) (va_runV (As := [.int (nI f), .int (nI g)]) (rest := []) ⟨hx, hb, hml, hown, hts⟩ (k_M_isMet l dC dI cI cZ cF s.heap.size k0 a I0 J0 f n g m2 kd mn cx cy S0 (by first | with_reducible assumption | omega) (by first | with_reducible assumption | assumption) (by first | with_reducible assumption | omega) (by first | with_reducible assumption | assumption) (by first | with_reducible assumption | omega) (by first | with_reducible assumption | assumption) (by first | with_reducible assumption | omega) (by first | with_reducible assumption | assumption)) (csV_180 hts rfl rfl ⟨Nat.le_of_ble_eq_true rfl, Nat.le_of_ble_eq_true rfl⟩) (zPV2 (q0 := 0) (ci := 9) hPc hDc hK hXN rfl rfl) rfl rfl hl.1 rfl (lv_room (Nat.le_of_ble_eq_true rfl)) dX11_isLawfulTo_3 ⟨Nat.le_of_ble_eq_true rfl, Nat.le_of_ble_eq_true rfl⟩) hS hFc hFc rfl (fun t H locs ht hB hk1 hS => ?_)
  obtain ⟨q_1, hP1, hD1⟩ := hB
  rw [ht] at hP1
  obtain ⟨hP, hD⟩ := zk (W2 := [(om k0 a I0 J0), (oa (a 1) cI 201 kd), (oa (a 11) cI 201 mn), (oa (a 12) cI 8040 cx), (oa (a 13) cI 8040 cy), (oa (a 32) cI 8 q_1), (oa (a 40) cI 6 T0), (oa (a 29) cI 42 P0), (oa (a 30) cI 42 Q0), (oa (a 33) cI 42 ox), (oa (a 34) cI 42 oy), (oa (a 37) cZ 201 mt), (oa (a 38) cZ 201 wi), (oa (a 39) cZ 8040 ins)]) hP hD [0, 1, 2, 3, 4, 5] [6, 7, 8, 9, 10, 11, 12, 13] [6, 7, 8, 9, 10, 11, 12, 13] [0, 1, 2, 3, 4, 5] [8, 9, 10, 11, 12, 13, 0, 1, 2, 3, 4, 5, 6, 7] 14 rfl rfl rfl rfl rfl rfl rfl rfl rfl hk1 hFc hP1 hD1
  clear hk1 hPc hDc hFc hP1 hD1 ht
  refine zz_i (v := pI (mtF (kd f).toInt n (cF40 cx f) (cF40 cy f) (kd g).toInt m2 (cF40 cx g) (cF40 cy g))) (rfl) ?_
  refine lv_aload_n hx hb dX11_isLawfulTo_6 rfl (lv_at hl 0 rfl) ?_
  refine va_get (D := (dC, dI)) (ci := 9) (v := .ref (a 37)) (C := RX11) (T := TX11) (N := 55) hx hb hts inX11 hown hK hP 0 rfl rfl 37 (Nat.le_of_ble_eq_true rfl) (hts _ mw_1196) (fun _ h9 => h9) rfl dX11_isLawfulTo_7 ?_
  refine lv_iload_n hx hb dX11_isLawfulTo_10 rfl (lv_at hl 2 rfl) ?_
  have b9_2 : g < 201 := by omega
  refine z_zald hx hb hK hP 11 1 rfl rfl (e := g) rfl b9_2 (Nat.le_of_ble_eq_true rfl) dX11_isLawfulTo_11 ?_
  refine zz_i (v := pI MT) (hmt) ?_
  refine lv_icmp_eq (tgt := 17) hx hb dX11_isLawfulTo_12 rfl (fun c_3 => ?_) (fun c_3 => ?_)
  · have c_3 : (pI (mtF (kd f).toInt n (cF40 cx f) (cF40 cy f) (kd g).toInt m2 (cF40 cx g) (cF40 cy g))).toInt = (pI MT).toInt := zc_eq rfl rfl c_3
    refine lv_aload_n hx hb dX11_isLawfulTo_17 rfl (lv_at hl 0 rfl) ?_
    refine lv_iload_n hx hb dX11_isLawfulTo_18 rfl (lv_at hl 2 rfl) ?_
    obtain ⟨hPc, hDc, hFc⟩ := zc_sub (wc := [(om k0 a I0 J0), (oa (a 1) cI 201 kd)]) hP hD hS hA [0, 1] rfl rfl
    refine zcall (st1 := [.int (pI (5 ≤ (kd g).toInt))]) (va_runV (As := [.int (nI g)]) (rest := []) ⟨hx, hb, hml, hown, hts⟩ (k_M_isRing l dC dI cI cZ cF H.size k0 a I0 J0 g kd (by first | with_reducible assumption | omega)) (csV_165 hts rfl rfl ⟨Nat.le_of_ble_eq_true rfl, Nat.le_of_ble_eq_true rfl⟩) (zPV2 (q0 := 0) (ci := 9) hPc hDc hK hXN rfl rfl) rfl rfl hl.1 rfl (lv_room (Nat.le_of_ble_eq_true rfl)) dX11_isLawfulTo_19 ⟨Nat.le_of_ble_eq_true rfl, Nat.le_of_ble_eq_true rfl⟩) hS hFc hFc rfl (fun t H locs ht hB hk1 hS => ?_)
    obtain ⟨hP1, hD1⟩ := hB
    rw [ht] at hP1
    obtain ⟨hP, hD⟩ := zk (W2 := [(om k0 a I0 J0), (oa (a 1) cI 201 kd), (oa (a 11) cI 201 mn), (oa (a 12) cI 8040 cx), (oa (a 13) cI 8040 cy), (oa (a 32) cI 8 q_1), (oa (a 40) cI 6 T0), (oa (a 29) cI 42 P0), (oa (a 30) cI 42 Q0), (oa (a 33) cI 42 ox), (oa (a 34) cI 42 oy), (oa (a 37) cZ 201 mt), (oa (a 38) cZ 201 wi), (oa (a 39) cZ 8040 ins)]) hP hD [0, 1] [2, 3, 4, 5, 6, 7, 8, 9, 10, 11, 12, 13] [2, 3, 4, 5, 6, 7, 8, 9, 10, 11, 12, 13] [0, 1] [12, 13, 0, 1, 2, 3, 4, 5, 6, 7, 8, 9, 10, 11] 14 rfl rfl rfl rfl rfl rfl rfl rfl rfl hk1 hFc hP1 hD1
    clear hk1 hPc hDc hFc hP1 hD1 ht
    refine lv_if_eq (tgt := 59) hx hb dX11_isLawfulTo_22 rfl (fun c_4 => ?_) (fun c_4 => ?_)
    · have c_4 : ¬ (5 ≤ (kd g).toInt) := zp_0 c_4
      refine lv_iconst (v := 0) hx hb dX11_isLawfulTo_59 rfl ?_
      refine lv_istore (lv' := [(5, .int 0), (0, .ref k0), (1, .int (nI f)), (2, .int (nI g)), (3, .int 1), (4, .int (nI b))]) hx hb dX11_isLawfulTo_60 hl (Nat.le_of_ble_eq_true rfl) rfl (fun ls hl => ?_)
      have hl_62 : ∀ (n9 : Nat) (k : Nat) (z9 : Int32) (S1 : Nat → Int32) (T1 : Nat → Int32) (P1 : Nat → Int32) (Q1 : Nat → Int32) (H : Heap) (locs : List Loc) (ls : Array Slot), m2 - k < n9 → (k ≤ m2) → (∀ j, j < k → (5 ≤ (kd f).toInt → (inF (kd f).toInt n (cF40 cx f) (cF40 cy f) (cF40 cx g j).toInt (cF40 cy g j).toInt ↔ IN j)) ∧ (¬ (kd f).toInt = 0 → ¬ (fun k => swB on ox oy b (cF40 cx g k).toInt (cF40 cy g k).toInt) j)) → va_P (dC, dI) classes [(om k0 a (upd I0 31 z9) J0), (oa (a 1) cI 201 kd), (oa (a 11) cI 201 mn), (oa (a 12) cI 8040 cx), (oa (a 13) cI 8040 cy), (oa (a 32) cI 8 S1), (oa (a 40) cI 6 T1), (oa (a 29) cI 42 P1), (oa (a 30) cI 42 Q1), (oa (a 33) cI 42 ox), (oa (a 34) cI 42 oy), (oa (a 37) cZ 201 mt), (oa (a 38) cZ 201 wi), (oa (a 39) cZ 8040 ins)] H → va_D A [(om k0 a (upd I0 31 z9) J0), (oa (a 1) cI 201 kd), (oa (a 11) cI 201 mn), (oa (a 12) cI 8040 cx), (oa (a 13) cI 8040 cy), (oa (a 32) cI 8 S1), (oa (a 40) cI 6 T1), (oa (a 29) cI 42 P1), (oa (a 30) cI 42 Q1), (oa (a 33) cI 42 ox), (oa (a 34) cI 42 oy), (oa (a 37) cZ 201 mt), (oa (a 38) cZ 201 wi), (oa (a 39) cZ 8040 ins)] → va_S A s.heap H locs → lv_has ls 8 [(5, .int (nI k)), (0, .ref k0), (1, .int (nI f)), (2, .int (nI g)), (3, .int 1), (4, .int (nI b))] → W p l e ((headSpec (.code yX11_isLawfulTo cX11_isLawfulTo 8 (some .boolean) :: ws0) ({ frames := 4, cells := 0, slots := 0, locals := 108 } : Room)).room) s m ([.ref k0, .int (nI f), .int (nI g), .int 1, .int (nI b)] : List Value).toArray below meth c H locs 0 0 Q9 (F0 m 62 ls []) := by
        intro n9
        induction n9 with
        | zero => intro k z9 S1 T1 P1 Q1 H locs ls hm; exact absurd hm (Nat.not_lt_zero _)
        | succ n9 ih_62 =>
          intro k z9 S1 T1 P1 Q1 H locs ls hm hk hall hP hD hS hl
          refine lv_iload hx hb dX11_isLawfulTo_62 (lv_at hl 0 rfl) ?_
          refine lv_aload_n hx hb dX11_isLawfulTo_64 rfl (lv_at hl 1 rfl) ?_
          refine va_get (D := (dC, dI)) (ci := 9) (v := .ref (a 11)) (C := RX11) (T := TX11) (N := 55) hx hb hts inX11 hown hK hP 0 rfl rfl 11 (Nat.le_of_ble_eq_true rfl) (hts _ mw_1170) (fun _ h9 => h9) rfl dX11_isLawfulTo_65 ?_
          refine lv_iload_n hx hb dX11_isLawfulTo_68 rfl (lv_at hl 3 rfl) ?_
          refine z_iald hx hb hK hP 2 0 rfl rfl (e := g) rfl b9_2 (Nat.le_of_ble_eq_true rfl) dX11_isLawfulTo_69 ?_
          refine zz_i (v := nI m2) (hm_g) ?_
          have b9_6 : k < 2147483648 := by omega
          have b9_7 : m2 < 2147483648 := by omega
          refine lv_icmp_ge (tgt := 191) hx hb dX11_isLawfulTo_70 rfl (fun c_5 => ?_) (fun c_5 => ?_)
          · have c_5 : ((m2 : Nat) : Int) ≤ ((k : Nat) : Int) := zc_le (nI_toInt b9_7) (nI_toInt b9_6) c_5
            refine lv_aload_n hx hb dX11_isLawfulTo_191 rfl (lv_at hl 1 rfl) ?_
            refine va_get (D := (dC, dI)) (ci := 9) (v := .ref (a 1)) (C := RX11) (T := TX11) (N := 55) hx hb hts inX11 hown hK hP 0 rfl rfl 1 (Nat.le_of_ble_eq_true rfl) (hts _ mw_1160) (fun _ h9 => h9) rfl dX11_isLawfulTo_192 ?_
            refine lv_iload_n hx hb dX11_isLawfulTo_195 rfl (lv_at hl 2 rfl) ?_
            have b9_8 : f < 201 := by omega
            refine z_iald hx hb hK hP 1 0 rfl rfl (e := f) rfl b9_8 (Nat.le_of_ble_eq_true rfl) dX11_isLawfulTo_196 ?_
            refine lv_if_ne (tgt := 209) hx hb dX11_isLawfulTo_197 rfl (fun c_9 => ?_) (fun c_9 => ?_)
            · have c_9 : ¬ (kd f).toInt = 0 := zc_ne rfl rfl c_9
              refine lv_iconst (v := 1) hx hb dX11_isLawfulTo_209 rfl ?_
              refine lv_goto (tgt := 214) hx hb dX11_isLawfulTo_210 rfl ?_
              obtain ⟨hP9, hD9⟩ := zq_sub (wc := [(om k0 a (upd I0 31 z9) J0), (oa (a 1) cI 201 kd), (oa (a 11) cI 201 mn), (oa (a 12) cI 8040 cx), (oa (a 13) cI 8040 cy), (oa (a 32) cI 8 S1), (oa (a 40) cI 6 T1), (oa (a 29) cI 42 P1), (oa (a 30) cI 42 Q1), (oa (a 33) cI 42 ox), (oa (a 34) cI 42 oy), (oa (a 37) cZ 201 mt), (oa (a 38) cZ 201 wi), (oa (a 39) cZ 8040 ins)]) hP hD [0, 1, 2, 3, 4, 5, 6, 7, 8, 9, 10, 11, 12, 13] rfl rfl
              rw [hQ9]
              exact W.zret (ty := .boolean) (v := 1) hx hb hr (rfl) (fun t ht hW => ⟨⟨congrArg (fun z => Outcome.returned (some (Value.int z))) (show (1 : Int32) = pI (lawTo (ox 0) (oy 0) (kd f).toInt n (cF40 cx f) (cF40 cy f) (kd g).toInt m2 (cF40 cx g) (cF40 cy g) MT WI IN (fun k => swB on ox oy b (cF40 cx g k).toInt (cF40 cy g k).toInt)) from (zp_t (by first | exact ⟨zp_ieq.mp (by first | with_reducible assumption | assumption), fun h => (by first | (exfalso; omega) | exact zp_ieq.mp (by first | with_reducible assumption | assumption)), fun j hj => hall j (by omega), fun h => (by first | (exfalso; omega) | assumption)⟩ | exact fun h => absurd (h.2.2.2 (by omega)) (by first | with_reducible assumption | assumption))).symm), z9, S1, T1, P1, Q1, by rw [ht]; exact hP9, hD9⟩, hS.F ht⟩) hS.2.2 dX11_isLawfulTo_214
            · have c_9 : (kd f).toInt = 0 := zc_eq rfl rfl c_9
              refine lv_aload_n hx hb dX11_isLawfulTo_200 rfl (lv_at hl 1 rfl) ?_
              refine lv_iload_n hx hb dX11_isLawfulTo_201 rfl (lv_at hl 2 rfl) ?_
              refine lv_iload_n hx hb dX11_isLawfulTo_202 rfl (lv_at hl 3 rfl) ?_
              obtain ⟨hPc, hDc, hFc⟩ := zc_sub (wc := [(om k0 a (upd I0 31 z9) J0), (oa (a 1) cI 201 kd), (oa (a 11) cI 201 mn), (oa (a 12) cI 8040 cx), (oa (a 13) cI 8040 cy), (oa (a 32) cI 8 S1), (oa (a 33) cI 42 ox), (oa (a 34) cI 42 oy)]) hP hD hS hA [0, 1, 2, 3, 4, 5, 9, 10] rfl rfl
              refine zcall (st1 := [.int (pI (∀ k, k < eO (kd g).toInt m2 → fWy (ox 0).toInt (oy 0).toInt (cx (40 * f)).toInt (cy (40 * f)).toInt m2 (cF40 cx g) (cF40 cy g) k))]) (va_runV (As := [.int (nI f), .int (nI g)]) (rest := []) ⟨hx, hb, hml, hown, hts⟩ (k_M_isFreeWay l dC dI cI cZ cF H.size k0 a (upd I0 31 z9) J0 f g m2 kd mn cx cy S1 ox oy (by first | with_reducible assumption | omega) ((hpo 0 (by first | with_reducible assumption | omega)).1) ((hpo 0 (by first | with_reducible assumption | omega)).2) ((hp_f 0 (by first | with_reducible assumption | omega)).1) ((hp_f 0 (by first | with_reducible assumption | omega)).2) (by first | with_reducible assumption | omega) (by first | with_reducible assumption | assumption) (by first | with_reducible assumption | omega) (by first | with_reducible assumption | assumption)) (csV_181 hts rfl rfl ⟨Nat.le_of_ble_eq_true rfl, Nat.le_of_ble_eq_true rfl⟩) (zPV2 (q0 := 0) (ci := 9) hPc hDc hK hXN rfl rfl) rfl rfl hl.1 rfl (lv_room (Nat.le_of_ble_eq_true rfl)) dX11_isLawfulTo_203 ⟨Nat.le_of_ble_eq_true rfl, Nat.le_of_ble_eq_true rfl⟩) hS hFc hFc rfl (fun t H locs ht hB hk1 hS => ?_)
              obtain ⟨q_10, hP1, hD1⟩ := hB
              rw [ht] at hP1
              obtain ⟨hP, hD⟩ := zk (W2 := [(om k0 a (upd I0 31 z9) J0), (oa (a 1) cI 201 kd), (oa (a 11) cI 201 mn), (oa (a 12) cI 8040 cx), (oa (a 13) cI 8040 cy), (oa (a 32) cI 8 q_10), (oa (a 40) cI 6 T1), (oa (a 29) cI 42 P1), (oa (a 30) cI 42 Q1), (oa (a 33) cI 42 ox), (oa (a 34) cI 42 oy), (oa (a 37) cZ 201 mt), (oa (a 38) cZ 201 wi), (oa (a 39) cZ 8040 ins)]) hP hD [0, 1, 2, 3, 4, 5, 9, 10] [6, 7, 8, 11, 12, 13] [6, 7, 8, 11, 12, 13] [0, 1, 2, 3, 4, 5, 9, 10] [6, 7, 8, 9, 10, 11, 0, 1, 2, 12, 13, 3, 4, 5] 14 rfl rfl rfl rfl rfl rfl rfl rfl rfl hk1 hFc hP1 hD1
              clear hk1 hPc hDc hFc hP1 hD1 ht
              refine zz_i (v := pI (∀ k, k < eO (kd g).toInt m2 → fWy (ox 0).toInt (oy 0).toInt (cF40 cx f 0).toInt (cF40 cy f 0).toInt m2 (cF40 cx g) (cF40 cy g) k)) (rfl) ?_
              refine lv_if_eq (tgt := 213) hx hb dX11_isLawfulTo_206 rfl (fun c_11 => ?_) (fun c_11 => ?_)
              · have c_11 : ¬ (∀ k, k < eO (kd g).toInt m2 → fWy (ox 0).toInt (oy 0).toInt (cF40 cx f 0).toInt (cF40 cy f 0).toInt m2 (cF40 cx g) (cF40 cy g) k) := zp_0 c_11
                refine lv_iconst (v := 0) hx hb dX11_isLawfulTo_213 rfl ?_
                obtain ⟨hP9, hD9⟩ := zq_sub (wc := [(om k0 a (upd I0 31 z9) J0), (oa (a 1) cI 201 kd), (oa (a 11) cI 201 mn), (oa (a 12) cI 8040 cx), (oa (a 13) cI 8040 cy), (oa (a 32) cI 8 q_10), (oa (a 40) cI 6 T1), (oa (a 29) cI 42 P1), (oa (a 30) cI 42 Q1), (oa (a 33) cI 42 ox), (oa (a 34) cI 42 oy), (oa (a 37) cZ 201 mt), (oa (a 38) cZ 201 wi), (oa (a 39) cZ 8040 ins)]) hP hD [0, 1, 2, 3, 4, 5, 6, 7, 8, 9, 10, 11, 12, 13] rfl rfl
                rw [hQ9]
                exact W.zret (ty := .boolean) (v := 0) hx hb hr (rfl) (fun t ht hW => ⟨⟨congrArg (fun z => Outcome.returned (some (Value.int z))) (show (0 : Int32) = pI (lawTo (ox 0) (oy 0) (kd f).toInt n (cF40 cx f) (cF40 cy f) (kd g).toInt m2 (cF40 cx g) (cF40 cy g) MT WI IN (fun k => swB on ox oy b (cF40 cx g k).toInt (cF40 cy g k).toInt)) from (zp_f (by first | exact ⟨zp_ieq.mp (by first | with_reducible assumption | assumption), fun h => (by first | (exfalso; omega) | exact zp_ieq.mp (by first | with_reducible assumption | assumption)), fun j hj => hall j (by omega), fun h => (by first | (exfalso; omega) | assumption)⟩ | exact fun h => absurd (h.2.2.2 (by omega)) (by first | with_reducible assumption | assumption))).symm), z9, q_10, T1, P1, Q1, by rw [ht]; exact hP9, hD9⟩, hS.F ht⟩) hS.2.2 dX11_isLawfulTo_214
              · have c_11 : ∀ k, k < eO (kd g).toInt m2 → fWy (ox 0).toInt (oy 0).toInt (cF40 cx f 0).toInt (cF40 cy f 0).toInt m2 (cF40 cx g) (cF40 cy g) k := zp_1 c_11
                refine lv_iconst (v := 1) hx hb dX11_isLawfulTo_209 rfl ?_
                refine lv_goto (tgt := 214) hx hb dX11_isLawfulTo_210 rfl ?_
                obtain ⟨hP9, hD9⟩ := zq_sub (wc := [(om k0 a (upd I0 31 z9) J0), (oa (a 1) cI 201 kd), (oa (a 11) cI 201 mn), (oa (a 12) cI 8040 cx), (oa (a 13) cI 8040 cy), (oa (a 32) cI 8 q_10), (oa (a 40) cI 6 T1), (oa (a 29) cI 42 P1), (oa (a 30) cI 42 Q1), (oa (a 33) cI 42 ox), (oa (a 34) cI 42 oy), (oa (a 37) cZ 201 mt), (oa (a 38) cZ 201 wi), (oa (a 39) cZ 8040 ins)]) hP hD [0, 1, 2, 3, 4, 5, 6, 7, 8, 9, 10, 11, 12, 13] rfl rfl
                rw [hQ9]
                exact W.zret (ty := .boolean) (v := 1) hx hb hr (rfl) (fun t ht hW => ⟨⟨congrArg (fun z => Outcome.returned (some (Value.int z))) (show (1 : Int32) = pI (lawTo (ox 0) (oy 0) (kd f).toInt n (cF40 cx f) (cF40 cy f) (kd g).toInt m2 (cF40 cx g) (cF40 cy g) MT WI IN (fun k => swB on ox oy b (cF40 cx g k).toInt (cF40 cy g k).toInt)) from (zp_t (by first | exact ⟨zp_ieq.mp (by first | with_reducible assumption | assumption), fun h => (by first | (exfalso; omega) | exact zp_ieq.mp (by first | with_reducible assumption | assumption)), fun j hj => hall j (by omega), fun h => (by first | (exfalso; omega) | assumption)⟩ | exact fun h => absurd (h.2.2.2 (by omega)) (by first | with_reducible assumption | assumption))).symm), z9, q_10, T1, P1, Q1, by rw [ht]; exact hP9, hD9⟩, hS.F ht⟩) hS.2.2 dX11_isLawfulTo_214
          · have c_5 : ((k : Nat) : Int) < ((m2 : Nat) : Int) := zc_nle (nI_toInt b9_7) (nI_toInt b9_6) c_5
            have hk9 : k < m2 := (by omega)
            refine lv_aload_n hx hb dX11_isLawfulTo_73 rfl (lv_at hl 1 rfl) ?_
            refine va_get (D := (dC, dI)) (ci := 9) (v := .ref (a 12)) (C := RX11) (T := TX11) (N := 55) hx hb hts inX11 hown hK hP 0 rfl rfl 12 (Nat.le_of_ble_eq_true rfl) (hts _ mw_1171) (fun _ h9 => h9) rfl dX11_isLawfulTo_74 ?_
            refine lv_bipush (v := 40) hx hb dX11_isLawfulTo_77 rfl ?_
            refine lv_iload_n hx hb dX11_isLawfulTo_79 rfl (lv_at hl 3 rfl) ?_
            refine lv_imul hx hb dX11_isLawfulTo_80 ?_
            refine zz_i (v := nI (40 * g)) (pk_mul 40 g) ?_
            refine lv_iload hx hb dX11_isLawfulTo_81 (lv_at hl 0 rfl) ?_
            refine lv_iadd hx hb dX11_isLawfulTo_83 ?_
            refine zz_i (v := nI (40 * g + k)) (nI_add (40 * g) k) ?_
            have b9_12 : 40 * g + k < 8040 := by omega
            refine z_iald hx hb hK hP 3 0 rfl rfl (e := 40 * g + k) rfl b9_12 (Nat.le_of_ble_eq_true rfl) dX11_isLawfulTo_84 ?_
            refine lv_istore (lv' := [(6, .int (cx (40 * g + k))), (5, .int (nI k)), (0, .ref k0), (1, .int (nI f)), (2, .int (nI g)), (3, .int 1), (4, .int (nI b))]) hx hb dX11_isLawfulTo_85 hl (Nat.le_of_ble_eq_true rfl) rfl (fun ls hl => ?_)
            refine lv_aload_n hx hb dX11_isLawfulTo_87 rfl (lv_at hl 2 rfl) ?_
            refine va_get (D := (dC, dI)) (ci := 9) (v := .ref (a 13)) (C := RX11) (T := TX11) (N := 55) hx hb hts inX11 hown hK hP 0 rfl rfl 13 (Nat.le_of_ble_eq_true rfl) (hts _ mw_1172) (fun _ h9 => h9) rfl dX11_isLawfulTo_88 ?_
            refine lv_bipush (v := 40) hx hb dX11_isLawfulTo_91 rfl ?_
            refine lv_iload_n hx hb dX11_isLawfulTo_93 rfl (lv_at hl 4 rfl) ?_
            refine lv_imul hx hb dX11_isLawfulTo_94 ?_
            refine zz_i (v := nI (40 * g)) (pk_mul 40 g) ?_
            refine lv_iload hx hb dX11_isLawfulTo_95 (lv_at hl 1 rfl) ?_
            refine lv_iadd hx hb dX11_isLawfulTo_97 ?_
            refine zz_i (v := nI (40 * g + k)) (nI_add (40 * g) k) ?_
            refine z_iald hx hb hK hP 4 0 rfl rfl (e := 40 * g + k) rfl b9_12 (Nat.le_of_ble_eq_true rfl) dX11_isLawfulTo_98 ?_
            refine lv_istore (lv' := [(7, .int (cy (40 * g + k))), (6, .int (cx (40 * g + k))), (5, .int (nI k)), (0, .ref k0), (1, .int (nI f)), (2, .int (nI g)), (3, .int 1), (4, .int (nI b))]) hx hb dX11_isLawfulTo_99 hl (Nat.le_of_ble_eq_true rfl) rfl (fun ls hl => ?_)
            refine lv_aload_n hx hb dX11_isLawfulTo_101 rfl (lv_at hl 3 rfl) ?_
            refine lv_iload_n hx hb dX11_isLawfulTo_102 rfl (lv_at hl 4 rfl) ?_
            obtain ⟨hPc, hDc, hFc⟩ := zc_sub (wc := [(om k0 a (upd I0 31 z9) J0), (oa (a 1) cI 201 kd)]) hP hD hS hA [0, 1] rfl rfl
            refine zcall (st1 := [.int (pI (5 ≤ (kd f).toInt))]) (va_runV (As := [.int (nI f)]) (rest := []) ⟨hx, hb, hml, hown, hts⟩ (k_M_isRing l dC dI cI cZ cF H.size k0 a (upd I0 31 z9) J0 f kd (by first | with_reducible assumption | omega)) (csV_165 hts rfl rfl ⟨Nat.le_of_ble_eq_true rfl, Nat.le_of_ble_eq_true rfl⟩) (zPV2 (q0 := 0) (ci := 9) hPc hDc hK hXN rfl rfl) rfl rfl hl.1 rfl (lv_room (Nat.le_of_ble_eq_true rfl)) dX11_isLawfulTo_103 ⟨Nat.le_of_ble_eq_true rfl, Nat.le_of_ble_eq_true rfl⟩) hS hFc hFc rfl (fun t H locs ht hB hk1 hS => ?_)
            obtain ⟨hP1, hD1⟩ := hB
            rw [ht] at hP1
            obtain ⟨hP, hD⟩ := zk (W2 := [(om k0 a (upd I0 31 z9) J0), (oa (a 1) cI 201 kd), (oa (a 11) cI 201 mn), (oa (a 12) cI 8040 cx), (oa (a 13) cI 8040 cy), (oa (a 32) cI 8 S1), (oa (a 40) cI 6 T1), (oa (a 29) cI 42 P1), (oa (a 30) cI 42 Q1), (oa (a 33) cI 42 ox), (oa (a 34) cI 42 oy), (oa (a 37) cZ 201 mt), (oa (a 38) cZ 201 wi), (oa (a 39) cZ 8040 ins)]) hP hD [0, 1] [2, 3, 4, 5, 6, 7, 8, 9, 10, 11, 12, 13] [2, 3, 4, 5, 6, 7, 8, 9, 10, 11, 12, 13] [0, 1] [12, 13, 0, 1, 2, 3, 4, 5, 6, 7, 8, 9, 10, 11] 14 rfl rfl rfl rfl rfl rfl rfl rfl rfl hk1 hFc hP1 hD1
            clear hk1 hPc hDc hFc hP1 hD1 ht
            refine lv_if_eq (tgt := 135) hx hb dX11_isLawfulTo_106 rfl (fun c_13 => ?_) (fun c_13 => ?_)
            · have c_13 : ¬ (5 ≤ (kd f).toInt) := zp_0 c_13
              refine lv_aload_n hx hb dX11_isLawfulTo_135 rfl (lv_at hl 3 rfl) ?_
              refine va_get (D := (dC, dI)) (ci := 9) (v := .ref (a 1)) (C := RX11) (T := TX11) (N := 55) hx hb hts inX11 hown hK hP 0 rfl rfl 1 (Nat.le_of_ble_eq_true rfl) (hts _ mw_1160) (fun _ h9 => h9) rfl dX11_isLawfulTo_136 ?_
              refine lv_iload_n hx hb dX11_isLawfulTo_139 rfl (lv_at hl 4 rfl) ?_
              have b9_14 : f < 201 := by omega
              refine z_iald hx hb hK hP 1 0 rfl rfl (e := f) rfl b9_14 (Nat.le_of_ble_eq_true rfl) dX11_isLawfulTo_140 ?_
              refine lv_if_eq (tgt := 185) hx hb dX11_isLawfulTo_141 rfl (fun c_15 => ?_) (fun c_15 => ?_)
              · have c_15 : (kd f).toInt = 0 := zc_eq rfl rfl c_15
                refine lv_iinc (v := nI (k + 1)) (lv' := [(5, .int (nI (k + 1))), (7, .int (cy (40 * g + k))), (6, .int (cx (40 * g + k))), (0, .ref k0), (1, .int (nI f)), (2, .int (nI g)), (3, .int 1), (4, .int (nI b))]) hx hb dX11_isLawfulTo_185 hl (k := 2) rfl (nI_add k 1) (Nat.le_of_ble_eq_true rfl) rfl (fun ls hl => ?_)
                refine lv_goto (tgt := 62) hx hb dX11_isLawfulTo_188 rfl ?_
                exact ih_62 (k + 1) z9 S1 T1 P1 Q1 H locs ls (by first | with_reducible assumption | omega) (by first | with_reducible assumption | omega) (by intro j hj; rcases Nat.lt_or_ge j k with h | h; exact hall j h; obtain rfl : j = k := (by first | with_reducible assumption | omega); exact ⟨fun h5 => (by first | (exfalso; omega) | exact zp_ieq.mp (by first | with_reducible assumption | assumption)), fun h0 => (by first | (exfalso; omega) | exact id | assumption)⟩) hP hD hS (lv_sub hl [0, 3, 4, 5, 6, 7] rfl)
              · have c_15 : ¬ (kd f).toInt = 0 := zc_ne rfl rfl c_15
                refine lv_iload_n hx hb dX11_isLawfulTo_144 rfl (lv_at hl 6 rfl) ?_
                refine lv_iconst (v := 5) hx hb dX11_isLawfulTo_145 rfl ?_
                refine lv_icmp_eq (tgt := 185) hx hb dX11_isLawfulTo_146 rfl (fun c_16 => ?_) (fun c_16 => ?_)
                · exact absurd c_16 (by decide)
                · refine lv_iload hx hb dX11_isLawfulTo_149 (lv_at hl 7 rfl) ?_
                  refine lv_iconst (v := (-1)) hx hb dX11_isLawfulTo_151 rfl ?_
                  have b9_18 : b < 2147483648 := by omega
                  refine lv_icmp_eq (tgt := 171) hx hb dX11_isLawfulTo_152 rfl (fun c_17 => ?_) (fun c_17 => ?_)
                  · have c_17 : ((b : Nat) : Int) = (-1) := zc_eq (nI_toInt b9_18) rfl c_17
                    exfalso; omega
                  · have c_17 : ¬ ((b : Nat) : Int) = (-1) := zc_ne (nI_toInt b9_18) rfl c_17
                    refine lv_aload_n hx hb dX11_isLawfulTo_155 rfl (lv_at hl 3 rfl) ?_
                    refine lv_iload hx hb dX11_isLawfulTo_156 (lv_at hl 7 rfl) ?_
                    refine lv_iload hx hb dX11_isLawfulTo_158 (lv_at hl 1 rfl) ?_
                    refine lv_iload hx hb dX11_isLawfulTo_160 (lv_at hl 0 rfl) ?_
                    obtain ⟨hPc, hDc, hFc⟩ := zc_sub (wc := [(om k0 a (upd I0 31 z9) J0), (oa (a 40) cI 6 T1), (oa (a 33) cI 42 ox), (oa (a 34) cI 42 oy)]) hP hD hS hA [0, 6, 9, 10] rfl rfl
                    refine zcall (st1 := [.int (pI (swB on ox oy b (cx (40 * g + k)).toInt (cy (40 * g + k)).toInt))]) (va_runV (As := [.int (nI b), .int (cx (40 * g + k)), .int (cy (40 * g + k))]) (rest := []) ⟨hx, hb, hml, hown, hts⟩ (k_M_isSweptBy l dC dI cI cZ cF H.size k0 a (upd I0 31 z9) J0 b on (cx (40 * g + k)) (cy (40 * g + k)) T1 ox oy (hon) (by first | with_reducible assumption | omega) (by first | with_reducible assumption | omega) (by first | with_reducible assumption | assumption) ((hp_g k hk9).1) ((hp_g k hk9).2)) (csV_182 hts rfl rfl ⟨Nat.le_of_ble_eq_true rfl, Nat.le_of_ble_eq_true rfl⟩) (zPV2 (q0 := 0) (ci := 9) hPc hDc hK hXN rfl rfl) rfl rfl hl.1 rfl (lv_room (Nat.le_of_ble_eq_true rfl)) dX11_isLawfulTo_162 ⟨Nat.le_of_ble_eq_true rfl, Nat.le_of_ble_eq_true rfl⟩) hS hFc hFc rfl (fun t H locs ht hB hk1 hS => ?_)
                    obtain ⟨q_19, hP1, hD1⟩ := hB
                    rw [ht] at hP1
                    obtain ⟨hP, hD⟩ := zk (W2 := [(om k0 a (upd I0 31 z9) J0), (oa (a 1) cI 201 kd), (oa (a 11) cI 201 mn), (oa (a 12) cI 8040 cx), (oa (a 13) cI 8040 cy), (oa (a 32) cI 8 S1), (oa (a 40) cI 6 q_19), (oa (a 29) cI 42 P1), (oa (a 30) cI 42 Q1), (oa (a 33) cI 42 ox), (oa (a 34) cI 42 oy), (oa (a 37) cZ 201 mt), (oa (a 38) cZ 201 wi), (oa (a 39) cZ 8040 ins)]) hP hD [0, 6, 9, 10] [1, 2, 3, 4, 5, 7, 8, 11, 12, 13] [1, 2, 3, 4, 5, 7, 8, 11, 12, 13] [0, 6, 9, 10] [10, 0, 1, 2, 3, 4, 11, 5, 6, 12, 13, 7, 8, 9] 14 rfl rfl rfl rfl rfl rfl rfl rfl rfl hk1 hFc hP1 hD1
                    clear hk1 hPc hDc hFc hP1 hD1 ht
                    refine zz_i (v := pI ((fun k => swB on ox oy b (cF40 cx g k).toInt (cF40 cy g k).toInt) k)) (rfl) ?_
                    refine lv_if_eq (tgt := 185) hx hb dX11_isLawfulTo_165 rfl (fun c_20 => ?_) (fun c_20 => ?_)
                    · have c_20 : ¬ ((fun k => swB on ox oy b (cF40 cx g k).toInt (cF40 cy g k).toInt) k) := zp_0 c_20
                      refine lv_iinc (v := nI (k + 1)) (lv' := [(5, .int (nI (k + 1))), (7, .int (cy (40 * g + k))), (6, .int (cx (40 * g + k))), (0, .ref k0), (1, .int (nI f)), (2, .int (nI g)), (3, .int 1), (4, .int (nI b))]) hx hb dX11_isLawfulTo_185 hl (k := 2) rfl (nI_add k 1) (Nat.le_of_ble_eq_true rfl) rfl (fun ls hl => ?_)
                      refine lv_goto (tgt := 62) hx hb dX11_isLawfulTo_188 rfl ?_
                      exact ih_62 (k + 1) z9 S1 q_19 P1 Q1 H locs ls (by first | with_reducible assumption | omega) (by first | with_reducible assumption | omega) (by intro j hj; rcases Nat.lt_or_ge j k with h | h; exact hall j h; obtain rfl : j = k := (by first | with_reducible assumption | omega); exact ⟨fun h5 => (by first | (exfalso; omega) | exact zp_ieq.mp (by first | with_reducible assumption | assumption)), fun h0 => (by first | (exfalso; omega) | exact id | assumption)⟩) hP hD hS (lv_sub hl [0, 3, 4, 5, 6, 7] rfl)
                    · have c_20 : (fun k => swB on ox oy b (cF40 cx g k).toInt (cF40 cy g k).toInt) k := zp_1 c_20
                      refine lv_goto (tgt := 183) hx hb dX11_isLawfulTo_168 rfl ?_
                      refine lv_iconst (v := 0) hx hb dX11_isLawfulTo_183 rfl ?_
                      obtain ⟨hP9, hD9⟩ := zq_sub (wc := [(om k0 a (upd I0 31 z9) J0), (oa (a 1) cI 201 kd), (oa (a 11) cI 201 mn), (oa (a 12) cI 8040 cx), (oa (a 13) cI 8040 cy), (oa (a 32) cI 8 S1), (oa (a 40) cI 6 q_19), (oa (a 29) cI 42 P1), (oa (a 30) cI 42 Q1), (oa (a 33) cI 42 ox), (oa (a 34) cI 42 oy), (oa (a 37) cZ 201 mt), (oa (a 38) cZ 201 wi), (oa (a 39) cZ 8040 ins)]) hP hD [0, 1, 2, 3, 4, 5, 6, 7, 8, 9, 10, 11, 12, 13] rfl rfl
                      rw [hQ9]
                      exact W.zret (ty := .boolean) (v := 0) hx hb hr (rfl) (fun t ht hW => ⟨⟨congrArg (fun z => Outcome.returned (some (Value.int z))) (show (0 : Int32) = pI (lawTo (ox 0) (oy 0) (kd f).toInt n (cF40 cx f) (cF40 cy f) (kd g).toInt m2 (cF40 cx g) (cF40 cy g) MT WI IN (fun k => swB on ox oy b (cF40 cx g k).toInt (cF40 cy g k).toInt)) from (zp_f (fun h => (h.2.2.1 k (by omega)).2 (by omega) (by first | with_reducible assumption | assumption))).symm), z9, S1, q_19, P1, Q1, by rw [ht]; exact hP9, hD9⟩, hS.F ht⟩) hS.2.2 dX11_isLawfulTo_184
            · have c_13 : 5 ≤ (kd f).toInt := zp_1 c_13
              refine lv_aload_n hx hb dX11_isLawfulTo_109 rfl (lv_at hl 3 rfl) ?_
              refine lv_iload_n hx hb dX11_isLawfulTo_110 rfl (lv_at hl 4 rfl) ?_
              refine lv_iload hx hb dX11_isLawfulTo_111 (lv_at hl 1 rfl) ?_
              refine lv_iload hx hb dX11_isLawfulTo_113 (lv_at hl 0 rfl) ?_
              obtain ⟨hPc, hDc, hFc⟩ := zc_sub (wc := [(om k0 a (upd I0 31 z9) J0), (oa (a 1) cI 201 kd), (oa (a 11) cI 201 mn), (oa (a 12) cI 8040 cx), (oa (a 13) cI 8040 cy), (oa (a 32) cI 8 S1)]) hP hD hS hA [0, 1, 2, 3, 4, 5] rfl rfl
              refine zcall (st1 := [.int (pI (¬ (∃ i, i < eO (kd f).toInt n ∧ eOn n (cF40 cx f) (cF40 cy f) i (cx (40 * g + k)).toInt (cy (40 * g + k)).toInt) ∧ par2 (eTg n (cF40 cx f) (cF40 cy f) (cx (40 * g + k)).toInt (cy (40 * g + k)).toInt) (eO (kd f).toInt n)))]) (va_runV (As := [.int (nI f), .int (cx (40 * g + k)), .int (cy (40 * g + k))]) (rest := []) ⟨hx, hb, hml, hown, hts⟩ (k_M_isInside l dC dI cI cZ cF H.size k0 a (upd I0 31 z9) J0 f n kd mn cx cy S1 (cx (40 * g + k)) (cy (40 * g + k)) (by first | with_reducible assumption | omega) (by first | with_reducible assumption | assumption) (by first | with_reducible assumption | omega) (by first | with_reducible assumption | assumption) ((hp_g k hk9).1) ((hp_g k hk9).2)) (csV_183 hts rfl rfl ⟨Nat.le_of_ble_eq_true rfl, Nat.le_of_ble_eq_true rfl⟩) (zPV2 (q0 := 0) (ci := 9) hPc hDc hK hXN rfl rfl) rfl rfl hl.1 rfl (lv_room (Nat.le_of_ble_eq_true rfl)) dX11_isLawfulTo_115 ⟨Nat.le_of_ble_eq_true rfl, Nat.le_of_ble_eq_true rfl⟩) hS hFc hFc rfl (fun t H locs ht hB hk1 hS => ?_)
              obtain ⟨q_21, hP1, hD1⟩ := hB
              rw [ht] at hP1
              obtain ⟨hP, hD⟩ := zk (W2 := [(om k0 a (upd I0 31 z9) J0), (oa (a 1) cI 201 kd), (oa (a 11) cI 201 mn), (oa (a 12) cI 8040 cx), (oa (a 13) cI 8040 cy), (oa (a 32) cI 8 q_21), (oa (a 40) cI 6 T1), (oa (a 29) cI 42 P1), (oa (a 30) cI 42 Q1), (oa (a 33) cI 42 ox), (oa (a 34) cI 42 oy), (oa (a 37) cZ 201 mt), (oa (a 38) cZ 201 wi), (oa (a 39) cZ 8040 ins)]) hP hD [0, 1, 2, 3, 4, 5] [6, 7, 8, 9, 10, 11, 12, 13] [6, 7, 8, 9, 10, 11, 12, 13] [0, 1, 2, 3, 4, 5] [8, 9, 10, 11, 12, 13, 0, 1, 2, 3, 4, 5, 6, 7] 14 rfl rfl rfl rfl rfl rfl rfl rfl rfl hk1 hFc hP1 hD1
              clear hk1 hPc hDc hFc hP1 hD1 ht
              refine zz_i (v := pI (inF (kd f).toInt n (cF40 cx f) (cF40 cy f) (cF40 cx g k).toInt (cF40 cy g k).toInt)) (rfl) ?_
              refine lv_aload_n hx hb dX11_isLawfulTo_118 rfl (lv_at hl 3 rfl) ?_
              refine va_get (D := (dC, dI)) (ci := 9) (v := .ref (a 39)) (C := RX11) (T := TX11) (N := 55) hx hb hts inX11 hown hK hP 0 rfl rfl 39 (Nat.le_of_ble_eq_true rfl) (hts _ mw_1198) (fun _ h9 => h9) rfl dX11_isLawfulTo_119 ?_
              refine lv_bipush (v := 40) hx hb dX11_isLawfulTo_122 rfl ?_
              refine lv_iload_n hx hb dX11_isLawfulTo_124 rfl (lv_at hl 5 rfl) ?_
              refine lv_imul hx hb dX11_isLawfulTo_125 ?_
              refine zz_i (v := nI (40 * g)) (pk_mul 40 g) ?_
              refine lv_iload hx hb dX11_isLawfulTo_126 (lv_at hl 2 rfl) ?_
              refine lv_iadd hx hb dX11_isLawfulTo_128 ?_
              refine zz_i (v := nI (40 * g + k)) (nI_add (40 * g) k) ?_
              have b9_22 : 40 * g + k < 8040 := by omega
              refine z_zald hx hb hK hP 13 1 rfl rfl (e := 40 * g + k) rfl b9_22 (Nat.le_of_ble_eq_true rfl) dX11_isLawfulTo_129 ?_
              refine zz_i (v := pI (IN k)) (hin k (by omega) (by omega)) ?_
              refine lv_icmp_eq (tgt := 135) hx hb dX11_isLawfulTo_130 rfl (fun c_23 => ?_) (fun c_23 => ?_)
              · have c_23 : (pI (inF (kd f).toInt n (cF40 cx f) (cF40 cy f) (cF40 cx g k).toInt (cF40 cy g k).toInt)).toInt = (pI (IN k)).toInt := zc_eq rfl rfl c_23
                refine lv_aload_n hx hb dX11_isLawfulTo_135 rfl (lv_at hl 3 rfl) ?_
                refine va_get (D := (dC, dI)) (ci := 9) (v := .ref (a 1)) (C := RX11) (T := TX11) (N := 55) hx hb hts inX11 hown hK hP 0 rfl rfl 1 (Nat.le_of_ble_eq_true rfl) (hts _ mw_1160) (fun _ h9 => h9) rfl dX11_isLawfulTo_136 ?_
                refine lv_iload_n hx hb dX11_isLawfulTo_139 rfl (lv_at hl 4 rfl) ?_
                have b9_24 : f < 201 := by omega
                refine z_iald hx hb hK hP 1 0 rfl rfl (e := f) rfl b9_24 (Nat.le_of_ble_eq_true rfl) dX11_isLawfulTo_140 ?_
                refine lv_if_eq (tgt := 185) hx hb dX11_isLawfulTo_141 rfl (fun c_25 => ?_) (fun c_25 => ?_)
                · have c_25 : (kd f).toInt = 0 := zc_eq rfl rfl c_25
                  refine lv_iinc (v := nI (k + 1)) (lv' := [(5, .int (nI (k + 1))), (7, .int (cy (40 * g + k))), (6, .int (cx (40 * g + k))), (0, .ref k0), (1, .int (nI f)), (2, .int (nI g)), (3, .int 1), (4, .int (nI b))]) hx hb dX11_isLawfulTo_185 hl (k := 2) rfl (nI_add k 1) (Nat.le_of_ble_eq_true rfl) rfl (fun ls hl => ?_)
                  refine lv_goto (tgt := 62) hx hb dX11_isLawfulTo_188 rfl ?_
                  exact ih_62 (k + 1) z9 q_21 T1 P1 Q1 H locs ls (by first | with_reducible assumption | omega) (by first | with_reducible assumption | omega) (by intro j hj; rcases Nat.lt_or_ge j k with h | h; exact hall j h; obtain rfl : j = k := (by first | with_reducible assumption | omega); exact ⟨fun h5 => (by first | (exfalso; omega) | exact zp_ieq.mp (by first | with_reducible assumption | assumption)), fun h0 => (by first | (exfalso; omega) | exact id | assumption)⟩) hP hD hS (lv_sub hl [0, 3, 4, 5, 6, 7] rfl)
                · have c_25 : ¬ (kd f).toInt = 0 := zc_ne rfl rfl c_25
                  refine lv_iload_n hx hb dX11_isLawfulTo_144 rfl (lv_at hl 6 rfl) ?_
                  refine lv_iconst (v := 5) hx hb dX11_isLawfulTo_145 rfl ?_
                  refine lv_icmp_eq (tgt := 185) hx hb dX11_isLawfulTo_146 rfl (fun c_26 => ?_) (fun c_26 => ?_)
                  · exact absurd c_26 (by decide)
                  · refine lv_iload hx hb dX11_isLawfulTo_149 (lv_at hl 7 rfl) ?_
                    refine lv_iconst (v := (-1)) hx hb dX11_isLawfulTo_151 rfl ?_
                    have b9_28 : b < 2147483648 := by omega
                    refine lv_icmp_eq (tgt := 171) hx hb dX11_isLawfulTo_152 rfl (fun c_27 => ?_) (fun c_27 => ?_)
                    · have c_27 : ((b : Nat) : Int) = (-1) := zc_eq (nI_toInt b9_28) rfl c_27
                      exfalso; omega
                    · have c_27 : ¬ ((b : Nat) : Int) = (-1) := zc_ne (nI_toInt b9_28) rfl c_27
                      refine lv_aload_n hx hb dX11_isLawfulTo_155 rfl (lv_at hl 3 rfl) ?_
                      refine lv_iload hx hb dX11_isLawfulTo_156 (lv_at hl 7 rfl) ?_
                      refine lv_iload hx hb dX11_isLawfulTo_158 (lv_at hl 1 rfl) ?_
                      refine lv_iload hx hb dX11_isLawfulTo_160 (lv_at hl 0 rfl) ?_
                      obtain ⟨hPc, hDc, hFc⟩ := zc_sub (wc := [(om k0 a (upd I0 31 z9) J0), (oa (a 40) cI 6 T1), (oa (a 33) cI 42 ox), (oa (a 34) cI 42 oy)]) hP hD hS hA [0, 6, 9, 10] rfl rfl
                      refine zcall (st1 := [.int (pI (swB on ox oy b (cx (40 * g + k)).toInt (cy (40 * g + k)).toInt))]) (va_runV (As := [.int (nI b), .int (cx (40 * g + k)), .int (cy (40 * g + k))]) (rest := []) ⟨hx, hb, hml, hown, hts⟩ (k_M_isSweptBy l dC dI cI cZ cF H.size k0 a (upd I0 31 z9) J0 b on (cx (40 * g + k)) (cy (40 * g + k)) T1 ox oy (hon) (by first | with_reducible assumption | omega) (by first | with_reducible assumption | omega) (by first | with_reducible assumption | assumption) ((hp_g k hk9).1) ((hp_g k hk9).2)) (csV_182 hts rfl rfl ⟨Nat.le_of_ble_eq_true rfl, Nat.le_of_ble_eq_true rfl⟩) (zPV2 (q0 := 0) (ci := 9) hPc hDc hK hXN rfl rfl) rfl rfl hl.1 rfl (lv_room (Nat.le_of_ble_eq_true rfl)) dX11_isLawfulTo_162 ⟨Nat.le_of_ble_eq_true rfl, Nat.le_of_ble_eq_true rfl⟩) hS hFc hFc rfl (fun t H locs ht hB hk1 hS => ?_)
                      obtain ⟨q_29, hP1, hD1⟩ := hB
                      rw [ht] at hP1
                      obtain ⟨hP, hD⟩ := zk (W2 := [(om k0 a (upd I0 31 z9) J0), (oa (a 1) cI 201 kd), (oa (a 11) cI 201 mn), (oa (a 12) cI 8040 cx), (oa (a 13) cI 8040 cy), (oa (a 32) cI 8 q_21), (oa (a 40) cI 6 q_29), (oa (a 29) cI 42 P1), (oa (a 30) cI 42 Q1), (oa (a 33) cI 42 ox), (oa (a 34) cI 42 oy), (oa (a 37) cZ 201 mt), (oa (a 38) cZ 201 wi), (oa (a 39) cZ 8040 ins)]) hP hD [0, 6, 9, 10] [1, 2, 3, 4, 5, 7, 8, 11, 12, 13] [1, 2, 3, 4, 5, 7, 8, 11, 12, 13] [0, 6, 9, 10] [10, 0, 1, 2, 3, 4, 11, 5, 6, 12, 13, 7, 8, 9] 14 rfl rfl rfl rfl rfl rfl rfl rfl rfl hk1 hFc hP1 hD1
                      clear hk1 hPc hDc hFc hP1 hD1 ht
                      refine zz_i (v := pI ((fun k => swB on ox oy b (cF40 cx g k).toInt (cF40 cy g k).toInt) k)) (rfl) ?_
                      refine lv_if_eq (tgt := 185) hx hb dX11_isLawfulTo_165 rfl (fun c_30 => ?_) (fun c_30 => ?_)
                      · have c_30 : ¬ ((fun k => swB on ox oy b (cF40 cx g k).toInt (cF40 cy g k).toInt) k) := zp_0 c_30
                        refine lv_iinc (v := nI (k + 1)) (lv' := [(5, .int (nI (k + 1))), (7, .int (cy (40 * g + k))), (6, .int (cx (40 * g + k))), (0, .ref k0), (1, .int (nI f)), (2, .int (nI g)), (3, .int 1), (4, .int (nI b))]) hx hb dX11_isLawfulTo_185 hl (k := 2) rfl (nI_add k 1) (Nat.le_of_ble_eq_true rfl) rfl (fun ls hl => ?_)
                        refine lv_goto (tgt := 62) hx hb dX11_isLawfulTo_188 rfl ?_
                        exact ih_62 (k + 1) z9 q_21 q_29 P1 Q1 H locs ls (by first | with_reducible assumption | omega) (by first | with_reducible assumption | omega) (by intro j hj; rcases Nat.lt_or_ge j k with h | h; exact hall j h; obtain rfl : j = k := (by first | with_reducible assumption | omega); exact ⟨fun h5 => (by first | (exfalso; omega) | exact zp_ieq.mp (by first | with_reducible assumption | assumption)), fun h0 => (by first | (exfalso; omega) | exact id | assumption)⟩) hP hD hS (lv_sub hl [0, 3, 4, 5, 6, 7] rfl)
                      · have c_30 : (fun k => swB on ox oy b (cF40 cx g k).toInt (cF40 cy g k).toInt) k := zp_1 c_30
                        refine lv_goto (tgt := 183) hx hb dX11_isLawfulTo_168 rfl ?_
                        refine lv_iconst (v := 0) hx hb dX11_isLawfulTo_183 rfl ?_
                        obtain ⟨hP9, hD9⟩ := zq_sub (wc := [(om k0 a (upd I0 31 z9) J0), (oa (a 1) cI 201 kd), (oa (a 11) cI 201 mn), (oa (a 12) cI 8040 cx), (oa (a 13) cI 8040 cy), (oa (a 32) cI 8 q_21), (oa (a 40) cI 6 q_29), (oa (a 29) cI 42 P1), (oa (a 30) cI 42 Q1), (oa (a 33) cI 42 ox), (oa (a 34) cI 42 oy), (oa (a 37) cZ 201 mt), (oa (a 38) cZ 201 wi), (oa (a 39) cZ 8040 ins)]) hP hD [0, 1, 2, 3, 4, 5, 6, 7, 8, 9, 10, 11, 12, 13] rfl rfl
                        rw [hQ9]
                        exact W.zret (ty := .boolean) (v := 0) hx hb hr (rfl) (fun t ht hW => ⟨⟨congrArg (fun z => Outcome.returned (some (Value.int z))) (show (0 : Int32) = pI (lawTo (ox 0) (oy 0) (kd f).toInt n (cF40 cx f) (cF40 cy f) (kd g).toInt m2 (cF40 cx g) (cF40 cy g) MT WI IN (fun k => swB on ox oy b (cF40 cx g k).toInt (cF40 cy g k).toInt)) from (zp_f (fun h => (h.2.2.1 k (by omega)).2 (by omega) (by first | with_reducible assumption | assumption))).symm), z9, q_21, q_29, P1, Q1, by rw [ht]; exact hP9, hD9⟩, hS.F ht⟩) hS.2.2 dX11_isLawfulTo_184
              · have c_23 : ¬ (pI (inF (kd f).toInt n (cF40 cx f) (cF40 cy f) (cF40 cx g k).toInt (cF40 cy g k).toInt)).toInt = (pI (IN k)).toInt := zc_ne rfl rfl c_23
                refine lv_iconst (v := 0) hx hb dX11_isLawfulTo_133 rfl ?_
                obtain ⟨hP9, hD9⟩ := zq_sub (wc := [(om k0 a (upd I0 31 z9) J0), (oa (a 1) cI 201 kd), (oa (a 11) cI 201 mn), (oa (a 12) cI 8040 cx), (oa (a 13) cI 8040 cy), (oa (a 32) cI 8 q_21), (oa (a 40) cI 6 T1), (oa (a 29) cI 42 P1), (oa (a 30) cI 42 Q1), (oa (a 33) cI 42 ox), (oa (a 34) cI 42 oy), (oa (a 37) cZ 201 mt), (oa (a 38) cZ 201 wi), (oa (a 39) cZ 8040 ins)]) hP hD [0, 1, 2, 3, 4, 5, 6, 7, 8, 9, 10, 11, 12, 13] rfl rfl
                rw [hQ9]
                exact W.zret (ty := .boolean) (v := 0) hx hb hr (rfl) (fun t ht hW => ⟨⟨congrArg (fun z => Outcome.returned (some (Value.int z))) (show (0 : Int32) = pI (lawTo (ox 0) (oy 0) (kd f).toInt n (cF40 cx f) (cF40 cy f) (kd g).toInt m2 (cF40 cx g) (cF40 cy g) MT WI IN (fun k => swB on ox oy b (cF40 cx g k).toInt (cF40 cy g k).toInt)) from (zp_f (fun h => absurd (zp_ieq.mpr ((h.2.2.1 k (by omega)).1 (by omega))) (by first | with_reducible assumption | assumption))).symm), z9, q_21, T1, P1, Q1, by rw [ht]; exact hP9, hD9⟩, hS.F ht⟩) hS.2.2 dX11_isLawfulTo_134
      exact hl_62 _ 0 (I0 31) q_1 T0 P0 Q0 H locs ls (Nat.lt_succ_self _) (by first | with_reducible assumption | omega) (by intro j hj; omega) hP hD hS (lv_sub hl [0, 1, 2, 3, 4, 5] rfl)
    · have c_4 : 5 ≤ (kd g).toInt := zp_1 c_4
      refine lv_aload_n hx hb dX11_isLawfulTo_25 rfl (lv_at hl 0 rfl) ?_
      refine lv_iload_n hx hb dX11_isLawfulTo_26 rfl (lv_at hl 2 rfl) ?_
      refine lv_aload_n hx hb dX11_isLawfulTo_27 rfl (lv_at hl 0 rfl) ?_
      refine va_get (D := (dC, dI)) (ci := 9) (v := .ref (a 12)) (C := RX11) (T := TX11) (N := 55) hx hb hts inX11 hown hK hP 0 rfl rfl 12 (Nat.le_of_ble_eq_true rfl) (hts _ mw_1171) (fun _ h9 => h9) rfl dX11_isLawfulTo_28 ?_
      refine lv_bipush (v := 40) hx hb dX11_isLawfulTo_31 rfl ?_
      refine lv_iload_n hx hb dX11_isLawfulTo_33 rfl (lv_at hl 1 rfl) ?_
      refine lv_imul hx hb dX11_isLawfulTo_34 ?_
      refine zz_i (v := nI (40 * f)) (pk_mul 40 f) ?_
      have b9_31 : 40 * f < 8040 := by omega
      refine z_iald hx hb hK hP 3 0 rfl rfl (e := 40 * f) rfl b9_31 (Nat.le_of_ble_eq_true rfl) dX11_isLawfulTo_35 ?_
      refine lv_aload_n hx hb dX11_isLawfulTo_36 rfl (lv_at hl 0 rfl) ?_
      refine va_get (D := (dC, dI)) (ci := 9) (v := .ref (a 13)) (C := RX11) (T := TX11) (N := 55) hx hb hts inX11 hown hK hP 0 rfl rfl 13 (Nat.le_of_ble_eq_true rfl) (hts _ mw_1172) (fun _ h9 => h9) rfl dX11_isLawfulTo_37 ?_
      refine lv_bipush (v := 40) hx hb dX11_isLawfulTo_40 rfl ?_
      refine lv_iload_n hx hb dX11_isLawfulTo_42 rfl (lv_at hl 1 rfl) ?_
      refine lv_imul hx hb dX11_isLawfulTo_43 ?_
      refine zz_i (v := nI (40 * f)) (pk_mul 40 f) ?_
      refine z_iald hx hb hK hP 4 0 rfl rfl (e := 40 * f) rfl b9_31 (Nat.le_of_ble_eq_true rfl) dX11_isLawfulTo_44 ?_
      obtain ⟨hPc, hDc, hFc⟩ := zc_sub (wc := [(om k0 a I0 J0), (oa (a 1) cI 201 kd), (oa (a 11) cI 201 mn), (oa (a 12) cI 8040 cx), (oa (a 13) cI 8040 cy), (oa (a 32) cI 8 q_1)]) hP hD hS hA [0, 1, 2, 3, 4, 5] rfl rfl
      refine zcall (st1 := [.int (pI (¬ (∃ i, i < eO (kd g).toInt m2 ∧ eOn m2 (cF40 cx g) (cF40 cy g) i (cx (40 * f)).toInt (cy (40 * f)).toInt) ∧ par2 (eTg m2 (cF40 cx g) (cF40 cy g) (cx (40 * f)).toInt (cy (40 * f)).toInt) (eO (kd g).toInt m2)))]) (va_runV (As := [.int (nI g), .int (cx (40 * f)), .int (cy (40 * f))]) (rest := []) ⟨hx, hb, hml, hown, hts⟩ (k_M_isInside l dC dI cI cZ cF H.size k0 a I0 J0 g m2 kd mn cx cy q_1 (cx (40 * f)) (cy (40 * f)) (by first | with_reducible assumption | omega) (by first | with_reducible assumption | assumption) (by first | with_reducible assumption | omega) (by first | with_reducible assumption | assumption) ((hp_f 0 (by first | with_reducible assumption | omega)).1) ((hp_f 0 (by first | with_reducible assumption | omega)).2)) (csV_183 hts rfl rfl ⟨Nat.le_of_ble_eq_true rfl, Nat.le_of_ble_eq_true rfl⟩) (zPV2 (q0 := 0) (ci := 9) hPc hDc hK hXN rfl rfl) rfl rfl hl.1 rfl (lv_room (Nat.le_of_ble_eq_true rfl)) dX11_isLawfulTo_45 ⟨Nat.le_of_ble_eq_true rfl, Nat.le_of_ble_eq_true rfl⟩) hS hFc hFc rfl (fun t H locs ht hB hk1 hS => ?_)
      obtain ⟨q_32, hP1, hD1⟩ := hB
      rw [ht] at hP1
      obtain ⟨hP, hD⟩ := zk (W2 := [(om k0 a I0 J0), (oa (a 1) cI 201 kd), (oa (a 11) cI 201 mn), (oa (a 12) cI 8040 cx), (oa (a 13) cI 8040 cy), (oa (a 32) cI 8 q_32), (oa (a 40) cI 6 T0), (oa (a 29) cI 42 P0), (oa (a 30) cI 42 Q0), (oa (a 33) cI 42 ox), (oa (a 34) cI 42 oy), (oa (a 37) cZ 201 mt), (oa (a 38) cZ 201 wi), (oa (a 39) cZ 8040 ins)]) hP hD [0, 1, 2, 3, 4, 5] [6, 7, 8, 9, 10, 11, 12, 13] [6, 7, 8, 9, 10, 11, 12, 13] [0, 1, 2, 3, 4, 5] [8, 9, 10, 11, 12, 13, 0, 1, 2, 3, 4, 5, 6, 7] 14 rfl rfl rfl rfl rfl rfl rfl rfl rfl hk1 hFc hP1 hD1
      clear hk1 hPc hDc hFc hP1 hD1 ht
      refine zz_i (v := pI (inF (kd g).toInt m2 (cF40 cx g) (cF40 cy g) (cF40 cx f 0).toInt (cF40 cy f 0).toInt)) (rfl) ?_
      refine lv_aload_n hx hb dX11_isLawfulTo_48 rfl (lv_at hl 0 rfl) ?_
      refine va_get (D := (dC, dI)) (ci := 9) (v := .ref (a 38)) (C := RX11) (T := TX11) (N := 55) hx hb hts inX11 hown hK hP 0 rfl rfl 38 (Nat.le_of_ble_eq_true rfl) (hts _ mw_1197) (fun _ h9 => h9) rfl dX11_isLawfulTo_49 ?_
      refine lv_iload_n hx hb dX11_isLawfulTo_52 rfl (lv_at hl 2 rfl) ?_
      refine z_zald hx hb hK hP 12 1 rfl rfl (e := g) rfl b9_2 (Nat.le_of_ble_eq_true rfl) dX11_isLawfulTo_53 ?_
      refine zz_i (v := pI WI) (hwi (by omega)) ?_
      refine lv_icmp_eq (tgt := 59) hx hb dX11_isLawfulTo_54 rfl (fun c_33 => ?_) (fun c_33 => ?_)
      · have c_33 : (pI (inF (kd g).toInt m2 (cF40 cx g) (cF40 cy g) (cF40 cx f 0).toInt (cF40 cy f 0).toInt)).toInt = (pI WI).toInt := zc_eq rfl rfl c_33
        refine lv_iconst (v := 0) hx hb dX11_isLawfulTo_59 rfl ?_
        refine lv_istore (lv' := [(5, .int 0), (0, .ref k0), (1, .int (nI f)), (2, .int (nI g)), (3, .int 1), (4, .int (nI b))]) hx hb dX11_isLawfulTo_60 hl (Nat.le_of_ble_eq_true rfl) rfl (fun ls hl => ?_)
        have hl_62 : ∀ (n9 : Nat) (k : Nat) (z9 : Int32) (S1 : Nat → Int32) (T1 : Nat → Int32) (P1 : Nat → Int32) (Q1 : Nat → Int32) (H : Heap) (locs : List Loc) (ls : Array Slot), m2 - k < n9 → (k ≤ m2) → (∀ j, j < k → (5 ≤ (kd f).toInt → (inF (kd f).toInt n (cF40 cx f) (cF40 cy f) (cF40 cx g j).toInt (cF40 cy g j).toInt ↔ IN j)) ∧ (¬ (kd f).toInt = 0 → ¬ (fun k => swB on ox oy b (cF40 cx g k).toInt (cF40 cy g k).toInt) j)) → va_P (dC, dI) classes [(om k0 a (upd I0 31 z9) J0), (oa (a 1) cI 201 kd), (oa (a 11) cI 201 mn), (oa (a 12) cI 8040 cx), (oa (a 13) cI 8040 cy), (oa (a 32) cI 8 S1), (oa (a 40) cI 6 T1), (oa (a 29) cI 42 P1), (oa (a 30) cI 42 Q1), (oa (a 33) cI 42 ox), (oa (a 34) cI 42 oy), (oa (a 37) cZ 201 mt), (oa (a 38) cZ 201 wi), (oa (a 39) cZ 8040 ins)] H → va_D A [(om k0 a (upd I0 31 z9) J0), (oa (a 1) cI 201 kd), (oa (a 11) cI 201 mn), (oa (a 12) cI 8040 cx), (oa (a 13) cI 8040 cy), (oa (a 32) cI 8 S1), (oa (a 40) cI 6 T1), (oa (a 29) cI 42 P1), (oa (a 30) cI 42 Q1), (oa (a 33) cI 42 ox), (oa (a 34) cI 42 oy), (oa (a 37) cZ 201 mt), (oa (a 38) cZ 201 wi), (oa (a 39) cZ 8040 ins)] → va_S A s.heap H locs → lv_has ls 8 [(5, .int (nI k)), (0, .ref k0), (1, .int (nI f)), (2, .int (nI g)), (3, .int 1), (4, .int (nI b))] → W p l e ((headSpec (.code yX11_isLawfulTo cX11_isLawfulTo 8 (some .boolean) :: ws0) ({ frames := 4, cells := 0, slots := 0, locals := 108 } : Room)).room) s m ([.ref k0, .int (nI f), .int (nI g), .int 1, .int (nI b)] : List Value).toArray below meth c H locs 0 0 Q9 (F0 m 62 ls []) := by
          intro n9
          induction n9 with
          | zero => intro k z9 S1 T1 P1 Q1 H locs ls hm; exact absurd hm (Nat.not_lt_zero _)
          | succ n9 ih_62 =>
            intro k z9 S1 T1 P1 Q1 H locs ls hm hk hall hP hD hS hl
            refine lv_iload hx hb dX11_isLawfulTo_62 (lv_at hl 0 rfl) ?_
            refine lv_aload_n hx hb dX11_isLawfulTo_64 rfl (lv_at hl 1 rfl) ?_
            refine va_get (D := (dC, dI)) (ci := 9) (v := .ref (a 11)) (C := RX11) (T := TX11) (N := 55) hx hb hts inX11 hown hK hP 0 rfl rfl 11 (Nat.le_of_ble_eq_true rfl) (hts _ mw_1170) (fun _ h9 => h9) rfl dX11_isLawfulTo_65 ?_
            refine lv_iload_n hx hb dX11_isLawfulTo_68 rfl (lv_at hl 3 rfl) ?_
            refine z_iald hx hb hK hP 2 0 rfl rfl (e := g) rfl b9_2 (Nat.le_of_ble_eq_true rfl) dX11_isLawfulTo_69 ?_
            refine zz_i (v := nI m2) (hm_g) ?_
            have b9_35 : k < 2147483648 := by omega
            have b9_36 : m2 < 2147483648 := by omega
            refine lv_icmp_ge (tgt := 191) hx hb dX11_isLawfulTo_70 rfl (fun c_34 => ?_) (fun c_34 => ?_)
            · have c_34 : ((m2 : Nat) : Int) ≤ ((k : Nat) : Int) := zc_le (nI_toInt b9_36) (nI_toInt b9_35) c_34
              refine lv_aload_n hx hb dX11_isLawfulTo_191 rfl (lv_at hl 1 rfl) ?_
              refine va_get (D := (dC, dI)) (ci := 9) (v := .ref (a 1)) (C := RX11) (T := TX11) (N := 55) hx hb hts inX11 hown hK hP 0 rfl rfl 1 (Nat.le_of_ble_eq_true rfl) (hts _ mw_1160) (fun _ h9 => h9) rfl dX11_isLawfulTo_192 ?_
              refine lv_iload_n hx hb dX11_isLawfulTo_195 rfl (lv_at hl 2 rfl) ?_
              have b9_37 : f < 201 := by omega
              refine z_iald hx hb hK hP 1 0 rfl rfl (e := f) rfl b9_37 (Nat.le_of_ble_eq_true rfl) dX11_isLawfulTo_196 ?_
              refine lv_if_ne (tgt := 209) hx hb dX11_isLawfulTo_197 rfl (fun c_38 => ?_) (fun c_38 => ?_)
              · have c_38 : ¬ (kd f).toInt = 0 := zc_ne rfl rfl c_38
                refine lv_iconst (v := 1) hx hb dX11_isLawfulTo_209 rfl ?_
                refine lv_goto (tgt := 214) hx hb dX11_isLawfulTo_210 rfl ?_
                obtain ⟨hP9, hD9⟩ := zq_sub (wc := [(om k0 a (upd I0 31 z9) J0), (oa (a 1) cI 201 kd), (oa (a 11) cI 201 mn), (oa (a 12) cI 8040 cx), (oa (a 13) cI 8040 cy), (oa (a 32) cI 8 S1), (oa (a 40) cI 6 T1), (oa (a 29) cI 42 P1), (oa (a 30) cI 42 Q1), (oa (a 33) cI 42 ox), (oa (a 34) cI 42 oy), (oa (a 37) cZ 201 mt), (oa (a 38) cZ 201 wi), (oa (a 39) cZ 8040 ins)]) hP hD [0, 1, 2, 3, 4, 5, 6, 7, 8, 9, 10, 11, 12, 13] rfl rfl
                rw [hQ9]
                exact W.zret (ty := .boolean) (v := 1) hx hb hr (rfl) (fun t ht hW => ⟨⟨congrArg (fun z => Outcome.returned (some (Value.int z))) (show (1 : Int32) = pI (lawTo (ox 0) (oy 0) (kd f).toInt n (cF40 cx f) (cF40 cy f) (kd g).toInt m2 (cF40 cx g) (cF40 cy g) MT WI IN (fun k => swB on ox oy b (cF40 cx g k).toInt (cF40 cy g k).toInt)) from (zp_t (by first | exact ⟨zp_ieq.mp (by first | with_reducible assumption | assumption), fun h => (by first | (exfalso; omega) | exact zp_ieq.mp (by first | with_reducible assumption | assumption)), fun j hj => hall j (by omega), fun h => (by first | (exfalso; omega) | assumption)⟩ | exact fun h => absurd (h.2.2.2 (by omega)) (by first | with_reducible assumption | assumption))).symm), z9, S1, T1, P1, Q1, by rw [ht]; exact hP9, hD9⟩, hS.F ht⟩) hS.2.2 dX11_isLawfulTo_214
              · have c_38 : (kd f).toInt = 0 := zc_eq rfl rfl c_38
                refine lv_aload_n hx hb dX11_isLawfulTo_200 rfl (lv_at hl 1 rfl) ?_
                refine lv_iload_n hx hb dX11_isLawfulTo_201 rfl (lv_at hl 2 rfl) ?_
                refine lv_iload_n hx hb dX11_isLawfulTo_202 rfl (lv_at hl 3 rfl) ?_
                obtain ⟨hPc, hDc, hFc⟩ := zc_sub (wc := [(om k0 a (upd I0 31 z9) J0), (oa (a 1) cI 201 kd), (oa (a 11) cI 201 mn), (oa (a 12) cI 8040 cx), (oa (a 13) cI 8040 cy), (oa (a 32) cI 8 S1), (oa (a 33) cI 42 ox), (oa (a 34) cI 42 oy)]) hP hD hS hA [0, 1, 2, 3, 4, 5, 9, 10] rfl rfl
                refine zcall (st1 := [.int (pI (∀ k, k < eO (kd g).toInt m2 → fWy (ox 0).toInt (oy 0).toInt (cx (40 * f)).toInt (cy (40 * f)).toInt m2 (cF40 cx g) (cF40 cy g) k))]) (va_runV (As := [.int (nI f), .int (nI g)]) (rest := []) ⟨hx, hb, hml, hown, hts⟩ (k_M_isFreeWay l dC dI cI cZ cF H.size k0 a (upd I0 31 z9) J0 f g m2 kd mn cx cy S1 ox oy (by first | with_reducible assumption | omega) ((hpo 0 (by first | with_reducible assumption | omega)).1) ((hpo 0 (by first | with_reducible assumption | omega)).2) ((hp_f 0 (by first | with_reducible assumption | omega)).1) ((hp_f 0 (by first | with_reducible assumption | omega)).2) (by first | with_reducible assumption | omega) (by first | with_reducible assumption | assumption) (by first | with_reducible assumption | omega) (by first | with_reducible assumption | assumption)) (csV_181 hts rfl rfl ⟨Nat.le_of_ble_eq_true rfl, Nat.le_of_ble_eq_true rfl⟩) (zPV2 (q0 := 0) (ci := 9) hPc hDc hK hXN rfl rfl) rfl rfl hl.1 rfl (lv_room (Nat.le_of_ble_eq_true rfl)) dX11_isLawfulTo_203 ⟨Nat.le_of_ble_eq_true rfl, Nat.le_of_ble_eq_true rfl⟩) hS hFc hFc rfl (fun t H locs ht hB hk1 hS => ?_)
                obtain ⟨q_39, hP1, hD1⟩ := hB
                rw [ht] at hP1
                obtain ⟨hP, hD⟩ := zk (W2 := [(om k0 a (upd I0 31 z9) J0), (oa (a 1) cI 201 kd), (oa (a 11) cI 201 mn), (oa (a 12) cI 8040 cx), (oa (a 13) cI 8040 cy), (oa (a 32) cI 8 q_39), (oa (a 40) cI 6 T1), (oa (a 29) cI 42 P1), (oa (a 30) cI 42 Q1), (oa (a 33) cI 42 ox), (oa (a 34) cI 42 oy), (oa (a 37) cZ 201 mt), (oa (a 38) cZ 201 wi), (oa (a 39) cZ 8040 ins)]) hP hD [0, 1, 2, 3, 4, 5, 9, 10] [6, 7, 8, 11, 12, 13] [6, 7, 8, 11, 12, 13] [0, 1, 2, 3, 4, 5, 9, 10] [6, 7, 8, 9, 10, 11, 0, 1, 2, 12, 13, 3, 4, 5] 14 rfl rfl rfl rfl rfl rfl rfl rfl rfl hk1 hFc hP1 hD1
                clear hk1 hPc hDc hFc hP1 hD1 ht
                refine zz_i (v := pI (∀ k, k < eO (kd g).toInt m2 → fWy (ox 0).toInt (oy 0).toInt (cF40 cx f 0).toInt (cF40 cy f 0).toInt m2 (cF40 cx g) (cF40 cy g) k)) (rfl) ?_
                refine lv_if_eq (tgt := 213) hx hb dX11_isLawfulTo_206 rfl (fun c_40 => ?_) (fun c_40 => ?_)
                · have c_40 : ¬ (∀ k, k < eO (kd g).toInt m2 → fWy (ox 0).toInt (oy 0).toInt (cF40 cx f 0).toInt (cF40 cy f 0).toInt m2 (cF40 cx g) (cF40 cy g) k) := zp_0 c_40
                  refine lv_iconst (v := 0) hx hb dX11_isLawfulTo_213 rfl ?_
                  obtain ⟨hP9, hD9⟩ := zq_sub (wc := [(om k0 a (upd I0 31 z9) J0), (oa (a 1) cI 201 kd), (oa (a 11) cI 201 mn), (oa (a 12) cI 8040 cx), (oa (a 13) cI 8040 cy), (oa (a 32) cI 8 q_39), (oa (a 40) cI 6 T1), (oa (a 29) cI 42 P1), (oa (a 30) cI 42 Q1), (oa (a 33) cI 42 ox), (oa (a 34) cI 42 oy), (oa (a 37) cZ 201 mt), (oa (a 38) cZ 201 wi), (oa (a 39) cZ 8040 ins)]) hP hD [0, 1, 2, 3, 4, 5, 6, 7, 8, 9, 10, 11, 12, 13] rfl rfl
                  rw [hQ9]
                  exact W.zret (ty := .boolean) (v := 0) hx hb hr (rfl) (fun t ht hW => ⟨⟨congrArg (fun z => Outcome.returned (some (Value.int z))) (show (0 : Int32) = pI (lawTo (ox 0) (oy 0) (kd f).toInt n (cF40 cx f) (cF40 cy f) (kd g).toInt m2 (cF40 cx g) (cF40 cy g) MT WI IN (fun k => swB on ox oy b (cF40 cx g k).toInt (cF40 cy g k).toInt)) from (zp_f (by first | exact ⟨zp_ieq.mp (by first | with_reducible assumption | assumption), fun h => (by first | (exfalso; omega) | exact zp_ieq.mp (by first | with_reducible assumption | assumption)), fun j hj => hall j (by omega), fun h => (by first | (exfalso; omega) | assumption)⟩ | exact fun h => absurd (h.2.2.2 (by omega)) (by first | with_reducible assumption | assumption))).symm), z9, q_39, T1, P1, Q1, by rw [ht]; exact hP9, hD9⟩, hS.F ht⟩) hS.2.2 dX11_isLawfulTo_214
                · have c_40 : ∀ k, k < eO (kd g).toInt m2 → fWy (ox 0).toInt (oy 0).toInt (cF40 cx f 0).toInt (cF40 cy f 0).toInt m2 (cF40 cx g) (cF40 cy g) k := zp_1 c_40
                  refine lv_iconst (v := 1) hx hb dX11_isLawfulTo_209 rfl ?_
                  refine lv_goto (tgt := 214) hx hb dX11_isLawfulTo_210 rfl ?_
                  obtain ⟨hP9, hD9⟩ := zq_sub (wc := [(om k0 a (upd I0 31 z9) J0), (oa (a 1) cI 201 kd), (oa (a 11) cI 201 mn), (oa (a 12) cI 8040 cx), (oa (a 13) cI 8040 cy), (oa (a 32) cI 8 q_39), (oa (a 40) cI 6 T1), (oa (a 29) cI 42 P1), (oa (a 30) cI 42 Q1), (oa (a 33) cI 42 ox), (oa (a 34) cI 42 oy), (oa (a 37) cZ 201 mt), (oa (a 38) cZ 201 wi), (oa (a 39) cZ 8040 ins)]) hP hD [0, 1, 2, 3, 4, 5, 6, 7, 8, 9, 10, 11, 12, 13] rfl rfl
                  rw [hQ9]
                  exact W.zret (ty := .boolean) (v := 1) hx hb hr (rfl) (fun t ht hW => ⟨⟨congrArg (fun z => Outcome.returned (some (Value.int z))) (show (1 : Int32) = pI (lawTo (ox 0) (oy 0) (kd f).toInt n (cF40 cx f) (cF40 cy f) (kd g).toInt m2 (cF40 cx g) (cF40 cy g) MT WI IN (fun k => swB on ox oy b (cF40 cx g k).toInt (cF40 cy g k).toInt)) from (zp_t (by first | exact ⟨zp_ieq.mp (by first | with_reducible assumption | assumption), fun h => (by first | (exfalso; omega) | exact zp_ieq.mp (by first | with_reducible assumption | assumption)), fun j hj => hall j (by omega), fun h => (by first | (exfalso; omega) | assumption)⟩ | exact fun h => absurd (h.2.2.2 (by omega)) (by first | with_reducible assumption | assumption))).symm), z9, q_39, T1, P1, Q1, by rw [ht]; exact hP9, hD9⟩, hS.F ht⟩) hS.2.2 dX11_isLawfulTo_214
            · have c_34 : ((k : Nat) : Int) < ((m2 : Nat) : Int) := zc_nle (nI_toInt b9_36) (nI_toInt b9_35) c_34
              have hk9 : k < m2 := (by omega)
              refine lv_aload_n hx hb dX11_isLawfulTo_73 rfl (lv_at hl 1 rfl) ?_
              refine va_get (D := (dC, dI)) (ci := 9) (v := .ref (a 12)) (C := RX11) (T := TX11) (N := 55) hx hb hts inX11 hown hK hP 0 rfl rfl 12 (Nat.le_of_ble_eq_true rfl) (hts _ mw_1171) (fun _ h9 => h9) rfl dX11_isLawfulTo_74 ?_
              refine lv_bipush (v := 40) hx hb dX11_isLawfulTo_77 rfl ?_
              refine lv_iload_n hx hb dX11_isLawfulTo_79 rfl (lv_at hl 3 rfl) ?_
              refine lv_imul hx hb dX11_isLawfulTo_80 ?_
              refine zz_i (v := nI (40 * g)) (pk_mul 40 g) ?_
              refine lv_iload hx hb dX11_isLawfulTo_81 (lv_at hl 0 rfl) ?_
              refine lv_iadd hx hb dX11_isLawfulTo_83 ?_
              refine zz_i (v := nI (40 * g + k)) (nI_add (40 * g) k) ?_
              have b9_41 : 40 * g + k < 8040 := by omega
              refine z_iald hx hb hK hP 3 0 rfl rfl (e := 40 * g + k) rfl b9_41 (Nat.le_of_ble_eq_true rfl) dX11_isLawfulTo_84 ?_
              refine lv_istore (lv' := [(6, .int (cx (40 * g + k))), (5, .int (nI k)), (0, .ref k0), (1, .int (nI f)), (2, .int (nI g)), (3, .int 1), (4, .int (nI b))]) hx hb dX11_isLawfulTo_85 hl (Nat.le_of_ble_eq_true rfl) rfl (fun ls hl => ?_)
              refine lv_aload_n hx hb dX11_isLawfulTo_87 rfl (lv_at hl 2 rfl) ?_
              refine va_get (D := (dC, dI)) (ci := 9) (v := .ref (a 13)) (C := RX11) (T := TX11) (N := 55) hx hb hts inX11 hown hK hP 0 rfl rfl 13 (Nat.le_of_ble_eq_true rfl) (hts _ mw_1172) (fun _ h9 => h9) rfl dX11_isLawfulTo_88 ?_
              refine lv_bipush (v := 40) hx hb dX11_isLawfulTo_91 rfl ?_
              refine lv_iload_n hx hb dX11_isLawfulTo_93 rfl (lv_at hl 4 rfl) ?_
              refine lv_imul hx hb dX11_isLawfulTo_94 ?_
              refine zz_i (v := nI (40 * g)) (pk_mul 40 g) ?_
              refine lv_iload hx hb dX11_isLawfulTo_95 (lv_at hl 1 rfl) ?_
              refine lv_iadd hx hb dX11_isLawfulTo_97 ?_
              refine zz_i (v := nI (40 * g + k)) (nI_add (40 * g) k) ?_
              refine z_iald hx hb hK hP 4 0 rfl rfl (e := 40 * g + k) rfl b9_41 (Nat.le_of_ble_eq_true rfl) dX11_isLawfulTo_98 ?_
              refine lv_istore (lv' := [(7, .int (cy (40 * g + k))), (6, .int (cx (40 * g + k))), (5, .int (nI k)), (0, .ref k0), (1, .int (nI f)), (2, .int (nI g)), (3, .int 1), (4, .int (nI b))]) hx hb dX11_isLawfulTo_99 hl (Nat.le_of_ble_eq_true rfl) rfl (fun ls hl => ?_)
              refine lv_aload_n hx hb dX11_isLawfulTo_101 rfl (lv_at hl 3 rfl) ?_
              refine lv_iload_n hx hb dX11_isLawfulTo_102 rfl (lv_at hl 4 rfl) ?_
              obtain ⟨hPc, hDc, hFc⟩ := zc_sub (wc := [(om k0 a (upd I0 31 z9) J0), (oa (a 1) cI 201 kd)]) hP hD hS hA [0, 1] rfl rfl
              refine zcall (st1 := [.int (pI (5 ≤ (kd f).toInt))]) (va_runV (As := [.int (nI f)]) (rest := []) ⟨hx, hb, hml, hown, hts⟩ (k_M_isRing l dC dI cI cZ cF H.size k0 a (upd I0 31 z9) J0 f kd (by first | with_reducible assumption | omega)) (csV_165 hts rfl rfl ⟨Nat.le_of_ble_eq_true rfl, Nat.le_of_ble_eq_true rfl⟩) (zPV2 (q0 := 0) (ci := 9) hPc hDc hK hXN rfl rfl) rfl rfl hl.1 rfl (lv_room (Nat.le_of_ble_eq_true rfl)) dX11_isLawfulTo_103 ⟨Nat.le_of_ble_eq_true rfl, Nat.le_of_ble_eq_true rfl⟩) hS hFc hFc rfl (fun t H locs ht hB hk1 hS => ?_)
              obtain ⟨hP1, hD1⟩ := hB
              rw [ht] at hP1
              obtain ⟨hP, hD⟩ := zk (W2 := [(om k0 a (upd I0 31 z9) J0), (oa (a 1) cI 201 kd), (oa (a 11) cI 201 mn), (oa (a 12) cI 8040 cx), (oa (a 13) cI 8040 cy), (oa (a 32) cI 8 S1), (oa (a 40) cI 6 T1), (oa (a 29) cI 42 P1), (oa (a 30) cI 42 Q1), (oa (a 33) cI 42 ox), (oa (a 34) cI 42 oy), (oa (a 37) cZ 201 mt), (oa (a 38) cZ 201 wi), (oa (a 39) cZ 8040 ins)]) hP hD [0, 1] [2, 3, 4, 5, 6, 7, 8, 9, 10, 11, 12, 13] [2, 3, 4, 5, 6, 7, 8, 9, 10, 11, 12, 13] [0, 1] [12, 13, 0, 1, 2, 3, 4, 5, 6, 7, 8, 9, 10, 11] 14 rfl rfl rfl rfl rfl rfl rfl rfl rfl hk1 hFc hP1 hD1
              clear hk1 hPc hDc hFc hP1 hD1 ht
              refine lv_if_eq (tgt := 135) hx hb dX11_isLawfulTo_106 rfl (fun c_42 => ?_) (fun c_42 => ?_)
              · have c_42 : ¬ (5 ≤ (kd f).toInt) := zp_0 c_42
                refine lv_aload_n hx hb dX11_isLawfulTo_135 rfl (lv_at hl 3 rfl) ?_
                refine va_get (D := (dC, dI)) (ci := 9) (v := .ref (a 1)) (C := RX11) (T := TX11) (N := 55) hx hb hts inX11 hown hK hP 0 rfl rfl 1 (Nat.le_of_ble_eq_true rfl) (hts _ mw_1160) (fun _ h9 => h9) rfl dX11_isLawfulTo_136 ?_
                refine lv_iload_n hx hb dX11_isLawfulTo_139 rfl (lv_at hl 4 rfl) ?_
                have b9_43 : f < 201 := by omega
                refine z_iald hx hb hK hP 1 0 rfl rfl (e := f) rfl b9_43 (Nat.le_of_ble_eq_true rfl) dX11_isLawfulTo_140 ?_
                refine lv_if_eq (tgt := 185) hx hb dX11_isLawfulTo_141 rfl (fun c_44 => ?_) (fun c_44 => ?_)
                · have c_44 : (kd f).toInt = 0 := zc_eq rfl rfl c_44
                  refine lv_iinc (v := nI (k + 1)) (lv' := [(5, .int (nI (k + 1))), (7, .int (cy (40 * g + k))), (6, .int (cx (40 * g + k))), (0, .ref k0), (1, .int (nI f)), (2, .int (nI g)), (3, .int 1), (4, .int (nI b))]) hx hb dX11_isLawfulTo_185 hl (k := 2) rfl (nI_add k 1) (Nat.le_of_ble_eq_true rfl) rfl (fun ls hl => ?_)
                  refine lv_goto (tgt := 62) hx hb dX11_isLawfulTo_188 rfl ?_
                  exact ih_62 (k + 1) z9 S1 T1 P1 Q1 H locs ls (by first | with_reducible assumption | omega) (by first | with_reducible assumption | omega) (by intro j hj; rcases Nat.lt_or_ge j k with h | h; exact hall j h; obtain rfl : j = k := (by first | with_reducible assumption | omega); exact ⟨fun h5 => (by first | (exfalso; omega) | exact zp_ieq.mp (by first | with_reducible assumption | assumption)), fun h0 => (by first | (exfalso; omega) | exact id | assumption)⟩) hP hD hS (lv_sub hl [0, 3, 4, 5, 6, 7] rfl)
                · have c_44 : ¬ (kd f).toInt = 0 := zc_ne rfl rfl c_44
                  refine lv_iload_n hx hb dX11_isLawfulTo_144 rfl (lv_at hl 6 rfl) ?_
                  refine lv_iconst (v := 5) hx hb dX11_isLawfulTo_145 rfl ?_
                  refine lv_icmp_eq (tgt := 185) hx hb dX11_isLawfulTo_146 rfl (fun c_45 => ?_) (fun c_45 => ?_)
                  · exact absurd c_45 (by decide)
                  · refine lv_iload hx hb dX11_isLawfulTo_149 (lv_at hl 7 rfl) ?_
                    refine lv_iconst (v := (-1)) hx hb dX11_isLawfulTo_151 rfl ?_
                    have b9_47 : b < 2147483648 := by omega
                    refine lv_icmp_eq (tgt := 171) hx hb dX11_isLawfulTo_152 rfl (fun c_46 => ?_) (fun c_46 => ?_)
                    · have c_46 : ((b : Nat) : Int) = (-1) := zc_eq (nI_toInt b9_47) rfl c_46
                      exfalso; omega
                    · have c_46 : ¬ ((b : Nat) : Int) = (-1) := zc_ne (nI_toInt b9_47) rfl c_46
                      refine lv_aload_n hx hb dX11_isLawfulTo_155 rfl (lv_at hl 3 rfl) ?_
                      refine lv_iload hx hb dX11_isLawfulTo_156 (lv_at hl 7 rfl) ?_
                      refine lv_iload hx hb dX11_isLawfulTo_158 (lv_at hl 1 rfl) ?_
                      refine lv_iload hx hb dX11_isLawfulTo_160 (lv_at hl 0 rfl) ?_
                      obtain ⟨hPc, hDc, hFc⟩ := zc_sub (wc := [(om k0 a (upd I0 31 z9) J0), (oa (a 40) cI 6 T1), (oa (a 33) cI 42 ox), (oa (a 34) cI 42 oy)]) hP hD hS hA [0, 6, 9, 10] rfl rfl
                      refine zcall (st1 := [.int (pI (swB on ox oy b (cx (40 * g + k)).toInt (cy (40 * g + k)).toInt))]) (va_runV (As := [.int (nI b), .int (cx (40 * g + k)), .int (cy (40 * g + k))]) (rest := []) ⟨hx, hb, hml, hown, hts⟩ (k_M_isSweptBy l dC dI cI cZ cF H.size k0 a (upd I0 31 z9) J0 b on (cx (40 * g + k)) (cy (40 * g + k)) T1 ox oy (hon) (by first | with_reducible assumption | omega) (by first | with_reducible assumption | omega) (by first | with_reducible assumption | assumption) ((hp_g k hk9).1) ((hp_g k hk9).2)) (csV_182 hts rfl rfl ⟨Nat.le_of_ble_eq_true rfl, Nat.le_of_ble_eq_true rfl⟩) (zPV2 (q0 := 0) (ci := 9) hPc hDc hK hXN rfl rfl) rfl rfl hl.1 rfl (lv_room (Nat.le_of_ble_eq_true rfl)) dX11_isLawfulTo_162 ⟨Nat.le_of_ble_eq_true rfl, Nat.le_of_ble_eq_true rfl⟩) hS hFc hFc rfl (fun t H locs ht hB hk1 hS => ?_)
                      obtain ⟨q_48, hP1, hD1⟩ := hB
                      rw [ht] at hP1
                      obtain ⟨hP, hD⟩ := zk (W2 := [(om k0 a (upd I0 31 z9) J0), (oa (a 1) cI 201 kd), (oa (a 11) cI 201 mn), (oa (a 12) cI 8040 cx), (oa (a 13) cI 8040 cy), (oa (a 32) cI 8 S1), (oa (a 40) cI 6 q_48), (oa (a 29) cI 42 P1), (oa (a 30) cI 42 Q1), (oa (a 33) cI 42 ox), (oa (a 34) cI 42 oy), (oa (a 37) cZ 201 mt), (oa (a 38) cZ 201 wi), (oa (a 39) cZ 8040 ins)]) hP hD [0, 6, 9, 10] [1, 2, 3, 4, 5, 7, 8, 11, 12, 13] [1, 2, 3, 4, 5, 7, 8, 11, 12, 13] [0, 6, 9, 10] [10, 0, 1, 2, 3, 4, 11, 5, 6, 12, 13, 7, 8, 9] 14 rfl rfl rfl rfl rfl rfl rfl rfl rfl hk1 hFc hP1 hD1
                      clear hk1 hPc hDc hFc hP1 hD1 ht
                      refine zz_i (v := pI ((fun k => swB on ox oy b (cF40 cx g k).toInt (cF40 cy g k).toInt) k)) (rfl) ?_
                      refine lv_if_eq (tgt := 185) hx hb dX11_isLawfulTo_165 rfl (fun c_49 => ?_) (fun c_49 => ?_)
                      · have c_49 : ¬ ((fun k => swB on ox oy b (cF40 cx g k).toInt (cF40 cy g k).toInt) k) := zp_0 c_49
                        refine lv_iinc (v := nI (k + 1)) (lv' := [(5, .int (nI (k + 1))), (7, .int (cy (40 * g + k))), (6, .int (cx (40 * g + k))), (0, .ref k0), (1, .int (nI f)), (2, .int (nI g)), (3, .int 1), (4, .int (nI b))]) hx hb dX11_isLawfulTo_185 hl (k := 2) rfl (nI_add k 1) (Nat.le_of_ble_eq_true rfl) rfl (fun ls hl => ?_)
                        refine lv_goto (tgt := 62) hx hb dX11_isLawfulTo_188 rfl ?_
                        exact ih_62 (k + 1) z9 S1 q_48 P1 Q1 H locs ls (by first | with_reducible assumption | omega) (by first | with_reducible assumption | omega) (by intro j hj; rcases Nat.lt_or_ge j k with h | h; exact hall j h; obtain rfl : j = k := (by first | with_reducible assumption | omega); exact ⟨fun h5 => (by first | (exfalso; omega) | exact zp_ieq.mp (by first | with_reducible assumption | assumption)), fun h0 => (by first | (exfalso; omega) | exact id | assumption)⟩) hP hD hS (lv_sub hl [0, 3, 4, 5, 6, 7] rfl)
                      · have c_49 : (fun k => swB on ox oy b (cF40 cx g k).toInt (cF40 cy g k).toInt) k := zp_1 c_49
                        refine lv_goto (tgt := 183) hx hb dX11_isLawfulTo_168 rfl ?_
                        refine lv_iconst (v := 0) hx hb dX11_isLawfulTo_183 rfl ?_
                        obtain ⟨hP9, hD9⟩ := zq_sub (wc := [(om k0 a (upd I0 31 z9) J0), (oa (a 1) cI 201 kd), (oa (a 11) cI 201 mn), (oa (a 12) cI 8040 cx), (oa (a 13) cI 8040 cy), (oa (a 32) cI 8 S1), (oa (a 40) cI 6 q_48), (oa (a 29) cI 42 P1), (oa (a 30) cI 42 Q1), (oa (a 33) cI 42 ox), (oa (a 34) cI 42 oy), (oa (a 37) cZ 201 mt), (oa (a 38) cZ 201 wi), (oa (a 39) cZ 8040 ins)]) hP hD [0, 1, 2, 3, 4, 5, 6, 7, 8, 9, 10, 11, 12, 13] rfl rfl
                        rw [hQ9]
                        exact W.zret (ty := .boolean) (v := 0) hx hb hr (rfl) (fun t ht hW => ⟨⟨congrArg (fun z => Outcome.returned (some (Value.int z))) (show (0 : Int32) = pI (lawTo (ox 0) (oy 0) (kd f).toInt n (cF40 cx f) (cF40 cy f) (kd g).toInt m2 (cF40 cx g) (cF40 cy g) MT WI IN (fun k => swB on ox oy b (cF40 cx g k).toInt (cF40 cy g k).toInt)) from (zp_f (fun h => (h.2.2.1 k (by omega)).2 (by omega) (by first | with_reducible assumption | assumption))).symm), z9, S1, q_48, P1, Q1, by rw [ht]; exact hP9, hD9⟩, hS.F ht⟩) hS.2.2 dX11_isLawfulTo_184
              · have c_42 : 5 ≤ (kd f).toInt := zp_1 c_42
                refine lv_aload_n hx hb dX11_isLawfulTo_109 rfl (lv_at hl 3 rfl) ?_
                refine lv_iload_n hx hb dX11_isLawfulTo_110 rfl (lv_at hl 4 rfl) ?_
                refine lv_iload hx hb dX11_isLawfulTo_111 (lv_at hl 1 rfl) ?_
                refine lv_iload hx hb dX11_isLawfulTo_113 (lv_at hl 0 rfl) ?_
                obtain ⟨hPc, hDc, hFc⟩ := zc_sub (wc := [(om k0 a (upd I0 31 z9) J0), (oa (a 1) cI 201 kd), (oa (a 11) cI 201 mn), (oa (a 12) cI 8040 cx), (oa (a 13) cI 8040 cy), (oa (a 32) cI 8 S1)]) hP hD hS hA [0, 1, 2, 3, 4, 5] rfl rfl
                refine zcall (st1 := [.int (pI (¬ (∃ i, i < eO (kd f).toInt n ∧ eOn n (cF40 cx f) (cF40 cy f) i (cx (40 * g + k)).toInt (cy (40 * g + k)).toInt) ∧ par2 (eTg n (cF40 cx f) (cF40 cy f) (cx (40 * g + k)).toInt (cy (40 * g + k)).toInt) (eO (kd f).toInt n)))]) (va_runV (As := [.int (nI f), .int (cx (40 * g + k)), .int (cy (40 * g + k))]) (rest := []) ⟨hx, hb, hml, hown, hts⟩ (k_M_isInside l dC dI cI cZ cF H.size k0 a (upd I0 31 z9) J0 f n kd mn cx cy S1 (cx (40 * g + k)) (cy (40 * g + k)) (by first | with_reducible assumption | omega) (by first | with_reducible assumption | assumption) (by first | with_reducible assumption | omega) (by first | with_reducible assumption | assumption) ((hp_g k hk9).1) ((hp_g k hk9).2)) (csV_183 hts rfl rfl ⟨Nat.le_of_ble_eq_true rfl, Nat.le_of_ble_eq_true rfl⟩) (zPV2 (q0 := 0) (ci := 9) hPc hDc hK hXN rfl rfl) rfl rfl hl.1 rfl (lv_room (Nat.le_of_ble_eq_true rfl)) dX11_isLawfulTo_115 ⟨Nat.le_of_ble_eq_true rfl, Nat.le_of_ble_eq_true rfl⟩) hS hFc hFc rfl (fun t H locs ht hB hk1 hS => ?_)
                obtain ⟨q_50, hP1, hD1⟩ := hB
                rw [ht] at hP1
                obtain ⟨hP, hD⟩ := zk (W2 := [(om k0 a (upd I0 31 z9) J0), (oa (a 1) cI 201 kd), (oa (a 11) cI 201 mn), (oa (a 12) cI 8040 cx), (oa (a 13) cI 8040 cy), (oa (a 32) cI 8 q_50), (oa (a 40) cI 6 T1), (oa (a 29) cI 42 P1), (oa (a 30) cI 42 Q1), (oa (a 33) cI 42 ox), (oa (a 34) cI 42 oy), (oa (a 37) cZ 201 mt), (oa (a 38) cZ 201 wi), (oa (a 39) cZ 8040 ins)]) hP hD [0, 1, 2, 3, 4, 5] [6, 7, 8, 9, 10, 11, 12, 13] [6, 7, 8, 9, 10, 11, 12, 13] [0, 1, 2, 3, 4, 5] [8, 9, 10, 11, 12, 13, 0, 1, 2, 3, 4, 5, 6, 7] 14 rfl rfl rfl rfl rfl rfl rfl rfl rfl hk1 hFc hP1 hD1
                clear hk1 hPc hDc hFc hP1 hD1 ht
                refine zz_i (v := pI (inF (kd f).toInt n (cF40 cx f) (cF40 cy f) (cF40 cx g k).toInt (cF40 cy g k).toInt)) (rfl) ?_
                refine lv_aload_n hx hb dX11_isLawfulTo_118 rfl (lv_at hl 3 rfl) ?_
                refine va_get (D := (dC, dI)) (ci := 9) (v := .ref (a 39)) (C := RX11) (T := TX11) (N := 55) hx hb hts inX11 hown hK hP 0 rfl rfl 39 (Nat.le_of_ble_eq_true rfl) (hts _ mw_1198) (fun _ h9 => h9) rfl dX11_isLawfulTo_119 ?_
                refine lv_bipush (v := 40) hx hb dX11_isLawfulTo_122 rfl ?_
                refine lv_iload_n hx hb dX11_isLawfulTo_124 rfl (lv_at hl 5 rfl) ?_
                refine lv_imul hx hb dX11_isLawfulTo_125 ?_
                refine zz_i (v := nI (40 * g)) (pk_mul 40 g) ?_
                refine lv_iload hx hb dX11_isLawfulTo_126 (lv_at hl 2 rfl) ?_
                refine lv_iadd hx hb dX11_isLawfulTo_128 ?_
                refine zz_i (v := nI (40 * g + k)) (nI_add (40 * g) k) ?_
                have b9_51 : 40 * g + k < 8040 := by omega
                refine z_zald hx hb hK hP 13 1 rfl rfl (e := 40 * g + k) rfl b9_51 (Nat.le_of_ble_eq_true rfl) dX11_isLawfulTo_129 ?_
                refine zz_i (v := pI (IN k)) (hin k (by omega) (by omega)) ?_
                refine lv_icmp_eq (tgt := 135) hx hb dX11_isLawfulTo_130 rfl (fun c_52 => ?_) (fun c_52 => ?_)
                · have c_52 : (pI (inF (kd f).toInt n (cF40 cx f) (cF40 cy f) (cF40 cx g k).toInt (cF40 cy g k).toInt)).toInt = (pI (IN k)).toInt := zc_eq rfl rfl c_52
                  refine lv_aload_n hx hb dX11_isLawfulTo_135 rfl (lv_at hl 3 rfl) ?_
                  refine va_get (D := (dC, dI)) (ci := 9) (v := .ref (a 1)) (C := RX11) (T := TX11) (N := 55) hx hb hts inX11 hown hK hP 0 rfl rfl 1 (Nat.le_of_ble_eq_true rfl) (hts _ mw_1160) (fun _ h9 => h9) rfl dX11_isLawfulTo_136 ?_
                  refine lv_iload_n hx hb dX11_isLawfulTo_139 rfl (lv_at hl 4 rfl) ?_
                  have b9_53 : f < 201 := by omega
                  refine z_iald hx hb hK hP 1 0 rfl rfl (e := f) rfl b9_53 (Nat.le_of_ble_eq_true rfl) dX11_isLawfulTo_140 ?_
                  refine lv_if_eq (tgt := 185) hx hb dX11_isLawfulTo_141 rfl (fun c_54 => ?_) (fun c_54 => ?_)
                  · have c_54 : (kd f).toInt = 0 := zc_eq rfl rfl c_54
                    refine lv_iinc (v := nI (k + 1)) (lv' := [(5, .int (nI (k + 1))), (7, .int (cy (40 * g + k))), (6, .int (cx (40 * g + k))), (0, .ref k0), (1, .int (nI f)), (2, .int (nI g)), (3, .int 1), (4, .int (nI b))]) hx hb dX11_isLawfulTo_185 hl (k := 2) rfl (nI_add k 1) (Nat.le_of_ble_eq_true rfl) rfl (fun ls hl => ?_)
                    refine lv_goto (tgt := 62) hx hb dX11_isLawfulTo_188 rfl ?_
                    exact ih_62 (k + 1) z9 q_50 T1 P1 Q1 H locs ls (by first | with_reducible assumption | omega) (by first | with_reducible assumption | omega) (by intro j hj; rcases Nat.lt_or_ge j k with h | h; exact hall j h; obtain rfl : j = k := (by first | with_reducible assumption | omega); exact ⟨fun h5 => (by first | (exfalso; omega) | exact zp_ieq.mp (by first | with_reducible assumption | assumption)), fun h0 => (by first | (exfalso; omega) | exact id | assumption)⟩) hP hD hS (lv_sub hl [0, 3, 4, 5, 6, 7] rfl)
                  · have c_54 : ¬ (kd f).toInt = 0 := zc_ne rfl rfl c_54
                    refine lv_iload_n hx hb dX11_isLawfulTo_144 rfl (lv_at hl 6 rfl) ?_
                    refine lv_iconst (v := 5) hx hb dX11_isLawfulTo_145 rfl ?_
                    refine lv_icmp_eq (tgt := 185) hx hb dX11_isLawfulTo_146 rfl (fun c_55 => ?_) (fun c_55 => ?_)
                    · exact absurd c_55 (by decide)
                    · refine lv_iload hx hb dX11_isLawfulTo_149 (lv_at hl 7 rfl) ?_
                      refine lv_iconst (v := (-1)) hx hb dX11_isLawfulTo_151 rfl ?_
                      have b9_57 : b < 2147483648 := by omega
                      refine lv_icmp_eq (tgt := 171) hx hb dX11_isLawfulTo_152 rfl (fun c_56 => ?_) (fun c_56 => ?_)
                      · have c_56 : ((b : Nat) : Int) = (-1) := zc_eq (nI_toInt b9_57) rfl c_56
                        exfalso; omega
                      · have c_56 : ¬ ((b : Nat) : Int) = (-1) := zc_ne (nI_toInt b9_57) rfl c_56
                        refine lv_aload_n hx hb dX11_isLawfulTo_155 rfl (lv_at hl 3 rfl) ?_
                        refine lv_iload hx hb dX11_isLawfulTo_156 (lv_at hl 7 rfl) ?_
                        refine lv_iload hx hb dX11_isLawfulTo_158 (lv_at hl 1 rfl) ?_
                        refine lv_iload hx hb dX11_isLawfulTo_160 (lv_at hl 0 rfl) ?_
                        obtain ⟨hPc, hDc, hFc⟩ := zc_sub (wc := [(om k0 a (upd I0 31 z9) J0), (oa (a 40) cI 6 T1), (oa (a 33) cI 42 ox), (oa (a 34) cI 42 oy)]) hP hD hS hA [0, 6, 9, 10] rfl rfl
                        refine zcall (st1 := [.int (pI (swB on ox oy b (cx (40 * g + k)).toInt (cy (40 * g + k)).toInt))]) (va_runV (As := [.int (nI b), .int (cx (40 * g + k)), .int (cy (40 * g + k))]) (rest := []) ⟨hx, hb, hml, hown, hts⟩ (k_M_isSweptBy l dC dI cI cZ cF H.size k0 a (upd I0 31 z9) J0 b on (cx (40 * g + k)) (cy (40 * g + k)) T1 ox oy (hon) (by first | with_reducible assumption | omega) (by first | with_reducible assumption | omega) (by first | with_reducible assumption | assumption) ((hp_g k hk9).1) ((hp_g k hk9).2)) (csV_182 hts rfl rfl ⟨Nat.le_of_ble_eq_true rfl, Nat.le_of_ble_eq_true rfl⟩) (zPV2 (q0 := 0) (ci := 9) hPc hDc hK hXN rfl rfl) rfl rfl hl.1 rfl (lv_room (Nat.le_of_ble_eq_true rfl)) dX11_isLawfulTo_162 ⟨Nat.le_of_ble_eq_true rfl, Nat.le_of_ble_eq_true rfl⟩) hS hFc hFc rfl (fun t H locs ht hB hk1 hS => ?_)
                        obtain ⟨q_58, hP1, hD1⟩ := hB
                        rw [ht] at hP1
                        obtain ⟨hP, hD⟩ := zk (W2 := [(om k0 a (upd I0 31 z9) J0), (oa (a 1) cI 201 kd), (oa (a 11) cI 201 mn), (oa (a 12) cI 8040 cx), (oa (a 13) cI 8040 cy), (oa (a 32) cI 8 q_50), (oa (a 40) cI 6 q_58), (oa (a 29) cI 42 P1), (oa (a 30) cI 42 Q1), (oa (a 33) cI 42 ox), (oa (a 34) cI 42 oy), (oa (a 37) cZ 201 mt), (oa (a 38) cZ 201 wi), (oa (a 39) cZ 8040 ins)]) hP hD [0, 6, 9, 10] [1, 2, 3, 4, 5, 7, 8, 11, 12, 13] [1, 2, 3, 4, 5, 7, 8, 11, 12, 13] [0, 6, 9, 10] [10, 0, 1, 2, 3, 4, 11, 5, 6, 12, 13, 7, 8, 9] 14 rfl rfl rfl rfl rfl rfl rfl rfl rfl hk1 hFc hP1 hD1
                        clear hk1 hPc hDc hFc hP1 hD1 ht
                        refine zz_i (v := pI ((fun k => swB on ox oy b (cF40 cx g k).toInt (cF40 cy g k).toInt) k)) (rfl) ?_
                        refine lv_if_eq (tgt := 185) hx hb dX11_isLawfulTo_165 rfl (fun c_59 => ?_) (fun c_59 => ?_)
                        · have c_59 : ¬ ((fun k => swB on ox oy b (cF40 cx g k).toInt (cF40 cy g k).toInt) k) := zp_0 c_59
                          refine lv_iinc (v := nI (k + 1)) (lv' := [(5, .int (nI (k + 1))), (7, .int (cy (40 * g + k))), (6, .int (cx (40 * g + k))), (0, .ref k0), (1, .int (nI f)), (2, .int (nI g)), (3, .int 1), (4, .int (nI b))]) hx hb dX11_isLawfulTo_185 hl (k := 2) rfl (nI_add k 1) (Nat.le_of_ble_eq_true rfl) rfl (fun ls hl => ?_)
                          refine lv_goto (tgt := 62) hx hb dX11_isLawfulTo_188 rfl ?_
                          exact ih_62 (k + 1) z9 q_50 q_58 P1 Q1 H locs ls (by first | with_reducible assumption | omega) (by first | with_reducible assumption | omega) (by intro j hj; rcases Nat.lt_or_ge j k with h | h; exact hall j h; obtain rfl : j = k := (by first | with_reducible assumption | omega); exact ⟨fun h5 => (by first | (exfalso; omega) | exact zp_ieq.mp (by first | with_reducible assumption | assumption)), fun h0 => (by first | (exfalso; omega) | exact id | assumption)⟩) hP hD hS (lv_sub hl [0, 3, 4, 5, 6, 7] rfl)
                        · have c_59 : (fun k => swB on ox oy b (cF40 cx g k).toInt (cF40 cy g k).toInt) k := zp_1 c_59
                          refine lv_goto (tgt := 183) hx hb dX11_isLawfulTo_168 rfl ?_
                          refine lv_iconst (v := 0) hx hb dX11_isLawfulTo_183 rfl ?_
                          obtain ⟨hP9, hD9⟩ := zq_sub (wc := [(om k0 a (upd I0 31 z9) J0), (oa (a 1) cI 201 kd), (oa (a 11) cI 201 mn), (oa (a 12) cI 8040 cx), (oa (a 13) cI 8040 cy), (oa (a 32) cI 8 q_50), (oa (a 40) cI 6 q_58), (oa (a 29) cI 42 P1), (oa (a 30) cI 42 Q1), (oa (a 33) cI 42 ox), (oa (a 34) cI 42 oy), (oa (a 37) cZ 201 mt), (oa (a 38) cZ 201 wi), (oa (a 39) cZ 8040 ins)]) hP hD [0, 1, 2, 3, 4, 5, 6, 7, 8, 9, 10, 11, 12, 13] rfl rfl
                          rw [hQ9]
                          exact W.zret (ty := .boolean) (v := 0) hx hb hr (rfl) (fun t ht hW => ⟨⟨congrArg (fun z => Outcome.returned (some (Value.int z))) (show (0 : Int32) = pI (lawTo (ox 0) (oy 0) (kd f).toInt n (cF40 cx f) (cF40 cy f) (kd g).toInt m2 (cF40 cx g) (cF40 cy g) MT WI IN (fun k => swB on ox oy b (cF40 cx g k).toInt (cF40 cy g k).toInt)) from (zp_f (fun h => (h.2.2.1 k (by omega)).2 (by omega) (by first | with_reducible assumption | assumption))).symm), z9, q_50, q_58, P1, Q1, by rw [ht]; exact hP9, hD9⟩, hS.F ht⟩) hS.2.2 dX11_isLawfulTo_184
                · have c_52 : ¬ (pI (inF (kd f).toInt n (cF40 cx f) (cF40 cy f) (cF40 cx g k).toInt (cF40 cy g k).toInt)).toInt = (pI (IN k)).toInt := zc_ne rfl rfl c_52
                  refine lv_iconst (v := 0) hx hb dX11_isLawfulTo_133 rfl ?_
                  obtain ⟨hP9, hD9⟩ := zq_sub (wc := [(om k0 a (upd I0 31 z9) J0), (oa (a 1) cI 201 kd), (oa (a 11) cI 201 mn), (oa (a 12) cI 8040 cx), (oa (a 13) cI 8040 cy), (oa (a 32) cI 8 q_50), (oa (a 40) cI 6 T1), (oa (a 29) cI 42 P1), (oa (a 30) cI 42 Q1), (oa (a 33) cI 42 ox), (oa (a 34) cI 42 oy), (oa (a 37) cZ 201 mt), (oa (a 38) cZ 201 wi), (oa (a 39) cZ 8040 ins)]) hP hD [0, 1, 2, 3, 4, 5, 6, 7, 8, 9, 10, 11, 12, 13] rfl rfl
                  rw [hQ9]
                  exact W.zret (ty := .boolean) (v := 0) hx hb hr (rfl) (fun t ht hW => ⟨⟨congrArg (fun z => Outcome.returned (some (Value.int z))) (show (0 : Int32) = pI (lawTo (ox 0) (oy 0) (kd f).toInt n (cF40 cx f) (cF40 cy f) (kd g).toInt m2 (cF40 cx g) (cF40 cy g) MT WI IN (fun k => swB on ox oy b (cF40 cx g k).toInt (cF40 cy g k).toInt)) from (zp_f (fun h => absurd (zp_ieq.mpr ((h.2.2.1 k (by omega)).1 (by omega))) (by first | with_reducible assumption | assumption))).symm), z9, q_50, T1, P1, Q1, by rw [ht]; exact hP9, hD9⟩, hS.F ht⟩) hS.2.2 dX11_isLawfulTo_134
        exact hl_62 _ 0 (I0 31) q_32 T0 P0 Q0 H locs ls (Nat.lt_succ_self _) (by first | with_reducible assumption | omega) (by intro j hj; omega) hP hD hS (lv_sub hl [0, 1, 2, 3, 4, 5] rfl)
      · have c_33 : ¬ (pI (inF (kd g).toInt m2 (cF40 cx g) (cF40 cy g) (cF40 cx f 0).toInt (cF40 cy f 0).toInt)).toInt = (pI WI).toInt := zc_ne rfl rfl c_33
        refine lv_iconst (v := 0) hx hb dX11_isLawfulTo_57 rfl ?_
        obtain ⟨hP9, hD9⟩ := zq_sub (wc := [(om k0 a I0 J0), (oa (a 1) cI 201 kd), (oa (a 11) cI 201 mn), (oa (a 12) cI 8040 cx), (oa (a 13) cI 8040 cy), (oa (a 32) cI 8 q_32), (oa (a 40) cI 6 T0), (oa (a 29) cI 42 P0), (oa (a 30) cI 42 Q0), (oa (a 33) cI 42 ox), (oa (a 34) cI 42 oy), (oa (a 37) cZ 201 mt), (oa (a 38) cZ 201 wi), (oa (a 39) cZ 8040 ins)]) hP hD [0, 1, 2, 3, 4, 5, 6, 7, 8, 9, 10, 11, 12, 13] rfl rfl
        rw [hQ9]
        exact W.zret (ty := .boolean) (v := 0) hx hb hr (rfl) (fun t ht hW => ⟨⟨congrArg (fun z => Outcome.returned (some (Value.int z))) (show (0 : Int32) = pI (lawTo (ox 0) (oy 0) (kd f).toInt n (cF40 cx f) (cF40 cy f) (kd g).toInt m2 (cF40 cx g) (cF40 cy g) MT WI IN (fun k => swB on ox oy b (cF40 cx g k).toInt (cF40 cy g k).toInt)) from (zp_f (fun h => absurd (zp_ieq.mpr (h.2.1 (by omega))) (by first | with_reducible assumption | assumption))).symm), (I0 31), q_32, T0, P0, Q0, by rw [ht]; exact hP9, hD9⟩, hS.F ht⟩) hS.2.2 dX11_isLawfulTo_58
  · have c_3 : ¬ (pI (mtF (kd f).toInt n (cF40 cx f) (cF40 cy f) (kd g).toInt m2 (cF40 cx g) (cF40 cy g))).toInt = (pI MT).toInt := zc_ne rfl rfl c_3
    refine lv_iconst (v := 0) hx hb dX11_isLawfulTo_15 rfl ?_
    obtain ⟨hP9, hD9⟩ := zq_sub (wc := [(om k0 a I0 J0), (oa (a 1) cI 201 kd), (oa (a 11) cI 201 mn), (oa (a 12) cI 8040 cx), (oa (a 13) cI 8040 cy), (oa (a 32) cI 8 q_1), (oa (a 40) cI 6 T0), (oa (a 29) cI 42 P0), (oa (a 30) cI 42 Q0), (oa (a 33) cI 42 ox), (oa (a 34) cI 42 oy), (oa (a 37) cZ 201 mt), (oa (a 38) cZ 201 wi), (oa (a 39) cZ 8040 ins)]) hP hD [0, 1, 2, 3, 4, 5, 6, 7, 8, 9, 10, 11, 12, 13] rfl rfl
    rw [hQ9]
    exact W.zret (ty := .boolean) (v := 0) hx hb hr (rfl) (fun t ht hW => ⟨⟨congrArg (fun z => Outcome.returned (some (Value.int z))) (show (0 : Int32) = pI (lawTo (ox 0) (oy 0) (kd f).toInt n (cF40 cx f) (cF40 cy f) (kd g).toInt m2 (cF40 cx g) (cF40 cy g) MT WI IN (fun k => swB on ox oy b (cF40 cx g k).toInt (cF40 cy g k).toInt)) from (zp_f (fun h => absurd (zp_ieq.mpr h.1) (by first | with_reducible assumption | assumption))).symm), (I0 31), q_1, T0, P0, Q0, by rw [ht]; exact hP9, hD9⟩, hS.F ht⟩) hS.2.2 dX11_isLawfulTo_16
set_option maxHeartbeats 4000000 in
set_option maxRecDepth 100000 in
theorem k_M_isLawfulTo_s (l : Launch) (dC : Nat → ClassId) (dI : Nat → Nat → Nat) (cI cZ cF : ClassId) (sz : Nat) (k0 : Nat) (a : Nat → Nat) (I0 : Nat → Int32) (J0 : Nat → Int64) (f : Nat) (n : Nat) (g : Nat) (m2 : Nat) (on : Nat) (kd : Nat → Int32) (mn : Nat → Int32) (cx : Nat → Int32) (cy : Nat → Int32) (S0 : Nat → Int32) (T0 : Nat → Int32) (P0 : Nat → Int32) (Q0 : Nat → Int32) (ox : Nat → Int32) (oy : Nat → Int32) (mt : Nat → Int32) (wi : Nat → Int32) (ins : Nat → Int32) (MT : Prop) (WI : Prop) (IN : Nat → Prop) (hf_f : f ≤ 200) (hm_f : mn f = nI n) (hn_f : 1 ≤ n ∧ n ≤ 40) (hp_f : pls n (cF40 cx f) (cF40 cy f)) (hf_g : g ≤ 200) (hm_g : mn g = nI m2) (hn_g : 1 ≤ m2 ∧ m2 ≤ 40) (hp_g : pls m2 (cF40 cx g) (cF40 cy g)) (hon : I0 35 = nI on) (ho40 : on ≤ 40) (ho1 : 1 ≤ on) (hpo : pls on ox oy) (hmt : mt g = pI MT) (hwi : 5 ≤ (kd g).toInt → wi g = pI WI) (hin : ∀ k, k < m2 → 5 ≤ (kd f).toInt → ins (40 * g + k) = pI (IN k)) : Met l yX11_isLawfulTo (.code yX11_isLawfulTo cX11_isLawfulTo 8 (some .boolean) :: ws0) ({ frames := 4, cells := 0, slots := 0, locals := 108 } : Room) (va_Pc [.ref k0, .int (nI f), .int (nI g), .int 5, .int (-1)] (zPre (dC, dI) classes (zTy cI cZ cF) [(om k0 a I0 J0), (oa (a 1) cI 201 kd), (oa (a 11) cI 201 mn), (oa (a 12) cI 8040 cx), (oa (a 13) cI 8040 cy), (oa (a 32) cI 8 S0), (oa (a 40) cI 6 T0), (oa (a 29) cI 42 P0), (oa (a 30) cI 42 Q0), (oa (a 33) cI 42 ox), (oa (a 34) cI 42 oy), (oa (a 37) cZ 201 mt), (oa (a 38) cZ 201 wi), (oa (a 39) cZ 8040 ins)] sz zXN)) (zQ (some (.int (pI (lawTo (ox 0) (oy 0) (kd f).toInt n (cF40 cx f) (cF40 cy f) (kd g).toInt m2 (cF40 cx g) (cF40 cy g) MT WI IN (fun _ => False))))) (fun t => ∃ (z9 : Int32), ∃ (S1 : Nat → Int32), ∃ (T1 : Nat → Int32), ∃ (P1 : Nat → Int32), ∃ (Q1 : Nat → Int32), va_P (dC, dI) classes [(om k0 a (upd I0 31 z9) J0), (oa (a 1) cI 201 kd), (oa (a 11) cI 201 mn), (oa (a 12) cI 8040 cx), (oa (a 13) cI 8040 cy), (oa (a 32) cI 8 S1), (oa (a 40) cI 6 T1), (oa (a 29) cI 42 P1), (oa (a 30) cI 42 Q1), (oa (a 33) cI 42 ox), (oa (a 34) cI 42 oy), (oa (a 37) cZ 201 mt), (oa (a 38) cZ 201 wi), (oa (a 39) cZ 8040 ins)] t.heap ∧ va_D (va_A [(om k0 a I0 J0), (oa (a 1) cI 201 kd), (oa (a 11) cI 201 mn), (oa (a 12) cI 8040 cx), (oa (a 13) cI 8040 cy), (oa (a 32) cI 8 S0), (oa (a 40) cI 6 T0), (oa (a 29) cI 42 P0), (oa (a 30) cI 42 Q0), (oa (a 33) cI 42 ox), (oa (a 34) cI 42 oy), (oa (a 37) cZ 201 mt), (oa (a 38) cZ 201 wi), (oa (a 39) cZ 8040 ins)] sz) [(om k0 a (upd I0 31 z9) J0), (oa (a 1) cI 201 kd), (oa (a 11) cI 201 mn), (oa (a 12) cI 8040 cx), (oa (a 13) cI 8040 cy), (oa (a 32) cI 8 S1), (oa (a 40) cI 6 T1), (oa (a 29) cI 42 P1), (oa (a 30) cI 42 Q1), (oa (a 33) cI 42 ox), (oa (a 34) cI 42 oy), (oa (a 37) cZ 201 mt), (oa (a 38) cZ 201 wi), (oa (a 39) cZ 8040 ins)]) (va_A [(om k0 a I0 J0), (oa (a 1) cI 201 kd), (oa (a 11) cI 201 mn), (oa (a 12) cI 8040 cx), (oa (a 13) cI 8040 cy), (oa (a 32) cI 8 S0), (oa (a 40) cI 6 T0), (oa (a 29) cI 42 P0), (oa (a 30) cI 42 Q0), (oa (a 33) cI 42 ox), (oa (a 34) cI 42 oy), (oa (a 37) cZ 201 mt), (oa (a 38) cZ 201 wi), (oa (a 39) cZ 8040 ins)] sz)) 0 0 (va_A [(om k0 a I0 J0), (oa (a 1) cI 201 kd), (oa (a 11) cI 201 mn), (oa (a 12) cI 8040 cx), (oa (a 13) cI 8040 cy), (oa (a 32) cI 8 S0), (oa (a 40) cI 6 T0), (oa (a 29) cI 42 P0), (oa (a 30) cI 42 Q0), (oa (a 33) cI 42 ox), (oa (a 34) cI 42 oy), (oa (a 37) cZ 201 mt), (oa (a 38) cZ 201 wi), (oa (a 39) cZ 8040 ins)] sz) := by
  refine Met.ofW (cc := cX11_isLawfulTo) (maxL := 8) (ret := (some .boolean)) rfl rfl ?_
  intro p e s m args below meth c s₁ B hml hv
  obtain ⟨rfl, hsz, hP, hK, hD0, hXN⟩ := hv
  have hx := B.exec
  have hb := B.bytes
  have hr := B.returns
  have hts0 := atoms_spec (ws := .code yX11_isLawfulTo cX11_isLawfulTo 8 (some .boolean) :: ws0) B.pre
  have hts : ∀ w9 ∈ ws0, w9.before ([.ref k0, .int (nI f), .int (nI g), .int 5, .int (-1)] : List Value).toArray s = true := fun w9 h => hts0 w9 (List.mem_cons_of_mem _ h)
  have hown : s.vm.findClass "ScaleShopModel" = some m.cls := findClass_of_methodNamed B.named
  have hlocks := B.notSynchronized
  subst hsz
  have hD := hD0.self (sz := s.heap.size)
  clear hD0
  generalize hAe : va_A [(om k0 a I0 J0), (oa (a 1) cI 201 kd), (oa (a 11) cI 201 mn), (oa (a 12) cI 8040 cx), (oa (a 13) cI 8040 cy), (oa (a 32) cI 8 S0), (oa (a 40) cI 6 T0), (oa (a 29) cI 42 P0), (oa (a 30) cI 42 Q0), (oa (a 33) cI 42 ox), (oa (a 34) cI 42 oy), (oa (a 37) cZ 201 mt), (oa (a 38) cZ 201 wi), (oa (a 39) cZ 8040 ins)] s.heap.size = A at hD ⊢
  have hA : ∀ q : Nat, s.heap.size ≤ q → A q := fun q h => by rw [← hAe]; exact Or.inr h
  clear hAe
  have hS : va_S A s.heap s.heap [] := va_S.rf
  have hP : va_P (dC, dI) classes [(om k0 a I0 J0), (oa (a 1) cI 201 kd), (oa (a 11) cI 201 mn), (oa (a 12) cI 8040 cx), (oa (a 13) cI 8040 cy), (oa (a 32) cI 8 S0), (oa (a 40) cI 6 T0), (oa (a 29) cI 42 P0), (oa (a 30) cI 42 Q0), (oa (a 33) cI 42 ox), (oa (a 34) cI 42 oy), (oa (a 37) cZ 201 mt), (oa (a 38) cZ 201 wi), (oa (a 39) cZ 8040 ins)] s.heap := hP
  obtain ⟨Q9, hQ9⟩ : ∃ Q9 : State → Prop, Q9 = MQ below (zQ (some (.int (pI (lawTo (ox 0) (oy 0) (kd f).toInt n (cF40 cx f) (cF40 cy f) (kd g).toInt m2 (cF40 cx g) (cF40 cy g) MT WI IN (fun _ => False))))) (fun t => ∃ (z9 : Int32), ∃ (S1 : Nat → Int32), ∃ (T1 : Nat → Int32), ∃ (P1 : Nat → Int32), ∃ (Q1 : Nat → Int32), va_P (dC, dI) classes [(om k0 a (upd I0 31 z9) J0), (oa (a 1) cI 201 kd), (oa (a 11) cI 201 mn), (oa (a 12) cI 8040 cx), (oa (a 13) cI 8040 cy), (oa (a 32) cI 8 S1), (oa (a 40) cI 6 T1), (oa (a 29) cI 42 P1), (oa (a 30) cI 42 Q1), (oa (a 33) cI 42 ox), (oa (a 34) cI 42 oy), (oa (a 37) cZ 201 mt), (oa (a 38) cZ 201 wi), (oa (a 39) cZ 8040 ins)] t.heap ∧ va_D A [(om k0 a (upd I0 31 z9) J0), (oa (a 1) cI 201 kd), (oa (a 11) cI 201 mn), (oa (a 12) cI 8040 cx), (oa (a 13) cI 8040 cy), (oa (a 32) cI 8 S1), (oa (a 40) cI 6 T1), (oa (a 29) cI 42 P1), (oa (a 30) cI 42 Q1), (oa (a 33) cI 42 ox), (oa (a 34) cI 42 oy), (oa (a 37) cZ 201 mt), (oa (a 38) cZ 201 wi), (oa (a 39) cZ 8040 ins)]) A) ([.ref k0, .int (nI f), .int (nI g), .int 5, .int (-1)] : List Value).toArray s 0 0 A := ⟨_, rfl⟩
  rw [← hQ9]
  have hl := lv_entry ([.ref k0, .int (nI f), .int (nI g), .int 5, .int (-1)]) (n := 8) (Nat.le_of_ble_eq_true rfl)
  rw [lg_entry_eq]
  generalize (lg_sl ([.ref k0, .int (nI f), .int (nI g), .int 5, .int (-1)]) ++ List.replicate (8 - (lg_sl ([.ref k0, .int (nI f), .int (nI g), .int 5, .int (-1)])).length) Slot.unset).toArray = ls at hl ⊢
  have hl : lv_has ls 8 [(0, .ref k0), (1, .int (nI f)), (2, .int (nI g)), (3, .int 5), (4, .int (-1))] := hl
  refine lv_aload_n hx hb dX11_isLawfulTo_0 rfl (lv_at hl 0 rfl) ?_
  refine lv_iload_n hx hb dX11_isLawfulTo_1 rfl (lv_at hl 1 rfl) ?_
  refine lv_iload_n hx hb dX11_isLawfulTo_2 rfl (lv_at hl 2 rfl) ?_
  obtain ⟨hPc, hDc, hFc⟩ := zc_sub (wc := [(om k0 a I0 J0), (oa (a 1) cI 201 kd), (oa (a 11) cI 201 mn), (oa (a 12) cI 8040 cx), (oa (a 13) cI 8040 cy), (oa (a 32) cI 8 S0)]) hP hD hS hA [0, 1, 2, 3, 4, 5] rfl rfl
  refine zcall (st1 := [.int (pI (∃ i, i < eO (kd f).toInt n ∧ ∃ j, j < eO (kd g).toInt m2 ∧ eMt n (cF40 cx f) (cF40 cy f) i m2 (cF40 cx g) (cF40 cy g) j))]) (va_runV (As := [.int (nI f), .int (nI g)]) (rest := []) ⟨hx, hb, hml, hown, hts⟩ (k_M_isMet l dC dI cI cZ cF s.heap.size k0 a I0 J0 f n g m2 kd mn cx cy S0 (by first | with_reducible assumption | omega) (by first | with_reducible assumption | assumption) (by first | with_reducible assumption | omega) (by first | with_reducible assumption | assumption) (by first | with_reducible assumption | omega) (by first | with_reducible assumption | assumption) (by first | with_reducible assumption | omega) (by first | with_reducible assumption | assumption)) (csV_180 hts rfl rfl ⟨Nat.le_of_ble_eq_true rfl, Nat.le_of_ble_eq_true rfl⟩) (zPV2 (q0 := 0) (ci := 9) hPc hDc hK hXN rfl rfl) rfl rfl hl.1 rfl (lv_room (Nat.le_of_ble_eq_true rfl)) dX11_isLawfulTo_3 ⟨Nat.le_of_ble_eq_true rfl, Nat.le_of_ble_eq_true rfl⟩) hS hFc hFc rfl (fun t H locs ht hB hk1 hS => ?_)
  obtain ⟨q_1, hP1, hD1⟩ := hB
  rw [ht] at hP1
  obtain ⟨hP, hD⟩ := zk (W2 := [(om k0 a I0 J0), (oa (a 1) cI 201 kd), (oa (a 11) cI 201 mn), (oa (a 12) cI 8040 cx), (oa (a 13) cI 8040 cy), (oa (a 32) cI 8 q_1), (oa (a 40) cI 6 T0), (oa (a 29) cI 42 P0), (oa (a 30) cI 42 Q0), (oa (a 33) cI 42 ox), (oa (a 34) cI 42 oy), (oa (a 37) cZ 201 mt), (oa (a 38) cZ 201 wi), (oa (a 39) cZ 8040 ins)]) hP hD [0, 1, 2, 3, 4, 5] [6, 7, 8, 9, 10, 11, 12, 13] [6, 7, 8, 9, 10, 11, 12, 13] [0, 1, 2, 3, 4, 5] [8, 9, 10, 11, 12, 13, 0, 1, 2, 3, 4, 5, 6, 7] 14 rfl rfl rfl rfl rfl rfl rfl rfl rfl hk1 hFc hP1 hD1
  clear hk1 hPc hDc hFc hP1 hD1 ht
  refine zz_i (v := pI (mtF (kd f).toInt n (cF40 cx f) (cF40 cy f) (kd g).toInt m2 (cF40 cx g) (cF40 cy g))) (rfl) ?_
  refine lv_aload_n hx hb dX11_isLawfulTo_6 rfl (lv_at hl 0 rfl) ?_
  refine va_get (D := (dC, dI)) (ci := 9) (v := .ref (a 37)) (C := RX11) (T := TX11) (N := 55) hx hb hts inX11 hown hK hP 0 rfl rfl 37 (Nat.le_of_ble_eq_true rfl) (hts _ mw_1196) (fun _ h9 => h9) rfl dX11_isLawfulTo_7 ?_
  refine lv_iload_n hx hb dX11_isLawfulTo_10 rfl (lv_at hl 2 rfl) ?_
  have b9_2 : g < 201 := by omega
  refine z_zald hx hb hK hP 11 1 rfl rfl (e := g) rfl b9_2 (Nat.le_of_ble_eq_true rfl) dX11_isLawfulTo_11 ?_
  refine zz_i (v := pI MT) (hmt) ?_
  refine lv_icmp_eq (tgt := 17) hx hb dX11_isLawfulTo_12 rfl (fun c_3 => ?_) (fun c_3 => ?_)
  · have c_3 : (pI (mtF (kd f).toInt n (cF40 cx f) (cF40 cy f) (kd g).toInt m2 (cF40 cx g) (cF40 cy g))).toInt = (pI MT).toInt := zc_eq rfl rfl c_3
    refine lv_aload_n hx hb dX11_isLawfulTo_17 rfl (lv_at hl 0 rfl) ?_
    refine lv_iload_n hx hb dX11_isLawfulTo_18 rfl (lv_at hl 2 rfl) ?_
    obtain ⟨hPc, hDc, hFc⟩ := zc_sub (wc := [(om k0 a I0 J0), (oa (a 1) cI 201 kd)]) hP hD hS hA [0, 1] rfl rfl
    refine zcall (st1 := [.int (pI (5 ≤ (kd g).toInt))]) (va_runV (As := [.int (nI g)]) (rest := []) ⟨hx, hb, hml, hown, hts⟩ (k_M_isRing l dC dI cI cZ cF H.size k0 a I0 J0 g kd (by first | with_reducible assumption | omega)) (csV_165 hts rfl rfl ⟨Nat.le_of_ble_eq_true rfl, Nat.le_of_ble_eq_true rfl⟩) (zPV2 (q0 := 0) (ci := 9) hPc hDc hK hXN rfl rfl) rfl rfl hl.1 rfl (lv_room (Nat.le_of_ble_eq_true rfl)) dX11_isLawfulTo_19 ⟨Nat.le_of_ble_eq_true rfl, Nat.le_of_ble_eq_true rfl⟩) hS hFc hFc rfl (fun t H locs ht hB hk1 hS => ?_)
    obtain ⟨hP1, hD1⟩ := hB
    rw [ht] at hP1
    obtain ⟨hP, hD⟩ := zk (W2 := [(om k0 a I0 J0), (oa (a 1) cI 201 kd), (oa (a 11) cI 201 mn), (oa (a 12) cI 8040 cx), (oa (a 13) cI 8040 cy), (oa (a 32) cI 8 q_1), (oa (a 40) cI 6 T0), (oa (a 29) cI 42 P0), (oa (a 30) cI 42 Q0), (oa (a 33) cI 42 ox), (oa (a 34) cI 42 oy), (oa (a 37) cZ 201 mt), (oa (a 38) cZ 201 wi), (oa (a 39) cZ 8040 ins)]) hP hD [0, 1] [2, 3, 4, 5, 6, 7, 8, 9, 10, 11, 12, 13] [2, 3, 4, 5, 6, 7, 8, 9, 10, 11, 12, 13] [0, 1] [12, 13, 0, 1, 2, 3, 4, 5, 6, 7, 8, 9, 10, 11] 14 rfl rfl rfl rfl rfl rfl rfl rfl rfl hk1 hFc hP1 hD1
    clear hk1 hPc hDc hFc hP1 hD1 ht
    refine lv_if_eq (tgt := 59) hx hb dX11_isLawfulTo_22 rfl (fun c_4 => ?_) (fun c_4 => ?_)
    · have c_4 : ¬ (5 ≤ (kd g).toInt) := zp_0 c_4
      refine lv_iconst (v := 0) hx hb dX11_isLawfulTo_59 rfl ?_
      refine lv_istore (lv' := [(5, .int 0), (0, .ref k0), (1, .int (nI f)), (2, .int (nI g)), (3, .int 5), (4, .int (-1))]) hx hb dX11_isLawfulTo_60 hl (Nat.le_of_ble_eq_true rfl) rfl (fun ls hl => ?_)
      have hl_62 : ∀ (n9 : Nat) (k : Nat) (z9 : Int32) (S1 : Nat → Int32) (T1 : Nat → Int32) (P1 : Nat → Int32) (Q1 : Nat → Int32) (H : Heap) (locs : List Loc) (ls : Array Slot), m2 - k < n9 → (k ≤ m2) → (∀ j, j < k → (5 ≤ (kd f).toInt → (inF (kd f).toInt n (cF40 cx f) (cF40 cy f) (cF40 cx g j).toInt (cF40 cy g j).toInt ↔ IN j)) ∧ (¬ (kd f).toInt = 0 → ¬ (fun _ => False) j)) → va_P (dC, dI) classes [(om k0 a (upd I0 31 z9) J0), (oa (a 1) cI 201 kd), (oa (a 11) cI 201 mn), (oa (a 12) cI 8040 cx), (oa (a 13) cI 8040 cy), (oa (a 32) cI 8 S1), (oa (a 40) cI 6 T1), (oa (a 29) cI 42 P1), (oa (a 30) cI 42 Q1), (oa (a 33) cI 42 ox), (oa (a 34) cI 42 oy), (oa (a 37) cZ 201 mt), (oa (a 38) cZ 201 wi), (oa (a 39) cZ 8040 ins)] H → va_D A [(om k0 a (upd I0 31 z9) J0), (oa (a 1) cI 201 kd), (oa (a 11) cI 201 mn), (oa (a 12) cI 8040 cx), (oa (a 13) cI 8040 cy), (oa (a 32) cI 8 S1), (oa (a 40) cI 6 T1), (oa (a 29) cI 42 P1), (oa (a 30) cI 42 Q1), (oa (a 33) cI 42 ox), (oa (a 34) cI 42 oy), (oa (a 37) cZ 201 mt), (oa (a 38) cZ 201 wi), (oa (a 39) cZ 8040 ins)] → va_S A s.heap H locs → lv_has ls 8 [(5, .int (nI k)), (0, .ref k0), (1, .int (nI f)), (2, .int (nI g)), (3, .int 5), (4, .int (-1))] → W p l e ((headSpec (.code yX11_isLawfulTo cX11_isLawfulTo 8 (some .boolean) :: ws0) ({ frames := 4, cells := 0, slots := 0, locals := 108 } : Room)).room) s m ([.ref k0, .int (nI f), .int (nI g), .int 5, .int (-1)] : List Value).toArray below meth c H locs 0 0 Q9 (F0 m 62 ls []) := by
        intro n9
        induction n9 with
        | zero => intro k z9 S1 T1 P1 Q1 H locs ls hm; exact absurd hm (Nat.not_lt_zero _)
        | succ n9 ih_62 =>
          intro k z9 S1 T1 P1 Q1 H locs ls hm hk hall hP hD hS hl
          refine lv_iload hx hb dX11_isLawfulTo_62 (lv_at hl 0 rfl) ?_
          refine lv_aload_n hx hb dX11_isLawfulTo_64 rfl (lv_at hl 1 rfl) ?_
          refine va_get (D := (dC, dI)) (ci := 9) (v := .ref (a 11)) (C := RX11) (T := TX11) (N := 55) hx hb hts inX11 hown hK hP 0 rfl rfl 11 (Nat.le_of_ble_eq_true rfl) (hts _ mw_1170) (fun _ h9 => h9) rfl dX11_isLawfulTo_65 ?_
          refine lv_iload_n hx hb dX11_isLawfulTo_68 rfl (lv_at hl 3 rfl) ?_
          refine z_iald hx hb hK hP 2 0 rfl rfl (e := g) rfl b9_2 (Nat.le_of_ble_eq_true rfl) dX11_isLawfulTo_69 ?_
          refine zz_i (v := nI m2) (hm_g) ?_
          have b9_6 : k < 2147483648 := by omega
          have b9_7 : m2 < 2147483648 := by omega
          refine lv_icmp_ge (tgt := 191) hx hb dX11_isLawfulTo_70 rfl (fun c_5 => ?_) (fun c_5 => ?_)
          · have c_5 : ((m2 : Nat) : Int) ≤ ((k : Nat) : Int) := zc_le (nI_toInt b9_7) (nI_toInt b9_6) c_5
            refine lv_aload_n hx hb dX11_isLawfulTo_191 rfl (lv_at hl 1 rfl) ?_
            refine va_get (D := (dC, dI)) (ci := 9) (v := .ref (a 1)) (C := RX11) (T := TX11) (N := 55) hx hb hts inX11 hown hK hP 0 rfl rfl 1 (Nat.le_of_ble_eq_true rfl) (hts _ mw_1160) (fun _ h9 => h9) rfl dX11_isLawfulTo_192 ?_
            refine lv_iload_n hx hb dX11_isLawfulTo_195 rfl (lv_at hl 2 rfl) ?_
            have b9_8 : f < 201 := by omega
            refine z_iald hx hb hK hP 1 0 rfl rfl (e := f) rfl b9_8 (Nat.le_of_ble_eq_true rfl) dX11_isLawfulTo_196 ?_
            refine lv_if_ne (tgt := 209) hx hb dX11_isLawfulTo_197 rfl (fun c_9 => ?_) (fun c_9 => ?_)
            · have c_9 : ¬ (kd f).toInt = 0 := zc_ne rfl rfl c_9
              refine lv_iconst (v := 1) hx hb dX11_isLawfulTo_209 rfl ?_
              refine lv_goto (tgt := 214) hx hb dX11_isLawfulTo_210 rfl ?_
              obtain ⟨hP9, hD9⟩ := zq_sub (wc := [(om k0 a (upd I0 31 z9) J0), (oa (a 1) cI 201 kd), (oa (a 11) cI 201 mn), (oa (a 12) cI 8040 cx), (oa (a 13) cI 8040 cy), (oa (a 32) cI 8 S1), (oa (a 40) cI 6 T1), (oa (a 29) cI 42 P1), (oa (a 30) cI 42 Q1), (oa (a 33) cI 42 ox), (oa (a 34) cI 42 oy), (oa (a 37) cZ 201 mt), (oa (a 38) cZ 201 wi), (oa (a 39) cZ 8040 ins)]) hP hD [0, 1, 2, 3, 4, 5, 6, 7, 8, 9, 10, 11, 12, 13] rfl rfl
              rw [hQ9]
              exact W.zret (ty := .boolean) (v := 1) hx hb hr (rfl) (fun t ht hW => ⟨⟨congrArg (fun z => Outcome.returned (some (Value.int z))) (show (1 : Int32) = pI (lawTo (ox 0) (oy 0) (kd f).toInt n (cF40 cx f) (cF40 cy f) (kd g).toInt m2 (cF40 cx g) (cF40 cy g) MT WI IN (fun _ => False)) from (zp_t (by first | exact ⟨zp_ieq.mp (by first | with_reducible assumption | assumption), fun h => (by first | (exfalso; omega) | exact zp_ieq.mp (by first | with_reducible assumption | assumption)), fun j hj => hall j (by omega), fun h => (by first | (exfalso; omega) | assumption)⟩ | exact fun h => absurd (h.2.2.2 (by omega)) (by first | with_reducible assumption | assumption))).symm), z9, S1, T1, P1, Q1, by rw [ht]; exact hP9, hD9⟩, hS.F ht⟩) hS.2.2 dX11_isLawfulTo_214
            · have c_9 : (kd f).toInt = 0 := zc_eq rfl rfl c_9
              refine lv_aload_n hx hb dX11_isLawfulTo_200 rfl (lv_at hl 1 rfl) ?_
              refine lv_iload_n hx hb dX11_isLawfulTo_201 rfl (lv_at hl 2 rfl) ?_
              refine lv_iload_n hx hb dX11_isLawfulTo_202 rfl (lv_at hl 3 rfl) ?_
              obtain ⟨hPc, hDc, hFc⟩ := zc_sub (wc := [(om k0 a (upd I0 31 z9) J0), (oa (a 1) cI 201 kd), (oa (a 11) cI 201 mn), (oa (a 12) cI 8040 cx), (oa (a 13) cI 8040 cy), (oa (a 32) cI 8 S1), (oa (a 33) cI 42 ox), (oa (a 34) cI 42 oy)]) hP hD hS hA [0, 1, 2, 3, 4, 5, 9, 10] rfl rfl
              refine zcall (st1 := [.int (pI (∀ k, k < eO (kd g).toInt m2 → fWy (ox 0).toInt (oy 0).toInt (cx (40 * f)).toInt (cy (40 * f)).toInt m2 (cF40 cx g) (cF40 cy g) k))]) (va_runV (As := [.int (nI f), .int (nI g)]) (rest := []) ⟨hx, hb, hml, hown, hts⟩ (k_M_isFreeWay l dC dI cI cZ cF H.size k0 a (upd I0 31 z9) J0 f g m2 kd mn cx cy S1 ox oy (by first | with_reducible assumption | omega) ((hpo 0 (by first | with_reducible assumption | omega)).1) ((hpo 0 (by first | with_reducible assumption | omega)).2) ((hp_f 0 (by first | with_reducible assumption | omega)).1) ((hp_f 0 (by first | with_reducible assumption | omega)).2) (by first | with_reducible assumption | omega) (by first | with_reducible assumption | assumption) (by first | with_reducible assumption | omega) (by first | with_reducible assumption | assumption)) (csV_181 hts rfl rfl ⟨Nat.le_of_ble_eq_true rfl, Nat.le_of_ble_eq_true rfl⟩) (zPV2 (q0 := 0) (ci := 9) hPc hDc hK hXN rfl rfl) rfl rfl hl.1 rfl (lv_room (Nat.le_of_ble_eq_true rfl)) dX11_isLawfulTo_203 ⟨Nat.le_of_ble_eq_true rfl, Nat.le_of_ble_eq_true rfl⟩) hS hFc hFc rfl (fun t H locs ht hB hk1 hS => ?_)
              obtain ⟨q_10, hP1, hD1⟩ := hB
              rw [ht] at hP1
              obtain ⟨hP, hD⟩ := zk (W2 := [(om k0 a (upd I0 31 z9) J0), (oa (a 1) cI 201 kd), (oa (a 11) cI 201 mn), (oa (a 12) cI 8040 cx), (oa (a 13) cI 8040 cy), (oa (a 32) cI 8 q_10), (oa (a 40) cI 6 T1), (oa (a 29) cI 42 P1), (oa (a 30) cI 42 Q1), (oa (a 33) cI 42 ox), (oa (a 34) cI 42 oy), (oa (a 37) cZ 201 mt), (oa (a 38) cZ 201 wi), (oa (a 39) cZ 8040 ins)]) hP hD [0, 1, 2, 3, 4, 5, 9, 10] [6, 7, 8, 11, 12, 13] [6, 7, 8, 11, 12, 13] [0, 1, 2, 3, 4, 5, 9, 10] [6, 7, 8, 9, 10, 11, 0, 1, 2, 12, 13, 3, 4, 5] 14 rfl rfl rfl rfl rfl rfl rfl rfl rfl hk1 hFc hP1 hD1
              clear hk1 hPc hDc hFc hP1 hD1 ht
              refine zz_i (v := pI (∀ k, k < eO (kd g).toInt m2 → fWy (ox 0).toInt (oy 0).toInt (cF40 cx f 0).toInt (cF40 cy f 0).toInt m2 (cF40 cx g) (cF40 cy g) k)) (rfl) ?_
              refine lv_if_eq (tgt := 213) hx hb dX11_isLawfulTo_206 rfl (fun c_11 => ?_) (fun c_11 => ?_)
              · have c_11 : ¬ (∀ k, k < eO (kd g).toInt m2 → fWy (ox 0).toInt (oy 0).toInt (cF40 cx f 0).toInt (cF40 cy f 0).toInt m2 (cF40 cx g) (cF40 cy g) k) := zp_0 c_11
                refine lv_iconst (v := 0) hx hb dX11_isLawfulTo_213 rfl ?_
                obtain ⟨hP9, hD9⟩ := zq_sub (wc := [(om k0 a (upd I0 31 z9) J0), (oa (a 1) cI 201 kd), (oa (a 11) cI 201 mn), (oa (a 12) cI 8040 cx), (oa (a 13) cI 8040 cy), (oa (a 32) cI 8 q_10), (oa (a 40) cI 6 T1), (oa (a 29) cI 42 P1), (oa (a 30) cI 42 Q1), (oa (a 33) cI 42 ox), (oa (a 34) cI 42 oy), (oa (a 37) cZ 201 mt), (oa (a 38) cZ 201 wi), (oa (a 39) cZ 8040 ins)]) hP hD [0, 1, 2, 3, 4, 5, 6, 7, 8, 9, 10, 11, 12, 13] rfl rfl
                rw [hQ9]
                exact W.zret (ty := .boolean) (v := 0) hx hb hr (rfl) (fun t ht hW => ⟨⟨congrArg (fun z => Outcome.returned (some (Value.int z))) (show (0 : Int32) = pI (lawTo (ox 0) (oy 0) (kd f).toInt n (cF40 cx f) (cF40 cy f) (kd g).toInt m2 (cF40 cx g) (cF40 cy g) MT WI IN (fun _ => False)) from (zp_f (by first | exact ⟨zp_ieq.mp (by first | with_reducible assumption | assumption), fun h => (by first | (exfalso; omega) | exact zp_ieq.mp (by first | with_reducible assumption | assumption)), fun j hj => hall j (by omega), fun h => (by first | (exfalso; omega) | assumption)⟩ | exact fun h => absurd (h.2.2.2 (by omega)) (by first | with_reducible assumption | assumption))).symm), z9, q_10, T1, P1, Q1, by rw [ht]; exact hP9, hD9⟩, hS.F ht⟩) hS.2.2 dX11_isLawfulTo_214
              · have c_11 : ∀ k, k < eO (kd g).toInt m2 → fWy (ox 0).toInt (oy 0).toInt (cF40 cx f 0).toInt (cF40 cy f 0).toInt m2 (cF40 cx g) (cF40 cy g) k := zp_1 c_11
                refine lv_iconst (v := 1) hx hb dX11_isLawfulTo_209 rfl ?_
                refine lv_goto (tgt := 214) hx hb dX11_isLawfulTo_210 rfl ?_
                obtain ⟨hP9, hD9⟩ := zq_sub (wc := [(om k0 a (upd I0 31 z9) J0), (oa (a 1) cI 201 kd), (oa (a 11) cI 201 mn), (oa (a 12) cI 8040 cx), (oa (a 13) cI 8040 cy), (oa (a 32) cI 8 q_10), (oa (a 40) cI 6 T1), (oa (a 29) cI 42 P1), (oa (a 30) cI 42 Q1), (oa (a 33) cI 42 ox), (oa (a 34) cI 42 oy), (oa (a 37) cZ 201 mt), (oa (a 38) cZ 201 wi), (oa (a 39) cZ 8040 ins)]) hP hD [0, 1, 2, 3, 4, 5, 6, 7, 8, 9, 10, 11, 12, 13] rfl rfl
                rw [hQ9]
                exact W.zret (ty := .boolean) (v := 1) hx hb hr (rfl) (fun t ht hW => ⟨⟨congrArg (fun z => Outcome.returned (some (Value.int z))) (show (1 : Int32) = pI (lawTo (ox 0) (oy 0) (kd f).toInt n (cF40 cx f) (cF40 cy f) (kd g).toInt m2 (cF40 cx g) (cF40 cy g) MT WI IN (fun _ => False)) from (zp_t (by first | exact ⟨zp_ieq.mp (by first | with_reducible assumption | assumption), fun h => (by first | (exfalso; omega) | exact zp_ieq.mp (by first | with_reducible assumption | assumption)), fun j hj => hall j (by omega), fun h => (by first | (exfalso; omega) | assumption)⟩ | exact fun h => absurd (h.2.2.2 (by omega)) (by first | with_reducible assumption | assumption))).symm), z9, q_10, T1, P1, Q1, by rw [ht]; exact hP9, hD9⟩, hS.F ht⟩) hS.2.2 dX11_isLawfulTo_214
          · have c_5 : ((k : Nat) : Int) < ((m2 : Nat) : Int) := zc_nle (nI_toInt b9_7) (nI_toInt b9_6) c_5
            have hk9 : k < m2 := (by omega)
            refine lv_aload_n hx hb dX11_isLawfulTo_73 rfl (lv_at hl 1 rfl) ?_
            refine va_get (D := (dC, dI)) (ci := 9) (v := .ref (a 12)) (C := RX11) (T := TX11) (N := 55) hx hb hts inX11 hown hK hP 0 rfl rfl 12 (Nat.le_of_ble_eq_true rfl) (hts _ mw_1171) (fun _ h9 => h9) rfl dX11_isLawfulTo_74 ?_
            refine lv_bipush (v := 40) hx hb dX11_isLawfulTo_77 rfl ?_
            refine lv_iload_n hx hb dX11_isLawfulTo_79 rfl (lv_at hl 3 rfl) ?_
            refine lv_imul hx hb dX11_isLawfulTo_80 ?_
            refine zz_i (v := nI (40 * g)) (pk_mul 40 g) ?_
            refine lv_iload hx hb dX11_isLawfulTo_81 (lv_at hl 0 rfl) ?_
            refine lv_iadd hx hb dX11_isLawfulTo_83 ?_
            refine zz_i (v := nI (40 * g + k)) (nI_add (40 * g) k) ?_
            have b9_12 : 40 * g + k < 8040 := by omega
            refine z_iald hx hb hK hP 3 0 rfl rfl (e := 40 * g + k) rfl b9_12 (Nat.le_of_ble_eq_true rfl) dX11_isLawfulTo_84 ?_
            refine lv_istore (lv' := [(6, .int (cx (40 * g + k))), (5, .int (nI k)), (0, .ref k0), (1, .int (nI f)), (2, .int (nI g)), (3, .int 5), (4, .int (-1))]) hx hb dX11_isLawfulTo_85 hl (Nat.le_of_ble_eq_true rfl) rfl (fun ls hl => ?_)
            refine lv_aload_n hx hb dX11_isLawfulTo_87 rfl (lv_at hl 2 rfl) ?_
            refine va_get (D := (dC, dI)) (ci := 9) (v := .ref (a 13)) (C := RX11) (T := TX11) (N := 55) hx hb hts inX11 hown hK hP 0 rfl rfl 13 (Nat.le_of_ble_eq_true rfl) (hts _ mw_1172) (fun _ h9 => h9) rfl dX11_isLawfulTo_88 ?_
            refine lv_bipush (v := 40) hx hb dX11_isLawfulTo_91 rfl ?_
            refine lv_iload_n hx hb dX11_isLawfulTo_93 rfl (lv_at hl 4 rfl) ?_
            refine lv_imul hx hb dX11_isLawfulTo_94 ?_
            refine zz_i (v := nI (40 * g)) (pk_mul 40 g) ?_
            refine lv_iload hx hb dX11_isLawfulTo_95 (lv_at hl 1 rfl) ?_
            refine lv_iadd hx hb dX11_isLawfulTo_97 ?_
            refine zz_i (v := nI (40 * g + k)) (nI_add (40 * g) k) ?_
            refine z_iald hx hb hK hP 4 0 rfl rfl (e := 40 * g + k) rfl b9_12 (Nat.le_of_ble_eq_true rfl) dX11_isLawfulTo_98 ?_
            refine lv_istore (lv' := [(7, .int (cy (40 * g + k))), (6, .int (cx (40 * g + k))), (5, .int (nI k)), (0, .ref k0), (1, .int (nI f)), (2, .int (nI g)), (3, .int 5), (4, .int (-1))]) hx hb dX11_isLawfulTo_99 hl (Nat.le_of_ble_eq_true rfl) rfl (fun ls hl => ?_)
            refine lv_aload_n hx hb dX11_isLawfulTo_101 rfl (lv_at hl 3 rfl) ?_
            refine lv_iload_n hx hb dX11_isLawfulTo_102 rfl (lv_at hl 4 rfl) ?_
            obtain ⟨hPc, hDc, hFc⟩ := zc_sub (wc := [(om k0 a (upd I0 31 z9) J0), (oa (a 1) cI 201 kd)]) hP hD hS hA [0, 1] rfl rfl
            refine zcall (st1 := [.int (pI (5 ≤ (kd f).toInt))]) (va_runV (As := [.int (nI f)]) (rest := []) ⟨hx, hb, hml, hown, hts⟩ (k_M_isRing l dC dI cI cZ cF H.size k0 a (upd I0 31 z9) J0 f kd (by first | with_reducible assumption | omega)) (csV_165 hts rfl rfl ⟨Nat.le_of_ble_eq_true rfl, Nat.le_of_ble_eq_true rfl⟩) (zPV2 (q0 := 0) (ci := 9) hPc hDc hK hXN rfl rfl) rfl rfl hl.1 rfl (lv_room (Nat.le_of_ble_eq_true rfl)) dX11_isLawfulTo_103 ⟨Nat.le_of_ble_eq_true rfl, Nat.le_of_ble_eq_true rfl⟩) hS hFc hFc rfl (fun t H locs ht hB hk1 hS => ?_)
            obtain ⟨hP1, hD1⟩ := hB
            rw [ht] at hP1
            obtain ⟨hP, hD⟩ := zk (W2 := [(om k0 a (upd I0 31 z9) J0), (oa (a 1) cI 201 kd), (oa (a 11) cI 201 mn), (oa (a 12) cI 8040 cx), (oa (a 13) cI 8040 cy), (oa (a 32) cI 8 S1), (oa (a 40) cI 6 T1), (oa (a 29) cI 42 P1), (oa (a 30) cI 42 Q1), (oa (a 33) cI 42 ox), (oa (a 34) cI 42 oy), (oa (a 37) cZ 201 mt), (oa (a 38) cZ 201 wi), (oa (a 39) cZ 8040 ins)]) hP hD [0, 1] [2, 3, 4, 5, 6, 7, 8, 9, 10, 11, 12, 13] [2, 3, 4, 5, 6, 7, 8, 9, 10, 11, 12, 13] [0, 1] [12, 13, 0, 1, 2, 3, 4, 5, 6, 7, 8, 9, 10, 11] 14 rfl rfl rfl rfl rfl rfl rfl rfl rfl hk1 hFc hP1 hD1
            clear hk1 hPc hDc hFc hP1 hD1 ht
            refine lv_if_eq (tgt := 135) hx hb dX11_isLawfulTo_106 rfl (fun c_13 => ?_) (fun c_13 => ?_)
            · have c_13 : ¬ (5 ≤ (kd f).toInt) := zp_0 c_13
              refine lv_aload_n hx hb dX11_isLawfulTo_135 rfl (lv_at hl 3 rfl) ?_
              refine va_get (D := (dC, dI)) (ci := 9) (v := .ref (a 1)) (C := RX11) (T := TX11) (N := 55) hx hb hts inX11 hown hK hP 0 rfl rfl 1 (Nat.le_of_ble_eq_true rfl) (hts _ mw_1160) (fun _ h9 => h9) rfl dX11_isLawfulTo_136 ?_
              refine lv_iload_n hx hb dX11_isLawfulTo_139 rfl (lv_at hl 4 rfl) ?_
              have b9_14 : f < 201 := by omega
              refine z_iald hx hb hK hP 1 0 rfl rfl (e := f) rfl b9_14 (Nat.le_of_ble_eq_true rfl) dX11_isLawfulTo_140 ?_
              refine lv_if_eq (tgt := 185) hx hb dX11_isLawfulTo_141 rfl (fun c_15 => ?_) (fun c_15 => ?_)
              · have c_15 : (kd f).toInt = 0 := zc_eq rfl rfl c_15
                refine lv_iinc (v := nI (k + 1)) (lv' := [(5, .int (nI (k + 1))), (7, .int (cy (40 * g + k))), (6, .int (cx (40 * g + k))), (0, .ref k0), (1, .int (nI f)), (2, .int (nI g)), (3, .int 5), (4, .int (-1))]) hx hb dX11_isLawfulTo_185 hl (k := 2) rfl (nI_add k 1) (Nat.le_of_ble_eq_true rfl) rfl (fun ls hl => ?_)
                refine lv_goto (tgt := 62) hx hb dX11_isLawfulTo_188 rfl ?_
                exact ih_62 (k + 1) z9 S1 T1 P1 Q1 H locs ls (by first | with_reducible assumption | omega) (by first | with_reducible assumption | omega) (by intro j hj; rcases Nat.lt_or_ge j k with h | h; exact hall j h; obtain rfl : j = k := (by first | with_reducible assumption | omega); exact ⟨fun h5 => (by first | (exfalso; omega) | exact zp_ieq.mp (by first | with_reducible assumption | assumption)), fun h0 => (by first | (exfalso; omega) | exact id | assumption)⟩) hP hD hS (lv_sub hl [0, 3, 4, 5, 6, 7] rfl)
              · have c_15 : ¬ (kd f).toInt = 0 := zc_ne rfl rfl c_15
                refine lv_iload_n hx hb dX11_isLawfulTo_144 rfl (lv_at hl 6 rfl) ?_
                refine lv_iconst (v := 5) hx hb dX11_isLawfulTo_145 rfl ?_
                refine lv_icmp_eq (tgt := 185) hx hb dX11_isLawfulTo_146 rfl (fun c_16 => ?_) (fun c_16 => ?_)
                · refine lv_iinc (v := nI (k + 1)) (lv' := [(5, .int (nI (k + 1))), (7, .int (cy (40 * g + k))), (6, .int (cx (40 * g + k))), (0, .ref k0), (1, .int (nI f)), (2, .int (nI g)), (3, .int 5), (4, .int (-1))]) hx hb dX11_isLawfulTo_185 hl (k := 2) rfl (nI_add k 1) (Nat.le_of_ble_eq_true rfl) rfl (fun ls hl => ?_)
                  refine lv_goto (tgt := 62) hx hb dX11_isLawfulTo_188 rfl ?_
                  exact ih_62 (k + 1) z9 S1 T1 P1 Q1 H locs ls (by first | with_reducible assumption | omega) (by first | with_reducible assumption | omega) (by intro j hj; rcases Nat.lt_or_ge j k with h | h; exact hall j h; obtain rfl : j = k := (by first | with_reducible assumption | omega); exact ⟨fun h5 => (by first | (exfalso; omega) | exact zp_ieq.mp (by first | with_reducible assumption | assumption)), fun h0 => (by first | (exfalso; omega) | exact id | assumption)⟩) hP hD hS (lv_sub hl [0, 3, 4, 5, 6, 7] rfl)
                · exact absurd (by decide) c_16
            · have c_13 : 5 ≤ (kd f).toInt := zp_1 c_13
              refine lv_aload_n hx hb dX11_isLawfulTo_109 rfl (lv_at hl 3 rfl) ?_
              refine lv_iload_n hx hb dX11_isLawfulTo_110 rfl (lv_at hl 4 rfl) ?_
              refine lv_iload hx hb dX11_isLawfulTo_111 (lv_at hl 1 rfl) ?_
              refine lv_iload hx hb dX11_isLawfulTo_113 (lv_at hl 0 rfl) ?_
              obtain ⟨hPc, hDc, hFc⟩ := zc_sub (wc := [(om k0 a (upd I0 31 z9) J0), (oa (a 1) cI 201 kd), (oa (a 11) cI 201 mn), (oa (a 12) cI 8040 cx), (oa (a 13) cI 8040 cy), (oa (a 32) cI 8 S1)]) hP hD hS hA [0, 1, 2, 3, 4, 5] rfl rfl
              refine zcall (st1 := [.int (pI (¬ (∃ i, i < eO (kd f).toInt n ∧ eOn n (cF40 cx f) (cF40 cy f) i (cx (40 * g + k)).toInt (cy (40 * g + k)).toInt) ∧ par2 (eTg n (cF40 cx f) (cF40 cy f) (cx (40 * g + k)).toInt (cy (40 * g + k)).toInt) (eO (kd f).toInt n)))]) (va_runV (As := [.int (nI f), .int (cx (40 * g + k)), .int (cy (40 * g + k))]) (rest := []) ⟨hx, hb, hml, hown, hts⟩ (k_M_isInside l dC dI cI cZ cF H.size k0 a (upd I0 31 z9) J0 f n kd mn cx cy S1 (cx (40 * g + k)) (cy (40 * g + k)) (by first | with_reducible assumption | omega) (by first | with_reducible assumption | assumption) (by first | with_reducible assumption | omega) (by first | with_reducible assumption | assumption) ((hp_g k hk9).1) ((hp_g k hk9).2)) (csV_183 hts rfl rfl ⟨Nat.le_of_ble_eq_true rfl, Nat.le_of_ble_eq_true rfl⟩) (zPV2 (q0 := 0) (ci := 9) hPc hDc hK hXN rfl rfl) rfl rfl hl.1 rfl (lv_room (Nat.le_of_ble_eq_true rfl)) dX11_isLawfulTo_115 ⟨Nat.le_of_ble_eq_true rfl, Nat.le_of_ble_eq_true rfl⟩) hS hFc hFc rfl (fun t H locs ht hB hk1 hS => ?_)
              obtain ⟨q_17, hP1, hD1⟩ := hB
              rw [ht] at hP1
              obtain ⟨hP, hD⟩ := zk (W2 := [(om k0 a (upd I0 31 z9) J0), (oa (a 1) cI 201 kd), (oa (a 11) cI 201 mn), (oa (a 12) cI 8040 cx), (oa (a 13) cI 8040 cy), (oa (a 32) cI 8 q_17), (oa (a 40) cI 6 T1), (oa (a 29) cI 42 P1), (oa (a 30) cI 42 Q1), (oa (a 33) cI 42 ox), (oa (a 34) cI 42 oy), (oa (a 37) cZ 201 mt), (oa (a 38) cZ 201 wi), (oa (a 39) cZ 8040 ins)]) hP hD [0, 1, 2, 3, 4, 5] [6, 7, 8, 9, 10, 11, 12, 13] [6, 7, 8, 9, 10, 11, 12, 13] [0, 1, 2, 3, 4, 5] [8, 9, 10, 11, 12, 13, 0, 1, 2, 3, 4, 5, 6, 7] 14 rfl rfl rfl rfl rfl rfl rfl rfl rfl hk1 hFc hP1 hD1
              clear hk1 hPc hDc hFc hP1 hD1 ht
              refine zz_i (v := pI (inF (kd f).toInt n (cF40 cx f) (cF40 cy f) (cF40 cx g k).toInt (cF40 cy g k).toInt)) (rfl) ?_
              refine lv_aload_n hx hb dX11_isLawfulTo_118 rfl (lv_at hl 3 rfl) ?_
              refine va_get (D := (dC, dI)) (ci := 9) (v := .ref (a 39)) (C := RX11) (T := TX11) (N := 55) hx hb hts inX11 hown hK hP 0 rfl rfl 39 (Nat.le_of_ble_eq_true rfl) (hts _ mw_1198) (fun _ h9 => h9) rfl dX11_isLawfulTo_119 ?_
              refine lv_bipush (v := 40) hx hb dX11_isLawfulTo_122 rfl ?_
              refine lv_iload_n hx hb dX11_isLawfulTo_124 rfl (lv_at hl 5 rfl) ?_
              refine lv_imul hx hb dX11_isLawfulTo_125 ?_
              refine zz_i (v := nI (40 * g)) (pk_mul 40 g) ?_
              refine lv_iload hx hb dX11_isLawfulTo_126 (lv_at hl 2 rfl) ?_
              refine lv_iadd hx hb dX11_isLawfulTo_128 ?_
              refine zz_i (v := nI (40 * g + k)) (nI_add (40 * g) k) ?_
              have b9_18 : 40 * g + k < 8040 := by omega
              refine z_zald hx hb hK hP 13 1 rfl rfl (e := 40 * g + k) rfl b9_18 (Nat.le_of_ble_eq_true rfl) dX11_isLawfulTo_129 ?_
              refine zz_i (v := pI (IN k)) (hin k (by omega) (by omega)) ?_
              refine lv_icmp_eq (tgt := 135) hx hb dX11_isLawfulTo_130 rfl (fun c_19 => ?_) (fun c_19 => ?_)
              · have c_19 : (pI (inF (kd f).toInt n (cF40 cx f) (cF40 cy f) (cF40 cx g k).toInt (cF40 cy g k).toInt)).toInt = (pI (IN k)).toInt := zc_eq rfl rfl c_19
                refine lv_aload_n hx hb dX11_isLawfulTo_135 rfl (lv_at hl 3 rfl) ?_
                refine va_get (D := (dC, dI)) (ci := 9) (v := .ref (a 1)) (C := RX11) (T := TX11) (N := 55) hx hb hts inX11 hown hK hP 0 rfl rfl 1 (Nat.le_of_ble_eq_true rfl) (hts _ mw_1160) (fun _ h9 => h9) rfl dX11_isLawfulTo_136 ?_
                refine lv_iload_n hx hb dX11_isLawfulTo_139 rfl (lv_at hl 4 rfl) ?_
                have b9_20 : f < 201 := by omega
                refine z_iald hx hb hK hP 1 0 rfl rfl (e := f) rfl b9_20 (Nat.le_of_ble_eq_true rfl) dX11_isLawfulTo_140 ?_
                refine lv_if_eq (tgt := 185) hx hb dX11_isLawfulTo_141 rfl (fun c_21 => ?_) (fun c_21 => ?_)
                · have c_21 : (kd f).toInt = 0 := zc_eq rfl rfl c_21
                  refine lv_iinc (v := nI (k + 1)) (lv' := [(5, .int (nI (k + 1))), (7, .int (cy (40 * g + k))), (6, .int (cx (40 * g + k))), (0, .ref k0), (1, .int (nI f)), (2, .int (nI g)), (3, .int 5), (4, .int (-1))]) hx hb dX11_isLawfulTo_185 hl (k := 2) rfl (nI_add k 1) (Nat.le_of_ble_eq_true rfl) rfl (fun ls hl => ?_)
                  refine lv_goto (tgt := 62) hx hb dX11_isLawfulTo_188 rfl ?_
                  exact ih_62 (k + 1) z9 q_17 T1 P1 Q1 H locs ls (by first | with_reducible assumption | omega) (by first | with_reducible assumption | omega) (by intro j hj; rcases Nat.lt_or_ge j k with h | h; exact hall j h; obtain rfl : j = k := (by first | with_reducible assumption | omega); exact ⟨fun h5 => (by first | (exfalso; omega) | exact zp_ieq.mp (by first | with_reducible assumption | assumption)), fun h0 => (by first | (exfalso; omega) | exact id | assumption)⟩) hP hD hS (lv_sub hl [0, 3, 4, 5, 6, 7] rfl)
                · have c_21 : ¬ (kd f).toInt = 0 := zc_ne rfl rfl c_21
                  refine lv_iload_n hx hb dX11_isLawfulTo_144 rfl (lv_at hl 6 rfl) ?_
                  refine lv_iconst (v := 5) hx hb dX11_isLawfulTo_145 rfl ?_
                  refine lv_icmp_eq (tgt := 185) hx hb dX11_isLawfulTo_146 rfl (fun c_22 => ?_) (fun c_22 => ?_)
                  · refine lv_iinc (v := nI (k + 1)) (lv' := [(5, .int (nI (k + 1))), (7, .int (cy (40 * g + k))), (6, .int (cx (40 * g + k))), (0, .ref k0), (1, .int (nI f)), (2, .int (nI g)), (3, .int 5), (4, .int (-1))]) hx hb dX11_isLawfulTo_185 hl (k := 2) rfl (nI_add k 1) (Nat.le_of_ble_eq_true rfl) rfl (fun ls hl => ?_)
                    refine lv_goto (tgt := 62) hx hb dX11_isLawfulTo_188 rfl ?_
                    exact ih_62 (k + 1) z9 q_17 T1 P1 Q1 H locs ls (by first | with_reducible assumption | omega) (by first | with_reducible assumption | omega) (by intro j hj; rcases Nat.lt_or_ge j k with h | h; exact hall j h; obtain rfl : j = k := (by first | with_reducible assumption | omega); exact ⟨fun h5 => (by first | (exfalso; omega) | exact zp_ieq.mp (by first | with_reducible assumption | assumption)), fun h0 => (by first | (exfalso; omega) | exact id | assumption)⟩) hP hD hS (lv_sub hl [0, 3, 4, 5, 6, 7] rfl)
                  · exact absurd (by decide) c_22
              · have c_19 : ¬ (pI (inF (kd f).toInt n (cF40 cx f) (cF40 cy f) (cF40 cx g k).toInt (cF40 cy g k).toInt)).toInt = (pI (IN k)).toInt := zc_ne rfl rfl c_19
                refine lv_iconst (v := 0) hx hb dX11_isLawfulTo_133 rfl ?_
                obtain ⟨hP9, hD9⟩ := zq_sub (wc := [(om k0 a (upd I0 31 z9) J0), (oa (a 1) cI 201 kd), (oa (a 11) cI 201 mn), (oa (a 12) cI 8040 cx), (oa (a 13) cI 8040 cy), (oa (a 32) cI 8 q_17), (oa (a 40) cI 6 T1), (oa (a 29) cI 42 P1), (oa (a 30) cI 42 Q1), (oa (a 33) cI 42 ox), (oa (a 34) cI 42 oy), (oa (a 37) cZ 201 mt), (oa (a 38) cZ 201 wi), (oa (a 39) cZ 8040 ins)]) hP hD [0, 1, 2, 3, 4, 5, 6, 7, 8, 9, 10, 11, 12, 13] rfl rfl
                rw [hQ9]
                exact W.zret (ty := .boolean) (v := 0) hx hb hr (rfl) (fun t ht hW => ⟨⟨congrArg (fun z => Outcome.returned (some (Value.int z))) (show (0 : Int32) = pI (lawTo (ox 0) (oy 0) (kd f).toInt n (cF40 cx f) (cF40 cy f) (kd g).toInt m2 (cF40 cx g) (cF40 cy g) MT WI IN (fun _ => False)) from (zp_f (fun h => absurd (zp_ieq.mpr ((h.2.2.1 k (by omega)).1 (by omega))) (by first | with_reducible assumption | assumption))).symm), z9, q_17, T1, P1, Q1, by rw [ht]; exact hP9, hD9⟩, hS.F ht⟩) hS.2.2 dX11_isLawfulTo_134
      exact hl_62 _ 0 (I0 31) q_1 T0 P0 Q0 H locs ls (Nat.lt_succ_self _) (by first | with_reducible assumption | omega) (by intro j hj; omega) hP hD hS (lv_sub hl [0, 1, 2, 3, 4, 5] rfl)
    · have c_4 : 5 ≤ (kd g).toInt := zp_1 c_4
      refine lv_aload_n hx hb dX11_isLawfulTo_25 rfl (lv_at hl 0 rfl) ?_
      refine lv_iload_n hx hb dX11_isLawfulTo_26 rfl (lv_at hl 2 rfl) ?_
      refine lv_aload_n hx hb dX11_isLawfulTo_27 rfl (lv_at hl 0 rfl) ?_
      refine va_get (D := (dC, dI)) (ci := 9) (v := .ref (a 12)) (C := RX11) (T := TX11) (N := 55) hx hb hts inX11 hown hK hP 0 rfl rfl 12 (Nat.le_of_ble_eq_true rfl) (hts _ mw_1171) (fun _ h9 => h9) rfl dX11_isLawfulTo_28 ?_
      refine lv_bipush (v := 40) hx hb dX11_isLawfulTo_31 rfl ?_
      refine lv_iload_n hx hb dX11_isLawfulTo_33 rfl (lv_at hl 1 rfl) ?_
      refine lv_imul hx hb dX11_isLawfulTo_34 ?_
      refine zz_i (v := nI (40 * f)) (pk_mul 40 f) ?_
      have b9_23 : 40 * f < 8040 := by omega
      refine z_iald hx hb hK hP 3 0 rfl rfl (e := 40 * f) rfl b9_23 (Nat.le_of_ble_eq_true rfl) dX11_isLawfulTo_35 ?_
      refine lv_aload_n hx hb dX11_isLawfulTo_36 rfl (lv_at hl 0 rfl) ?_
      refine va_get (D := (dC, dI)) (ci := 9) (v := .ref (a 13)) (C := RX11) (T := TX11) (N := 55) hx hb hts inX11 hown hK hP 0 rfl rfl 13 (Nat.le_of_ble_eq_true rfl) (hts _ mw_1172) (fun _ h9 => h9) rfl dX11_isLawfulTo_37 ?_
      refine lv_bipush (v := 40) hx hb dX11_isLawfulTo_40 rfl ?_
      refine lv_iload_n hx hb dX11_isLawfulTo_42 rfl (lv_at hl 1 rfl) ?_
      refine lv_imul hx hb dX11_isLawfulTo_43 ?_
      refine zz_i (v := nI (40 * f)) (pk_mul 40 f) ?_
      refine z_iald hx hb hK hP 4 0 rfl rfl (e := 40 * f) rfl b9_23 (Nat.le_of_ble_eq_true rfl) dX11_isLawfulTo_44 ?_
      obtain ⟨hPc, hDc, hFc⟩ := zc_sub (wc := [(om k0 a I0 J0), (oa (a 1) cI 201 kd), (oa (a 11) cI 201 mn), (oa (a 12) cI 8040 cx), (oa (a 13) cI 8040 cy), (oa (a 32) cI 8 q_1)]) hP hD hS hA [0, 1, 2, 3, 4, 5] rfl rfl
      refine zcall (st1 := [.int (pI (¬ (∃ i, i < eO (kd g).toInt m2 ∧ eOn m2 (cF40 cx g) (cF40 cy g) i (cx (40 * f)).toInt (cy (40 * f)).toInt) ∧ par2 (eTg m2 (cF40 cx g) (cF40 cy g) (cx (40 * f)).toInt (cy (40 * f)).toInt) (eO (kd g).toInt m2)))]) (va_runV (As := [.int (nI g), .int (cx (40 * f)), .int (cy (40 * f))]) (rest := []) ⟨hx, hb, hml, hown, hts⟩ (k_M_isInside l dC dI cI cZ cF H.size k0 a I0 J0 g m2 kd mn cx cy q_1 (cx (40 * f)) (cy (40 * f)) (by first | with_reducible assumption | omega) (by first | with_reducible assumption | assumption) (by first | with_reducible assumption | omega) (by first | with_reducible assumption | assumption) ((hp_f 0 (by first | with_reducible assumption | omega)).1) ((hp_f 0 (by first | with_reducible assumption | omega)).2)) (csV_183 hts rfl rfl ⟨Nat.le_of_ble_eq_true rfl, Nat.le_of_ble_eq_true rfl⟩) (zPV2 (q0 := 0) (ci := 9) hPc hDc hK hXN rfl rfl) rfl rfl hl.1 rfl (lv_room (Nat.le_of_ble_eq_true rfl)) dX11_isLawfulTo_45 ⟨Nat.le_of_ble_eq_true rfl, Nat.le_of_ble_eq_true rfl⟩) hS hFc hFc rfl (fun t H locs ht hB hk1 hS => ?_)
      obtain ⟨q_24, hP1, hD1⟩ := hB
      rw [ht] at hP1
      obtain ⟨hP, hD⟩ := zk (W2 := [(om k0 a I0 J0), (oa (a 1) cI 201 kd), (oa (a 11) cI 201 mn), (oa (a 12) cI 8040 cx), (oa (a 13) cI 8040 cy), (oa (a 32) cI 8 q_24), (oa (a 40) cI 6 T0), (oa (a 29) cI 42 P0), (oa (a 30) cI 42 Q0), (oa (a 33) cI 42 ox), (oa (a 34) cI 42 oy), (oa (a 37) cZ 201 mt), (oa (a 38) cZ 201 wi), (oa (a 39) cZ 8040 ins)]) hP hD [0, 1, 2, 3, 4, 5] [6, 7, 8, 9, 10, 11, 12, 13] [6, 7, 8, 9, 10, 11, 12, 13] [0, 1, 2, 3, 4, 5] [8, 9, 10, 11, 12, 13, 0, 1, 2, 3, 4, 5, 6, 7] 14 rfl rfl rfl rfl rfl rfl rfl rfl rfl hk1 hFc hP1 hD1
      clear hk1 hPc hDc hFc hP1 hD1 ht
      refine zz_i (v := pI (inF (kd g).toInt m2 (cF40 cx g) (cF40 cy g) (cF40 cx f 0).toInt (cF40 cy f 0).toInt)) (rfl) ?_
      refine lv_aload_n hx hb dX11_isLawfulTo_48 rfl (lv_at hl 0 rfl) ?_
      refine va_get (D := (dC, dI)) (ci := 9) (v := .ref (a 38)) (C := RX11) (T := TX11) (N := 55) hx hb hts inX11 hown hK hP 0 rfl rfl 38 (Nat.le_of_ble_eq_true rfl) (hts _ mw_1197) (fun _ h9 => h9) rfl dX11_isLawfulTo_49 ?_
      refine lv_iload_n hx hb dX11_isLawfulTo_52 rfl (lv_at hl 2 rfl) ?_
      refine z_zald hx hb hK hP 12 1 rfl rfl (e := g) rfl b9_2 (Nat.le_of_ble_eq_true rfl) dX11_isLawfulTo_53 ?_
      refine zz_i (v := pI WI) (hwi (by omega)) ?_
      refine lv_icmp_eq (tgt := 59) hx hb dX11_isLawfulTo_54 rfl (fun c_25 => ?_) (fun c_25 => ?_)
      · have c_25 : (pI (inF (kd g).toInt m2 (cF40 cx g) (cF40 cy g) (cF40 cx f 0).toInt (cF40 cy f 0).toInt)).toInt = (pI WI).toInt := zc_eq rfl rfl c_25
        refine lv_iconst (v := 0) hx hb dX11_isLawfulTo_59 rfl ?_
        refine lv_istore (lv' := [(5, .int 0), (0, .ref k0), (1, .int (nI f)), (2, .int (nI g)), (3, .int 5), (4, .int (-1))]) hx hb dX11_isLawfulTo_60 hl (Nat.le_of_ble_eq_true rfl) rfl (fun ls hl => ?_)
        have hl_62 : ∀ (n9 : Nat) (k : Nat) (z9 : Int32) (S1 : Nat → Int32) (T1 : Nat → Int32) (P1 : Nat → Int32) (Q1 : Nat → Int32) (H : Heap) (locs : List Loc) (ls : Array Slot), m2 - k < n9 → (k ≤ m2) → (∀ j, j < k → (5 ≤ (kd f).toInt → (inF (kd f).toInt n (cF40 cx f) (cF40 cy f) (cF40 cx g j).toInt (cF40 cy g j).toInt ↔ IN j)) ∧ (¬ (kd f).toInt = 0 → ¬ (fun _ => False) j)) → va_P (dC, dI) classes [(om k0 a (upd I0 31 z9) J0), (oa (a 1) cI 201 kd), (oa (a 11) cI 201 mn), (oa (a 12) cI 8040 cx), (oa (a 13) cI 8040 cy), (oa (a 32) cI 8 S1), (oa (a 40) cI 6 T1), (oa (a 29) cI 42 P1), (oa (a 30) cI 42 Q1), (oa (a 33) cI 42 ox), (oa (a 34) cI 42 oy), (oa (a 37) cZ 201 mt), (oa (a 38) cZ 201 wi), (oa (a 39) cZ 8040 ins)] H → va_D A [(om k0 a (upd I0 31 z9) J0), (oa (a 1) cI 201 kd), (oa (a 11) cI 201 mn), (oa (a 12) cI 8040 cx), (oa (a 13) cI 8040 cy), (oa (a 32) cI 8 S1), (oa (a 40) cI 6 T1), (oa (a 29) cI 42 P1), (oa (a 30) cI 42 Q1), (oa (a 33) cI 42 ox), (oa (a 34) cI 42 oy), (oa (a 37) cZ 201 mt), (oa (a 38) cZ 201 wi), (oa (a 39) cZ 8040 ins)] → va_S A s.heap H locs → lv_has ls 8 [(5, .int (nI k)), (0, .ref k0), (1, .int (nI f)), (2, .int (nI g)), (3, .int 5), (4, .int (-1))] → W p l e ((headSpec (.code yX11_isLawfulTo cX11_isLawfulTo 8 (some .boolean) :: ws0) ({ frames := 4, cells := 0, slots := 0, locals := 108 } : Room)).room) s m ([.ref k0, .int (nI f), .int (nI g), .int 5, .int (-1)] : List Value).toArray below meth c H locs 0 0 Q9 (F0 m 62 ls []) := by
          intro n9
          induction n9 with
          | zero => intro k z9 S1 T1 P1 Q1 H locs ls hm; exact absurd hm (Nat.not_lt_zero _)
          | succ n9 ih_62 =>
            intro k z9 S1 T1 P1 Q1 H locs ls hm hk hall hP hD hS hl
            refine lv_iload hx hb dX11_isLawfulTo_62 (lv_at hl 0 rfl) ?_
            refine lv_aload_n hx hb dX11_isLawfulTo_64 rfl (lv_at hl 1 rfl) ?_
            refine va_get (D := (dC, dI)) (ci := 9) (v := .ref (a 11)) (C := RX11) (T := TX11) (N := 55) hx hb hts inX11 hown hK hP 0 rfl rfl 11 (Nat.le_of_ble_eq_true rfl) (hts _ mw_1170) (fun _ h9 => h9) rfl dX11_isLawfulTo_65 ?_
            refine lv_iload_n hx hb dX11_isLawfulTo_68 rfl (lv_at hl 3 rfl) ?_
            refine z_iald hx hb hK hP 2 0 rfl rfl (e := g) rfl b9_2 (Nat.le_of_ble_eq_true rfl) dX11_isLawfulTo_69 ?_
            refine zz_i (v := nI m2) (hm_g) ?_
            have b9_27 : k < 2147483648 := by omega
            have b9_28 : m2 < 2147483648 := by omega
            refine lv_icmp_ge (tgt := 191) hx hb dX11_isLawfulTo_70 rfl (fun c_26 => ?_) (fun c_26 => ?_)
            · have c_26 : ((m2 : Nat) : Int) ≤ ((k : Nat) : Int) := zc_le (nI_toInt b9_28) (nI_toInt b9_27) c_26
              refine lv_aload_n hx hb dX11_isLawfulTo_191 rfl (lv_at hl 1 rfl) ?_
              refine va_get (D := (dC, dI)) (ci := 9) (v := .ref (a 1)) (C := RX11) (T := TX11) (N := 55) hx hb hts inX11 hown hK hP 0 rfl rfl 1 (Nat.le_of_ble_eq_true rfl) (hts _ mw_1160) (fun _ h9 => h9) rfl dX11_isLawfulTo_192 ?_
              refine lv_iload_n hx hb dX11_isLawfulTo_195 rfl (lv_at hl 2 rfl) ?_
              have b9_29 : f < 201 := by omega
              refine z_iald hx hb hK hP 1 0 rfl rfl (e := f) rfl b9_29 (Nat.le_of_ble_eq_true rfl) dX11_isLawfulTo_196 ?_
              refine lv_if_ne (tgt := 209) hx hb dX11_isLawfulTo_197 rfl (fun c_30 => ?_) (fun c_30 => ?_)
              · have c_30 : ¬ (kd f).toInt = 0 := zc_ne rfl rfl c_30
                refine lv_iconst (v := 1) hx hb dX11_isLawfulTo_209 rfl ?_
                refine lv_goto (tgt := 214) hx hb dX11_isLawfulTo_210 rfl ?_
                obtain ⟨hP9, hD9⟩ := zq_sub (wc := [(om k0 a (upd I0 31 z9) J0), (oa (a 1) cI 201 kd), (oa (a 11) cI 201 mn), (oa (a 12) cI 8040 cx), (oa (a 13) cI 8040 cy), (oa (a 32) cI 8 S1), (oa (a 40) cI 6 T1), (oa (a 29) cI 42 P1), (oa (a 30) cI 42 Q1), (oa (a 33) cI 42 ox), (oa (a 34) cI 42 oy), (oa (a 37) cZ 201 mt), (oa (a 38) cZ 201 wi), (oa (a 39) cZ 8040 ins)]) hP hD [0, 1, 2, 3, 4, 5, 6, 7, 8, 9, 10, 11, 12, 13] rfl rfl
                rw [hQ9]
                exact W.zret (ty := .boolean) (v := 1) hx hb hr (rfl) (fun t ht hW => ⟨⟨congrArg (fun z => Outcome.returned (some (Value.int z))) (show (1 : Int32) = pI (lawTo (ox 0) (oy 0) (kd f).toInt n (cF40 cx f) (cF40 cy f) (kd g).toInt m2 (cF40 cx g) (cF40 cy g) MT WI IN (fun _ => False)) from (zp_t (by first | exact ⟨zp_ieq.mp (by first | with_reducible assumption | assumption), fun h => (by first | (exfalso; omega) | exact zp_ieq.mp (by first | with_reducible assumption | assumption)), fun j hj => hall j (by omega), fun h => (by first | (exfalso; omega) | assumption)⟩ | exact fun h => absurd (h.2.2.2 (by omega)) (by first | with_reducible assumption | assumption))).symm), z9, S1, T1, P1, Q1, by rw [ht]; exact hP9, hD9⟩, hS.F ht⟩) hS.2.2 dX11_isLawfulTo_214
              · have c_30 : (kd f).toInt = 0 := zc_eq rfl rfl c_30
                refine lv_aload_n hx hb dX11_isLawfulTo_200 rfl (lv_at hl 1 rfl) ?_
                refine lv_iload_n hx hb dX11_isLawfulTo_201 rfl (lv_at hl 2 rfl) ?_
                refine lv_iload_n hx hb dX11_isLawfulTo_202 rfl (lv_at hl 3 rfl) ?_
                obtain ⟨hPc, hDc, hFc⟩ := zc_sub (wc := [(om k0 a (upd I0 31 z9) J0), (oa (a 1) cI 201 kd), (oa (a 11) cI 201 mn), (oa (a 12) cI 8040 cx), (oa (a 13) cI 8040 cy), (oa (a 32) cI 8 S1), (oa (a 33) cI 42 ox), (oa (a 34) cI 42 oy)]) hP hD hS hA [0, 1, 2, 3, 4, 5, 9, 10] rfl rfl
                refine zcall (st1 := [.int (pI (∀ k, k < eO (kd g).toInt m2 → fWy (ox 0).toInt (oy 0).toInt (cx (40 * f)).toInt (cy (40 * f)).toInt m2 (cF40 cx g) (cF40 cy g) k))]) (va_runV (As := [.int (nI f), .int (nI g)]) (rest := []) ⟨hx, hb, hml, hown, hts⟩ (k_M_isFreeWay l dC dI cI cZ cF H.size k0 a (upd I0 31 z9) J0 f g m2 kd mn cx cy S1 ox oy (by first | with_reducible assumption | omega) ((hpo 0 (by first | with_reducible assumption | omega)).1) ((hpo 0 (by first | with_reducible assumption | omega)).2) ((hp_f 0 (by first | with_reducible assumption | omega)).1) ((hp_f 0 (by first | with_reducible assumption | omega)).2) (by first | with_reducible assumption | omega) (by first | with_reducible assumption | assumption) (by first | with_reducible assumption | omega) (by first | with_reducible assumption | assumption)) (csV_181 hts rfl rfl ⟨Nat.le_of_ble_eq_true rfl, Nat.le_of_ble_eq_true rfl⟩) (zPV2 (q0 := 0) (ci := 9) hPc hDc hK hXN rfl rfl) rfl rfl hl.1 rfl (lv_room (Nat.le_of_ble_eq_true rfl)) dX11_isLawfulTo_203 ⟨Nat.le_of_ble_eq_true rfl, Nat.le_of_ble_eq_true rfl⟩) hS hFc hFc rfl (fun t H locs ht hB hk1 hS => ?_)
                obtain ⟨q_31, hP1, hD1⟩ := hB
                rw [ht] at hP1
                obtain ⟨hP, hD⟩ := zk (W2 := [(om k0 a (upd I0 31 z9) J0), (oa (a 1) cI 201 kd), (oa (a 11) cI 201 mn), (oa (a 12) cI 8040 cx), (oa (a 13) cI 8040 cy), (oa (a 32) cI 8 q_31), (oa (a 40) cI 6 T1), (oa (a 29) cI 42 P1), (oa (a 30) cI 42 Q1), (oa (a 33) cI 42 ox), (oa (a 34) cI 42 oy), (oa (a 37) cZ 201 mt), (oa (a 38) cZ 201 wi), (oa (a 39) cZ 8040 ins)]) hP hD [0, 1, 2, 3, 4, 5, 9, 10] [6, 7, 8, 11, 12, 13] [6, 7, 8, 11, 12, 13] [0, 1, 2, 3, 4, 5, 9, 10] [6, 7, 8, 9, 10, 11, 0, 1, 2, 12, 13, 3, 4, 5] 14 rfl rfl rfl rfl rfl rfl rfl rfl rfl hk1 hFc hP1 hD1
                clear hk1 hPc hDc hFc hP1 hD1 ht
                refine zz_i (v := pI (∀ k, k < eO (kd g).toInt m2 → fWy (ox 0).toInt (oy 0).toInt (cF40 cx f 0).toInt (cF40 cy f 0).toInt m2 (cF40 cx g) (cF40 cy g) k)) (rfl) ?_
                refine lv_if_eq (tgt := 213) hx hb dX11_isLawfulTo_206 rfl (fun c_32 => ?_) (fun c_32 => ?_)
                · have c_32 : ¬ (∀ k, k < eO (kd g).toInt m2 → fWy (ox 0).toInt (oy 0).toInt (cF40 cx f 0).toInt (cF40 cy f 0).toInt m2 (cF40 cx g) (cF40 cy g) k) := zp_0 c_32
                  refine lv_iconst (v := 0) hx hb dX11_isLawfulTo_213 rfl ?_
                  obtain ⟨hP9, hD9⟩ := zq_sub (wc := [(om k0 a (upd I0 31 z9) J0), (oa (a 1) cI 201 kd), (oa (a 11) cI 201 mn), (oa (a 12) cI 8040 cx), (oa (a 13) cI 8040 cy), (oa (a 32) cI 8 q_31), (oa (a 40) cI 6 T1), (oa (a 29) cI 42 P1), (oa (a 30) cI 42 Q1), (oa (a 33) cI 42 ox), (oa (a 34) cI 42 oy), (oa (a 37) cZ 201 mt), (oa (a 38) cZ 201 wi), (oa (a 39) cZ 8040 ins)]) hP hD [0, 1, 2, 3, 4, 5, 6, 7, 8, 9, 10, 11, 12, 13] rfl rfl
                  rw [hQ9]
                  exact W.zret (ty := .boolean) (v := 0) hx hb hr (rfl) (fun t ht hW => ⟨⟨congrArg (fun z => Outcome.returned (some (Value.int z))) (show (0 : Int32) = pI (lawTo (ox 0) (oy 0) (kd f).toInt n (cF40 cx f) (cF40 cy f) (kd g).toInt m2 (cF40 cx g) (cF40 cy g) MT WI IN (fun _ => False)) from (zp_f (by first | exact ⟨zp_ieq.mp (by first | with_reducible assumption | assumption), fun h => (by first | (exfalso; omega) | exact zp_ieq.mp (by first | with_reducible assumption | assumption)), fun j hj => hall j (by omega), fun h => (by first | (exfalso; omega) | assumption)⟩ | exact fun h => absurd (h.2.2.2 (by omega)) (by first | with_reducible assumption | assumption))).symm), z9, q_31, T1, P1, Q1, by rw [ht]; exact hP9, hD9⟩, hS.F ht⟩) hS.2.2 dX11_isLawfulTo_214
                · have c_32 : ∀ k, k < eO (kd g).toInt m2 → fWy (ox 0).toInt (oy 0).toInt (cF40 cx f 0).toInt (cF40 cy f 0).toInt m2 (cF40 cx g) (cF40 cy g) k := zp_1 c_32
                  refine lv_iconst (v := 1) hx hb dX11_isLawfulTo_209 rfl ?_
                  refine lv_goto (tgt := 214) hx hb dX11_isLawfulTo_210 rfl ?_
                  obtain ⟨hP9, hD9⟩ := zq_sub (wc := [(om k0 a (upd I0 31 z9) J0), (oa (a 1) cI 201 kd), (oa (a 11) cI 201 mn), (oa (a 12) cI 8040 cx), (oa (a 13) cI 8040 cy), (oa (a 32) cI 8 q_31), (oa (a 40) cI 6 T1), (oa (a 29) cI 42 P1), (oa (a 30) cI 42 Q1), (oa (a 33) cI 42 ox), (oa (a 34) cI 42 oy), (oa (a 37) cZ 201 mt), (oa (a 38) cZ 201 wi), (oa (a 39) cZ 8040 ins)]) hP hD [0, 1, 2, 3, 4, 5, 6, 7, 8, 9, 10, 11, 12, 13] rfl rfl
                  rw [hQ9]
                  exact W.zret (ty := .boolean) (v := 1) hx hb hr (rfl) (fun t ht hW => ⟨⟨congrArg (fun z => Outcome.returned (some (Value.int z))) (show (1 : Int32) = pI (lawTo (ox 0) (oy 0) (kd f).toInt n (cF40 cx f) (cF40 cy f) (kd g).toInt m2 (cF40 cx g) (cF40 cy g) MT WI IN (fun _ => False)) from (zp_t (by first | exact ⟨zp_ieq.mp (by first | with_reducible assumption | assumption), fun h => (by first | (exfalso; omega) | exact zp_ieq.mp (by first | with_reducible assumption | assumption)), fun j hj => hall j (by omega), fun h => (by first | (exfalso; omega) | assumption)⟩ | exact fun h => absurd (h.2.2.2 (by omega)) (by first | with_reducible assumption | assumption))).symm), z9, q_31, T1, P1, Q1, by rw [ht]; exact hP9, hD9⟩, hS.F ht⟩) hS.2.2 dX11_isLawfulTo_214
            · have c_26 : ((k : Nat) : Int) < ((m2 : Nat) : Int) := zc_nle (nI_toInt b9_28) (nI_toInt b9_27) c_26
              have hk9 : k < m2 := (by omega)
              refine lv_aload_n hx hb dX11_isLawfulTo_73 rfl (lv_at hl 1 rfl) ?_
              refine va_get (D := (dC, dI)) (ci := 9) (v := .ref (a 12)) (C := RX11) (T := TX11) (N := 55) hx hb hts inX11 hown hK hP 0 rfl rfl 12 (Nat.le_of_ble_eq_true rfl) (hts _ mw_1171) (fun _ h9 => h9) rfl dX11_isLawfulTo_74 ?_
              refine lv_bipush (v := 40) hx hb dX11_isLawfulTo_77 rfl ?_
              refine lv_iload_n hx hb dX11_isLawfulTo_79 rfl (lv_at hl 3 rfl) ?_
              refine lv_imul hx hb dX11_isLawfulTo_80 ?_
              refine zz_i (v := nI (40 * g)) (pk_mul 40 g) ?_
              refine lv_iload hx hb dX11_isLawfulTo_81 (lv_at hl 0 rfl) ?_
              refine lv_iadd hx hb dX11_isLawfulTo_83 ?_
              refine zz_i (v := nI (40 * g + k)) (nI_add (40 * g) k) ?_
              have b9_33 : 40 * g + k < 8040 := by omega
              refine z_iald hx hb hK hP 3 0 rfl rfl (e := 40 * g + k) rfl b9_33 (Nat.le_of_ble_eq_true rfl) dX11_isLawfulTo_84 ?_
              refine lv_istore (lv' := [(6, .int (cx (40 * g + k))), (5, .int (nI k)), (0, .ref k0), (1, .int (nI f)), (2, .int (nI g)), (3, .int 5), (4, .int (-1))]) hx hb dX11_isLawfulTo_85 hl (Nat.le_of_ble_eq_true rfl) rfl (fun ls hl => ?_)
              refine lv_aload_n hx hb dX11_isLawfulTo_87 rfl (lv_at hl 2 rfl) ?_
              refine va_get (D := (dC, dI)) (ci := 9) (v := .ref (a 13)) (C := RX11) (T := TX11) (N := 55) hx hb hts inX11 hown hK hP 0 rfl rfl 13 (Nat.le_of_ble_eq_true rfl) (hts _ mw_1172) (fun _ h9 => h9) rfl dX11_isLawfulTo_88 ?_
              refine lv_bipush (v := 40) hx hb dX11_isLawfulTo_91 rfl ?_
              refine lv_iload_n hx hb dX11_isLawfulTo_93 rfl (lv_at hl 4 rfl) ?_
              refine lv_imul hx hb dX11_isLawfulTo_94 ?_
              refine zz_i (v := nI (40 * g)) (pk_mul 40 g) ?_
              refine lv_iload hx hb dX11_isLawfulTo_95 (lv_at hl 1 rfl) ?_
              refine lv_iadd hx hb dX11_isLawfulTo_97 ?_
              refine zz_i (v := nI (40 * g + k)) (nI_add (40 * g) k) ?_
              refine z_iald hx hb hK hP 4 0 rfl rfl (e := 40 * g + k) rfl b9_33 (Nat.le_of_ble_eq_true rfl) dX11_isLawfulTo_98 ?_
              refine lv_istore (lv' := [(7, .int (cy (40 * g + k))), (6, .int (cx (40 * g + k))), (5, .int (nI k)), (0, .ref k0), (1, .int (nI f)), (2, .int (nI g)), (3, .int 5), (4, .int (-1))]) hx hb dX11_isLawfulTo_99 hl (Nat.le_of_ble_eq_true rfl) rfl (fun ls hl => ?_)
              refine lv_aload_n hx hb dX11_isLawfulTo_101 rfl (lv_at hl 3 rfl) ?_
              refine lv_iload_n hx hb dX11_isLawfulTo_102 rfl (lv_at hl 4 rfl) ?_
              obtain ⟨hPc, hDc, hFc⟩ := zc_sub (wc := [(om k0 a (upd I0 31 z9) J0), (oa (a 1) cI 201 kd)]) hP hD hS hA [0, 1] rfl rfl
              refine zcall (st1 := [.int (pI (5 ≤ (kd f).toInt))]) (va_runV (As := [.int (nI f)]) (rest := []) ⟨hx, hb, hml, hown, hts⟩ (k_M_isRing l dC dI cI cZ cF H.size k0 a (upd I0 31 z9) J0 f kd (by first | with_reducible assumption | omega)) (csV_165 hts rfl rfl ⟨Nat.le_of_ble_eq_true rfl, Nat.le_of_ble_eq_true rfl⟩) (zPV2 (q0 := 0) (ci := 9) hPc hDc hK hXN rfl rfl) rfl rfl hl.1 rfl (lv_room (Nat.le_of_ble_eq_true rfl)) dX11_isLawfulTo_103 ⟨Nat.le_of_ble_eq_true rfl, Nat.le_of_ble_eq_true rfl⟩) hS hFc hFc rfl (fun t H locs ht hB hk1 hS => ?_)
              obtain ⟨hP1, hD1⟩ := hB
              rw [ht] at hP1
              obtain ⟨hP, hD⟩ := zk (W2 := [(om k0 a (upd I0 31 z9) J0), (oa (a 1) cI 201 kd), (oa (a 11) cI 201 mn), (oa (a 12) cI 8040 cx), (oa (a 13) cI 8040 cy), (oa (a 32) cI 8 S1), (oa (a 40) cI 6 T1), (oa (a 29) cI 42 P1), (oa (a 30) cI 42 Q1), (oa (a 33) cI 42 ox), (oa (a 34) cI 42 oy), (oa (a 37) cZ 201 mt), (oa (a 38) cZ 201 wi), (oa (a 39) cZ 8040 ins)]) hP hD [0, 1] [2, 3, 4, 5, 6, 7, 8, 9, 10, 11, 12, 13] [2, 3, 4, 5, 6, 7, 8, 9, 10, 11, 12, 13] [0, 1] [12, 13, 0, 1, 2, 3, 4, 5, 6, 7, 8, 9, 10, 11] 14 rfl rfl rfl rfl rfl rfl rfl rfl rfl hk1 hFc hP1 hD1
              clear hk1 hPc hDc hFc hP1 hD1 ht
              refine lv_if_eq (tgt := 135) hx hb dX11_isLawfulTo_106 rfl (fun c_34 => ?_) (fun c_34 => ?_)
              · have c_34 : ¬ (5 ≤ (kd f).toInt) := zp_0 c_34
                refine lv_aload_n hx hb dX11_isLawfulTo_135 rfl (lv_at hl 3 rfl) ?_
                refine va_get (D := (dC, dI)) (ci := 9) (v := .ref (a 1)) (C := RX11) (T := TX11) (N := 55) hx hb hts inX11 hown hK hP 0 rfl rfl 1 (Nat.le_of_ble_eq_true rfl) (hts _ mw_1160) (fun _ h9 => h9) rfl dX11_isLawfulTo_136 ?_
                refine lv_iload_n hx hb dX11_isLawfulTo_139 rfl (lv_at hl 4 rfl) ?_
                have b9_35 : f < 201 := by omega
                refine z_iald hx hb hK hP 1 0 rfl rfl (e := f) rfl b9_35 (Nat.le_of_ble_eq_true rfl) dX11_isLawfulTo_140 ?_
                refine lv_if_eq (tgt := 185) hx hb dX11_isLawfulTo_141 rfl (fun c_36 => ?_) (fun c_36 => ?_)
                · have c_36 : (kd f).toInt = 0 := zc_eq rfl rfl c_36
                  refine lv_iinc (v := nI (k + 1)) (lv' := [(5, .int (nI (k + 1))), (7, .int (cy (40 * g + k))), (6, .int (cx (40 * g + k))), (0, .ref k0), (1, .int (nI f)), (2, .int (nI g)), (3, .int 5), (4, .int (-1))]) hx hb dX11_isLawfulTo_185 hl (k := 2) rfl (nI_add k 1) (Nat.le_of_ble_eq_true rfl) rfl (fun ls hl => ?_)
                  refine lv_goto (tgt := 62) hx hb dX11_isLawfulTo_188 rfl ?_
                  exact ih_62 (k + 1) z9 S1 T1 P1 Q1 H locs ls (by first | with_reducible assumption | omega) (by first | with_reducible assumption | omega) (by intro j hj; rcases Nat.lt_or_ge j k with h | h; exact hall j h; obtain rfl : j = k := (by first | with_reducible assumption | omega); exact ⟨fun h5 => (by first | (exfalso; omega) | exact zp_ieq.mp (by first | with_reducible assumption | assumption)), fun h0 => (by first | (exfalso; omega) | exact id | assumption)⟩) hP hD hS (lv_sub hl [0, 3, 4, 5, 6, 7] rfl)
                · have c_36 : ¬ (kd f).toInt = 0 := zc_ne rfl rfl c_36
                  refine lv_iload_n hx hb dX11_isLawfulTo_144 rfl (lv_at hl 6 rfl) ?_
                  refine lv_iconst (v := 5) hx hb dX11_isLawfulTo_145 rfl ?_
                  refine lv_icmp_eq (tgt := 185) hx hb dX11_isLawfulTo_146 rfl (fun c_37 => ?_) (fun c_37 => ?_)
                  · refine lv_iinc (v := nI (k + 1)) (lv' := [(5, .int (nI (k + 1))), (7, .int (cy (40 * g + k))), (6, .int (cx (40 * g + k))), (0, .ref k0), (1, .int (nI f)), (2, .int (nI g)), (3, .int 5), (4, .int (-1))]) hx hb dX11_isLawfulTo_185 hl (k := 2) rfl (nI_add k 1) (Nat.le_of_ble_eq_true rfl) rfl (fun ls hl => ?_)
                    refine lv_goto (tgt := 62) hx hb dX11_isLawfulTo_188 rfl ?_
                    exact ih_62 (k + 1) z9 S1 T1 P1 Q1 H locs ls (by first | with_reducible assumption | omega) (by first | with_reducible assumption | omega) (by intro j hj; rcases Nat.lt_or_ge j k with h | h; exact hall j h; obtain rfl : j = k := (by first | with_reducible assumption | omega); exact ⟨fun h5 => (by first | (exfalso; omega) | exact zp_ieq.mp (by first | with_reducible assumption | assumption)), fun h0 => (by first | (exfalso; omega) | exact id | assumption)⟩) hP hD hS (lv_sub hl [0, 3, 4, 5, 6, 7] rfl)
                  · exact absurd (by decide) c_37
              · have c_34 : 5 ≤ (kd f).toInt := zp_1 c_34
                refine lv_aload_n hx hb dX11_isLawfulTo_109 rfl (lv_at hl 3 rfl) ?_
                refine lv_iload_n hx hb dX11_isLawfulTo_110 rfl (lv_at hl 4 rfl) ?_
                refine lv_iload hx hb dX11_isLawfulTo_111 (lv_at hl 1 rfl) ?_
                refine lv_iload hx hb dX11_isLawfulTo_113 (lv_at hl 0 rfl) ?_
                obtain ⟨hPc, hDc, hFc⟩ := zc_sub (wc := [(om k0 a (upd I0 31 z9) J0), (oa (a 1) cI 201 kd), (oa (a 11) cI 201 mn), (oa (a 12) cI 8040 cx), (oa (a 13) cI 8040 cy), (oa (a 32) cI 8 S1)]) hP hD hS hA [0, 1, 2, 3, 4, 5] rfl rfl
                refine zcall (st1 := [.int (pI (¬ (∃ i, i < eO (kd f).toInt n ∧ eOn n (cF40 cx f) (cF40 cy f) i (cx (40 * g + k)).toInt (cy (40 * g + k)).toInt) ∧ par2 (eTg n (cF40 cx f) (cF40 cy f) (cx (40 * g + k)).toInt (cy (40 * g + k)).toInt) (eO (kd f).toInt n)))]) (va_runV (As := [.int (nI f), .int (cx (40 * g + k)), .int (cy (40 * g + k))]) (rest := []) ⟨hx, hb, hml, hown, hts⟩ (k_M_isInside l dC dI cI cZ cF H.size k0 a (upd I0 31 z9) J0 f n kd mn cx cy S1 (cx (40 * g + k)) (cy (40 * g + k)) (by first | with_reducible assumption | omega) (by first | with_reducible assumption | assumption) (by first | with_reducible assumption | omega) (by first | with_reducible assumption | assumption) ((hp_g k hk9).1) ((hp_g k hk9).2)) (csV_183 hts rfl rfl ⟨Nat.le_of_ble_eq_true rfl, Nat.le_of_ble_eq_true rfl⟩) (zPV2 (q0 := 0) (ci := 9) hPc hDc hK hXN rfl rfl) rfl rfl hl.1 rfl (lv_room (Nat.le_of_ble_eq_true rfl)) dX11_isLawfulTo_115 ⟨Nat.le_of_ble_eq_true rfl, Nat.le_of_ble_eq_true rfl⟩) hS hFc hFc rfl (fun t H locs ht hB hk1 hS => ?_)
                obtain ⟨q_38, hP1, hD1⟩ := hB
                rw [ht] at hP1
                obtain ⟨hP, hD⟩ := zk (W2 := [(om k0 a (upd I0 31 z9) J0), (oa (a 1) cI 201 kd), (oa (a 11) cI 201 mn), (oa (a 12) cI 8040 cx), (oa (a 13) cI 8040 cy), (oa (a 32) cI 8 q_38), (oa (a 40) cI 6 T1), (oa (a 29) cI 42 P1), (oa (a 30) cI 42 Q1), (oa (a 33) cI 42 ox), (oa (a 34) cI 42 oy), (oa (a 37) cZ 201 mt), (oa (a 38) cZ 201 wi), (oa (a 39) cZ 8040 ins)]) hP hD [0, 1, 2, 3, 4, 5] [6, 7, 8, 9, 10, 11, 12, 13] [6, 7, 8, 9, 10, 11, 12, 13] [0, 1, 2, 3, 4, 5] [8, 9, 10, 11, 12, 13, 0, 1, 2, 3, 4, 5, 6, 7] 14 rfl rfl rfl rfl rfl rfl rfl rfl rfl hk1 hFc hP1 hD1
                clear hk1 hPc hDc hFc hP1 hD1 ht
                refine zz_i (v := pI (inF (kd f).toInt n (cF40 cx f) (cF40 cy f) (cF40 cx g k).toInt (cF40 cy g k).toInt)) (rfl) ?_
                refine lv_aload_n hx hb dX11_isLawfulTo_118 rfl (lv_at hl 3 rfl) ?_
                refine va_get (D := (dC, dI)) (ci := 9) (v := .ref (a 39)) (C := RX11) (T := TX11) (N := 55) hx hb hts inX11 hown hK hP 0 rfl rfl 39 (Nat.le_of_ble_eq_true rfl) (hts _ mw_1198) (fun _ h9 => h9) rfl dX11_isLawfulTo_119 ?_
                refine lv_bipush (v := 40) hx hb dX11_isLawfulTo_122 rfl ?_
                refine lv_iload_n hx hb dX11_isLawfulTo_124 rfl (lv_at hl 5 rfl) ?_
                refine lv_imul hx hb dX11_isLawfulTo_125 ?_
                refine zz_i (v := nI (40 * g)) (pk_mul 40 g) ?_
                refine lv_iload hx hb dX11_isLawfulTo_126 (lv_at hl 2 rfl) ?_
                refine lv_iadd hx hb dX11_isLawfulTo_128 ?_
                refine zz_i (v := nI (40 * g + k)) (nI_add (40 * g) k) ?_
                have b9_39 : 40 * g + k < 8040 := by omega
                refine z_zald hx hb hK hP 13 1 rfl rfl (e := 40 * g + k) rfl b9_39 (Nat.le_of_ble_eq_true rfl) dX11_isLawfulTo_129 ?_
                refine zz_i (v := pI (IN k)) (hin k (by omega) (by omega)) ?_
                refine lv_icmp_eq (tgt := 135) hx hb dX11_isLawfulTo_130 rfl (fun c_40 => ?_) (fun c_40 => ?_)
                · have c_40 : (pI (inF (kd f).toInt n (cF40 cx f) (cF40 cy f) (cF40 cx g k).toInt (cF40 cy g k).toInt)).toInt = (pI (IN k)).toInt := zc_eq rfl rfl c_40
                  refine lv_aload_n hx hb dX11_isLawfulTo_135 rfl (lv_at hl 3 rfl) ?_
                  refine va_get (D := (dC, dI)) (ci := 9) (v := .ref (a 1)) (C := RX11) (T := TX11) (N := 55) hx hb hts inX11 hown hK hP 0 rfl rfl 1 (Nat.le_of_ble_eq_true rfl) (hts _ mw_1160) (fun _ h9 => h9) rfl dX11_isLawfulTo_136 ?_
                  refine lv_iload_n hx hb dX11_isLawfulTo_139 rfl (lv_at hl 4 rfl) ?_
                  have b9_41 : f < 201 := by omega
                  refine z_iald hx hb hK hP 1 0 rfl rfl (e := f) rfl b9_41 (Nat.le_of_ble_eq_true rfl) dX11_isLawfulTo_140 ?_
                  refine lv_if_eq (tgt := 185) hx hb dX11_isLawfulTo_141 rfl (fun c_42 => ?_) (fun c_42 => ?_)
                  · have c_42 : (kd f).toInt = 0 := zc_eq rfl rfl c_42
                    refine lv_iinc (v := nI (k + 1)) (lv' := [(5, .int (nI (k + 1))), (7, .int (cy (40 * g + k))), (6, .int (cx (40 * g + k))), (0, .ref k0), (1, .int (nI f)), (2, .int (nI g)), (3, .int 5), (4, .int (-1))]) hx hb dX11_isLawfulTo_185 hl (k := 2) rfl (nI_add k 1) (Nat.le_of_ble_eq_true rfl) rfl (fun ls hl => ?_)
                    refine lv_goto (tgt := 62) hx hb dX11_isLawfulTo_188 rfl ?_
                    exact ih_62 (k + 1) z9 q_38 T1 P1 Q1 H locs ls (by first | with_reducible assumption | omega) (by first | with_reducible assumption | omega) (by intro j hj; rcases Nat.lt_or_ge j k with h | h; exact hall j h; obtain rfl : j = k := (by first | with_reducible assumption | omega); exact ⟨fun h5 => (by first | (exfalso; omega) | exact zp_ieq.mp (by first | with_reducible assumption | assumption)), fun h0 => (by first | (exfalso; omega) | exact id | assumption)⟩) hP hD hS (lv_sub hl [0, 3, 4, 5, 6, 7] rfl)
                  · have c_42 : ¬ (kd f).toInt = 0 := zc_ne rfl rfl c_42
                    refine lv_iload_n hx hb dX11_isLawfulTo_144 rfl (lv_at hl 6 rfl) ?_
                    refine lv_iconst (v := 5) hx hb dX11_isLawfulTo_145 rfl ?_
                    refine lv_icmp_eq (tgt := 185) hx hb dX11_isLawfulTo_146 rfl (fun c_43 => ?_) (fun c_43 => ?_)
                    · refine lv_iinc (v := nI (k + 1)) (lv' := [(5, .int (nI (k + 1))), (7, .int (cy (40 * g + k))), (6, .int (cx (40 * g + k))), (0, .ref k0), (1, .int (nI f)), (2, .int (nI g)), (3, .int 5), (4, .int (-1))]) hx hb dX11_isLawfulTo_185 hl (k := 2) rfl (nI_add k 1) (Nat.le_of_ble_eq_true rfl) rfl (fun ls hl => ?_)
                      refine lv_goto (tgt := 62) hx hb dX11_isLawfulTo_188 rfl ?_
                      exact ih_62 (k + 1) z9 q_38 T1 P1 Q1 H locs ls (by first | with_reducible assumption | omega) (by first | with_reducible assumption | omega) (by intro j hj; rcases Nat.lt_or_ge j k with h | h; exact hall j h; obtain rfl : j = k := (by first | with_reducible assumption | omega); exact ⟨fun h5 => (by first | (exfalso; omega) | exact zp_ieq.mp (by first | with_reducible assumption | assumption)), fun h0 => (by first | (exfalso; omega) | exact id | assumption)⟩) hP hD hS (lv_sub hl [0, 3, 4, 5, 6, 7] rfl)
                    · exact absurd (by decide) c_43
                · have c_40 : ¬ (pI (inF (kd f).toInt n (cF40 cx f) (cF40 cy f) (cF40 cx g k).toInt (cF40 cy g k).toInt)).toInt = (pI (IN k)).toInt := zc_ne rfl rfl c_40
                  refine lv_iconst (v := 0) hx hb dX11_isLawfulTo_133 rfl ?_
                  obtain ⟨hP9, hD9⟩ := zq_sub (wc := [(om k0 a (upd I0 31 z9) J0), (oa (a 1) cI 201 kd), (oa (a 11) cI 201 mn), (oa (a 12) cI 8040 cx), (oa (a 13) cI 8040 cy), (oa (a 32) cI 8 q_38), (oa (a 40) cI 6 T1), (oa (a 29) cI 42 P1), (oa (a 30) cI 42 Q1), (oa (a 33) cI 42 ox), (oa (a 34) cI 42 oy), (oa (a 37) cZ 201 mt), (oa (a 38) cZ 201 wi), (oa (a 39) cZ 8040 ins)]) hP hD [0, 1, 2, 3, 4, 5, 6, 7, 8, 9, 10, 11, 12, 13] rfl rfl
                  rw [hQ9]
                  exact W.zret (ty := .boolean) (v := 0) hx hb hr (rfl) (fun t ht hW => ⟨⟨congrArg (fun z => Outcome.returned (some (Value.int z))) (show (0 : Int32) = pI (lawTo (ox 0) (oy 0) (kd f).toInt n (cF40 cx f) (cF40 cy f) (kd g).toInt m2 (cF40 cx g) (cF40 cy g) MT WI IN (fun _ => False)) from (zp_f (fun h => absurd (zp_ieq.mpr ((h.2.2.1 k (by omega)).1 (by omega))) (by first | with_reducible assumption | assumption))).symm), z9, q_38, T1, P1, Q1, by rw [ht]; exact hP9, hD9⟩, hS.F ht⟩) hS.2.2 dX11_isLawfulTo_134
        exact hl_62 _ 0 (I0 31) q_24 T0 P0 Q0 H locs ls (Nat.lt_succ_self _) (by first | with_reducible assumption | omega) (by intro j hj; omega) hP hD hS (lv_sub hl [0, 1, 2, 3, 4, 5] rfl)
      · have c_25 : ¬ (pI (inF (kd g).toInt m2 (cF40 cx g) (cF40 cy g) (cF40 cx f 0).toInt (cF40 cy f 0).toInt)).toInt = (pI WI).toInt := zc_ne rfl rfl c_25
        refine lv_iconst (v := 0) hx hb dX11_isLawfulTo_57 rfl ?_
        obtain ⟨hP9, hD9⟩ := zq_sub (wc := [(om k0 a I0 J0), (oa (a 1) cI 201 kd), (oa (a 11) cI 201 mn), (oa (a 12) cI 8040 cx), (oa (a 13) cI 8040 cy), (oa (a 32) cI 8 q_24), (oa (a 40) cI 6 T0), (oa (a 29) cI 42 P0), (oa (a 30) cI 42 Q0), (oa (a 33) cI 42 ox), (oa (a 34) cI 42 oy), (oa (a 37) cZ 201 mt), (oa (a 38) cZ 201 wi), (oa (a 39) cZ 8040 ins)]) hP hD [0, 1, 2, 3, 4, 5, 6, 7, 8, 9, 10, 11, 12, 13] rfl rfl
        rw [hQ9]
        exact W.zret (ty := .boolean) (v := 0) hx hb hr (rfl) (fun t ht hW => ⟨⟨congrArg (fun z => Outcome.returned (some (Value.int z))) (show (0 : Int32) = pI (lawTo (ox 0) (oy 0) (kd f).toInt n (cF40 cx f) (cF40 cy f) (kd g).toInt m2 (cF40 cx g) (cF40 cy g) MT WI IN (fun _ => False)) from (zp_f (fun h => absurd (zp_ieq.mpr (h.2.1 (by omega))) (by first | with_reducible assumption | assumption))).symm), (I0 31), q_24, T0, P0, Q0, by rw [ht]; exact hP9, hD9⟩, hS.F ht⟩) hS.2.2 dX11_isLawfulTo_58
  · have c_3 : ¬ (pI (mtF (kd f).toInt n (cF40 cx f) (cF40 cy f) (kd g).toInt m2 (cF40 cx g) (cF40 cy g))).toInt = (pI MT).toInt := zc_ne rfl rfl c_3
    refine lv_iconst (v := 0) hx hb dX11_isLawfulTo_15 rfl ?_
    obtain ⟨hP9, hD9⟩ := zq_sub (wc := [(om k0 a I0 J0), (oa (a 1) cI 201 kd), (oa (a 11) cI 201 mn), (oa (a 12) cI 8040 cx), (oa (a 13) cI 8040 cy), (oa (a 32) cI 8 q_1), (oa (a 40) cI 6 T0), (oa (a 29) cI 42 P0), (oa (a 30) cI 42 Q0), (oa (a 33) cI 42 ox), (oa (a 34) cI 42 oy), (oa (a 37) cZ 201 mt), (oa (a 38) cZ 201 wi), (oa (a 39) cZ 8040 ins)]) hP hD [0, 1, 2, 3, 4, 5, 6, 7, 8, 9, 10, 11, 12, 13] rfl rfl
    rw [hQ9]
    exact W.zret (ty := .boolean) (v := 0) hx hb hr (rfl) (fun t ht hW => ⟨⟨congrArg (fun z => Outcome.returned (some (Value.int z))) (show (0 : Int32) = pI (lawTo (ox 0) (oy 0) (kd f).toInt n (cF40 cx f) (cF40 cy f) (kd g).toInt m2 (cF40 cx g) (cF40 cy g) MT WI IN (fun _ => False)) from (zp_f (fun h => absurd (zp_ieq.mpr h.1) (by first | with_reducible assumption | assumption))).symm), (I0 31), q_1, T0, P0, Q0, by rw [ht]; exact hP9, hD9⟩, hS.F ht⟩) hS.2.2 dX11_isLawfulTo_16
set_option maxHeartbeats 4000000 in
set_option maxRecDepth 100000 in
theorem k_M_isLawfulTo_m (l : Launch) (dC : Nat → ClassId) (dI : Nat → Nat → Nat) (cI cZ cF : ClassId) (sz : Nat) (k0 : Nat) (a : Nat → Nat) (I0 : Nat → Int32) (J0 : Nat → Int64) (f : Nat) (n : Nat) (g : Nat) (m2 : Nat) (on : Nat) (h : Nat) (kd : Nat → Int32) (mn : Nat → Int32) (cx : Nat → Int32) (cy : Nat → Int32) (S0 : Nat → Int32) (T0 : Nat → Int32) (P0 : Nat → Int32) (Q0 : Nat → Int32) (ox : Nat → Int32) (oy : Nat → Int32) (mt : Nat → Int32) (wi : Nat → Int32) (ins : Nat → Int32) (MT : Prop) (WI : Prop) (IN : Nat → Prop) (hf_f : f ≤ 200) (hm_f : mn f = nI n) (hn_f : 1 ≤ n ∧ n ≤ 40) (hp_f : pls n (cF40 cx f) (cF40 cy f)) (hf_g : g ≤ 200) (hm_g : mn g = nI m2) (hn_g : 1 ≤ m2 ∧ m2 ≤ 40) (hp_g : pls m2 (cF40 cx g) (cF40 cy g)) (hon : I0 35 = nI on) (ho40 : on ≤ 40) (ho1 : 1 ≤ on) (hpo : pls on ox oy) (hmt : mt g = pI MT) (hwi : 5 ≤ (kd g).toInt → wi g = pI WI) (hin : ∀ k, k < m2 → 5 ≤ (kd f).toInt → ins (40 * g + k) = pI (IN k)) (hh : h < 5) (hon2 : n = on) : Met l yX11_isLawfulTo (.code yX11_isLawfulTo cX11_isLawfulTo 8 (some .boolean) :: ws0) ({ frames := 5, cells := 0, slots := 0, locals := 135 } : Room) (va_Pc [.ref k0, .int (nI f), .int (nI g), .int (nI h), .int (-1)] (zPre (dC, dI) classes (zTy cI cZ cF) [(om k0 a I0 J0), (oa (a 1) cI 201 kd), (oa (a 11) cI 201 mn), (oa (a 12) cI 8040 cx), (oa (a 13) cI 8040 cy), (oa (a 32) cI 8 S0), (oa (a 40) cI 6 T0), (oa (a 29) cI 42 P0), (oa (a 30) cI 42 Q0), (oa (a 33) cI 42 ox), (oa (a 34) cI 42 oy), (oa (a 37) cZ 201 mt), (oa (a 38) cZ 201 wi), (oa (a 39) cZ 8040 ins)] sz zXN)) (zQ (some (.int (pI (lawTo (ox 0) (oy 0) (kd f).toInt n (cF40 cx f) (cF40 cy f) (kd g).toInt m2 (cF40 cx g) (cF40 cy g) MT WI IN (fun k => ∃ e, e < eO (kd f).toInt on ∧ swp on ox oy (cF40 cx f) (cF40 cy f) (cF40 cx g k).toInt (cF40 cy g k).toInt e))))) (fun t => ∃ (z9 : Int32), ∃ (S1 : Nat → Int32), ∃ (T1 : Nat → Int32), ∃ (P1 : Nat → Int32), ∃ (Q1 : Nat → Int32), va_P (dC, dI) classes [(om k0 a (upd I0 31 z9) J0), (oa (a 1) cI 201 kd), (oa (a 11) cI 201 mn), (oa (a 12) cI 8040 cx), (oa (a 13) cI 8040 cy), (oa (a 32) cI 8 S1), (oa (a 40) cI 6 T1), (oa (a 29) cI 42 P1), (oa (a 30) cI 42 Q1), (oa (a 33) cI 42 ox), (oa (a 34) cI 42 oy), (oa (a 37) cZ 201 mt), (oa (a 38) cZ 201 wi), (oa (a 39) cZ 8040 ins)] t.heap ∧ va_D (va_A [(om k0 a I0 J0), (oa (a 1) cI 201 kd), (oa (a 11) cI 201 mn), (oa (a 12) cI 8040 cx), (oa (a 13) cI 8040 cy), (oa (a 32) cI 8 S0), (oa (a 40) cI 6 T0), (oa (a 29) cI 42 P0), (oa (a 30) cI 42 Q0), (oa (a 33) cI 42 ox), (oa (a 34) cI 42 oy), (oa (a 37) cZ 201 mt), (oa (a 38) cZ 201 wi), (oa (a 39) cZ 8040 ins)] sz) [(om k0 a (upd I0 31 z9) J0), (oa (a 1) cI 201 kd), (oa (a 11) cI 201 mn), (oa (a 12) cI 8040 cx), (oa (a 13) cI 8040 cy), (oa (a 32) cI 8 S1), (oa (a 40) cI 6 T1), (oa (a 29) cI 42 P1), (oa (a 30) cI 42 Q1), (oa (a 33) cI 42 ox), (oa (a 34) cI 42 oy), (oa (a 37) cZ 201 mt), (oa (a 38) cZ 201 wi), (oa (a 39) cZ 8040 ins)]) (va_A [(om k0 a I0 J0), (oa (a 1) cI 201 kd), (oa (a 11) cI 201 mn), (oa (a 12) cI 8040 cx), (oa (a 13) cI 8040 cy), (oa (a 32) cI 8 S0), (oa (a 40) cI 6 T0), (oa (a 29) cI 42 P0), (oa (a 30) cI 42 Q0), (oa (a 33) cI 42 ox), (oa (a 34) cI 42 oy), (oa (a 37) cZ 201 mt), (oa (a 38) cZ 201 wi), (oa (a 39) cZ 8040 ins)] sz)) 0 0 (va_A [(om k0 a I0 J0), (oa (a 1) cI 201 kd), (oa (a 11) cI 201 mn), (oa (a 12) cI 8040 cx), (oa (a 13) cI 8040 cy), (oa (a 32) cI 8 S0), (oa (a 40) cI 6 T0), (oa (a 29) cI 42 P0), (oa (a 30) cI 42 Q0), (oa (a 33) cI 42 ox), (oa (a 34) cI 42 oy), (oa (a 37) cZ 201 mt), (oa (a 38) cZ 201 wi), (oa (a 39) cZ 8040 ins)] sz) := by
  refine Met.ofW (cc := cX11_isLawfulTo) (maxL := 8) (ret := (some .boolean)) rfl rfl ?_
  intro p e s m args below meth c s₁ B hml hv
  obtain ⟨rfl, hsz, hP, hK, hD0, hXN⟩ := hv
  have hx := B.exec
  have hb := B.bytes
  have hr := B.returns
  have hts0 := atoms_spec (ws := .code yX11_isLawfulTo cX11_isLawfulTo 8 (some .boolean) :: ws0) B.pre
  have hts : ∀ w9 ∈ ws0, w9.before ([.ref k0, .int (nI f), .int (nI g), .int (nI h), .int (-1)] : List Value).toArray s = true := fun w9 h => hts0 w9 (List.mem_cons_of_mem _ h)
  have hown : s.vm.findClass "ScaleShopModel" = some m.cls := findClass_of_methodNamed B.named
  have hlocks := B.notSynchronized
  subst hsz
  have hD := hD0.self (sz := s.heap.size)
  clear hD0
  generalize hAe : va_A [(om k0 a I0 J0), (oa (a 1) cI 201 kd), (oa (a 11) cI 201 mn), (oa (a 12) cI 8040 cx), (oa (a 13) cI 8040 cy), (oa (a 32) cI 8 S0), (oa (a 40) cI 6 T0), (oa (a 29) cI 42 P0), (oa (a 30) cI 42 Q0), (oa (a 33) cI 42 ox), (oa (a 34) cI 42 oy), (oa (a 37) cZ 201 mt), (oa (a 38) cZ 201 wi), (oa (a 39) cZ 8040 ins)] s.heap.size = A at hD ⊢
  have hA : ∀ q : Nat, s.heap.size ≤ q → A q := fun q h => by rw [← hAe]; exact Or.inr h
  clear hAe
  have hS : va_S A s.heap s.heap [] := va_S.rf
  have hP : va_P (dC, dI) classes [(om k0 a I0 J0), (oa (a 1) cI 201 kd), (oa (a 11) cI 201 mn), (oa (a 12) cI 8040 cx), (oa (a 13) cI 8040 cy), (oa (a 32) cI 8 S0), (oa (a 40) cI 6 T0), (oa (a 29) cI 42 P0), (oa (a 30) cI 42 Q0), (oa (a 33) cI 42 ox), (oa (a 34) cI 42 oy), (oa (a 37) cZ 201 mt), (oa (a 38) cZ 201 wi), (oa (a 39) cZ 8040 ins)] s.heap := hP
  obtain ⟨Q9, hQ9⟩ : ∃ Q9 : State → Prop, Q9 = MQ below (zQ (some (.int (pI (lawTo (ox 0) (oy 0) (kd f).toInt n (cF40 cx f) (cF40 cy f) (kd g).toInt m2 (cF40 cx g) (cF40 cy g) MT WI IN (fun k => ∃ e, e < eO (kd f).toInt on ∧ swp on ox oy (cF40 cx f) (cF40 cy f) (cF40 cx g k).toInt (cF40 cy g k).toInt e))))) (fun t => ∃ (z9 : Int32), ∃ (S1 : Nat → Int32), ∃ (T1 : Nat → Int32), ∃ (P1 : Nat → Int32), ∃ (Q1 : Nat → Int32), va_P (dC, dI) classes [(om k0 a (upd I0 31 z9) J0), (oa (a 1) cI 201 kd), (oa (a 11) cI 201 mn), (oa (a 12) cI 8040 cx), (oa (a 13) cI 8040 cy), (oa (a 32) cI 8 S1), (oa (a 40) cI 6 T1), (oa (a 29) cI 42 P1), (oa (a 30) cI 42 Q1), (oa (a 33) cI 42 ox), (oa (a 34) cI 42 oy), (oa (a 37) cZ 201 mt), (oa (a 38) cZ 201 wi), (oa (a 39) cZ 8040 ins)] t.heap ∧ va_D A [(om k0 a (upd I0 31 z9) J0), (oa (a 1) cI 201 kd), (oa (a 11) cI 201 mn), (oa (a 12) cI 8040 cx), (oa (a 13) cI 8040 cy), (oa (a 32) cI 8 S1), (oa (a 40) cI 6 T1), (oa (a 29) cI 42 P1), (oa (a 30) cI 42 Q1), (oa (a 33) cI 42 ox), (oa (a 34) cI 42 oy), (oa (a 37) cZ 201 mt), (oa (a 38) cZ 201 wi), (oa (a 39) cZ 8040 ins)]) A) ([.ref k0, .int (nI f), .int (nI g), .int (nI h), .int (-1)] : List Value).toArray s 0 0 A := ⟨_, rfl⟩
  rw [← hQ9]
  have hl := lv_entry ([.ref k0, .int (nI f), .int (nI g), .int (nI h), .int (-1)]) (n := 8) (Nat.le_of_ble_eq_true rfl)
  rw [lg_entry_eq]
  generalize (lg_sl ([.ref k0, .int (nI f), .int (nI g), .int (nI h), .int (-1)]) ++ List.replicate (8 - (lg_sl ([.ref k0, .int (nI f), .int (nI g), .int (nI h), .int (-1)])).length) Slot.unset).toArray = ls at hl ⊢
  have hl : lv_has ls 8 [(0, .ref k0), (1, .int (nI f)), (2, .int (nI g)), (3, .int (nI h)), (4, .int (-1))] := hl
  refine lv_aload_n hx hb dX11_isLawfulTo_0 rfl (lv_at hl 0 rfl) ?_
  refine lv_iload_n hx hb dX11_isLawfulTo_1 rfl (lv_at hl 1 rfl) ?_
  refine lv_iload_n hx hb dX11_isLawfulTo_2 rfl (lv_at hl 2 rfl) ?_
  obtain ⟨hPc, hDc, hFc⟩ := zc_sub (wc := [(om k0 a I0 J0), (oa (a 1) cI 201 kd), (oa (a 11) cI 201 mn), (oa (a 12) cI 8040 cx), (oa (a 13) cI 8040 cy), (oa (a 32) cI 8 S0)]) hP hD hS hA [0, 1, 2, 3, 4, 5] rfl rfl
  refine zcall (st1 := [.int (pI (∃ i, i < eO (kd f).toInt n ∧ ∃ j, j < eO (kd g).toInt m2 ∧ eMt n (cF40 cx f) (cF40 cy f) i m2 (cF40 cx g) (cF40 cy g) j))]) (va_runV (As := [.int (nI f), .int (nI g)]) (rest := []) ⟨hx, hb, hml, hown, hts⟩ (k_M_isMet l dC dI cI cZ cF s.heap.size k0 a I0 J0 f n g m2 kd mn cx cy S0 (by first | with_reducible assumption | omega) (by first | with_reducible assumption | assumption) (by first | with_reducible assumption | omega) (by first | with_reducible assumption | assumption) (by first | with_reducible assumption | omega) (by first | with_reducible assumption | assumption) (by first | with_reducible assumption | omega) (by first | with_reducible assumption | assumption)) (csV_180 hts rfl rfl ⟨Nat.le_of_ble_eq_true rfl, Nat.le_of_ble_eq_true rfl⟩) (zPV2 (q0 := 0) (ci := 9) hPc hDc hK hXN rfl rfl) rfl rfl hl.1 rfl (lv_room (Nat.le_of_ble_eq_true rfl)) dX11_isLawfulTo_3 ⟨Nat.le_of_ble_eq_true rfl, Nat.le_of_ble_eq_true rfl⟩) hS hFc hFc rfl (fun t H locs ht hB hk1 hS => ?_)
  obtain ⟨q_1, hP1, hD1⟩ := hB
  rw [ht] at hP1
  obtain ⟨hP, hD⟩ := zk (W2 := [(om k0 a I0 J0), (oa (a 1) cI 201 kd), (oa (a 11) cI 201 mn), (oa (a 12) cI 8040 cx), (oa (a 13) cI 8040 cy), (oa (a 32) cI 8 q_1), (oa (a 40) cI 6 T0), (oa (a 29) cI 42 P0), (oa (a 30) cI 42 Q0), (oa (a 33) cI 42 ox), (oa (a 34) cI 42 oy), (oa (a 37) cZ 201 mt), (oa (a 38) cZ 201 wi), (oa (a 39) cZ 8040 ins)]) hP hD [0, 1, 2, 3, 4, 5] [6, 7, 8, 9, 10, 11, 12, 13] [6, 7, 8, 9, 10, 11, 12, 13] [0, 1, 2, 3, 4, 5] [8, 9, 10, 11, 12, 13, 0, 1, 2, 3, 4, 5, 6, 7] 14 rfl rfl rfl rfl rfl rfl rfl rfl rfl hk1 hFc hP1 hD1
  clear hk1 hPc hDc hFc hP1 hD1 ht
  refine zz_i (v := pI (mtF (kd f).toInt n (cF40 cx f) (cF40 cy f) (kd g).toInt m2 (cF40 cx g) (cF40 cy g))) (rfl) ?_
  refine lv_aload_n hx hb dX11_isLawfulTo_6 rfl (lv_at hl 0 rfl) ?_
  refine va_get (D := (dC, dI)) (ci := 9) (v := .ref (a 37)) (C := RX11) (T := TX11) (N := 55) hx hb hts inX11 hown hK hP 0 rfl rfl 37 (Nat.le_of_ble_eq_true rfl) (hts _ mw_1196) (fun _ h9 => h9) rfl dX11_isLawfulTo_7 ?_
  refine lv_iload_n hx hb dX11_isLawfulTo_10 rfl (lv_at hl 2 rfl) ?_
  have b9_2 : g < 201 := by omega
  refine z_zald hx hb hK hP 11 1 rfl rfl (e := g) rfl b9_2 (Nat.le_of_ble_eq_true rfl) dX11_isLawfulTo_11 ?_
  refine zz_i (v := pI MT) (hmt) ?_
  refine lv_icmp_eq (tgt := 17) hx hb dX11_isLawfulTo_12 rfl (fun c_3 => ?_) (fun c_3 => ?_)
  · have c_3 : (pI (mtF (kd f).toInt n (cF40 cx f) (cF40 cy f) (kd g).toInt m2 (cF40 cx g) (cF40 cy g))).toInt = (pI MT).toInt := zc_eq rfl rfl c_3
    refine lv_aload_n hx hb dX11_isLawfulTo_17 rfl (lv_at hl 0 rfl) ?_
    refine lv_iload_n hx hb dX11_isLawfulTo_18 rfl (lv_at hl 2 rfl) ?_
    obtain ⟨hPc, hDc, hFc⟩ := zc_sub (wc := [(om k0 a I0 J0), (oa (a 1) cI 201 kd)]) hP hD hS hA [0, 1] rfl rfl
    refine zcall (st1 := [.int (pI (5 ≤ (kd g).toInt))]) (va_runV (As := [.int (nI g)]) (rest := []) ⟨hx, hb, hml, hown, hts⟩ (k_M_isRing l dC dI cI cZ cF H.size k0 a I0 J0 g kd (by first | with_reducible assumption | omega)) (csV_165 hts rfl rfl ⟨Nat.le_of_ble_eq_true rfl, Nat.le_of_ble_eq_true rfl⟩) (zPV2 (q0 := 0) (ci := 9) hPc hDc hK hXN rfl rfl) rfl rfl hl.1 rfl (lv_room (Nat.le_of_ble_eq_true rfl)) dX11_isLawfulTo_19 ⟨Nat.le_of_ble_eq_true rfl, Nat.le_of_ble_eq_true rfl⟩) hS hFc hFc rfl (fun t H locs ht hB hk1 hS => ?_)
    obtain ⟨hP1, hD1⟩ := hB
    rw [ht] at hP1
    obtain ⟨hP, hD⟩ := zk (W2 := [(om k0 a I0 J0), (oa (a 1) cI 201 kd), (oa (a 11) cI 201 mn), (oa (a 12) cI 8040 cx), (oa (a 13) cI 8040 cy), (oa (a 32) cI 8 q_1), (oa (a 40) cI 6 T0), (oa (a 29) cI 42 P0), (oa (a 30) cI 42 Q0), (oa (a 33) cI 42 ox), (oa (a 34) cI 42 oy), (oa (a 37) cZ 201 mt), (oa (a 38) cZ 201 wi), (oa (a 39) cZ 8040 ins)]) hP hD [0, 1] [2, 3, 4, 5, 6, 7, 8, 9, 10, 11, 12, 13] [2, 3, 4, 5, 6, 7, 8, 9, 10, 11, 12, 13] [0, 1] [12, 13, 0, 1, 2, 3, 4, 5, 6, 7, 8, 9, 10, 11] 14 rfl rfl rfl rfl rfl rfl rfl rfl rfl hk1 hFc hP1 hD1
    clear hk1 hPc hDc hFc hP1 hD1 ht
    refine lv_if_eq (tgt := 59) hx hb dX11_isLawfulTo_22 rfl (fun c_4 => ?_) (fun c_4 => ?_)
    · have c_4 : ¬ (5 ≤ (kd g).toInt) := zp_0 c_4
      refine lv_iconst (v := 0) hx hb dX11_isLawfulTo_59 rfl ?_
      refine lv_istore (lv' := [(5, .int 0), (0, .ref k0), (1, .int (nI f)), (2, .int (nI g)), (3, .int (nI h)), (4, .int (-1))]) hx hb dX11_isLawfulTo_60 hl (Nat.le_of_ble_eq_true rfl) rfl (fun ls hl => ?_)
      have hl_62 : ∀ (n9 : Nat) (k : Nat) (z9 : Int32) (S1 : Nat → Int32) (T1 : Nat → Int32) (P1 : Nat → Int32) (Q1 : Nat → Int32) (H : Heap) (locs : List Loc) (ls : Array Slot), m2 - k < n9 → (k ≤ m2) → (∀ j, j < k → (5 ≤ (kd f).toInt → (inF (kd f).toInt n (cF40 cx f) (cF40 cy f) (cF40 cx g j).toInt (cF40 cy g j).toInt ↔ IN j)) ∧ (¬ (kd f).toInt = 0 → ¬ (fun k => ∃ e, e < eO (kd f).toInt on ∧ swp on ox oy (cF40 cx f) (cF40 cy f) (cF40 cx g k).toInt (cF40 cy g k).toInt e) j)) → va_P (dC, dI) classes [(om k0 a (upd I0 31 z9) J0), (oa (a 1) cI 201 kd), (oa (a 11) cI 201 mn), (oa (a 12) cI 8040 cx), (oa (a 13) cI 8040 cy), (oa (a 32) cI 8 S1), (oa (a 40) cI 6 T1), (oa (a 29) cI 42 P1), (oa (a 30) cI 42 Q1), (oa (a 33) cI 42 ox), (oa (a 34) cI 42 oy), (oa (a 37) cZ 201 mt), (oa (a 38) cZ 201 wi), (oa (a 39) cZ 8040 ins)] H → va_D A [(om k0 a (upd I0 31 z9) J0), (oa (a 1) cI 201 kd), (oa (a 11) cI 201 mn), (oa (a 12) cI 8040 cx), (oa (a 13) cI 8040 cy), (oa (a 32) cI 8 S1), (oa (a 40) cI 6 T1), (oa (a 29) cI 42 P1), (oa (a 30) cI 42 Q1), (oa (a 33) cI 42 ox), (oa (a 34) cI 42 oy), (oa (a 37) cZ 201 mt), (oa (a 38) cZ 201 wi), (oa (a 39) cZ 8040 ins)] → va_S A s.heap H locs → lv_has ls 8 [(5, .int (nI k)), (0, .ref k0), (1, .int (nI f)), (2, .int (nI g)), (3, .int (nI h)), (4, .int (-1))] → W p l e ((headSpec (.code yX11_isLawfulTo cX11_isLawfulTo 8 (some .boolean) :: ws0) ({ frames := 5, cells := 0, slots := 0, locals := 135 } : Room)).room) s m ([.ref k0, .int (nI f), .int (nI g), .int (nI h), .int (-1)] : List Value).toArray below meth c H locs 0 0 Q9 (F0 m 62 ls []) := by
        intro n9
        induction n9 with
        | zero => intro k z9 S1 T1 P1 Q1 H locs ls hm; exact absurd hm (Nat.not_lt_zero _)
        | succ n9 ih_62 =>
          intro k z9 S1 T1 P1 Q1 H locs ls hm hk hall hP hD hS hl
          refine lv_iload hx hb dX11_isLawfulTo_62 (lv_at hl 0 rfl) ?_
          refine lv_aload_n hx hb dX11_isLawfulTo_64 rfl (lv_at hl 1 rfl) ?_
          refine va_get (D := (dC, dI)) (ci := 9) (v := .ref (a 11)) (C := RX11) (T := TX11) (N := 55) hx hb hts inX11 hown hK hP 0 rfl rfl 11 (Nat.le_of_ble_eq_true rfl) (hts _ mw_1170) (fun _ h9 => h9) rfl dX11_isLawfulTo_65 ?_
          refine lv_iload_n hx hb dX11_isLawfulTo_68 rfl (lv_at hl 3 rfl) ?_
          refine z_iald hx hb hK hP 2 0 rfl rfl (e := g) rfl b9_2 (Nat.le_of_ble_eq_true rfl) dX11_isLawfulTo_69 ?_
          refine zz_i (v := nI m2) (hm_g) ?_
          have b9_6 : k < 2147483648 := by omega
          have b9_7 : m2 < 2147483648 := by omega
          refine lv_icmp_ge (tgt := 191) hx hb dX11_isLawfulTo_70 rfl (fun c_5 => ?_) (fun c_5 => ?_)
          · have c_5 : ((m2 : Nat) : Int) ≤ ((k : Nat) : Int) := zc_le (nI_toInt b9_7) (nI_toInt b9_6) c_5
            refine lv_aload_n hx hb dX11_isLawfulTo_191 rfl (lv_at hl 1 rfl) ?_
            refine va_get (D := (dC, dI)) (ci := 9) (v := .ref (a 1)) (C := RX11) (T := TX11) (N := 55) hx hb hts inX11 hown hK hP 0 rfl rfl 1 (Nat.le_of_ble_eq_true rfl) (hts _ mw_1160) (fun _ h9 => h9) rfl dX11_isLawfulTo_192 ?_
            refine lv_iload_n hx hb dX11_isLawfulTo_195 rfl (lv_at hl 2 rfl) ?_
            have b9_8 : f < 201 := by omega
            refine z_iald hx hb hK hP 1 0 rfl rfl (e := f) rfl b9_8 (Nat.le_of_ble_eq_true rfl) dX11_isLawfulTo_196 ?_
            refine lv_if_ne (tgt := 209) hx hb dX11_isLawfulTo_197 rfl (fun c_9 => ?_) (fun c_9 => ?_)
            · have c_9 : ¬ (kd f).toInt = 0 := zc_ne rfl rfl c_9
              refine lv_iconst (v := 1) hx hb dX11_isLawfulTo_209 rfl ?_
              refine lv_goto (tgt := 214) hx hb dX11_isLawfulTo_210 rfl ?_
              obtain ⟨hP9, hD9⟩ := zq_sub (wc := [(om k0 a (upd I0 31 z9) J0), (oa (a 1) cI 201 kd), (oa (a 11) cI 201 mn), (oa (a 12) cI 8040 cx), (oa (a 13) cI 8040 cy), (oa (a 32) cI 8 S1), (oa (a 40) cI 6 T1), (oa (a 29) cI 42 P1), (oa (a 30) cI 42 Q1), (oa (a 33) cI 42 ox), (oa (a 34) cI 42 oy), (oa (a 37) cZ 201 mt), (oa (a 38) cZ 201 wi), (oa (a 39) cZ 8040 ins)]) hP hD [0, 1, 2, 3, 4, 5, 6, 7, 8, 9, 10, 11, 12, 13] rfl rfl
              rw [hQ9]
              exact W.zret (ty := .boolean) (v := 1) hx hb hr (rfl) (fun t ht hW => ⟨⟨congrArg (fun z => Outcome.returned (some (Value.int z))) (show (1 : Int32) = pI (lawTo (ox 0) (oy 0) (kd f).toInt n (cF40 cx f) (cF40 cy f) (kd g).toInt m2 (cF40 cx g) (cF40 cy g) MT WI IN (fun k => ∃ e, e < eO (kd f).toInt on ∧ swp on ox oy (cF40 cx f) (cF40 cy f) (cF40 cx g k).toInt (cF40 cy g k).toInt e)) from (zp_t (by first | exact ⟨zp_ieq.mp (by first | with_reducible assumption | assumption), fun h => (by first | (exfalso; omega) | exact zp_ieq.mp (by first | with_reducible assumption | assumption)), fun j hj => hall j (by omega), fun h => (by first | (exfalso; omega) | assumption)⟩ | exact fun h => absurd (h.2.2.2 (by omega)) (by first | with_reducible assumption | assumption))).symm), z9, S1, T1, P1, Q1, by rw [ht]; exact hP9, hD9⟩, hS.F ht⟩) hS.2.2 dX11_isLawfulTo_214
            · have c_9 : (kd f).toInt = 0 := zc_eq rfl rfl c_9
              refine lv_aload_n hx hb dX11_isLawfulTo_200 rfl (lv_at hl 1 rfl) ?_
              refine lv_iload_n hx hb dX11_isLawfulTo_201 rfl (lv_at hl 2 rfl) ?_
              refine lv_iload_n hx hb dX11_isLawfulTo_202 rfl (lv_at hl 3 rfl) ?_
              obtain ⟨hPc, hDc, hFc⟩ := zc_sub (wc := [(om k0 a (upd I0 31 z9) J0), (oa (a 1) cI 201 kd), (oa (a 11) cI 201 mn), (oa (a 12) cI 8040 cx), (oa (a 13) cI 8040 cy), (oa (a 32) cI 8 S1), (oa (a 33) cI 42 ox), (oa (a 34) cI 42 oy)]) hP hD hS hA [0, 1, 2, 3, 4, 5, 9, 10] rfl rfl
              refine zcall (st1 := [.int (pI (∀ k, k < eO (kd g).toInt m2 → fWy (ox 0).toInt (oy 0).toInt (cx (40 * f)).toInt (cy (40 * f)).toInt m2 (cF40 cx g) (cF40 cy g) k))]) (va_runV (As := [.int (nI f), .int (nI g)]) (rest := []) ⟨hx, hb, hml, hown, hts⟩ (k_M_isFreeWay l dC dI cI cZ cF H.size k0 a (upd I0 31 z9) J0 f g m2 kd mn cx cy S1 ox oy (by first | with_reducible assumption | omega) ((hpo 0 (by first | with_reducible assumption | omega)).1) ((hpo 0 (by first | with_reducible assumption | omega)).2) ((hp_f 0 (by first | with_reducible assumption | omega)).1) ((hp_f 0 (by first | with_reducible assumption | omega)).2) (by first | with_reducible assumption | omega) (by first | with_reducible assumption | assumption) (by first | with_reducible assumption | omega) (by first | with_reducible assumption | assumption)) (csV_181 hts rfl rfl ⟨Nat.le_of_ble_eq_true rfl, Nat.le_of_ble_eq_true rfl⟩) (zPV2 (q0 := 0) (ci := 9) hPc hDc hK hXN rfl rfl) rfl rfl hl.1 rfl (lv_room (Nat.le_of_ble_eq_true rfl)) dX11_isLawfulTo_203 ⟨Nat.le_of_ble_eq_true rfl, Nat.le_of_ble_eq_true rfl⟩) hS hFc hFc rfl (fun t H locs ht hB hk1 hS => ?_)
              obtain ⟨q_10, hP1, hD1⟩ := hB
              rw [ht] at hP1
              obtain ⟨hP, hD⟩ := zk (W2 := [(om k0 a (upd I0 31 z9) J0), (oa (a 1) cI 201 kd), (oa (a 11) cI 201 mn), (oa (a 12) cI 8040 cx), (oa (a 13) cI 8040 cy), (oa (a 32) cI 8 q_10), (oa (a 40) cI 6 T1), (oa (a 29) cI 42 P1), (oa (a 30) cI 42 Q1), (oa (a 33) cI 42 ox), (oa (a 34) cI 42 oy), (oa (a 37) cZ 201 mt), (oa (a 38) cZ 201 wi), (oa (a 39) cZ 8040 ins)]) hP hD [0, 1, 2, 3, 4, 5, 9, 10] [6, 7, 8, 11, 12, 13] [6, 7, 8, 11, 12, 13] [0, 1, 2, 3, 4, 5, 9, 10] [6, 7, 8, 9, 10, 11, 0, 1, 2, 12, 13, 3, 4, 5] 14 rfl rfl rfl rfl rfl rfl rfl rfl rfl hk1 hFc hP1 hD1
              clear hk1 hPc hDc hFc hP1 hD1 ht
              refine zz_i (v := pI (∀ k, k < eO (kd g).toInt m2 → fWy (ox 0).toInt (oy 0).toInt (cF40 cx f 0).toInt (cF40 cy f 0).toInt m2 (cF40 cx g) (cF40 cy g) k)) (rfl) ?_
              refine lv_if_eq (tgt := 213) hx hb dX11_isLawfulTo_206 rfl (fun c_11 => ?_) (fun c_11 => ?_)
              · have c_11 : ¬ (∀ k, k < eO (kd g).toInt m2 → fWy (ox 0).toInt (oy 0).toInt (cF40 cx f 0).toInt (cF40 cy f 0).toInt m2 (cF40 cx g) (cF40 cy g) k) := zp_0 c_11
                refine lv_iconst (v := 0) hx hb dX11_isLawfulTo_213 rfl ?_
                obtain ⟨hP9, hD9⟩ := zq_sub (wc := [(om k0 a (upd I0 31 z9) J0), (oa (a 1) cI 201 kd), (oa (a 11) cI 201 mn), (oa (a 12) cI 8040 cx), (oa (a 13) cI 8040 cy), (oa (a 32) cI 8 q_10), (oa (a 40) cI 6 T1), (oa (a 29) cI 42 P1), (oa (a 30) cI 42 Q1), (oa (a 33) cI 42 ox), (oa (a 34) cI 42 oy), (oa (a 37) cZ 201 mt), (oa (a 38) cZ 201 wi), (oa (a 39) cZ 8040 ins)]) hP hD [0, 1, 2, 3, 4, 5, 6, 7, 8, 9, 10, 11, 12, 13] rfl rfl
                rw [hQ9]
                exact W.zret (ty := .boolean) (v := 0) hx hb hr (rfl) (fun t ht hW => ⟨⟨congrArg (fun z => Outcome.returned (some (Value.int z))) (show (0 : Int32) = pI (lawTo (ox 0) (oy 0) (kd f).toInt n (cF40 cx f) (cF40 cy f) (kd g).toInt m2 (cF40 cx g) (cF40 cy g) MT WI IN (fun k => ∃ e, e < eO (kd f).toInt on ∧ swp on ox oy (cF40 cx f) (cF40 cy f) (cF40 cx g k).toInt (cF40 cy g k).toInt e)) from (zp_f (by first | exact ⟨zp_ieq.mp (by first | with_reducible assumption | assumption), fun h => (by first | (exfalso; omega) | exact zp_ieq.mp (by first | with_reducible assumption | assumption)), fun j hj => hall j (by omega), fun h => (by first | (exfalso; omega) | assumption)⟩ | exact fun h => absurd (h.2.2.2 (by omega)) (by first | with_reducible assumption | assumption))).symm), z9, q_10, T1, P1, Q1, by rw [ht]; exact hP9, hD9⟩, hS.F ht⟩) hS.2.2 dX11_isLawfulTo_214
              · have c_11 : ∀ k, k < eO (kd g).toInt m2 → fWy (ox 0).toInt (oy 0).toInt (cF40 cx f 0).toInt (cF40 cy f 0).toInt m2 (cF40 cx g) (cF40 cy g) k := zp_1 c_11
                refine lv_iconst (v := 1) hx hb dX11_isLawfulTo_209 rfl ?_
                refine lv_goto (tgt := 214) hx hb dX11_isLawfulTo_210 rfl ?_
                obtain ⟨hP9, hD9⟩ := zq_sub (wc := [(om k0 a (upd I0 31 z9) J0), (oa (a 1) cI 201 kd), (oa (a 11) cI 201 mn), (oa (a 12) cI 8040 cx), (oa (a 13) cI 8040 cy), (oa (a 32) cI 8 q_10), (oa (a 40) cI 6 T1), (oa (a 29) cI 42 P1), (oa (a 30) cI 42 Q1), (oa (a 33) cI 42 ox), (oa (a 34) cI 42 oy), (oa (a 37) cZ 201 mt), (oa (a 38) cZ 201 wi), (oa (a 39) cZ 8040 ins)]) hP hD [0, 1, 2, 3, 4, 5, 6, 7, 8, 9, 10, 11, 12, 13] rfl rfl
                rw [hQ9]
                exact W.zret (ty := .boolean) (v := 1) hx hb hr (rfl) (fun t ht hW => ⟨⟨congrArg (fun z => Outcome.returned (some (Value.int z))) (show (1 : Int32) = pI (lawTo (ox 0) (oy 0) (kd f).toInt n (cF40 cx f) (cF40 cy f) (kd g).toInt m2 (cF40 cx g) (cF40 cy g) MT WI IN (fun k => ∃ e, e < eO (kd f).toInt on ∧ swp on ox oy (cF40 cx f) (cF40 cy f) (cF40 cx g k).toInt (cF40 cy g k).toInt e)) from (zp_t (by first | exact ⟨zp_ieq.mp (by first | with_reducible assumption | assumption), fun h => (by first | (exfalso; omega) | exact zp_ieq.mp (by first | with_reducible assumption | assumption)), fun j hj => hall j (by omega), fun h => (by first | (exfalso; omega) | assumption)⟩ | exact fun h => absurd (h.2.2.2 (by omega)) (by first | with_reducible assumption | assumption))).symm), z9, q_10, T1, P1, Q1, by rw [ht]; exact hP9, hD9⟩, hS.F ht⟩) hS.2.2 dX11_isLawfulTo_214
          · have c_5 : ((k : Nat) : Int) < ((m2 : Nat) : Int) := zc_nle (nI_toInt b9_7) (nI_toInt b9_6) c_5
            have hk9 : k < m2 := (by omega)
            refine lv_aload_n hx hb dX11_isLawfulTo_73 rfl (lv_at hl 1 rfl) ?_
            refine va_get (D := (dC, dI)) (ci := 9) (v := .ref (a 12)) (C := RX11) (T := TX11) (N := 55) hx hb hts inX11 hown hK hP 0 rfl rfl 12 (Nat.le_of_ble_eq_true rfl) (hts _ mw_1171) (fun _ h9 => h9) rfl dX11_isLawfulTo_74 ?_
            refine lv_bipush (v := 40) hx hb dX11_isLawfulTo_77 rfl ?_
            refine lv_iload_n hx hb dX11_isLawfulTo_79 rfl (lv_at hl 3 rfl) ?_
            refine lv_imul hx hb dX11_isLawfulTo_80 ?_
            refine zz_i (v := nI (40 * g)) (pk_mul 40 g) ?_
            refine lv_iload hx hb dX11_isLawfulTo_81 (lv_at hl 0 rfl) ?_
            refine lv_iadd hx hb dX11_isLawfulTo_83 ?_
            refine zz_i (v := nI (40 * g + k)) (nI_add (40 * g) k) ?_
            have b9_12 : 40 * g + k < 8040 := by omega
            refine z_iald hx hb hK hP 3 0 rfl rfl (e := 40 * g + k) rfl b9_12 (Nat.le_of_ble_eq_true rfl) dX11_isLawfulTo_84 ?_
            refine lv_istore (lv' := [(6, .int (cx (40 * g + k))), (5, .int (nI k)), (0, .ref k0), (1, .int (nI f)), (2, .int (nI g)), (3, .int (nI h)), (4, .int (-1))]) hx hb dX11_isLawfulTo_85 hl (Nat.le_of_ble_eq_true rfl) rfl (fun ls hl => ?_)
            refine lv_aload_n hx hb dX11_isLawfulTo_87 rfl (lv_at hl 2 rfl) ?_
            refine va_get (D := (dC, dI)) (ci := 9) (v := .ref (a 13)) (C := RX11) (T := TX11) (N := 55) hx hb hts inX11 hown hK hP 0 rfl rfl 13 (Nat.le_of_ble_eq_true rfl) (hts _ mw_1172) (fun _ h9 => h9) rfl dX11_isLawfulTo_88 ?_
            refine lv_bipush (v := 40) hx hb dX11_isLawfulTo_91 rfl ?_
            refine lv_iload_n hx hb dX11_isLawfulTo_93 rfl (lv_at hl 4 rfl) ?_
            refine lv_imul hx hb dX11_isLawfulTo_94 ?_
            refine zz_i (v := nI (40 * g)) (pk_mul 40 g) ?_
            refine lv_iload hx hb dX11_isLawfulTo_95 (lv_at hl 1 rfl) ?_
            refine lv_iadd hx hb dX11_isLawfulTo_97 ?_
            refine zz_i (v := nI (40 * g + k)) (nI_add (40 * g) k) ?_
            refine z_iald hx hb hK hP 4 0 rfl rfl (e := 40 * g + k) rfl b9_12 (Nat.le_of_ble_eq_true rfl) dX11_isLawfulTo_98 ?_
            refine lv_istore (lv' := [(7, .int (cy (40 * g + k))), (6, .int (cx (40 * g + k))), (5, .int (nI k)), (0, .ref k0), (1, .int (nI f)), (2, .int (nI g)), (3, .int (nI h)), (4, .int (-1))]) hx hb dX11_isLawfulTo_99 hl (Nat.le_of_ble_eq_true rfl) rfl (fun ls hl => ?_)
            refine lv_aload_n hx hb dX11_isLawfulTo_101 rfl (lv_at hl 3 rfl) ?_
            refine lv_iload_n hx hb dX11_isLawfulTo_102 rfl (lv_at hl 4 rfl) ?_
            obtain ⟨hPc, hDc, hFc⟩ := zc_sub (wc := [(om k0 a (upd I0 31 z9) J0), (oa (a 1) cI 201 kd)]) hP hD hS hA [0, 1] rfl rfl
            refine zcall (st1 := [.int (pI (5 ≤ (kd f).toInt))]) (va_runV (As := [.int (nI f)]) (rest := []) ⟨hx, hb, hml, hown, hts⟩ (k_M_isRing l dC dI cI cZ cF H.size k0 a (upd I0 31 z9) J0 f kd (by first | with_reducible assumption | omega)) (csV_165 hts rfl rfl ⟨Nat.le_of_ble_eq_true rfl, Nat.le_of_ble_eq_true rfl⟩) (zPV2 (q0 := 0) (ci := 9) hPc hDc hK hXN rfl rfl) rfl rfl hl.1 rfl (lv_room (Nat.le_of_ble_eq_true rfl)) dX11_isLawfulTo_103 ⟨Nat.le_of_ble_eq_true rfl, Nat.le_of_ble_eq_true rfl⟩) hS hFc hFc rfl (fun t H locs ht hB hk1 hS => ?_)
            obtain ⟨hP1, hD1⟩ := hB
            rw [ht] at hP1
            obtain ⟨hP, hD⟩ := zk (W2 := [(om k0 a (upd I0 31 z9) J0), (oa (a 1) cI 201 kd), (oa (a 11) cI 201 mn), (oa (a 12) cI 8040 cx), (oa (a 13) cI 8040 cy), (oa (a 32) cI 8 S1), (oa (a 40) cI 6 T1), (oa (a 29) cI 42 P1), (oa (a 30) cI 42 Q1), (oa (a 33) cI 42 ox), (oa (a 34) cI 42 oy), (oa (a 37) cZ 201 mt), (oa (a 38) cZ 201 wi), (oa (a 39) cZ 8040 ins)]) hP hD [0, 1] [2, 3, 4, 5, 6, 7, 8, 9, 10, 11, 12, 13] [2, 3, 4, 5, 6, 7, 8, 9, 10, 11, 12, 13] [0, 1] [12, 13, 0, 1, 2, 3, 4, 5, 6, 7, 8, 9, 10, 11] 14 rfl rfl rfl rfl rfl rfl rfl rfl rfl hk1 hFc hP1 hD1
            clear hk1 hPc hDc hFc hP1 hD1 ht
            refine lv_if_eq (tgt := 135) hx hb dX11_isLawfulTo_106 rfl (fun c_13 => ?_) (fun c_13 => ?_)
            · have c_13 : ¬ (5 ≤ (kd f).toInt) := zp_0 c_13
              refine lv_aload_n hx hb dX11_isLawfulTo_135 rfl (lv_at hl 3 rfl) ?_
              refine va_get (D := (dC, dI)) (ci := 9) (v := .ref (a 1)) (C := RX11) (T := TX11) (N := 55) hx hb hts inX11 hown hK hP 0 rfl rfl 1 (Nat.le_of_ble_eq_true rfl) (hts _ mw_1160) (fun _ h9 => h9) rfl dX11_isLawfulTo_136 ?_
              refine lv_iload_n hx hb dX11_isLawfulTo_139 rfl (lv_at hl 4 rfl) ?_
              have b9_14 : f < 201 := by omega
              refine z_iald hx hb hK hP 1 0 rfl rfl (e := f) rfl b9_14 (Nat.le_of_ble_eq_true rfl) dX11_isLawfulTo_140 ?_
              refine lv_if_eq (tgt := 185) hx hb dX11_isLawfulTo_141 rfl (fun c_15 => ?_) (fun c_15 => ?_)
              · have c_15 : (kd f).toInt = 0 := zc_eq rfl rfl c_15
                refine lv_iinc (v := nI (k + 1)) (lv' := [(5, .int (nI (k + 1))), (7, .int (cy (40 * g + k))), (6, .int (cx (40 * g + k))), (0, .ref k0), (1, .int (nI f)), (2, .int (nI g)), (3, .int (nI h)), (4, .int (-1))]) hx hb dX11_isLawfulTo_185 hl (k := 2) rfl (nI_add k 1) (Nat.le_of_ble_eq_true rfl) rfl (fun ls hl => ?_)
                refine lv_goto (tgt := 62) hx hb dX11_isLawfulTo_188 rfl ?_
                exact ih_62 (k + 1) z9 S1 T1 P1 Q1 H locs ls (by first | with_reducible assumption | omega) (by first | with_reducible assumption | omega) (by intro j hj; rcases Nat.lt_or_ge j k with h | h; exact hall j h; obtain rfl : j = k := (by first | with_reducible assumption | omega); exact ⟨fun h5 => (by first | (exfalso; omega) | exact zp_ieq.mp (by first | with_reducible assumption | assumption)), fun h0 => (by first | (exfalso; omega) | exact id | assumption)⟩) hP hD hS (lv_sub hl [0, 3, 4, 5, 6, 7] rfl)
              · have c_15 : ¬ (kd f).toInt = 0 := zc_ne rfl rfl c_15
                refine lv_iload_n hx hb dX11_isLawfulTo_144 rfl (lv_at hl 6 rfl) ?_
                refine lv_iconst (v := 5) hx hb dX11_isLawfulTo_145 rfl ?_
                have b9_17 : h < 2147483648 := by omega
                refine lv_icmp_eq (tgt := 185) hx hb dX11_isLawfulTo_146 rfl (fun c_16 => ?_) (fun c_16 => ?_)
                · have c_16 : ((h : Nat) : Int) = 5 := zc_eq (nI_toInt b9_17) rfl c_16
                  exfalso; omega
                · have c_16 : ¬ ((h : Nat) : Int) = 5 := zc_ne (nI_toInt b9_17) rfl c_16
                  refine lv_iload hx hb dX11_isLawfulTo_149 (lv_at hl 7 rfl) ?_
                  refine lv_iconst (v := (-1)) hx hb dX11_isLawfulTo_151 rfl ?_
                  refine lv_icmp_eq (tgt := 171) hx hb dX11_isLawfulTo_152 rfl (fun c_18 => ?_) (fun c_18 => ?_)
                  · refine lv_aload_n hx hb dX11_isLawfulTo_171 rfl (lv_at hl 3 rfl) ?_
                    refine lv_iload_n hx hb dX11_isLawfulTo_172 rfl (lv_at hl 4 rfl) ?_
                    refine lv_iload hx hb dX11_isLawfulTo_173 (lv_at hl 1 rfl) ?_
                    refine lv_iload hx hb dX11_isLawfulTo_175 (lv_at hl 0 rfl) ?_
                    obtain ⟨hPc, hDc, hFc⟩ := zc_sub (wc := [(om k0 a (upd I0 31 z9) J0), (oa (a 1) cI 201 kd), (oa (a 11) cI 201 mn), (oa (a 12) cI 8040 cx), (oa (a 13) cI 8040 cy), (oa (a 40) cI 6 T1), (oa (a 29) cI 42 P1), (oa (a 30) cI 42 Q1), (oa (a 33) cI 42 ox), (oa (a 34) cI 42 oy)]) hP hD hS hA [0, 1, 2, 3, 4, 6, 7, 8, 9, 10] rfl rfl
                    refine zcall (st1 := [.int (pI (∃ e9, e9 < eO (kd f).toInt on ∧ swp on ox oy (cF40 cx f) (cF40 cy f) (cx (40 * g + k)).toInt (cy (40 * g + k)).toInt e9))]) (va_runV (As := [.int (nI f), .int (cx (40 * g + k)), .int (cy (40 * g + k))]) (rest := []) ⟨hx, hb, hml, hown, hts⟩ (k_M_isSwept l dC dI cI cZ cF H.size k0 a (upd I0 31 z9) J0 f on (cx (40 * g + k)) (cy (40 * g + k)) kd mn cx cy T1 P1 Q1 ox oy (hon) (by first | with_reducible assumption | omega) (by first | with_reducible assumption | omega) (by rw [← hon2]; assumption) (by first | with_reducible assumption | omega) (by rw [← hon2]; assumption) (by first | with_reducible assumption | assumption) ((hp_g k hk9).1) ((hp_g k hk9).2)) (csV_184 hts rfl rfl ⟨Nat.le_of_ble_eq_true rfl, Nat.le_of_ble_eq_true rfl⟩) (zPV2 (q0 := 0) (ci := 9) hPc hDc hK hXN rfl rfl) rfl rfl hl.1 rfl (lv_room (Nat.le_of_ble_eq_true rfl)) dX11_isLawfulTo_177 ⟨Nat.le_of_ble_eq_true rfl, Nat.le_of_ble_eq_true rfl⟩) hS hFc hFc rfl (fun t H locs ht hB hk1 hS => ?_)
                    obtain ⟨q_19, q_20, q_21, hP1, hD1⟩ := hB
                    rw [ht] at hP1
                    obtain ⟨hP, hD⟩ := zk (W2 := [(om k0 a (upd I0 31 (nI on)) J0), (oa (a 1) cI 201 kd), (oa (a 11) cI 201 mn), (oa (a 12) cI 8040 cx), (oa (a 13) cI 8040 cy), (oa (a 32) cI 8 S1), (oa (a 40) cI 6 q_19), (oa (a 29) cI 42 q_20), (oa (a 30) cI 42 q_21), (oa (a 33) cI 42 ox), (oa (a 34) cI 42 oy), (oa (a 37) cZ 201 mt), (oa (a 38) cZ 201 wi), (oa (a 39) cZ 8040 ins)]) hP hD [0, 1, 2, 3, 4, 6, 7, 8, 9, 10] [5, 11, 12, 13] [5, 11, 12, 13] [0, 1, 2, 3, 4, 6, 7, 8, 9, 10] [4, 5, 6, 7, 8, 0, 9, 10, 11, 12, 13, 1, 2, 3] 14 rfl rfl rfl rfl rfl rfl rfl rfl rfl hk1 hFc hP1 hD1
                    clear hk1 hPc hDc hFc hP1 hD1 ht
                    refine zz_i (v := pI ((fun k => ∃ e, e < eO (kd f).toInt on ∧ swp on ox oy (cF40 cx f) (cF40 cy f) (cF40 cx g k).toInt (cF40 cy g k).toInt e) k)) (rfl) ?_
                    refine lv_if_eq (tgt := 185) hx hb dX11_isLawfulTo_180 rfl (fun c_22 => ?_) (fun c_22 => ?_)
                    · have c_22 : ¬ ((fun k => ∃ e, e < eO (kd f).toInt on ∧ swp on ox oy (cF40 cx f) (cF40 cy f) (cF40 cx g k).toInt (cF40 cy g k).toInt e) k) := zp_0 c_22
                      refine lv_iinc (v := nI (k + 1)) (lv' := [(5, .int (nI (k + 1))), (7, .int (cy (40 * g + k))), (6, .int (cx (40 * g + k))), (0, .ref k0), (1, .int (nI f)), (2, .int (nI g)), (3, .int (nI h)), (4, .int (-1))]) hx hb dX11_isLawfulTo_185 hl (k := 2) rfl (nI_add k 1) (Nat.le_of_ble_eq_true rfl) rfl (fun ls hl => ?_)
                      refine lv_goto (tgt := 62) hx hb dX11_isLawfulTo_188 rfl ?_
                      exact ih_62 (k + 1) (nI on) S1 q_19 q_20 q_21 H locs ls (by first | with_reducible assumption | omega) (by first | with_reducible assumption | omega) (by intro j hj; rcases Nat.lt_or_ge j k with h | h; exact hall j h; obtain rfl : j = k := (by first | with_reducible assumption | omega); exact ⟨fun h5 => (by first | (exfalso; omega) | exact zp_ieq.mp (by first | with_reducible assumption | assumption)), fun h0 => (by first | (exfalso; omega) | exact id | assumption)⟩) hP hD hS (lv_sub hl [0, 3, 4, 5, 6, 7] rfl)
                    · have c_22 : (fun k => ∃ e, e < eO (kd f).toInt on ∧ swp on ox oy (cF40 cx f) (cF40 cy f) (cF40 cx g k).toInt (cF40 cy g k).toInt e) k := zp_1 c_22
                      refine lv_iconst (v := 0) hx hb dX11_isLawfulTo_183 rfl ?_
                      obtain ⟨hP9, hD9⟩ := zq_sub (wc := [(om k0 a (upd I0 31 (nI on)) J0), (oa (a 1) cI 201 kd), (oa (a 11) cI 201 mn), (oa (a 12) cI 8040 cx), (oa (a 13) cI 8040 cy), (oa (a 32) cI 8 S1), (oa (a 40) cI 6 q_19), (oa (a 29) cI 42 q_20), (oa (a 30) cI 42 q_21), (oa (a 33) cI 42 ox), (oa (a 34) cI 42 oy), (oa (a 37) cZ 201 mt), (oa (a 38) cZ 201 wi), (oa (a 39) cZ 8040 ins)]) hP hD [0, 1, 2, 3, 4, 5, 6, 7, 8, 9, 10, 11, 12, 13] rfl rfl
                      rw [hQ9]
                      exact W.zret (ty := .boolean) (v := 0) hx hb hr (rfl) (fun t ht hW => ⟨⟨congrArg (fun z => Outcome.returned (some (Value.int z))) (show (0 : Int32) = pI (lawTo (ox 0) (oy 0) (kd f).toInt n (cF40 cx f) (cF40 cy f) (kd g).toInt m2 (cF40 cx g) (cF40 cy g) MT WI IN (fun k => ∃ e, e < eO (kd f).toInt on ∧ swp on ox oy (cF40 cx f) (cF40 cy f) (cF40 cx g k).toInt (cF40 cy g k).toInt e)) from (zp_f (fun h => (h.2.2.1 k (by omega)).2 (by omega) (by first | with_reducible assumption | assumption))).symm), (nI on), S1, q_19, q_20, q_21, by rw [ht]; exact hP9, hD9⟩, hS.F ht⟩) hS.2.2 dX11_isLawfulTo_184
                  · exact absurd (by decide) c_18
            · have c_13 : 5 ≤ (kd f).toInt := zp_1 c_13
              refine lv_aload_n hx hb dX11_isLawfulTo_109 rfl (lv_at hl 3 rfl) ?_
              refine lv_iload_n hx hb dX11_isLawfulTo_110 rfl (lv_at hl 4 rfl) ?_
              refine lv_iload hx hb dX11_isLawfulTo_111 (lv_at hl 1 rfl) ?_
              refine lv_iload hx hb dX11_isLawfulTo_113 (lv_at hl 0 rfl) ?_
              obtain ⟨hPc, hDc, hFc⟩ := zc_sub (wc := [(om k0 a (upd I0 31 z9) J0), (oa (a 1) cI 201 kd), (oa (a 11) cI 201 mn), (oa (a 12) cI 8040 cx), (oa (a 13) cI 8040 cy), (oa (a 32) cI 8 S1)]) hP hD hS hA [0, 1, 2, 3, 4, 5] rfl rfl
              refine zcall (st1 := [.int (pI (¬ (∃ i, i < eO (kd f).toInt n ∧ eOn n (cF40 cx f) (cF40 cy f) i (cx (40 * g + k)).toInt (cy (40 * g + k)).toInt) ∧ par2 (eTg n (cF40 cx f) (cF40 cy f) (cx (40 * g + k)).toInt (cy (40 * g + k)).toInt) (eO (kd f).toInt n)))]) (va_runV (As := [.int (nI f), .int (cx (40 * g + k)), .int (cy (40 * g + k))]) (rest := []) ⟨hx, hb, hml, hown, hts⟩ (k_M_isInside l dC dI cI cZ cF H.size k0 a (upd I0 31 z9) J0 f n kd mn cx cy S1 (cx (40 * g + k)) (cy (40 * g + k)) (by first | with_reducible assumption | omega) (by first | with_reducible assumption | assumption) (by first | with_reducible assumption | omega) (by first | with_reducible assumption | assumption) ((hp_g k hk9).1) ((hp_g k hk9).2)) (csV_183 hts rfl rfl ⟨Nat.le_of_ble_eq_true rfl, Nat.le_of_ble_eq_true rfl⟩) (zPV2 (q0 := 0) (ci := 9) hPc hDc hK hXN rfl rfl) rfl rfl hl.1 rfl (lv_room (Nat.le_of_ble_eq_true rfl)) dX11_isLawfulTo_115 ⟨Nat.le_of_ble_eq_true rfl, Nat.le_of_ble_eq_true rfl⟩) hS hFc hFc rfl (fun t H locs ht hB hk1 hS => ?_)
              obtain ⟨q_23, hP1, hD1⟩ := hB
              rw [ht] at hP1
              obtain ⟨hP, hD⟩ := zk (W2 := [(om k0 a (upd I0 31 z9) J0), (oa (a 1) cI 201 kd), (oa (a 11) cI 201 mn), (oa (a 12) cI 8040 cx), (oa (a 13) cI 8040 cy), (oa (a 32) cI 8 q_23), (oa (a 40) cI 6 T1), (oa (a 29) cI 42 P1), (oa (a 30) cI 42 Q1), (oa (a 33) cI 42 ox), (oa (a 34) cI 42 oy), (oa (a 37) cZ 201 mt), (oa (a 38) cZ 201 wi), (oa (a 39) cZ 8040 ins)]) hP hD [0, 1, 2, 3, 4, 5] [6, 7, 8, 9, 10, 11, 12, 13] [6, 7, 8, 9, 10, 11, 12, 13] [0, 1, 2, 3, 4, 5] [8, 9, 10, 11, 12, 13, 0, 1, 2, 3, 4, 5, 6, 7] 14 rfl rfl rfl rfl rfl rfl rfl rfl rfl hk1 hFc hP1 hD1
              clear hk1 hPc hDc hFc hP1 hD1 ht
              refine zz_i (v := pI (inF (kd f).toInt n (cF40 cx f) (cF40 cy f) (cF40 cx g k).toInt (cF40 cy g k).toInt)) (rfl) ?_
              refine lv_aload_n hx hb dX11_isLawfulTo_118 rfl (lv_at hl 3 rfl) ?_
              refine va_get (D := (dC, dI)) (ci := 9) (v := .ref (a 39)) (C := RX11) (T := TX11) (N := 55) hx hb hts inX11 hown hK hP 0 rfl rfl 39 (Nat.le_of_ble_eq_true rfl) (hts _ mw_1198) (fun _ h9 => h9) rfl dX11_isLawfulTo_119 ?_
              refine lv_bipush (v := 40) hx hb dX11_isLawfulTo_122 rfl ?_
              refine lv_iload_n hx hb dX11_isLawfulTo_124 rfl (lv_at hl 5 rfl) ?_
              refine lv_imul hx hb dX11_isLawfulTo_125 ?_
              refine zz_i (v := nI (40 * g)) (pk_mul 40 g) ?_
              refine lv_iload hx hb dX11_isLawfulTo_126 (lv_at hl 2 rfl) ?_
              refine lv_iadd hx hb dX11_isLawfulTo_128 ?_
              refine zz_i (v := nI (40 * g + k)) (nI_add (40 * g) k) ?_
              have b9_24 : 40 * g + k < 8040 := by omega
              refine z_zald hx hb hK hP 13 1 rfl rfl (e := 40 * g + k) rfl b9_24 (Nat.le_of_ble_eq_true rfl) dX11_isLawfulTo_129 ?_
              refine zz_i (v := pI (IN k)) (hin k (by omega) (by omega)) ?_
              refine lv_icmp_eq (tgt := 135) hx hb dX11_isLawfulTo_130 rfl (fun c_25 => ?_) (fun c_25 => ?_)
              · have c_25 : (pI (inF (kd f).toInt n (cF40 cx f) (cF40 cy f) (cF40 cx g k).toInt (cF40 cy g k).toInt)).toInt = (pI (IN k)).toInt := zc_eq rfl rfl c_25
                refine lv_aload_n hx hb dX11_isLawfulTo_135 rfl (lv_at hl 3 rfl) ?_
                refine va_get (D := (dC, dI)) (ci := 9) (v := .ref (a 1)) (C := RX11) (T := TX11) (N := 55) hx hb hts inX11 hown hK hP 0 rfl rfl 1 (Nat.le_of_ble_eq_true rfl) (hts _ mw_1160) (fun _ h9 => h9) rfl dX11_isLawfulTo_136 ?_
                refine lv_iload_n hx hb dX11_isLawfulTo_139 rfl (lv_at hl 4 rfl) ?_
                have b9_26 : f < 201 := by omega
                refine z_iald hx hb hK hP 1 0 rfl rfl (e := f) rfl b9_26 (Nat.le_of_ble_eq_true rfl) dX11_isLawfulTo_140 ?_
                refine lv_if_eq (tgt := 185) hx hb dX11_isLawfulTo_141 rfl (fun c_27 => ?_) (fun c_27 => ?_)
                · have c_27 : (kd f).toInt = 0 := zc_eq rfl rfl c_27
                  refine lv_iinc (v := nI (k + 1)) (lv' := [(5, .int (nI (k + 1))), (7, .int (cy (40 * g + k))), (6, .int (cx (40 * g + k))), (0, .ref k0), (1, .int (nI f)), (2, .int (nI g)), (3, .int (nI h)), (4, .int (-1))]) hx hb dX11_isLawfulTo_185 hl (k := 2) rfl (nI_add k 1) (Nat.le_of_ble_eq_true rfl) rfl (fun ls hl => ?_)
                  refine lv_goto (tgt := 62) hx hb dX11_isLawfulTo_188 rfl ?_
                  exact ih_62 (k + 1) z9 q_23 T1 P1 Q1 H locs ls (by first | with_reducible assumption | omega) (by first | with_reducible assumption | omega) (by intro j hj; rcases Nat.lt_or_ge j k with h | h; exact hall j h; obtain rfl : j = k := (by first | with_reducible assumption | omega); exact ⟨fun h5 => (by first | (exfalso; omega) | exact zp_ieq.mp (by first | with_reducible assumption | assumption)), fun h0 => (by first | (exfalso; omega) | exact id | assumption)⟩) hP hD hS (lv_sub hl [0, 3, 4, 5, 6, 7] rfl)
                · have c_27 : ¬ (kd f).toInt = 0 := zc_ne rfl rfl c_27
                  refine lv_iload_n hx hb dX11_isLawfulTo_144 rfl (lv_at hl 6 rfl) ?_
                  refine lv_iconst (v := 5) hx hb dX11_isLawfulTo_145 rfl ?_
                  have b9_29 : h < 2147483648 := by omega
                  refine lv_icmp_eq (tgt := 185) hx hb dX11_isLawfulTo_146 rfl (fun c_28 => ?_) (fun c_28 => ?_)
                  · have c_28 : ((h : Nat) : Int) = 5 := zc_eq (nI_toInt b9_29) rfl c_28
                    exfalso; omega
                  · have c_28 : ¬ ((h : Nat) : Int) = 5 := zc_ne (nI_toInt b9_29) rfl c_28
                    refine lv_iload hx hb dX11_isLawfulTo_149 (lv_at hl 7 rfl) ?_
                    refine lv_iconst (v := (-1)) hx hb dX11_isLawfulTo_151 rfl ?_
                    refine lv_icmp_eq (tgt := 171) hx hb dX11_isLawfulTo_152 rfl (fun c_30 => ?_) (fun c_30 => ?_)
                    · refine lv_aload_n hx hb dX11_isLawfulTo_171 rfl (lv_at hl 3 rfl) ?_
                      refine lv_iload_n hx hb dX11_isLawfulTo_172 rfl (lv_at hl 4 rfl) ?_
                      refine lv_iload hx hb dX11_isLawfulTo_173 (lv_at hl 1 rfl) ?_
                      refine lv_iload hx hb dX11_isLawfulTo_175 (lv_at hl 0 rfl) ?_
                      obtain ⟨hPc, hDc, hFc⟩ := zc_sub (wc := [(om k0 a (upd I0 31 z9) J0), (oa (a 1) cI 201 kd), (oa (a 11) cI 201 mn), (oa (a 12) cI 8040 cx), (oa (a 13) cI 8040 cy), (oa (a 40) cI 6 T1), (oa (a 29) cI 42 P1), (oa (a 30) cI 42 Q1), (oa (a 33) cI 42 ox), (oa (a 34) cI 42 oy)]) hP hD hS hA [0, 1, 2, 3, 4, 6, 7, 8, 9, 10] rfl rfl
                      refine zcall (st1 := [.int (pI (∃ e9, e9 < eO (kd f).toInt on ∧ swp on ox oy (cF40 cx f) (cF40 cy f) (cx (40 * g + k)).toInt (cy (40 * g + k)).toInt e9))]) (va_runV (As := [.int (nI f), .int (cx (40 * g + k)), .int (cy (40 * g + k))]) (rest := []) ⟨hx, hb, hml, hown, hts⟩ (k_M_isSwept l dC dI cI cZ cF H.size k0 a (upd I0 31 z9) J0 f on (cx (40 * g + k)) (cy (40 * g + k)) kd mn cx cy T1 P1 Q1 ox oy (hon) (by first | with_reducible assumption | omega) (by first | with_reducible assumption | omega) (by rw [← hon2]; assumption) (by first | with_reducible assumption | omega) (by rw [← hon2]; assumption) (by first | with_reducible assumption | assumption) ((hp_g k hk9).1) ((hp_g k hk9).2)) (csV_184 hts rfl rfl ⟨Nat.le_of_ble_eq_true rfl, Nat.le_of_ble_eq_true rfl⟩) (zPV2 (q0 := 0) (ci := 9) hPc hDc hK hXN rfl rfl) rfl rfl hl.1 rfl (lv_room (Nat.le_of_ble_eq_true rfl)) dX11_isLawfulTo_177 ⟨Nat.le_of_ble_eq_true rfl, Nat.le_of_ble_eq_true rfl⟩) hS hFc hFc rfl (fun t H locs ht hB hk1 hS => ?_)
                      obtain ⟨q_31, q_32, q_33, hP1, hD1⟩ := hB
                      rw [ht] at hP1
                      obtain ⟨hP, hD⟩ := zk (W2 := [(om k0 a (upd I0 31 (nI on)) J0), (oa (a 1) cI 201 kd), (oa (a 11) cI 201 mn), (oa (a 12) cI 8040 cx), (oa (a 13) cI 8040 cy), (oa (a 32) cI 8 q_23), (oa (a 40) cI 6 q_31), (oa (a 29) cI 42 q_32), (oa (a 30) cI 42 q_33), (oa (a 33) cI 42 ox), (oa (a 34) cI 42 oy), (oa (a 37) cZ 201 mt), (oa (a 38) cZ 201 wi), (oa (a 39) cZ 8040 ins)]) hP hD [0, 1, 2, 3, 4, 6, 7, 8, 9, 10] [5, 11, 12, 13] [5, 11, 12, 13] [0, 1, 2, 3, 4, 6, 7, 8, 9, 10] [4, 5, 6, 7, 8, 0, 9, 10, 11, 12, 13, 1, 2, 3] 14 rfl rfl rfl rfl rfl rfl rfl rfl rfl hk1 hFc hP1 hD1
                      clear hk1 hPc hDc hFc hP1 hD1 ht
                      refine zz_i (v := pI ((fun k => ∃ e, e < eO (kd f).toInt on ∧ swp on ox oy (cF40 cx f) (cF40 cy f) (cF40 cx g k).toInt (cF40 cy g k).toInt e) k)) (rfl) ?_
                      refine lv_if_eq (tgt := 185) hx hb dX11_isLawfulTo_180 rfl (fun c_34 => ?_) (fun c_34 => ?_)
                      · have c_34 : ¬ ((fun k => ∃ e, e < eO (kd f).toInt on ∧ swp on ox oy (cF40 cx f) (cF40 cy f) (cF40 cx g k).toInt (cF40 cy g k).toInt e) k) := zp_0 c_34
                        refine lv_iinc (v := nI (k + 1)) (lv' := [(5, .int (nI (k + 1))), (7, .int (cy (40 * g + k))), (6, .int (cx (40 * g + k))), (0, .ref k0), (1, .int (nI f)), (2, .int (nI g)), (3, .int (nI h)), (4, .int (-1))]) hx hb dX11_isLawfulTo_185 hl (k := 2) rfl (nI_add k 1) (Nat.le_of_ble_eq_true rfl) rfl (fun ls hl => ?_)
                        refine lv_goto (tgt := 62) hx hb dX11_isLawfulTo_188 rfl ?_
                        exact ih_62 (k + 1) (nI on) q_23 q_31 q_32 q_33 H locs ls (by first | with_reducible assumption | omega) (by first | with_reducible assumption | omega) (by intro j hj; rcases Nat.lt_or_ge j k with h | h; exact hall j h; obtain rfl : j = k := (by first | with_reducible assumption | omega); exact ⟨fun h5 => (by first | (exfalso; omega) | exact zp_ieq.mp (by first | with_reducible assumption | assumption)), fun h0 => (by first | (exfalso; omega) | exact id | assumption)⟩) hP hD hS (lv_sub hl [0, 3, 4, 5, 6, 7] rfl)
                      · have c_34 : (fun k => ∃ e, e < eO (kd f).toInt on ∧ swp on ox oy (cF40 cx f) (cF40 cy f) (cF40 cx g k).toInt (cF40 cy g k).toInt e) k := zp_1 c_34
                        refine lv_iconst (v := 0) hx hb dX11_isLawfulTo_183 rfl ?_
                        obtain ⟨hP9, hD9⟩ := zq_sub (wc := [(om k0 a (upd I0 31 (nI on)) J0), (oa (a 1) cI 201 kd), (oa (a 11) cI 201 mn), (oa (a 12) cI 8040 cx), (oa (a 13) cI 8040 cy), (oa (a 32) cI 8 q_23), (oa (a 40) cI 6 q_31), (oa (a 29) cI 42 q_32), (oa (a 30) cI 42 q_33), (oa (a 33) cI 42 ox), (oa (a 34) cI 42 oy), (oa (a 37) cZ 201 mt), (oa (a 38) cZ 201 wi), (oa (a 39) cZ 8040 ins)]) hP hD [0, 1, 2, 3, 4, 5, 6, 7, 8, 9, 10, 11, 12, 13] rfl rfl
                        rw [hQ9]
                        exact W.zret (ty := .boolean) (v := 0) hx hb hr (rfl) (fun t ht hW => ⟨⟨congrArg (fun z => Outcome.returned (some (Value.int z))) (show (0 : Int32) = pI (lawTo (ox 0) (oy 0) (kd f).toInt n (cF40 cx f) (cF40 cy f) (kd g).toInt m2 (cF40 cx g) (cF40 cy g) MT WI IN (fun k => ∃ e, e < eO (kd f).toInt on ∧ swp on ox oy (cF40 cx f) (cF40 cy f) (cF40 cx g k).toInt (cF40 cy g k).toInt e)) from (zp_f (fun h => (h.2.2.1 k (by omega)).2 (by omega) (by first | with_reducible assumption | assumption))).symm), (nI on), q_23, q_31, q_32, q_33, by rw [ht]; exact hP9, hD9⟩, hS.F ht⟩) hS.2.2 dX11_isLawfulTo_184
                    · exact absurd (by decide) c_30
              · have c_25 : ¬ (pI (inF (kd f).toInt n (cF40 cx f) (cF40 cy f) (cF40 cx g k).toInt (cF40 cy g k).toInt)).toInt = (pI (IN k)).toInt := zc_ne rfl rfl c_25
                refine lv_iconst (v := 0) hx hb dX11_isLawfulTo_133 rfl ?_
                obtain ⟨hP9, hD9⟩ := zq_sub (wc := [(om k0 a (upd I0 31 z9) J0), (oa (a 1) cI 201 kd), (oa (a 11) cI 201 mn), (oa (a 12) cI 8040 cx), (oa (a 13) cI 8040 cy), (oa (a 32) cI 8 q_23), (oa (a 40) cI 6 T1), (oa (a 29) cI 42 P1), (oa (a 30) cI 42 Q1), (oa (a 33) cI 42 ox), (oa (a 34) cI 42 oy), (oa (a 37) cZ 201 mt), (oa (a 38) cZ 201 wi), (oa (a 39) cZ 8040 ins)]) hP hD [0, 1, 2, 3, 4, 5, 6, 7, 8, 9, 10, 11, 12, 13] rfl rfl
                rw [hQ9]
                exact W.zret (ty := .boolean) (v := 0) hx hb hr (rfl) (fun t ht hW => ⟨⟨congrArg (fun z => Outcome.returned (some (Value.int z))) (show (0 : Int32) = pI (lawTo (ox 0) (oy 0) (kd f).toInt n (cF40 cx f) (cF40 cy f) (kd g).toInt m2 (cF40 cx g) (cF40 cy g) MT WI IN (fun k => ∃ e, e < eO (kd f).toInt on ∧ swp on ox oy (cF40 cx f) (cF40 cy f) (cF40 cx g k).toInt (cF40 cy g k).toInt e)) from (zp_f (fun h => absurd (zp_ieq.mpr ((h.2.2.1 k (by omega)).1 (by omega))) (by first | with_reducible assumption | assumption))).symm), z9, q_23, T1, P1, Q1, by rw [ht]; exact hP9, hD9⟩, hS.F ht⟩) hS.2.2 dX11_isLawfulTo_134
      exact hl_62 _ 0 (I0 31) q_1 T0 P0 Q0 H locs ls (Nat.lt_succ_self _) (by first | with_reducible assumption | omega) (by intro j hj; omega) hP hD hS (lv_sub hl [0, 1, 2, 3, 4, 5] rfl)
    · have c_4 : 5 ≤ (kd g).toInt := zp_1 c_4
      refine lv_aload_n hx hb dX11_isLawfulTo_25 rfl (lv_at hl 0 rfl) ?_
      refine lv_iload_n hx hb dX11_isLawfulTo_26 rfl (lv_at hl 2 rfl) ?_
      refine lv_aload_n hx hb dX11_isLawfulTo_27 rfl (lv_at hl 0 rfl) ?_
      refine va_get (D := (dC, dI)) (ci := 9) (v := .ref (a 12)) (C := RX11) (T := TX11) (N := 55) hx hb hts inX11 hown hK hP 0 rfl rfl 12 (Nat.le_of_ble_eq_true rfl) (hts _ mw_1171) (fun _ h9 => h9) rfl dX11_isLawfulTo_28 ?_
      refine lv_bipush (v := 40) hx hb dX11_isLawfulTo_31 rfl ?_
      refine lv_iload_n hx hb dX11_isLawfulTo_33 rfl (lv_at hl 1 rfl) ?_
      refine lv_imul hx hb dX11_isLawfulTo_34 ?_
      refine zz_i (v := nI (40 * f)) (pk_mul 40 f) ?_
      have b9_35 : 40 * f < 8040 := by omega
      refine z_iald hx hb hK hP 3 0 rfl rfl (e := 40 * f) rfl b9_35 (Nat.le_of_ble_eq_true rfl) dX11_isLawfulTo_35 ?_
      refine lv_aload_n hx hb dX11_isLawfulTo_36 rfl (lv_at hl 0 rfl) ?_
      refine va_get (D := (dC, dI)) (ci := 9) (v := .ref (a 13)) (C := RX11) (T := TX11) (N := 55) hx hb hts inX11 hown hK hP 0 rfl rfl 13 (Nat.le_of_ble_eq_true rfl) (hts _ mw_1172) (fun _ h9 => h9) rfl dX11_isLawfulTo_37 ?_
      refine lv_bipush (v := 40) hx hb dX11_isLawfulTo_40 rfl ?_
      refine lv_iload_n hx hb dX11_isLawfulTo_42 rfl (lv_at hl 1 rfl) ?_
      refine lv_imul hx hb dX11_isLawfulTo_43 ?_
      refine zz_i (v := nI (40 * f)) (pk_mul 40 f) ?_
      refine z_iald hx hb hK hP 4 0 rfl rfl (e := 40 * f) rfl b9_35 (Nat.le_of_ble_eq_true rfl) dX11_isLawfulTo_44 ?_
      obtain ⟨hPc, hDc, hFc⟩ := zc_sub (wc := [(om k0 a I0 J0), (oa (a 1) cI 201 kd), (oa (a 11) cI 201 mn), (oa (a 12) cI 8040 cx), (oa (a 13) cI 8040 cy), (oa (a 32) cI 8 q_1)]) hP hD hS hA [0, 1, 2, 3, 4, 5] rfl rfl
      refine zcall (st1 := [.int (pI (¬ (∃ i, i < eO (kd g).toInt m2 ∧ eOn m2 (cF40 cx g) (cF40 cy g) i (cx (40 * f)).toInt (cy (40 * f)).toInt) ∧ par2 (eTg m2 (cF40 cx g) (cF40 cy g) (cx (40 * f)).toInt (cy (40 * f)).toInt) (eO (kd g).toInt m2)))]) (va_runV (As := [.int (nI g), .int (cx (40 * f)), .int (cy (40 * f))]) (rest := []) ⟨hx, hb, hml, hown, hts⟩ (k_M_isInside l dC dI cI cZ cF H.size k0 a I0 J0 g m2 kd mn cx cy q_1 (cx (40 * f)) (cy (40 * f)) (by first | with_reducible assumption | omega) (by first | with_reducible assumption | assumption) (by first | with_reducible assumption | omega) (by first | with_reducible assumption | assumption) ((hp_f 0 (by first | with_reducible assumption | omega)).1) ((hp_f 0 (by first | with_reducible assumption | omega)).2)) (csV_183 hts rfl rfl ⟨Nat.le_of_ble_eq_true rfl, Nat.le_of_ble_eq_true rfl⟩) (zPV2 (q0 := 0) (ci := 9) hPc hDc hK hXN rfl rfl) rfl rfl hl.1 rfl (lv_room (Nat.le_of_ble_eq_true rfl)) dX11_isLawfulTo_45 ⟨Nat.le_of_ble_eq_true rfl, Nat.le_of_ble_eq_true rfl⟩) hS hFc hFc rfl (fun t H locs ht hB hk1 hS => ?_)
      obtain ⟨q_36, hP1, hD1⟩ := hB
      rw [ht] at hP1
      obtain ⟨hP, hD⟩ := zk (W2 := [(om k0 a I0 J0), (oa (a 1) cI 201 kd), (oa (a 11) cI 201 mn), (oa (a 12) cI 8040 cx), (oa (a 13) cI 8040 cy), (oa (a 32) cI 8 q_36), (oa (a 40) cI 6 T0), (oa (a 29) cI 42 P0), (oa (a 30) cI 42 Q0), (oa (a 33) cI 42 ox), (oa (a 34) cI 42 oy), (oa (a 37) cZ 201 mt), (oa (a 38) cZ 201 wi), (oa (a 39) cZ 8040 ins)]) hP hD [0, 1, 2, 3, 4, 5] [6, 7, 8, 9, 10, 11, 12, 13] [6, 7, 8, 9, 10, 11, 12, 13] [0, 1, 2, 3, 4, 5] [8, 9, 10, 11, 12, 13, 0, 1, 2, 3, 4, 5, 6, 7] 14 rfl rfl rfl rfl rfl rfl rfl rfl rfl hk1 hFc hP1 hD1
      clear hk1 hPc hDc hFc hP1 hD1 ht
      refine zz_i (v := pI (inF (kd g).toInt m2 (cF40 cx g) (cF40 cy g) (cF40 cx f 0).toInt (cF40 cy f 0).toInt)) (rfl) ?_
      refine lv_aload_n hx hb dX11_isLawfulTo_48 rfl (lv_at hl 0 rfl) ?_
      refine va_get (D := (dC, dI)) (ci := 9) (v := .ref (a 38)) (C := RX11) (T := TX11) (N := 55) hx hb hts inX11 hown hK hP 0 rfl rfl 38 (Nat.le_of_ble_eq_true rfl) (hts _ mw_1197) (fun _ h9 => h9) rfl dX11_isLawfulTo_49 ?_
      refine lv_iload_n hx hb dX11_isLawfulTo_52 rfl (lv_at hl 2 rfl) ?_
      refine z_zald hx hb hK hP 12 1 rfl rfl (e := g) rfl b9_2 (Nat.le_of_ble_eq_true rfl) dX11_isLawfulTo_53 ?_
      refine zz_i (v := pI WI) (hwi (by omega)) ?_
      refine lv_icmp_eq (tgt := 59) hx hb dX11_isLawfulTo_54 rfl (fun c_37 => ?_) (fun c_37 => ?_)
      · have c_37 : (pI (inF (kd g).toInt m2 (cF40 cx g) (cF40 cy g) (cF40 cx f 0).toInt (cF40 cy f 0).toInt)).toInt = (pI WI).toInt := zc_eq rfl rfl c_37
        refine lv_iconst (v := 0) hx hb dX11_isLawfulTo_59 rfl ?_
        refine lv_istore (lv' := [(5, .int 0), (0, .ref k0), (1, .int (nI f)), (2, .int (nI g)), (3, .int (nI h)), (4, .int (-1))]) hx hb dX11_isLawfulTo_60 hl (Nat.le_of_ble_eq_true rfl) rfl (fun ls hl => ?_)
        have hl_62 : ∀ (n9 : Nat) (k : Nat) (z9 : Int32) (S1 : Nat → Int32) (T1 : Nat → Int32) (P1 : Nat → Int32) (Q1 : Nat → Int32) (H : Heap) (locs : List Loc) (ls : Array Slot), m2 - k < n9 → (k ≤ m2) → (∀ j, j < k → (5 ≤ (kd f).toInt → (inF (kd f).toInt n (cF40 cx f) (cF40 cy f) (cF40 cx g j).toInt (cF40 cy g j).toInt ↔ IN j)) ∧ (¬ (kd f).toInt = 0 → ¬ (fun k => ∃ e, e < eO (kd f).toInt on ∧ swp on ox oy (cF40 cx f) (cF40 cy f) (cF40 cx g k).toInt (cF40 cy g k).toInt e) j)) → va_P (dC, dI) classes [(om k0 a (upd I0 31 z9) J0), (oa (a 1) cI 201 kd), (oa (a 11) cI 201 mn), (oa (a 12) cI 8040 cx), (oa (a 13) cI 8040 cy), (oa (a 32) cI 8 S1), (oa (a 40) cI 6 T1), (oa (a 29) cI 42 P1), (oa (a 30) cI 42 Q1), (oa (a 33) cI 42 ox), (oa (a 34) cI 42 oy), (oa (a 37) cZ 201 mt), (oa (a 38) cZ 201 wi), (oa (a 39) cZ 8040 ins)] H → va_D A [(om k0 a (upd I0 31 z9) J0), (oa (a 1) cI 201 kd), (oa (a 11) cI 201 mn), (oa (a 12) cI 8040 cx), (oa (a 13) cI 8040 cy), (oa (a 32) cI 8 S1), (oa (a 40) cI 6 T1), (oa (a 29) cI 42 P1), (oa (a 30) cI 42 Q1), (oa (a 33) cI 42 ox), (oa (a 34) cI 42 oy), (oa (a 37) cZ 201 mt), (oa (a 38) cZ 201 wi), (oa (a 39) cZ 8040 ins)] → va_S A s.heap H locs → lv_has ls 8 [(5, .int (nI k)), (0, .ref k0), (1, .int (nI f)), (2, .int (nI g)), (3, .int (nI h)), (4, .int (-1))] → W p l e ((headSpec (.code yX11_isLawfulTo cX11_isLawfulTo 8 (some .boolean) :: ws0) ({ frames := 5, cells := 0, slots := 0, locals := 135 } : Room)).room) s m ([.ref k0, .int (nI f), .int (nI g), .int (nI h), .int (-1)] : List Value).toArray below meth c H locs 0 0 Q9 (F0 m 62 ls []) := by
          intro n9
          induction n9 with
          | zero => intro k z9 S1 T1 P1 Q1 H locs ls hm; exact absurd hm (Nat.not_lt_zero _)
          | succ n9 ih_62 =>
            intro k z9 S1 T1 P1 Q1 H locs ls hm hk hall hP hD hS hl
            refine lv_iload hx hb dX11_isLawfulTo_62 (lv_at hl 0 rfl) ?_
            refine lv_aload_n hx hb dX11_isLawfulTo_64 rfl (lv_at hl 1 rfl) ?_
            refine va_get (D := (dC, dI)) (ci := 9) (v := .ref (a 11)) (C := RX11) (T := TX11) (N := 55) hx hb hts inX11 hown hK hP 0 rfl rfl 11 (Nat.le_of_ble_eq_true rfl) (hts _ mw_1170) (fun _ h9 => h9) rfl dX11_isLawfulTo_65 ?_
            refine lv_iload_n hx hb dX11_isLawfulTo_68 rfl (lv_at hl 3 rfl) ?_
            refine z_iald hx hb hK hP 2 0 rfl rfl (e := g) rfl b9_2 (Nat.le_of_ble_eq_true rfl) dX11_isLawfulTo_69 ?_
            refine zz_i (v := nI m2) (hm_g) ?_
            have b9_39 : k < 2147483648 := by omega
            have b9_40 : m2 < 2147483648 := by omega
            refine lv_icmp_ge (tgt := 191) hx hb dX11_isLawfulTo_70 rfl (fun c_38 => ?_) (fun c_38 => ?_)
            · have c_38 : ((m2 : Nat) : Int) ≤ ((k : Nat) : Int) := zc_le (nI_toInt b9_40) (nI_toInt b9_39) c_38
              refine lv_aload_n hx hb dX11_isLawfulTo_191 rfl (lv_at hl 1 rfl) ?_
              refine va_get (D := (dC, dI)) (ci := 9) (v := .ref (a 1)) (C := RX11) (T := TX11) (N := 55) hx hb hts inX11 hown hK hP 0 rfl rfl 1 (Nat.le_of_ble_eq_true rfl) (hts _ mw_1160) (fun _ h9 => h9) rfl dX11_isLawfulTo_192 ?_
              refine lv_iload_n hx hb dX11_isLawfulTo_195 rfl (lv_at hl 2 rfl) ?_
              have b9_41 : f < 201 := by omega
              refine z_iald hx hb hK hP 1 0 rfl rfl (e := f) rfl b9_41 (Nat.le_of_ble_eq_true rfl) dX11_isLawfulTo_196 ?_
              refine lv_if_ne (tgt := 209) hx hb dX11_isLawfulTo_197 rfl (fun c_42 => ?_) (fun c_42 => ?_)
              · have c_42 : ¬ (kd f).toInt = 0 := zc_ne rfl rfl c_42
                refine lv_iconst (v := 1) hx hb dX11_isLawfulTo_209 rfl ?_
                refine lv_goto (tgt := 214) hx hb dX11_isLawfulTo_210 rfl ?_
                obtain ⟨hP9, hD9⟩ := zq_sub (wc := [(om k0 a (upd I0 31 z9) J0), (oa (a 1) cI 201 kd), (oa (a 11) cI 201 mn), (oa (a 12) cI 8040 cx), (oa (a 13) cI 8040 cy), (oa (a 32) cI 8 S1), (oa (a 40) cI 6 T1), (oa (a 29) cI 42 P1), (oa (a 30) cI 42 Q1), (oa (a 33) cI 42 ox), (oa (a 34) cI 42 oy), (oa (a 37) cZ 201 mt), (oa (a 38) cZ 201 wi), (oa (a 39) cZ 8040 ins)]) hP hD [0, 1, 2, 3, 4, 5, 6, 7, 8, 9, 10, 11, 12, 13] rfl rfl
                rw [hQ9]
                exact W.zret (ty := .boolean) (v := 1) hx hb hr (rfl) (fun t ht hW => ⟨⟨congrArg (fun z => Outcome.returned (some (Value.int z))) (show (1 : Int32) = pI (lawTo (ox 0) (oy 0) (kd f).toInt n (cF40 cx f) (cF40 cy f) (kd g).toInt m2 (cF40 cx g) (cF40 cy g) MT WI IN (fun k => ∃ e, e < eO (kd f).toInt on ∧ swp on ox oy (cF40 cx f) (cF40 cy f) (cF40 cx g k).toInt (cF40 cy g k).toInt e)) from (zp_t (by first | exact ⟨zp_ieq.mp (by first | with_reducible assumption | assumption), fun h => (by first | (exfalso; omega) | exact zp_ieq.mp (by first | with_reducible assumption | assumption)), fun j hj => hall j (by omega), fun h => (by first | (exfalso; omega) | assumption)⟩ | exact fun h => absurd (h.2.2.2 (by omega)) (by first | with_reducible assumption | assumption))).symm), z9, S1, T1, P1, Q1, by rw [ht]; exact hP9, hD9⟩, hS.F ht⟩) hS.2.2 dX11_isLawfulTo_214
              · have c_42 : (kd f).toInt = 0 := zc_eq rfl rfl c_42
                refine lv_aload_n hx hb dX11_isLawfulTo_200 rfl (lv_at hl 1 rfl) ?_
                refine lv_iload_n hx hb dX11_isLawfulTo_201 rfl (lv_at hl 2 rfl) ?_
                refine lv_iload_n hx hb dX11_isLawfulTo_202 rfl (lv_at hl 3 rfl) ?_
                obtain ⟨hPc, hDc, hFc⟩ := zc_sub (wc := [(om k0 a (upd I0 31 z9) J0), (oa (a 1) cI 201 kd), (oa (a 11) cI 201 mn), (oa (a 12) cI 8040 cx), (oa (a 13) cI 8040 cy), (oa (a 32) cI 8 S1), (oa (a 33) cI 42 ox), (oa (a 34) cI 42 oy)]) hP hD hS hA [0, 1, 2, 3, 4, 5, 9, 10] rfl rfl
                refine zcall (st1 := [.int (pI (∀ k, k < eO (kd g).toInt m2 → fWy (ox 0).toInt (oy 0).toInt (cx (40 * f)).toInt (cy (40 * f)).toInt m2 (cF40 cx g) (cF40 cy g) k))]) (va_runV (As := [.int (nI f), .int (nI g)]) (rest := []) ⟨hx, hb, hml, hown, hts⟩ (k_M_isFreeWay l dC dI cI cZ cF H.size k0 a (upd I0 31 z9) J0 f g m2 kd mn cx cy S1 ox oy (by first | with_reducible assumption | omega) ((hpo 0 (by first | with_reducible assumption | omega)).1) ((hpo 0 (by first | with_reducible assumption | omega)).2) ((hp_f 0 (by first | with_reducible assumption | omega)).1) ((hp_f 0 (by first | with_reducible assumption | omega)).2) (by first | with_reducible assumption | omega) (by first | with_reducible assumption | assumption) (by first | with_reducible assumption | omega) (by first | with_reducible assumption | assumption)) (csV_181 hts rfl rfl ⟨Nat.le_of_ble_eq_true rfl, Nat.le_of_ble_eq_true rfl⟩) (zPV2 (q0 := 0) (ci := 9) hPc hDc hK hXN rfl rfl) rfl rfl hl.1 rfl (lv_room (Nat.le_of_ble_eq_true rfl)) dX11_isLawfulTo_203 ⟨Nat.le_of_ble_eq_true rfl, Nat.le_of_ble_eq_true rfl⟩) hS hFc hFc rfl (fun t H locs ht hB hk1 hS => ?_)
                obtain ⟨q_43, hP1, hD1⟩ := hB
                rw [ht] at hP1
                obtain ⟨hP, hD⟩ := zk (W2 := [(om k0 a (upd I0 31 z9) J0), (oa (a 1) cI 201 kd), (oa (a 11) cI 201 mn), (oa (a 12) cI 8040 cx), (oa (a 13) cI 8040 cy), (oa (a 32) cI 8 q_43), (oa (a 40) cI 6 T1), (oa (a 29) cI 42 P1), (oa (a 30) cI 42 Q1), (oa (a 33) cI 42 ox), (oa (a 34) cI 42 oy), (oa (a 37) cZ 201 mt), (oa (a 38) cZ 201 wi), (oa (a 39) cZ 8040 ins)]) hP hD [0, 1, 2, 3, 4, 5, 9, 10] [6, 7, 8, 11, 12, 13] [6, 7, 8, 11, 12, 13] [0, 1, 2, 3, 4, 5, 9, 10] [6, 7, 8, 9, 10, 11, 0, 1, 2, 12, 13, 3, 4, 5] 14 rfl rfl rfl rfl rfl rfl rfl rfl rfl hk1 hFc hP1 hD1
                clear hk1 hPc hDc hFc hP1 hD1 ht
                refine zz_i (v := pI (∀ k, k < eO (kd g).toInt m2 → fWy (ox 0).toInt (oy 0).toInt (cF40 cx f 0).toInt (cF40 cy f 0).toInt m2 (cF40 cx g) (cF40 cy g) k)) (rfl) ?_
                refine lv_if_eq (tgt := 213) hx hb dX11_isLawfulTo_206 rfl (fun c_44 => ?_) (fun c_44 => ?_)
                · have c_44 : ¬ (∀ k, k < eO (kd g).toInt m2 → fWy (ox 0).toInt (oy 0).toInt (cF40 cx f 0).toInt (cF40 cy f 0).toInt m2 (cF40 cx g) (cF40 cy g) k) := zp_0 c_44
                  refine lv_iconst (v := 0) hx hb dX11_isLawfulTo_213 rfl ?_
                  obtain ⟨hP9, hD9⟩ := zq_sub (wc := [(om k0 a (upd I0 31 z9) J0), (oa (a 1) cI 201 kd), (oa (a 11) cI 201 mn), (oa (a 12) cI 8040 cx), (oa (a 13) cI 8040 cy), (oa (a 32) cI 8 q_43), (oa (a 40) cI 6 T1), (oa (a 29) cI 42 P1), (oa (a 30) cI 42 Q1), (oa (a 33) cI 42 ox), (oa (a 34) cI 42 oy), (oa (a 37) cZ 201 mt), (oa (a 38) cZ 201 wi), (oa (a 39) cZ 8040 ins)]) hP hD [0, 1, 2, 3, 4, 5, 6, 7, 8, 9, 10, 11, 12, 13] rfl rfl
                  rw [hQ9]
                  exact W.zret (ty := .boolean) (v := 0) hx hb hr (rfl) (fun t ht hW => ⟨⟨congrArg (fun z => Outcome.returned (some (Value.int z))) (show (0 : Int32) = pI (lawTo (ox 0) (oy 0) (kd f).toInt n (cF40 cx f) (cF40 cy f) (kd g).toInt m2 (cF40 cx g) (cF40 cy g) MT WI IN (fun k => ∃ e, e < eO (kd f).toInt on ∧ swp on ox oy (cF40 cx f) (cF40 cy f) (cF40 cx g k).toInt (cF40 cy g k).toInt e)) from (zp_f (by first | exact ⟨zp_ieq.mp (by first | with_reducible assumption | assumption), fun h => (by first | (exfalso; omega) | exact zp_ieq.mp (by first | with_reducible assumption | assumption)), fun j hj => hall j (by omega), fun h => (by first | (exfalso; omega) | assumption)⟩ | exact fun h => absurd (h.2.2.2 (by omega)) (by first | with_reducible assumption | assumption))).symm), z9, q_43, T1, P1, Q1, by rw [ht]; exact hP9, hD9⟩, hS.F ht⟩) hS.2.2 dX11_isLawfulTo_214
                · have c_44 : ∀ k, k < eO (kd g).toInt m2 → fWy (ox 0).toInt (oy 0).toInt (cF40 cx f 0).toInt (cF40 cy f 0).toInt m2 (cF40 cx g) (cF40 cy g) k := zp_1 c_44
                  refine lv_iconst (v := 1) hx hb dX11_isLawfulTo_209 rfl ?_
                  refine lv_goto (tgt := 214) hx hb dX11_isLawfulTo_210 rfl ?_
                  obtain ⟨hP9, hD9⟩ := zq_sub (wc := [(om k0 a (upd I0 31 z9) J0), (oa (a 1) cI 201 kd), (oa (a 11) cI 201 mn), (oa (a 12) cI 8040 cx), (oa (a 13) cI 8040 cy), (oa (a 32) cI 8 q_43), (oa (a 40) cI 6 T1), (oa (a 29) cI 42 P1), (oa (a 30) cI 42 Q1), (oa (a 33) cI 42 ox), (oa (a 34) cI 42 oy), (oa (a 37) cZ 201 mt), (oa (a 38) cZ 201 wi), (oa (a 39) cZ 8040 ins)]) hP hD [0, 1, 2, 3, 4, 5, 6, 7, 8, 9, 10, 11, 12, 13] rfl rfl
                  rw [hQ9]
                  exact W.zret (ty := .boolean) (v := 1) hx hb hr (rfl) (fun t ht hW => ⟨⟨congrArg (fun z => Outcome.returned (some (Value.int z))) (show (1 : Int32) = pI (lawTo (ox 0) (oy 0) (kd f).toInt n (cF40 cx f) (cF40 cy f) (kd g).toInt m2 (cF40 cx g) (cF40 cy g) MT WI IN (fun k => ∃ e, e < eO (kd f).toInt on ∧ swp on ox oy (cF40 cx f) (cF40 cy f) (cF40 cx g k).toInt (cF40 cy g k).toInt e)) from (zp_t (by first | exact ⟨zp_ieq.mp (by first | with_reducible assumption | assumption), fun h => (by first | (exfalso; omega) | exact zp_ieq.mp (by first | with_reducible assumption | assumption)), fun j hj => hall j (by omega), fun h => (by first | (exfalso; omega) | assumption)⟩ | exact fun h => absurd (h.2.2.2 (by omega)) (by first | with_reducible assumption | assumption))).symm), z9, q_43, T1, P1, Q1, by rw [ht]; exact hP9, hD9⟩, hS.F ht⟩) hS.2.2 dX11_isLawfulTo_214
            · have c_38 : ((k : Nat) : Int) < ((m2 : Nat) : Int) := zc_nle (nI_toInt b9_40) (nI_toInt b9_39) c_38
              have hk9 : k < m2 := (by omega)
              refine lv_aload_n hx hb dX11_isLawfulTo_73 rfl (lv_at hl 1 rfl) ?_
              refine va_get (D := (dC, dI)) (ci := 9) (v := .ref (a 12)) (C := RX11) (T := TX11) (N := 55) hx hb hts inX11 hown hK hP 0 rfl rfl 12 (Nat.le_of_ble_eq_true rfl) (hts _ mw_1171) (fun _ h9 => h9) rfl dX11_isLawfulTo_74 ?_
              refine lv_bipush (v := 40) hx hb dX11_isLawfulTo_77 rfl ?_
              refine lv_iload_n hx hb dX11_isLawfulTo_79 rfl (lv_at hl 3 rfl) ?_
              refine lv_imul hx hb dX11_isLawfulTo_80 ?_
              refine zz_i (v := nI (40 * g)) (pk_mul 40 g) ?_
              refine lv_iload hx hb dX11_isLawfulTo_81 (lv_at hl 0 rfl) ?_
              refine lv_iadd hx hb dX11_isLawfulTo_83 ?_
              refine zz_i (v := nI (40 * g + k)) (nI_add (40 * g) k) ?_
              have b9_45 : 40 * g + k < 8040 := by omega
              refine z_iald hx hb hK hP 3 0 rfl rfl (e := 40 * g + k) rfl b9_45 (Nat.le_of_ble_eq_true rfl) dX11_isLawfulTo_84 ?_
              refine lv_istore (lv' := [(6, .int (cx (40 * g + k))), (5, .int (nI k)), (0, .ref k0), (1, .int (nI f)), (2, .int (nI g)), (3, .int (nI h)), (4, .int (-1))]) hx hb dX11_isLawfulTo_85 hl (Nat.le_of_ble_eq_true rfl) rfl (fun ls hl => ?_)
              refine lv_aload_n hx hb dX11_isLawfulTo_87 rfl (lv_at hl 2 rfl) ?_
              refine va_get (D := (dC, dI)) (ci := 9) (v := .ref (a 13)) (C := RX11) (T := TX11) (N := 55) hx hb hts inX11 hown hK hP 0 rfl rfl 13 (Nat.le_of_ble_eq_true rfl) (hts _ mw_1172) (fun _ h9 => h9) rfl dX11_isLawfulTo_88 ?_
              refine lv_bipush (v := 40) hx hb dX11_isLawfulTo_91 rfl ?_
              refine lv_iload_n hx hb dX11_isLawfulTo_93 rfl (lv_at hl 4 rfl) ?_
              refine lv_imul hx hb dX11_isLawfulTo_94 ?_
              refine zz_i (v := nI (40 * g)) (pk_mul 40 g) ?_
              refine lv_iload hx hb dX11_isLawfulTo_95 (lv_at hl 1 rfl) ?_
              refine lv_iadd hx hb dX11_isLawfulTo_97 ?_
              refine zz_i (v := nI (40 * g + k)) (nI_add (40 * g) k) ?_
              refine z_iald hx hb hK hP 4 0 rfl rfl (e := 40 * g + k) rfl b9_45 (Nat.le_of_ble_eq_true rfl) dX11_isLawfulTo_98 ?_
              refine lv_istore (lv' := [(7, .int (cy (40 * g + k))), (6, .int (cx (40 * g + k))), (5, .int (nI k)), (0, .ref k0), (1, .int (nI f)), (2, .int (nI g)), (3, .int (nI h)), (4, .int (-1))]) hx hb dX11_isLawfulTo_99 hl (Nat.le_of_ble_eq_true rfl) rfl (fun ls hl => ?_)
              refine lv_aload_n hx hb dX11_isLawfulTo_101 rfl (lv_at hl 3 rfl) ?_
              refine lv_iload_n hx hb dX11_isLawfulTo_102 rfl (lv_at hl 4 rfl) ?_
              obtain ⟨hPc, hDc, hFc⟩ := zc_sub (wc := [(om k0 a (upd I0 31 z9) J0), (oa (a 1) cI 201 kd)]) hP hD hS hA [0, 1] rfl rfl
              refine zcall (st1 := [.int (pI (5 ≤ (kd f).toInt))]) (va_runV (As := [.int (nI f)]) (rest := []) ⟨hx, hb, hml, hown, hts⟩ (k_M_isRing l dC dI cI cZ cF H.size k0 a (upd I0 31 z9) J0 f kd (by first | with_reducible assumption | omega)) (csV_165 hts rfl rfl ⟨Nat.le_of_ble_eq_true rfl, Nat.le_of_ble_eq_true rfl⟩) (zPV2 (q0 := 0) (ci := 9) hPc hDc hK hXN rfl rfl) rfl rfl hl.1 rfl (lv_room (Nat.le_of_ble_eq_true rfl)) dX11_isLawfulTo_103 ⟨Nat.le_of_ble_eq_true rfl, Nat.le_of_ble_eq_true rfl⟩) hS hFc hFc rfl (fun t H locs ht hB hk1 hS => ?_)
              obtain ⟨hP1, hD1⟩ := hB
              rw [ht] at hP1
              obtain ⟨hP, hD⟩ := zk (W2 := [(om k0 a (upd I0 31 z9) J0), (oa (a 1) cI 201 kd), (oa (a 11) cI 201 mn), (oa (a 12) cI 8040 cx), (oa (a 13) cI 8040 cy), (oa (a 32) cI 8 S1), (oa (a 40) cI 6 T1), (oa (a 29) cI 42 P1), (oa (a 30) cI 42 Q1), (oa (a 33) cI 42 ox), (oa (a 34) cI 42 oy), (oa (a 37) cZ 201 mt), (oa (a 38) cZ 201 wi), (oa (a 39) cZ 8040 ins)]) hP hD [0, 1] [2, 3, 4, 5, 6, 7, 8, 9, 10, 11, 12, 13] [2, 3, 4, 5, 6, 7, 8, 9, 10, 11, 12, 13] [0, 1] [12, 13, 0, 1, 2, 3, 4, 5, 6, 7, 8, 9, 10, 11] 14 rfl rfl rfl rfl rfl rfl rfl rfl rfl hk1 hFc hP1 hD1
              clear hk1 hPc hDc hFc hP1 hD1 ht
              refine lv_if_eq (tgt := 135) hx hb dX11_isLawfulTo_106 rfl (fun c_46 => ?_) (fun c_46 => ?_)
              · have c_46 : ¬ (5 ≤ (kd f).toInt) := zp_0 c_46
                refine lv_aload_n hx hb dX11_isLawfulTo_135 rfl (lv_at hl 3 rfl) ?_
                refine va_get (D := (dC, dI)) (ci := 9) (v := .ref (a 1)) (C := RX11) (T := TX11) (N := 55) hx hb hts inX11 hown hK hP 0 rfl rfl 1 (Nat.le_of_ble_eq_true rfl) (hts _ mw_1160) (fun _ h9 => h9) rfl dX11_isLawfulTo_136 ?_
                refine lv_iload_n hx hb dX11_isLawfulTo_139 rfl (lv_at hl 4 rfl) ?_
                have b9_47 : f < 201 := by omega
                refine z_iald hx hb hK hP 1 0 rfl rfl (e := f) rfl b9_47 (Nat.le_of_ble_eq_true rfl) dX11_isLawfulTo_140 ?_
                refine lv_if_eq (tgt := 185) hx hb dX11_isLawfulTo_141 rfl (fun c_48 => ?_) (fun c_48 => ?_)
                · have c_48 : (kd f).toInt = 0 := zc_eq rfl rfl c_48
                  refine lv_iinc (v := nI (k + 1)) (lv' := [(5, .int (nI (k + 1))), (7, .int (cy (40 * g + k))), (6, .int (cx (40 * g + k))), (0, .ref k0), (1, .int (nI f)), (2, .int (nI g)), (3, .int (nI h)), (4, .int (-1))]) hx hb dX11_isLawfulTo_185 hl (k := 2) rfl (nI_add k 1) (Nat.le_of_ble_eq_true rfl) rfl (fun ls hl => ?_)
                  refine lv_goto (tgt := 62) hx hb dX11_isLawfulTo_188 rfl ?_
                  exact ih_62 (k + 1) z9 S1 T1 P1 Q1 H locs ls (by first | with_reducible assumption | omega) (by first | with_reducible assumption | omega) (by intro j hj; rcases Nat.lt_or_ge j k with h | h; exact hall j h; obtain rfl : j = k := (by first | with_reducible assumption | omega); exact ⟨fun h5 => (by first | (exfalso; omega) | exact zp_ieq.mp (by first | with_reducible assumption | assumption)), fun h0 => (by first | (exfalso; omega) | exact id | assumption)⟩) hP hD hS (lv_sub hl [0, 3, 4, 5, 6, 7] rfl)
                · have c_48 : ¬ (kd f).toInt = 0 := zc_ne rfl rfl c_48
                  refine lv_iload_n hx hb dX11_isLawfulTo_144 rfl (lv_at hl 6 rfl) ?_
                  refine lv_iconst (v := 5) hx hb dX11_isLawfulTo_145 rfl ?_
                  have b9_50 : h < 2147483648 := by omega
                  refine lv_icmp_eq (tgt := 185) hx hb dX11_isLawfulTo_146 rfl (fun c_49 => ?_) (fun c_49 => ?_)
                  · have c_49 : ((h : Nat) : Int) = 5 := zc_eq (nI_toInt b9_50) rfl c_49
                    exfalso; omega
                  · have c_49 : ¬ ((h : Nat) : Int) = 5 := zc_ne (nI_toInt b9_50) rfl c_49
                    refine lv_iload hx hb dX11_isLawfulTo_149 (lv_at hl 7 rfl) ?_
                    refine lv_iconst (v := (-1)) hx hb dX11_isLawfulTo_151 rfl ?_
                    refine lv_icmp_eq (tgt := 171) hx hb dX11_isLawfulTo_152 rfl (fun c_51 => ?_) (fun c_51 => ?_)
                    · refine lv_aload_n hx hb dX11_isLawfulTo_171 rfl (lv_at hl 3 rfl) ?_
                      refine lv_iload_n hx hb dX11_isLawfulTo_172 rfl (lv_at hl 4 rfl) ?_
                      refine lv_iload hx hb dX11_isLawfulTo_173 (lv_at hl 1 rfl) ?_
                      refine lv_iload hx hb dX11_isLawfulTo_175 (lv_at hl 0 rfl) ?_
                      obtain ⟨hPc, hDc, hFc⟩ := zc_sub (wc := [(om k0 a (upd I0 31 z9) J0), (oa (a 1) cI 201 kd), (oa (a 11) cI 201 mn), (oa (a 12) cI 8040 cx), (oa (a 13) cI 8040 cy), (oa (a 40) cI 6 T1), (oa (a 29) cI 42 P1), (oa (a 30) cI 42 Q1), (oa (a 33) cI 42 ox), (oa (a 34) cI 42 oy)]) hP hD hS hA [0, 1, 2, 3, 4, 6, 7, 8, 9, 10] rfl rfl
                      refine zcall (st1 := [.int (pI (∃ e9, e9 < eO (kd f).toInt on ∧ swp on ox oy (cF40 cx f) (cF40 cy f) (cx (40 * g + k)).toInt (cy (40 * g + k)).toInt e9))]) (va_runV (As := [.int (nI f), .int (cx (40 * g + k)), .int (cy (40 * g + k))]) (rest := []) ⟨hx, hb, hml, hown, hts⟩ (k_M_isSwept l dC dI cI cZ cF H.size k0 a (upd I0 31 z9) J0 f on (cx (40 * g + k)) (cy (40 * g + k)) kd mn cx cy T1 P1 Q1 ox oy (hon) (by first | with_reducible assumption | omega) (by first | with_reducible assumption | omega) (by rw [← hon2]; assumption) (by first | with_reducible assumption | omega) (by rw [← hon2]; assumption) (by first | with_reducible assumption | assumption) ((hp_g k hk9).1) ((hp_g k hk9).2)) (csV_184 hts rfl rfl ⟨Nat.le_of_ble_eq_true rfl, Nat.le_of_ble_eq_true rfl⟩) (zPV2 (q0 := 0) (ci := 9) hPc hDc hK hXN rfl rfl) rfl rfl hl.1 rfl (lv_room (Nat.le_of_ble_eq_true rfl)) dX11_isLawfulTo_177 ⟨Nat.le_of_ble_eq_true rfl, Nat.le_of_ble_eq_true rfl⟩) hS hFc hFc rfl (fun t H locs ht hB hk1 hS => ?_)
                      obtain ⟨q_52, q_53, q_54, hP1, hD1⟩ := hB
                      rw [ht] at hP1
                      obtain ⟨hP, hD⟩ := zk (W2 := [(om k0 a (upd I0 31 (nI on)) J0), (oa (a 1) cI 201 kd), (oa (a 11) cI 201 mn), (oa (a 12) cI 8040 cx), (oa (a 13) cI 8040 cy), (oa (a 32) cI 8 S1), (oa (a 40) cI 6 q_52), (oa (a 29) cI 42 q_53), (oa (a 30) cI 42 q_54), (oa (a 33) cI 42 ox), (oa (a 34) cI 42 oy), (oa (a 37) cZ 201 mt), (oa (a 38) cZ 201 wi), (oa (a 39) cZ 8040 ins)]) hP hD [0, 1, 2, 3, 4, 6, 7, 8, 9, 10] [5, 11, 12, 13] [5, 11, 12, 13] [0, 1, 2, 3, 4, 6, 7, 8, 9, 10] [4, 5, 6, 7, 8, 0, 9, 10, 11, 12, 13, 1, 2, 3] 14 rfl rfl rfl rfl rfl rfl rfl rfl rfl hk1 hFc hP1 hD1
                      clear hk1 hPc hDc hFc hP1 hD1 ht
                      refine zz_i (v := pI ((fun k => ∃ e, e < eO (kd f).toInt on ∧ swp on ox oy (cF40 cx f) (cF40 cy f) (cF40 cx g k).toInt (cF40 cy g k).toInt e) k)) (rfl) ?_
                      refine lv_if_eq (tgt := 185) hx hb dX11_isLawfulTo_180 rfl (fun c_55 => ?_) (fun c_55 => ?_)
                      · have c_55 : ¬ ((fun k => ∃ e, e < eO (kd f).toInt on ∧ swp on ox oy (cF40 cx f) (cF40 cy f) (cF40 cx g k).toInt (cF40 cy g k).toInt e) k) := zp_0 c_55
                        refine lv_iinc (v := nI (k + 1)) (lv' := [(5, .int (nI (k + 1))), (7, .int (cy (40 * g + k))), (6, .int (cx (40 * g + k))), (0, .ref k0), (1, .int (nI f)), (2, .int (nI g)), (3, .int (nI h)), (4, .int (-1))]) hx hb dX11_isLawfulTo_185 hl (k := 2) rfl (nI_add k 1) (Nat.le_of_ble_eq_true rfl) rfl (fun ls hl => ?_)
                        refine lv_goto (tgt := 62) hx hb dX11_isLawfulTo_188 rfl ?_
                        exact ih_62 (k + 1) (nI on) S1 q_52 q_53 q_54 H locs ls (by first | with_reducible assumption | omega) (by first | with_reducible assumption | omega) (by intro j hj; rcases Nat.lt_or_ge j k with h | h; exact hall j h; obtain rfl : j = k := (by first | with_reducible assumption | omega); exact ⟨fun h5 => (by first | (exfalso; omega) | exact zp_ieq.mp (by first | with_reducible assumption | assumption)), fun h0 => (by first | (exfalso; omega) | exact id | assumption)⟩) hP hD hS (lv_sub hl [0, 3, 4, 5, 6, 7] rfl)
                      · have c_55 : (fun k => ∃ e, e < eO (kd f).toInt on ∧ swp on ox oy (cF40 cx f) (cF40 cy f) (cF40 cx g k).toInt (cF40 cy g k).toInt e) k := zp_1 c_55
                        refine lv_iconst (v := 0) hx hb dX11_isLawfulTo_183 rfl ?_
                        obtain ⟨hP9, hD9⟩ := zq_sub (wc := [(om k0 a (upd I0 31 (nI on)) J0), (oa (a 1) cI 201 kd), (oa (a 11) cI 201 mn), (oa (a 12) cI 8040 cx), (oa (a 13) cI 8040 cy), (oa (a 32) cI 8 S1), (oa (a 40) cI 6 q_52), (oa (a 29) cI 42 q_53), (oa (a 30) cI 42 q_54), (oa (a 33) cI 42 ox), (oa (a 34) cI 42 oy), (oa (a 37) cZ 201 mt), (oa (a 38) cZ 201 wi), (oa (a 39) cZ 8040 ins)]) hP hD [0, 1, 2, 3, 4, 5, 6, 7, 8, 9, 10, 11, 12, 13] rfl rfl
                        rw [hQ9]
                        exact W.zret (ty := .boolean) (v := 0) hx hb hr (rfl) (fun t ht hW => ⟨⟨congrArg (fun z => Outcome.returned (some (Value.int z))) (show (0 : Int32) = pI (lawTo (ox 0) (oy 0) (kd f).toInt n (cF40 cx f) (cF40 cy f) (kd g).toInt m2 (cF40 cx g) (cF40 cy g) MT WI IN (fun k => ∃ e, e < eO (kd f).toInt on ∧ swp on ox oy (cF40 cx f) (cF40 cy f) (cF40 cx g k).toInt (cF40 cy g k).toInt e)) from (zp_f (fun h => (h.2.2.1 k (by omega)).2 (by omega) (by first | with_reducible assumption | assumption))).symm), (nI on), S1, q_52, q_53, q_54, by rw [ht]; exact hP9, hD9⟩, hS.F ht⟩) hS.2.2 dX11_isLawfulTo_184
                    · exact absurd (by decide) c_51
              · have c_46 : 5 ≤ (kd f).toInt := zp_1 c_46
                refine lv_aload_n hx hb dX11_isLawfulTo_109 rfl (lv_at hl 3 rfl) ?_
                refine lv_iload_n hx hb dX11_isLawfulTo_110 rfl (lv_at hl 4 rfl) ?_
                refine lv_iload hx hb dX11_isLawfulTo_111 (lv_at hl 1 rfl) ?_
                refine lv_iload hx hb dX11_isLawfulTo_113 (lv_at hl 0 rfl) ?_
                obtain ⟨hPc, hDc, hFc⟩ := zc_sub (wc := [(om k0 a (upd I0 31 z9) J0), (oa (a 1) cI 201 kd), (oa (a 11) cI 201 mn), (oa (a 12) cI 8040 cx), (oa (a 13) cI 8040 cy), (oa (a 32) cI 8 S1)]) hP hD hS hA [0, 1, 2, 3, 4, 5] rfl rfl
                refine zcall (st1 := [.int (pI (¬ (∃ i, i < eO (kd f).toInt n ∧ eOn n (cF40 cx f) (cF40 cy f) i (cx (40 * g + k)).toInt (cy (40 * g + k)).toInt) ∧ par2 (eTg n (cF40 cx f) (cF40 cy f) (cx (40 * g + k)).toInt (cy (40 * g + k)).toInt) (eO (kd f).toInt n)))]) (va_runV (As := [.int (nI f), .int (cx (40 * g + k)), .int (cy (40 * g + k))]) (rest := []) ⟨hx, hb, hml, hown, hts⟩ (k_M_isInside l dC dI cI cZ cF H.size k0 a (upd I0 31 z9) J0 f n kd mn cx cy S1 (cx (40 * g + k)) (cy (40 * g + k)) (by first | with_reducible assumption | omega) (by first | with_reducible assumption | assumption) (by first | with_reducible assumption | omega) (by first | with_reducible assumption | assumption) ((hp_g k hk9).1) ((hp_g k hk9).2)) (csV_183 hts rfl rfl ⟨Nat.le_of_ble_eq_true rfl, Nat.le_of_ble_eq_true rfl⟩) (zPV2 (q0 := 0) (ci := 9) hPc hDc hK hXN rfl rfl) rfl rfl hl.1 rfl (lv_room (Nat.le_of_ble_eq_true rfl)) dX11_isLawfulTo_115 ⟨Nat.le_of_ble_eq_true rfl, Nat.le_of_ble_eq_true rfl⟩) hS hFc hFc rfl (fun t H locs ht hB hk1 hS => ?_)
                obtain ⟨q_56, hP1, hD1⟩ := hB
                rw [ht] at hP1
                obtain ⟨hP, hD⟩ := zk (W2 := [(om k0 a (upd I0 31 z9) J0), (oa (a 1) cI 201 kd), (oa (a 11) cI 201 mn), (oa (a 12) cI 8040 cx), (oa (a 13) cI 8040 cy), (oa (a 32) cI 8 q_56), (oa (a 40) cI 6 T1), (oa (a 29) cI 42 P1), (oa (a 30) cI 42 Q1), (oa (a 33) cI 42 ox), (oa (a 34) cI 42 oy), (oa (a 37) cZ 201 mt), (oa (a 38) cZ 201 wi), (oa (a 39) cZ 8040 ins)]) hP hD [0, 1, 2, 3, 4, 5] [6, 7, 8, 9, 10, 11, 12, 13] [6, 7, 8, 9, 10, 11, 12, 13] [0, 1, 2, 3, 4, 5] [8, 9, 10, 11, 12, 13, 0, 1, 2, 3, 4, 5, 6, 7] 14 rfl rfl rfl rfl rfl rfl rfl rfl rfl hk1 hFc hP1 hD1
                clear hk1 hPc hDc hFc hP1 hD1 ht
                refine zz_i (v := pI (inF (kd f).toInt n (cF40 cx f) (cF40 cy f) (cF40 cx g k).toInt (cF40 cy g k).toInt)) (rfl) ?_
                refine lv_aload_n hx hb dX11_isLawfulTo_118 rfl (lv_at hl 3 rfl) ?_
                refine va_get (D := (dC, dI)) (ci := 9) (v := .ref (a 39)) (C := RX11) (T := TX11) (N := 55) hx hb hts inX11 hown hK hP 0 rfl rfl 39 (Nat.le_of_ble_eq_true rfl) (hts _ mw_1198) (fun _ h9 => h9) rfl dX11_isLawfulTo_119 ?_
                refine lv_bipush (v := 40) hx hb dX11_isLawfulTo_122 rfl ?_
                refine lv_iload_n hx hb dX11_isLawfulTo_124 rfl (lv_at hl 5 rfl) ?_
                refine lv_imul hx hb dX11_isLawfulTo_125 ?_
                refine zz_i (v := nI (40 * g)) (pk_mul 40 g) ?_
                refine lv_iload hx hb dX11_isLawfulTo_126 (lv_at hl 2 rfl) ?_
                refine lv_iadd hx hb dX11_isLawfulTo_128 ?_
                refine zz_i (v := nI (40 * g + k)) (nI_add (40 * g) k) ?_
                have b9_57 : 40 * g + k < 8040 := by omega
                refine z_zald hx hb hK hP 13 1 rfl rfl (e := 40 * g + k) rfl b9_57 (Nat.le_of_ble_eq_true rfl) dX11_isLawfulTo_129 ?_
                refine zz_i (v := pI (IN k)) (hin k (by omega) (by omega)) ?_
                refine lv_icmp_eq (tgt := 135) hx hb dX11_isLawfulTo_130 rfl (fun c_58 => ?_) (fun c_58 => ?_)
                · have c_58 : (pI (inF (kd f).toInt n (cF40 cx f) (cF40 cy f) (cF40 cx g k).toInt (cF40 cy g k).toInt)).toInt = (pI (IN k)).toInt := zc_eq rfl rfl c_58
                  refine lv_aload_n hx hb dX11_isLawfulTo_135 rfl (lv_at hl 3 rfl) ?_
                  refine va_get (D := (dC, dI)) (ci := 9) (v := .ref (a 1)) (C := RX11) (T := TX11) (N := 55) hx hb hts inX11 hown hK hP 0 rfl rfl 1 (Nat.le_of_ble_eq_true rfl) (hts _ mw_1160) (fun _ h9 => h9) rfl dX11_isLawfulTo_136 ?_
                  refine lv_iload_n hx hb dX11_isLawfulTo_139 rfl (lv_at hl 4 rfl) ?_
                  have b9_59 : f < 201 := by omega
                  refine z_iald hx hb hK hP 1 0 rfl rfl (e := f) rfl b9_59 (Nat.le_of_ble_eq_true rfl) dX11_isLawfulTo_140 ?_
                  refine lv_if_eq (tgt := 185) hx hb dX11_isLawfulTo_141 rfl (fun c_60 => ?_) (fun c_60 => ?_)
                  · have c_60 : (kd f).toInt = 0 := zc_eq rfl rfl c_60
                    refine lv_iinc (v := nI (k + 1)) (lv' := [(5, .int (nI (k + 1))), (7, .int (cy (40 * g + k))), (6, .int (cx (40 * g + k))), (0, .ref k0), (1, .int (nI f)), (2, .int (nI g)), (3, .int (nI h)), (4, .int (-1))]) hx hb dX11_isLawfulTo_185 hl (k := 2) rfl (nI_add k 1) (Nat.le_of_ble_eq_true rfl) rfl (fun ls hl => ?_)
                    refine lv_goto (tgt := 62) hx hb dX11_isLawfulTo_188 rfl ?_
                    exact ih_62 (k + 1) z9 q_56 T1 P1 Q1 H locs ls (by first | with_reducible assumption | omega) (by first | with_reducible assumption | omega) (by intro j hj; rcases Nat.lt_or_ge j k with h | h; exact hall j h; obtain rfl : j = k := (by first | with_reducible assumption | omega); exact ⟨fun h5 => (by first | (exfalso; omega) | exact zp_ieq.mp (by first | with_reducible assumption | assumption)), fun h0 => (by first | (exfalso; omega) | exact id | assumption)⟩) hP hD hS (lv_sub hl [0, 3, 4, 5, 6, 7] rfl)
                  · have c_60 : ¬ (kd f).toInt = 0 := zc_ne rfl rfl c_60
                    refine lv_iload_n hx hb dX11_isLawfulTo_144 rfl (lv_at hl 6 rfl) ?_
                    refine lv_iconst (v := 5) hx hb dX11_isLawfulTo_145 rfl ?_
                    have b9_62 : h < 2147483648 := by omega
                    refine lv_icmp_eq (tgt := 185) hx hb dX11_isLawfulTo_146 rfl (fun c_61 => ?_) (fun c_61 => ?_)
                    · have c_61 : ((h : Nat) : Int) = 5 := zc_eq (nI_toInt b9_62) rfl c_61
                      exfalso; omega
                    · have c_61 : ¬ ((h : Nat) : Int) = 5 := zc_ne (nI_toInt b9_62) rfl c_61
                      refine lv_iload hx hb dX11_isLawfulTo_149 (lv_at hl 7 rfl) ?_
                      refine lv_iconst (v := (-1)) hx hb dX11_isLawfulTo_151 rfl ?_
                      refine lv_icmp_eq (tgt := 171) hx hb dX11_isLawfulTo_152 rfl (fun c_63 => ?_) (fun c_63 => ?_)
                      · refine lv_aload_n hx hb dX11_isLawfulTo_171 rfl (lv_at hl 3 rfl) ?_
                        refine lv_iload_n hx hb dX11_isLawfulTo_172 rfl (lv_at hl 4 rfl) ?_
                        refine lv_iload hx hb dX11_isLawfulTo_173 (lv_at hl 1 rfl) ?_
                        refine lv_iload hx hb dX11_isLawfulTo_175 (lv_at hl 0 rfl) ?_
                        obtain ⟨hPc, hDc, hFc⟩ := zc_sub (wc := [(om k0 a (upd I0 31 z9) J0), (oa (a 1) cI 201 kd), (oa (a 11) cI 201 mn), (oa (a 12) cI 8040 cx), (oa (a 13) cI 8040 cy), (oa (a 40) cI 6 T1), (oa (a 29) cI 42 P1), (oa (a 30) cI 42 Q1), (oa (a 33) cI 42 ox), (oa (a 34) cI 42 oy)]) hP hD hS hA [0, 1, 2, 3, 4, 6, 7, 8, 9, 10] rfl rfl
                        refine zcall (st1 := [.int (pI (∃ e9, e9 < eO (kd f).toInt on ∧ swp on ox oy (cF40 cx f) (cF40 cy f) (cx (40 * g + k)).toInt (cy (40 * g + k)).toInt e9))]) (va_runV (As := [.int (nI f), .int (cx (40 * g + k)), .int (cy (40 * g + k))]) (rest := []) ⟨hx, hb, hml, hown, hts⟩ (k_M_isSwept l dC dI cI cZ cF H.size k0 a (upd I0 31 z9) J0 f on (cx (40 * g + k)) (cy (40 * g + k)) kd mn cx cy T1 P1 Q1 ox oy (hon) (by first | with_reducible assumption | omega) (by first | with_reducible assumption | omega) (by rw [← hon2]; assumption) (by first | with_reducible assumption | omega) (by rw [← hon2]; assumption) (by first | with_reducible assumption | assumption) ((hp_g k hk9).1) ((hp_g k hk9).2)) (csV_184 hts rfl rfl ⟨Nat.le_of_ble_eq_true rfl, Nat.le_of_ble_eq_true rfl⟩) (zPV2 (q0 := 0) (ci := 9) hPc hDc hK hXN rfl rfl) rfl rfl hl.1 rfl (lv_room (Nat.le_of_ble_eq_true rfl)) dX11_isLawfulTo_177 ⟨Nat.le_of_ble_eq_true rfl, Nat.le_of_ble_eq_true rfl⟩) hS hFc hFc rfl (fun t H locs ht hB hk1 hS => ?_)
                        obtain ⟨q_64, q_65, q_66, hP1, hD1⟩ := hB
                        rw [ht] at hP1
                        obtain ⟨hP, hD⟩ := zk (W2 := [(om k0 a (upd I0 31 (nI on)) J0), (oa (a 1) cI 201 kd), (oa (a 11) cI 201 mn), (oa (a 12) cI 8040 cx), (oa (a 13) cI 8040 cy), (oa (a 32) cI 8 q_56), (oa (a 40) cI 6 q_64), (oa (a 29) cI 42 q_65), (oa (a 30) cI 42 q_66), (oa (a 33) cI 42 ox), (oa (a 34) cI 42 oy), (oa (a 37) cZ 201 mt), (oa (a 38) cZ 201 wi), (oa (a 39) cZ 8040 ins)]) hP hD [0, 1, 2, 3, 4, 6, 7, 8, 9, 10] [5, 11, 12, 13] [5, 11, 12, 13] [0, 1, 2, 3, 4, 6, 7, 8, 9, 10] [4, 5, 6, 7, 8, 0, 9, 10, 11, 12, 13, 1, 2, 3] 14 rfl rfl rfl rfl rfl rfl rfl rfl rfl hk1 hFc hP1 hD1
                        clear hk1 hPc hDc hFc hP1 hD1 ht
                        refine zz_i (v := pI ((fun k => ∃ e, e < eO (kd f).toInt on ∧ swp on ox oy (cF40 cx f) (cF40 cy f) (cF40 cx g k).toInt (cF40 cy g k).toInt e) k)) (rfl) ?_
                        refine lv_if_eq (tgt := 185) hx hb dX11_isLawfulTo_180 rfl (fun c_67 => ?_) (fun c_67 => ?_)
                        · have c_67 : ¬ ((fun k => ∃ e, e < eO (kd f).toInt on ∧ swp on ox oy (cF40 cx f) (cF40 cy f) (cF40 cx g k).toInt (cF40 cy g k).toInt e) k) := zp_0 c_67
                          refine lv_iinc (v := nI (k + 1)) (lv' := [(5, .int (nI (k + 1))), (7, .int (cy (40 * g + k))), (6, .int (cx (40 * g + k))), (0, .ref k0), (1, .int (nI f)), (2, .int (nI g)), (3, .int (nI h)), (4, .int (-1))]) hx hb dX11_isLawfulTo_185 hl (k := 2) rfl (nI_add k 1) (Nat.le_of_ble_eq_true rfl) rfl (fun ls hl => ?_)
                          refine lv_goto (tgt := 62) hx hb dX11_isLawfulTo_188 rfl ?_
                          exact ih_62 (k + 1) (nI on) q_56 q_64 q_65 q_66 H locs ls (by first | with_reducible assumption | omega) (by first | with_reducible assumption | omega) (by intro j hj; rcases Nat.lt_or_ge j k with h | h; exact hall j h; obtain rfl : j = k := (by first | with_reducible assumption | omega); exact ⟨fun h5 => (by first | (exfalso; omega) | exact zp_ieq.mp (by first | with_reducible assumption | assumption)), fun h0 => (by first | (exfalso; omega) | exact id | assumption)⟩) hP hD hS (lv_sub hl [0, 3, 4, 5, 6, 7] rfl)
                        · have c_67 : (fun k => ∃ e, e < eO (kd f).toInt on ∧ swp on ox oy (cF40 cx f) (cF40 cy f) (cF40 cx g k).toInt (cF40 cy g k).toInt e) k := zp_1 c_67
                          refine lv_iconst (v := 0) hx hb dX11_isLawfulTo_183 rfl ?_
                          obtain ⟨hP9, hD9⟩ := zq_sub (wc := [(om k0 a (upd I0 31 (nI on)) J0), (oa (a 1) cI 201 kd), (oa (a 11) cI 201 mn), (oa (a 12) cI 8040 cx), (oa (a 13) cI 8040 cy), (oa (a 32) cI 8 q_56), (oa (a 40) cI 6 q_64), (oa (a 29) cI 42 q_65), (oa (a 30) cI 42 q_66), (oa (a 33) cI 42 ox), (oa (a 34) cI 42 oy), (oa (a 37) cZ 201 mt), (oa (a 38) cZ 201 wi), (oa (a 39) cZ 8040 ins)]) hP hD [0, 1, 2, 3, 4, 5, 6, 7, 8, 9, 10, 11, 12, 13] rfl rfl
                          rw [hQ9]
                          exact W.zret (ty := .boolean) (v := 0) hx hb hr (rfl) (fun t ht hW => ⟨⟨congrArg (fun z => Outcome.returned (some (Value.int z))) (show (0 : Int32) = pI (lawTo (ox 0) (oy 0) (kd f).toInt n (cF40 cx f) (cF40 cy f) (kd g).toInt m2 (cF40 cx g) (cF40 cy g) MT WI IN (fun k => ∃ e, e < eO (kd f).toInt on ∧ swp on ox oy (cF40 cx f) (cF40 cy f) (cF40 cx g k).toInt (cF40 cy g k).toInt e)) from (zp_f (fun h => (h.2.2.1 k (by omega)).2 (by omega) (by first | with_reducible assumption | assumption))).symm), (nI on), q_56, q_64, q_65, q_66, by rw [ht]; exact hP9, hD9⟩, hS.F ht⟩) hS.2.2 dX11_isLawfulTo_184
                      · exact absurd (by decide) c_63
                · have c_58 : ¬ (pI (inF (kd f).toInt n (cF40 cx f) (cF40 cy f) (cF40 cx g k).toInt (cF40 cy g k).toInt)).toInt = (pI (IN k)).toInt := zc_ne rfl rfl c_58
                  refine lv_iconst (v := 0) hx hb dX11_isLawfulTo_133 rfl ?_
                  obtain ⟨hP9, hD9⟩ := zq_sub (wc := [(om k0 a (upd I0 31 z9) J0), (oa (a 1) cI 201 kd), (oa (a 11) cI 201 mn), (oa (a 12) cI 8040 cx), (oa (a 13) cI 8040 cy), (oa (a 32) cI 8 q_56), (oa (a 40) cI 6 T1), (oa (a 29) cI 42 P1), (oa (a 30) cI 42 Q1), (oa (a 33) cI 42 ox), (oa (a 34) cI 42 oy), (oa (a 37) cZ 201 mt), (oa (a 38) cZ 201 wi), (oa (a 39) cZ 8040 ins)]) hP hD [0, 1, 2, 3, 4, 5, 6, 7, 8, 9, 10, 11, 12, 13] rfl rfl
                  rw [hQ9]
                  exact W.zret (ty := .boolean) (v := 0) hx hb hr (rfl) (fun t ht hW => ⟨⟨congrArg (fun z => Outcome.returned (some (Value.int z))) (show (0 : Int32) = pI (lawTo (ox 0) (oy 0) (kd f).toInt n (cF40 cx f) (cF40 cy f) (kd g).toInt m2 (cF40 cx g) (cF40 cy g) MT WI IN (fun k => ∃ e, e < eO (kd f).toInt on ∧ swp on ox oy (cF40 cx f) (cF40 cy f) (cF40 cx g k).toInt (cF40 cy g k).toInt e)) from (zp_f (fun h => absurd (zp_ieq.mpr ((h.2.2.1 k (by omega)).1 (by omega))) (by first | with_reducible assumption | assumption))).symm), z9, q_56, T1, P1, Q1, by rw [ht]; exact hP9, hD9⟩, hS.F ht⟩) hS.2.2 dX11_isLawfulTo_134
        exact hl_62 _ 0 (I0 31) q_36 T0 P0 Q0 H locs ls (Nat.lt_succ_self _) (by first | with_reducible assumption | omega) (by intro j hj; omega) hP hD hS (lv_sub hl [0, 1, 2, 3, 4, 5] rfl)
      · have c_37 : ¬ (pI (inF (kd g).toInt m2 (cF40 cx g) (cF40 cy g) (cF40 cx f 0).toInt (cF40 cy f 0).toInt)).toInt = (pI WI).toInt := zc_ne rfl rfl c_37
        refine lv_iconst (v := 0) hx hb dX11_isLawfulTo_57 rfl ?_
        obtain ⟨hP9, hD9⟩ := zq_sub (wc := [(om k0 a I0 J0), (oa (a 1) cI 201 kd), (oa (a 11) cI 201 mn), (oa (a 12) cI 8040 cx), (oa (a 13) cI 8040 cy), (oa (a 32) cI 8 q_36), (oa (a 40) cI 6 T0), (oa (a 29) cI 42 P0), (oa (a 30) cI 42 Q0), (oa (a 33) cI 42 ox), (oa (a 34) cI 42 oy), (oa (a 37) cZ 201 mt), (oa (a 38) cZ 201 wi), (oa (a 39) cZ 8040 ins)]) hP hD [0, 1, 2, 3, 4, 5, 6, 7, 8, 9, 10, 11, 12, 13] rfl rfl
        rw [hQ9]
        exact W.zret (ty := .boolean) (v := 0) hx hb hr (rfl) (fun t ht hW => ⟨⟨congrArg (fun z => Outcome.returned (some (Value.int z))) (show (0 : Int32) = pI (lawTo (ox 0) (oy 0) (kd f).toInt n (cF40 cx f) (cF40 cy f) (kd g).toInt m2 (cF40 cx g) (cF40 cy g) MT WI IN (fun k => ∃ e, e < eO (kd f).toInt on ∧ swp on ox oy (cF40 cx f) (cF40 cy f) (cF40 cx g k).toInt (cF40 cy g k).toInt e)) from (zp_f (fun h => absurd (zp_ieq.mpr (h.2.1 (by omega))) (by first | with_reducible assumption | assumption))).symm), (I0 31), q_36, T0, P0, Q0, by rw [ht]; exact hP9, hD9⟩, hS.F ht⟩) hS.2.2 dX11_isLawfulTo_58
  · have c_3 : ¬ (pI (mtF (kd f).toInt n (cF40 cx f) (cF40 cy f) (kd g).toInt m2 (cF40 cx g) (cF40 cy g))).toInt = (pI MT).toInt := zc_ne rfl rfl c_3
    refine lv_iconst (v := 0) hx hb dX11_isLawfulTo_15 rfl ?_
    obtain ⟨hP9, hD9⟩ := zq_sub (wc := [(om k0 a I0 J0), (oa (a 1) cI 201 kd), (oa (a 11) cI 201 mn), (oa (a 12) cI 8040 cx), (oa (a 13) cI 8040 cy), (oa (a 32) cI 8 q_1), (oa (a 40) cI 6 T0), (oa (a 29) cI 42 P0), (oa (a 30) cI 42 Q0), (oa (a 33) cI 42 ox), (oa (a 34) cI 42 oy), (oa (a 37) cZ 201 mt), (oa (a 38) cZ 201 wi), (oa (a 39) cZ 8040 ins)]) hP hD [0, 1, 2, 3, 4, 5, 6, 7, 8, 9, 10, 11, 12, 13] rfl rfl
    rw [hQ9]
    exact W.zret (ty := .boolean) (v := 0) hx hb hr (rfl) (fun t ht hW => ⟨⟨congrArg (fun z => Outcome.returned (some (Value.int z))) (show (0 : Int32) = pI (lawTo (ox 0) (oy 0) (kd f).toInt n (cF40 cx f) (cF40 cy f) (kd g).toInt m2 (cF40 cx g) (cF40 cy g) MT WI IN (fun k => ∃ e, e < eO (kd f).toInt on ∧ swp on ox oy (cF40 cx f) (cF40 cy f) (cF40 cx g k).toInt (cF40 cy g k).toInt e)) from (zp_f (fun h => absurd (zp_ieq.mpr h.1) (by first | with_reducible assumption | assumption))).symm), (I0 31), q_1, T0, P0, Q0, by rw [ht]; exact hP9, hD9⟩, hS.F ht⟩) hS.2.2 dX11_isLawfulTo_16
end
section
set_option maxHeartbeats 4000000 in
set_option maxRecDepth 100000 in
theorem k_M_refuse_7 (l : Launch) (dC : Nat → ClassId) (dI : Nat → Nat → Nat) (cI cZ cF : ClassId) (sz : Nat) (k0 : Nat) (a : Nat → Nat) (I0 : Nat → Int32) (J0 : Nat → Int64) : Met l yX11_refuse (.code yX11_refuse cX11_refuse 2 (some .int) :: ws0) ({ frames := 0, cells := 0, slots := 0, locals := 0 } : Room) (va_Pc [.ref k0, .int 7] (zPre (dC, dI) classes (zTy cI cZ cF) [(om k0 a I0 J0)] sz zXN)) (zQ (some (.int (-1))) (fun t => va_P (dC, dI) classes [(om k0 a (upd (upd I0 14 7) 15 (I0 15 + 1)) J0)] t.heap ∧ va_D (va_A [(om k0 a I0 J0)] sz) [(om k0 a (upd (upd I0 14 7) 15 (I0 15 + 1)) J0)]) (va_A [(om k0 a I0 J0)] sz)) 0 0 (va_A [(om k0 a I0 J0)] sz) := by
  refine Met.ofW (cc := cX11_refuse) (maxL := 2) (ret := (some .int)) rfl rfl ?_
  intro p e s m args below meth c s₁ B hml hv
  obtain ⟨rfl, hsz, hP, hK, hD0, hXN⟩ := hv
  have hx := B.exec
  have hb := B.bytes
  have hr := B.returns
  have hts0 := atoms_spec (ws := .code yX11_refuse cX11_refuse 2 (some .int) :: ws0) B.pre
  have hts : ∀ w9 ∈ ws0, w9.before ([.ref k0, .int 7] : List Value).toArray s = true := fun w9 h => hts0 w9 (List.mem_cons_of_mem _ h)
  have hown : s.vm.findClass "ScaleShopModel" = some m.cls := findClass_of_methodNamed B.named
  have hlocks := B.notSynchronized
  subst hsz
  have hD := hD0.self (sz := s.heap.size)
  clear hD0
  generalize hAe : va_A [(om k0 a I0 J0)] s.heap.size = A at hD ⊢
  have hA : ∀ q : Nat, s.heap.size ≤ q → A q := fun q h => by rw [← hAe]; exact Or.inr h
  clear hAe
  have hS : va_S A s.heap s.heap [] := va_S.rf
  have hP : va_P (dC, dI) classes [(om k0 a I0 J0)] s.heap := hP
  obtain ⟨Q9, hQ9⟩ : ∃ Q9 : State → Prop, Q9 = MQ below (zQ (some (.int (-1))) (fun t => va_P (dC, dI) classes [(om k0 a (upd (upd I0 14 7) 15 (I0 15 + 1)) J0)] t.heap ∧ va_D A [(om k0 a (upd (upd I0 14 7) 15 (I0 15 + 1)) J0)]) A) ([.ref k0, .int 7] : List Value).toArray s 0 0 A := ⟨_, rfl⟩
  rw [← hQ9]
  have hl := lv_entry ([.ref k0, .int 7]) (n := 2) (Nat.le_of_ble_eq_true rfl)
  rw [lg_entry_eq]
  generalize (lg_sl ([.ref k0, .int 7]) ++ List.replicate (2 - (lg_sl ([.ref k0, .int 7])).length) Slot.unset).toArray = ls at hl ⊢
  have hl : lv_has ls 2 [(0, .ref k0), (1, .int 7)] := hl
  refine lv_aload_n hx hb dX11_refuse_0 rfl (lv_at hl 0 rfl) ?_
  refine lv_iload_n hx hb dX11_refuse_1 rfl (lv_at hl 1 rfl) ?_
  refine va_put (D := (dC, dI)) (ci := 9) (v := .int 7) (ty := .int) (C := RX11) (T := TX11) (N := 55) hx hb hts inX11 tyX11 tyX11_ok nmX11 hown hK hP hD hS 0 rfl rfl 14 (by decide) (hts _ mw_1173) (fun _ h9 => h9) rfl (by decide +kernel) rfl rfl (Nat.le_of_ble_eq_true rfl) dX11_refuse_2 (fun H locs hP hD hS => ?_)
  obtain ⟨hP, hD⟩ : zPD (dC, dI) classes A [(om k0 a (upd I0 14 7) J0)] H := ⟨hP, hD⟩
  refine lv_aload_n hx hb dX11_refuse_5 rfl (lv_at hl 0 rfl) ?_
  refine lv_dup hx hb dX11_refuse_6 rfl ?_
  refine va_get (D := (dC, dI)) (ci := 9) (v := .int (I0 15)) (C := RX11) (T := TX11) (N := 55) hx hb hts inX11 hown hK hP 0 rfl rfl 15 (Nat.le_of_ble_eq_true rfl) (hts _ mw_1174) (fun _ h9 => h9) rfl dX11_refuse_7 ?_
  refine lv_iload_n hx hb dX11_refuse_10 rfl (lv_at hl 1 rfl) ?_
  refine lv_bipush (v := 7) hx hb dX11_refuse_11 rfl ?_
  refine lv_icmp_ne (tgt := 20) hx hb dX11_refuse_13 rfl (fun c_1 => ?_) (fun c_1 => ?_)
  · exact absurd (by decide) c_1
  · refine lv_iconst (v := 1) hx hb dX11_refuse_16 rfl ?_
    refine lv_goto (tgt := 21) hx hb dX11_refuse_17 rfl ?_
    refine lv_iadd hx hb dX11_refuse_21 ?_
    refine zz_i (v := I0 15 + 1) (rfl) ?_
    refine va_put (D := (dC, dI)) (ci := 9) (v := .int (I0 15 + 1)) (ty := .int) (C := RX11) (T := TX11) (N := 55) hx hb hts inX11 tyX11 tyX11_ok nmX11 hown hK hP hD hS 0 rfl rfl 15 (by decide) (hts _ mw_1174) (fun _ h9 => h9) rfl (by decide +kernel) rfl rfl (Nat.le_of_ble_eq_true rfl) dX11_refuse_22 (fun H locs hP hD hS => ?_)
    obtain ⟨hP, hD⟩ : zPD (dC, dI) classes A [(om k0 a (upd (upd I0 14 7) 15 (I0 15 + 1)) J0)] H := ⟨hP, hD⟩
    refine lv_iconst (v := (-1)) hx hb dX11_refuse_25 rfl ?_
    obtain ⟨hP9, hD9⟩ := zq_sub (wc := [(om k0 a (upd (upd I0 14 7) 15 (I0 15 + 1)) J0)]) hP hD [0] rfl rfl
    rw [hQ9]
    exact W.iret (v := (-1)) hx hb hr (fun t ht hW => ⟨⟨rfl, by rw [ht]; exact hP9, hD9⟩, hS.F ht⟩) hS.2.2 dX11_refuse_26
set_option maxHeartbeats 4000000 in
set_option maxRecDepth 100000 in
theorem k_M_refuse (l : Launch) (dC : Nat → ClassId) (dI : Nat → Nat → Nat) (cI cZ cF : ClassId) (sz : Nat) (k0 : Nat) (a : Nat → Nat) (I0 : Nat → Int32) (J0 : Nat → Int64) (w : Int32) (hw : ¬ w.toInt = 7) : Met l yX11_refuse (.code yX11_refuse cX11_refuse 2 (some .int) :: ws0) ({ frames := 0, cells := 0, slots := 0, locals := 0 } : Room) (va_Pc [.ref k0, .int w] (zPre (dC, dI) classes (zTy cI cZ cF) [(om k0 a I0 J0)] sz zXN)) (zQ (some (.int (-1))) (fun t => va_P (dC, dI) classes [(om k0 a (upd (upd I0 14 w) 15 (I0 15)) J0)] t.heap ∧ va_D (va_A [(om k0 a I0 J0)] sz) [(om k0 a (upd (upd I0 14 w) 15 (I0 15)) J0)]) (va_A [(om k0 a I0 J0)] sz)) 0 0 (va_A [(om k0 a I0 J0)] sz) := by
  refine Met.ofW (cc := cX11_refuse) (maxL := 2) (ret := (some .int)) rfl rfl ?_
  intro p e s m args below meth c s₁ B hml hv
  obtain ⟨rfl, hsz, hP, hK, hD0, hXN⟩ := hv
  have hx := B.exec
  have hb := B.bytes
  have hr := B.returns
  have hts0 := atoms_spec (ws := .code yX11_refuse cX11_refuse 2 (some .int) :: ws0) B.pre
  have hts : ∀ w9 ∈ ws0, w9.before ([.ref k0, .int w] : List Value).toArray s = true := fun w9 h => hts0 w9 (List.mem_cons_of_mem _ h)
  have hown : s.vm.findClass "ScaleShopModel" = some m.cls := findClass_of_methodNamed B.named
  have hlocks := B.notSynchronized
  subst hsz
  have hD := hD0.self (sz := s.heap.size)
  clear hD0
  generalize hAe : va_A [(om k0 a I0 J0)] s.heap.size = A at hD ⊢
  have hA : ∀ q : Nat, s.heap.size ≤ q → A q := fun q h => by rw [← hAe]; exact Or.inr h
  clear hAe
  have hS : va_S A s.heap s.heap [] := va_S.rf
  have hP : va_P (dC, dI) classes [(om k0 a I0 J0)] s.heap := hP
  obtain ⟨Q9, hQ9⟩ : ∃ Q9 : State → Prop, Q9 = MQ below (zQ (some (.int (-1))) (fun t => va_P (dC, dI) classes [(om k0 a (upd (upd I0 14 w) 15 (I0 15)) J0)] t.heap ∧ va_D A [(om k0 a (upd (upd I0 14 w) 15 (I0 15)) J0)]) A) ([.ref k0, .int w] : List Value).toArray s 0 0 A := ⟨_, rfl⟩
  rw [← hQ9]
  have hl := lv_entry ([.ref k0, .int w]) (n := 2) (Nat.le_of_ble_eq_true rfl)
  rw [lg_entry_eq]
  generalize (lg_sl ([.ref k0, .int w]) ++ List.replicate (2 - (lg_sl ([.ref k0, .int w])).length) Slot.unset).toArray = ls at hl ⊢
  have hl : lv_has ls 2 [(0, .ref k0), (1, .int w)] := hl
  refine lv_aload_n hx hb dX11_refuse_0 rfl (lv_at hl 0 rfl) ?_
  refine lv_iload_n hx hb dX11_refuse_1 rfl (lv_at hl 1 rfl) ?_
  refine va_put (D := (dC, dI)) (ci := 9) (v := .int w) (ty := .int) (C := RX11) (T := TX11) (N := 55) hx hb hts inX11 tyX11 tyX11_ok nmX11 hown hK hP hD hS 0 rfl rfl 14 (by decide) (hts _ mw_1173) (fun _ h9 => h9) rfl (by decide +kernel) rfl rfl (Nat.le_of_ble_eq_true rfl) dX11_refuse_2 (fun H locs hP hD hS => ?_)
  obtain ⟨hP, hD⟩ : zPD (dC, dI) classes A [(om k0 a (upd I0 14 w) J0)] H := ⟨hP, hD⟩
  refine lv_aload_n hx hb dX11_refuse_5 rfl (lv_at hl 0 rfl) ?_
  refine lv_dup hx hb dX11_refuse_6 rfl ?_
  refine va_get (D := (dC, dI)) (ci := 9) (v := .int (I0 15)) (C := RX11) (T := TX11) (N := 55) hx hb hts inX11 hown hK hP 0 rfl rfl 15 (Nat.le_of_ble_eq_true rfl) (hts _ mw_1174) (fun _ h9 => h9) rfl dX11_refuse_7 ?_
  refine lv_iload_n hx hb dX11_refuse_10 rfl (lv_at hl 1 rfl) ?_
  refine lv_bipush (v := 7) hx hb dX11_refuse_11 rfl ?_
  refine lv_icmp_ne (tgt := 20) hx hb dX11_refuse_13 rfl (fun c_1 => ?_) (fun c_1 => ?_)
  · have c_1 : ¬ w.toInt = 7 := zc_ne rfl rfl c_1
    refine lv_iconst (v := 0) hx hb dX11_refuse_20 rfl ?_
    refine lv_iadd hx hb dX11_refuse_21 ?_
    refine zz_i (v := I0 15) (Int32.add_zero _) ?_
    refine va_put (D := (dC, dI)) (ci := 9) (v := .int (I0 15)) (ty := .int) (C := RX11) (T := TX11) (N := 55) hx hb hts inX11 tyX11 tyX11_ok nmX11 hown hK hP hD hS 0 rfl rfl 15 (by decide) (hts _ mw_1174) (fun _ h9 => h9) rfl (by decide +kernel) rfl rfl (Nat.le_of_ble_eq_true rfl) dX11_refuse_22 (fun H locs hP hD hS => ?_)
    obtain ⟨hP, hD⟩ : zPD (dC, dI) classes A [(om k0 a (upd (upd I0 14 w) 15 (I0 15)) J0)] H := ⟨hP, hD⟩
    refine lv_iconst (v := (-1)) hx hb dX11_refuse_25 rfl ?_
    obtain ⟨hP9, hD9⟩ := zq_sub (wc := [(om k0 a (upd (upd I0 14 w) 15 (I0 15)) J0)]) hP hD [0] rfl rfl
    rw [hQ9]
    exact W.iret (v := (-1)) hx hb hr (fun t ht hW => ⟨⟨rfl, by rw [ht]; exact hP9, hD9⟩, hS.F ht⟩) hS.2.2 dX11_refuse_26
  · have c_1 : w.toInt = 7 := zc_eq rfl rfl c_1
    exfalso; omega
set_option maxHeartbeats 4000000 in
set_option maxRecDepth 100000 in
theorem k_M_no_7 (l : Launch) (dC : Nat → ClassId) (dI : Nat → Nat → Nat) (cI cZ cF : ClassId) (sz : Nat) (k0 : Nat) (a : Nat → Nat) (I0 : Nat → Int32) (J0 : Nat → Int64) : Met l yX11_no (.code yX11_no cX11_no 2 (some .boolean) :: ws0) ({ frames := 1, cells := 0, slots := 0, locals := 21 } : Room) (va_Pc [.ref k0, .int 7] (zPre (dC, dI) classes (zTy cI cZ cF) [(om k0 a I0 J0)] sz zXN)) (zQ (some (.int 0)) (fun t => va_P (dC, dI) classes [(om k0 a (upd (upd I0 14 7) 15 (I0 15 + 1)) J0)] t.heap ∧ va_D (va_A [(om k0 a I0 J0)] sz) [(om k0 a (upd (upd I0 14 7) 15 (I0 15 + 1)) J0)]) (va_A [(om k0 a I0 J0)] sz)) 0 0 (va_A [(om k0 a I0 J0)] sz) := by
  refine Met.ofW (cc := cX11_no) (maxL := 2) (ret := (some .boolean)) rfl rfl ?_
  intro p e s m args below meth c s₁ B hml hv
  obtain ⟨rfl, hsz, hP, hK, hD0, hXN⟩ := hv
  have hx := B.exec
  have hb := B.bytes
  have hr := B.returns
  have hts0 := atoms_spec (ws := .code yX11_no cX11_no 2 (some .boolean) :: ws0) B.pre
  have hts : ∀ w9 ∈ ws0, w9.before ([.ref k0, .int 7] : List Value).toArray s = true := fun w9 h => hts0 w9 (List.mem_cons_of_mem _ h)
  have hown : s.vm.findClass "ScaleShopModel" = some m.cls := findClass_of_methodNamed B.named
  have hlocks := B.notSynchronized
  subst hsz
  have hD := hD0.self (sz := s.heap.size)
  clear hD0
  generalize hAe : va_A [(om k0 a I0 J0)] s.heap.size = A at hD ⊢
  have hA : ∀ q : Nat, s.heap.size ≤ q → A q := fun q h => by rw [← hAe]; exact Or.inr h
  clear hAe
  have hS : va_S A s.heap s.heap [] := va_S.rf
  have hP : va_P (dC, dI) classes [(om k0 a I0 J0)] s.heap := hP
  obtain ⟨Q9, hQ9⟩ : ∃ Q9 : State → Prop, Q9 = MQ below (zQ (some (.int 0)) (fun t => va_P (dC, dI) classes [(om k0 a (upd (upd I0 14 7) 15 (I0 15 + 1)) J0)] t.heap ∧ va_D A [(om k0 a (upd (upd I0 14 7) 15 (I0 15 + 1)) J0)]) A) ([.ref k0, .int 7] : List Value).toArray s 0 0 A := ⟨_, rfl⟩
  rw [← hQ9]
  have hl := lv_entry ([.ref k0, .int 7]) (n := 2) (Nat.le_of_ble_eq_true rfl)
  rw [lg_entry_eq]
  generalize (lg_sl ([.ref k0, .int 7]) ++ List.replicate (2 - (lg_sl ([.ref k0, .int 7])).length) Slot.unset).toArray = ls at hl ⊢
  have hl : lv_has ls 2 [(0, .ref k0), (1, .int 7)] := hl
  refine lv_aload_n hx hb dX11_no_0 rfl (lv_at hl 0 rfl) ?_
  refine lv_iload_n hx hb dX11_no_1 rfl (lv_at hl 1 rfl) ?_
  obtain ⟨hPc, hDc, hFc⟩ := zc_sub (wc := [(om k0 a I0 J0)]) hP hD hS hA [0] rfl rfl
  refine zcall (st1 := [.int (-1)]) (va_runV (As := [.int 7]) (rest := []) ⟨hx, hb, hml, hown, hts⟩ (k_M_refuse_7 l dC dI cI cZ cF s.heap.size k0 a I0 J0 ) (csV_185 hts rfl rfl ⟨Nat.le_of_ble_eq_true rfl, Nat.le_of_ble_eq_true rfl⟩) (zPV2 (q0 := 0) (ci := 9) hPc hDc hK hXN rfl rfl) rfl rfl hl.1 rfl (lv_room (Nat.le_of_ble_eq_true rfl)) dX11_no_2 ⟨Nat.le_of_ble_eq_true rfl, Nat.le_of_ble_eq_true rfl⟩) hS hFc hFc rfl (fun t H locs ht hB hk1 hS => ?_)
  obtain ⟨hP1, hD1⟩ := hB
  rw [ht] at hP1
  obtain ⟨hP, hD⟩ := zk (W2 := [(om k0 a (upd (upd I0 14 7) 15 (I0 15 + 1)) J0)]) hP hD [0] [] [] [0] [0] 1 rfl rfl rfl rfl rfl rfl rfl rfl rfl hk1 hFc hP1 hD1
  clear hk1 hPc hDc hFc hP1 hD1 ht
  refine lv_iconst (v := (-1)) hx hb dX11_no_5 rfl ?_
  refine lv_icmp_eq (tgt := 13) hx hb dX11_no_6 rfl (fun c_1 => ?_) (fun c_1 => ?_)
  · refine lv_iconst (v := 0) hx hb dX11_no_13 rfl ?_
    obtain ⟨hP9, hD9⟩ := zq_sub (wc := [(om k0 a (upd (upd I0 14 7) 15 (I0 15 + 1)) J0)]) hP hD [0] rfl rfl
    rw [hQ9]
    exact W.zret (ty := .boolean) (v := 0) hx hb hr (rfl) (fun t ht hW => ⟨⟨rfl, by rw [ht]; exact hP9, hD9⟩, hS.F ht⟩) hS.2.2 dX11_no_14
  · exact absurd (by decide) c_1
set_option maxHeartbeats 4000000 in
set_option maxRecDepth 100000 in
theorem k_M_no (l : Launch) (dC : Nat → ClassId) (dI : Nat → Nat → Nat) (cI cZ cF : ClassId) (sz : Nat) (k0 : Nat) (a : Nat → Nat) (I0 : Nat → Int32) (J0 : Nat → Int64) (w : Int32) (hw : ¬ w.toInt = 7) : Met l yX11_no (.code yX11_no cX11_no 2 (some .boolean) :: ws0) ({ frames := 1, cells := 0, slots := 0, locals := 21 } : Room) (va_Pc [.ref k0, .int w] (zPre (dC, dI) classes (zTy cI cZ cF) [(om k0 a I0 J0)] sz zXN)) (zQ (some (.int 0)) (fun t => va_P (dC, dI) classes [(om k0 a (upd (upd I0 14 w) 15 (I0 15)) J0)] t.heap ∧ va_D (va_A [(om k0 a I0 J0)] sz) [(om k0 a (upd (upd I0 14 w) 15 (I0 15)) J0)]) (va_A [(om k0 a I0 J0)] sz)) 0 0 (va_A [(om k0 a I0 J0)] sz) := by
  refine Met.ofW (cc := cX11_no) (maxL := 2) (ret := (some .boolean)) rfl rfl ?_
  intro p e s m args below meth c s₁ B hml hv
  obtain ⟨rfl, hsz, hP, hK, hD0, hXN⟩ := hv
  have hx := B.exec
  have hb := B.bytes
  have hr := B.returns
  have hts0 := atoms_spec (ws := .code yX11_no cX11_no 2 (some .boolean) :: ws0) B.pre
  have hts : ∀ w9 ∈ ws0, w9.before ([.ref k0, .int w] : List Value).toArray s = true := fun w9 h => hts0 w9 (List.mem_cons_of_mem _ h)
  have hown : s.vm.findClass "ScaleShopModel" = some m.cls := findClass_of_methodNamed B.named
  have hlocks := B.notSynchronized
  subst hsz
  have hD := hD0.self (sz := s.heap.size)
  clear hD0
  generalize hAe : va_A [(om k0 a I0 J0)] s.heap.size = A at hD ⊢
  have hA : ∀ q : Nat, s.heap.size ≤ q → A q := fun q h => by rw [← hAe]; exact Or.inr h
  clear hAe
  have hS : va_S A s.heap s.heap [] := va_S.rf
  have hP : va_P (dC, dI) classes [(om k0 a I0 J0)] s.heap := hP
  obtain ⟨Q9, hQ9⟩ : ∃ Q9 : State → Prop, Q9 = MQ below (zQ (some (.int 0)) (fun t => va_P (dC, dI) classes [(om k0 a (upd (upd I0 14 w) 15 (I0 15)) J0)] t.heap ∧ va_D A [(om k0 a (upd (upd I0 14 w) 15 (I0 15)) J0)]) A) ([.ref k0, .int w] : List Value).toArray s 0 0 A := ⟨_, rfl⟩
  rw [← hQ9]
  have hl := lv_entry ([.ref k0, .int w]) (n := 2) (Nat.le_of_ble_eq_true rfl)
  rw [lg_entry_eq]
  generalize (lg_sl ([.ref k0, .int w]) ++ List.replicate (2 - (lg_sl ([.ref k0, .int w])).length) Slot.unset).toArray = ls at hl ⊢
  have hl : lv_has ls 2 [(0, .ref k0), (1, .int w)] := hl
  refine lv_aload_n hx hb dX11_no_0 rfl (lv_at hl 0 rfl) ?_
  refine lv_iload_n hx hb dX11_no_1 rfl (lv_at hl 1 rfl) ?_
  obtain ⟨hPc, hDc, hFc⟩ := zc_sub (wc := [(om k0 a I0 J0)]) hP hD hS hA [0] rfl rfl
  refine zcall (st1 := [.int (-1)]) (va_runV (As := [.int w]) (rest := []) ⟨hx, hb, hml, hown, hts⟩ (k_M_refuse l dC dI cI cZ cF s.heap.size k0 a I0 J0 w (hw)) (csV_185 hts rfl rfl ⟨Nat.le_of_ble_eq_true rfl, Nat.le_of_ble_eq_true rfl⟩) (zPV2 (q0 := 0) (ci := 9) hPc hDc hK hXN rfl rfl) rfl rfl hl.1 rfl (lv_room (Nat.le_of_ble_eq_true rfl)) dX11_no_2 ⟨Nat.le_of_ble_eq_true rfl, Nat.le_of_ble_eq_true rfl⟩) hS hFc hFc rfl (fun t H locs ht hB hk1 hS => ?_)
  obtain ⟨hP1, hD1⟩ := hB
  rw [ht] at hP1
  obtain ⟨hP, hD⟩ := zk (W2 := [(om k0 a (upd (upd I0 14 w) 15 (I0 15)) J0)]) hP hD [0] [] [] [0] [0] 1 rfl rfl rfl rfl rfl rfl rfl rfl rfl hk1 hFc hP1 hD1
  clear hk1 hPc hDc hFc hP1 hD1 ht
  refine lv_iconst (v := (-1)) hx hb dX11_no_5 rfl ?_
  refine lv_icmp_eq (tgt := 13) hx hb dX11_no_6 rfl (fun c_1 => ?_) (fun c_1 => ?_)
  · refine lv_iconst (v := 0) hx hb dX11_no_13 rfl ?_
    obtain ⟨hP9, hD9⟩ := zq_sub (wc := [(om k0 a (upd (upd I0 14 w) 15 (I0 15)) J0)]) hP hD [0] rfl rfl
    rw [hQ9]
    exact W.zret (ty := .boolean) (v := 0) hx hb hr (rfl) (fun t ht hW => ⟨⟨rfl, by rw [ht]; exact hP9, hD9⟩, hS.F ht⟩) hS.2.2 dX11_no_14
  · exact absurd (by decide) c_1
set_option maxHeartbeats 4000000 in
set_option maxRecDepth 100000 in
theorem k_M_wrong (l : Launch) (dC : Nat → ClassId) (dI : Nat → Nat → Nat) (cI cZ cF : ClassId) (sz : Nat) (k0 : Nat) (a : Nat → Nat) (I0 : Nat → Int32) (J0 : Nat → Int64) (f : Nat) (ft : Nat) (st : Nat → Int32) (hft : I0 0 = nI ft) (h200 : ft ≤ 200) (hf_t : f < ft) : Met l yX11_wrong (.code yX11_wrong cX11_wrong 2 (some .int) :: ws0) ({ frames := 1, cells := 0, slots := 0, locals := 21 } : Room) (va_Pc [.ref k0, .int (nI f)] (zPre (dC, dI) classes (zTy cI cZ cF) [(om k0 a I0 J0), (oa (a 5) cI 201 st)] sz zXN)) (zQ (some (.int (wrN (st f)))) (fun t => va_P (dC, dI) classes [(om k0 a I0 J0), (oa (a 5) cI 201 st)] t.heap ∧ va_D (va_A [(om k0 a I0 J0), (oa (a 5) cI 201 st)] sz) [(om k0 a I0 J0), (oa (a 5) cI 201 st)]) (va_A [(om k0 a I0 J0), (oa (a 5) cI 201 st)] sz)) 0 0 (va_A [(om k0 a I0 J0), (oa (a 5) cI 201 st)] sz) := by
  refine Met.ofW (cc := cX11_wrong) (maxL := 2) (ret := (some .int)) rfl rfl ?_
  intro p e s m args below meth c s₁ B hml hv
  obtain ⟨rfl, hsz, hP, hK, hD0, hXN⟩ := hv
  have hx := B.exec
  have hb := B.bytes
  have hr := B.returns
  have hts0 := atoms_spec (ws := .code yX11_wrong cX11_wrong 2 (some .int) :: ws0) B.pre
  have hts : ∀ w9 ∈ ws0, w9.before ([.ref k0, .int (nI f)] : List Value).toArray s = true := fun w9 h => hts0 w9 (List.mem_cons_of_mem _ h)
  have hown : s.vm.findClass "ScaleShopModel" = some m.cls := findClass_of_methodNamed B.named
  have hlocks := B.notSynchronized
  subst hsz
  have hD := hD0.self (sz := s.heap.size)
  clear hD0
  generalize hAe : va_A [(om k0 a I0 J0), (oa (a 5) cI 201 st)] s.heap.size = A at hD ⊢
  have hA : ∀ q : Nat, s.heap.size ≤ q → A q := fun q h => by rw [← hAe]; exact Or.inr h
  clear hAe
  have hS : va_S A s.heap s.heap [] := va_S.rf
  have hP : va_P (dC, dI) classes [(om k0 a I0 J0), (oa (a 5) cI 201 st)] s.heap := hP
  obtain ⟨Q9, hQ9⟩ : ∃ Q9 : State → Prop, Q9 = MQ below (zQ (some (.int (wrN (st f)))) (fun t => va_P (dC, dI) classes [(om k0 a I0 J0), (oa (a 5) cI 201 st)] t.heap ∧ va_D A [(om k0 a I0 J0), (oa (a 5) cI 201 st)]) A) ([.ref k0, .int (nI f)] : List Value).toArray s 0 0 A := ⟨_, rfl⟩
  rw [← hQ9]
  have hl := lv_entry ([.ref k0, .int (nI f)]) (n := 2) (Nat.le_of_ble_eq_true rfl)
  rw [lg_entry_eq]
  generalize (lg_sl ([.ref k0, .int (nI f)]) ++ List.replicate (2 - (lg_sl ([.ref k0, .int (nI f)])).length) Slot.unset).toArray = ls at hl ⊢
  have hl : lv_has ls 2 [(0, .ref k0), (1, .int (nI f))] := hl
  refine lv_aload_n hx hb dX11_wrong_0 rfl (lv_at hl 0 rfl) ?_
  refine lv_iload_n hx hb dX11_wrong_1 rfl (lv_at hl 1 rfl) ?_
  obtain ⟨hPc, hDc, hFc⟩ := zc_sub (wc := [(om k0 a I0 J0)]) hP hD hS hA [0] rfl rfl
  refine zcall (st1 := [.int (pI (f < ft))]) (va_runV (As := [.int (nI f)]) (rest := []) ⟨hx, hb, hml, hown, hts⟩ (k_M_isFeature_n l dC dI cI cZ cF s.heap.size k0 a I0 J0 f ft (by first | with_reducible assumption | assumption) (by first | with_reducible assumption | omega) (by first | with_reducible assumption | omega)) (csV_178 hts rfl rfl ⟨Nat.le_of_ble_eq_true rfl, Nat.le_of_ble_eq_true rfl⟩) (zPV2 (q0 := 0) (ci := 9) hPc hDc hK hXN rfl rfl) rfl rfl hl.1 rfl (lv_room (Nat.le_of_ble_eq_true rfl)) dX11_wrong_2 ⟨Nat.le_of_ble_eq_true rfl, Nat.le_of_ble_eq_true rfl⟩) hS hFc hFc rfl (fun t H locs ht hB hk1 hS => ?_)
  obtain ⟨hP1, hD1⟩ := hB
  rw [ht] at hP1
  obtain ⟨hP, hD⟩ := zk (W2 := [(om k0 a I0 J0), (oa (a 5) cI 201 st)]) hP hD [0] [1] [1] [0] [1, 0] 2 rfl rfl rfl rfl rfl rfl rfl rfl rfl hk1 hFc hP1 hD1
  clear hk1 hPc hDc hFc hP1 hD1 ht
  refine lv_if_ne (tgt := 12) hx hb dX11_wrong_5 rfl (fun c_1 => ?_) (fun c_1 => ?_)
  · have c_1 : f < ft := zp_1 c_1
    refine lv_aload_n hx hb dX11_wrong_12 rfl (lv_at hl 0 rfl) ?_
    refine va_get (D := (dC, dI)) (ci := 9) (v := .ref (a 5)) (C := RX11) (T := TX11) (N := 55) hx hb hts inX11 hown hK hP 0 rfl rfl 5 (Nat.le_of_ble_eq_true rfl) (hts _ mw_1164) (fun _ h9 => h9) rfl dX11_wrong_13 ?_
    refine lv_iload_n hx hb dX11_wrong_16 rfl (lv_at hl 1 rfl) ?_
    have b9_2 : f < 201 := by omega
    refine z_iald hx hb hK hP 1 0 rfl rfl (e := f) rfl b9_2 (Nat.le_of_ble_eq_true rfl) dX11_wrong_17 ?_
    refine lv_iconst (v := 1) hx hb dX11_wrong_18 rfl ?_
    refine lv_icmp_eq (tgt := 26) hx hb dX11_wrong_19 rfl (fun c_3 => ?_) (fun c_3 => ?_)
    · have c_3 : (st f).toInt = 1 := zc_eq rfl rfl c_3
      refine lv_iconst (v := 0) hx hb dX11_wrong_26 rfl ?_
      obtain ⟨hP9, hD9⟩ := zq_sub (wc := [(om k0 a I0 J0), (oa (a 5) cI 201 st)]) hP hD [0, 1] rfl rfl
      rw [hQ9]
      exact W.iret (v := 0) hx hb hr (fun t ht hW => ⟨⟨congrArg (fun z => Outcome.returned (some (Value.int z))) (show (0 : Int32) = wrN (st f) from by unfold wrN; first | (rw [if_pos (by omega)]) | (rw [if_neg (by omega)])), by rw [ht]; exact hP9, hD9⟩, hS.F ht⟩) hS.2.2 dX11_wrong_27
    · have c_3 : ¬ (st f).toInt = 1 := zc_ne rfl rfl c_3
      refine lv_iconst (v := 2) hx hb dX11_wrong_22 rfl ?_
      refine lv_goto (tgt := 27) hx hb dX11_wrong_23 rfl ?_
      obtain ⟨hP9, hD9⟩ := zq_sub (wc := [(om k0 a I0 J0), (oa (a 5) cI 201 st)]) hP hD [0, 1] rfl rfl
      rw [hQ9]
      exact W.iret (v := 2) hx hb hr (fun t ht hW => ⟨⟨congrArg (fun z => Outcome.returned (some (Value.int z))) (show (2 : Int32) = wrN (st f) from by unfold wrN; first | (rw [if_pos (by omega)]) | (rw [if_neg (by omega)])), by rw [ht]; exact hP9, hD9⟩, hS.F ht⟩) hS.2.2 dX11_wrong_27
  · have c_1 : ¬ (f < ft) := zp_0 c_1
    exfalso; omega
set_option maxHeartbeats 4000000 in
set_option maxRecDepth 100000 in
theorem k_M_wrong_x (l : Launch) (dC : Nat → ClassId) (dI : Nat → Nat → Nat) (cI cZ cF : ClassId) (sz : Nat) (k0 : Nat) (a : Nat → Nat) (I0 : Nat → Int32) (J0 : Nat → Int64) (ft : Nat) (v : Int32) (hft : I0 0 = nI ft) (h200 : ft ≤ 200) (hv : ¬ (0 ≤ v.toInt ∧ v.toInt < (ft : Int))) : Met l yX11_wrong (.code yX11_wrong cX11_wrong 2 (some .int) :: ws0) ({ frames := 1, cells := 0, slots := 0, locals := 21 } : Room) (va_Pc [.ref k0, .int v] (zPre (dC, dI) classes (zTy cI cZ cF) [(om k0 a I0 J0)] sz zXN)) (zQ (some (.int 1)) (fun t => va_P (dC, dI) classes [(om k0 a I0 J0)] t.heap ∧ va_D (va_A [(om k0 a I0 J0)] sz) [(om k0 a I0 J0)]) (va_A [(om k0 a I0 J0)] sz)) 0 0 (va_A [(om k0 a I0 J0)] sz) := by
  refine Met.ofW (cc := cX11_wrong) (maxL := 2) (ret := (some .int)) rfl rfl ?_
  intro p e s m args below meth c s₁ B hml hv
  obtain ⟨rfl, hsz, hP, hK, hD0, hXN⟩ := hv
  have hx := B.exec
  have hb := B.bytes
  have hr := B.returns
  have hts0 := atoms_spec (ws := .code yX11_wrong cX11_wrong 2 (some .int) :: ws0) B.pre
  have hts : ∀ w9 ∈ ws0, w9.before ([.ref k0, .int v] : List Value).toArray s = true := fun w9 h => hts0 w9 (List.mem_cons_of_mem _ h)
  have hown : s.vm.findClass "ScaleShopModel" = some m.cls := findClass_of_methodNamed B.named
  have hlocks := B.notSynchronized
  subst hsz
  have hD := hD0.self (sz := s.heap.size)
  clear hD0
  generalize hAe : va_A [(om k0 a I0 J0)] s.heap.size = A at hD ⊢
  have hA : ∀ q : Nat, s.heap.size ≤ q → A q := fun q h => by rw [← hAe]; exact Or.inr h
  clear hAe
  have hS : va_S A s.heap s.heap [] := va_S.rf
  have hP : va_P (dC, dI) classes [(om k0 a I0 J0)] s.heap := hP
  obtain ⟨Q9, hQ9⟩ : ∃ Q9 : State → Prop, Q9 = MQ below (zQ (some (.int 1)) (fun t => va_P (dC, dI) classes [(om k0 a I0 J0)] t.heap ∧ va_D A [(om k0 a I0 J0)]) A) ([.ref k0, .int v] : List Value).toArray s 0 0 A := ⟨_, rfl⟩
  rw [← hQ9]
  have hl := lv_entry ([.ref k0, .int v]) (n := 2) (Nat.le_of_ble_eq_true rfl)
  rw [lg_entry_eq]
  generalize (lg_sl ([.ref k0, .int v]) ++ List.replicate (2 - (lg_sl ([.ref k0, .int v])).length) Slot.unset).toArray = ls at hl ⊢
  have hl : lv_has ls 2 [(0, .ref k0), (1, .int v)] := hl
  refine lv_aload_n hx hb dX11_wrong_0 rfl (lv_at hl 0 rfl) ?_
  refine lv_iload_n hx hb dX11_wrong_1 rfl (lv_at hl 1 rfl) ?_
  obtain ⟨hPc, hDc, hFc⟩ := zc_sub (wc := [(om k0 a I0 J0)]) hP hD hS hA [0] rfl rfl
  refine zcall (st1 := [.int (pI (0 ≤ v.toInt ∧ v.toInt < (ft : Int)))]) (va_runV (As := [.int v]) (rest := []) ⟨hx, hb, hml, hown, hts⟩ (k_M_isFeature l dC dI cI cZ cF s.heap.size k0 a I0 J0 ft v (by first | with_reducible assumption | assumption) (by first | with_reducible assumption | omega)) (csV_178 hts rfl rfl ⟨Nat.le_of_ble_eq_true rfl, Nat.le_of_ble_eq_true rfl⟩) (zPV2 (q0 := 0) (ci := 9) hPc hDc hK hXN rfl rfl) rfl rfl hl.1 rfl (lv_room (Nat.le_of_ble_eq_true rfl)) dX11_wrong_2 ⟨Nat.le_of_ble_eq_true rfl, Nat.le_of_ble_eq_true rfl⟩) hS hFc hFc rfl (fun t H locs ht hB hk1 hS => ?_)
  obtain ⟨hP1, hD1⟩ := hB
  rw [ht] at hP1
  obtain ⟨hP, hD⟩ := zk (W2 := [(om k0 a I0 J0)]) hP hD [0] [] [] [0] [0] 1 rfl rfl rfl rfl rfl rfl rfl rfl rfl hk1 hFc hP1 hD1
  clear hk1 hPc hDc hFc hP1 hD1 ht
  refine lv_if_ne (tgt := 12) hx hb dX11_wrong_5 rfl (fun c_1 => ?_) (fun c_1 => ?_)
  · have c_1 : 0 ≤ v.toInt ∧ v.toInt < (ft : Int) := zp_1 c_1
    exfalso; exact absurd (by first | with_reducible assumption | assumption) hv
  · have c_1 : ¬ (0 ≤ v.toInt ∧ v.toInt < (ft : Int)) := zp_0 c_1
    refine lv_iconst (v := 1) hx hb dX11_wrong_8 rfl ?_
    refine lv_goto (tgt := 27) hx hb dX11_wrong_9 rfl ?_
    obtain ⟨hP9, hD9⟩ := zq_sub (wc := [(om k0 a I0 J0)]) hP hD [0] rfl rfl
    rw [hQ9]
    exact W.iret (v := 1) hx hb hr (fun t ht hW => ⟨⟨rfl, by rw [ht]; exact hP9, hD9⟩, hS.F ht⟩) hS.2.2 dX11_wrong_27
set_option maxHeartbeats 4000000 in
set_option maxRecDepth 100000 in
theorem k_M_isPlainable (l : Launch) (dC : Nat → ClassId) (dI : Nat → Nat → Nat) (cI cZ cF : ClassId) (sz : Nat) (k0 : Nat) (a : Nat → Nat) (I0 : Nat → Int32) (J0 : Nat → Int64) (f : Nat) (kd : Nat → Int32) (hf_f : f ≤ 200) : Met l yX11_isPlainable (.code yX11_isPlainable cX11_isPlainable 2 (some .boolean) :: ws0) ({ frames := 0, cells := 0, slots := 0, locals := 0 } : Room) (va_Pc [.ref k0, .int (nI f)] (zPre (dC, dI) classes (zTy cI cZ cF) [(om k0 a I0 J0), (oa (a 1) cI 201 kd)] sz zXN)) (zQ (some (.int (pI (¬ (kd f).toInt = 0 ∧ ¬ (kd f).toInt = 6)))) (fun t => va_P (dC, dI) classes [(om k0 a I0 J0), (oa (a 1) cI 201 kd)] t.heap ∧ va_D (va_A [(om k0 a I0 J0), (oa (a 1) cI 201 kd)] sz) [(om k0 a I0 J0), (oa (a 1) cI 201 kd)]) (va_A [(om k0 a I0 J0), (oa (a 1) cI 201 kd)] sz)) 0 0 (va_A [(om k0 a I0 J0), (oa (a 1) cI 201 kd)] sz) := by
  refine Met.ofW (cc := cX11_isPlainable) (maxL := 2) (ret := (some .boolean)) rfl rfl ?_
  intro p e s m args below meth c s₁ B hml hv
  obtain ⟨rfl, hsz, hP, hK, hD0, hXN⟩ := hv
  have hx := B.exec
  have hb := B.bytes
  have hr := B.returns
  have hts0 := atoms_spec (ws := .code yX11_isPlainable cX11_isPlainable 2 (some .boolean) :: ws0) B.pre
  have hts : ∀ w9 ∈ ws0, w9.before ([.ref k0, .int (nI f)] : List Value).toArray s = true := fun w9 h => hts0 w9 (List.mem_cons_of_mem _ h)
  have hown : s.vm.findClass "ScaleShopModel" = some m.cls := findClass_of_methodNamed B.named
  have hlocks := B.notSynchronized
  subst hsz
  have hD := hD0.self (sz := s.heap.size)
  clear hD0
  generalize hAe : va_A [(om k0 a I0 J0), (oa (a 1) cI 201 kd)] s.heap.size = A at hD ⊢
  have hA : ∀ q : Nat, s.heap.size ≤ q → A q := fun q h => by rw [← hAe]; exact Or.inr h
  clear hAe
  have hS : va_S A s.heap s.heap [] := va_S.rf
  have hP : va_P (dC, dI) classes [(om k0 a I0 J0), (oa (a 1) cI 201 kd)] s.heap := hP
  obtain ⟨Q9, hQ9⟩ : ∃ Q9 : State → Prop, Q9 = MQ below (zQ (some (.int (pI (¬ (kd f).toInt = 0 ∧ ¬ (kd f).toInt = 6)))) (fun t => va_P (dC, dI) classes [(om k0 a I0 J0), (oa (a 1) cI 201 kd)] t.heap ∧ va_D A [(om k0 a I0 J0), (oa (a 1) cI 201 kd)]) A) ([.ref k0, .int (nI f)] : List Value).toArray s 0 0 A := ⟨_, rfl⟩
  rw [← hQ9]
  have hl := lv_entry ([.ref k0, .int (nI f)]) (n := 2) (Nat.le_of_ble_eq_true rfl)
  rw [lg_entry_eq]
  generalize (lg_sl ([.ref k0, .int (nI f)]) ++ List.replicate (2 - (lg_sl ([.ref k0, .int (nI f)])).length) Slot.unset).toArray = ls at hl ⊢
  have hl : lv_has ls 2 [(0, .ref k0), (1, .int (nI f))] := hl
  refine lv_aload_n hx hb dX11_isPlainable_0 rfl (lv_at hl 0 rfl) ?_
  refine va_get (D := (dC, dI)) (ci := 9) (v := .ref (a 1)) (C := RX11) (T := TX11) (N := 55) hx hb hts inX11 hown hK hP 0 rfl rfl 1 (Nat.le_of_ble_eq_true rfl) (hts _ mw_1160) (fun _ h9 => h9) rfl dX11_isPlainable_1 ?_
  refine lv_iload_n hx hb dX11_isPlainable_4 rfl (lv_at hl 1 rfl) ?_
  have b9_1 : f < 201 := by omega
  refine z_iald hx hb hK hP 1 0 rfl rfl (e := f) rfl b9_1 (Nat.le_of_ble_eq_true rfl) dX11_isPlainable_5 ?_
  refine lv_if_eq (tgt := 24) hx hb dX11_isPlainable_6 rfl (fun c_2 => ?_) (fun c_2 => ?_)
  · have c_2 : (kd f).toInt = 0 := zc_eq rfl rfl c_2
    refine lv_iconst (v := 0) hx hb dX11_isPlainable_24 rfl ?_
    obtain ⟨hP9, hD9⟩ := zq_sub (wc := [(om k0 a I0 J0), (oa (a 1) cI 201 kd)]) hP hD [0, 1] rfl rfl
    rw [hQ9]
    exact W.zret (ty := .boolean) (v := 0) hx hb hr (rfl) (fun t ht hW => ⟨⟨congrArg (fun z => Outcome.returned (some (Value.int z))) (show (0 : Int32) = pI (¬ (kd f).toInt = 0 ∧ ¬ (kd f).toInt = 6) from (zp_f (by omega)).symm), by rw [ht]; exact hP9, hD9⟩, hS.F ht⟩) hS.2.2 dX11_isPlainable_25
  · have c_2 : ¬ (kd f).toInt = 0 := zc_ne rfl rfl c_2
    refine lv_aload_n hx hb dX11_isPlainable_9 rfl (lv_at hl 0 rfl) ?_
    refine va_get (D := (dC, dI)) (ci := 9) (v := .ref (a 1)) (C := RX11) (T := TX11) (N := 55) hx hb hts inX11 hown hK hP 0 rfl rfl 1 (Nat.le_of_ble_eq_true rfl) (hts _ mw_1160) (fun _ h9 => h9) rfl dX11_isPlainable_10 ?_
    refine lv_iload_n hx hb dX11_isPlainable_13 rfl (lv_at hl 1 rfl) ?_
    refine z_iald hx hb hK hP 1 0 rfl rfl (e := f) rfl b9_1 (Nat.le_of_ble_eq_true rfl) dX11_isPlainable_14 ?_
    refine lv_bipush (v := 6) hx hb dX11_isPlainable_15 rfl ?_
    refine lv_icmp_eq (tgt := 24) hx hb dX11_isPlainable_17 rfl (fun c_3 => ?_) (fun c_3 => ?_)
    · have c_3 : (kd f).toInt = 6 := zc_eq rfl rfl c_3
      refine lv_iconst (v := 0) hx hb dX11_isPlainable_24 rfl ?_
      obtain ⟨hP9, hD9⟩ := zq_sub (wc := [(om k0 a I0 J0), (oa (a 1) cI 201 kd)]) hP hD [0, 1] rfl rfl
      rw [hQ9]
      exact W.zret (ty := .boolean) (v := 0) hx hb hr (rfl) (fun t ht hW => ⟨⟨congrArg (fun z => Outcome.returned (some (Value.int z))) (show (0 : Int32) = pI (¬ (kd f).toInt = 0 ∧ ¬ (kd f).toInt = 6) from (zp_f (by omega)).symm), by rw [ht]; exact hP9, hD9⟩, hS.F ht⟩) hS.2.2 dX11_isPlainable_25
    · have c_3 : ¬ (kd f).toInt = 6 := zc_ne rfl rfl c_3
      refine lv_iconst (v := 1) hx hb dX11_isPlainable_20 rfl ?_
      refine lv_goto (tgt := 25) hx hb dX11_isPlainable_21 rfl ?_
      obtain ⟨hP9, hD9⟩ := zq_sub (wc := [(om k0 a I0 J0), (oa (a 1) cI 201 kd)]) hP hD [0, 1] rfl rfl
      rw [hQ9]
      exact W.zret (ty := .boolean) (v := 1) hx hb hr (rfl) (fun t ht hW => ⟨⟨congrArg (fun z => Outcome.returned (some (Value.int z))) (show (1 : Int32) = pI (¬ (kd f).toInt = 0 ∧ ¬ (kd f).toInt = 6) from (zp_t (by omega)).symm), by rw [ht]; exact hP9, hD9⟩, hS.F ht⟩) hS.2.2 dX11_isPlainable_25
set_option maxHeartbeats 4000000 in
set_option maxRecDepth 100000 in
theorem k_M_settle (l : Launch) (dC : Nat → ClassId) (dI : Nat → Nat → Nat) (cI cZ cF : ClassId) (sz : Nat) (k0 : Nat) (a : Nat → Nat) (I0 : Nat → Int32) (J0 : Nat → Int64) (sa : Nat → Int32) : Met l yX11_settle (.code yX11_settle cX11_settle 1 none :: ws0) ({ frames := 0, cells := 0, slots := 0, locals := 0 } : Room) (va_Pc [.ref k0] (zPre (dC, dI) classes (zTy cI cZ cF) [(om k0 a I0 J0), (oa (a 27) cI 516 sa)] sz zXN)) (zQ none (fun t => va_P (dC, dI) classes [(om k0 a (upd (upd I0 20 0) 21 (I0 19)) J0), (oa (a 27) cI 516 (upd sa 0 0))] t.heap ∧ va_D (va_A [(om k0 a I0 J0), (oa (a 27) cI 516 sa)] sz) [(om k0 a (upd (upd I0 20 0) 21 (I0 19)) J0), (oa (a 27) cI 516 (upd sa 0 0))]) (va_A [(om k0 a I0 J0), (oa (a 27) cI 516 sa)] sz)) 0 0 (va_A [(om k0 a I0 J0), (oa (a 27) cI 516 sa)] sz) := by
  refine Met.ofW (cc := cX11_settle) (maxL := 1) (ret := none) rfl rfl ?_
  intro p e s m args below meth c s₁ B hml hv
  obtain ⟨rfl, hsz, hP, hK, hD0, hXN⟩ := hv
  have hx := B.exec
  have hb := B.bytes
  have hr := B.returns
  have hts0 := atoms_spec (ws := .code yX11_settle cX11_settle 1 none :: ws0) B.pre
  have hts : ∀ w9 ∈ ws0, w9.before ([.ref k0] : List Value).toArray s = true := fun w9 h => hts0 w9 (List.mem_cons_of_mem _ h)
  have hown : s.vm.findClass "ScaleShopModel" = some m.cls := findClass_of_methodNamed B.named
  have hlocks := B.notSynchronized
  subst hsz
  have hD := hD0.self (sz := s.heap.size)
  clear hD0
  generalize hAe : va_A [(om k0 a I0 J0), (oa (a 27) cI 516 sa)] s.heap.size = A at hD ⊢
  have hA : ∀ q : Nat, s.heap.size ≤ q → A q := fun q h => by rw [← hAe]; exact Or.inr h
  clear hAe
  have hS : va_S A s.heap s.heap [] := va_S.rf
  have hP : va_P (dC, dI) classes [(om k0 a I0 J0), (oa (a 27) cI 516 sa)] s.heap := hP
  obtain ⟨Q9, hQ9⟩ : ∃ Q9 : State → Prop, Q9 = MQ below (zQ none (fun t => va_P (dC, dI) classes [(om k0 a (upd (upd I0 20 0) 21 (I0 19)) J0), (oa (a 27) cI 516 (upd sa 0 0))] t.heap ∧ va_D A [(om k0 a (upd (upd I0 20 0) 21 (I0 19)) J0), (oa (a 27) cI 516 (upd sa 0 0))]) A) ([.ref k0] : List Value).toArray s 0 0 A := ⟨_, rfl⟩
  rw [← hQ9]
  have hl := lv_entry ([.ref k0]) (n := 1) (Nat.le_of_ble_eq_true rfl)
  rw [lg_entry_eq]
  generalize (lg_sl ([.ref k0]) ++ List.replicate (1 - (lg_sl ([.ref k0])).length) Slot.unset).toArray = ls at hl ⊢
  have hl : lv_has ls 1 [(0, .ref k0)] := hl
  refine lv_aload_n hx hb dX11_settle_0 rfl (lv_at hl 0 rfl) ?_
  refine lv_aload_n hx hb dX11_settle_1 rfl (lv_at hl 0 rfl) ?_
  refine va_get (D := (dC, dI)) (ci := 9) (v := .int (I0 19)) (C := RX11) (T := TX11) (N := 55) hx hb hts inX11 hown hK hP 0 rfl rfl 19 (Nat.le_of_ble_eq_true rfl) (hts _ mw_1178) (fun _ h9 => h9) rfl dX11_settle_2 ?_
  refine va_put (D := (dC, dI)) (ci := 9) (v := .int (I0 19)) (ty := .int) (C := RX11) (T := TX11) (N := 55) hx hb hts inX11 tyX11 tyX11_ok nmX11 hown hK hP hD hS 0 rfl rfl 21 (by decide) (hts _ mw_1180) (fun _ h9 => h9) rfl (by decide +kernel) rfl rfl (Nat.le_of_ble_eq_true rfl) dX11_settle_5 (fun H locs hP hD hS => ?_)
  obtain ⟨hP, hD⟩ : zPD (dC, dI) classes A [(om k0 a (upd I0 21 (I0 19)) J0), (oa (a 27) cI 516 sa)] H := ⟨hP, hD⟩
  refine lv_aload_n hx hb dX11_settle_8 rfl (lv_at hl 0 rfl) ?_
  refine lv_iconst (v := 0) hx hb dX11_settle_9 rfl ?_
  refine va_put (D := (dC, dI)) (ci := 9) (v := .int 0) (ty := .int) (C := RX11) (T := TX11) (N := 55) hx hb hts inX11 tyX11 tyX11_ok nmX11 hown hK hP hD hS 0 rfl rfl 20 (by decide) (hts _ mw_1179) (fun _ h9 => h9) rfl (by decide +kernel) rfl rfl (Nat.le_of_ble_eq_true rfl) dX11_settle_10 (fun H locs hP hD hS => ?_)
  obtain ⟨hP, hD⟩ : zPD (dC, dI) classes A [(om k0 a (upd (upd I0 20 0) 21 (I0 19)) J0), (oa (a 27) cI 516 sa)] H := ⟨hP, hD⟩
  refine lv_aload_n hx hb dX11_settle_13 rfl (lv_at hl 0 rfl) ?_
  refine va_get (D := (dC, dI)) (ci := 9) (v := .ref (a 27)) (C := RX11) (T := TX11) (N := 55) hx hb hts inX11 hown hK hP 0 rfl rfl 27 (Nat.le_of_ble_eq_true rfl) (hts _ mw_1186) (fun _ h9 => h9) rfl dX11_settle_14 ?_
  refine lv_iconst (v := 0) hx hb dX11_settle_17 rfl ?_
  refine lv_iconst (v := 0) hx hb dX11_settle_18 rfl ?_
  refine z_iast hx hb hK hP hD hS 1 0 rfl rfl (e := 0) (x := 0) rfl (Nat.le_of_ble_eq_true rfl) (Nat.le_of_ble_eq_true rfl) dX11_settle_19 (fun H locs hP hD hS => ?_)
  obtain ⟨hP, hD⟩ : zPD (dC, dI) classes A [(om k0 a (upd (upd I0 20 0) 21 (I0 19)) J0), (oa (a 27) cI 516 (upd sa 0 0))] H := ⟨hP, hD⟩
  obtain ⟨hP9, hD9⟩ := zq_sub (wc := [(om k0 a (upd (upd I0 20 0) 21 (I0 19)) J0), (oa (a 27) cI 516 (upd sa 0 0))]) hP hD [0, 1] rfl rfl
  rw [hQ9]
  exact W.vret hx hb hr (fun t ht hW => ⟨⟨rfl, by rw [ht]; exact hP9, hD9⟩, hS.F ht⟩) hS.2.2 dX11_settle_20
set_option maxHeartbeats 4000000 in
set_option maxRecDepth 100000 in
theorem k_M_begin (l : Launch) (dC : Nat → ClassId) (dI : Nat → Nat → Nat) (cI cZ cF : ClassId) (sz : Nat) (k0 : Nat) (a : Nat → Nat) (I0 : Nat → Int32) (J0 : Nat → Int64) (f : Nat) (k1 : Int32) (k2 : Int32) (k3 : Int32) (k4 : Int32) (kd : Nat → Int32) (rk : Nat → Int32) (wd : Nat → Int32) (tw : Nat → Int32) (st : Nat → Int32) (tn : Nat → Int32) (gb : Nat → Int32) (pa : Nat → Int32) (pb : Nat → Int32) (it : Nat → Int32) (mn : Nat → Int32) (hf_f : f ≤ 200) : Met l yX11_begin (.code yX11_begin cX11_begin 6 none :: ws0) ({ frames := 0, cells := 0, slots := 0, locals := 0 } : Room) (va_Pc [.ref k0, .int (nI f), .int k1, .int k2, .int k3, .int k4] (zPre (dC, dI) classes (zTy cI cZ cF) [(om k0 a I0 J0), (oa (a 1) cI 201 kd), (oa (a 2) cI 201 rk), (oa (a 3) cI 201 wd), (oa (a 4) cI 201 tw), (oa (a 5) cI 201 st), (oa (a 6) cZ 201 tn), (oa (a 7) cI 201 gb), (oa (a 8) cI 201 pa), (oa (a 9) cI 201 pb), (oa (a 10) cI 201 it), (oa (a 11) cI 201 mn)] sz zXN)) (zQ none (fun t => va_P (dC, dI) classes [(om k0 a (upd I0 0 (nI (f + 1))) J0), (oa (a 1) cI 201 (upd kd f k1)), (oa (a 2) cI 201 (upd rk f k2)), (oa (a 3) cI 201 (upd wd f k3)), (oa (a 4) cI 201 (upd tw f k4)), (oa (a 5) cI 201 (upd st f 0)), (oa (a 6) cZ 201 (upd tn f 0)), (oa (a 7) cI 201 (upd gb f 0)), (oa (a 8) cI 201 (upd pa f (-1))), (oa (a 9) cI 201 (upd pb f (-1))), (oa (a 10) cI 201 (upd it f (-1))), (oa (a 11) cI 201 (upd mn f 0))] t.heap ∧ va_D (va_A [(om k0 a I0 J0), (oa (a 1) cI 201 kd), (oa (a 2) cI 201 rk), (oa (a 3) cI 201 wd), (oa (a 4) cI 201 tw), (oa (a 5) cI 201 st), (oa (a 6) cZ 201 tn), (oa (a 7) cI 201 gb), (oa (a 8) cI 201 pa), (oa (a 9) cI 201 pb), (oa (a 10) cI 201 it), (oa (a 11) cI 201 mn)] sz) [(om k0 a (upd I0 0 (nI (f + 1))) J0), (oa (a 1) cI 201 (upd kd f k1)), (oa (a 2) cI 201 (upd rk f k2)), (oa (a 3) cI 201 (upd wd f k3)), (oa (a 4) cI 201 (upd tw f k4)), (oa (a 5) cI 201 (upd st f 0)), (oa (a 6) cZ 201 (upd tn f 0)), (oa (a 7) cI 201 (upd gb f 0)), (oa (a 8) cI 201 (upd pa f (-1))), (oa (a 9) cI 201 (upd pb f (-1))), (oa (a 10) cI 201 (upd it f (-1))), (oa (a 11) cI 201 (upd mn f 0))]) (va_A [(om k0 a I0 J0), (oa (a 1) cI 201 kd), (oa (a 2) cI 201 rk), (oa (a 3) cI 201 wd), (oa (a 4) cI 201 tw), (oa (a 5) cI 201 st), (oa (a 6) cZ 201 tn), (oa (a 7) cI 201 gb), (oa (a 8) cI 201 pa), (oa (a 9) cI 201 pb), (oa (a 10) cI 201 it), (oa (a 11) cI 201 mn)] sz)) 0 0 (va_A [(om k0 a I0 J0), (oa (a 1) cI 201 kd), (oa (a 2) cI 201 rk), (oa (a 3) cI 201 wd), (oa (a 4) cI 201 tw), (oa (a 5) cI 201 st), (oa (a 6) cZ 201 tn), (oa (a 7) cI 201 gb), (oa (a 8) cI 201 pa), (oa (a 9) cI 201 pb), (oa (a 10) cI 201 it), (oa (a 11) cI 201 mn)] sz) := by
  refine Met.ofW (cc := cX11_begin) (maxL := 6) (ret := none) rfl rfl ?_
  intro p e s m args below meth c s₁ B hml hv
  obtain ⟨rfl, hsz, hP, hK, hD0, hXN⟩ := hv
  have hx := B.exec
  have hb := B.bytes
  have hr := B.returns
  have hts0 := atoms_spec (ws := .code yX11_begin cX11_begin 6 none :: ws0) B.pre
  have hts : ∀ w9 ∈ ws0, w9.before ([.ref k0, .int (nI f), .int k1, .int k2, .int k3, .int k4] : List Value).toArray s = true := fun w9 h => hts0 w9 (List.mem_cons_of_mem _ h)
  have hown : s.vm.findClass "ScaleShopModel" = some m.cls := findClass_of_methodNamed B.named
  have hlocks := B.notSynchronized
  subst hsz
  have hD := hD0.self (sz := s.heap.size)
  clear hD0
  generalize hAe : va_A [(om k0 a I0 J0), (oa (a 1) cI 201 kd), (oa (a 2) cI 201 rk), (oa (a 3) cI 201 wd), (oa (a 4) cI 201 tw), (oa (a 5) cI 201 st), (oa (a 6) cZ 201 tn), (oa (a 7) cI 201 gb), (oa (a 8) cI 201 pa), (oa (a 9) cI 201 pb), (oa (a 10) cI 201 it), (oa (a 11) cI 201 mn)] s.heap.size = A at hD ⊢
  have hA : ∀ q : Nat, s.heap.size ≤ q → A q := fun q h => by rw [← hAe]; exact Or.inr h
  clear hAe
  have hS : va_S A s.heap s.heap [] := va_S.rf
  have hP : va_P (dC, dI) classes [(om k0 a I0 J0), (oa (a 1) cI 201 kd), (oa (a 2) cI 201 rk), (oa (a 3) cI 201 wd), (oa (a 4) cI 201 tw), (oa (a 5) cI 201 st), (oa (a 6) cZ 201 tn), (oa (a 7) cI 201 gb), (oa (a 8) cI 201 pa), (oa (a 9) cI 201 pb), (oa (a 10) cI 201 it), (oa (a 11) cI 201 mn)] s.heap := hP
  obtain ⟨Q9, hQ9⟩ : ∃ Q9 : State → Prop, Q9 = MQ below (zQ none (fun t => va_P (dC, dI) classes [(om k0 a (upd I0 0 (nI (f + 1))) J0), (oa (a 1) cI 201 (upd kd f k1)), (oa (a 2) cI 201 (upd rk f k2)), (oa (a 3) cI 201 (upd wd f k3)), (oa (a 4) cI 201 (upd tw f k4)), (oa (a 5) cI 201 (upd st f 0)), (oa (a 6) cZ 201 (upd tn f 0)), (oa (a 7) cI 201 (upd gb f 0)), (oa (a 8) cI 201 (upd pa f (-1))), (oa (a 9) cI 201 (upd pb f (-1))), (oa (a 10) cI 201 (upd it f (-1))), (oa (a 11) cI 201 (upd mn f 0))] t.heap ∧ va_D A [(om k0 a (upd I0 0 (nI (f + 1))) J0), (oa (a 1) cI 201 (upd kd f k1)), (oa (a 2) cI 201 (upd rk f k2)), (oa (a 3) cI 201 (upd wd f k3)), (oa (a 4) cI 201 (upd tw f k4)), (oa (a 5) cI 201 (upd st f 0)), (oa (a 6) cZ 201 (upd tn f 0)), (oa (a 7) cI 201 (upd gb f 0)), (oa (a 8) cI 201 (upd pa f (-1))), (oa (a 9) cI 201 (upd pb f (-1))), (oa (a 10) cI 201 (upd it f (-1))), (oa (a 11) cI 201 (upd mn f 0))]) A) ([.ref k0, .int (nI f), .int k1, .int k2, .int k3, .int k4] : List Value).toArray s 0 0 A := ⟨_, rfl⟩
  rw [← hQ9]
  have hl := lv_entry ([.ref k0, .int (nI f), .int k1, .int k2, .int k3, .int k4]) (n := 6) (Nat.le_of_ble_eq_true rfl)
  rw [lg_entry_eq]
  generalize (lg_sl ([.ref k0, .int (nI f), .int k1, .int k2, .int k3, .int k4]) ++ List.replicate (6 - (lg_sl ([.ref k0, .int (nI f), .int k1, .int k2, .int k3, .int k4])).length) Slot.unset).toArray = ls at hl ⊢
  have hl : lv_has ls 6 [(0, .ref k0), (1, .int (nI f)), (2, .int k1), (3, .int k2), (4, .int k3), (5, .int k4)] := hl
  refine lv_aload_n hx hb dX11_begin_0 rfl (lv_at hl 0 rfl) ?_
  refine lv_iload_n hx hb dX11_begin_1 rfl (lv_at hl 1 rfl) ?_
  refine lv_iconst (v := 1) hx hb dX11_begin_2 rfl ?_
  refine lv_iadd hx hb dX11_begin_3 ?_
  refine zz_i (v := nI (f + 1)) (nI_add f 1) ?_
  refine va_put (D := (dC, dI)) (ci := 9) (v := .int (nI (f + 1))) (ty := .int) (C := RX11) (T := TX11) (N := 55) hx hb hts inX11 tyX11 tyX11_ok nmX11 hown hK hP hD hS 0 rfl rfl 0 (by decide) (hts _ mw_1159) (fun _ h9 => h9) rfl (by decide +kernel) rfl rfl (Nat.le_of_ble_eq_true rfl) dX11_begin_4 (fun H locs hP hD hS => ?_)
  obtain ⟨hP, hD⟩ : zPD (dC, dI) classes A [(om k0 a (upd I0 0 (nI (f + 1))) J0), (oa (a 1) cI 201 kd), (oa (a 2) cI 201 rk), (oa (a 3) cI 201 wd), (oa (a 4) cI 201 tw), (oa (a 5) cI 201 st), (oa (a 6) cZ 201 tn), (oa (a 7) cI 201 gb), (oa (a 8) cI 201 pa), (oa (a 9) cI 201 pb), (oa (a 10) cI 201 it), (oa (a 11) cI 201 mn)] H := ⟨hP, hD⟩
  refine lv_aload_n hx hb dX11_begin_7 rfl (lv_at hl 0 rfl) ?_
  refine va_get (D := (dC, dI)) (ci := 9) (v := .ref (a 1)) (C := RX11) (T := TX11) (N := 55) hx hb hts inX11 hown hK hP 0 rfl rfl 1 (Nat.le_of_ble_eq_true rfl) (hts _ mw_1160) (fun _ h9 => h9) rfl dX11_begin_8 ?_
  refine lv_iload_n hx hb dX11_begin_11 rfl (lv_at hl 1 rfl) ?_
  refine lv_iload_n hx hb dX11_begin_12 rfl (lv_at hl 2 rfl) ?_
  have b9_1 : f < 201 := by omega
  refine z_iast hx hb hK hP hD hS 1 0 rfl rfl (e := f) (x := k1) rfl b9_1 (Nat.le_of_ble_eq_true rfl) dX11_begin_13 (fun H locs hP hD hS => ?_)
  obtain ⟨hP, hD⟩ : zPD (dC, dI) classes A [(om k0 a (upd I0 0 (nI (f + 1))) J0), (oa (a 1) cI 201 (upd kd f k1)), (oa (a 2) cI 201 rk), (oa (a 3) cI 201 wd), (oa (a 4) cI 201 tw), (oa (a 5) cI 201 st), (oa (a 6) cZ 201 tn), (oa (a 7) cI 201 gb), (oa (a 8) cI 201 pa), (oa (a 9) cI 201 pb), (oa (a 10) cI 201 it), (oa (a 11) cI 201 mn)] H := ⟨hP, hD⟩
  refine lv_aload_n hx hb dX11_begin_14 rfl (lv_at hl 0 rfl) ?_
  refine va_get (D := (dC, dI)) (ci := 9) (v := .ref (a 2)) (C := RX11) (T := TX11) (N := 55) hx hb hts inX11 hown hK hP 0 rfl rfl 2 (Nat.le_of_ble_eq_true rfl) (hts _ mw_1161) (fun _ h9 => h9) rfl dX11_begin_15 ?_
  refine lv_iload_n hx hb dX11_begin_18 rfl (lv_at hl 1 rfl) ?_
  refine lv_iload_n hx hb dX11_begin_19 rfl (lv_at hl 3 rfl) ?_
  refine z_iast hx hb hK hP hD hS 2 0 rfl rfl (e := f) (x := k2) rfl b9_1 (Nat.le_of_ble_eq_true rfl) dX11_begin_20 (fun H locs hP hD hS => ?_)
  obtain ⟨hP, hD⟩ : zPD (dC, dI) classes A [(om k0 a (upd I0 0 (nI (f + 1))) J0), (oa (a 1) cI 201 (upd kd f k1)), (oa (a 2) cI 201 (upd rk f k2)), (oa (a 3) cI 201 wd), (oa (a 4) cI 201 tw), (oa (a 5) cI 201 st), (oa (a 6) cZ 201 tn), (oa (a 7) cI 201 gb), (oa (a 8) cI 201 pa), (oa (a 9) cI 201 pb), (oa (a 10) cI 201 it), (oa (a 11) cI 201 mn)] H := ⟨hP, hD⟩
  refine lv_aload_n hx hb dX11_begin_21 rfl (lv_at hl 0 rfl) ?_
  refine va_get (D := (dC, dI)) (ci := 9) (v := .ref (a 3)) (C := RX11) (T := TX11) (N := 55) hx hb hts inX11 hown hK hP 0 rfl rfl 3 (Nat.le_of_ble_eq_true rfl) (hts _ mw_1162) (fun _ h9 => h9) rfl dX11_begin_22 ?_
  refine lv_iload_n hx hb dX11_begin_25 rfl (lv_at hl 1 rfl) ?_
  refine lv_iload hx hb dX11_begin_26 (lv_at hl 4 rfl) ?_
  refine z_iast hx hb hK hP hD hS 3 0 rfl rfl (e := f) (x := k3) rfl b9_1 (Nat.le_of_ble_eq_true rfl) dX11_begin_28 (fun H locs hP hD hS => ?_)
  obtain ⟨hP, hD⟩ : zPD (dC, dI) classes A [(om k0 a (upd I0 0 (nI (f + 1))) J0), (oa (a 1) cI 201 (upd kd f k1)), (oa (a 2) cI 201 (upd rk f k2)), (oa (a 3) cI 201 (upd wd f k3)), (oa (a 4) cI 201 tw), (oa (a 5) cI 201 st), (oa (a 6) cZ 201 tn), (oa (a 7) cI 201 gb), (oa (a 8) cI 201 pa), (oa (a 9) cI 201 pb), (oa (a 10) cI 201 it), (oa (a 11) cI 201 mn)] H := ⟨hP, hD⟩
  refine lv_aload_n hx hb dX11_begin_29 rfl (lv_at hl 0 rfl) ?_
  refine va_get (D := (dC, dI)) (ci := 9) (v := .ref (a 4)) (C := RX11) (T := TX11) (N := 55) hx hb hts inX11 hown hK hP 0 rfl rfl 4 (Nat.le_of_ble_eq_true rfl) (hts _ mw_1163) (fun _ h9 => h9) rfl dX11_begin_30 ?_
  refine lv_iload_n hx hb dX11_begin_33 rfl (lv_at hl 1 rfl) ?_
  refine lv_iload hx hb dX11_begin_34 (lv_at hl 5 rfl) ?_
  refine z_iast hx hb hK hP hD hS 4 0 rfl rfl (e := f) (x := k4) rfl b9_1 (Nat.le_of_ble_eq_true rfl) dX11_begin_36 (fun H locs hP hD hS => ?_)
  obtain ⟨hP, hD⟩ : zPD (dC, dI) classes A [(om k0 a (upd I0 0 (nI (f + 1))) J0), (oa (a 1) cI 201 (upd kd f k1)), (oa (a 2) cI 201 (upd rk f k2)), (oa (a 3) cI 201 (upd wd f k3)), (oa (a 4) cI 201 (upd tw f k4)), (oa (a 5) cI 201 st), (oa (a 6) cZ 201 tn), (oa (a 7) cI 201 gb), (oa (a 8) cI 201 pa), (oa (a 9) cI 201 pb), (oa (a 10) cI 201 it), (oa (a 11) cI 201 mn)] H := ⟨hP, hD⟩
  refine lv_aload_n hx hb dX11_begin_37 rfl (lv_at hl 0 rfl) ?_
  refine va_get (D := (dC, dI)) (ci := 9) (v := .ref (a 5)) (C := RX11) (T := TX11) (N := 55) hx hb hts inX11 hown hK hP 0 rfl rfl 5 (Nat.le_of_ble_eq_true rfl) (hts _ mw_1164) (fun _ h9 => h9) rfl dX11_begin_38 ?_
  refine lv_iload_n hx hb dX11_begin_41 rfl (lv_at hl 1 rfl) ?_
  refine lv_iconst (v := 0) hx hb dX11_begin_42 rfl ?_
  refine z_iast hx hb hK hP hD hS 5 0 rfl rfl (e := f) (x := 0) rfl b9_1 (Nat.le_of_ble_eq_true rfl) dX11_begin_43 (fun H locs hP hD hS => ?_)
  obtain ⟨hP, hD⟩ : zPD (dC, dI) classes A [(om k0 a (upd I0 0 (nI (f + 1))) J0), (oa (a 1) cI 201 (upd kd f k1)), (oa (a 2) cI 201 (upd rk f k2)), (oa (a 3) cI 201 (upd wd f k3)), (oa (a 4) cI 201 (upd tw f k4)), (oa (a 5) cI 201 (upd st f 0)), (oa (a 6) cZ 201 tn), (oa (a 7) cI 201 gb), (oa (a 8) cI 201 pa), (oa (a 9) cI 201 pb), (oa (a 10) cI 201 it), (oa (a 11) cI 201 mn)] H := ⟨hP, hD⟩
  refine lv_aload_n hx hb dX11_begin_44 rfl (lv_at hl 0 rfl) ?_
  refine va_get (D := (dC, dI)) (ci := 9) (v := .ref (a 6)) (C := RX11) (T := TX11) (N := 55) hx hb hts inX11 hown hK hP 0 rfl rfl 6 (Nat.le_of_ble_eq_true rfl) (hts _ mw_1165) (fun _ h9 => h9) rfl dX11_begin_45 ?_
  refine lv_iload_n hx hb dX11_begin_48 rfl (lv_at hl 1 rfl) ?_
  refine lv_iconst (v := 0) hx hb dX11_begin_49 rfl ?_
  refine z_zast hx hb hK hP hD hS 6 1 rfl rfl (e := f) (x := 0) rfl b9_1 (Nat.le_of_ble_eq_true rfl) (by decide) dX11_begin_50 (fun H locs hP hD hS => ?_)
  obtain ⟨hP, hD⟩ : zPD (dC, dI) classes A [(om k0 a (upd I0 0 (nI (f + 1))) J0), (oa (a 1) cI 201 (upd kd f k1)), (oa (a 2) cI 201 (upd rk f k2)), (oa (a 3) cI 201 (upd wd f k3)), (oa (a 4) cI 201 (upd tw f k4)), (oa (a 5) cI 201 (upd st f 0)), (oa (a 6) cZ 201 (upd tn f 0)), (oa (a 7) cI 201 gb), (oa (a 8) cI 201 pa), (oa (a 9) cI 201 pb), (oa (a 10) cI 201 it), (oa (a 11) cI 201 mn)] H := ⟨hP, hD⟩
  refine lv_aload_n hx hb dX11_begin_51 rfl (lv_at hl 0 rfl) ?_
  refine va_get (D := (dC, dI)) (ci := 9) (v := .ref (a 7)) (C := RX11) (T := TX11) (N := 55) hx hb hts inX11 hown hK hP 0 rfl rfl 7 (Nat.le_of_ble_eq_true rfl) (hts _ mw_1166) (fun _ h9 => h9) rfl dX11_begin_52 ?_
  refine lv_iload_n hx hb dX11_begin_55 rfl (lv_at hl 1 rfl) ?_
  refine lv_iconst (v := 0) hx hb dX11_begin_56 rfl ?_
  refine z_iast hx hb hK hP hD hS 7 0 rfl rfl (e := f) (x := 0) rfl b9_1 (Nat.le_of_ble_eq_true rfl) dX11_begin_57 (fun H locs hP hD hS => ?_)
  obtain ⟨hP, hD⟩ : zPD (dC, dI) classes A [(om k0 a (upd I0 0 (nI (f + 1))) J0), (oa (a 1) cI 201 (upd kd f k1)), (oa (a 2) cI 201 (upd rk f k2)), (oa (a 3) cI 201 (upd wd f k3)), (oa (a 4) cI 201 (upd tw f k4)), (oa (a 5) cI 201 (upd st f 0)), (oa (a 6) cZ 201 (upd tn f 0)), (oa (a 7) cI 201 (upd gb f 0)), (oa (a 8) cI 201 pa), (oa (a 9) cI 201 pb), (oa (a 10) cI 201 it), (oa (a 11) cI 201 mn)] H := ⟨hP, hD⟩
  refine lv_aload_n hx hb dX11_begin_58 rfl (lv_at hl 0 rfl) ?_
  refine va_get (D := (dC, dI)) (ci := 9) (v := .ref (a 8)) (C := RX11) (T := TX11) (N := 55) hx hb hts inX11 hown hK hP 0 rfl rfl 8 (Nat.le_of_ble_eq_true rfl) (hts _ mw_1167) (fun _ h9 => h9) rfl dX11_begin_59 ?_
  refine lv_iload_n hx hb dX11_begin_62 rfl (lv_at hl 1 rfl) ?_
  refine lv_iconst (v := (-1)) hx hb dX11_begin_63 rfl ?_
  refine z_iast hx hb hK hP hD hS 8 0 rfl rfl (e := f) (x := (-1)) rfl b9_1 (Nat.le_of_ble_eq_true rfl) dX11_begin_64 (fun H locs hP hD hS => ?_)
  obtain ⟨hP, hD⟩ : zPD (dC, dI) classes A [(om k0 a (upd I0 0 (nI (f + 1))) J0), (oa (a 1) cI 201 (upd kd f k1)), (oa (a 2) cI 201 (upd rk f k2)), (oa (a 3) cI 201 (upd wd f k3)), (oa (a 4) cI 201 (upd tw f k4)), (oa (a 5) cI 201 (upd st f 0)), (oa (a 6) cZ 201 (upd tn f 0)), (oa (a 7) cI 201 (upd gb f 0)), (oa (a 8) cI 201 (upd pa f (-1))), (oa (a 9) cI 201 pb), (oa (a 10) cI 201 it), (oa (a 11) cI 201 mn)] H := ⟨hP, hD⟩
  refine lv_aload_n hx hb dX11_begin_65 rfl (lv_at hl 0 rfl) ?_
  refine va_get (D := (dC, dI)) (ci := 9) (v := .ref (a 9)) (C := RX11) (T := TX11) (N := 55) hx hb hts inX11 hown hK hP 0 rfl rfl 9 (Nat.le_of_ble_eq_true rfl) (hts _ mw_1168) (fun _ h9 => h9) rfl dX11_begin_66 ?_
  refine lv_iload_n hx hb dX11_begin_69 rfl (lv_at hl 1 rfl) ?_
  refine lv_iconst (v := (-1)) hx hb dX11_begin_70 rfl ?_
  refine z_iast hx hb hK hP hD hS 9 0 rfl rfl (e := f) (x := (-1)) rfl b9_1 (Nat.le_of_ble_eq_true rfl) dX11_begin_71 (fun H locs hP hD hS => ?_)
  obtain ⟨hP, hD⟩ : zPD (dC, dI) classes A [(om k0 a (upd I0 0 (nI (f + 1))) J0), (oa (a 1) cI 201 (upd kd f k1)), (oa (a 2) cI 201 (upd rk f k2)), (oa (a 3) cI 201 (upd wd f k3)), (oa (a 4) cI 201 (upd tw f k4)), (oa (a 5) cI 201 (upd st f 0)), (oa (a 6) cZ 201 (upd tn f 0)), (oa (a 7) cI 201 (upd gb f 0)), (oa (a 8) cI 201 (upd pa f (-1))), (oa (a 9) cI 201 (upd pb f (-1))), (oa (a 10) cI 201 it), (oa (a 11) cI 201 mn)] H := ⟨hP, hD⟩
  refine lv_aload_n hx hb dX11_begin_72 rfl (lv_at hl 0 rfl) ?_
  refine va_get (D := (dC, dI)) (ci := 9) (v := .ref (a 10)) (C := RX11) (T := TX11) (N := 55) hx hb hts inX11 hown hK hP 0 rfl rfl 10 (Nat.le_of_ble_eq_true rfl) (hts _ mw_1169) (fun _ h9 => h9) rfl dX11_begin_73 ?_
  refine lv_iload_n hx hb dX11_begin_76 rfl (lv_at hl 1 rfl) ?_
  refine lv_iconst (v := (-1)) hx hb dX11_begin_77 rfl ?_
  refine z_iast hx hb hK hP hD hS 10 0 rfl rfl (e := f) (x := (-1)) rfl b9_1 (Nat.le_of_ble_eq_true rfl) dX11_begin_78 (fun H locs hP hD hS => ?_)
  obtain ⟨hP, hD⟩ : zPD (dC, dI) classes A [(om k0 a (upd I0 0 (nI (f + 1))) J0), (oa (a 1) cI 201 (upd kd f k1)), (oa (a 2) cI 201 (upd rk f k2)), (oa (a 3) cI 201 (upd wd f k3)), (oa (a 4) cI 201 (upd tw f k4)), (oa (a 5) cI 201 (upd st f 0)), (oa (a 6) cZ 201 (upd tn f 0)), (oa (a 7) cI 201 (upd gb f 0)), (oa (a 8) cI 201 (upd pa f (-1))), (oa (a 9) cI 201 (upd pb f (-1))), (oa (a 10) cI 201 (upd it f (-1))), (oa (a 11) cI 201 mn)] H := ⟨hP, hD⟩
  refine lv_aload_n hx hb dX11_begin_79 rfl (lv_at hl 0 rfl) ?_
  refine va_get (D := (dC, dI)) (ci := 9) (v := .ref (a 11)) (C := RX11) (T := TX11) (N := 55) hx hb hts inX11 hown hK hP 0 rfl rfl 11 (Nat.le_of_ble_eq_true rfl) (hts _ mw_1170) (fun _ h9 => h9) rfl dX11_begin_80 ?_
  refine lv_iload_n hx hb dX11_begin_83 rfl (lv_at hl 1 rfl) ?_
  refine lv_iconst (v := 0) hx hb dX11_begin_84 rfl ?_
  refine z_iast hx hb hK hP hD hS 11 0 rfl rfl (e := f) (x := 0) rfl b9_1 (Nat.le_of_ble_eq_true rfl) dX11_begin_85 (fun H locs hP hD hS => ?_)
  obtain ⟨hP, hD⟩ : zPD (dC, dI) classes A [(om k0 a (upd I0 0 (nI (f + 1))) J0), (oa (a 1) cI 201 (upd kd f k1)), (oa (a 2) cI 201 (upd rk f k2)), (oa (a 3) cI 201 (upd wd f k3)), (oa (a 4) cI 201 (upd tw f k4)), (oa (a 5) cI 201 (upd st f 0)), (oa (a 6) cZ 201 (upd tn f 0)), (oa (a 7) cI 201 (upd gb f 0)), (oa (a 8) cI 201 (upd pa f (-1))), (oa (a 9) cI 201 (upd pb f (-1))), (oa (a 10) cI 201 (upd it f (-1))), (oa (a 11) cI 201 (upd mn f 0))] H := ⟨hP, hD⟩
  obtain ⟨hP9, hD9⟩ := zq_sub (wc := [(om k0 a (upd I0 0 (nI (f + 1))) J0), (oa (a 1) cI 201 (upd kd f k1)), (oa (a 2) cI 201 (upd rk f k2)), (oa (a 3) cI 201 (upd wd f k3)), (oa (a 4) cI 201 (upd tw f k4)), (oa (a 5) cI 201 (upd st f 0)), (oa (a 6) cZ 201 (upd tn f 0)), (oa (a 7) cI 201 (upd gb f 0)), (oa (a 8) cI 201 (upd pa f (-1))), (oa (a 9) cI 201 (upd pb f (-1))), (oa (a 10) cI 201 (upd it f (-1))), (oa (a 11) cI 201 (upd mn f 0))]) hP hD [0, 1, 2, 3, 4, 5, 6, 7, 8, 9, 10, 11] rfl rfl
  rw [hQ9]
  exact W.vret hx hb hr (fun t ht hW => ⟨⟨rfl, by rw [ht]; exact hP9, hD9⟩, hS.F ht⟩) hS.2.2 dX11_begin_86
end
