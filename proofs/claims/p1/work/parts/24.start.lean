set_option maxHeartbeats 4000000 in
set_option maxRecDepth 100000 in
/-- THE LAW, from its entry -/
theorem whole_start {p : Program} {e : Env} {s : State} {m : MethodId} {below : List Frame} {meth : Method} {c : Code} (l : Launch) {b L : Nat} {xs : Nat → Int32} (hL : L ≤ 6) (C0 : lw_At p s m meth c b L xs) : W p l e room_1 s m #[Value.ref b] below meth c s.heap [] 0 0 (lw_Z below #[Value.ref b] s) (entryFrame m ([Value.ref b] : List Value).toArray 4) := by
  obtain ⟨hx, hb, hr, hml, hown, hts1, hX, hbl, hlocks, hgv⟩ := id C0
  have hts : ∀ w9 ∈ ws0, w9.before #[Value.ref b] s = true := fun w9 h => hts1 w9 (List.mem_filter.mp h).1
  have hA : ∀ q : Nat, s.heap.size ≤ q → (fun q : Nat => s.heap.size ≤ q) q := fun _ h => h
  have hbA : ¬ (fun q : Nat => s.heap.size ≤ q) b := Nat.not_le.mpr hbl
  obtain ⟨c0, iS0, hKn0⟩ := u_known (C := RX0) (T := TX0) (N := 4) (n := 4) hts inX0 (hts _ mw_197)
  obtain ⟨c1, iS1, hKn1⟩ := u_known (C := RX2) (T := TX2) (N := 8) (n := 8) hts inX2 (hts _ mw_365)
  obtain ⟨c2, iS2, hKn2⟩ := u_known (C := RX3) (T := TX3) (N := 2) (n := 2) hts inX3 (hts _ mw_268)
  obtain ⟨c3, iS3, hKn3⟩ := u_known (C := RX4) (T := TX4) (N := 6) (n := 6) hts inX4 (hts _ mw_147)
  obtain ⟨c4, iS4, hKn4⟩ := u_known (C := RX5) (T := TX5) (N := 6) (n := 6) hts inX5 (hts _ mw_373)
  obtain ⟨c5, iS5, hKn5⟩ := u_known (C := RX6) (T := TX6) (N := 6) (n := 6) hts inX6 (hts _ mw_240)
  obtain ⟨c6, iS6, hKn6⟩ := u_known (C := RX7) (T := TX7) (N := 4) (n := 4) hts inX7 (hts _ mw_153)
  obtain ⟨c7, iS7, hKn7⟩ := u_known (C := RX8) (T := TX8) (N := 2) (n := 2) hts inX8 (hts _ mw_129)
  obtain ⟨c8, iS8, hKn8⟩ := u_known (C := RX10) (T := TX10) (N := 13) (n := 13) hts inX10 (hts _ mw_121)
  obtain ⟨c9, iS9, hKn9⟩ := u_known (C := RX11) (T := TX11) (N := 55) (n := 55) hts inX11 (hts _ mw_1154)
  obtain ⟨c10, iS10, hKn10⟩ := u_known (C := RJx4a65c) (T := TJx4a65c) (N := 3) (n := 3) hts inJx4a65c (hts _ mw_283)
  obtain ⟨dC, dI, hKc⟩ : ∃ (dC : Nat → ClassId) (dI : Nat → Nat → Nat), ∀ (k : Nat) (q : vw_C), classes[k]? = some q → u_Kn s q.1 q.2.1 q.2.2 (dC k) (dI k) := by
    refine ⟨fun k => match k with | 0 => c0 | 1 => c1 | 2 => c2 | 3 => c3 | 4 => c4 | 5 => c5 | 6 => c6 | 7 => c7 | 8 => c8 | 9 => c9 | _ => c10, fun k => match k with | 0 => iS0 | 1 => iS1 | 2 => iS2 | 3 => iS3 | 4 => iS4 | 5 => iS5 | 6 => iS6 | 7 => iS7 | 8 => iS8 | 9 => iS9 | _ => iS10, ?_⟩
    intro k q hq
    match k, hq with
    | 0, hq => cases hq; exact hKn0
    | 1, hq => cases hq; exact hKn1
    | 2, hq => cases hq; exact hKn2
    | 3, hq => cases hq; exact hKn3
    | 4, hq => cases hq; exact hKn4
    | 5, hq => cases hq; exact hKn5
    | 6, hq => cases hq; exact hKn6
    | 7, hq => cases hq; exact hKn7
    | 8, hq => cases hq; exact hKn8
    | 9, hq => cases hq; exact hKn9
    | 10, hq => cases hq; exact hKn10
    | k + 11, hq => simp [classes] at hq
  obtain ⟨cI, kI, compI, fI1, fI2, fI3⟩ := Cond.arrayClass_spec (hts _ mw_195)
  obtain ⟨cZ, kZ, compZ, fZ1, fZ2, fZ3⟩ := Cond.arrayClass_spec (hts _ mw_308)
  have hAO : zXA s := va_AO.of (hts1 (Jvm.Cond.arrayOver (Jvm.ClassFile.FieldType.object "ScaleShop$Feature")) (List.mem_of_getElem? (i := 135) (by decide +kernel)))
  obtain ⟨compF, cF, kF, fF1, -, fF3, fF4, fF5⟩ := Cond.arrayOver_spec hAO
  have hK : va_K (dC, dI) classes (zTy cI cZ cF) s := by
    refine ⟨hKc, fun k q h => ?_⟩
    match k, h with
    | 0, h => cases h; exact ⟨fun n z => ⟨fun k h => (by cases h), kI, fI2, compI, fI3⟩, fI1⟩
    | 1, h => cases h; exact ⟨fun n z => ⟨fun k h => (by cases h), kZ, fZ2, compZ, fZ3⟩, fZ1⟩
    | 2, h => cases h; exact ⟨fun n z => ⟨fun k h => (by cases h), kF, fF3, compF, fF4⟩, kF, compF, fF3, fF4, fF1, fF5⟩
    | k + 3, h => simp [zTy] at h
  have hs9 := flat_of_before _ hgv
  have hlen : (Cond.eq (.length (.static "java/util/ArrayList" "DEFAULTCAPACITY_EMPTY_ELEMENTDATA" "[Ljava/lang/Object;")) (.int 0)).before #[Value.ref b] s = true := hs9 _ (by decide +kernel)
  obtain ⟨e0, cell0, he0, -, -⟩ := Term.length_spec (va_eqt hlen)
  have hZ : zXZ e0 (fun q : Nat => s.heap.size ≤ q) s := va_Zof (hts1 (Jvm.Cond.laysStatic "java/util/ArrayList" "DEFAULTCAPACITY_EMPTY_ELEMENTDATA" "[Ljava/lang/Object;") (List.mem_of_getElem? (i := 295) (by decide +kernel))) (hts _ mw_109) he0 (fun a h => Nat.not_le.mpr h)
  have hS : va_S (fun q : Nat => s.heap.size ≤ q) s.heap s.heap [] := va_S.rf
  have hP : va_P (dC, dI) classes [] s.heap := fun k q h => by simp at h
  have hD : va_D (fun q : Nat => s.heap.size ≤ q) [] := ⟨fun i j p q h => by simp at h, fun k q h => by simp at h⟩
  have hl := lv_entry ([.ref b]) (n := 4) (Nat.le_of_ble_eq_true rfl)
  rw [lg_entry_eq]
  generalize (lg_sl ([.ref b]) ++ List.replicate (4 - (lg_sl ([.ref b])).length) Slot.unset).toArray = ls at hl ⊢
  have hl : lv_has ls 4 [(0, .ref b)] := hl
  refine va_new (ci := 8) (fs := [.null, .null, .null, .null, .null, .null, .null, .null, .null, .int 0, .int 0, .int 0, .int 0]) (C := RX10) (T := TX10) (N := 13) hx hb hts inX10 tyX10 tyX10_ok hown (hts _ mw_120) (hts _ mw_121) (hts _ mw_99) hK hP hD hS hA rfl dfX10 (Nat.le_of_ble_eq_true rfl) (Nat.le_of_ble_eq_true rfl) dL_law_0 (fun q_1 H hP hD hS => ?_)
  have hP : va_P (dC, dI) classes [(q_1, .inr (8, [.null, .null, .null, .null, .null, .null, .null, .null, .null, .int 0, .int 0, .int 0, .int 0]))] H := hP
  have hD : va_D (fun q : Nat => s.heap.size ≤ q) [(q_1, .inr (8, [.null, .null, .null, .null, .null, .null, .null, .null, .null, .int 0, .int 0, .int 0, .int 0]))] := hD
  refine lv_dup hx hb dL_law_3 rfl ?_
  have hPc := hP.sub (ws' := [(q_1, .inr (8, [.null, .null, .null, .null, .null, .null, .null, .null, .null, .int 0, .int 0, .int 0, .int 0]))]) [0] rfl
  have hDc := hD.sub (ws' := [(q_1, .inr (8, [.null, .null, .null, .null, .null, .null, .null, .null, .null, .int 0, .int 0, .int 0, .int 0]))]) [0] (by decide) rfl
  have hFc := va_free (wc := [(q_1, .inr (8, [.null, .null, .null, .null, .null, .null, .null, .null, .null, .int 0, .int 0, .int 0, .int 0]))]) hD hS hA [0] rfl
  refine zcall (st1 := [.ref q_1]) (va_runI (As := []) (rest := [.ref q_1]) ⟨hx, hb, hml, hown, hts⟩ (k_Shop_init l dC dI cI cZ cF H.size q_1 e0 ) (cwI 0 hts (zz_gC mc_yX10_init) rfl rfl rfl (hts _ mw_99) (hts _ mw_122) (hts _ mw_123) rfl (by decide +kernel) ⟨Nat.le_of_ble_eq_true rfl, Nat.le_of_ble_eq_true rfl⟩) (zPSAZ hPc hDc hK hAO hZ hS hFc) rfl rfl hl.1 rfl (lv_room (Nat.le_of_ble_eq_true rfl)) dL_law_4 ⟨Nat.le_of_ble_eq_true rfl, Nat.le_of_ble_eq_true rfl⟩) hS hFc hFc rfl (fun t H1 locs ht hB hk1 hS => ?_)
  obtain ⟨q_2, q_3, q_4, q_5, q_6, q_7, q_8, q_9, q_10, q_11, q_12, q_13, q_14, q_15, q_16, hP1, hD1⟩ := hB
  rw [ht] at hP1
  obtain ⟨hP, hD⟩ := va_join (wr := []) (w1 := [(q_1, .inr (8, [.ref q_2, .ref q_3, .ref q_4, .ref q_5, .ref q_6, .ref q_7, .ref q_8, .ref q_9, .ref q_10, .int 0, .int 0, .int 0, .int 0])), (q_2, .inr (7, [.ref q_11, .int 0])), (q_11, .inl (cF, 200, .inr (.inr (.inr (.inr (fun _ => none)))))), (q_4, .inr (5, [.ref q_12, .ref q_13, .ref q_14, .ref q_15, .ref q_16, .int 0])), (q_10, .inr (10, [.int 0, .ref e0, .int 0]))]) hP hD [0] [] rfl rfl (by decide) (by decide) hk1 hFc hP1 hD1
  clear hk1 hPc hDc hFc hP1 hD1 ht
  generalize H1 = H at hP hS ⊢
  have hP : va_P (dC, dI) classes [(q_1, .inr (8, [.ref q_2, .ref q_3, .ref q_4, .ref q_5, .ref q_6, .ref q_7, .ref q_8, .ref q_9, .ref q_10, .int 0, .int 0, .int 0, .int 0])), (q_2, .inr (7, [.ref q_11, .int 0])), (q_11, .inl (cF, 200, .inr (.inr (.inr (.inr (fun _ => none)))))), (q_4, .inr (5, [.ref q_12, .ref q_13, .ref q_14, .ref q_15, .ref q_16, .int 0])), (q_10, .inr (10, [.int 0, .ref e0, .int 0]))] H := hP
  have hD : va_D (fun q : Nat => s.heap.size ≤ q) [(q_1, .inr (8, [.ref q_2, .ref q_3, .ref q_4, .ref q_5, .ref q_6, .ref q_7, .ref q_8, .ref q_9, .ref q_10, .int 0, .int 0, .int 0, .int 0])), (q_2, .inr (7, [.ref q_11, .int 0])), (q_11, .inl (cF, 200, .inr (.inr (.inr (.inr (fun _ => none)))))), (q_4, .inr (5, [.ref q_12, .ref q_13, .ref q_14, .ref q_15, .ref q_16, .int 0])), (q_10, .inr (10, [.int 0, .ref e0, .int 0]))] := hD
  refine lv_astore_n (lv' := [(1, .ref q_1), (0, .ref b)]) hx hb dL_law_7 rfl hl (by decide) rfl (fun ls hl => ?_)
  refine va_new (ci := 9) (fs := [.int 0, .null, .null, .null, .null, .null, .null, .null, .null, .null, .null, .null, .null, .null, .int 0, .int 0, .null, .null, .null, .int 0, .int 0, .int 0, .null, .null, .null, .null, .int 0, .null, .null, .null, .null, .int 0, .null, .null, .null, .int 0, .int 0, .null, .null, .null, .null, .int 0, .int 0, .null, .int 0, .int 0, .int 0, .int 0, .long 0, .long 0, .null, .null, .null, .null, .int 0]) (C := RX11) (T := TX11) (N := 55) hx hb hts inX11 tyX11 tyX11_ok hown (hts _ mw_1153) (hts _ mw_1154) (hts _ mw_110) hK hP hD hS hA rfl dfX11 (Nat.le_of_ble_eq_true rfl) (Nat.le_of_ble_eq_true rfl) dL_law_8 (fun q_17 H hP hD hS => ?_)
  have hP : va_P (dC, dI) classes [(q_1, .inr (8, [.ref q_2, .ref q_3, .ref q_4, .ref q_5, .ref q_6, .ref q_7, .ref q_8, .ref q_9, .ref q_10, .int 0, .int 0, .int 0, .int 0])), (q_2, .inr (7, [.ref q_11, .int 0])), (q_11, .inl (cF, 200, .inr (.inr (.inr (.inr (fun _ => none)))))), (q_4, .inr (5, [.ref q_12, .ref q_13, .ref q_14, .ref q_15, .ref q_16, .int 0])), (q_10, .inr (10, [.int 0, .ref e0, .int 0])), (q_17, .inr (9, [.int 0, .null, .null, .null, .null, .null, .null, .null, .null, .null, .null, .null, .null, .null, .int 0, .int 0, .null, .null, .null, .int 0, .int 0, .int 0, .null, .null, .null, .null, .int 0, .null, .null, .null, .null, .int 0, .null, .null, .null, .int 0, .int 0, .null, .null, .null, .null, .int 0, .int 0, .null, .int 0, .int 0, .int 0, .int 0, .long 0, .long 0, .null, .null, .null, .null, .int 0]))] H := hP
  have hD : va_D (fun q : Nat => s.heap.size ≤ q) [(q_1, .inr (8, [.ref q_2, .ref q_3, .ref q_4, .ref q_5, .ref q_6, .ref q_7, .ref q_8, .ref q_9, .ref q_10, .int 0, .int 0, .int 0, .int 0])), (q_2, .inr (7, [.ref q_11, .int 0])), (q_11, .inl (cF, 200, .inr (.inr (.inr (.inr (fun _ => none)))))), (q_4, .inr (5, [.ref q_12, .ref q_13, .ref q_14, .ref q_15, .ref q_16, .int 0])), (q_10, .inr (10, [.int 0, .ref e0, .int 0])), (q_17, .inr (9, [.int 0, .null, .null, .null, .null, .null, .null, .null, .null, .null, .null, .null, .null, .null, .int 0, .int 0, .null, .null, .null, .int 0, .int 0, .int 0, .null, .null, .null, .null, .int 0, .null, .null, .null, .null, .int 0, .null, .null, .null, .int 0, .int 0, .null, .null, .null, .null, .int 0, .int 0, .null, .int 0, .int 0, .int 0, .int 0, .long 0, .long 0, .null, .null, .null, .null, .int 0]))] := hD
  refine lv_dup hx hb dL_law_11 rfl ?_
  have hPc := hP.sub (ws' := [(q_17, .inr (9, [.int 0, .null, .null, .null, .null, .null, .null, .null, .null, .null, .null, .null, .null, .null, .int 0, .int 0, .null, .null, .null, .int 0, .int 0, .int 0, .null, .null, .null, .null, .int 0, .null, .null, .null, .null, .int 0, .null, .null, .null, .int 0, .int 0, .null, .null, .null, .null, .int 0, .int 0, .null, .int 0, .int 0, .int 0, .int 0, .long 0, .long 0, .null, .null, .null, .null, .int 0]))]) [5] rfl
  have hDc := hD.sub (ws' := [(q_17, .inr (9, [.int 0, .null, .null, .null, .null, .null, .null, .null, .null, .null, .null, .null, .null, .null, .int 0, .int 0, .null, .null, .null, .int 0, .int 0, .int 0, .null, .null, .null, .null, .int 0, .null, .null, .null, .null, .int 0, .null, .null, .null, .int 0, .int 0, .null, .null, .null, .null, .int 0, .int 0, .null, .int 0, .int 0, .int 0, .int 0, .long 0, .long 0, .null, .null, .null, .null, .int 0]))]) [5] (by decide) rfl
  have hFc := va_free (wc := [(q_17, .inr (9, [.int 0, .null, .null, .null, .null, .null, .null, .null, .null, .null, .null, .null, .null, .null, .int 0, .int 0, .null, .null, .null, .int 0, .int 0, .int 0, .null, .null, .null, .null, .int 0, .null, .null, .null, .null, .int 0, .null, .null, .null, .int 0, .int 0, .null, .null, .null, .null, .int 0, .int 0, .null, .int 0, .int 0, .int 0, .int 0, .long 0, .long 0, .null, .null, .null, .null, .int 0]))]) hD hS hA [5] rfl
  refine zcall (st1 := [.ref q_17]) (va_runI (As := []) (rest := [.ref q_17]) ⟨hx, hb, hml, hown, hts⟩ (k_mi_init l dC dI cI cZ cF H.size q_17 ) (cwI 0 hts (zz_gC mc_yX11_init) rfl rfl rfl (hts _ mw_110) (hts _ mw_1155) (hts _ mw_1156) rfl (by decide +kernel) ⟨Nat.le_of_ble_eq_true rfl, Nat.le_of_ble_eq_true rfl⟩) (zPS hPc hDc hK) rfl rfl hl.1 rfl (lv_room (Nat.le_of_ble_eq_true rfl)) dL_law_12 ⟨Nat.le_of_ble_eq_true rfl, Nat.le_of_ble_eq_true rfl⟩) hS hFc hFc rfl (fun t H1 locs ht hB hk1 hS => ?_)
  obtain ⟨q_18, q_19, q_20, q_21, q_22, q_23, q_24, q_25, q_26, q_27, q_28, q_29, q_30, q_31, q_32, q_33, q_34, q_35, q_36, q_37, q_38, q_39, q_40, q_41, q_42, q_43, q_44, q_45, q_46, q_47, q_48, q_49, q_50, q_51, q_52, q_53, hP1, hD1⟩ := hB
  rw [ht] at hP1
  obtain ⟨hP, hD⟩ := va_join (wr := [(q_1, .inr (8, [.ref q_2, .ref q_3, .ref q_4, .ref q_5, .ref q_6, .ref q_7, .ref q_8, .ref q_9, .ref q_10, .int 0, .int 0, .int 0, .int 0])), (q_2, .inr (7, [.ref q_11, .int 0])), (q_11, .inl (cF, 200, .inr (.inr (.inr (.inr (fun _ => none)))))), (q_4, .inr (5, [.ref q_12, .ref q_13, .ref q_14, .ref q_15, .ref q_16, .int 0])), (q_10, .inr (10, [.int 0, .ref e0, .int 0]))]) (w1 := [(q_17, .inr (9, [.int 0, .ref q_18, .ref q_19, .ref q_20, .ref q_21, .ref q_22, .ref q_23, .ref q_24, .ref q_25, .ref q_26, .ref q_27, .ref q_28, .ref q_29, .ref q_30, .int 0, .int 0, .ref q_31, .ref q_32, .ref q_33, .int 0, .int 0, .int 0, .ref q_34, .ref q_35, .ref q_36, .ref q_37, .int 0, .ref q_38, .ref q_39, .ref q_40, .ref q_41, .int 0, .ref q_42, .ref q_43, .ref q_44, .int 0, .int 0, .ref q_45, .ref q_46, .ref q_47, .ref q_48, .int 0, .int 0, .ref q_49, .int 0, .int 0, .int 0, .int 0, .long 0, .long 0, .ref q_50, .ref q_51, .ref q_52, .ref q_53, .int 0])), (q_18, .inl (cI, 201, .inl (fun _ => 0))), (q_19, .inl (cI, 201, .inl (fun _ => 0))), (q_20, .inl (cI, 201, .inl (fun _ => 0))), (q_21, .inl (cI, 201, .inl (fun _ => 0))), (q_22, .inl (cI, 201, .inl (fun _ => 0))), (q_23, .inl (cZ, 201, .inl (fun _ => 0))), (q_24, .inl (cI, 201, .inl (fun _ => 0))), (q_25, .inl (cI, 201, .inl (fun _ => 0))), (q_26, .inl (cI, 201, .inl (fun _ => 0))), (q_27, .inl (cI, 201, .inl (fun _ => 0))), (q_28, .inl (cI, 201, .inl (fun _ => 0))), (q_38, .inl (cI, 516, .inl (fun _ => 0))), (q_39, .inl (cI, 4096, .inl (fun _ => 0)))]) hP hD [5] [0, 1, 2, 3, 4] rfl rfl (by decide) (by decide) hk1 hFc hP1 hD1
  clear hk1 hPc hDc hFc hP1 hD1 ht
  generalize H1 = H at hP hS ⊢
  have hP : va_P (dC, dI) classes [(q_1, .inr (8, [.ref q_2, .ref q_3, .ref q_4, .ref q_5, .ref q_6, .ref q_7, .ref q_8, .ref q_9, .ref q_10, .int 0, .int 0, .int 0, .int 0])), (q_2, .inr (7, [.ref q_11, .int 0])), (q_11, .inl (cF, 200, .inr (.inr (.inr (.inr (fun _ => none)))))), (q_4, .inr (5, [.ref q_12, .ref q_13, .ref q_14, .ref q_15, .ref q_16, .int 0])), (q_10, .inr (10, [.int 0, .ref e0, .int 0])), (q_17, .inr (9, [.int 0, .ref q_18, .ref q_19, .ref q_20, .ref q_21, .ref q_22, .ref q_23, .ref q_24, .ref q_25, .ref q_26, .ref q_27, .ref q_28, .ref q_29, .ref q_30, .int 0, .int 0, .ref q_31, .ref q_32, .ref q_33, .int 0, .int 0, .int 0, .ref q_34, .ref q_35, .ref q_36, .ref q_37, .int 0, .ref q_38, .ref q_39, .ref q_40, .ref q_41, .int 0, .ref q_42, .ref q_43, .ref q_44, .int 0, .int 0, .ref q_45, .ref q_46, .ref q_47, .ref q_48, .int 0, .int 0, .ref q_49, .int 0, .int 0, .int 0, .int 0, .long 0, .long 0, .ref q_50, .ref q_51, .ref q_52, .ref q_53, .int 0])), (q_18, .inl (cI, 201, .inl (fun _ => 0))), (q_19, .inl (cI, 201, .inl (fun _ => 0))), (q_20, .inl (cI, 201, .inl (fun _ => 0))), (q_21, .inl (cI, 201, .inl (fun _ => 0))), (q_22, .inl (cI, 201, .inl (fun _ => 0))), (q_23, .inl (cZ, 201, .inl (fun _ => 0))), (q_24, .inl (cI, 201, .inl (fun _ => 0))), (q_25, .inl (cI, 201, .inl (fun _ => 0))), (q_26, .inl (cI, 201, .inl (fun _ => 0))), (q_27, .inl (cI, 201, .inl (fun _ => 0))), (q_28, .inl (cI, 201, .inl (fun _ => 0))), (q_38, .inl (cI, 516, .inl (fun _ => 0))), (q_39, .inl (cI, 4096, .inl (fun _ => 0)))] H := hP
  have hD : va_D (fun q : Nat => s.heap.size ≤ q) [(q_1, .inr (8, [.ref q_2, .ref q_3, .ref q_4, .ref q_5, .ref q_6, .ref q_7, .ref q_8, .ref q_9, .ref q_10, .int 0, .int 0, .int 0, .int 0])), (q_2, .inr (7, [.ref q_11, .int 0])), (q_11, .inl (cF, 200, .inr (.inr (.inr (.inr (fun _ => none)))))), (q_4, .inr (5, [.ref q_12, .ref q_13, .ref q_14, .ref q_15, .ref q_16, .int 0])), (q_10, .inr (10, [.int 0, .ref e0, .int 0])), (q_17, .inr (9, [.int 0, .ref q_18, .ref q_19, .ref q_20, .ref q_21, .ref q_22, .ref q_23, .ref q_24, .ref q_25, .ref q_26, .ref q_27, .ref q_28, .ref q_29, .ref q_30, .int 0, .int 0, .ref q_31, .ref q_32, .ref q_33, .int 0, .int 0, .int 0, .ref q_34, .ref q_35, .ref q_36, .ref q_37, .int 0, .ref q_38, .ref q_39, .ref q_40, .ref q_41, .int 0, .ref q_42, .ref q_43, .ref q_44, .int 0, .int 0, .ref q_45, .ref q_46, .ref q_47, .ref q_48, .int 0, .int 0, .ref q_49, .int 0, .int 0, .int 0, .int 0, .long 0, .long 0, .ref q_50, .ref q_51, .ref q_52, .ref q_53, .int 0])), (q_18, .inl (cI, 201, .inl (fun _ => 0))), (q_19, .inl (cI, 201, .inl (fun _ => 0))), (q_20, .inl (cI, 201, .inl (fun _ => 0))), (q_21, .inl (cI, 201, .inl (fun _ => 0))), (q_22, .inl (cI, 201, .inl (fun _ => 0))), (q_23, .inl (cZ, 201, .inl (fun _ => 0))), (q_24, .inl (cI, 201, .inl (fun _ => 0))), (q_25, .inl (cI, 201, .inl (fun _ => 0))), (q_26, .inl (cI, 201, .inl (fun _ => 0))), (q_27, .inl (cI, 201, .inl (fun _ => 0))), (q_28, .inl (cI, 201, .inl (fun _ => 0))), (q_38, .inl (cI, 516, .inl (fun _ => 0))), (q_39, .inl (cI, 4096, .inl (fun _ => 0)))] := hD
  refine lv_astore_n (lv' := [(2, .ref q_17), (1, .ref q_1), (0, .ref b)]) hx hb dL_law_15 rfl hl (by decide) rfl (fun ls hl => ?_)
  refine lv_iconst (v := 0) hx hb dL_law_16 (by decide) ?_
  refine lv_istore_n (lv' := [(3, .int 0), (2, .ref q_17), (1, .ref q_1), (0, .ref b)]) hx hb dL_law_17 rfl hl (by decide) rfl (fun ls hl => ?_)
  refine W.widen (k := 65) (n := 37019) (by decide) (by decide) ?_
  rcases Nat.lt_or_ge L 6 with hlt | hge
  · refine lv_iload_n hx hb dL_law_18 rfl (lv_at hl 0 rfl) ?_
    refine lv_aload_n hx hb dL_law_19 rfl (lv_at hl 3 rfl) ?_
    refine va_slen hx hb hX hbl hbA hS dL_law_20 ?_
    refine lv_bipush (v := 6) hx hb dL_law_21 (by decide) ?_
    refine lv_isub hx hb dL_law_23 ?_
    have hneg : Int32.ofNat L - 6 < 0 := by rcases (show L = 0 ∨ L = 1 ∨ L = 2 ∨ L = 3 ∨ L = 4 ∨ L = 5 by omega) with rfl | rfl | rfl | rfl | rfl | rfl <;> decide
    refine lv_icmp_gt (tgt := 1090) hx hb dL_law_24 (by decide) (fun c9 => ?_) (fun c9 => absurd hneg c9)
    refine va_forget (fun q hq => hS.2.2 q hq) ?_
    refine lv_iconst (v := 1) hx hb dL_law_1090 (by decide) ?_
    refine W.widen (k := 600000) (n := 7302250) (by decide) (by decide) ?_
    exact lw_ret hx hb hr hlocks dL_law_1091
  · obtain rfl : L = 6 := Nat.le_antisymm hL hge
    refine lv_iload_n hx hb dL_law_18 rfl (lv_at hl 0 rfl) ?_
    refine lv_aload_n hx hb dL_law_19 rfl (lv_at hl 3 rfl) ?_
    refine va_slen hx hb hX hbl hbA hS dL_law_20 ?_
    refine lv_bipush (v := 6) hx hb dL_law_21 (by decide) ?_
    refine lv_isub hx hb dL_law_23 ?_
    refine zz_i (v := 0) (by decide) ?_
    refine lv_icmp_gt (tgt := 1090) hx hb dL_law_24 (by decide) (fun c9 => absurd c9 (by decide)) (fun c9 => ?_)
    exact law_turn l C0 dC dI cI cZ cF hK q_1 q_2 q_3 q_4 q_5 q_6 q_7 q_8 q_9 q_10 q_11 q_12 q_13 q_14 q_15 q_16 e0 q_17 q_18 q_19 q_20 q_21 q_22 q_23 q_24 q_25 q_26 q_27 q_28 q_29 q_30 q_31 q_32 q_33 q_34 q_35 q_36 q_37 q_38 q_39 q_40 q_41 q_42 q_43 q_44 q_45 q_46 q_47 q_48 q_49 q_50 q_51 q_52 q_53 (hP.sub [0, 1, 2, 3, 4, 5, 6, 7, 8, 9, 10, 11, 12, 13, 14, 15, 16, 17, 18] rfl) (hD.sub [0, 1, 2, 3, 4, 5, 6, 7, 8, 9, 10, 11, 12, 13, 14, 15, 16, 17, 18] (by decide) rfl) hS (lv_sub hl [0, 1, 2, 3] rfl)
