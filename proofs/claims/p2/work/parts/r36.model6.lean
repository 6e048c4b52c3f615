set_option maxHeartbeats 4000000 in
set_option maxRecDepth 100000 in
theorem k_M_isThree (l : Launch) (dC : Nat → ClassId) (dI : Nat → Nat → Nat) (cI cZ cF : ClassId) (sz : Nat) (k0 : Nat) (a : Nat → Nat) (I0 : Nat → Int32) (J0 : Nat → Int64) (e1 : Int32) (e2 : Int32) (f1 : Int32) (f2 : Int32) (w : Nat) (px : Int32) (py : Int32) (T0 : Nat → Int32) (P0 : Nat → Int32) (Q0 : Nat → Int32) (k1 : pl e1) (k2 : pl e2) (k3 : pl f1) (k4 : pl f2) (hw : w < 42) (k5 : pl (P0 w)) (k6 : pl (Q0 w)) (hpx : pl px) (hpy : pl py) : Met l yX11_isThree (.code yX11_isThree cX11_isThree 8 (some .boolean) :: ws0) ({ frames := 3, cells := 0, slots := 0, locals := 81 } : Room) (va_Pc [.ref k0, .int e1, .int e2, .int f1, .int f2, .int (nI w), .int px, .int py] (zPre (dC, dI) classes (zTy cI cZ cF) [(om k0 a I0 J0), (oa (a 40) cI 6 T0), (oa (a 29) cI 42 P0), (oa (a 30) cI 42 Q0)] sz zXN)) (zQ (some (.int (pI (wtM e1.toInt e2.toInt f1.toInt f2.toInt (P0 w).toInt (Q0 w).toInt px.toInt py.toInt)))) (fun t => ∃ (T1 : Nat → Int32), va_P (dC, dI) classes [(om k0 a I0 J0), (oa (a 40) cI 6 T1), (oa (a 29) cI 42 P0), (oa (a 30) cI 42 Q0)] t.heap ∧ va_D (va_A [(om k0 a I0 J0), (oa (a 40) cI 6 T0), (oa (a 29) cI 42 P0), (oa (a 30) cI 42 Q0)] sz) [(om k0 a I0 J0), (oa (a 40) cI 6 T1), (oa (a 29) cI 42 P0), (oa (a 30) cI 42 Q0)]) (va_A [(om k0 a I0 J0), (oa (a 40) cI 6 T0), (oa (a 29) cI 42 P0), (oa (a 30) cI 42 Q0)] sz)) 0 0 (va_A [(om k0 a I0 J0), (oa (a 40) cI 6 T0), (oa (a 29) cI 42 P0), (oa (a 30) cI 42 Q0)] sz) := by
  refine Met.ofW (cc := cX11_isThree) (maxL := 8) (ret := (some .boolean)) (by decide) rfl ?_
  intro p e s m args below meth c s₁ B hml hv
  obtain ⟨rfl, hsz, hP, hK, hD0, hXN⟩ := hv
  have hx := B.exec
  have hb := B.bytes
  have hr := B.returns
  have hts0 := atoms_spec (ws := .code yX11_isThree cX11_isThree 8 (some .boolean) :: ws0) B.pre
  have hts : ∀ w9 ∈ ws0, w9.before ([.ref k0, .int e1, .int e2, .int f1, .int f2, .int (nI w), .int px, .int py] : List Value).toArray s = true := fun w9 h => hts0 w9 (List.mem_cons_of_mem _ h)
  have hown : s.vm.findClass "ScaleShopModel" = some m.cls := findClass_of_methodNamed B.named
  have hlocks := B.notSynchronized
  subst hsz
  have hD := hD0.self (sz := s.heap.size)
  clear hD0
  generalize hAe : va_A [(om k0 a I0 J0), (oa (a 40) cI 6 T0), (oa (a 29) cI 42 P0), (oa (a 30) cI 42 Q0)] s.heap.size = A at hD ⊢
  have hA : ∀ q : Nat, s.heap.size ≤ q → A q := fun q h => by rw [← hAe]; exact Or.inr h
  clear hAe
  have hS : va_S A s.heap s.heap [] := va_S.rf
  have hP : va_P (dC, dI) classes [(om k0 a I0 J0), (oa (a 40) cI 6 T0), (oa (a 29) cI 42 P0), (oa (a 30) cI 42 Q0)] s.heap := hP
  obtain ⟨Q9, hQ9⟩ : ∃ Q9 : State → Prop, Q9 = MQ below (zQ (some (.int (pI (wtM e1.toInt e2.toInt f1.toInt f2.toInt (P0 w).toInt (Q0 w).toInt px.toInt py.toInt)))) (fun t => ∃ (T1 : Nat → Int32), va_P (dC, dI) classes [(om k0 a I0 J0), (oa (a 40) cI 6 T1), (oa (a 29) cI 42 P0), (oa (a 30) cI 42 Q0)] t.heap ∧ va_D A [(om k0 a I0 J0), (oa (a 40) cI 6 T1), (oa (a 29) cI 42 P0), (oa (a 30) cI 42 Q0)]) A) ([.ref k0, .int e1, .int e2, .int f1, .int f2, .int (nI w), .int px, .int py] : List Value).toArray s 0 0 A := ⟨_, rfl⟩
  rw [← hQ9]
  have hl := lv_entry ([.ref k0, .int e1, .int e2, .int f1, .int f2, .int (nI w), .int px, .int py]) (n := 8) (Nat.le_of_ble_eq_true rfl)
  rw [lg_entry_eq]
  generalize (lg_sl ([.ref k0, .int e1, .int e2, .int f1, .int f2, .int (nI w), .int px, .int py]) ++ List.replicate (8 - (lg_sl ([.ref k0, .int e1, .int e2, .int f1, .int f2, .int (nI w), .int px, .int py])).length) Slot.unset).toArray = ls at hl ⊢
  have hl : lv_has ls 8 [(0, .ref k0), (1, .int e1), (2, .int e2), (3, .int f1), (4, .int f2), (5, .int (nI w)), (6, .int px), (7, .int py)] := hl
  refine lv_aload_n hx hb dX11_isThree_0 rfl (lv_at hl 0 rfl) ?_
  refine va_get (D := (dC, dI)) (ci := 9) (v := .ref (a 40)) (C := RX11) (T := TX11) (N := 55) hx hb hts inX11 hown hK hP 0 rfl rfl 40 (by decide) (hts _ mw_1199) (fun _ h9 => h9) rfl dX11_isThree_1 ?_
  refine lv_iconst (v := 0) hx hb dX11_isThree_4 (by decide) ?_
  refine lv_iload_n hx hb dX11_isThree_5 rfl (lv_at hl 1 rfl) ?_
  refine z_iast hx hb hK hP hD hS 1 0 rfl rfl (e := 0) (x := e1) rfl (by omega) (by omega) dX11_isThree_6 (fun H locs hP hD hS => ?_)
  have hP : va_P (dC, dI) classes [(om k0 a I0 J0), (oa (a 40) cI 6 (upd T0 0 e1)), (oa (a 29) cI 42 P0), (oa (a 30) cI 42 Q0)] H := hP
  have hD : va_D A [(om k0 a I0 J0), (oa (a 40) cI 6 (upd T0 0 e1)), (oa (a 29) cI 42 P0), (oa (a 30) cI 42 Q0)] := hD
  refine lv_aload_n hx hb dX11_isThree_7 rfl (lv_at hl 0 rfl) ?_
  refine va_get (D := (dC, dI)) (ci := 9) (v := .ref (a 40)) (C := RX11) (T := TX11) (N := 55) hx hb hts inX11 hown hK hP 0 rfl rfl 40 (by decide) (hts _ mw_1199) (fun _ h9 => h9) rfl dX11_isThree_8 ?_
  refine lv_iconst (v := 1) hx hb dX11_isThree_11 (by decide) ?_
  refine lv_iload_n hx hb dX11_isThree_12 rfl (lv_at hl 2 rfl) ?_
  refine z_iast hx hb hK hP hD hS 1 0 rfl rfl (e := 1) (x := e2) rfl (by omega) (by omega) dX11_isThree_13 (fun H locs hP hD hS => ?_)
  have hP : va_P (dC, dI) classes [(om k0 a I0 J0), (oa (a 40) cI 6 (upd (upd T0 0 e1) 1 e2)), (oa (a 29) cI 42 P0), (oa (a 30) cI 42 Q0)] H := hP
  have hD : va_D A [(om k0 a I0 J0), (oa (a 40) cI 6 (upd (upd T0 0 e1) 1 e2)), (oa (a 29) cI 42 P0), (oa (a 30) cI 42 Q0)] := hD
  refine lv_aload_n hx hb dX11_isThree_14 rfl (lv_at hl 0 rfl) ?_
  refine va_get (D := (dC, dI)) (ci := 9) (v := .ref (a 40)) (C := RX11) (T := TX11) (N := 55) hx hb hts inX11 hown hK hP 0 rfl rfl 40 (by decide) (hts _ mw_1199) (fun _ h9 => h9) rfl dX11_isThree_15 ?_
  refine lv_iconst (v := 2) hx hb dX11_isThree_18 (by decide) ?_
  refine lv_iload_n hx hb dX11_isThree_19 rfl (lv_at hl 3 rfl) ?_
  refine z_iast hx hb hK hP hD hS 1 0 rfl rfl (e := 2) (x := f1) rfl (by omega) (by omega) dX11_isThree_20 (fun H locs hP hD hS => ?_)
  have hP : va_P (dC, dI) classes [(om k0 a I0 J0), (oa (a 40) cI 6 (upd (upd (upd T0 0 e1) 1 e2) 2 f1)), (oa (a 29) cI 42 P0), (oa (a 30) cI 42 Q0)] H := hP
  have hD : va_D A [(om k0 a I0 J0), (oa (a 40) cI 6 (upd (upd (upd T0 0 e1) 1 e2) 2 f1)), (oa (a 29) cI 42 P0), (oa (a 30) cI 42 Q0)] := hD
  refine lv_aload_n hx hb dX11_isThree_21 rfl (lv_at hl 0 rfl) ?_
  refine va_get (D := (dC, dI)) (ci := 9) (v := .ref (a 40)) (C := RX11) (T := TX11) (N := 55) hx hb hts inX11 hown hK hP 0 rfl rfl 40 (by decide) (hts _ mw_1199) (fun _ h9 => h9) rfl dX11_isThree_22 ?_
  refine lv_iconst (v := 3) hx hb dX11_isThree_25 (by decide) ?_
  refine lv_iload hx hb dX11_isThree_26 (lv_at hl 4 rfl) ?_
  refine z_iast hx hb hK hP hD hS 1 0 rfl rfl (e := 3) (x := f2) rfl (by omega) (by omega) dX11_isThree_28 (fun H locs hP hD hS => ?_)
  have hP : va_P (dC, dI) classes [(om k0 a I0 J0), (oa (a 40) cI 6 (upd (upd (upd (upd T0 0 e1) 1 e2) 2 f1) 3 f2)), (oa (a 29) cI 42 P0), (oa (a 30) cI 42 Q0)] H := hP
  have hD : va_D A [(om k0 a I0 J0), (oa (a 40) cI 6 (upd (upd (upd (upd T0 0 e1) 1 e2) 2 f1) 3 f2)), (oa (a 29) cI 42 P0), (oa (a 30) cI 42 Q0)] := hD
  refine lv_aload_n hx hb dX11_isThree_29 rfl (lv_at hl 0 rfl) ?_
  refine va_get (D := (dC, dI)) (ci := 9) (v := .ref (a 40)) (C := RX11) (T := TX11) (N := 55) hx hb hts inX11 hown hK hP 0 rfl rfl 40 (by decide) (hts _ mw_1199) (fun _ h9 => h9) rfl dX11_isThree_30 ?_
  refine lv_iconst (v := 4) hx hb dX11_isThree_33 (by decide) ?_
  refine lv_aload_n hx hb dX11_isThree_34 rfl (lv_at hl 0 rfl) ?_
  refine va_get (D := (dC, dI)) (ci := 9) (v := .ref (a 29)) (C := RX11) (T := TX11) (N := 55) hx hb hts inX11 hown hK hP 0 rfl rfl 29 (by decide) (hts _ mw_1188) (fun _ h9 => h9) rfl dX11_isThree_35 ?_
  refine lv_iload hx hb dX11_isThree_38 (lv_at hl 5 rfl) ?_
  refine z_iald hx hb hK hP 2 0 rfl rfl (e := w) rfl (by omega) (by omega) dX11_isThree_40 ?_
  refine z_iast hx hb hK hP hD hS 1 0 rfl rfl (e := 4) (x := P0 w) rfl (by omega) (by omega) dX11_isThree_41 (fun H locs hP hD hS => ?_)
  have hP : va_P (dC, dI) classes [(om k0 a I0 J0), (oa (a 40) cI 6 (upd (upd (upd (upd (upd T0 0 e1) 1 e2) 2 f1) 3 f2) 4 (P0 w))), (oa (a 29) cI 42 P0), (oa (a 30) cI 42 Q0)] H := hP
  have hD : va_D A [(om k0 a I0 J0), (oa (a 40) cI 6 (upd (upd (upd (upd (upd T0 0 e1) 1 e2) 2 f1) 3 f2) 4 (P0 w))), (oa (a 29) cI 42 P0), (oa (a 30) cI 42 Q0)] := hD
  refine lv_aload_n hx hb dX11_isThree_42 rfl (lv_at hl 0 rfl) ?_
  refine va_get (D := (dC, dI)) (ci := 9) (v := .ref (a 40)) (C := RX11) (T := TX11) (N := 55) hx hb hts inX11 hown hK hP 0 rfl rfl 40 (by decide) (hts _ mw_1199) (fun _ h9 => h9) rfl dX11_isThree_43 ?_
  refine lv_iconst (v := 5) hx hb dX11_isThree_46 (by decide) ?_
  refine lv_aload_n hx hb dX11_isThree_47 rfl (lv_at hl 0 rfl) ?_
  refine va_get (D := (dC, dI)) (ci := 9) (v := .ref (a 30)) (C := RX11) (T := TX11) (N := 55) hx hb hts inX11 hown hK hP 0 rfl rfl 30 (by decide) (hts _ mw_1189) (fun _ h9 => h9) rfl dX11_isThree_48 ?_
  refine lv_iload hx hb dX11_isThree_51 (lv_at hl 5 rfl) ?_
  refine z_iald hx hb hK hP 3 0 rfl rfl (e := w) rfl (by omega) (by omega) dX11_isThree_53 ?_
  refine z_iast hx hb hK hP hD hS 1 0 rfl rfl (e := 5) (x := Q0 w) rfl (by omega) (by omega) dX11_isThree_54 (fun H locs hP hD hS => ?_)
  have hP : va_P (dC, dI) classes [(om k0 a I0 J0), (oa (a 40) cI 6 (upd (upd (upd (upd (upd (upd T0 0 e1) 1 e2) 2 f1) 3 f2) 4 (P0 w)) 5 (Q0 w))), (oa (a 29) cI 42 P0), (oa (a 30) cI 42 Q0)] H := hP
  have hD : va_D A [(om k0 a I0 J0), (oa (a 40) cI 6 (upd (upd (upd (upd (upd (upd T0 0 e1) 1 e2) 2 f1) 3 f2) 4 (P0 w)) 5 (Q0 w))), (oa (a 29) cI 42 P0), (oa (a 30) cI 42 Q0)] := hD
  refine lv_aload_n hx hb dX11_isThree_55 rfl (lv_at hl 0 rfl) ?_
  refine va_get (D := (dC, dI)) (ci := 9) (v := .ref (a 40)) (C := RX11) (T := TX11) (N := 55) hx hb hts inX11 hown hK hP 0 rfl rfl 40 (by decide) (hts _ mw_1199) (fun _ h9 => h9) rfl dX11_isThree_56 ?_
  refine lv_iload hx hb dX11_isThree_59 (lv_at hl 6 rfl) ?_
  refine lv_iload hx hb dX11_isThree_61 (lv_at hl 7 rfl) ?_
  have hPc := hP.sub (ws' := [(oa (a 40) cI 6 (upd (upd (upd (upd (upd (upd T0 0 e1) 1 e2) 2 f1) 3 f2) 4 (P0 w)) 5 (Q0 w)))]) [1] rfl
  have hDc := hD.sub (ws' := [(oa (a 40) cI 6 (upd (upd (upd (upd (upd (upd T0 0 e1) 1 e2) 2 f1) 3 f2) 4 (P0 w)) 5 (Q0 w)))]) [1] (by decide) rfl
  have hFc := va_free (wc := [(oa (a 40) cI 6 (upd (upd (upd (upd (upd (upd T0 0 e1) 1 e2) 2 f1) 3 f2) 4 (P0 w)) 5 (Q0 w)))]) hD hS hA [1] rfl
  refine zcall (st1 := [.int (pI (wtM ((upd (upd (upd (upd (upd (upd T0 0 e1) 1 e2) 2 f1) 3 f2) 4 (P0 w)) 5 (Q0 w)) 0).toInt ((upd (upd (upd (upd (upd (upd T0 0 e1) 1 e2) 2 f1) 3 f2) 4 (P0 w)) 5 (Q0 w)) 1).toInt ((upd (upd (upd (upd (upd (upd T0 0 e1) 1 e2) 2 f1) 3 f2) 4 (P0 w)) 5 (Q0 w)) 2).toInt ((upd (upd (upd (upd (upd (upd T0 0 e1) 1 e2) 2 f1) 3 f2) 4 (P0 w)) 5 (Q0 w)) 3).toInt ((upd (upd (upd (upd (upd (upd T0 0 e1) 1 e2) 2 f1) 3 f2) 4 (P0 w)) 5 (Q0 w)) 4).toInt ((upd (upd (upd (upd (upd (upd T0 0 e1) 1 e2) 2 f1) 3 f2) 4 (P0 w)) 5 (Q0 w)) 5).toInt px.toInt py.toInt))]) (va_runS (As := [.ref (a 40), .int px, .int py]) (rest := []) ⟨hx, hb, hml, hown, hts⟩ (k_M_isWithin l dC dI cI cZ cF H.size (a 40) (upd (upd (upd (upd (upd (upd T0 0 e1) 1 e2) 2 f1) 3 f2) 4 (P0 w)) 5 (Q0 w)) px py (tPl (T := upd (upd (upd (upd (upd (upd T0 0 e1) 1 e2) 2 f1) 3 f2) 4 (P0 w)) 5 (Q0 w)) k1 k2 k3 k4 k5 k6) (by assumption) (by assumption)) (va_cwS 3 hts (zz_gS mw_1491 mw_1492 mw_110 mc_yX11_isWithin) rfl rfl rfl (by decide +kernel) ⟨Nat.le_of_ble_eq_true rfl, Nat.le_of_ble_eq_true rfl⟩) (zPS2 hPc hDc hK hXN) rfl rfl hl.1 rfl (lv_room (Nat.le_of_ble_eq_true rfl)) dX11_isThree_63 ⟨Nat.le_of_ble_eq_true rfl, Nat.le_of_ble_eq_true rfl⟩) hS hFc hFc rfl (fun t H1 locs ht hB hk1 hS => ?_)
  obtain ⟨hP1, hD1⟩ := hB
  rw [ht] at hP1
  obtain ⟨hP, hD⟩ := va_join (wr := [(om k0 a I0 J0), (oa (a 29) cI 42 P0), (oa (a 30) cI 42 Q0)]) (w1 := [(oa (a 40) cI 6 (upd (upd (upd (upd (upd (upd T0 0 e1) 1 e2) 2 f1) 3 f2) 4 (P0 w)) 5 (Q0 w)))]) hP hD [1] [0, 2, 3] rfl rfl (by decide) (by decide) hk1 hFc hP1 hD1
  clear hk1 hPc hDc hFc hP1 hD1 ht
  generalize H1 = H at hP hS ⊢
  have hP := hP.sub (ws' := [(om k0 a I0 J0), (oa (a 40) cI 6 (upd (upd (upd (upd (upd (upd T0 0 e1) 1 e2) 2 f1) 3 f2) 4 (P0 w)) 5 (Q0 w))), (oa (a 29) cI 42 P0), (oa (a 30) cI 42 Q0)]) [0, 3, 1, 2] rfl
  have hD := hD.sub (ws' := [(om k0 a I0 J0), (oa (a 40) cI 6 (upd (upd (upd (upd (upd (upd T0 0 e1) 1 e2) 2 f1) 3 f2) 4 (P0 w)) 5 (Q0 w))), (oa (a 29) cI 42 P0), (oa (a 30) cI 42 Q0)]) [0, 3, 1, 2] (by decide) rfl
  have hP : va_P (dC, dI) classes [(om k0 a I0 J0), (oa (a 40) cI 6 (upd (upd (upd (upd (upd (upd T0 0 e1) 1 e2) 2 f1) 3 f2) 4 (P0 w)) 5 (Q0 w))), (oa (a 29) cI 42 P0), (oa (a 30) cI 42 Q0)] H := hP
  have hD : va_D A [(om k0 a I0 J0), (oa (a 40) cI 6 (upd (upd (upd (upd (upd (upd T0 0 e1) 1 e2) 2 f1) 3 f2) 4 (P0 w)) 5 (Q0 w))), (oa (a 29) cI 42 P0), (oa (a 30) cI 42 Q0)] := hD
  refine zz_i (v := pI (wtM e1.toInt e2.toInt f1.toInt f2.toInt (P0 w).toInt (Q0 w).toInt px.toInt py.toInt)) (zp_iff Iff.rfl) ?_
  have hP9 := hP.sub (ws' := [(om k0 a I0 J0), (oa (a 40) cI 6 (upd (upd (upd (upd (upd (upd T0 0 e1) 1 e2) 2 f1) 3 f2) 4 (P0 w)) 5 (Q0 w))), (oa (a 29) cI 42 P0), (oa (a 30) cI 42 Q0)]) [0, 1, 2, 3] rfl
  have hD9 := hD.sub (ws' := [(om k0 a I0 J0), (oa (a 40) cI 6 (upd (upd (upd (upd (upd (upd T0 0 e1) 1 e2) 2 f1) 3 f2) 4 (P0 w)) 5 (Q0 w))), (oa (a 29) cI 42 P0), (oa (a 30) cI 42 Q0)]) [0, 1, 2, 3] (by decide) rfl
  rw [hQ9]
  exact W.zret (ty := .boolean) (v := pI (wtM e1.toInt e2.toInt f1.toInt f2.toInt (P0 w).toInt (Q0 w).toInt px.toInt py.toInt)) hx hb hr (zp_nar _) (fun t ht hW => ⟨⟨rfl, (upd (upd (upd (upd (upd (upd T0 0 e1) 1 e2) 2 f1) 3 f2) 4 (P0 w)) 5 (Q0 w)), by rw [ht]; exact hP9, hD9⟩, hS.F ht⟩) hS.2.2 dX11_isThree_66
set_option maxHeartbeats 4000000 in
set_option maxRecDepth 100000 in
theorem k_M_isSweptBy (l : Launch) (dC : Nat → ClassId) (dI : Nat → Nat → Nat) (cI cZ cF : ClassId) (sz : Nat) (k0 : Nat) (a : Nat → Nat) (I0 : Nat → Int32) (J0 : Nat → Int64) (b : Nat) (on : Nat) (px : Int32) (py : Int32) (T0 : Nat → Int32) (ox : Nat → Int32) (oy : Nat → Int32) (hon : I0 35 = nI on) (ho40 : on ≤ 40) (hb9 : b < on) (hpo : pls on ox oy) (hpx : pl px) (hpy : pl py) : Met l yX11_isSweptBy (.code yX11_isSweptBy cX11_isSweptBy 6 (some .boolean) :: ws0) ({ frames := 3, cells := 0, slots := 0, locals := 81 } : Room) (va_Pc [.ref k0, .int (nI b), .int px, .int py] (zPre (dC, dI) classes (zTy cI cZ cF) [(om k0 a I0 J0), (oa (a 40) cI 6 T0), (oa (a 33) cI 42 ox), (oa (a 34) cI 42 oy)] sz zXN)) (zQ (some (.int (pI (swB on ox oy b px.toInt py.toInt)))) (fun t => ∃ (T1 : Nat → Int32), va_P (dC, dI) classes [(om k0 a I0 J0), (oa (a 40) cI 6 T1), (oa (a 33) cI 42 ox), (oa (a 34) cI 42 oy)] t.heap ∧ va_D (va_A [(om k0 a I0 J0), (oa (a 40) cI 6 T0), (oa (a 33) cI 42 ox), (oa (a 34) cI 42 oy)] sz) [(om k0 a I0 J0), (oa (a 40) cI 6 T1), (oa (a 33) cI 42 ox), (oa (a 34) cI 42 oy)]) (va_A [(om k0 a I0 J0), (oa (a 40) cI 6 T0), (oa (a 33) cI 42 ox), (oa (a 34) cI 42 oy)] sz)) 0 0 (va_A [(om k0 a I0 J0), (oa (a 40) cI 6 T0), (oa (a 33) cI 42 ox), (oa (a 34) cI 42 oy)] sz) := by
  refine Met.ofW (cc := cX11_isSweptBy) (maxL := 6) (ret := (some .boolean)) (by decide) rfl ?_
  intro p e s m args below meth c s₁ B hml hv
  obtain ⟨rfl, hsz, hP, hK, hD0, hXN⟩ := hv
  have hx := B.exec
  have hb := B.bytes
  have hr := B.returns
  have hts0 := atoms_spec (ws := .code yX11_isSweptBy cX11_isSweptBy 6 (some .boolean) :: ws0) B.pre
  have hts : ∀ w9 ∈ ws0, w9.before ([.ref k0, .int (nI b), .int px, .int py] : List Value).toArray s = true := fun w9 h => hts0 w9 (List.mem_cons_of_mem _ h)
  have hown : s.vm.findClass "ScaleShopModel" = some m.cls := findClass_of_methodNamed B.named
  have hlocks := B.notSynchronized
  subst hsz
  have hD := hD0.self (sz := s.heap.size)
  clear hD0
  generalize hAe : va_A [(om k0 a I0 J0), (oa (a 40) cI 6 T0), (oa (a 33) cI 42 ox), (oa (a 34) cI 42 oy)] s.heap.size = A at hD ⊢
  have hA : ∀ q : Nat, s.heap.size ≤ q → A q := fun q h => by rw [← hAe]; exact Or.inr h
  clear hAe
  have hS : va_S A s.heap s.heap [] := va_S.rf
  have hP : va_P (dC, dI) classes [(om k0 a I0 J0), (oa (a 40) cI 6 T0), (oa (a 33) cI 42 ox), (oa (a 34) cI 42 oy)] s.heap := hP
  obtain ⟨Q9, hQ9⟩ : ∃ Q9 : State → Prop, Q9 = MQ below (zQ (some (.int (pI (swB on ox oy b px.toInt py.toInt)))) (fun t => ∃ (T1 : Nat → Int32), va_P (dC, dI) classes [(om k0 a I0 J0), (oa (a 40) cI 6 T1), (oa (a 33) cI 42 ox), (oa (a 34) cI 42 oy)] t.heap ∧ va_D A [(om k0 a I0 J0), (oa (a 40) cI 6 T1), (oa (a 33) cI 42 ox), (oa (a 34) cI 42 oy)]) A) ([.ref k0, .int (nI b), .int px, .int py] : List Value).toArray s 0 0 A := ⟨_, rfl⟩
  rw [← hQ9]
  have hl := lv_entry ([.ref k0, .int (nI b), .int px, .int py]) (n := 6) (Nat.le_of_ble_eq_true rfl)
  rw [lg_entry_eq]
  generalize (lg_sl ([.ref k0, .int (nI b), .int px, .int py]) ++ List.replicate (6 - (lg_sl ([.ref k0, .int (nI b), .int px, .int py])).length) Slot.unset).toArray = ls at hl ⊢
  have hl : lv_has ls 6 [(0, .ref k0), (1, .int (nI b)), (2, .int px), (3, .int py)] := hl
  have hpv := prv_lt (n := on) (i := b) (by omega)
  have hnx := nxt_lt (n := on) (i := b) (by omega)
  refine lv_iload_n hx hb dX11_isSweptBy_0 rfl (lv_at hl 1 rfl) ?_
  have hj_1 : W p l e ((headSpec (.code yX11_isSweptBy cX11_isSweptBy 6 (some .boolean) :: ws0) ({ frames := 3, cells := 0, slots := 0, locals := 81 } : Room)).room) s m ([.ref k0, .int (nI b), .int px, .int py] : List Value).toArray below meth c s.heap [] 0 0 Q9 (F0 m 16 ls [.int (nI (prv on b))]) := by
    refine lv_istore (lv' := [(4, .int (nI (prv on b))), (0, .ref k0), (1, .int (nI b)), (2, .int px), (3, .int py)]) hx hb dX11_isSweptBy_16 hl (by decide) rfl (fun ls hl => ?_)
    refine lv_iload_n hx hb dX11_isSweptBy_18 rfl (lv_at hl 2 rfl) ?_
    refine lv_iconst (v := 1) hx hb dX11_isSweptBy_19 (by decide) ?_
    refine lv_iadd hx hb dX11_isSweptBy_20 ?_
    refine zz_i (v := nI (b + 1)) (nI_add b 1) ?_
    refine lv_aload_n hx hb dX11_isSweptBy_21 rfl (lv_at hl 1 rfl) ?_
    refine va_get (D := (dC, dI)) (ci := 9) (v := .int (I0 35)) (C := RX11) (T := TX11) (N := 55) hx hb hts inX11 hown hK hP 0 rfl rfl 35 (by decide) (hts _ mw_1194) (fun _ h9 => h9) rfl dX11_isSweptBy_22 ?_
    refine zz_i (v := nI on) (hon) ?_
    have hj_2 : W p l e ((headSpec (.code yX11_isSweptBy cX11_isSweptBy 6 (some .boolean) :: ws0) ({ frames := 3, cells := 0, slots := 0, locals := 81 } : Room)).room) s m ([.ref k0, .int (nI b), .int px, .int py] : List Value).toArray below meth c s.heap [] 0 0 Q9 (F0 m 35 ls [.int (nI (nxt on b))]) := by
      refine lv_istore (lv' := [(5, .int (nI (nxt on b))), (4, .int (nI (prv on b))), (0, .ref k0), (1, .int (nI b)), (2, .int px), (3, .int py)]) hx hb dX11_isSweptBy_35 hl (by decide) rfl (fun ls hl => ?_)
      have hj_3 : (¬ (px.toInt = (ox (prv on b)).toInt ∧ py.toInt = (oy (prv on b)).toInt) ∧ ¬ (px.toInt = (ox (nxt on b)).toInt ∧ py.toInt = (oy (nxt on b)).toInt)) → W p l e ((headSpec (.code yX11_isSweptBy cX11_isSweptBy 6 (some .boolean) :: ws0) ({ frames := 3, cells := 0, slots := 0, locals := 81 } : Room)).room) s m ([.ref k0, .int (nI b), .int px, .int py] : List Value).toArray below meth c s.heap [] 0 0 Q9 (F0 m 83 ls []) := by
        intro hsp
        refine lv_aload_n hx hb dX11_isSweptBy_83 rfl (lv_at hl 2 rfl) ?_
        refine va_get (D := (dC, dI)) (ci := 9) (v := .ref (a 40)) (C := RX11) (T := TX11) (N := 55) hx hb hts inX11 hown hK hP 0 rfl rfl 40 (by decide) (hts _ mw_1199) (fun _ h9 => h9) rfl dX11_isSweptBy_84 ?_
        refine lv_iconst (v := 0) hx hb dX11_isSweptBy_87 (by decide) ?_
        refine lv_aload_n hx hb dX11_isSweptBy_88 rfl (lv_at hl 2 rfl) ?_
        refine va_get (D := (dC, dI)) (ci := 9) (v := .ref (a 33)) (C := RX11) (T := TX11) (N := 55) hx hb hts inX11 hown hK hP 0 rfl rfl 33 (by decide) (hts _ mw_1192) (fun _ h9 => h9) rfl dX11_isSweptBy_89 ?_
        refine lv_iload hx hb dX11_isSweptBy_92 (lv_at hl 1 rfl) ?_
        refine z_iald hx hb hK hP 2 0 rfl rfl (e := prv on b) rfl (by omega) (by omega) dX11_isSweptBy_94 ?_
        refine z_iast hx hb hK hP hD hS 1 0 rfl rfl (e := 0) (x := ox (prv on b)) rfl (by omega) (by omega) dX11_isSweptBy_95 (fun H locs hP hD hS => ?_)
        have hP : va_P (dC, dI) classes [(om k0 a I0 J0), (oa (a 40) cI 6 (upd T0 0 (ox (prv on b)))), (oa (a 33) cI 42 ox), (oa (a 34) cI 42 oy)] H := hP
        have hD : va_D A [(om k0 a I0 J0), (oa (a 40) cI 6 (upd T0 0 (ox (prv on b)))), (oa (a 33) cI 42 ox), (oa (a 34) cI 42 oy)] := hD
        refine lv_aload_n hx hb dX11_isSweptBy_96 rfl (lv_at hl 2 rfl) ?_
        refine va_get (D := (dC, dI)) (ci := 9) (v := .ref (a 40)) (C := RX11) (T := TX11) (N := 55) hx hb hts inX11 hown hK hP 0 rfl rfl 40 (by decide) (hts _ mw_1199) (fun _ h9 => h9) rfl dX11_isSweptBy_97 ?_
        refine lv_iconst (v := 1) hx hb dX11_isSweptBy_100 (by decide) ?_
        refine lv_aload_n hx hb dX11_isSweptBy_101 rfl (lv_at hl 2 rfl) ?_
        refine va_get (D := (dC, dI)) (ci := 9) (v := .ref (a 34)) (C := RX11) (T := TX11) (N := 55) hx hb hts inX11 hown hK hP 0 rfl rfl 34 (by decide) (hts _ mw_1193) (fun _ h9 => h9) rfl dX11_isSweptBy_102 ?_
        refine lv_iload hx hb dX11_isSweptBy_105 (lv_at hl 1 rfl) ?_
        refine z_iald hx hb hK hP 3 0 rfl rfl (e := prv on b) rfl (by omega) (by omega) dX11_isSweptBy_107 ?_
        refine z_iast hx hb hK hP hD hS 1 0 rfl rfl (e := 1) (x := oy (prv on b)) rfl (by omega) (by omega) dX11_isSweptBy_108 (fun H locs hP hD hS => ?_)
        have hP : va_P (dC, dI) classes [(om k0 a I0 J0), (oa (a 40) cI 6 (upd (upd T0 0 (ox (prv on b))) 1 (oy (prv on b)))), (oa (a 33) cI 42 ox), (oa (a 34) cI 42 oy)] H := hP
        have hD : va_D A [(om k0 a I0 J0), (oa (a 40) cI 6 (upd (upd T0 0 (ox (prv on b))) 1 (oy (prv on b)))), (oa (a 33) cI 42 ox), (oa (a 34) cI 42 oy)] := hD
        refine lv_aload_n hx hb dX11_isSweptBy_109 rfl (lv_at hl 2 rfl) ?_
        refine va_get (D := (dC, dI)) (ci := 9) (v := .ref (a 40)) (C := RX11) (T := TX11) (N := 55) hx hb hts inX11 hown hK hP 0 rfl rfl 40 (by decide) (hts _ mw_1199) (fun _ h9 => h9) rfl dX11_isSweptBy_110 ?_
        refine lv_iconst (v := 2) hx hb dX11_isSweptBy_113 (by decide) ?_
        refine lv_aload_n hx hb dX11_isSweptBy_114 rfl (lv_at hl 2 rfl) ?_
        refine va_get (D := (dC, dI)) (ci := 9) (v := .ref (a 33)) (C := RX11) (T := TX11) (N := 55) hx hb hts inX11 hown hK hP 0 rfl rfl 33 (by decide) (hts _ mw_1192) (fun _ h9 => h9) rfl dX11_isSweptBy_115 ?_
        refine lv_iload_n hx hb dX11_isSweptBy_118 rfl (lv_at hl 3 rfl) ?_
        refine z_iald hx hb hK hP 2 0 rfl rfl (e := b) rfl (by omega) (by omega) dX11_isSweptBy_119 ?_
        refine z_iast hx hb hK hP hD hS 1 0 rfl rfl (e := 2) (x := ox b) rfl (by omega) (by omega) dX11_isSweptBy_120 (fun H locs hP hD hS => ?_)
        have hP : va_P (dC, dI) classes [(om k0 a I0 J0), (oa (a 40) cI 6 (upd (upd (upd T0 0 (ox (prv on b))) 1 (oy (prv on b))) 2 (ox b))), (oa (a 33) cI 42 ox), (oa (a 34) cI 42 oy)] H := hP
        have hD : va_D A [(om k0 a I0 J0), (oa (a 40) cI 6 (upd (upd (upd T0 0 (ox (prv on b))) 1 (oy (prv on b))) 2 (ox b))), (oa (a 33) cI 42 ox), (oa (a 34) cI 42 oy)] := hD
        refine lv_aload_n hx hb dX11_isSweptBy_121 rfl (lv_at hl 2 rfl) ?_
        refine va_get (D := (dC, dI)) (ci := 9) (v := .ref (a 40)) (C := RX11) (T := TX11) (N := 55) hx hb hts inX11 hown hK hP 0 rfl rfl 40 (by decide) (hts _ mw_1199) (fun _ h9 => h9) rfl dX11_isSweptBy_122 ?_
        refine lv_iconst (v := 3) hx hb dX11_isSweptBy_125 (by decide) ?_
        refine lv_aload_n hx hb dX11_isSweptBy_126 rfl (lv_at hl 2 rfl) ?_
        refine va_get (D := (dC, dI)) (ci := 9) (v := .ref (a 34)) (C := RX11) (T := TX11) (N := 55) hx hb hts inX11 hown hK hP 0 rfl rfl 34 (by decide) (hts _ mw_1193) (fun _ h9 => h9) rfl dX11_isSweptBy_127 ?_
        refine lv_iload_n hx hb dX11_isSweptBy_130 rfl (lv_at hl 3 rfl) ?_
        refine z_iald hx hb hK hP 3 0 rfl rfl (e := b) rfl (by omega) (by omega) dX11_isSweptBy_131 ?_
        refine z_iast hx hb hK hP hD hS 1 0 rfl rfl (e := 3) (x := oy b) rfl (by omega) (by omega) dX11_isSweptBy_132 (fun H locs hP hD hS => ?_)
        have hP : va_P (dC, dI) classes [(om k0 a I0 J0), (oa (a 40) cI 6 (upd (upd (upd (upd T0 0 (ox (prv on b))) 1 (oy (prv on b))) 2 (ox b)) 3 (oy b))), (oa (a 33) cI 42 ox), (oa (a 34) cI 42 oy)] H := hP
        have hD : va_D A [(om k0 a I0 J0), (oa (a 40) cI 6 (upd (upd (upd (upd T0 0 (ox (prv on b))) 1 (oy (prv on b))) 2 (ox b)) 3 (oy b))), (oa (a 33) cI 42 ox), (oa (a 34) cI 42 oy)] := hD
        refine lv_aload_n hx hb dX11_isSweptBy_133 rfl (lv_at hl 2 rfl) ?_
        refine va_get (D := (dC, dI)) (ci := 9) (v := .ref (a 40)) (C := RX11) (T := TX11) (N := 55) hx hb hts inX11 hown hK hP 0 rfl rfl 40 (by decide) (hts _ mw_1199) (fun _ h9 => h9) rfl dX11_isSweptBy_134 ?_
        refine lv_iconst (v := 4) hx hb dX11_isSweptBy_137 (by decide) ?_
        refine lv_aload_n hx hb dX11_isSweptBy_138 rfl (lv_at hl 2 rfl) ?_
        refine va_get (D := (dC, dI)) (ci := 9) (v := .ref (a 33)) (C := RX11) (T := TX11) (N := 55) hx hb hts inX11 hown hK hP 0 rfl rfl 33 (by decide) (hts _ mw_1192) (fun _ h9 => h9) rfl dX11_isSweptBy_139 ?_
        refine lv_iload hx hb dX11_isSweptBy_142 (lv_at hl 0 rfl) ?_
        refine z_iald hx hb hK hP 2 0 rfl rfl (e := nxt on b) rfl (by omega) (by omega) dX11_isSweptBy_144 ?_
        refine z_iast hx hb hK hP hD hS 1 0 rfl rfl (e := 4) (x := ox (nxt on b)) rfl (by omega) (by omega) dX11_isSweptBy_145 (fun H locs hP hD hS => ?_)
        have hP : va_P (dC, dI) classes [(om k0 a I0 J0), (oa (a 40) cI 6 (upd (upd (upd (upd (upd T0 0 (ox (prv on b))) 1 (oy (prv on b))) 2 (ox b)) 3 (oy b)) 4 (ox (nxt on b)))), (oa (a 33) cI 42 ox), (oa (a 34) cI 42 oy)] H := hP
        have hD : va_D A [(om k0 a I0 J0), (oa (a 40) cI 6 (upd (upd (upd (upd (upd T0 0 (ox (prv on b))) 1 (oy (prv on b))) 2 (ox b)) 3 (oy b)) 4 (ox (nxt on b)))), (oa (a 33) cI 42 ox), (oa (a 34) cI 42 oy)] := hD
        refine lv_aload_n hx hb dX11_isSweptBy_146 rfl (lv_at hl 2 rfl) ?_
        refine va_get (D := (dC, dI)) (ci := 9) (v := .ref (a 40)) (C := RX11) (T := TX11) (N := 55) hx hb hts inX11 hown hK hP 0 rfl rfl 40 (by decide) (hts _ mw_1199) (fun _ h9 => h9) rfl dX11_isSweptBy_147 ?_
        refine lv_iconst (v := 5) hx hb dX11_isSweptBy_150 (by decide) ?_
        refine lv_aload_n hx hb dX11_isSweptBy_151 rfl (lv_at hl 2 rfl) ?_
        refine va_get (D := (dC, dI)) (ci := 9) (v := .ref (a 34)) (C := RX11) (T := TX11) (N := 55) hx hb hts inX11 hown hK hP 0 rfl rfl 34 (by decide) (hts _ mw_1193) (fun _ h9 => h9) rfl dX11_isSweptBy_152 ?_
        refine lv_iload hx hb dX11_isSweptBy_155 (lv_at hl 0 rfl) ?_
        refine z_iald hx hb hK hP 3 0 rfl rfl (e := nxt on b) rfl (by omega) (by omega) dX11_isSweptBy_157 ?_
        refine z_iast hx hb hK hP hD hS 1 0 rfl rfl (e := 5) (x := oy (nxt on b)) rfl (by omega) (by omega) dX11_isSweptBy_158 (fun H locs hP hD hS => ?_)
        have hP : va_P (dC, dI) classes [(om k0 a I0 J0), (oa (a 40) cI 6 (upd (upd (upd (upd (upd (upd T0 0 (ox (prv on b))) 1 (oy (prv on b))) 2 (ox b)) 3 (oy b)) 4 (ox (nxt on b))) 5 (oy (nxt on b)))), (oa (a 33) cI 42 ox), (oa (a 34) cI 42 oy)] H := hP
        have hD : va_D A [(om k0 a I0 J0), (oa (a 40) cI 6 (upd (upd (upd (upd (upd (upd T0 0 (ox (prv on b))) 1 (oy (prv on b))) 2 (ox b)) 3 (oy b)) 4 (ox (nxt on b))) 5 (oy (nxt on b)))), (oa (a 33) cI 42 ox), (oa (a 34) cI 42 oy)] := hD
        refine lv_aload_n hx hb dX11_isSweptBy_159 rfl (lv_at hl 2 rfl) ?_
        refine va_get (D := (dC, dI)) (ci := 9) (v := .ref (a 40)) (C := RX11) (T := TX11) (N := 55) hx hb hts inX11 hown hK hP 0 rfl rfl 40 (by decide) (hts _ mw_1199) (fun _ h9 => h9) rfl dX11_isSweptBy_160 ?_
        refine lv_iload_n hx hb dX11_isSweptBy_163 rfl (lv_at hl 4 rfl) ?_
        refine lv_iload_n hx hb dX11_isSweptBy_164 rfl (lv_at hl 5 rfl) ?_
        have hPc := hP.sub (ws' := [(oa (a 40) cI 6 (upd (upd (upd (upd (upd (upd T0 0 (ox (prv on b))) 1 (oy (prv on b))) 2 (ox b)) 3 (oy b)) 4 (ox (nxt on b))) 5 (oy (nxt on b))))]) [1] rfl
        have hDc := hD.sub (ws' := [(oa (a 40) cI 6 (upd (upd (upd (upd (upd (upd T0 0 (ox (prv on b))) 1 (oy (prv on b))) 2 (ox b)) 3 (oy b)) 4 (ox (nxt on b))) 5 (oy (nxt on b))))]) [1] (by decide) rfl
        have hFc := va_free (wc := [(oa (a 40) cI 6 (upd (upd (upd (upd (upd (upd T0 0 (ox (prv on b))) 1 (oy (prv on b))) 2 (ox b)) 3 (oy b)) 4 (ox (nxt on b))) 5 (oy (nxt on b))))]) hD hS hA [1] rfl
        refine zcall (st1 := [.int (pI (wtM ((upd (upd (upd (upd (upd (upd T0 0 (ox (prv on b))) 1 (oy (prv on b))) 2 (ox b)) 3 (oy b)) 4 (ox (nxt on b))) 5 (oy (nxt on b))) 0).toInt ((upd (upd (upd (upd (upd (upd T0 0 (ox (prv on b))) 1 (oy (prv on b))) 2 (ox b)) 3 (oy b)) 4 (ox (nxt on b))) 5 (oy (nxt on b))) 1).toInt ((upd (upd (upd (upd (upd (upd T0 0 (ox (prv on b))) 1 (oy (prv on b))) 2 (ox b)) 3 (oy b)) 4 (ox (nxt on b))) 5 (oy (nxt on b))) 2).toInt ((upd (upd (upd (upd (upd (upd T0 0 (ox (prv on b))) 1 (oy (prv on b))) 2 (ox b)) 3 (oy b)) 4 (ox (nxt on b))) 5 (oy (nxt on b))) 3).toInt ((upd (upd (upd (upd (upd (upd T0 0 (ox (prv on b))) 1 (oy (prv on b))) 2 (ox b)) 3 (oy b)) 4 (ox (nxt on b))) 5 (oy (nxt on b))) 4).toInt ((upd (upd (upd (upd (upd (upd T0 0 (ox (prv on b))) 1 (oy (prv on b))) 2 (ox b)) 3 (oy b)) 4 (ox (nxt on b))) 5 (oy (nxt on b))) 5).toInt px.toInt py.toInt))]) (va_runS (As := [.ref (a 40), .int px, .int py]) (rest := []) ⟨hx, hb, hml, hown, hts⟩ (k_M_isWithin l dC dI cI cZ cF H.size (a 40) (upd (upd (upd (upd (upd (upd T0 0 (ox (prv on b))) 1 (oy (prv on b))) 2 (ox b)) 3 (oy b)) 4 (ox (nxt on b))) 5 (oy (nxt on b))) px py (tPl (T := upd (upd (upd (upd (upd (upd T0 0 (ox (prv on b))) 1 (oy (prv on b))) 2 (ox b)) 3 (oy b)) 4 (ox (nxt on b))) 5 (oy (nxt on b))) (hpo _ hpv).1 (hpo _ hpv).2 (hpo b hb9).1 (hpo b hb9).2 (hpo _ hnx).1 (hpo _ hnx).2) (by assumption) (by assumption)) (va_cwS 3 hts (zz_gS mw_1491 mw_1492 mw_110 mc_yX11_isWithin) rfl rfl rfl (by decide +kernel) ⟨Nat.le_of_ble_eq_true rfl, Nat.le_of_ble_eq_true rfl⟩) (zPS2 hPc hDc hK hXN) rfl rfl hl.1 rfl (lv_room (Nat.le_of_ble_eq_true rfl)) dX11_isSweptBy_165 ⟨Nat.le_of_ble_eq_true rfl, Nat.le_of_ble_eq_true rfl⟩) hS hFc hFc rfl (fun t H1 locs ht hB hk1 hS => ?_)
        obtain ⟨hP1, hD1⟩ := hB
        rw [ht] at hP1
        obtain ⟨hP, hD⟩ := va_join (wr := [(om k0 a I0 J0), (oa (a 33) cI 42 ox), (oa (a 34) cI 42 oy)]) (w1 := [(oa (a 40) cI 6 (upd (upd (upd (upd (upd (upd T0 0 (ox (prv on b))) 1 (oy (prv on b))) 2 (ox b)) 3 (oy b)) 4 (ox (nxt on b))) 5 (oy (nxt on b))))]) hP hD [1] [0, 2, 3] rfl rfl (by decide) (by decide) hk1 hFc hP1 hD1
        clear hk1 hPc hDc hFc hP1 hD1 ht
        generalize H1 = H at hP hS ⊢
        have hP := hP.sub (ws' := [(om k0 a I0 J0), (oa (a 40) cI 6 (upd (upd (upd (upd (upd (upd T0 0 (ox (prv on b))) 1 (oy (prv on b))) 2 (ox b)) 3 (oy b)) 4 (ox (nxt on b))) 5 (oy (nxt on b)))), (oa (a 33) cI 42 ox), (oa (a 34) cI 42 oy)]) [0, 3, 1, 2] rfl
        have hD := hD.sub (ws' := [(om k0 a I0 J0), (oa (a 40) cI 6 (upd (upd (upd (upd (upd (upd T0 0 (ox (prv on b))) 1 (oy (prv on b))) 2 (ox b)) 3 (oy b)) 4 (ox (nxt on b))) 5 (oy (nxt on b)))), (oa (a 33) cI 42 ox), (oa (a 34) cI 42 oy)]) [0, 3, 1, 2] (by decide) rfl
        have hP : va_P (dC, dI) classes [(om k0 a I0 J0), (oa (a 40) cI 6 (upd (upd (upd (upd (upd (upd T0 0 (ox (prv on b))) 1 (oy (prv on b))) 2 (ox b)) 3 (oy b)) 4 (ox (nxt on b))) 5 (oy (nxt on b)))), (oa (a 33) cI 42 ox), (oa (a 34) cI 42 oy)] H := hP
        have hD : va_D A [(om k0 a I0 J0), (oa (a 40) cI 6 (upd (upd (upd (upd (upd (upd T0 0 (ox (prv on b))) 1 (oy (prv on b))) 2 (ox b)) 3 (oy b)) 4 (ox (nxt on b))) 5 (oy (nxt on b)))), (oa (a 33) cI 42 ox), (oa (a 34) cI 42 oy)] := hD
        refine zz_i (v := pI (wtM (ox (prv on b)).toInt (oy (prv on b)).toInt (ox b).toInt (oy b).toInt (ox (nxt on b)).toInt (oy (nxt on b)).toInt px.toInt py.toInt)) (zp_iff Iff.rfl) ?_
        have hP9 := hP.sub (ws' := [(om k0 a I0 J0), (oa (a 40) cI 6 (upd (upd (upd (upd (upd (upd T0 0 (ox (prv on b))) 1 (oy (prv on b))) 2 (ox b)) 3 (oy b)) 4 (ox (nxt on b))) 5 (oy (nxt on b)))), (oa (a 33) cI 42 ox), (oa (a 34) cI 42 oy)]) [0, 1, 2, 3] rfl
        have hD9 := hD.sub (ws' := [(om k0 a I0 J0), (oa (a 40) cI 6 (upd (upd (upd (upd (upd (upd T0 0 (ox (prv on b))) 1 (oy (prv on b))) 2 (ox b)) 3 (oy b)) 4 (ox (nxt on b))) 5 (oy (nxt on b)))), (oa (a 33) cI 42 ox), (oa (a 34) cI 42 oy)]) [0, 1, 2, 3] (by decide) rfl
        rw [hQ9]
        exact W.zret (ty := .boolean) (v := pI (wtM (ox (prv on b)).toInt (oy (prv on b)).toInt (ox b).toInt (oy b).toInt (ox (nxt on b)).toInt (oy (nxt on b)).toInt px.toInt py.toInt)) hx hb hr (zp_nar _) (fun t ht hW => ⟨⟨congrArg (fun z => Outcome.returned (some (Value.int z))) (show (pI (wtM (ox (prv on b)).toInt (oy (prv on b)).toInt (ox b).toInt (oy b).toInt (ox (nxt on b)).toInt (oy (nxt on b)).toInt px.toInt py.toInt) : Int32) = pI (swB on ox oy b px.toInt py.toInt) from zp_iff ⟨fun h => ⟨hsp.1, hsp.2, h⟩, fun h => h.2.2⟩), (upd (upd (upd (upd (upd (upd T0 0 (ox (prv on b))) 1 (oy (prv on b))) 2 (ox b)) 3 (oy b)) 4 (ox (nxt on b))) 5 (oy (nxt on b))), by rw [ht]; exact hP9, hD9⟩, hS.F ht⟩) hS.2.2 dX11_isSweptBy_168
      refine lv_iload_n hx hb dX11_isSweptBy_37 rfl (lv_at hl 4 rfl) ?_
      refine lv_aload_n hx hb dX11_isSweptBy_38 rfl (lv_at hl 2 rfl) ?_
      refine va_get (D := (dC, dI)) (ci := 9) (v := .ref (a 33)) (C := RX11) (T := TX11) (N := 55) hx hb hts inX11 hown hK hP 0 rfl rfl 33 (by decide) (hts _ mw_1192) (fun _ h9 => h9) rfl dX11_isSweptBy_39 ?_
      refine lv_iload hx hb dX11_isSweptBy_42 (lv_at hl 1 rfl) ?_
      refine z_iald hx hb hK hP 2 0 rfl rfl (e := prv on b) rfl (by omega) (by omega) dX11_isSweptBy_44 ?_
      refine lv_icmp_ne (tgt := 59) hx hb dX11_isSweptBy_45 (by decide) (fun c_4 => ?_) (fun c_4 => ?_)
      · have c_4 : ¬ px.toInt = (ox (prv on b)).toInt := zc_ne rfl rfl c_4
        refine lv_iload_n hx hb dX11_isSweptBy_59 rfl (lv_at hl 4 rfl) ?_
        refine lv_aload_n hx hb dX11_isSweptBy_60 rfl (lv_at hl 2 rfl) ?_
        refine va_get (D := (dC, dI)) (ci := 9) (v := .ref (a 33)) (C := RX11) (T := TX11) (N := 55) hx hb hts inX11 hown hK hP 0 rfl rfl 33 (by decide) (hts _ mw_1192) (fun _ h9 => h9) rfl dX11_isSweptBy_61 ?_
        refine lv_iload hx hb dX11_isSweptBy_64 (lv_at hl 0 rfl) ?_
        refine z_iald hx hb hK hP 2 0 rfl rfl (e := nxt on b) rfl (by omega) (by omega) dX11_isSweptBy_66 ?_
        refine lv_icmp_ne (tgt := 83) hx hb dX11_isSweptBy_67 (by decide) (fun c_5 => ?_) (fun c_5 => ?_)
        · have c_5 : ¬ px.toInt = (ox (nxt on b)).toInt := zc_ne rfl rfl c_5
          exact hj_3 (by omega)
        · have c_5 : px.toInt = (ox (nxt on b)).toInt := zc_eq rfl rfl c_5
          refine lv_iload_n hx hb dX11_isSweptBy_70 rfl (lv_at hl 5 rfl) ?_
          refine lv_aload_n hx hb dX11_isSweptBy_71 rfl (lv_at hl 2 rfl) ?_
          refine va_get (D := (dC, dI)) (ci := 9) (v := .ref (a 34)) (C := RX11) (T := TX11) (N := 55) hx hb hts inX11 hown hK hP 0 rfl rfl 34 (by decide) (hts _ mw_1193) (fun _ h9 => h9) rfl dX11_isSweptBy_72 ?_
          refine lv_iload hx hb dX11_isSweptBy_75 (lv_at hl 0 rfl) ?_
          refine z_iald hx hb hK hP 3 0 rfl rfl (e := nxt on b) rfl (by omega) (by omega) dX11_isSweptBy_77 ?_
          refine lv_icmp_ne (tgt := 83) hx hb dX11_isSweptBy_78 (by decide) (fun c_6 => ?_) (fun c_6 => ?_)
          · have c_6 : ¬ py.toInt = (oy (nxt on b)).toInt := zc_ne rfl rfl c_6
            exact hj_3 (by omega)
          · have c_6 : py.toInt = (oy (nxt on b)).toInt := zc_eq rfl rfl c_6
            refine lv_iconst (v := 0) hx hb dX11_isSweptBy_81 (by decide) ?_
            have hP9 := hP.sub (ws' := [(om k0 a I0 J0), (oa (a 40) cI 6 T0), (oa (a 33) cI 42 ox), (oa (a 34) cI 42 oy)]) [0, 1, 2, 3] rfl
            have hD9 := hD.sub (ws' := [(om k0 a I0 J0), (oa (a 40) cI 6 T0), (oa (a 33) cI 42 ox), (oa (a 34) cI 42 oy)]) [0, 1, 2, 3] (by decide) rfl
            rw [hQ9]
            exact W.zret (ty := .boolean) (v := 0) hx hb hr (rfl) (fun t ht hW => ⟨⟨congrArg (fun z => Outcome.returned (some (Value.int z))) (show (0 : Int32) = pI (swB on ox oy b px.toInt py.toInt) from (zp_f (by unfold swB; omega)).symm), T0, by rw [ht]; exact hP9, hD9⟩, hS.F ht⟩) hS.2.2 dX11_isSweptBy_82
      · have c_4 : px.toInt = (ox (prv on b)).toInt := zc_eq rfl rfl c_4
        refine lv_iload_n hx hb dX11_isSweptBy_48 rfl (lv_at hl 5 rfl) ?_
        refine lv_aload_n hx hb dX11_isSweptBy_49 rfl (lv_at hl 2 rfl) ?_
        refine va_get (D := (dC, dI)) (ci := 9) (v := .ref (a 34)) (C := RX11) (T := TX11) (N := 55) hx hb hts inX11 hown hK hP 0 rfl rfl 34 (by decide) (hts _ mw_1193) (fun _ h9 => h9) rfl dX11_isSweptBy_50 ?_
        refine lv_iload hx hb dX11_isSweptBy_53 (lv_at hl 1 rfl) ?_
        refine z_iald hx hb hK hP 3 0 rfl rfl (e := prv on b) rfl (by omega) (by omega) dX11_isSweptBy_55 ?_
        refine lv_icmp_eq (tgt := 81) hx hb dX11_isSweptBy_56 (by decide) (fun c_7 => ?_) (fun c_7 => ?_)
        · have c_7 : py.toInt = (oy (prv on b)).toInt := zc_eq rfl rfl c_7
          refine lv_iconst (v := 0) hx hb dX11_isSweptBy_81 (by decide) ?_
          have hP9 := hP.sub (ws' := [(om k0 a I0 J0), (oa (a 40) cI 6 T0), (oa (a 33) cI 42 ox), (oa (a 34) cI 42 oy)]) [0, 1, 2, 3] rfl
          have hD9 := hD.sub (ws' := [(om k0 a I0 J0), (oa (a 40) cI 6 T0), (oa (a 33) cI 42 ox), (oa (a 34) cI 42 oy)]) [0, 1, 2, 3] (by decide) rfl
          rw [hQ9]
          exact W.zret (ty := .boolean) (v := 0) hx hb hr (rfl) (fun t ht hW => ⟨⟨congrArg (fun z => Outcome.returned (some (Value.int z))) (show (0 : Int32) = pI (swB on ox oy b px.toInt py.toInt) from (zp_f (by unfold swB; omega)).symm), T0, by rw [ht]; exact hP9, hD9⟩, hS.F ht⟩) hS.2.2 dX11_isSweptBy_82
        · have c_7 : ¬ py.toInt = (oy (prv on b)).toInt := zc_ne rfl rfl c_7
          refine lv_iload_n hx hb dX11_isSweptBy_59 rfl (lv_at hl 4 rfl) ?_
          refine lv_aload_n hx hb dX11_isSweptBy_60 rfl (lv_at hl 2 rfl) ?_
          refine va_get (D := (dC, dI)) (ci := 9) (v := .ref (a 33)) (C := RX11) (T := TX11) (N := 55) hx hb hts inX11 hown hK hP 0 rfl rfl 33 (by decide) (hts _ mw_1192) (fun _ h9 => h9) rfl dX11_isSweptBy_61 ?_
          refine lv_iload hx hb dX11_isSweptBy_64 (lv_at hl 0 rfl) ?_
          refine z_iald hx hb hK hP 2 0 rfl rfl (e := nxt on b) rfl (by omega) (by omega) dX11_isSweptBy_66 ?_
          refine lv_icmp_ne (tgt := 83) hx hb dX11_isSweptBy_67 (by decide) (fun c_8 => ?_) (fun c_8 => ?_)
          · have c_8 : ¬ px.toInt = (ox (nxt on b)).toInt := zc_ne rfl rfl c_8
            exact hj_3 (by omega)
          · have c_8 : px.toInt = (ox (nxt on b)).toInt := zc_eq rfl rfl c_8
            refine lv_iload_n hx hb dX11_isSweptBy_70 rfl (lv_at hl 5 rfl) ?_
            refine lv_aload_n hx hb dX11_isSweptBy_71 rfl (lv_at hl 2 rfl) ?_
            refine va_get (D := (dC, dI)) (ci := 9) (v := .ref (a 34)) (C := RX11) (T := TX11) (N := 55) hx hb hts inX11 hown hK hP 0 rfl rfl 34 (by decide) (hts _ mw_1193) (fun _ h9 => h9) rfl dX11_isSweptBy_72 ?_
            refine lv_iload hx hb dX11_isSweptBy_75 (lv_at hl 0 rfl) ?_
            refine z_iald hx hb hK hP 3 0 rfl rfl (e := nxt on b) rfl (by omega) (by omega) dX11_isSweptBy_77 ?_
            refine lv_icmp_ne (tgt := 83) hx hb dX11_isSweptBy_78 (by decide) (fun c_9 => ?_) (fun c_9 => ?_)
            · have c_9 : ¬ py.toInt = (oy (nxt on b)).toInt := zc_ne rfl rfl c_9
              exact hj_3 (by omega)
            · have c_9 : py.toInt = (oy (nxt on b)).toInt := zc_eq rfl rfl c_9
              refine lv_iconst (v := 0) hx hb dX11_isSweptBy_81 (by decide) ?_
              have hP9 := hP.sub (ws' := [(om k0 a I0 J0), (oa (a 40) cI 6 T0), (oa (a 33) cI 42 ox), (oa (a 34) cI 42 oy)]) [0, 1, 2, 3] rfl
              have hD9 := hD.sub (ws' := [(om k0 a I0 J0), (oa (a 40) cI 6 T0), (oa (a 33) cI 42 ox), (oa (a 34) cI 42 oy)]) [0, 1, 2, 3] (by decide) rfl
              rw [hQ9]
              exact W.zret (ty := .boolean) (v := 0) hx hb hr (rfl) (fun t ht hW => ⟨⟨congrArg (fun z => Outcome.returned (some (Value.int z))) (show (0 : Int32) = pI (swB on ox oy b px.toInt py.toInt) from (zp_f (by unfold swB; omega)).symm), T0, by rw [ht]; exact hP9, hD9⟩, hS.F ht⟩) hS.2.2 dX11_isSweptBy_82
    refine lv_icmp_ne (tgt := 32) hx hb dX11_isSweptBy_25 (by decide) (fun c_10 => ?_) (fun c_10 => ?_)
    · have c_10 : ¬ ((b + 1 : Nat) : Int) = ((on : Nat) : Int) := zc_ne (nI_toInt (by omega)) (nI_toInt (by omega)) c_10
      refine lv_iload_n hx hb dX11_isSweptBy_32 rfl (lv_at hl 2 rfl) ?_
      refine lv_iconst (v := 1) hx hb dX11_isSweptBy_33 (by decide) ?_
      refine lv_iadd hx hb dX11_isSweptBy_34 ?_
      refine zz_i (v := nI (b + 1)) (nI_add b 1) ?_
      refine zz_i (v := nI (nxt on b)) (by first | (rw [nxt, if_pos (by omega)]) | (rw [nxt, if_neg (by omega)]; first | done | rfl)) ?_
      exact hj_2 
    · have c_10 : ((b + 1 : Nat) : Int) = ((on : Nat) : Int) := zc_eq (nI_toInt (by omega)) (nI_toInt (by omega)) c_10
      refine lv_iconst (v := 0) hx hb dX11_isSweptBy_28 (by decide) ?_
      refine lv_goto (tgt := 35) hx hb dX11_isSweptBy_29 (by decide) ?_
      refine zz_i (v := nI (nxt on b)) (by first | (rw [nxt, if_pos (by omega)]) | (rw [nxt, if_neg (by omega)]; first | done | rfl)) ?_
      exact hj_2 
  refine lv_if_ne (tgt := 13) hx hb dX11_isSweptBy_1 (by decide) (fun c_11 => ?_) (fun c_11 => ?_)
  · have c_11 : ¬ ((b : Nat) : Int) = 0 := zc_ne (nI_toInt (by omega)) (by decide) c_11
    refine lv_iload_n hx hb dX11_isSweptBy_13 rfl (lv_at hl 1 rfl) ?_
    refine lv_iconst (v := 1) hx hb dX11_isSweptBy_14 (by decide) ?_
    refine lv_isub hx hb dX11_isSweptBy_15 ?_
    refine zz_i (v := nI (b - 1)) (pk_sub (a := b) (b := 1) (by omega)) ?_
    refine zz_i (v := nI (prv on b)) (by first | (rw [prv, if_pos (by omega)]) | (rw [prv, if_neg (by omega)])) ?_
    exact hj_1 
  · have c_11 : ((b : Nat) : Int) = 0 := zc_eq (nI_toInt (by omega)) (by decide) c_11
    refine lv_aload_n hx hb dX11_isSweptBy_4 rfl (lv_at hl 0 rfl) ?_
    refine va_get (D := (dC, dI)) (ci := 9) (v := .int (I0 35)) (C := RX11) (T := TX11) (N := 55) hx hb hts inX11 hown hK hP 0 rfl rfl 35 (by decide) (hts _ mw_1194) (fun _ h9 => h9) rfl dX11_isSweptBy_5 ?_
    refine zz_i (v := nI on) (hon) ?_
    refine lv_iconst (v := 1) hx hb dX11_isSweptBy_8 (by decide) ?_
    refine lv_isub hx hb dX11_isSweptBy_9 ?_
    refine zz_i (v := nI (on - 1)) (pk_sub (a := on) (b := 1) (by omega)) ?_
    refine lv_goto (tgt := 16) hx hb dX11_isSweptBy_10 (by decide) ?_
    refine zz_i (v := nI (prv on b)) (by first | (rw [prv, if_pos (by omega)]) | (rw [prv, if_neg (by omega)])) ?_
    exact hj_1 
set_option maxHeartbeats 4000000 in
set_option maxRecDepth 100000 in
theorem k_M_isSwept (l : Launch) (dC : Nat → ClassId) (dI : Nat → Nat → Nat) (cI cZ cF : ClassId) (sz : Nat) (k0 : Nat) (a : Nat → Nat) (I0 : Nat → Int32) (J0 : Nat → Int64) (f : Nat) (on : Nat) (px : Int32) (py : Int32) (kd : Nat → Int32) (mn : Nat → Int32) (cx : Nat → Int32) (cy : Nat → Int32) (T0 : Nat → Int32) (P0 : Nat → Int32) (Q0 : Nat → Int32) (ox : Nat → Int32) (oy : Nat → Int32) (hon : I0 35 = nI on) (ho40 : on ≤ 40) (hf_f : f ≤ 200) (hm_f : mn f = nI on) (hn_f : 1 ≤ on ∧ on ≤ 40) (hp_f : pls on (cF40 cx f) (cF40 cy f)) (hpo : pls on ox oy) (hpx : pl px) (hpy : pl py) : Met l yX11_isSwept (.code yX11_isSwept cX11_isSwept 8 (some .boolean) :: ws0) ({ frames := 4, cells := 0, slots := 0, locals := 108 } : Room) (va_Pc [.ref k0, .int (nI f), .int px, .int py] (zPre (dC, dI) classes (zTy cI cZ cF) [(om k0 a I0 J0), (oa (a 1) cI 201 kd), (oa (a 11) cI 201 mn), (oa (a 12) cI 8040 cx), (oa (a 13) cI 8040 cy), (oa (a 40) cI 6 T0), (oa (a 29) cI 42 P0), (oa (a 30) cI 42 Q0), (oa (a 33) cI 42 ox), (oa (a 34) cI 42 oy)] sz zXN)) (zQ (some (.int (pI (∃ e9, e9 < eO (kd f).toInt on ∧ swp on ox oy (cF40 cx f) (cF40 cy f) px.toInt py.toInt e9)))) (fun t => ∃ (T1 : Nat → Int32), ∃ (P1 : Nat → Int32), ∃ (Q1 : Nat → Int32), va_P (dC, dI) classes [(om k0 a (upd I0 31 (nI on)) J0), (oa (a 1) cI 201 kd), (oa (a 11) cI 201 mn), (oa (a 12) cI 8040 cx), (oa (a 13) cI 8040 cy), (oa (a 40) cI 6 T1), (oa (a 29) cI 42 P1), (oa (a 30) cI 42 Q1), (oa (a 33) cI 42 ox), (oa (a 34) cI 42 oy)] t.heap ∧ va_D (va_A [(om k0 a I0 J0), (oa (a 1) cI 201 kd), (oa (a 11) cI 201 mn), (oa (a 12) cI 8040 cx), (oa (a 13) cI 8040 cy), (oa (a 40) cI 6 T0), (oa (a 29) cI 42 P0), (oa (a 30) cI 42 Q0), (oa (a 33) cI 42 ox), (oa (a 34) cI 42 oy)] sz) [(om k0 a (upd I0 31 (nI on)) J0), (oa (a 1) cI 201 kd), (oa (a 11) cI 201 mn), (oa (a 12) cI 8040 cx), (oa (a 13) cI 8040 cy), (oa (a 40) cI 6 T1), (oa (a 29) cI 42 P1), (oa (a 30) cI 42 Q1), (oa (a 33) cI 42 ox), (oa (a 34) cI 42 oy)]) (va_A [(om k0 a I0 J0), (oa (a 1) cI 201 kd), (oa (a 11) cI 201 mn), (oa (a 12) cI 8040 cx), (oa (a 13) cI 8040 cy), (oa (a 40) cI 6 T0), (oa (a 29) cI 42 P0), (oa (a 30) cI 42 Q0), (oa (a 33) cI 42 ox), (oa (a 34) cI 42 oy)] sz)) 0 0 (va_A [(om k0 a I0 J0), (oa (a 1) cI 201 kd), (oa (a 11) cI 201 mn), (oa (a 12) cI 8040 cx), (oa (a 13) cI 8040 cy), (oa (a 40) cI 6 T0), (oa (a 29) cI 42 P0), (oa (a 30) cI 42 Q0), (oa (a 33) cI 42 ox), (oa (a 34) cI 42 oy)] sz) := by
  refine Met.ofW (cc := cX11_isSwept) (maxL := 8) (ret := (some .boolean)) (by decide) rfl ?_
  intro p e s m args below meth c s₁ B hml hv
  obtain ⟨rfl, hsz, hP, hK, hD0, hXN⟩ := hv
  have hx := B.exec
  have hb := B.bytes
  have hr := B.returns
  have hts0 := atoms_spec (ws := .code yX11_isSwept cX11_isSwept 8 (some .boolean) :: ws0) B.pre
  have hts : ∀ w9 ∈ ws0, w9.before ([.ref k0, .int (nI f), .int px, .int py] : List Value).toArray s = true := fun w9 h => hts0 w9 (List.mem_cons_of_mem _ h)
  have hown : s.vm.findClass "ScaleShopModel" = some m.cls := findClass_of_methodNamed B.named
  have hlocks := B.notSynchronized
  subst hsz
  have hD := hD0.self (sz := s.heap.size)
  clear hD0
  generalize hAe : va_A [(om k0 a I0 J0), (oa (a 1) cI 201 kd), (oa (a 11) cI 201 mn), (oa (a 12) cI 8040 cx), (oa (a 13) cI 8040 cy), (oa (a 40) cI 6 T0), (oa (a 29) cI 42 P0), (oa (a 30) cI 42 Q0), (oa (a 33) cI 42 ox), (oa (a 34) cI 42 oy)] s.heap.size = A at hD ⊢
  have hA : ∀ q : Nat, s.heap.size ≤ q → A q := fun q h => by rw [← hAe]; exact Or.inr h
  clear hAe
  have hS : va_S A s.heap s.heap [] := va_S.rf
  have hP : va_P (dC, dI) classes [(om k0 a I0 J0), (oa (a 1) cI 201 kd), (oa (a 11) cI 201 mn), (oa (a 12) cI 8040 cx), (oa (a 13) cI 8040 cy), (oa (a 40) cI 6 T0), (oa (a 29) cI 42 P0), (oa (a 30) cI 42 Q0), (oa (a 33) cI 42 ox), (oa (a 34) cI 42 oy)] s.heap := hP
  obtain ⟨Q9, hQ9⟩ : ∃ Q9 : State → Prop, Q9 = MQ below (zQ (some (.int (pI (∃ e9, e9 < eO (kd f).toInt on ∧ swp on ox oy (cF40 cx f) (cF40 cy f) px.toInt py.toInt e9)))) (fun t => ∃ (T1 : Nat → Int32), ∃ (P1 : Nat → Int32), ∃ (Q1 : Nat → Int32), va_P (dC, dI) classes [(om k0 a (upd I0 31 (nI on)) J0), (oa (a 1) cI 201 kd), (oa (a 11) cI 201 mn), (oa (a 12) cI 8040 cx), (oa (a 13) cI 8040 cy), (oa (a 40) cI 6 T1), (oa (a 29) cI 42 P1), (oa (a 30) cI 42 Q1), (oa (a 33) cI 42 ox), (oa (a 34) cI 42 oy)] t.heap ∧ va_D A [(om k0 a (upd I0 31 (nI on)) J0), (oa (a 1) cI 201 kd), (oa (a 11) cI 201 mn), (oa (a 12) cI 8040 cx), (oa (a 13) cI 8040 cy), (oa (a 40) cI 6 T1), (oa (a 29) cI 42 P1), (oa (a 30) cI 42 Q1), (oa (a 33) cI 42 ox), (oa (a 34) cI 42 oy)]) A) ([.ref k0, .int (nI f), .int px, .int py] : List Value).toArray s 0 0 A := ⟨_, rfl⟩
  rw [← hQ9]
  have hl := lv_entry ([.ref k0, .int (nI f), .int px, .int py]) (n := 8) (Nat.le_of_ble_eq_true rfl)
  rw [lg_entry_eq]
  generalize (lg_sl ([.ref k0, .int (nI f), .int px, .int py]) ++ List.replicate (8 - (lg_sl ([.ref k0, .int (nI f), .int px, .int py])).length) Slot.unset).toArray = ls at hl ⊢
  have hl : lv_has ls 8 [(0, .ref k0), (1, .int (nI f)), (2, .int px), (3, .int py)] := hl
  have hef := eO_le (k := (kd f).toInt) hn_f.1
  refine lv_aload_n hx hb dX11_isSwept_0 rfl (lv_at hl 0 rfl) ?_
  refine lv_iload_n hx hb dX11_isSwept_1 rfl (lv_at hl 1 rfl) ?_
  have hPc := hP.sub (ws' := [(om k0 a I0 J0), (oa (a 11) cI 201 mn), (oa (a 12) cI 8040 cx), (oa (a 13) cI 8040 cy), (oa (a 29) cI 42 P0), (oa (a 30) cI 42 Q0)]) [0, 2, 3, 4, 6, 7] rfl
  have hDc := hD.sub (ws' := [(om k0 a I0 J0), (oa (a 11) cI 201 mn), (oa (a 12) cI 8040 cx), (oa (a 13) cI 8040 cy), (oa (a 29) cI 42 P0), (oa (a 30) cI 42 Q0)]) [0, 2, 3, 4, 6, 7] (by decide) rfl
  have hFc := va_free (wc := [(om k0 a I0 J0), (oa (a 11) cI 201 mn), (oa (a 12) cI 8040 cx), (oa (a 13) cI 8040 cy), (oa (a 29) cI 42 P0), (oa (a 30) cI 42 Q0)]) hD hS hA [0, 2, 3, 4, 6, 7] rfl
  refine zcall (st1 := []) (va_runV (As := [.int (nI f)]) (rest := []) ⟨hx, hb, hml, hown, hts⟩ (k_M_take l dC dI cI cZ cF s.heap.size k0 a I0 J0 f on mn cx cy P0 Q0 (by omega) (by assumption) (by omega)) (cwV 1 hts (zz_gV mw_1498 mw_1500 mw_68 mw_110 mc_yX11_take) rfl rfl rfl (by decide +kernel) ⟨Nat.le_of_ble_eq_true rfl, Nat.le_of_ble_eq_true rfl⟩) (zPV2 (q0 := 0) (ci := 9) hPc hDc hK hXN rfl rfl) rfl rfl hl.1 rfl (lv_room (Nat.le_of_ble_eq_true rfl)) dX11_isSwept_2 ⟨Nat.le_of_ble_eq_true rfl, Nat.le_of_ble_eq_true rfl⟩) hS hFc hFc rfl (fun t H1 locs ht hB hk1 hS => ?_)
  obtain ⟨P1, Q1, hpq, hP1, hD1⟩ := hB
  rw [ht] at hP1
  obtain ⟨hP, hD⟩ := va_join (wr := [(oa (a 1) cI 201 kd), (oa (a 40) cI 6 T0), (oa (a 33) cI 42 ox), (oa (a 34) cI 42 oy)]) (w1 := [(om k0 a (upd I0 31 (nI on)) J0), (oa (a 11) cI 201 mn), (oa (a 12) cI 8040 cx), (oa (a 13) cI 8040 cy), (oa (a 29) cI 42 P1), (oa (a 30) cI 42 Q1)]) hP hD [0, 2, 3, 4, 6, 7] [1, 5, 8, 9] rfl rfl (by decide) (by decide) hk1 hFc hP1 hD1
  clear hk1 hPc hDc hFc hP1 hD1 ht
  generalize H1 = H at hP hS ⊢
  have hP := hP.sub (ws' := [(om k0 a (upd I0 31 (nI on)) J0), (oa (a 1) cI 201 kd), (oa (a 11) cI 201 mn), (oa (a 12) cI 8040 cx), (oa (a 13) cI 8040 cy), (oa (a 40) cI 6 T0), (oa (a 29) cI 42 P1), (oa (a 30) cI 42 Q1), (oa (a 33) cI 42 ox), (oa (a 34) cI 42 oy)]) [4, 0, 5, 6, 7, 1, 8, 9, 2, 3] rfl
  have hD := hD.sub (ws' := [(om k0 a (upd I0 31 (nI on)) J0), (oa (a 1) cI 201 kd), (oa (a 11) cI 201 mn), (oa (a 12) cI 8040 cx), (oa (a 13) cI 8040 cy), (oa (a 40) cI 6 T0), (oa (a 29) cI 42 P1), (oa (a 30) cI 42 Q1), (oa (a 33) cI 42 ox), (oa (a 34) cI 42 oy)]) [4, 0, 5, 6, 7, 1, 8, 9, 2, 3] (by decide) rfl
  have hP : va_P (dC, dI) classes [(om k0 a (upd I0 31 (nI on)) J0), (oa (a 1) cI 201 kd), (oa (a 11) cI 201 mn), (oa (a 12) cI 8040 cx), (oa (a 13) cI 8040 cy), (oa (a 40) cI 6 T0), (oa (a 29) cI 42 P1), (oa (a 30) cI 42 Q1), (oa (a 33) cI 42 ox), (oa (a 34) cI 42 oy)] H := hP
  have hD : va_D A [(om k0 a (upd I0 31 (nI on)) J0), (oa (a 1) cI 201 kd), (oa (a 11) cI 201 mn), (oa (a 12) cI 8040 cx), (oa (a 13) cI 8040 cy), (oa (a 40) cI 6 T0), (oa (a 29) cI 42 P1), (oa (a 30) cI 42 Q1), (oa (a 33) cI 42 ox), (oa (a 34) cI 42 oy)] := hD
  have hP1 : pls on P1 Q1 := fun j hj => by rw [(hpq j hj).1, (hpq j hj).2]; exact hp_f j hj
  have hsw : ∀ j, j < on → (swp on ox oy P1 Q1 px.toInt py.toInt j ↔ swp on ox oy (cF40 cx f) (cF40 cy f) px.toInt py.toInt j) := fun j hj => by have hj2 := nxt_lt (n := on) (i := j) (by omega); unfold swp spr stay; rw [(hpq j hj).1, (hpq j hj).2, (hpq _ hj2).1, (hpq _ hj2).2]
  refine lv_iconst (v := 0) hx hb dX11_isSwept_5 (by decide) ?_
  refine lv_istore (lv' := [(4, .int 0), (0, .ref k0), (1, .int (nI f)), (2, .int px), (3, .int py)]) hx hb dX11_isSwept_6 hl (by decide) rfl (fun ls hl => ?_)
  have hl_8 : ∀ (n9 : Nat) (k : Nat) (T2 : Nat → Int32) (H : Heap) (locs : List Loc) (ls : Array Slot), eO (kd f).toInt on - k < n9 → (k ≤ eO (kd f).toInt on) → (∀ j, j < k → ¬ swp on ox oy P1 Q1 px.toInt py.toInt j) → va_P (dC, dI) classes [(om k0 a (upd I0 31 (nI on)) J0), (oa (a 1) cI 201 kd), (oa (a 11) cI 201 mn), (oa (a 12) cI 8040 cx), (oa (a 13) cI 8040 cy), (oa (a 40) cI 6 T2), (oa (a 29) cI 42 P1), (oa (a 30) cI 42 Q1), (oa (a 33) cI 42 ox), (oa (a 34) cI 42 oy)] H → va_D A [(om k0 a (upd I0 31 (nI on)) J0), (oa (a 1) cI 201 kd), (oa (a 11) cI 201 mn), (oa (a 12) cI 8040 cx), (oa (a 13) cI 8040 cy), (oa (a 40) cI 6 T2), (oa (a 29) cI 42 P1), (oa (a 30) cI 42 Q1), (oa (a 33) cI 42 ox), (oa (a 34) cI 42 oy)] → va_S A s.heap H locs → lv_has ls 8 [(4, .int (nI k)), (0, .ref k0), (1, .int (nI f)), (2, .int px), (3, .int py)] → W p l e ((headSpec (.code yX11_isSwept cX11_isSwept 8 (some .boolean) :: ws0) ({ frames := 4, cells := 0, slots := 0, locals := 108 } : Room)).room) s m ([.ref k0, .int (nI f), .int px, .int py] : List Value).toArray below meth c H locs 0 0 Q9 (F0 m 8 ls []) := by
    intro n9
    induction n9 with
    | zero => intro k T2 H locs ls hm; exact absurd hm (Nat.not_lt_zero _)
    | succ n9 ih_8 =>
      intro k T2 H locs ls hm hk hno hP hD hS hl
      refine lv_iload hx hb dX11_isSwept_8 (lv_at hl 0 rfl) ?_
      refine lv_aload_n hx hb dX11_isSwept_10 rfl (lv_at hl 1 rfl) ?_
      refine lv_iload_n hx hb dX11_isSwept_11 rfl (lv_at hl 2 rfl) ?_
      have hPc := hP.sub (ws' := [(om k0 a (upd I0 31 (nI on)) J0), (oa (a 1) cI 201 kd), (oa (a 11) cI 201 mn)]) [0, 1, 2] rfl
      have hDc := hD.sub (ws' := [(om k0 a (upd I0 31 (nI on)) J0), (oa (a 1) cI 201 kd), (oa (a 11) cI 201 mn)]) [0, 1, 2] (by decide) rfl
      have hFc := va_free (wc := [(om k0 a (upd I0 31 (nI on)) J0), (oa (a 1) cI 201 kd), (oa (a 11) cI 201 mn)]) hD hS hA [0, 1, 2] rfl
      refine zcall (st1 := [.int (nI (eO (kd f).toInt on)), .int (nI k)]) (va_runV (As := [.int (nI f)]) (rest := [.int (nI k)]) ⟨hx, hb, hml, hown, hts⟩ (k_M_edgesOf l dC dI cI cZ cF H.size k0 a (upd I0 31 (nI on)) J0 f on kd mn (by omega) (by assumption) (by omega)) (cwV 1 hts (zz_gV mw_1369 mw_1371 mw_41 mw_110 mc_yX11_edgesOf) rfl rfl rfl (by decide +kernel) ⟨Nat.le_of_ble_eq_true rfl, Nat.le_of_ble_eq_true rfl⟩) (zPV2 (q0 := 0) (ci := 9) hPc hDc hK hXN rfl rfl) rfl rfl hl.1 rfl (lv_room (Nat.le_of_ble_eq_true rfl)) dX11_isSwept_12 ⟨Nat.le_of_ble_eq_true rfl, Nat.le_of_ble_eq_true rfl⟩) hS hFc hFc rfl (fun t H1 locs ht hB hk1 hS => ?_)
      obtain ⟨hP1, hD1⟩ := hB
      rw [ht] at hP1
      obtain ⟨hP, hD⟩ := va_join (wr := [(oa (a 12) cI 8040 cx), (oa (a 13) cI 8040 cy), (oa (a 40) cI 6 T2), (oa (a 29) cI 42 P1), (oa (a 30) cI 42 Q1), (oa (a 33) cI 42 ox), (oa (a 34) cI 42 oy)]) (w1 := [(om k0 a (upd I0 31 (nI on)) J0), (oa (a 1) cI 201 kd), (oa (a 11) cI 201 mn)]) hP hD [0, 1, 2] [3, 4, 5, 6, 7, 8, 9] rfl rfl (by decide) (by decide) hk1 hFc hP1 hD1
      clear hk1 hPc hDc hFc hP1 hD1 ht
      generalize H1 = H at hP hS ⊢
      have hP := hP.sub (ws' := [(om k0 a (upd I0 31 (nI on)) J0), (oa (a 1) cI 201 kd), (oa (a 11) cI 201 mn), (oa (a 12) cI 8040 cx), (oa (a 13) cI 8040 cy), (oa (a 40) cI 6 T2), (oa (a 29) cI 42 P1), (oa (a 30) cI 42 Q1), (oa (a 33) cI 42 ox), (oa (a 34) cI 42 oy)]) [7, 8, 9, 0, 1, 2, 3, 4, 5, 6] rfl
      have hD := hD.sub (ws' := [(om k0 a (upd I0 31 (nI on)) J0), (oa (a 1) cI 201 kd), (oa (a 11) cI 201 mn), (oa (a 12) cI 8040 cx), (oa (a 13) cI 8040 cy), (oa (a 40) cI 6 T2), (oa (a 29) cI 42 P1), (oa (a 30) cI 42 Q1), (oa (a 33) cI 42 ox), (oa (a 34) cI 42 oy)]) [7, 8, 9, 0, 1, 2, 3, 4, 5, 6] (by decide) rfl
      have hP : va_P (dC, dI) classes [(om k0 a (upd I0 31 (nI on)) J0), (oa (a 1) cI 201 kd), (oa (a 11) cI 201 mn), (oa (a 12) cI 8040 cx), (oa (a 13) cI 8040 cy), (oa (a 40) cI 6 T2), (oa (a 29) cI 42 P1), (oa (a 30) cI 42 Q1), (oa (a 33) cI 42 ox), (oa (a 34) cI 42 oy)] H := hP
      have hD : va_D A [(om k0 a (upd I0 31 (nI on)) J0), (oa (a 1) cI 201 kd), (oa (a 11) cI 201 mn), (oa (a 12) cI 8040 cx), (oa (a 13) cI 8040 cy), (oa (a 40) cI 6 T2), (oa (a 29) cI 42 P1), (oa (a 30) cI 42 Q1), (oa (a 33) cI 42 ox), (oa (a 34) cI 42 oy)] := hD
      refine lv_icmp_ge (tgt := 274) hx hb dX11_isSwept_15 (by decide) (fun c_1 => ?_) (fun c_1 => ?_)
      · have c_1 : ((eO (kd f).toInt on : Nat) : Int) ≤ ((k : Nat) : Int) := zc_le (nI_toInt (by omega)) (nI_toInt (by omega)) c_1
        refine lv_iconst (v := 0) hx hb dX11_isSwept_274 (by decide) ?_
        have hP9 := hP.sub (ws' := [(om k0 a (upd I0 31 (nI on)) J0), (oa (a 1) cI 201 kd), (oa (a 11) cI 201 mn), (oa (a 12) cI 8040 cx), (oa (a 13) cI 8040 cy), (oa (a 40) cI 6 T2), (oa (a 29) cI 42 P1), (oa (a 30) cI 42 Q1), (oa (a 33) cI 42 ox), (oa (a 34) cI 42 oy)]) [0, 1, 2, 3, 4, 5, 6, 7, 8, 9] rfl
        have hD9 := hD.sub (ws' := [(om k0 a (upd I0 31 (nI on)) J0), (oa (a 1) cI 201 kd), (oa (a 11) cI 201 mn), (oa (a 12) cI 8040 cx), (oa (a 13) cI 8040 cy), (oa (a 40) cI 6 T2), (oa (a 29) cI 42 P1), (oa (a 30) cI 42 Q1), (oa (a 33) cI 42 ox), (oa (a 34) cI 42 oy)]) [0, 1, 2, 3, 4, 5, 6, 7, 8, 9] (by decide) rfl
        rw [hQ9]
        exact W.zret (ty := .boolean) (v := 0) hx hb hr (rfl) (fun t ht hW => ⟨⟨congrArg (fun z => Outcome.returned (some (Value.int z))) (show (0 : Int32) = pI (∃ e9, e9 < eO (kd f).toInt on ∧ swp on ox oy (cF40 cx f) (cF40 cy f) px.toInt py.toInt e9) from (zp_f (fun ⟨j, hj, h⟩ => hno j (by omega) ((hsw j (by omega)).mpr h))).symm), T2, P1, Q1, by rw [ht]; exact hP9, hD9⟩, hS.F ht⟩) hS.2.2 dX11_isSwept_275
      · have c_1 : ((k : Nat) : Int) < ((eO (kd f).toInt on : Nat) : Int) := zc_nle (nI_toInt (by omega)) (nI_toInt (by omega)) c_1
        have hk9 : k < on := (by omega)
        have hnx := nxt_lt (n := on) (i := k) (by omega)
        refine lv_iload hx hb dX11_isSwept_18 (lv_at hl 0 rfl) ?_
        refine lv_iconst (v := 1) hx hb dX11_isSwept_20 (by decide) ?_
        refine lv_iadd hx hb dX11_isSwept_21 ?_
        refine zz_i (v := nI (k + 1)) (nI_add k 1) ?_
        refine lv_aload_n hx hb dX11_isSwept_22 rfl (lv_at hl 1 rfl) ?_
        refine va_get (D := (dC, dI)) (ci := 9) (v := .int (I0 35)) (C := RX11) (T := TX11) (N := 55) hx hb hts inX11 hown hK hP 0 rfl rfl 35 (by decide) (hts _ mw_1194) (fun _ h9 => h9) rfl dX11_isSwept_23 ?_
        refine zz_i (v := nI on) (hon) ?_
        have hj_2 : W p l e ((headSpec (.code yX11_isSwept cX11_isSwept 8 (some .boolean) :: ws0) ({ frames := 4, cells := 0, slots := 0, locals := 108 } : Room)).room) s m ([.ref k0, .int (nI f), .int px, .int py] : List Value).toArray below meth c H locs 0 0 Q9 (F0 m 37 ls [.int (nI (nxt on k))]) := by
          refine lv_istore (lv' := [(5, .int (nI (nxt on k))), (4, .int (nI k)), (0, .ref k0), (1, .int (nI f)), (2, .int px), (3, .int py)]) hx hb dX11_isSwept_37 hl (by decide) rfl (fun ls hl => ?_)
          refine lv_aload_n hx hb dX11_isSwept_39 rfl (lv_at hl 2 rfl) ?_
          refine va_get (D := (dC, dI)) (ci := 9) (v := .ref (a 33)) (C := RX11) (T := TX11) (N := 55) hx hb hts inX11 hown hK hP 0 rfl rfl 33 (by decide) (hts _ mw_1192) (fun _ h9 => h9) rfl dX11_isSwept_40 ?_
          refine lv_iload hx hb dX11_isSwept_43 (lv_at hl 1 rfl) ?_
          refine z_iald hx hb hK hP 8 0 rfl rfl (e := k) rfl (by omega) (by omega) dX11_isSwept_45 ?_
          refine lv_aload_n hx hb dX11_isSwept_46 rfl (lv_at hl 2 rfl) ?_
          refine va_get (D := (dC, dI)) (ci := 9) (v := .ref (a 29)) (C := RX11) (T := TX11) (N := 55) hx hb hts inX11 hown hK hP 0 rfl rfl 29 (by decide) (hts _ mw_1188) (fun _ h9 => h9) rfl dX11_isSwept_47 ?_
          refine lv_iload hx hb dX11_isSwept_50 (lv_at hl 1 rfl) ?_
          refine z_iald hx hb hK hP 6 0 rfl rfl (e := k) rfl (by omega) (by omega) dX11_isSwept_52 ?_
          have hj_3 : W p l e ((headSpec (.code yX11_isSwept cX11_isSwept 8 (some .boolean) :: ws0) ({ frames := 4, cells := 0, slots := 0, locals := 108 } : Room)).room) s m ([.ref k0, .int (nI f), .int px, .int py] : List Value).toArray below meth c H locs 0 0 Q9 (F0 m 78 ls [.int (pI (stay ox oy P1 Q1 k))]) := by
            refine lv_istore (lv' := [(6, .int (pI (stay ox oy P1 Q1 k))), (5, .int (nI (nxt on k))), (4, .int (nI k)), (0, .ref k0), (1, .int (nI f)), (2, .int px), (3, .int py)]) hx hb dX11_isSwept_78 hl (by decide) rfl (fun ls hl => ?_)
            refine lv_aload_n hx hb dX11_isSwept_80 rfl (lv_at hl 3 rfl) ?_
            refine va_get (D := (dC, dI)) (ci := 9) (v := .ref (a 33)) (C := RX11) (T := TX11) (N := 55) hx hb hts inX11 hown hK hP 0 rfl rfl 33 (by decide) (hts _ mw_1192) (fun _ h9 => h9) rfl dX11_isSwept_81 ?_
            refine lv_iload hx hb dX11_isSwept_84 (lv_at hl 1 rfl) ?_
            refine z_iald hx hb hK hP 8 0 rfl rfl (e := nxt on k) rfl (by omega) (by omega) dX11_isSwept_86 ?_
            refine lv_aload_n hx hb dX11_isSwept_87 rfl (lv_at hl 3 rfl) ?_
            refine va_get (D := (dC, dI)) (ci := 9) (v := .ref (a 29)) (C := RX11) (T := TX11) (N := 55) hx hb hts inX11 hown hK hP 0 rfl rfl 29 (by decide) (hts _ mw_1188) (fun _ h9 => h9) rfl dX11_isSwept_88 ?_
            refine lv_iload hx hb dX11_isSwept_91 (lv_at hl 1 rfl) ?_
            refine z_iald hx hb hK hP 6 0 rfl rfl (e := nxt on k) rfl (by omega) (by omega) dX11_isSwept_93 ?_
            have hj_4 : W p l e ((headSpec (.code yX11_isSwept cX11_isSwept 8 (some .boolean) :: ws0) ({ frames := 4, cells := 0, slots := 0, locals := 108 } : Room)).room) s m ([.ref k0, .int (nI f), .int px, .int py] : List Value).toArray below meth c H locs 0 0 Q9 (F0 m 119 ls [.int (pI (stay ox oy P1 Q1 (nxt on k)))]) := by
              refine lv_istore (lv' := [(7, .int (pI (stay ox oy P1 Q1 (nxt on k)))), (6, .int (pI (stay ox oy P1 Q1 k))), (5, .int (nI (nxt on k))), (4, .int (nI k)), (0, .ref k0), (1, .int (nI f)), (2, .int px), (3, .int py)]) hx hb dX11_isSwept_119 hl (by decide) rfl (fun ls hl => ?_)
              have hj_5 : (¬ spr on ox oy P1 Q1 k px.toInt py.toInt) → W p l e ((headSpec (.code yX11_isSwept cX11_isSwept 8 (some .boolean) :: ws0) ({ frames := 4, cells := 0, slots := 0, locals := 108 } : Room)).room) s m ([.ref k0, .int (nI f), .int px, .int py] : List Value).toArray below meth c H locs 0 0 Q9 (F0 m 188 ls []) := by
                intro hsp
                refine lv_aload_n hx hb dX11_isSwept_188 rfl (lv_at hl 4 rfl) ?_
                refine lv_aload_n hx hb dX11_isSwept_189 rfl (lv_at hl 4 rfl) ?_
                refine va_get (D := (dC, dI)) (ci := 9) (v := .ref (a 33)) (C := RX11) (T := TX11) (N := 55) hx hb hts inX11 hown hK hP 0 rfl rfl 33 (by decide) (hts _ mw_1192) (fun _ h9 => h9) rfl dX11_isSwept_190 ?_
                refine lv_iload hx hb dX11_isSwept_193 (lv_at hl 3 rfl) ?_
                refine z_iald hx hb hK hP 8 0 rfl rfl (e := k) rfl (by omega) (by omega) dX11_isSwept_195 ?_
                refine lv_aload_n hx hb dX11_isSwept_196 rfl (lv_at hl 4 rfl) ?_
                refine va_get (D := (dC, dI)) (ci := 9) (v := .ref (a 34)) (C := RX11) (T := TX11) (N := 55) hx hb hts inX11 hown hK hP 0 rfl rfl 34 (by decide) (hts _ mw_1193) (fun _ h9 => h9) rfl dX11_isSwept_197 ?_
                refine lv_iload hx hb dX11_isSwept_200 (lv_at hl 3 rfl) ?_
                refine z_iald hx hb hK hP 9 0 rfl rfl (e := k) rfl (by omega) (by omega) dX11_isSwept_202 ?_
                refine lv_aload_n hx hb dX11_isSwept_203 rfl (lv_at hl 4 rfl) ?_
                refine va_get (D := (dC, dI)) (ci := 9) (v := .ref (a 33)) (C := RX11) (T := TX11) (N := 55) hx hb hts inX11 hown hK hP 0 rfl rfl 33 (by decide) (hts _ mw_1192) (fun _ h9 => h9) rfl dX11_isSwept_204 ?_
                refine lv_iload hx hb dX11_isSwept_207 (lv_at hl 2 rfl) ?_
                refine z_iald hx hb hK hP 8 0 rfl rfl (e := nxt on k) rfl (by omega) (by omega) dX11_isSwept_209 ?_
                refine lv_aload_n hx hb dX11_isSwept_210 rfl (lv_at hl 4 rfl) ?_
                refine va_get (D := (dC, dI)) (ci := 9) (v := .ref (a 34)) (C := RX11) (T := TX11) (N := 55) hx hb hts inX11 hown hK hP 0 rfl rfl 34 (by decide) (hts _ mw_1193) (fun _ h9 => h9) rfl dX11_isSwept_211 ?_
                refine lv_iload hx hb dX11_isSwept_214 (lv_at hl 2 rfl) ?_
                refine z_iald hx hb hK hP 9 0 rfl rfl (e := nxt on k) rfl (by omega) (by omega) dX11_isSwept_216 ?_
                refine lv_iload hx hb dX11_isSwept_217 (lv_at hl 2 rfl) ?_
                refine lv_iload_n hx hb dX11_isSwept_219 rfl (lv_at hl 6 rfl) ?_
                refine lv_iload_n hx hb dX11_isSwept_220 rfl (lv_at hl 7 rfl) ?_
                have hPc := hP.sub (ws' := [(om k0 a (upd I0 31 (nI on)) J0), (oa (a 40) cI 6 T2), (oa (a 29) cI 42 P1), (oa (a 30) cI 42 Q1)]) [0, 5, 6, 7] rfl
                have hDc := hD.sub (ws' := [(om k0 a (upd I0 31 (nI on)) J0), (oa (a 40) cI 6 T2), (oa (a 29) cI 42 P1), (oa (a 30) cI 42 Q1)]) [0, 5, 6, 7] (by decide) rfl
                have hFc := va_free (wc := [(om k0 a (upd I0 31 (nI on)) J0), (oa (a 40) cI 6 T2), (oa (a 29) cI 42 P1), (oa (a 30) cI 42 Q1)]) hD hS hA [0, 5, 6, 7] rfl
                refine zcall (st1 := [.int (pI (wtM (ox k).toInt (oy k).toInt (ox (nxt on k)).toInt (oy (nxt on k)).toInt (P1 (nxt on k)).toInt (Q1 (nxt on k)).toInt px.toInt py.toInt))]) (va_runV (As := [.int (ox k), .int (oy k), .int (ox (nxt on k)), .int (oy (nxt on k)), .int (nI (nxt on k)), .int px, .int py]) (rest := []) ⟨hx, hb, hml, hown, hts⟩ (k_M_isThree l dC dI cI cZ cF H.size k0 a (upd I0 31 (nI on)) J0 (ox k) (oy k) (ox (nxt on k)) (oy (nxt on k)) (nxt on k) px py T2 P1 Q1 (by first | exact (hpo k hk9).1 | exact (hpo k hk9).2 | exact (hpo _ hnx).1 | exact (hpo _ hnx).2 | exact (hP1 k hk9).1 | exact (hP1 k hk9).2 | exact (hP1 _ hnx).1 | exact (hP1 _ hnx).2) (by first | exact (hpo k hk9).1 | exact (hpo k hk9).2 | exact (hpo _ hnx).1 | exact (hpo _ hnx).2 | exact (hP1 k hk9).1 | exact (hP1 k hk9).2 | exact (hP1 _ hnx).1 | exact (hP1 _ hnx).2) (by first | exact (hpo k hk9).1 | exact (hpo k hk9).2 | exact (hpo _ hnx).1 | exact (hpo _ hnx).2 | exact (hP1 k hk9).1 | exact (hP1 k hk9).2 | exact (hP1 _ hnx).1 | exact (hP1 _ hnx).2) (by first | exact (hpo k hk9).1 | exact (hpo k hk9).2 | exact (hpo _ hnx).1 | exact (hpo _ hnx).2 | exact (hP1 k hk9).1 | exact (hP1 k hk9).2 | exact (hP1 _ hnx).1 | exact (hP1 _ hnx).2) (by omega) (by first | exact (hpo k hk9).1 | exact (hpo k hk9).2 | exact (hpo _ hnx).1 | exact (hpo _ hnx).2 | exact (hP1 k hk9).1 | exact (hP1 k hk9).2 | exact (hP1 _ hnx).1 | exact (hP1 _ hnx).2) (by first | exact (hpo k hk9).1 | exact (hpo k hk9).2 | exact (hpo _ hnx).1 | exact (hpo _ hnx).2 | exact (hP1 k hk9).1 | exact (hP1 k hk9).2 | exact (hP1 _ hnx).1 | exact (hP1 _ hnx).2) (by assumption) (by assumption)) (cwV 7 hts (zz_gV mw_1502 mw_1504 mw_69 mw_110 mc_yX11_isThree) rfl rfl rfl (by decide +kernel) ⟨Nat.le_of_ble_eq_true rfl, Nat.le_of_ble_eq_true rfl⟩) (zPV2 (q0 := 0) (ci := 9) hPc hDc hK hXN rfl rfl) rfl rfl hl.1 rfl (lv_room (Nat.le_of_ble_eq_true rfl)) dX11_isSwept_221 ⟨Nat.le_of_ble_eq_true rfl, Nat.le_of_ble_eq_true rfl⟩) hS hFc hFc rfl (fun t H1 locs ht hB hk1 hS => ?_)
                obtain ⟨q_6, hP1, hD1⟩ := hB
                rw [ht] at hP1
                obtain ⟨hP, hD⟩ := va_join (wr := [(oa (a 1) cI 201 kd), (oa (a 11) cI 201 mn), (oa (a 12) cI 8040 cx), (oa (a 13) cI 8040 cy), (oa (a 33) cI 42 ox), (oa (a 34) cI 42 oy)]) (w1 := [(om k0 a (upd I0 31 (nI on)) J0), (oa (a 40) cI 6 q_6), (oa (a 29) cI 42 P1), (oa (a 30) cI 42 Q1)]) hP hD [0, 5, 6, 7] [1, 2, 3, 4, 8, 9] rfl rfl (by decide) (by decide) hk1 hFc hP1 hD1
                clear hk1 hPc hDc hFc hP1 hD1 ht
                generalize H1 = H at hP hS ⊢
                have hP := hP.sub (ws' := [(om k0 a (upd I0 31 (nI on)) J0), (oa (a 1) cI 201 kd), (oa (a 11) cI 201 mn), (oa (a 12) cI 8040 cx), (oa (a 13) cI 8040 cy), (oa (a 40) cI 6 q_6), (oa (a 29) cI 42 P1), (oa (a 30) cI 42 Q1), (oa (a 33) cI 42 ox), (oa (a 34) cI 42 oy)]) [6, 0, 1, 2, 3, 7, 8, 9, 4, 5] rfl
                have hD := hD.sub (ws' := [(om k0 a (upd I0 31 (nI on)) J0), (oa (a 1) cI 201 kd), (oa (a 11) cI 201 mn), (oa (a 12) cI 8040 cx), (oa (a 13) cI 8040 cy), (oa (a 40) cI 6 q_6), (oa (a 29) cI 42 P1), (oa (a 30) cI 42 Q1), (oa (a 33) cI 42 ox), (oa (a 34) cI 42 oy)]) [6, 0, 1, 2, 3, 7, 8, 9, 4, 5] (by decide) rfl
                have hP : va_P (dC, dI) classes [(om k0 a (upd I0 31 (nI on)) J0), (oa (a 1) cI 201 kd), (oa (a 11) cI 201 mn), (oa (a 12) cI 8040 cx), (oa (a 13) cI 8040 cy), (oa (a 40) cI 6 q_6), (oa (a 29) cI 42 P1), (oa (a 30) cI 42 Q1), (oa (a 33) cI 42 ox), (oa (a 34) cI 42 oy)] H := hP
                have hD : va_D A [(om k0 a (upd I0 31 (nI on)) J0), (oa (a 1) cI 201 kd), (oa (a 11) cI 201 mn), (oa (a 12) cI 8040 cx), (oa (a 13) cI 8040 cy), (oa (a 40) cI 6 q_6), (oa (a 29) cI 42 P1), (oa (a 30) cI 42 Q1), (oa (a 33) cI 42 ox), (oa (a 34) cI 42 oy)] := hD
                refine lv_if_ne (tgt := 266) hx hb dX11_isSwept_224 (by decide) (fun c_7 => ?_) (fun c_7 => ?_)
                · have c_7 : wtM (ox k).toInt (oy k).toInt (ox (nxt on k)).toInt (oy (nxt on k)).toInt (P1 (nxt on k)).toInt (Q1 (nxt on k)).toInt px.toInt py.toInt := zp_1 c_7
                  refine lv_iconst (v := 1) hx hb dX11_isSwept_266 (by decide) ?_
                  have hP9 := hP.sub (ws' := [(om k0 a (upd I0 31 (nI on)) J0), (oa (a 1) cI 201 kd), (oa (a 11) cI 201 mn), (oa (a 12) cI 8040 cx), (oa (a 13) cI 8040 cy), (oa (a 40) cI 6 q_6), (oa (a 29) cI 42 P1), (oa (a 30) cI 42 Q1), (oa (a 33) cI 42 ox), (oa (a 34) cI 42 oy)]) [0, 1, 2, 3, 4, 5, 6, 7, 8, 9] rfl
                  have hD9 := hD.sub (ws' := [(om k0 a (upd I0 31 (nI on)) J0), (oa (a 1) cI 201 kd), (oa (a 11) cI 201 mn), (oa (a 12) cI 8040 cx), (oa (a 13) cI 8040 cy), (oa (a 40) cI 6 q_6), (oa (a 29) cI 42 P1), (oa (a 30) cI 42 Q1), (oa (a 33) cI 42 ox), (oa (a 34) cI 42 oy)]) [0, 1, 2, 3, 4, 5, 6, 7, 8, 9] (by decide) rfl
                  rw [hQ9]
                  exact W.zret (ty := .boolean) (v := 1) hx hb hr (rfl) (fun t ht hW => ⟨⟨congrArg (fun z => Outcome.returned (some (Value.int z))) (show (1 : Int32) = pI (∃ e9, e9 < eO (kd f).toInt on ∧ swp on ox oy (cF40 cx f) (cF40 cy f) px.toInt py.toInt e9) from (zp_t (⟨k, by omega, (hsw k hk9).mp ⟨hsp, by first | exact Or.inl (by assumption) | exact Or.inr (by assumption)⟩⟩)).symm), q_6, P1, Q1, by rw [ht]; exact hP9, hD9⟩, hS.F ht⟩) hS.2.2 dX11_isSwept_267
                · have c_7 : ¬ (wtM (ox k).toInt (oy k).toInt (ox (nxt on k)).toInt (oy (nxt on k)).toInt (P1 (nxt on k)).toInt (Q1 (nxt on k)).toInt px.toInt py.toInt) := zp_0 c_7
                  refine lv_aload_n hx hb dX11_isSwept_227 rfl (lv_at hl 4 rfl) ?_
                  refine lv_aload_n hx hb dX11_isSwept_228 rfl (lv_at hl 4 rfl) ?_
                  refine va_get (D := (dC, dI)) (ci := 9) (v := .ref (a 33)) (C := RX11) (T := TX11) (N := 55) hx hb hts inX11 hown hK hP 0 rfl rfl 33 (by decide) (hts _ mw_1192) (fun _ h9 => h9) rfl dX11_isSwept_229 ?_
                  refine lv_iload hx hb dX11_isSwept_232 (lv_at hl 3 rfl) ?_
                  refine z_iald hx hb hK hP 8 0 rfl rfl (e := k) rfl (by omega) (by omega) dX11_isSwept_234 ?_
                  refine lv_aload_n hx hb dX11_isSwept_235 rfl (lv_at hl 4 rfl) ?_
                  refine va_get (D := (dC, dI)) (ci := 9) (v := .ref (a 34)) (C := RX11) (T := TX11) (N := 55) hx hb hts inX11 hown hK hP 0 rfl rfl 34 (by decide) (hts _ mw_1193) (fun _ h9 => h9) rfl dX11_isSwept_236 ?_
                  refine lv_iload hx hb dX11_isSwept_239 (lv_at hl 3 rfl) ?_
                  refine z_iald hx hb hK hP 9 0 rfl rfl (e := k) rfl (by omega) (by omega) dX11_isSwept_241 ?_
                  refine lv_aload_n hx hb dX11_isSwept_242 rfl (lv_at hl 4 rfl) ?_
                  refine va_get (D := (dC, dI)) (ci := 9) (v := .ref (a 29)) (C := RX11) (T := TX11) (N := 55) hx hb hts inX11 hown hK hP 0 rfl rfl 29 (by decide) (hts _ mw_1188) (fun _ h9 => h9) rfl dX11_isSwept_243 ?_
                  refine lv_iload hx hb dX11_isSwept_246 (lv_at hl 3 rfl) ?_
                  refine z_iald hx hb hK hP 6 0 rfl rfl (e := k) rfl (by omega) (by omega) dX11_isSwept_248 ?_
                  refine lv_aload_n hx hb dX11_isSwept_249 rfl (lv_at hl 4 rfl) ?_
                  refine va_get (D := (dC, dI)) (ci := 9) (v := .ref (a 30)) (C := RX11) (T := TX11) (N := 55) hx hb hts inX11 hown hK hP 0 rfl rfl 30 (by decide) (hts _ mw_1189) (fun _ h9 => h9) rfl dX11_isSwept_250 ?_
                  refine lv_iload hx hb dX11_isSwept_253 (lv_at hl 3 rfl) ?_
                  refine z_iald hx hb hK hP 7 0 rfl rfl (e := k) rfl (by omega) (by omega) dX11_isSwept_255 ?_
                  refine lv_iload hx hb dX11_isSwept_256 (lv_at hl 2 rfl) ?_
                  refine lv_iload_n hx hb dX11_isSwept_258 rfl (lv_at hl 6 rfl) ?_
                  refine lv_iload_n hx hb dX11_isSwept_259 rfl (lv_at hl 7 rfl) ?_
                  have hPc := hP.sub (ws' := [(om k0 a (upd I0 31 (nI on)) J0), (oa (a 40) cI 6 q_6), (oa (a 29) cI 42 P1), (oa (a 30) cI 42 Q1)]) [0, 5, 6, 7] rfl
                  have hDc := hD.sub (ws' := [(om k0 a (upd I0 31 (nI on)) J0), (oa (a 40) cI 6 q_6), (oa (a 29) cI 42 P1), (oa (a 30) cI 42 Q1)]) [0, 5, 6, 7] (by decide) rfl
                  have hFc := va_free (wc := [(om k0 a (upd I0 31 (nI on)) J0), (oa (a 40) cI 6 q_6), (oa (a 29) cI 42 P1), (oa (a 30) cI 42 Q1)]) hD hS hA [0, 5, 6, 7] rfl
                  refine zcall (st1 := [.int (pI (wtM (ox k).toInt (oy k).toInt (P1 k).toInt (Q1 k).toInt (P1 (nxt on k)).toInt (Q1 (nxt on k)).toInt px.toInt py.toInt))]) (va_runV (As := [.int (ox k), .int (oy k), .int (P1 k), .int (Q1 k), .int (nI (nxt on k)), .int px, .int py]) (rest := []) ⟨hx, hb, hml, hown, hts⟩ (k_M_isThree l dC dI cI cZ cF H.size k0 a (upd I0 31 (nI on)) J0 (ox k) (oy k) (P1 k) (Q1 k) (nxt on k) px py q_6 P1 Q1 (by first | exact (hpo k hk9).1 | exact (hpo k hk9).2 | exact (hpo _ hnx).1 | exact (hpo _ hnx).2 | exact (hP1 k hk9).1 | exact (hP1 k hk9).2 | exact (hP1 _ hnx).1 | exact (hP1 _ hnx).2) (by first | exact (hpo k hk9).1 | exact (hpo k hk9).2 | exact (hpo _ hnx).1 | exact (hpo _ hnx).2 | exact (hP1 k hk9).1 | exact (hP1 k hk9).2 | exact (hP1 _ hnx).1 | exact (hP1 _ hnx).2) (by first | exact (hpo k hk9).1 | exact (hpo k hk9).2 | exact (hpo _ hnx).1 | exact (hpo _ hnx).2 | exact (hP1 k hk9).1 | exact (hP1 k hk9).2 | exact (hP1 _ hnx).1 | exact (hP1 _ hnx).2) (by first | exact (hpo k hk9).1 | exact (hpo k hk9).2 | exact (hpo _ hnx).1 | exact (hpo _ hnx).2 | exact (hP1 k hk9).1 | exact (hP1 k hk9).2 | exact (hP1 _ hnx).1 | exact (hP1 _ hnx).2) (by omega) (by first | exact (hpo k hk9).1 | exact (hpo k hk9).2 | exact (hpo _ hnx).1 | exact (hpo _ hnx).2 | exact (hP1 k hk9).1 | exact (hP1 k hk9).2 | exact (hP1 _ hnx).1 | exact (hP1 _ hnx).2) (by first | exact (hpo k hk9).1 | exact (hpo k hk9).2 | exact (hpo _ hnx).1 | exact (hpo _ hnx).2 | exact (hP1 k hk9).1 | exact (hP1 k hk9).2 | exact (hP1 _ hnx).1 | exact (hP1 _ hnx).2) (by assumption) (by assumption)) (cwV 7 hts (zz_gV mw_1502 mw_1504 mw_69 mw_110 mc_yX11_isThree) rfl rfl rfl (by decide +kernel) ⟨Nat.le_of_ble_eq_true rfl, Nat.le_of_ble_eq_true rfl⟩) (zPV2 (q0 := 0) (ci := 9) hPc hDc hK hXN rfl rfl) rfl rfl hl.1 rfl (lv_room (Nat.le_of_ble_eq_true rfl)) dX11_isSwept_260 ⟨Nat.le_of_ble_eq_true rfl, Nat.le_of_ble_eq_true rfl⟩) hS hFc hFc rfl (fun t H1 locs ht hB hk1 hS => ?_)
                  obtain ⟨q_8, hP1, hD1⟩ := hB
                  rw [ht] at hP1
                  obtain ⟨hP, hD⟩ := va_join (wr := [(oa (a 1) cI 201 kd), (oa (a 11) cI 201 mn), (oa (a 12) cI 8040 cx), (oa (a 13) cI 8040 cy), (oa (a 33) cI 42 ox), (oa (a 34) cI 42 oy)]) (w1 := [(om k0 a (upd I0 31 (nI on)) J0), (oa (a 40) cI 6 q_8), (oa (a 29) cI 42 P1), (oa (a 30) cI 42 Q1)]) hP hD [0, 5, 6, 7] [1, 2, 3, 4, 8, 9] rfl rfl (by decide) (by decide) hk1 hFc hP1 hD1
                  clear hk1 hPc hDc hFc hP1 hD1 ht
                  generalize H1 = H at hP hS ⊢
                  have hP := hP.sub (ws' := [(om k0 a (upd I0 31 (nI on)) J0), (oa (a 1) cI 201 kd), (oa (a 11) cI 201 mn), (oa (a 12) cI 8040 cx), (oa (a 13) cI 8040 cy), (oa (a 40) cI 6 q_8), (oa (a 29) cI 42 P1), (oa (a 30) cI 42 Q1), (oa (a 33) cI 42 ox), (oa (a 34) cI 42 oy)]) [6, 0, 1, 2, 3, 7, 8, 9, 4, 5] rfl
                  have hD := hD.sub (ws' := [(om k0 a (upd I0 31 (nI on)) J0), (oa (a 1) cI 201 kd), (oa (a 11) cI 201 mn), (oa (a 12) cI 8040 cx), (oa (a 13) cI 8040 cy), (oa (a 40) cI 6 q_8), (oa (a 29) cI 42 P1), (oa (a 30) cI 42 Q1), (oa (a 33) cI 42 ox), (oa (a 34) cI 42 oy)]) [6, 0, 1, 2, 3, 7, 8, 9, 4, 5] (by decide) rfl
                  have hP : va_P (dC, dI) classes [(om k0 a (upd I0 31 (nI on)) J0), (oa (a 1) cI 201 kd), (oa (a 11) cI 201 mn), (oa (a 12) cI 8040 cx), (oa (a 13) cI 8040 cy), (oa (a 40) cI 6 q_8), (oa (a 29) cI 42 P1), (oa (a 30) cI 42 Q1), (oa (a 33) cI 42 ox), (oa (a 34) cI 42 oy)] H := hP
                  have hD : va_D A [(om k0 a (upd I0 31 (nI on)) J0), (oa (a 1) cI 201 kd), (oa (a 11) cI 201 mn), (oa (a 12) cI 8040 cx), (oa (a 13) cI 8040 cy), (oa (a 40) cI 6 q_8), (oa (a 29) cI 42 P1), (oa (a 30) cI 42 Q1), (oa (a 33) cI 42 ox), (oa (a 34) cI 42 oy)] := hD
                  refine lv_if_eq (tgt := 268) hx hb dX11_isSwept_263 (by decide) (fun c_9 => ?_) (fun c_9 => ?_)
                  · have c_9 : ¬ (wtM (ox k).toInt (oy k).toInt (P1 k).toInt (Q1 k).toInt (P1 (nxt on k)).toInt (Q1 (nxt on k)).toInt px.toInt py.toInt) := zp_0 c_9
                    refine lv_iinc (v := nI (k + 1)) (lv' := [(4, .int (nI (k + 1))), (7, .int (pI (stay ox oy P1 Q1 (nxt on k)))), (6, .int (pI (stay ox oy P1 Q1 k))), (5, .int (nI (nxt on k))), (0, .ref k0), (1, .int (nI f)), (2, .int px), (3, .int py)]) hx hb dX11_isSwept_268 hl (k := 3) rfl (nI_add k 1) (by decide) rfl (fun ls hl => ?_)
                    refine lv_goto (tgt := 8) hx hb dX11_isSwept_271 (by decide) ?_
                    exact ih_8 (k + 1) q_8 H locs ls (by omega) (by omega) (by intro j hj; rcases Nat.lt_or_ge j k with h | h; exact hno j h; rw [show j = k by omega]; unfold swp; intro h9; first | exact h9.2.elim (by assumption) (by assumption) | exact h9.1 (by unfold spr; unfold stay at *; omega)) hP hD hS (lv_sub hl [0, 4, 5, 6, 7] rfl)
                  · have c_9 : wtM (ox k).toInt (oy k).toInt (P1 k).toInt (Q1 k).toInt (P1 (nxt on k)).toInt (Q1 (nxt on k)).toInt px.toInt py.toInt := zp_1 c_9
                    refine lv_iconst (v := 1) hx hb dX11_isSwept_266 (by decide) ?_
                    have hP9 := hP.sub (ws' := [(om k0 a (upd I0 31 (nI on)) J0), (oa (a 1) cI 201 kd), (oa (a 11) cI 201 mn), (oa (a 12) cI 8040 cx), (oa (a 13) cI 8040 cy), (oa (a 40) cI 6 q_8), (oa (a 29) cI 42 P1), (oa (a 30) cI 42 Q1), (oa (a 33) cI 42 ox), (oa (a 34) cI 42 oy)]) [0, 1, 2, 3, 4, 5, 6, 7, 8, 9] rfl
                    have hD9 := hD.sub (ws' := [(om k0 a (upd I0 31 (nI on)) J0), (oa (a 1) cI 201 kd), (oa (a 11) cI 201 mn), (oa (a 12) cI 8040 cx), (oa (a 13) cI 8040 cy), (oa (a 40) cI 6 q_8), (oa (a 29) cI 42 P1), (oa (a 30) cI 42 Q1), (oa (a 33) cI 42 ox), (oa (a 34) cI 42 oy)]) [0, 1, 2, 3, 4, 5, 6, 7, 8, 9] (by decide) rfl
                    rw [hQ9]
                    exact W.zret (ty := .boolean) (v := 1) hx hb hr (rfl) (fun t ht hW => ⟨⟨congrArg (fun z => Outcome.returned (some (Value.int z))) (show (1 : Int32) = pI (∃ e9, e9 < eO (kd f).toInt on ∧ swp on ox oy (cF40 cx f) (cF40 cy f) px.toInt py.toInt e9) from (zp_t (⟨k, by omega, (hsw k hk9).mp ⟨hsp, by first | exact Or.inl (by assumption) | exact Or.inr (by assumption)⟩⟩)).symm), q_8, P1, Q1, by rw [ht]; exact hP9, hD9⟩, hS.F ht⟩) hS.2.2 dX11_isSwept_267
              refine lv_iload hx hb dX11_isSwept_121 (lv_at hl 1 rfl) ?_
              refine lv_if_eq (tgt := 131) hx hb dX11_isSwept_123 (by decide) (fun c_10 => ?_) (fun c_10 => ?_)
              · have c_10 : ¬ (stay ox oy P1 Q1 k) := zp_0 c_10
                refine lv_iload hx hb dX11_isSwept_131 (lv_at hl 1 rfl) ?_
                refine lv_if_eq (tgt := 158) hx hb dX11_isSwept_133 (by decide) (fun c_11 => ?_) (fun c_11 => ?_)
                · have c_11 : ¬ (stay ox oy P1 Q1 k) := zp_0 c_11
                  refine lv_iload hx hb dX11_isSwept_158 (lv_at hl 0 rfl) ?_
                  refine lv_if_eq (tgt := 188) hx hb dX11_isSwept_160 (by decide) (fun c_12 => ?_) (fun c_12 => ?_)
                  · have c_12 : ¬ (stay ox oy P1 Q1 (nxt on k)) := zp_0 c_12
                    exact hj_5 (by unfold spr; (try unfold stay at *); omega)
                  · have c_12 : stay ox oy P1 Q1 (nxt on k) := zp_1 c_12
                    refine lv_iload_n hx hb dX11_isSwept_163 rfl (lv_at hl 6 rfl) ?_
                    refine lv_aload_n hx hb dX11_isSwept_164 rfl (lv_at hl 4 rfl) ?_
                    refine va_get (D := (dC, dI)) (ci := 9) (v := .ref (a 33)) (C := RX11) (T := TX11) (N := 55) hx hb hts inX11 hown hK hP 0 rfl rfl 33 (by decide) (hts _ mw_1192) (fun _ h9 => h9) rfl dX11_isSwept_165 ?_
                    refine lv_iload hx hb dX11_isSwept_168 (lv_at hl 2 rfl) ?_
                    refine z_iald hx hb hK hP 8 0 rfl rfl (e := nxt on k) rfl (by omega) (by omega) dX11_isSwept_170 ?_
                    refine lv_icmp_ne (tgt := 188) hx hb dX11_isSwept_171 (by decide) (fun c_13 => ?_) (fun c_13 => ?_)
                    · have c_13 : ¬ px.toInt = (ox (nxt on k)).toInt := zc_ne rfl rfl c_13
                      exact hj_5 (by unfold spr; (try unfold stay at *); omega)
                    · have c_13 : px.toInt = (ox (nxt on k)).toInt := zc_eq rfl rfl c_13
                      refine lv_iload_n hx hb dX11_isSwept_174 rfl (lv_at hl 7 rfl) ?_
                      refine lv_aload_n hx hb dX11_isSwept_175 rfl (lv_at hl 4 rfl) ?_
                      refine va_get (D := (dC, dI)) (ci := 9) (v := .ref (a 34)) (C := RX11) (T := TX11) (N := 55) hx hb hts inX11 hown hK hP 0 rfl rfl 34 (by decide) (hts _ mw_1193) (fun _ h9 => h9) rfl dX11_isSwept_176 ?_
                      refine lv_iload hx hb dX11_isSwept_179 (lv_at hl 2 rfl) ?_
                      refine z_iald hx hb hK hP 9 0 rfl rfl (e := nxt on k) rfl (by omega) (by omega) dX11_isSwept_181 ?_
                      refine lv_icmp_ne (tgt := 188) hx hb dX11_isSwept_182 (by decide) (fun c_14 => ?_) (fun c_14 => ?_)
                      · have c_14 : ¬ py.toInt = (oy (nxt on k)).toInt := zc_ne rfl rfl c_14
                        exact hj_5 (by unfold spr; (try unfold stay at *); omega)
                      · have c_14 : py.toInt = (oy (nxt on k)).toInt := zc_eq rfl rfl c_14
                        refine lv_goto (tgt := 268) hx hb dX11_isSwept_185 (by decide) ?_
                        refine lv_iinc (v := nI (k + 1)) (lv' := [(4, .int (nI (k + 1))), (7, .int (pI (stay ox oy P1 Q1 (nxt on k)))), (6, .int (pI (stay ox oy P1 Q1 k))), (5, .int (nI (nxt on k))), (0, .ref k0), (1, .int (nI f)), (2, .int px), (3, .int py)]) hx hb dX11_isSwept_268 hl (k := 3) rfl (nI_add k 1) (by decide) rfl (fun ls hl => ?_)
                        refine lv_goto (tgt := 8) hx hb dX11_isSwept_271 (by decide) ?_
                        exact ih_8 (k + 1) T2 H locs ls (by omega) (by omega) (by intro j hj; rcases Nat.lt_or_ge j k with h | h; exact hno j h; rw [show j = k by omega]; unfold swp; intro h9; first | exact h9.2.elim (by assumption) (by assumption) | exact h9.1 (by unfold spr; unfold stay at *; omega)) hP hD hS (lv_sub hl [0, 4, 5, 6, 7] rfl)
                · have c_11 : stay ox oy P1 Q1 k := zp_1 c_11
                  refine lv_iload_n hx hb dX11_isSwept_136 rfl (lv_at hl 6 rfl) ?_
                  refine lv_aload_n hx hb dX11_isSwept_137 rfl (lv_at hl 4 rfl) ?_
                  refine va_get (D := (dC, dI)) (ci := 9) (v := .ref (a 33)) (C := RX11) (T := TX11) (N := 55) hx hb hts inX11 hown hK hP 0 rfl rfl 33 (by decide) (hts _ mw_1192) (fun _ h9 => h9) rfl dX11_isSwept_138 ?_
                  refine lv_iload hx hb dX11_isSwept_141 (lv_at hl 3 rfl) ?_
                  refine z_iald hx hb hK hP 8 0 rfl rfl (e := k) rfl (by omega) (by omega) dX11_isSwept_143 ?_
                  refine lv_icmp_ne (tgt := 158) hx hb dX11_isSwept_144 (by decide) (fun c_15 => ?_) (fun c_15 => ?_)
                  · have c_15 : ¬ px.toInt = (ox k).toInt := zc_ne rfl rfl c_15
                    refine lv_iload hx hb dX11_isSwept_158 (lv_at hl 0 rfl) ?_
                    refine lv_if_eq (tgt := 188) hx hb dX11_isSwept_160 (by decide) (fun c_16 => ?_) (fun c_16 => ?_)
                    · have c_16 : ¬ (stay ox oy P1 Q1 (nxt on k)) := zp_0 c_16
                      exact hj_5 (by unfold spr; (try unfold stay at *); omega)
                    · have c_16 : stay ox oy P1 Q1 (nxt on k) := zp_1 c_16
                      refine lv_iload_n hx hb dX11_isSwept_163 rfl (lv_at hl 6 rfl) ?_
                      refine lv_aload_n hx hb dX11_isSwept_164 rfl (lv_at hl 4 rfl) ?_
                      refine va_get (D := (dC, dI)) (ci := 9) (v := .ref (a 33)) (C := RX11) (T := TX11) (N := 55) hx hb hts inX11 hown hK hP 0 rfl rfl 33 (by decide) (hts _ mw_1192) (fun _ h9 => h9) rfl dX11_isSwept_165 ?_
                      refine lv_iload hx hb dX11_isSwept_168 (lv_at hl 2 rfl) ?_
                      refine z_iald hx hb hK hP 8 0 rfl rfl (e := nxt on k) rfl (by omega) (by omega) dX11_isSwept_170 ?_
                      refine lv_icmp_ne (tgt := 188) hx hb dX11_isSwept_171 (by decide) (fun c_17 => ?_) (fun c_17 => ?_)
                      · have c_17 : ¬ px.toInt = (ox (nxt on k)).toInt := zc_ne rfl rfl c_17
                        exact hj_5 (by unfold spr; (try unfold stay at *); omega)
                      · have c_17 : px.toInt = (ox (nxt on k)).toInt := zc_eq rfl rfl c_17
                        refine lv_iload_n hx hb dX11_isSwept_174 rfl (lv_at hl 7 rfl) ?_
                        refine lv_aload_n hx hb dX11_isSwept_175 rfl (lv_at hl 4 rfl) ?_
                        refine va_get (D := (dC, dI)) (ci := 9) (v := .ref (a 34)) (C := RX11) (T := TX11) (N := 55) hx hb hts inX11 hown hK hP 0 rfl rfl 34 (by decide) (hts _ mw_1193) (fun _ h9 => h9) rfl dX11_isSwept_176 ?_
                        refine lv_iload hx hb dX11_isSwept_179 (lv_at hl 2 rfl) ?_
                        refine z_iald hx hb hK hP 9 0 rfl rfl (e := nxt on k) rfl (by omega) (by omega) dX11_isSwept_181 ?_
                        refine lv_icmp_ne (tgt := 188) hx hb dX11_isSwept_182 (by decide) (fun c_18 => ?_) (fun c_18 => ?_)
                        · have c_18 : ¬ py.toInt = (oy (nxt on k)).toInt := zc_ne rfl rfl c_18
                          exact hj_5 (by unfold spr; (try unfold stay at *); omega)
                        · have c_18 : py.toInt = (oy (nxt on k)).toInt := zc_eq rfl rfl c_18
                          refine lv_goto (tgt := 268) hx hb dX11_isSwept_185 (by decide) ?_
                          refine lv_iinc (v := nI (k + 1)) (lv' := [(4, .int (nI (k + 1))), (7, .int (pI (stay ox oy P1 Q1 (nxt on k)))), (6, .int (pI (stay ox oy P1 Q1 k))), (5, .int (nI (nxt on k))), (0, .ref k0), (1, .int (nI f)), (2, .int px), (3, .int py)]) hx hb dX11_isSwept_268 hl (k := 3) rfl (nI_add k 1) (by decide) rfl (fun ls hl => ?_)
                          refine lv_goto (tgt := 8) hx hb dX11_isSwept_271 (by decide) ?_
                          exact ih_8 (k + 1) T2 H locs ls (by omega) (by omega) (by intro j hj; rcases Nat.lt_or_ge j k with h | h; exact hno j h; rw [show j = k by omega]; unfold swp; intro h9; first | exact h9.2.elim (by assumption) (by assumption) | exact h9.1 (by unfold spr; unfold stay at *; omega)) hP hD hS (lv_sub hl [0, 4, 5, 6, 7] rfl)
                  · have c_15 : px.toInt = (ox k).toInt := zc_eq rfl rfl c_15
                    refine lv_iload_n hx hb dX11_isSwept_147 rfl (lv_at hl 7 rfl) ?_
                    refine lv_aload_n hx hb dX11_isSwept_148 rfl (lv_at hl 4 rfl) ?_
                    refine va_get (D := (dC, dI)) (ci := 9) (v := .ref (a 34)) (C := RX11) (T := TX11) (N := 55) hx hb hts inX11 hown hK hP 0 rfl rfl 34 (by decide) (hts _ mw_1193) (fun _ h9 => h9) rfl dX11_isSwept_149 ?_
                    refine lv_iload hx hb dX11_isSwept_152 (lv_at hl 3 rfl) ?_
                    refine z_iald hx hb hK hP 9 0 rfl rfl (e := k) rfl (by omega) (by omega) dX11_isSwept_154 ?_
                    refine lv_icmp_eq (tgt := 268) hx hb dX11_isSwept_155 (by decide) (fun c_19 => ?_) (fun c_19 => ?_)
                    · have c_19 : py.toInt = (oy k).toInt := zc_eq rfl rfl c_19
                      refine lv_iinc (v := nI (k + 1)) (lv' := [(4, .int (nI (k + 1))), (7, .int (pI (stay ox oy P1 Q1 (nxt on k)))), (6, .int (pI (stay ox oy P1 Q1 k))), (5, .int (nI (nxt on k))), (0, .ref k0), (1, .int (nI f)), (2, .int px), (3, .int py)]) hx hb dX11_isSwept_268 hl (k := 3) rfl (nI_add k 1) (by decide) rfl (fun ls hl => ?_)
                      refine lv_goto (tgt := 8) hx hb dX11_isSwept_271 (by decide) ?_
                      exact ih_8 (k + 1) T2 H locs ls (by omega) (by omega) (by intro j hj; rcases Nat.lt_or_ge j k with h | h; exact hno j h; rw [show j = k by omega]; unfold swp; intro h9; first | exact h9.2.elim (by assumption) (by assumption) | exact h9.1 (by unfold spr; unfold stay at *; omega)) hP hD hS (lv_sub hl [0, 4, 5, 6, 7] rfl)
                    · have c_19 : ¬ py.toInt = (oy k).toInt := zc_ne rfl rfl c_19
                      refine lv_iload hx hb dX11_isSwept_158 (lv_at hl 0 rfl) ?_
                      refine lv_if_eq (tgt := 188) hx hb dX11_isSwept_160 (by decide) (fun c_20 => ?_) (fun c_20 => ?_)
                      · have c_20 : ¬ (stay ox oy P1 Q1 (nxt on k)) := zp_0 c_20
                        exact hj_5 (by unfold spr; (try unfold stay at *); omega)
                      · have c_20 : stay ox oy P1 Q1 (nxt on k) := zp_1 c_20
                        refine lv_iload_n hx hb dX11_isSwept_163 rfl (lv_at hl 6 rfl) ?_
                        refine lv_aload_n hx hb dX11_isSwept_164 rfl (lv_at hl 4 rfl) ?_
                        refine va_get (D := (dC, dI)) (ci := 9) (v := .ref (a 33)) (C := RX11) (T := TX11) (N := 55) hx hb hts inX11 hown hK hP 0 rfl rfl 33 (by decide) (hts _ mw_1192) (fun _ h9 => h9) rfl dX11_isSwept_165 ?_
                        refine lv_iload hx hb dX11_isSwept_168 (lv_at hl 2 rfl) ?_
                        refine z_iald hx hb hK hP 8 0 rfl rfl (e := nxt on k) rfl (by omega) (by omega) dX11_isSwept_170 ?_
                        refine lv_icmp_ne (tgt := 188) hx hb dX11_isSwept_171 (by decide) (fun c_21 => ?_) (fun c_21 => ?_)
                        · have c_21 : ¬ px.toInt = (ox (nxt on k)).toInt := zc_ne rfl rfl c_21
                          exact hj_5 (by unfold spr; (try unfold stay at *); omega)
                        · have c_21 : px.toInt = (ox (nxt on k)).toInt := zc_eq rfl rfl c_21
                          refine lv_iload_n hx hb dX11_isSwept_174 rfl (lv_at hl 7 rfl) ?_
                          refine lv_aload_n hx hb dX11_isSwept_175 rfl (lv_at hl 4 rfl) ?_
                          refine va_get (D := (dC, dI)) (ci := 9) (v := .ref (a 34)) (C := RX11) (T := TX11) (N := 55) hx hb hts inX11 hown hK hP 0 rfl rfl 34 (by decide) (hts _ mw_1193) (fun _ h9 => h9) rfl dX11_isSwept_176 ?_
                          refine lv_iload hx hb dX11_isSwept_179 (lv_at hl 2 rfl) ?_
                          refine z_iald hx hb hK hP 9 0 rfl rfl (e := nxt on k) rfl (by omega) (by omega) dX11_isSwept_181 ?_
                          refine lv_icmp_ne (tgt := 188) hx hb dX11_isSwept_182 (by decide) (fun c_22 => ?_) (fun c_22 => ?_)
                          · have c_22 : ¬ py.toInt = (oy (nxt on k)).toInt := zc_ne rfl rfl c_22
                            exact hj_5 (by unfold spr; (try unfold stay at *); omega)
                          · have c_22 : py.toInt = (oy (nxt on k)).toInt := zc_eq rfl rfl c_22
                            refine lv_goto (tgt := 268) hx hb dX11_isSwept_185 (by decide) ?_
                            refine lv_iinc (v := nI (k + 1)) (lv' := [(4, .int (nI (k + 1))), (7, .int (pI (stay ox oy P1 Q1 (nxt on k)))), (6, .int (pI (stay ox oy P1 Q1 k))), (5, .int (nI (nxt on k))), (0, .ref k0), (1, .int (nI f)), (2, .int px), (3, .int py)]) hx hb dX11_isSwept_268 hl (k := 3) rfl (nI_add k 1) (by decide) rfl (fun ls hl => ?_)
                            refine lv_goto (tgt := 8) hx hb dX11_isSwept_271 (by decide) ?_
                            exact ih_8 (k + 1) T2 H locs ls (by omega) (by omega) (by intro j hj; rcases Nat.lt_or_ge j k with h | h; exact hno j h; rw [show j = k by omega]; unfold swp; intro h9; first | exact h9.2.elim (by assumption) (by assumption) | exact h9.1 (by unfold spr; unfold stay at *; omega)) hP hD hS (lv_sub hl [0, 4, 5, 6, 7] rfl)
              · have c_10 : stay ox oy P1 Q1 k := zp_1 c_10
                refine lv_iload hx hb dX11_isSwept_126 (lv_at hl 0 rfl) ?_
                refine lv_if_ne (tgt := 268) hx hb dX11_isSwept_128 (by decide) (fun c_23 => ?_) (fun c_23 => ?_)
                · have c_23 : stay ox oy P1 Q1 (nxt on k) := zp_1 c_23
                  refine lv_iinc (v := nI (k + 1)) (lv' := [(4, .int (nI (k + 1))), (7, .int (pI (stay ox oy P1 Q1 (nxt on k)))), (6, .int (pI (stay ox oy P1 Q1 k))), (5, .int (nI (nxt on k))), (0, .ref k0), (1, .int (nI f)), (2, .int px), (3, .int py)]) hx hb dX11_isSwept_268 hl (k := 3) rfl (nI_add k 1) (by decide) rfl (fun ls hl => ?_)
                  refine lv_goto (tgt := 8) hx hb dX11_isSwept_271 (by decide) ?_
                  exact ih_8 (k + 1) T2 H locs ls (by omega) (by omega) (by intro j hj; rcases Nat.lt_or_ge j k with h | h; exact hno j h; rw [show j = k by omega]; unfold swp; intro h9; first | exact h9.2.elim (by assumption) (by assumption) | exact h9.1 (by unfold spr; unfold stay at *; omega)) hP hD hS (lv_sub hl [0, 4, 5, 6, 7] rfl)
                · have c_23 : ¬ (stay ox oy P1 Q1 (nxt on k)) := zp_0 c_23
                  refine lv_iload hx hb dX11_isSwept_131 (lv_at hl 1 rfl) ?_
                  refine lv_if_eq (tgt := 158) hx hb dX11_isSwept_133 (by decide) (fun c_24 => ?_) (fun c_24 => ?_)
                  · have c_24 : ¬ (stay ox oy P1 Q1 k) := zp_0 c_24
                    refine lv_iload hx hb dX11_isSwept_158 (lv_at hl 0 rfl) ?_
                    refine lv_if_eq (tgt := 188) hx hb dX11_isSwept_160 (by decide) (fun c_25 => ?_) (fun c_25 => ?_)
                    · have c_25 : ¬ (stay ox oy P1 Q1 (nxt on k)) := zp_0 c_25
                      exact hj_5 (by unfold spr; (try unfold stay at *); omega)
                    · have c_25 : stay ox oy P1 Q1 (nxt on k) := zp_1 c_25
                      refine lv_iload_n hx hb dX11_isSwept_163 rfl (lv_at hl 6 rfl) ?_
                      refine lv_aload_n hx hb dX11_isSwept_164 rfl (lv_at hl 4 rfl) ?_
                      refine va_get (D := (dC, dI)) (ci := 9) (v := .ref (a 33)) (C := RX11) (T := TX11) (N := 55) hx hb hts inX11 hown hK hP 0 rfl rfl 33 (by decide) (hts _ mw_1192) (fun _ h9 => h9) rfl dX11_isSwept_165 ?_
                      refine lv_iload hx hb dX11_isSwept_168 (lv_at hl 2 rfl) ?_
                      refine z_iald hx hb hK hP 8 0 rfl rfl (e := nxt on k) rfl (by omega) (by omega) dX11_isSwept_170 ?_
                      refine lv_icmp_ne (tgt := 188) hx hb dX11_isSwept_171 (by decide) (fun c_26 => ?_) (fun c_26 => ?_)
                      · have c_26 : ¬ px.toInt = (ox (nxt on k)).toInt := zc_ne rfl rfl c_26
                        exact hj_5 (by unfold spr; (try unfold stay at *); omega)
                      · have c_26 : px.toInt = (ox (nxt on k)).toInt := zc_eq rfl rfl c_26
                        refine lv_iload_n hx hb dX11_isSwept_174 rfl (lv_at hl 7 rfl) ?_
                        refine lv_aload_n hx hb dX11_isSwept_175 rfl (lv_at hl 4 rfl) ?_
                        refine va_get (D := (dC, dI)) (ci := 9) (v := .ref (a 34)) (C := RX11) (T := TX11) (N := 55) hx hb hts inX11 hown hK hP 0 rfl rfl 34 (by decide) (hts _ mw_1193) (fun _ h9 => h9) rfl dX11_isSwept_176 ?_
                        refine lv_iload hx hb dX11_isSwept_179 (lv_at hl 2 rfl) ?_
                        refine z_iald hx hb hK hP 9 0 rfl rfl (e := nxt on k) rfl (by omega) (by omega) dX11_isSwept_181 ?_
                        refine lv_icmp_ne (tgt := 188) hx hb dX11_isSwept_182 (by decide) (fun c_27 => ?_) (fun c_27 => ?_)
                        · have c_27 : ¬ py.toInt = (oy (nxt on k)).toInt := zc_ne rfl rfl c_27
                          exact hj_5 (by unfold spr; (try unfold stay at *); omega)
                        · have c_27 : py.toInt = (oy (nxt on k)).toInt := zc_eq rfl rfl c_27
                          refine lv_goto (tgt := 268) hx hb dX11_isSwept_185 (by decide) ?_
                          refine lv_iinc (v := nI (k + 1)) (lv' := [(4, .int (nI (k + 1))), (7, .int (pI (stay ox oy P1 Q1 (nxt on k)))), (6, .int (pI (stay ox oy P1 Q1 k))), (5, .int (nI (nxt on k))), (0, .ref k0), (1, .int (nI f)), (2, .int px), (3, .int py)]) hx hb dX11_isSwept_268 hl (k := 3) rfl (nI_add k 1) (by decide) rfl (fun ls hl => ?_)
                          refine lv_goto (tgt := 8) hx hb dX11_isSwept_271 (by decide) ?_
                          exact ih_8 (k + 1) T2 H locs ls (by omega) (by omega) (by intro j hj; rcases Nat.lt_or_ge j k with h | h; exact hno j h; rw [show j = k by omega]; unfold swp; intro h9; first | exact h9.2.elim (by assumption) (by assumption) | exact h9.1 (by unfold spr; unfold stay at *; omega)) hP hD hS (lv_sub hl [0, 4, 5, 6, 7] rfl)
                  · have c_24 : stay ox oy P1 Q1 k := zp_1 c_24
                    refine lv_iload_n hx hb dX11_isSwept_136 rfl (lv_at hl 6 rfl) ?_
                    refine lv_aload_n hx hb dX11_isSwept_137 rfl (lv_at hl 4 rfl) ?_
                    refine va_get (D := (dC, dI)) (ci := 9) (v := .ref (a 33)) (C := RX11) (T := TX11) (N := 55) hx hb hts inX11 hown hK hP 0 rfl rfl 33 (by decide) (hts _ mw_1192) (fun _ h9 => h9) rfl dX11_isSwept_138 ?_
                    refine lv_iload hx hb dX11_isSwept_141 (lv_at hl 3 rfl) ?_
                    refine z_iald hx hb hK hP 8 0 rfl rfl (e := k) rfl (by omega) (by omega) dX11_isSwept_143 ?_
                    refine lv_icmp_ne (tgt := 158) hx hb dX11_isSwept_144 (by decide) (fun c_28 => ?_) (fun c_28 => ?_)
                    · have c_28 : ¬ px.toInt = (ox k).toInt := zc_ne rfl rfl c_28
                      refine lv_iload hx hb dX11_isSwept_158 (lv_at hl 0 rfl) ?_
                      refine lv_if_eq (tgt := 188) hx hb dX11_isSwept_160 (by decide) (fun c_29 => ?_) (fun c_29 => ?_)
                      · have c_29 : ¬ (stay ox oy P1 Q1 (nxt on k)) := zp_0 c_29
                        exact hj_5 (by unfold spr; (try unfold stay at *); omega)
                      · have c_29 : stay ox oy P1 Q1 (nxt on k) := zp_1 c_29
                        refine lv_iload_n hx hb dX11_isSwept_163 rfl (lv_at hl 6 rfl) ?_
                        refine lv_aload_n hx hb dX11_isSwept_164 rfl (lv_at hl 4 rfl) ?_
                        refine va_get (D := (dC, dI)) (ci := 9) (v := .ref (a 33)) (C := RX11) (T := TX11) (N := 55) hx hb hts inX11 hown hK hP 0 rfl rfl 33 (by decide) (hts _ mw_1192) (fun _ h9 => h9) rfl dX11_isSwept_165 ?_
                        refine lv_iload hx hb dX11_isSwept_168 (lv_at hl 2 rfl) ?_
                        refine z_iald hx hb hK hP 8 0 rfl rfl (e := nxt on k) rfl (by omega) (by omega) dX11_isSwept_170 ?_
                        refine lv_icmp_ne (tgt := 188) hx hb dX11_isSwept_171 (by decide) (fun c_30 => ?_) (fun c_30 => ?_)
                        · have c_30 : ¬ px.toInt = (ox (nxt on k)).toInt := zc_ne rfl rfl c_30
                          exact hj_5 (by unfold spr; (try unfold stay at *); omega)
                        · have c_30 : px.toInt = (ox (nxt on k)).toInt := zc_eq rfl rfl c_30
                          refine lv_iload_n hx hb dX11_isSwept_174 rfl (lv_at hl 7 rfl) ?_
                          refine lv_aload_n hx hb dX11_isSwept_175 rfl (lv_at hl 4 rfl) ?_
                          refine va_get (D := (dC, dI)) (ci := 9) (v := .ref (a 34)) (C := RX11) (T := TX11) (N := 55) hx hb hts inX11 hown hK hP 0 rfl rfl 34 (by decide) (hts _ mw_1193) (fun _ h9 => h9) rfl dX11_isSwept_176 ?_
                          refine lv_iload hx hb dX11_isSwept_179 (lv_at hl 2 rfl) ?_
                          refine z_iald hx hb hK hP 9 0 rfl rfl (e := nxt on k) rfl (by omega) (by omega) dX11_isSwept_181 ?_
                          refine lv_icmp_ne (tgt := 188) hx hb dX11_isSwept_182 (by decide) (fun c_31 => ?_) (fun c_31 => ?_)
                          · have c_31 : ¬ py.toInt = (oy (nxt on k)).toInt := zc_ne rfl rfl c_31
                            exact hj_5 (by unfold spr; (try unfold stay at *); omega)
                          · have c_31 : py.toInt = (oy (nxt on k)).toInt := zc_eq rfl rfl c_31
                            refine lv_goto (tgt := 268) hx hb dX11_isSwept_185 (by decide) ?_
                            refine lv_iinc (v := nI (k + 1)) (lv' := [(4, .int (nI (k + 1))), (7, .int (pI (stay ox oy P1 Q1 (nxt on k)))), (6, .int (pI (stay ox oy P1 Q1 k))), (5, .int (nI (nxt on k))), (0, .ref k0), (1, .int (nI f)), (2, .int px), (3, .int py)]) hx hb dX11_isSwept_268 hl (k := 3) rfl (nI_add k 1) (by decide) rfl (fun ls hl => ?_)
                            refine lv_goto (tgt := 8) hx hb dX11_isSwept_271 (by decide) ?_
                            exact ih_8 (k + 1) T2 H locs ls (by omega) (by omega) (by intro j hj; rcases Nat.lt_or_ge j k with h | h; exact hno j h; rw [show j = k by omega]; unfold swp; intro h9; first | exact h9.2.elim (by assumption) (by assumption) | exact h9.1 (by unfold spr; unfold stay at *; omega)) hP hD hS (lv_sub hl [0, 4, 5, 6, 7] rfl)
                    · have c_28 : px.toInt = (ox k).toInt := zc_eq rfl rfl c_28
                      refine lv_iload_n hx hb dX11_isSwept_147 rfl (lv_at hl 7 rfl) ?_
                      refine lv_aload_n hx hb dX11_isSwept_148 rfl (lv_at hl 4 rfl) ?_
                      refine va_get (D := (dC, dI)) (ci := 9) (v := .ref (a 34)) (C := RX11) (T := TX11) (N := 55) hx hb hts inX11 hown hK hP 0 rfl rfl 34 (by decide) (hts _ mw_1193) (fun _ h9 => h9) rfl dX11_isSwept_149 ?_
                      refine lv_iload hx hb dX11_isSwept_152 (lv_at hl 3 rfl) ?_
                      refine z_iald hx hb hK hP 9 0 rfl rfl (e := k) rfl (by omega) (by omega) dX11_isSwept_154 ?_
                      refine lv_icmp_eq (tgt := 268) hx hb dX11_isSwept_155 (by decide) (fun c_32 => ?_) (fun c_32 => ?_)
                      · have c_32 : py.toInt = (oy k).toInt := zc_eq rfl rfl c_32
                        refine lv_iinc (v := nI (k + 1)) (lv' := [(4, .int (nI (k + 1))), (7, .int (pI (stay ox oy P1 Q1 (nxt on k)))), (6, .int (pI (stay ox oy P1 Q1 k))), (5, .int (nI (nxt on k))), (0, .ref k0), (1, .int (nI f)), (2, .int px), (3, .int py)]) hx hb dX11_isSwept_268 hl (k := 3) rfl (nI_add k 1) (by decide) rfl (fun ls hl => ?_)
                        refine lv_goto (tgt := 8) hx hb dX11_isSwept_271 (by decide) ?_
                        exact ih_8 (k + 1) T2 H locs ls (by omega) (by omega) (by intro j hj; rcases Nat.lt_or_ge j k with h | h; exact hno j h; rw [show j = k by omega]; unfold swp; intro h9; first | exact h9.2.elim (by assumption) (by assumption) | exact h9.1 (by unfold spr; unfold stay at *; omega)) hP hD hS (lv_sub hl [0, 4, 5, 6, 7] rfl)
                      · have c_32 : ¬ py.toInt = (oy k).toInt := zc_ne rfl rfl c_32
                        refine lv_iload hx hb dX11_isSwept_158 (lv_at hl 0 rfl) ?_
                        refine lv_if_eq (tgt := 188) hx hb dX11_isSwept_160 (by decide) (fun c_33 => ?_) (fun c_33 => ?_)
                        · have c_33 : ¬ (stay ox oy P1 Q1 (nxt on k)) := zp_0 c_33
                          exact hj_5 (by unfold spr; (try unfold stay at *); omega)
                        · have c_33 : stay ox oy P1 Q1 (nxt on k) := zp_1 c_33
                          refine lv_iload_n hx hb dX11_isSwept_163 rfl (lv_at hl 6 rfl) ?_
                          refine lv_aload_n hx hb dX11_isSwept_164 rfl (lv_at hl 4 rfl) ?_
                          refine va_get (D := (dC, dI)) (ci := 9) (v := .ref (a 33)) (C := RX11) (T := TX11) (N := 55) hx hb hts inX11 hown hK hP 0 rfl rfl 33 (by decide) (hts _ mw_1192) (fun _ h9 => h9) rfl dX11_isSwept_165 ?_
                          refine lv_iload hx hb dX11_isSwept_168 (lv_at hl 2 rfl) ?_
                          refine z_iald hx hb hK hP 8 0 rfl rfl (e := nxt on k) rfl (by omega) (by omega) dX11_isSwept_170 ?_
                          refine lv_icmp_ne (tgt := 188) hx hb dX11_isSwept_171 (by decide) (fun c_34 => ?_) (fun c_34 => ?_)
                          · have c_34 : ¬ px.toInt = (ox (nxt on k)).toInt := zc_ne rfl rfl c_34
                            exact hj_5 (by unfold spr; (try unfold stay at *); omega)
                          · have c_34 : px.toInt = (ox (nxt on k)).toInt := zc_eq rfl rfl c_34
                            refine lv_iload_n hx hb dX11_isSwept_174 rfl (lv_at hl 7 rfl) ?_
                            refine lv_aload_n hx hb dX11_isSwept_175 rfl (lv_at hl 4 rfl) ?_
                            refine va_get (D := (dC, dI)) (ci := 9) (v := .ref (a 34)) (C := RX11) (T := TX11) (N := 55) hx hb hts inX11 hown hK hP 0 rfl rfl 34 (by decide) (hts _ mw_1193) (fun _ h9 => h9) rfl dX11_isSwept_176 ?_
                            refine lv_iload hx hb dX11_isSwept_179 (lv_at hl 2 rfl) ?_
                            refine z_iald hx hb hK hP 9 0 rfl rfl (e := nxt on k) rfl (by omega) (by omega) dX11_isSwept_181 ?_
                            refine lv_icmp_ne (tgt := 188) hx hb dX11_isSwept_182 (by decide) (fun c_35 => ?_) (fun c_35 => ?_)
                            · have c_35 : ¬ py.toInt = (oy (nxt on k)).toInt := zc_ne rfl rfl c_35
                              exact hj_5 (by unfold spr; (try unfold stay at *); omega)
                            · have c_35 : py.toInt = (oy (nxt on k)).toInt := zc_eq rfl rfl c_35
                              refine lv_goto (tgt := 268) hx hb dX11_isSwept_185 (by decide) ?_
                              refine lv_iinc (v := nI (k + 1)) (lv' := [(4, .int (nI (k + 1))), (7, .int (pI (stay ox oy P1 Q1 (nxt on k)))), (6, .int (pI (stay ox oy P1 Q1 k))), (5, .int (nI (nxt on k))), (0, .ref k0), (1, .int (nI f)), (2, .int px), (3, .int py)]) hx hb dX11_isSwept_268 hl (k := 3) rfl (nI_add k 1) (by decide) rfl (fun ls hl => ?_)
                              refine lv_goto (tgt := 8) hx hb dX11_isSwept_271 (by decide) ?_
                              exact ih_8 (k + 1) T2 H locs ls (by omega) (by omega) (by intro j hj; rcases Nat.lt_or_ge j k with h | h; exact hno j h; rw [show j = k by omega]; unfold swp; intro h9; first | exact h9.2.elim (by assumption) (by assumption) | exact h9.1 (by unfold spr; unfold stay at *; omega)) hP hD hS (lv_sub hl [0, 4, 5, 6, 7] rfl)
            refine lv_icmp_ne (tgt := 118) hx hb dX11_isSwept_94 (by decide) (fun c_36 => ?_) (fun c_36 => ?_)
            · have c_36 : ¬ (ox (nxt on k)).toInt = (P1 (nxt on k)).toInt := zc_ne rfl rfl c_36
              refine lv_iconst (v := 0) hx hb dX11_isSwept_118 (by decide) ?_
              refine zz_i (v := pI (stay ox oy P1 Q1 (nxt on k))) (by first | exact (zp_t (by unfold stay; omega)).symm | exact (zp_f (by unfold stay; omega)).symm) ?_
              exact hj_4 
            · have c_36 : (ox (nxt on k)).toInt = (P1 (nxt on k)).toInt := zc_eq rfl rfl c_36
              refine lv_aload_n hx hb dX11_isSwept_97 rfl (lv_at hl 3 rfl) ?_
              refine va_get (D := (dC, dI)) (ci := 9) (v := .ref (a 34)) (C := RX11) (T := TX11) (N := 55) hx hb hts inX11 hown hK hP 0 rfl rfl 34 (by decide) (hts _ mw_1193) (fun _ h9 => h9) rfl dX11_isSwept_98 ?_
              refine lv_iload hx hb dX11_isSwept_101 (lv_at hl 1 rfl) ?_
              refine z_iald hx hb hK hP 9 0 rfl rfl (e := nxt on k) rfl (by omega) (by omega) dX11_isSwept_103 ?_
              refine lv_aload_n hx hb dX11_isSwept_104 rfl (lv_at hl 3 rfl) ?_
              refine va_get (D := (dC, dI)) (ci := 9) (v := .ref (a 30)) (C := RX11) (T := TX11) (N := 55) hx hb hts inX11 hown hK hP 0 rfl rfl 30 (by decide) (hts _ mw_1189) (fun _ h9 => h9) rfl dX11_isSwept_105 ?_
              refine lv_iload hx hb dX11_isSwept_108 (lv_at hl 1 rfl) ?_
              refine z_iald hx hb hK hP 7 0 rfl rfl (e := nxt on k) rfl (by omega) (by omega) dX11_isSwept_110 ?_
              refine lv_icmp_ne (tgt := 118) hx hb dX11_isSwept_111 (by decide) (fun c_37 => ?_) (fun c_37 => ?_)
              · have c_37 : ¬ (oy (nxt on k)).toInt = (Q1 (nxt on k)).toInt := zc_ne rfl rfl c_37
                refine lv_iconst (v := 0) hx hb dX11_isSwept_118 (by decide) ?_
                refine zz_i (v := pI (stay ox oy P1 Q1 (nxt on k))) (by first | exact (zp_t (by unfold stay; omega)).symm | exact (zp_f (by unfold stay; omega)).symm) ?_
                exact hj_4 
              · have c_37 : (oy (nxt on k)).toInt = (Q1 (nxt on k)).toInt := zc_eq rfl rfl c_37
                refine lv_iconst (v := 1) hx hb dX11_isSwept_114 (by decide) ?_
                refine lv_goto (tgt := 119) hx hb dX11_isSwept_115 (by decide) ?_
                refine zz_i (v := pI (stay ox oy P1 Q1 (nxt on k))) (by first | exact (zp_t (by unfold stay; omega)).symm | exact (zp_f (by unfold stay; omega)).symm) ?_
                exact hj_4 
          refine lv_icmp_ne (tgt := 77) hx hb dX11_isSwept_53 (by decide) (fun c_38 => ?_) (fun c_38 => ?_)
          · have c_38 : ¬ (ox k).toInt = (P1 k).toInt := zc_ne rfl rfl c_38
            refine lv_iconst (v := 0) hx hb dX11_isSwept_77 (by decide) ?_
            refine zz_i (v := pI (stay ox oy P1 Q1 k)) (by first | exact (zp_t (by unfold stay; omega)).symm | exact (zp_f (by unfold stay; omega)).symm) ?_
            exact hj_3 
          · have c_38 : (ox k).toInt = (P1 k).toInt := zc_eq rfl rfl c_38
            refine lv_aload_n hx hb dX11_isSwept_56 rfl (lv_at hl 2 rfl) ?_
            refine va_get (D := (dC, dI)) (ci := 9) (v := .ref (a 34)) (C := RX11) (T := TX11) (N := 55) hx hb hts inX11 hown hK hP 0 rfl rfl 34 (by decide) (hts _ mw_1193) (fun _ h9 => h9) rfl dX11_isSwept_57 ?_
            refine lv_iload hx hb dX11_isSwept_60 (lv_at hl 1 rfl) ?_
            refine z_iald hx hb hK hP 9 0 rfl rfl (e := k) rfl (by omega) (by omega) dX11_isSwept_62 ?_
            refine lv_aload_n hx hb dX11_isSwept_63 rfl (lv_at hl 2 rfl) ?_
            refine va_get (D := (dC, dI)) (ci := 9) (v := .ref (a 30)) (C := RX11) (T := TX11) (N := 55) hx hb hts inX11 hown hK hP 0 rfl rfl 30 (by decide) (hts _ mw_1189) (fun _ h9 => h9) rfl dX11_isSwept_64 ?_
            refine lv_iload hx hb dX11_isSwept_67 (lv_at hl 1 rfl) ?_
            refine z_iald hx hb hK hP 7 0 rfl rfl (e := k) rfl (by omega) (by omega) dX11_isSwept_69 ?_
            refine lv_icmp_ne (tgt := 77) hx hb dX11_isSwept_70 (by decide) (fun c_39 => ?_) (fun c_39 => ?_)
            · have c_39 : ¬ (oy k).toInt = (Q1 k).toInt := zc_ne rfl rfl c_39
              refine lv_iconst (v := 0) hx hb dX11_isSwept_77 (by decide) ?_
              refine zz_i (v := pI (stay ox oy P1 Q1 k)) (by first | exact (zp_t (by unfold stay; omega)).symm | exact (zp_f (by unfold stay; omega)).symm) ?_
              exact hj_3 
            · have c_39 : (oy k).toInt = (Q1 k).toInt := zc_eq rfl rfl c_39
              refine lv_iconst (v := 1) hx hb dX11_isSwept_73 (by decide) ?_
              refine lv_goto (tgt := 78) hx hb dX11_isSwept_74 (by decide) ?_
              refine zz_i (v := pI (stay ox oy P1 Q1 k)) (by first | exact (zp_t (by unfold stay; omega)).symm | exact (zp_f (by unfold stay; omega)).symm) ?_
              exact hj_3 
        refine lv_icmp_ne (tgt := 33) hx hb dX11_isSwept_26 (by decide) (fun c_40 => ?_) (fun c_40 => ?_)
        · have c_40 : ¬ ((k + 1 : Nat) : Int) = ((on : Nat) : Int) := zc_ne (nI_toInt (by omega)) (nI_toInt (by omega)) c_40
          refine lv_iload hx hb dX11_isSwept_33 (lv_at hl 0 rfl) ?_
          refine lv_iconst (v := 1) hx hb dX11_isSwept_35 (by decide) ?_
          refine lv_iadd hx hb dX11_isSwept_36 ?_
          refine zz_i (v := nI (k + 1)) (nI_add k 1) ?_
          refine zz_i (v := nI (nxt on k)) (by first | (rw [nxt, if_pos (by omega)]) | (rw [nxt, if_neg (by omega)]; first | done | rfl)) ?_
          exact hj_2 
        · have c_40 : ((k + 1 : Nat) : Int) = ((on : Nat) : Int) := zc_eq (nI_toInt (by omega)) (nI_toInt (by omega)) c_40
          refine lv_iconst (v := 0) hx hb dX11_isSwept_29 (by decide) ?_
          refine lv_goto (tgt := 37) hx hb dX11_isSwept_30 (by decide) ?_
          refine zz_i (v := nI (nxt on k)) (by first | (rw [nxt, if_pos (by omega)]) | (rw [nxt, if_neg (by omega)]; first | done | rfl)) ?_
          exact hj_2 
  exact hl_8 _ 0 T0 H locs ls (Nat.lt_succ_self _) (by omega) (by intro j hj; omega) hP hD hS (lv_sub hl [0, 1, 2, 3, 4] rfl)
