set_option maxHeartbeats 4000000 in
set_option maxRecDepth 100000 in
theorem k_Fr_offerPart (l : Launch) (dC : Nat → ClassId) (dI : Nat → Nat → Nat) (cI cZ cF : ClassId) (sz : Nat) (fr : Nat) (o9 : Int) (d9 : Int) (r : Nat) (rx : Nat) (ry : Nat) (n : Nat) (cap : Nat) (X : Nat → Int32) (Y : Nat → Int32) (rg : Int32) (i : Nat) (px : Int32) (py : Int32) (ho : 0 ≤ o9 ∧ o9 ≤ 4000000000000) (hd : 0 ≤ d9 ∧ d9 ≤ 2000000) (hn : n ≤ cap) (hcap : cap ≤ 1000) (hp : pls n X Y) (hpx : pl px) (hpy : pl py) (hi : i < n) : Met l yX3_offerPart (.code yX3_offerPart cX3_offerPart 14 none :: ws0) ({ frames := 1, cells := 0, slots := 0, locals := 24 } : Room) (va_Pc [.ref fr, .int px, .int py, .ref r, .int (nI i)] (zPre (dC, dI) classes (zTy cI cZ cF) [(oc2 fr (jI o9) (jI d9)), (oc6 r (.ref rx) (.ref ry) (nI n) rg), (oa rx cI cap X), (oa ry cI cap Y)] sz zXN)) (zQ none (fun t => ∃ (zu : Int), ∃ (zd : Int), (ndP o9 d9 (nrU (X i).toInt (Y i).toInt (X (nxt n i)).toInt (Y (nxt n i)).toInt px.toInt py.toInt) (nrD (X i).toInt (Y i).toInt (X (nxt n i)).toInt (Y (nxt n i)).toInt px.toInt py.toInt) zu zd) ∧ va_P (dC, dI) classes [(oc2 fr (jI zu) (jI zd)), (oc6 r (.ref rx) (.ref ry) (nI n) rg), (oa rx cI cap X), (oa ry cI cap Y)] t.heap ∧ va_D (va_A [(oc2 fr (jI o9) (jI d9)), (oc6 r (.ref rx) (.ref ry) (nI n) rg), (oa rx cI cap X), (oa ry cI cap Y)] sz) [(oc2 fr (jI zu) (jI zd)), (oc6 r (.ref rx) (.ref ry) (nI n) rg), (oa rx cI cap X), (oa ry cI cap Y)]) (va_A [(oc2 fr (jI o9) (jI d9)), (oc6 r (.ref rx) (.ref ry) (nI n) rg), (oa rx cI cap X), (oa ry cI cap Y)] sz)) 0 0 (va_A [(oc2 fr (jI o9) (jI d9)), (oc6 r (.ref rx) (.ref ry) (nI n) rg), (oa rx cI cap X), (oa ry cI cap Y)] sz) := by
  refine Met.ofW (cc := cX3_offerPart) (maxL := 14) (ret := none) (by decide) rfl ?_
  intro p e s m args below meth c s₁ B hml hv
  obtain ⟨rfl, hsz, hP, hK, hD0, hXN⟩ := hv
  have hx := B.exec
  have hb := B.bytes
  have hr := B.returns
  have hts0 := atoms_spec (ws := .code yX3_offerPart cX3_offerPart 14 none :: ws0) B.pre
  have hts : ∀ w9 ∈ ws0, w9.before ([.ref fr, .int px, .int py, .ref r, .int (nI i)] : List Value).toArray s = true := fun w9 h => hts0 w9 (List.mem_cons_of_mem _ h)
  have hown : s.vm.findClass "ScaleShop$Fraction" = some m.cls := findClass_of_methodNamed B.named
  have hlocks := B.notSynchronized
  subst hsz
  have hD := hD0.self (sz := s.heap.size)
  clear hD0
  generalize hAe : va_A [(oc2 fr (jI o9) (jI d9)), (oc6 r (.ref rx) (.ref ry) (nI n) rg), (oa rx cI cap X), (oa ry cI cap Y)] s.heap.size = A at hD ⊢
  have hA : ∀ q : Nat, s.heap.size ≤ q → A q := fun q h => by rw [← hAe]; exact Or.inr h
  clear hAe
  have hS : va_S A s.heap s.heap [] := va_S.rf
  have hP : va_P (dC, dI) classes [(oc2 fr (jI o9) (jI d9)), (oc6 r (.ref rx) (.ref ry) (nI n) rg), (oa rx cI cap X), (oa ry cI cap Y)] s.heap := hP
  obtain ⟨Q9, hQ9⟩ : ∃ Q9 : State → Prop, Q9 = MQ below (zQ none (fun t => ∃ (zu : Int), ∃ (zd : Int), (ndP o9 d9 (nrU (X i).toInt (Y i).toInt (X (nxt n i)).toInt (Y (nxt n i)).toInt px.toInt py.toInt) (nrD (X i).toInt (Y i).toInt (X (nxt n i)).toInt (Y (nxt n i)).toInt px.toInt py.toInt) zu zd) ∧ va_P (dC, dI) classes [(oc2 fr (jI zu) (jI zd)), (oc6 r (.ref rx) (.ref ry) (nI n) rg), (oa rx cI cap X), (oa ry cI cap Y)] t.heap ∧ va_D A [(oc2 fr (jI zu) (jI zd)), (oc6 r (.ref rx) (.ref ry) (nI n) rg), (oa rx cI cap X), (oa ry cI cap Y)]) A) ([.ref fr, .int px, .int py, .ref r, .int (nI i)] : List Value).toArray s 0 0 A := ⟨_, rfl⟩
  rw [← hQ9]
  have hl := lv_entry ([.ref fr, .int px, .int py, .ref r, .int (nI i)]) (n := 14) (Nat.le_of_ble_eq_true rfl)
  rw [lg_entry_eq]
  generalize (lg_sl ([.ref fr, .int px, .int py, .ref r, .int (nI i)]) ++ List.replicate (14 - (lg_sl ([.ref fr, .int px, .int py, .ref r, .int (nI i)])).length) Slot.unset).toArray = ls at hl ⊢
  have hl : lv_has ls 14 [(0, .ref fr), (1, .int px), (2, .int py), (3, .ref r), (4, .int (nI i))] := hl
  have hnx := nxt_lt (n := n) (i := i) (by omega)
  have hLb := nrL_b (hp i hi).1 (hp i hi).2 (hp _ hnx).1 (hp _ hnx).2
  have hTb := nrT_b (hp i hi).1 (hp i hi).2 (hp _ hnx).1 (hp _ hnx).2 hpx hpy
  have hUb := nrU_b (hp i hi).1 (hp i hi).2 (hp _ hnx).1 (hp _ hnx).2 hpx hpy
  refine lv_aload_n hx hb dX3_offerPart_0 rfl (lv_at hl 3 rfl) ?_
  refine lv_iload hx hb dX3_offerPart_1 (lv_at hl 4 rfl) ?_
  have hPc := hP.sub (ws' := [(oc6 r (.ref rx) (.ref ry) (nI n) rg), (oa rx cI cap X), (oa ry cI cap Y)]) [1, 2, 3] rfl
  have hDc := hD.sub (ws' := [(oc6 r (.ref rx) (.ref ry) (nI n) rg), (oa rx cI cap X), (oa ry cI cap Y)]) [1, 2, 3] (by decide) rfl
  have hFc := va_free (wc := [(oc6 r (.ref rx) (.ref ry) (nI n) rg), (oa rx cI cap X), (oa ry cI cap Y)]) hD hS hA [1, 2, 3] rfl
  refine zcall (st1 := [.int (nI (nxt n i))]) (va_runV (As := [.int (nI i)]) (rest := []) ⟨hx, hb, hml, hown, hts⟩ (k_Row_next l dC dI cI cZ cF s.heap.size r rx ry n cap X Y rg i (by omega) (by omega) (by omega)) (cwV 1 hts (zz_gV mw_947 mw_537 mw_538 mw_102 mc_yX7_next) rfl rfl rfl (by decide +kernel) ⟨Nat.le_of_ble_eq_true rfl, Nat.le_of_ble_eq_true rfl⟩) (zPV2 (q0 := 0) (ci := 6) hPc hDc hK hXN rfl rfl) rfl rfl hl.1 rfl (lv_room (Nat.le_of_ble_eq_true rfl)) dX3_offerPart_3 ⟨Nat.le_of_ble_eq_true rfl, Nat.le_of_ble_eq_true rfl⟩) hS hFc hFc rfl (fun t H1 locs ht hB hk1 hS => ?_)
  obtain ⟨hP1, hD1⟩ := hB
  rw [ht] at hP1
  obtain ⟨hP, hD⟩ := va_join (wr := [(oc2 fr (jI o9) (jI d9))]) (w1 := [(oc6 r (.ref rx) (.ref ry) (nI n) rg), (oa rx cI cap X), (oa ry cI cap Y)]) hP hD [1, 2, 3] [0] rfl rfl (by decide) (by decide) hk1 hFc hP1 hD1
  clear hk1 hPc hDc hFc hP1 hD1 ht
  generalize H1 = H at hP hS ⊢
  have hP : va_P (dC, dI) classes [(oc2 fr (jI o9) (jI d9)), (oc6 r (.ref rx) (.ref ry) (nI n) rg), (oa rx cI cap X), (oa ry cI cap Y)] H := hP
  have hD : va_D A [(oc2 fr (jI o9) (jI d9)), (oc6 r (.ref rx) (.ref ry) (nI n) rg), (oa rx cI cap X), (oa ry cI cap Y)] := hD
  refine lv_istore (lv' := [(5, .int (nI (nxt n i))), (0, .ref fr), (1, .int px), (2, .int py), (3, .ref r), (4, .int (nI i))]) hx hb dX3_offerPart_6 hl (by decide) rfl (fun ls hl => ?_)
  refine lv_aload_n hx hb dX3_offerPart_8 rfl (lv_at hl 4 rfl) ?_
  refine va_get (D := (dC, dI)) (ci := 6) (v := .ref rx) (C := RX7) (T := TX7) (N := 4) hx hb hts inX7 hown hK hP 1 rfl rfl 0 (by decide) (hts _ mw_166) (fun _ h9 => h9) rfl dX3_offerPart_9 ?_
  refine lv_iload hx hb dX3_offerPart_12 (lv_at hl 0 rfl) ?_
  refine z_iald hx hb hK hP 2 0 rfl rfl (e := nxt n i) rfl (by omega) (by omega) dX3_offerPart_14 ?_
  refine lv_aload_n hx hb dX3_offerPart_15 rfl (lv_at hl 4 rfl) ?_
  refine va_get (D := (dC, dI)) (ci := 6) (v := .ref rx) (C := RX7) (T := TX7) (N := 4) hx hb hts inX7 hown hK hP 1 rfl rfl 0 (by decide) (hts _ mw_166) (fun _ h9 => h9) rfl dX3_offerPart_16 ?_
  refine lv_iload hx hb dX3_offerPart_19 (lv_at hl 5 rfl) ?_
  refine z_iald hx hb hK hP 2 0 rfl rfl (e := i) rfl (by omega) (by omega) dX3_offerPart_21 ?_
  refine lv_isub hx hb dX3_offerPart_22 ?_
  refine lv_istore (lv' := [(6, .int ((X (nxt n i)) - (X i))), (5, .int (nI (nxt n i))), (0, .ref fr), (1, .int px), (2, .int py), (3, .ref r), (4, .int (nI i))]) hx hb dX3_offerPart_23 hl (by decide) rfl (fun ls hl => ?_)
  refine lv_aload_n hx hb dX3_offerPart_25 rfl (lv_at hl 5 rfl) ?_
  refine va_get (D := (dC, dI)) (ci := 6) (v := .ref ry) (C := RX7) (T := TX7) (N := 4) hx hb hts inX7 hown hK hP 1 rfl rfl 1 (by decide) (hts _ mw_173) (fun _ h9 => h9) rfl dX3_offerPart_26 ?_
  refine lv_iload hx hb dX3_offerPart_29 (lv_at hl 1 rfl) ?_
  refine z_iald hx hb hK hP 3 0 rfl rfl (e := nxt n i) rfl (by omega) (by omega) dX3_offerPart_31 ?_
  refine lv_aload_n hx hb dX3_offerPart_32 rfl (lv_at hl 5 rfl) ?_
  refine va_get (D := (dC, dI)) (ci := 6) (v := .ref ry) (C := RX7) (T := TX7) (N := 4) hx hb hts inX7 hown hK hP 1 rfl rfl 1 (by decide) (hts _ mw_173) (fun _ h9 => h9) rfl dX3_offerPart_33 ?_
  refine lv_iload hx hb dX3_offerPart_36 (lv_at hl 6 rfl) ?_
  refine z_iald hx hb hK hP 3 0 rfl rfl (e := i) rfl (by omega) (by omega) dX3_offerPart_38 ?_
  refine lv_isub hx hb dX3_offerPart_39 ?_
  refine lv_istore (lv' := [(7, .int ((Y (nxt n i)) - (Y i))), (6, .int ((X (nxt n i)) - (X i))), (5, .int (nI (nxt n i))), (0, .ref fr), (1, .int px), (2, .int py), (3, .ref r), (4, .int (nI i))]) hx hb dX3_offerPart_40 hl (by decide) rfl (fun ls hl => ?_)
  refine lv_iload_n hx hb dX3_offerPart_42 rfl (lv_at hl 4 rfl) ?_
  refine lv_aload_n hx hb dX3_offerPart_43 rfl (lv_at hl 6 rfl) ?_
  refine va_get (D := (dC, dI)) (ci := 6) (v := .ref rx) (C := RX7) (T := TX7) (N := 4) hx hb hts inX7 hown hK hP 1 rfl rfl 0 (by decide) (hts _ mw_166) (fun _ h9 => h9) rfl dX3_offerPart_44 ?_
  refine lv_iload hx hb dX3_offerPart_47 (lv_at hl 7 rfl) ?_
  refine z_iald hx hb hK hP 2 0 rfl rfl (e := i) rfl (by omega) (by omega) dX3_offerPart_49 ?_
  refine lv_isub hx hb dX3_offerPart_50 ?_
  refine lv_istore (lv' := [(8, .int (px - (X i))), (7, .int ((Y (nxt n i)) - (Y i))), (6, .int ((X (nxt n i)) - (X i))), (5, .int (nI (nxt n i))), (0, .ref fr), (1, .int px), (2, .int py), (3, .ref r), (4, .int (nI i))]) hx hb dX3_offerPart_51 hl (by decide) rfl (fun ls hl => ?_)
  refine lv_iload_n hx hb dX3_offerPart_53 rfl (lv_at hl 6 rfl) ?_
  refine lv_aload_n hx hb dX3_offerPart_54 rfl (lv_at hl 7 rfl) ?_
  refine va_get (D := (dC, dI)) (ci := 6) (v := .ref ry) (C := RX7) (T := TX7) (N := 4) hx hb hts inX7 hown hK hP 1 rfl rfl 1 (by decide) (hts _ mw_173) (fun _ h9 => h9) rfl dX3_offerPart_55 ?_
  refine lv_iload hx hb dX3_offerPart_58 (lv_at hl 8 rfl) ?_
  refine z_iald hx hb hK hP 3 0 rfl rfl (e := i) rfl (by omega) (by omega) dX3_offerPart_60 ?_
  refine lv_isub hx hb dX3_offerPart_61 ?_
  refine lv_istore (lv' := [(9, .int (py - (Y i))), (8, .int (px - (X i))), (7, .int ((Y (nxt n i)) - (Y i))), (6, .int ((X (nxt n i)) - (X i))), (5, .int (nI (nxt n i))), (0, .ref fr), (1, .int px), (2, .int py), (3, .ref r), (4, .int (nI i))]) hx hb dX3_offerPart_62 hl (by decide) rfl (fun ls hl => ?_)
  refine lv_iload hx hb dX3_offerPart_64 (lv_at hl 3 rfl) ?_
  refine lv_iload hx hb dX3_offerPart_66 (lv_at hl 3 rfl) ?_
  refine lv_imul hx hb dX3_offerPart_68 ?_
  refine lv_iload hx hb dX3_offerPart_69 (lv_at hl 2 rfl) ?_
  refine lv_iload hx hb dX3_offerPart_71 (lv_at hl 2 rfl) ?_
  refine lv_imul hx hb dX3_offerPart_73 ?_
  refine lv_iadd hx hb dX3_offerPart_74 ?_
  refine zz_i (v := iI (nrL (X i).toInt (Y i).toInt (X (nxt n i)).toInt (Y (nxt n i)).toInt)) (in_len (hp i hi).1 (hp i hi).2 (hp _ hnx).1 (hp _ hnx).2) ?_
  refine lv_istore (lv' := [(10, .int (iI (nrL (X i).toInt (Y i).toInt (X (nxt n i)).toInt (Y (nxt n i)).toInt))), (9, .int (py - (Y i))), (8, .int (px - (X i))), (7, .int ((Y (nxt n i)) - (Y i))), (6, .int ((X (nxt n i)) - (X i))), (5, .int (nI (nxt n i))), (0, .ref fr), (1, .int px), (2, .int py), (3, .ref r), (4, .int (nI i))]) hx hb dX3_offerPart_75 hl (by decide) rfl (fun ls hl => ?_)
  refine lv_iload hx hb dX3_offerPart_77 (lv_at hl 4 rfl) ?_
  refine lv_iload hx hb dX3_offerPart_79 (lv_at hl 2 rfl) ?_
  refine lv_imul hx hb dX3_offerPart_81 ?_
  refine lv_iload hx hb dX3_offerPart_82 (lv_at hl 3 rfl) ?_
  refine lv_iload hx hb dX3_offerPart_84 (lv_at hl 1 rfl) ?_
  refine lv_imul hx hb dX3_offerPart_86 ?_
  refine lv_iadd hx hb dX3_offerPart_87 ?_
  refine zz_i (v := iI (nrT (X i).toInt (Y i).toInt (X (nxt n i)).toInt (Y (nxt n i)).toInt px.toInt py.toInt)) (in_dot (hp i hi).1 (hp i hi).2 (hp _ hnx).1 (hp _ hnx).2 hpx hpy) ?_
  refine lv_istore (lv' := [(11, .int (iI (nrT (X i).toInt (Y i).toInt (X (nxt n i)).toInt (Y (nxt n i)).toInt px.toInt py.toInt))), (10, .int (iI (nrL (X i).toInt (Y i).toInt (X (nxt n i)).toInt (Y (nxt n i)).toInt))), (9, .int (py - (Y i))), (8, .int (px - (X i))), (7, .int ((Y (nxt n i)) - (Y i))), (6, .int ((X (nxt n i)) - (X i))), (5, .int (nI (nxt n i))), (0, .ref fr), (1, .int px), (2, .int py), (3, .ref r), (4, .int (nI i))]) hx hb dX3_offerPart_88 hl (by decide) rfl (fun ls hl => ?_)
  refine lv_iload hx hb dX3_offerPart_90 (lv_at hl 0 rfl) ?_
  refine lv_if_gt (tgt := 115) hx hb dX3_offerPart_92 (by decide) (fun c_1 => ?_) (fun c_1 => ?_)
  · have c_1 : 0 < (nrT (X i).toInt (Y i).toInt (X (nxt n i)).toInt (Y (nxt n i)).toInt px.toInt py.toInt) := zc_lt (by decide) (iI_toInt (by omega)) c_1
    refine lv_iload hx hb dX3_offerPart_115 (lv_at hl 0 rfl) ?_
    refine lv_iload hx hb dX3_offerPart_117 (lv_at hl 1 rfl) ?_
    refine lv_icmp_lt (tgt := 154) hx hb dX3_offerPart_119 (by decide) (fun c_2 => ?_) (fun c_2 => ?_)
    · have c_2 : (nrT (X i).toInt (Y i).toInt (X (nxt n i)).toInt (Y (nxt n i)).toInt px.toInt py.toInt) < (nrL (X i).toInt (Y i).toInt (X (nxt n i)).toInt (Y (nxt n i)).toInt) := zc_lt (iI_toInt (by omega)) (iI_toInt (by omega)) c_2
      refine lv_aload_n hx hb dX3_offerPart_154 rfl (lv_at hl 10 rfl) ?_
      refine lv_iload hx hb dX3_offerPart_155 (lv_at hl 11 rfl) ?_
      refine lv_iload_n hx hb dX3_offerPart_157 rfl (lv_at hl 8 rfl) ?_
      refine lv_iload_n hx hb dX3_offerPart_158 rfl (lv_at hl 9 rfl) ?_
      have hPc := hP.sub (ws' := [(oc6 r (.ref rx) (.ref ry) (nI n) rg), (oa rx cI cap X), (oa ry cI cap Y)]) [1, 2, 3] rfl
      have hDc := hD.sub (ws' := [(oc6 r (.ref rx) (.ref ry) (nI n) rg), (oa rx cI cap X), (oa ry cI cap Y)]) [1, 2, 3] (by decide) rfl
      have hFc := va_free (wc := [(oc6 r (.ref rx) (.ref ry) (nI n) rg), (oa rx cI cap X), (oa ry cI cap Y)]) hD hS hA [1, 2, 3] rfl
      refine zcall (st1 := [.int (iI (eCr n X Y i px.toInt py.toInt))]) (va_runV (As := [.int (nI i), .int px, .int py]) (rest := []) ⟨hx, hb, hml, hown, hts⟩ (k_Row_turn l dC dI cI cZ cF H.size r rx ry n cap X Y rg i px py (by omega) (by omega) (by assumption) (by omega) (by assumption) (by assumption)) (cwV 3 hts (zz_gV mw_952 mw_585 mw_586 mw_102 mc_yX7_turn) rfl rfl rfl (by decide +kernel) ⟨Nat.le_of_ble_eq_true rfl, Nat.le_of_ble_eq_true rfl⟩) (zPV2 (q0 := 0) (ci := 6) hPc hDc hK hXN rfl rfl) rfl rfl hl.1 rfl (lv_room (Nat.le_of_ble_eq_true rfl)) dX3_offerPart_159 ⟨Nat.le_of_ble_eq_true rfl, Nat.le_of_ble_eq_true rfl⟩) hS hFc hFc rfl (fun t H1 locs ht hB hk1 hS => ?_)
      obtain ⟨hP1, hD1⟩ := hB
      rw [ht] at hP1
      obtain ⟨hP, hD⟩ := va_join (wr := [(oc2 fr (jI o9) (jI d9))]) (w1 := [(oc6 r (.ref rx) (.ref ry) (nI n) rg), (oa rx cI cap X), (oa ry cI cap Y)]) hP hD [1, 2, 3] [0] rfl rfl (by decide) (by decide) hk1 hFc hP1 hD1
      clear hk1 hPc hDc hFc hP1 hD1 ht
      generalize H1 = H at hP hS ⊢
      have hP : va_P (dC, dI) classes [(oc2 fr (jI o9) (jI d9)), (oc6 r (.ref rx) (.ref ry) (nI n) rg), (oa rx cI cap X), (oa ry cI cap Y)] H := hP
      have hD : va_D A [(oc2 fr (jI o9) (jI d9)), (oc6 r (.ref rx) (.ref ry) (nI n) rg), (oa rx cI cap X), (oa ry cI cap Y)] := hD
      refine lv_i2l (v := (iI (eCr n X Y i px.toInt py.toInt)).toInt64) hx hb dX3_offerPart_162 (rfl) ?_
      refine lv_lstore (lv' := [(12, .long ((iI (eCr n X Y i px.toInt py.toInt)).toInt64)), (11, .int (iI (nrT (X i).toInt (Y i).toInt (X (nxt n i)).toInt (Y (nxt n i)).toInt px.toInt py.toInt))), (10, .int (iI (nrL (X i).toInt (Y i).toInt (X (nxt n i)).toInt (Y (nxt n i)).toInt))), (9, .int (py - (Y i))), (8, .int (px - (X i))), (7, .int ((Y (nxt n i)) - (Y i))), (6, .int ((X (nxt n i)) - (X i))), (5, .int (nI (nxt n i))), (0, .ref fr), (1, .int px), (2, .int py), (3, .ref r), (4, .int (nI i))]) hx hb dX3_offerPart_163 hl (by decide) rfl (fun ls hl => ?_)
      refine lv_aload_n hx hb dX3_offerPart_165 rfl (lv_at hl 8 rfl) ?_
      refine lv_lload hx hb dX3_offerPart_166 (lv_at hl 0 rfl) ?_
      refine lv_lload hx hb dX3_offerPart_168 (lv_at hl 0 rfl) ?_
      refine lv_lmul hx hb dX3_offerPart_170 ?_
      refine zz_l (v := jI (nrU (X i).toInt (Y i).toInt (X (nxt n i)).toInt (Y (nxt n i)).toInt px.toInt py.toInt)) (in_u2 (hp i hi).1 (hp i hi).2 (hp _ hnx).1 (hp _ hnx).2 hpx hpy (by omega) (by omega)) ?_
      refine lv_iload hx hb dX3_offerPart_171 (lv_at hl 2 rfl) ?_
      refine lv_i2l (v := (iI (nrL (X i).toInt (Y i).toInt (X (nxt n i)).toInt (Y (nxt n i)).toInt)).toInt64) hx hb dX3_offerPart_173 (rfl) ?_
      refine zz_l (v := jI (nrD (X i).toInt (Y i).toInt (X (nxt n i)).toInt (Y (nxt n i)).toInt px.toInt py.toInt)) (by rw [nrD_2 (by omega) (by omega)]; exact iI_64 (by omega)) ?_
      have hPc := hP.sub (ws' := [(oc2 fr (jI o9) (jI d9))]) [0] rfl
      have hDc := hD.sub (ws' := [(oc2 fr (jI o9) (jI d9))]) [0] (by decide) rfl
      have hFc := va_free (wc := [(oc2 fr (jI o9) (jI d9))]) hD hS hA [0] rfl
      refine zcall (st1 := []) (va_runV (As := [.long (jI (nrU (X i).toInt (Y i).toInt (X (nxt n i)).toInt (Y (nxt n i)).toInt px.toInt py.toInt)), .long (jI (nrD (X i).toInt (Y i).toInt (X (nxt n i)).toInt (Y (nxt n i)).toInt px.toInt py.toInt))]) (rest := []) ⟨hx, hb, hml, hown, hts⟩ (k_Fr_offer l dC dI cI cZ cF H.size fr o9 d9 (nrU (X i).toInt (Y i).toInt (X (nxt n i)).toInt (Y (nxt n i)).toInt px.toInt py.toInt) (nrD (X i).toInt (Y i).toInt (X (nxt n i)).toInt (Y (nxt n i)).toInt px.toInt py.toInt) (by assumption) (by assumption) (hUb.1) (hUb.2)) (cwV 2 hts (zz_gV mw_948 mw_949 mw_950 mw_106 mc_yX3_offer) rfl rfl rfl (by decide +kernel) ⟨Nat.le_of_ble_eq_true rfl, Nat.le_of_ble_eq_true rfl⟩) (zPV2 (q0 := 0) (ci := 2) hPc hDc hK hXN rfl rfl) rfl rfl hl.1 rfl (lv_room (Nat.le_of_ble_eq_true rfl)) dX3_offerPart_174 ⟨Nat.le_of_ble_eq_true rfl, Nat.le_of_ble_eq_true rfl⟩) hS hFc hFc rfl (fun t H1 locs ht hB hk1 hS => ?_)
      obtain ⟨zu, zd, hnd, hP1, hD1⟩ := hB
      rw [ht] at hP1
      obtain ⟨hP, hD⟩ := va_join (wr := [(oc6 r (.ref rx) (.ref ry) (nI n) rg), (oa rx cI cap X), (oa ry cI cap Y)]) (w1 := [(oc2 fr (jI zu) (jI zd))]) hP hD [0] [1, 2, 3] rfl rfl (by decide) (by decide) hk1 hFc hP1 hD1
      clear hk1 hPc hDc hFc hP1 hD1 ht
      generalize H1 = H at hP hS ⊢
      have hP := hP.sub (ws' := [(oc2 fr (jI zu) (jI zd)), (oc6 r (.ref rx) (.ref ry) (nI n) rg), (oa rx cI cap X), (oa ry cI cap Y)]) [3, 0, 1, 2] rfl
      have hD := hD.sub (ws' := [(oc2 fr (jI zu) (jI zd)), (oc6 r (.ref rx) (.ref ry) (nI n) rg), (oa rx cI cap X), (oa ry cI cap Y)]) [3, 0, 1, 2] (by decide) rfl
      have hP : va_P (dC, dI) classes [(oc2 fr (jI zu) (jI zd)), (oc6 r (.ref rx) (.ref ry) (nI n) rg), (oa rx cI cap X), (oa ry cI cap Y)] H := hP
      have hD : va_D A [(oc2 fr (jI zu) (jI zd)), (oc6 r (.ref rx) (.ref ry) (nI n) rg), (oa rx cI cap X), (oa ry cI cap Y)] := hD
      have hP9 := hP.sub (ws' := [(oc2 fr (jI zu) (jI zd)), (oc6 r (.ref rx) (.ref ry) (nI n) rg), (oa rx cI cap X), (oa ry cI cap Y)]) [0, 1, 2, 3] rfl
      have hD9 := hD.sub (ws' := [(oc2 fr (jI zu) (jI zd)), (oc6 r (.ref rx) (.ref ry) (nI n) rg), (oa rx cI cap X), (oa ry cI cap Y)]) [0, 1, 2, 3] (by decide) rfl
      rw [hQ9]
      exact W.vret hx hb hr (fun t ht hW => ⟨⟨rfl, zu, zd, (hnd), by rw [ht]; exact hP9, hD9⟩, hS.F ht⟩) hS.2.2 dX3_offerPart_177
    · have c_2 : (nrL (X i).toInt (Y i).toInt (X (nxt n i)).toInt (Y (nxt n i)).toInt) ≤ (nrT (X i).toInt (Y i).toInt (X (nxt n i)).toInt (Y (nxt n i)).toInt px.toInt py.toInt) := zc_nlt (iI_toInt (by omega)) (iI_toInt (by omega)) c_2
      refine lv_aload_n hx hb dX3_offerPart_122 rfl (lv_at hl 7 rfl) ?_
      refine lv_iload hx hb dX3_offerPart_123 (lv_at hl 3 rfl) ?_
      refine lv_iload hx hb dX3_offerPart_125 (lv_at hl 5 rfl) ?_
      refine lv_isub hx hb dX3_offerPart_127 ?_
      refine lv_iload hx hb dX3_offerPart_128 (lv_at hl 3 rfl) ?_
      refine lv_iload hx hb dX3_offerPart_130 (lv_at hl 5 rfl) ?_
      refine lv_isub hx hb dX3_offerPart_132 ?_
      refine lv_imul hx hb dX3_offerPart_133 ?_
      refine lv_iload hx hb dX3_offerPart_134 (lv_at hl 2 rfl) ?_
      refine lv_iload hx hb dX3_offerPart_136 (lv_at hl 4 rfl) ?_
      refine lv_isub hx hb dX3_offerPart_138 ?_
      refine lv_iload hx hb dX3_offerPart_139 (lv_at hl 2 rfl) ?_
      refine lv_iload hx hb dX3_offerPart_141 (lv_at hl 4 rfl) ?_
      refine lv_isub hx hb dX3_offerPart_143 ?_
      refine lv_imul hx hb dX3_offerPart_144 ?_
      refine lv_iadd hx hb dX3_offerPart_145 ?_
      refine lv_i2l (v := ((((px - (X i)) - ((X (nxt n i)) - (X i))) * ((px - (X i)) - ((X (nxt n i)) - (X i)))) + (((py - (Y i)) - ((Y (nxt n i)) - (Y i))) * ((py - (Y i)) - ((Y (nxt n i)) - (Y i))))).toInt64) hx hb dX3_offerPart_146 (rfl) ?_
      refine zz_l (v := jI (nrU (X i).toInt (Y i).toInt (X (nxt n i)).toInt (Y (nxt n i)).toInt px.toInt py.toInt)) (in_u1 (hp i hi).1 (hp i hi).2 (hp _ hnx).1 (hp _ hnx).2 hpx hpy (by omega) (by omega)) ?_
      refine lv_lconst (v := 1) hx hb dX3_offerPart_147 (by decide) ?_
      refine zz_l (v := jI (nrD (X i).toInt (Y i).toInt (X (nxt n i)).toInt (Y (nxt n i)).toInt px.toInt py.toInt)) (by rw [nrD_1 (by omega) (by omega)]; exact jI_1) ?_
      have hPc := hP.sub (ws' := [(oc2 fr (jI o9) (jI d9))]) [0] rfl
      have hDc := hD.sub (ws' := [(oc2 fr (jI o9) (jI d9))]) [0] (by decide) rfl
      have hFc := va_free (wc := [(oc2 fr (jI o9) (jI d9))]) hD hS hA [0] rfl
      refine zcall (st1 := []) (va_runV (As := [.long (jI (nrU (X i).toInt (Y i).toInt (X (nxt n i)).toInt (Y (nxt n i)).toInt px.toInt py.toInt)), .long (jI (nrD (X i).toInt (Y i).toInt (X (nxt n i)).toInt (Y (nxt n i)).toInt px.toInt py.toInt))]) (rest := []) ⟨hx, hb, hml, hown, hts⟩ (k_Fr_offer l dC dI cI cZ cF H.size fr o9 d9 (nrU (X i).toInt (Y i).toInt (X (nxt n i)).toInt (Y (nxt n i)).toInt px.toInt py.toInt) (nrD (X i).toInt (Y i).toInt (X (nxt n i)).toInt (Y (nxt n i)).toInt px.toInt py.toInt) (by assumption) (by assumption) (hUb.1) (hUb.2)) (cwV 2 hts (zz_gV mw_948 mw_949 mw_950 mw_106 mc_yX3_offer) rfl rfl rfl (by decide +kernel) ⟨Nat.le_of_ble_eq_true rfl, Nat.le_of_ble_eq_true rfl⟩) (zPV2 (q0 := 0) (ci := 2) hPc hDc hK hXN rfl rfl) rfl rfl hl.1 rfl (lv_room (Nat.le_of_ble_eq_true rfl)) dX3_offerPart_148 ⟨Nat.le_of_ble_eq_true rfl, Nat.le_of_ble_eq_true rfl⟩) hS hFc hFc rfl (fun t H1 locs ht hB hk1 hS => ?_)
      obtain ⟨zu, zd, hnd, hP1, hD1⟩ := hB
      rw [ht] at hP1
      obtain ⟨hP, hD⟩ := va_join (wr := [(oc6 r (.ref rx) (.ref ry) (nI n) rg), (oa rx cI cap X), (oa ry cI cap Y)]) (w1 := [(oc2 fr (jI zu) (jI zd))]) hP hD [0] [1, 2, 3] rfl rfl (by decide) (by decide) hk1 hFc hP1 hD1
      clear hk1 hPc hDc hFc hP1 hD1 ht
      generalize H1 = H at hP hS ⊢
      have hP := hP.sub (ws' := [(oc2 fr (jI zu) (jI zd)), (oc6 r (.ref rx) (.ref ry) (nI n) rg), (oa rx cI cap X), (oa ry cI cap Y)]) [3, 0, 1, 2] rfl
      have hD := hD.sub (ws' := [(oc2 fr (jI zu) (jI zd)), (oc6 r (.ref rx) (.ref ry) (nI n) rg), (oa rx cI cap X), (oa ry cI cap Y)]) [3, 0, 1, 2] (by decide) rfl
      have hP : va_P (dC, dI) classes [(oc2 fr (jI zu) (jI zd)), (oc6 r (.ref rx) (.ref ry) (nI n) rg), (oa rx cI cap X), (oa ry cI cap Y)] H := hP
      have hD : va_D A [(oc2 fr (jI zu) (jI zd)), (oc6 r (.ref rx) (.ref ry) (nI n) rg), (oa rx cI cap X), (oa ry cI cap Y)] := hD
      refine lv_goto (tgt := 177) hx hb dX3_offerPart_151 (by decide) ?_
      have hP9 := hP.sub (ws' := [(oc2 fr (jI zu) (jI zd)), (oc6 r (.ref rx) (.ref ry) (nI n) rg), (oa rx cI cap X), (oa ry cI cap Y)]) [0, 1, 2, 3] rfl
      have hD9 := hD.sub (ws' := [(oc2 fr (jI zu) (jI zd)), (oc6 r (.ref rx) (.ref ry) (nI n) rg), (oa rx cI cap X), (oa ry cI cap Y)]) [0, 1, 2, 3] (by decide) rfl
      rw [hQ9]
      exact W.vret hx hb hr (fun t ht hW => ⟨⟨rfl, zu, zd, (hnd), by rw [ht]; exact hP9, hD9⟩, hS.F ht⟩) hS.2.2 dX3_offerPart_177
  · have c_1 : (nrT (X i).toInt (Y i).toInt (X (nxt n i)).toInt (Y (nxt n i)).toInt px.toInt py.toInt) ≤ 0 := zc_nlt (by decide) (iI_toInt (by omega)) c_1
    refine lv_aload_n hx hb dX3_offerPart_95 rfl (lv_at hl 7 rfl) ?_
    refine lv_iload hx hb dX3_offerPart_96 (lv_at hl 3 rfl) ?_
    refine lv_iload hx hb dX3_offerPart_98 (lv_at hl 3 rfl) ?_
    refine lv_imul hx hb dX3_offerPart_100 ?_
    refine lv_iload hx hb dX3_offerPart_101 (lv_at hl 2 rfl) ?_
    refine lv_iload hx hb dX3_offerPart_103 (lv_at hl 2 rfl) ?_
    refine lv_imul hx hb dX3_offerPart_105 ?_
    refine lv_iadd hx hb dX3_offerPart_106 ?_
    refine lv_i2l (v := (((px - (X i)) * (px - (X i))) + ((py - (Y i)) * (py - (Y i)))).toInt64) hx hb dX3_offerPart_107 (rfl) ?_
    refine zz_l (v := jI (nrU (X i).toInt (Y i).toInt (X (nxt n i)).toInt (Y (nxt n i)).toInt px.toInt py.toInt)) (in_u0 (hp i hi).1 (hp i hi).2 hpx hpy (by omega)) ?_
    refine lv_lconst (v := 1) hx hb dX3_offerPart_108 (by decide) ?_
    refine zz_l (v := jI (nrD (X i).toInt (Y i).toInt (X (nxt n i)).toInt (Y (nxt n i)).toInt px.toInt py.toInt)) (by rw [nrD_0 (by omega)]; exact jI_1) ?_
    have hPc := hP.sub (ws' := [(oc2 fr (jI o9) (jI d9))]) [0] rfl
    have hDc := hD.sub (ws' := [(oc2 fr (jI o9) (jI d9))]) [0] (by decide) rfl
    have hFc := va_free (wc := [(oc2 fr (jI o9) (jI d9))]) hD hS hA [0] rfl
    refine zcall (st1 := []) (va_runV (As := [.long (jI (nrU (X i).toInt (Y i).toInt (X (nxt n i)).toInt (Y (nxt n i)).toInt px.toInt py.toInt)), .long (jI (nrD (X i).toInt (Y i).toInt (X (nxt n i)).toInt (Y (nxt n i)).toInt px.toInt py.toInt))]) (rest := []) ⟨hx, hb, hml, hown, hts⟩ (k_Fr_offer l dC dI cI cZ cF H.size fr o9 d9 (nrU (X i).toInt (Y i).toInt (X (nxt n i)).toInt (Y (nxt n i)).toInt px.toInt py.toInt) (nrD (X i).toInt (Y i).toInt (X (nxt n i)).toInt (Y (nxt n i)).toInt px.toInt py.toInt) (by assumption) (by assumption) (hUb.1) (hUb.2)) (cwV 2 hts (zz_gV mw_948 mw_949 mw_950 mw_106 mc_yX3_offer) rfl rfl rfl (by decide +kernel) ⟨Nat.le_of_ble_eq_true rfl, Nat.le_of_ble_eq_true rfl⟩) (zPV2 (q0 := 0) (ci := 2) hPc hDc hK hXN rfl rfl) rfl rfl hl.1 rfl (lv_room (Nat.le_of_ble_eq_true rfl)) dX3_offerPart_109 ⟨Nat.le_of_ble_eq_true rfl, Nat.le_of_ble_eq_true rfl⟩) hS hFc hFc rfl (fun t H1 locs ht hB hk1 hS => ?_)
    obtain ⟨zu, zd, hnd, hP1, hD1⟩ := hB
    rw [ht] at hP1
    obtain ⟨hP, hD⟩ := va_join (wr := [(oc6 r (.ref rx) (.ref ry) (nI n) rg), (oa rx cI cap X), (oa ry cI cap Y)]) (w1 := [(oc2 fr (jI zu) (jI zd))]) hP hD [0] [1, 2, 3] rfl rfl (by decide) (by decide) hk1 hFc hP1 hD1
    clear hk1 hPc hDc hFc hP1 hD1 ht
    generalize H1 = H at hP hS ⊢
    have hP := hP.sub (ws' := [(oc2 fr (jI zu) (jI zd)), (oc6 r (.ref rx) (.ref ry) (nI n) rg), (oa rx cI cap X), (oa ry cI cap Y)]) [3, 0, 1, 2] rfl
    have hD := hD.sub (ws' := [(oc2 fr (jI zu) (jI zd)), (oc6 r (.ref rx) (.ref ry) (nI n) rg), (oa rx cI cap X), (oa ry cI cap Y)]) [3, 0, 1, 2] (by decide) rfl
    have hP : va_P (dC, dI) classes [(oc2 fr (jI zu) (jI zd)), (oc6 r (.ref rx) (.ref ry) (nI n) rg), (oa rx cI cap X), (oa ry cI cap Y)] H := hP
    have hD : va_D A [(oc2 fr (jI zu) (jI zd)), (oc6 r (.ref rx) (.ref ry) (nI n) rg), (oa rx cI cap X), (oa ry cI cap Y)] := hD
    refine lv_goto (tgt := 177) hx hb dX3_offerPart_112 (by decide) ?_
    have hP9 := hP.sub (ws' := [(oc2 fr (jI zu) (jI zd)), (oc6 r (.ref rx) (.ref ry) (nI n) rg), (oa rx cI cap X), (oa ry cI cap Y)]) [0, 1, 2, 3] rfl
    have hD9 := hD.sub (ws' := [(oc2 fr (jI zu) (jI zd)), (oc6 r (.ref rx) (.ref ry) (nI n) rg), (oa rx cI cap X), (oa ry cI cap Y)]) [0, 1, 2, 3] (by decide) rfl
    rw [hQ9]
    exact W.vret hx hb hr (fun t ht hW => ⟨⟨rfl, zu, zd, (hnd), by rw [ht]; exact hP9, hD9⟩, hS.F ht⟩) hS.2.2 dX3_offerPart_177
set_option maxHeartbeats 4000000 in
set_option maxRecDepth 100000 in
theorem k_Fr_offerFrom (l : Launch) (dC : Nat → ClassId) (dI : Nat → Nat → Nat) (cI cZ cF : ClassId) (sz : Nat) (fr : Nat) (o9 : Int) (d9 : Int) (r : Nat) (rx : Nat) (ry : Nat) (n : Nat) (cap : Nat) (X : Nat → Int32) (Y : Nat → Int32) (rg : Int32) (px : Int32) (py : Int32) (P9 : Int → Int → Prop) (ho : 0 ≤ o9 ∧ o9 ≤ 4000000000000) (hd : 0 ≤ d9 ∧ d9 ≤ 2000000) (hn : n ≤ cap) (hcap : cap ≤ 1000) (hp : pls n X Y) (hpx : pl px) (hpy : pl py) (hP9 : ∀ A B, P9 A B → 1 ≤ B) (hI9 : IM P9 o9 d9) : Met l yX3_offerFrom (.code yX3_offerFrom cX3_offerFrom 5 none :: ws0) ({ frames := 2, cells := 0, slots := 0, locals := 57 } : Room) (va_Pc [.ref fr, .int px, .int py, .ref r] (zPre (dC, dI) classes (zTy cI cZ cF) [(oc2 fr (jI o9) (jI d9)), (oc6 r (.ref rx) (.ref ry) (nI n) rg), (oa rx cI cap X), (oa ry cI cap Y)] sz zXN)) (zQ none (fun t => ∃ (zu : Int), ∃ (zd : Int), (IM (ofP P9 n X Y px.toInt py.toInt (prt n rg)) zu zd) ∧ ((0 ≤ zu ∧ zu ≤ 4000000000000) ∧ (0 ≤ zd ∧ zd ≤ 2000000)) ∧ va_P (dC, dI) classes [(oc2 fr (jI zu) (jI zd)), (oc6 r (.ref rx) (.ref ry) (nI n) rg), (oa rx cI cap X), (oa ry cI cap Y)] t.heap ∧ va_D (va_A [(oc2 fr (jI o9) (jI d9)), (oc6 r (.ref rx) (.ref ry) (nI n) rg), (oa rx cI cap X), (oa ry cI cap Y)] sz) [(oc2 fr (jI zu) (jI zd)), (oc6 r (.ref rx) (.ref ry) (nI n) rg), (oa rx cI cap X), (oa ry cI cap Y)]) (va_A [(oc2 fr (jI o9) (jI d9)), (oc6 r (.ref rx) (.ref ry) (nI n) rg), (oa rx cI cap X), (oa ry cI cap Y)] sz)) 0 0 (va_A [(oc2 fr (jI o9) (jI d9)), (oc6 r (.ref rx) (.ref ry) (nI n) rg), (oa rx cI cap X), (oa ry cI cap Y)] sz) := by
  refine Met.ofW (cc := cX3_offerFrom) (maxL := 5) (ret := none) (by decide) rfl ?_
  intro p e s m args below meth c s₁ B hml hv
  obtain ⟨rfl, hsz, hP, hK, hD0, hXN⟩ := hv
  have hx := B.exec
  have hb := B.bytes
  have hr := B.returns
  have hts0 := atoms_spec (ws := .code yX3_offerFrom cX3_offerFrom 5 none :: ws0) B.pre
  have hts : ∀ w9 ∈ ws0, w9.before ([.ref fr, .int px, .int py, .ref r] : List Value).toArray s = true := fun w9 h => hts0 w9 (List.mem_cons_of_mem _ h)
  have hown : s.vm.findClass "ScaleShop$Fraction" = some m.cls := findClass_of_methodNamed B.named
  have hlocks := B.notSynchronized
  subst hsz
  have hD := hD0.self (sz := s.heap.size)
  clear hD0
  generalize hAe : va_A [(oc2 fr (jI o9) (jI d9)), (oc6 r (.ref rx) (.ref ry) (nI n) rg), (oa rx cI cap X), (oa ry cI cap Y)] s.heap.size = A at hD ⊢
  have hA : ∀ q : Nat, s.heap.size ≤ q → A q := fun q h => by rw [← hAe]; exact Or.inr h
  clear hAe
  have hS : va_S A s.heap s.heap [] := va_S.rf
  have hP : va_P (dC, dI) classes [(oc2 fr (jI o9) (jI d9)), (oc6 r (.ref rx) (.ref ry) (nI n) rg), (oa rx cI cap X), (oa ry cI cap Y)] s.heap := hP
  obtain ⟨Q9, hQ9⟩ : ∃ Q9 : State → Prop, Q9 = MQ below (zQ none (fun t => ∃ (zu : Int), ∃ (zd : Int), (IM (ofP P9 n X Y px.toInt py.toInt (prt n rg)) zu zd) ∧ ((0 ≤ zu ∧ zu ≤ 4000000000000) ∧ (0 ≤ zd ∧ zd ≤ 2000000)) ∧ va_P (dC, dI) classes [(oc2 fr (jI zu) (jI zd)), (oc6 r (.ref rx) (.ref ry) (nI n) rg), (oa rx cI cap X), (oa ry cI cap Y)] t.heap ∧ va_D A [(oc2 fr (jI zu) (jI zd)), (oc6 r (.ref rx) (.ref ry) (nI n) rg), (oa rx cI cap X), (oa ry cI cap Y)]) A) ([.ref fr, .int px, .int py, .ref r] : List Value).toArray s 0 0 A := ⟨_, rfl⟩
  rw [← hQ9]
  have hl := lv_entry ([.ref fr, .int px, .int py, .ref r]) (n := 5) (Nat.le_of_ble_eq_true rfl)
  rw [lg_entry_eq]
  generalize (lg_sl ([.ref fr, .int px, .int py, .ref r]) ++ List.replicate (5 - (lg_sl ([.ref fr, .int px, .int py, .ref r])).length) Slot.unset).toArray = ls at hl ⊢
  have hl : lv_has ls 5 [(0, .ref fr), (1, .int px), (2, .int py), (3, .ref r)] := hl
  have hpr := prt_le n rg
  refine lv_iconst (v := 0) hx hb dX3_offerFrom_0 (by decide) ?_
  refine lv_istore (lv' := [(4, .int 0), (0, .ref fr), (1, .int px), (2, .int py), (3, .ref r)]) hx hb dX3_offerFrom_1 hl (by decide) rfl (fun ls hl => ?_)
  have hl_3 : ∀ (n9 : Nat) (i : Nat) (u : Int) (d : Int) (H : Heap) (locs : List Loc) (ls : Array Slot), prt n rg - i < n9 → (i ≤ prt n rg) → (IM (ofP P9 n X Y px.toInt py.toInt i) u d) → ((0 ≤ u ∧ u ≤ 4000000000000) ∧ (0 ≤ d ∧ d ≤ 2000000)) → va_P (dC, dI) classes [(oc2 fr (jI u) (jI d)), (oc6 r (.ref rx) (.ref ry) (nI n) rg), (oa rx cI cap X), (oa ry cI cap Y)] H → va_D A [(oc2 fr (jI u) (jI d)), (oc6 r (.ref rx) (.ref ry) (nI n) rg), (oa rx cI cap X), (oa ry cI cap Y)] → va_S A s.heap H locs → lv_has ls 5 [(4, .int (nI i)), (0, .ref fr), (1, .int px), (2, .int py), (3, .ref r)] → W p l e ((headSpec (.code yX3_offerFrom cX3_offerFrom 5 none :: ws0) ({ frames := 2, cells := 0, slots := 0, locals := 57 } : Room)).room) s m ([.ref fr, .int px, .int py, .ref r] : List Value).toArray below meth c H locs 0 0 Q9 (F0 m 3 ls []) := by
    intro n9
    induction n9 with
    | zero => intro i u d H locs ls hm; exact absurd hm (Nat.not_lt_zero _)
    | succ n9 ih_3 =>
      intro i u d H locs ls hm hi him hud hP hD hS hl
      refine lv_iload hx hb dX3_offerFrom_3 (lv_at hl 0 rfl) ?_
      refine lv_aload_n hx hb dX3_offerFrom_5 rfl (lv_at hl 4 rfl) ?_
      have hPc := hP.sub (ws' := [(oc6 r (.ref rx) (.ref ry) (nI n) rg), (oa rx cI cap X), (oa ry cI cap Y)]) [1, 2, 3] rfl
      have hDc := hD.sub (ws' := [(oc6 r (.ref rx) (.ref ry) (nI n) rg), (oa rx cI cap X), (oa ry cI cap Y)]) [1, 2, 3] (by decide) rfl
      have hFc := va_free (wc := [(oc6 r (.ref rx) (.ref ry) (nI n) rg), (oa rx cI cap X), (oa ry cI cap Y)]) hD hS hA [1, 2, 3] rfl
      refine zcall (st1 := [.int (nI (prt n rg)), .int (nI i)]) (va_runV (As := []) (rest := [.int (nI i)]) ⟨hx, hb, hml, hown, hts⟩ (k_Row_parts l dC dI cI cZ cF H.size r rx ry n cap X Y rg (by omega) (by omega)) (cwV 0 hts (zz_gV mw_942 mw_623 mw_624 mw_102 mc_yX7_parts) rfl rfl rfl (by decide +kernel) ⟨Nat.le_of_ble_eq_true rfl, Nat.le_of_ble_eq_true rfl⟩) (zPV2 (q0 := 0) (ci := 6) hPc hDc hK hXN rfl rfl) rfl rfl hl.1 rfl (lv_room (Nat.le_of_ble_eq_true rfl)) dX3_offerFrom_6 ⟨Nat.le_of_ble_eq_true rfl, Nat.le_of_ble_eq_true rfl⟩) hS hFc hFc rfl (fun t H1 locs ht hB hk1 hS => ?_)
      obtain ⟨hP1, hD1⟩ := hB
      rw [ht] at hP1
      obtain ⟨hP, hD⟩ := va_join (wr := [(oc2 fr (jI u) (jI d))]) (w1 := [(oc6 r (.ref rx) (.ref ry) (nI n) rg), (oa rx cI cap X), (oa ry cI cap Y)]) hP hD [1, 2, 3] [0] rfl rfl (by decide) (by decide) hk1 hFc hP1 hD1
      clear hk1 hPc hDc hFc hP1 hD1 ht
      generalize H1 = H at hP hS ⊢
      have hP : va_P (dC, dI) classes [(oc2 fr (jI u) (jI d)), (oc6 r (.ref rx) (.ref ry) (nI n) rg), (oa rx cI cap X), (oa ry cI cap Y)] H := hP
      have hD : va_D A [(oc2 fr (jI u) (jI d)), (oc6 r (.ref rx) (.ref ry) (nI n) rg), (oa rx cI cap X), (oa ry cI cap Y)] := hD
      refine lv_icmp_ge (tgt := 27) hx hb dX3_offerFrom_9 (by decide) (fun c_1 => ?_) (fun c_1 => ?_)
      · have c_1 : ((prt n rg : Nat) : Int) ≤ ((i : Nat) : Int) := zc_le (nI_toInt (by omega)) (nI_toInt (by omega)) c_1
        have hie : i = prt n rg := (by omega)
        rw [hie] at him
        have hP9 := hP.sub (ws' := [(oc2 fr (jI u) (jI d)), (oc6 r (.ref rx) (.ref ry) (nI n) rg), (oa rx cI cap X), (oa ry cI cap Y)]) [0, 1, 2, 3] rfl
        have hD9 := hD.sub (ws' := [(oc2 fr (jI u) (jI d)), (oc6 r (.ref rx) (.ref ry) (nI n) rg), (oa rx cI cap X), (oa ry cI cap Y)]) [0, 1, 2, 3] (by decide) rfl
        rw [hQ9]
        exact W.vret hx hb hr (fun t ht hW => ⟨⟨rfl, u, d, (him), (hud), by rw [ht]; exact hP9, hD9⟩, hS.F ht⟩) hS.2.2 dX3_offerFrom_27
      · have c_1 : ((i : Nat) : Int) < ((prt n rg : Nat) : Int) := zc_nle (nI_toInt (by omega)) (nI_toInt (by omega)) c_1
        refine lv_aload_n hx hb dX3_offerFrom_12 rfl (lv_at hl 1 rfl) ?_
        refine lv_iload_n hx hb dX3_offerFrom_13 rfl (lv_at hl 2 rfl) ?_
        refine lv_iload_n hx hb dX3_offerFrom_14 rfl (lv_at hl 3 rfl) ?_
        refine lv_aload_n hx hb dX3_offerFrom_15 rfl (lv_at hl 4 rfl) ?_
        refine lv_iload hx hb dX3_offerFrom_16 (lv_at hl 0 rfl) ?_
        have hPc := hP.sub (ws' := [(oc2 fr (jI u) (jI d)), (oc6 r (.ref rx) (.ref ry) (nI n) rg), (oa rx cI cap X), (oa ry cI cap Y)]) [0, 1, 2, 3] rfl
        have hDc := hD.sub (ws' := [(oc2 fr (jI u) (jI d)), (oc6 r (.ref rx) (.ref ry) (nI n) rg), (oa rx cI cap X), (oa ry cI cap Y)]) [0, 1, 2, 3] (by decide) rfl
        have hFc := va_free (wc := [(oc2 fr (jI u) (jI d)), (oc6 r (.ref rx) (.ref ry) (nI n) rg), (oa rx cI cap X), (oa ry cI cap Y)]) hD hS hA [0, 1, 2, 3] rfl
        refine zcall (st1 := []) (va_runV (As := [.int px, .int py, .ref r, .int (nI i)]) (rest := []) ⟨hx, hb, hml, hown, hts⟩ (k_Fr_offerPart l dC dI cI cZ cF H.size fr u d r rx ry n cap X Y rg i px py (hud.1) (hud.2) (by omega) (by omega) (by assumption) (by assumption) (by assumption) (by omega)) (cwV 4 hts (zz_gV mw_943 mw_945 mw_25 mw_106 mc_yX3_offerPart) rfl rfl rfl (by decide +kernel) ⟨Nat.le_of_ble_eq_true rfl, Nat.le_of_ble_eq_true rfl⟩) (zPV2 (q0 := 0) (ci := 2) hPc hDc hK hXN rfl rfl) rfl rfl hl.1 rfl (lv_room (Nat.le_of_ble_eq_true rfl)) dX3_offerFrom_18 ⟨Nat.le_of_ble_eq_true rfl, Nat.le_of_ble_eq_true rfl⟩) hS hFc hFc rfl (fun t H1 locs ht hB hk1 hS => ?_)
        obtain ⟨zu9, zd9, hnd9, hP1, hD1⟩ := hB
        rw [ht] at hP1
        obtain ⟨hP, hD⟩ := va_join (wr := []) (w1 := [(oc2 fr (jI zu9) (jI zd9)), (oc6 r (.ref rx) (.ref ry) (nI n) rg), (oa rx cI cap X), (oa ry cI cap Y)]) hP hD [0, 1, 2, 3] [] rfl rfl (by decide) (by decide) hk1 hFc hP1 hD1
        clear hk1 hPc hDc hFc hP1 hD1 ht
        generalize H1 = H at hP hS ⊢
        have hP : va_P (dC, dI) classes [(oc2 fr (jI zu9) (jI zd9)), (oc6 r (.ref rx) (.ref ry) (nI n) rg), (oa rx cI cap X), (oa ry cI cap Y)] H := hP
        have hD : va_D A [(oc2 fr (jI zu9) (jI zd9)), (oc6 r (.ref rx) (.ref ry) (nI n) rg), (oa rx cI cap X), (oa ry cI cap Y)] := hD
        refine lv_iinc (v := nI (i + 1)) (lv' := [(4, .int (nI (i + 1))), (0, .ref fr), (1, .int px), (2, .int py), (3, .ref r)]) hx hb dX3_offerFrom_21 hl (k := 0) rfl (nI_add i 1) (by decide) rfl (fun ls hl => ?_)
        refine lv_goto (tgt := 3) hx hb dX3_offerFrom_24 (by decide) ?_
        exact ih_3 (i + 1) zu9 zd9 H locs ls (by omega) (by omega) (ofP_s hP9 hp hpx hpy (by omega) him hnd9) (ndP_b hud.1 hud.2 (nrU_b (hp i (by omega)).1 (hp i (by omega)).2 (hp _ (nxt_lt (n := n) (i := i) (by omega))).1 (hp _ (nxt_lt (n := n) (i := i) (by omega))).2 hpx hpy) hnd9) hP hD hS (lv_sub hl [0, 1, 2, 3, 4] rfl)
  exact hl_3 _ 0 o9 d9 s.heap [] ls (Nat.lt_succ_self _) (by omega) (ofP_0 hI9) (⟨ho, hd⟩) hP hD hS (lv_sub hl [0, 1, 2, 3, 4] rfl)
set_option maxHeartbeats 4000000 in
set_option maxRecDepth 100000 in
theorem k_Fr_between_m (l : Launch) (dC : Nat → ClassId) (dI : Nat → Nat → Nat) (cI cZ cF : ClassId) (sz : Nat) (fr : Nat) (y1 : Int64) (y2 : Int64) (r : Nat) (rx : Nat) (ry : Nat) (n : Nat) (cap : Nat) (X : Nat → Int32) (Y : Nat → Int32) (rg : Int32) (u : Nat) (ux : Nat) (uy : Nat) (m2 : Nat) (cap2 : Nat) (U : Nat → Int32) (V : Nat → Int32) (rh : Int32) (hn : n ≤ cap) (hcap : cap ≤ 1000) (hp : pls n X Y) (hm : m2 ≤ cap2) (hcap2 : cap2 ≤ 1000) (hq : pls m2 U V) (htc : ∃ i, i < prt n rg ∧ ∃ j, j < prt m2 rh ∧ eMt n X Y i m2 U V j) : Met l yX3_between (.code yX3_between cX3_between 4 none :: ws0) ({ frames := 3, cells := 0, slots := 0, locals := 65 } : Room) (va_Pc [.ref fr, .ref r, .ref u] (zPre (dC, dI) classes (zTy cI cZ cF) [(oc2 fr y1 y2), (oc6 r (.ref rx) (.ref ry) (nI n) rg), (oa rx cI cap X), (oa ry cI cap Y), (oc6 u (.ref ux) (.ref uy) (nI m2) rh), (oa ux cI cap2 U), (oa uy cI cap2 V)] sz zXN)) (zQ none (fun t => va_P (dC, dI) classes [(oc2 fr (jI 0) (jI 1)), (oc6 r (.ref rx) (.ref ry) (nI n) rg), (oa rx cI cap X), (oa ry cI cap Y), (oc6 u (.ref ux) (.ref uy) (nI m2) rh), (oa ux cI cap2 U), (oa uy cI cap2 V)] t.heap ∧ va_D (va_A [(oc2 fr y1 y2), (oc6 r (.ref rx) (.ref ry) (nI n) rg), (oa rx cI cap X), (oa ry cI cap Y), (oc6 u (.ref ux) (.ref uy) (nI m2) rh), (oa ux cI cap2 U), (oa uy cI cap2 V)] sz) [(oc2 fr (jI 0) (jI 1)), (oc6 r (.ref rx) (.ref ry) (nI n) rg), (oa rx cI cap X), (oa ry cI cap Y), (oc6 u (.ref ux) (.ref uy) (nI m2) rh), (oa ux cI cap2 U), (oa uy cI cap2 V)]) (va_A [(oc2 fr y1 y2), (oc6 r (.ref rx) (.ref ry) (nI n) rg), (oa rx cI cap X), (oa ry cI cap Y), (oc6 u (.ref ux) (.ref uy) (nI m2) rh), (oa ux cI cap2 U), (oa uy cI cap2 V)] sz)) 0 0 (va_A [(oc2 fr y1 y2), (oc6 r (.ref rx) (.ref ry) (nI n) rg), (oa rx cI cap X), (oa ry cI cap Y), (oc6 u (.ref ux) (.ref uy) (nI m2) rh), (oa ux cI cap2 U), (oa uy cI cap2 V)] sz) := by
  refine Met.ofW (cc := cX3_between) (maxL := 4) (ret := none) (by decide) rfl ?_
  intro p e s m args below meth c s₁ B hml hv
  obtain ⟨rfl, hsz, hP, hK, hD0, hXN⟩ := hv
  have hx := B.exec
  have hb := B.bytes
  have hr := B.returns
  have hts0 := atoms_spec (ws := .code yX3_between cX3_between 4 none :: ws0) B.pre
  have hts : ∀ w9 ∈ ws0, w9.before ([.ref fr, .ref r, .ref u] : List Value).toArray s = true := fun w9 h => hts0 w9 (List.mem_cons_of_mem _ h)
  have hown : s.vm.findClass "ScaleShop$Fraction" = some m.cls := findClass_of_methodNamed B.named
  have hlocks := B.notSynchronized
  subst hsz
  have hD := hD0.self (sz := s.heap.size)
  clear hD0
  generalize hAe : va_A [(oc2 fr y1 y2), (oc6 r (.ref rx) (.ref ry) (nI n) rg), (oa rx cI cap X), (oa ry cI cap Y), (oc6 u (.ref ux) (.ref uy) (nI m2) rh), (oa ux cI cap2 U), (oa uy cI cap2 V)] s.heap.size = A at hD ⊢
  have hA : ∀ q : Nat, s.heap.size ≤ q → A q := fun q h => by rw [← hAe]; exact Or.inr h
  clear hAe
  have hS : va_S A s.heap s.heap [] := va_S.rf
  have hP : va_P (dC, dI) classes [(oc2 fr y1 y2), (oc6 r (.ref rx) (.ref ry) (nI n) rg), (oa rx cI cap X), (oa ry cI cap Y), (oc6 u (.ref ux) (.ref uy) (nI m2) rh), (oa ux cI cap2 U), (oa uy cI cap2 V)] s.heap := hP
  obtain ⟨Q9, hQ9⟩ : ∃ Q9 : State → Prop, Q9 = MQ below (zQ none (fun t => va_P (dC, dI) classes [(oc2 fr (jI 0) (jI 1)), (oc6 r (.ref rx) (.ref ry) (nI n) rg), (oa rx cI cap X), (oa ry cI cap Y), (oc6 u (.ref ux) (.ref uy) (nI m2) rh), (oa ux cI cap2 U), (oa uy cI cap2 V)] t.heap ∧ va_D A [(oc2 fr (jI 0) (jI 1)), (oc6 r (.ref rx) (.ref ry) (nI n) rg), (oa rx cI cap X), (oa ry cI cap Y), (oc6 u (.ref ux) (.ref uy) (nI m2) rh), (oa ux cI cap2 U), (oa uy cI cap2 V)]) A) ([.ref fr, .ref r, .ref u] : List Value).toArray s 0 0 A := ⟨_, rfl⟩
  rw [← hQ9]
  have hl := lv_entry ([.ref fr, .ref r, .ref u]) (n := 4) (Nat.le_of_ble_eq_true rfl)
  rw [lg_entry_eq]
  generalize (lg_sl ([.ref fr, .ref r, .ref u]) ++ List.replicate (4 - (lg_sl ([.ref fr, .ref r, .ref u])).length) Slot.unset).toArray = ls at hl ⊢
  have hl : lv_has ls 4 [(0, .ref fr), (1, .ref r), (2, .ref u)] := hl
  refine lv_aload_n hx hb dX3_between_0 rfl (lv_at hl 1 rfl) ?_
  refine lv_aload_n hx hb dX3_between_1 rfl (lv_at hl 2 rfl) ?_
  have hPc := hP.sub (ws' := [(oc6 r (.ref rx) (.ref ry) (nI n) rg), (oa rx cI cap X), (oa ry cI cap Y), (oc6 u (.ref ux) (.ref uy) (nI m2) rh), (oa ux cI cap2 U), (oa uy cI cap2 V)]) [1, 2, 3, 4, 5, 6] rfl
  have hDc := hD.sub (ws' := [(oc6 r (.ref rx) (.ref ry) (nI n) rg), (oa rx cI cap X), (oa ry cI cap Y), (oc6 u (.ref ux) (.ref uy) (nI m2) rh), (oa ux cI cap2 U), (oa uy cI cap2 V)]) [1, 2, 3, 4, 5, 6] (by decide) rfl
  have hFc := va_free (wc := [(oc6 r (.ref rx) (.ref ry) (nI n) rg), (oa rx cI cap X), (oa ry cI cap Y), (oc6 u (.ref ux) (.ref uy) (nI m2) rh), (oa ux cI cap2 U), (oa uy cI cap2 V)]) hD hS hA [1, 2, 3, 4, 5, 6] rfl
  refine zcall (st1 := [.int (pI (∃ i, i < prt n rg ∧ ∃ j, j < prt m2 rh ∧ eMt n X Y i m2 U V j))]) (va_runV (As := [.ref u]) (rest := []) ⟨hx, hb, hml, hown, hts⟩ (k_Row_touches l dC dI cI cZ cF s.heap.size r rx ry n cap X Y rg u ux uy m2 cap2 U V rh (by omega) (by omega) (by assumption) (by omega) (by omega) (by assumption)) (cwV 1 hts (zz_gV mw_929 mw_680 mw_681 mw_102 mc_yX7_touches) rfl rfl rfl (by decide +kernel) ⟨Nat.le_of_ble_eq_true rfl, Nat.le_of_ble_eq_true rfl⟩) (zPV2 (q0 := 0) (ci := 6) hPc hDc hK hXN rfl rfl) rfl rfl hl.1 rfl (lv_room (Nat.le_of_ble_eq_true rfl)) dX3_between_2 ⟨Nat.le_of_ble_eq_true rfl, Nat.le_of_ble_eq_true rfl⟩) hS hFc hFc rfl (fun t H1 locs ht hB hk1 hS => ?_)
  obtain ⟨hP1, hD1⟩ := hB
  rw [ht] at hP1
  obtain ⟨hP, hD⟩ := va_join (wr := [(oc2 fr y1 y2)]) (w1 := [(oc6 r (.ref rx) (.ref ry) (nI n) rg), (oa rx cI cap X), (oa ry cI cap Y), (oc6 u (.ref ux) (.ref uy) (nI m2) rh), (oa ux cI cap2 U), (oa uy cI cap2 V)]) hP hD [1, 2, 3, 4, 5, 6] [0] rfl rfl (by decide) (by decide) hk1 hFc hP1 hD1
  clear hk1 hPc hDc hFc hP1 hD1 ht
  generalize H1 = H at hP hS ⊢
  have hP : va_P (dC, dI) classes [(oc2 fr y1 y2), (oc6 r (.ref rx) (.ref ry) (nI n) rg), (oa rx cI cap X), (oa ry cI cap Y), (oc6 u (.ref ux) (.ref uy) (nI m2) rh), (oa ux cI cap2 U), (oa uy cI cap2 V)] H := hP
  have hD : va_D A [(oc2 fr y1 y2), (oc6 r (.ref rx) (.ref ry) (nI n) rg), (oa rx cI cap X), (oa ry cI cap Y), (oc6 u (.ref ux) (.ref uy) (nI m2) rh), (oa ux cI cap2 U), (oa uy cI cap2 V)] := hD
  refine lv_if_eq (tgt := 15) hx hb dX3_between_5 (by decide) (fun c_1 => ?_) (fun c_1 => ?_)
  · have c_1 : ¬ (∃ i, i < prt n rg ∧ ∃ j, j < prt m2 rh ∧ eMt n X Y i m2 U V j) := zp_0 c_1
    exfalso; exact absurd htc (by assumption)
  · have c_1 : ∃ i, i < prt n rg ∧ ∃ j, j < prt m2 rh ∧ eMt n X Y i m2 U V j := zp_1 c_1
    refine lv_aload_n hx hb dX3_between_8 rfl (lv_at hl 0 rfl) ?_
    refine lv_lconst (v := 0) hx hb dX3_between_9 (by decide) ?_
    refine zz_l (v := jI 0) (jI_0) ?_
    refine lv_lconst (v := 1) hx hb dX3_between_10 (by decide) ?_
    refine zz_l (v := jI 1) (jI_1) ?_
    have hPc := hP.sub (ws' := [(oc2 fr y1 y2)]) [0] rfl
    have hDc := hD.sub (ws' := [(oc2 fr y1 y2)]) [0] (by decide) rfl
    have hFc := va_free (wc := [(oc2 fr y1 y2)]) hD hS hA [0] rfl
    refine zcall (st1 := []) (va_runV (As := [.long (jI 0), .long (jI 1)]) (rest := []) ⟨hx, hb, hml, hown, hts⟩ (k_Fr_become l dC dI cI cZ cF H.size fr y1 y2 (jI 0) (jI 1) ) (cwV 2 hts (zz_gV mw_930 mw_931 mw_932 mw_106 mc_yX3_become) rfl rfl rfl (by decide +kernel) ⟨Nat.le_of_ble_eq_true rfl, Nat.le_of_ble_eq_true rfl⟩) (zPV2 (q0 := 0) (ci := 2) hPc hDc hK hXN rfl rfl) rfl rfl hl.1 rfl (lv_room (Nat.le_of_ble_eq_true rfl)) dX3_between_11 ⟨Nat.le_of_ble_eq_true rfl, Nat.le_of_ble_eq_true rfl⟩) hS hFc hFc rfl (fun t H1 locs ht hB hk1 hS => ?_)
    obtain ⟨hP1, hD1⟩ := hB
    rw [ht] at hP1
    obtain ⟨hP, hD⟩ := va_join (wr := [(oc6 r (.ref rx) (.ref ry) (nI n) rg), (oa rx cI cap X), (oa ry cI cap Y), (oc6 u (.ref ux) (.ref uy) (nI m2) rh), (oa ux cI cap2 U), (oa uy cI cap2 V)]) (w1 := [(oc2 fr (jI 0) (jI 1))]) hP hD [0] [1, 2, 3, 4, 5, 6] rfl rfl (by decide) (by decide) hk1 hFc hP1 hD1
    clear hk1 hPc hDc hFc hP1 hD1 ht
    generalize H1 = H at hP hS ⊢
    have hP := hP.sub (ws' := [(oc2 fr (jI 0) (jI 1)), (oc6 r (.ref rx) (.ref ry) (nI n) rg), (oa rx cI cap X), (oa ry cI cap Y), (oc6 u (.ref ux) (.ref uy) (nI m2) rh), (oa ux cI cap2 U), (oa uy cI cap2 V)]) [6, 0, 1, 2, 3, 4, 5] rfl
    have hD := hD.sub (ws' := [(oc2 fr (jI 0) (jI 1)), (oc6 r (.ref rx) (.ref ry) (nI n) rg), (oa rx cI cap X), (oa ry cI cap Y), (oc6 u (.ref ux) (.ref uy) (nI m2) rh), (oa ux cI cap2 U), (oa uy cI cap2 V)]) [6, 0, 1, 2, 3, 4, 5] (by decide) rfl
    have hP : va_P (dC, dI) classes [(oc2 fr (jI 0) (jI 1)), (oc6 r (.ref rx) (.ref ry) (nI n) rg), (oa rx cI cap X), (oa ry cI cap Y), (oc6 u (.ref ux) (.ref uy) (nI m2) rh), (oa ux cI cap2 U), (oa uy cI cap2 V)] H := hP
    have hD : va_D A [(oc2 fr (jI 0) (jI 1)), (oc6 r (.ref rx) (.ref ry) (nI n) rg), (oa rx cI cap X), (oa ry cI cap Y), (oc6 u (.ref ux) (.ref uy) (nI m2) rh), (oa ux cI cap2 U), (oa uy cI cap2 V)] := hD
    have hP9 := hP.sub (ws' := [(oc2 fr (jI 0) (jI 1)), (oc6 r (.ref rx) (.ref ry) (nI n) rg), (oa rx cI cap X), (oa ry cI cap Y), (oc6 u (.ref ux) (.ref uy) (nI m2) rh), (oa ux cI cap2 U), (oa uy cI cap2 V)]) [0, 1, 2, 3, 4, 5, 6] rfl
    have hD9 := hD.sub (ws' := [(oc2 fr (jI 0) (jI 1)), (oc6 r (.ref rx) (.ref ry) (nI n) rg), (oa rx cI cap X), (oa ry cI cap Y), (oc6 u (.ref ux) (.ref uy) (nI m2) rh), (oa ux cI cap2 U), (oa uy cI cap2 V)]) [0, 1, 2, 3, 4, 5, 6] (by decide) rfl
    rw [hQ9]
    exact W.vret hx hb hr (fun t ht hW => ⟨⟨rfl, by rw [ht]; exact hP9, hD9⟩, hS.F ht⟩) hS.2.2 dX3_between_14
set_option maxHeartbeats 4000000 in
set_option maxRecDepth 100000 in
theorem k_Fr_between_n (l : Launch) (dC : Nat → ClassId) (dI : Nat → Nat → Nat) (cI cZ cF : ClassId) (sz : Nat) (fr : Nat) (y1 : Int64) (y2 : Int64) (r : Nat) (rx : Nat) (ry : Nat) (n : Nat) (cap : Nat) (X : Nat → Int32) (Y : Nat → Int32) (rg : Int32) (u : Nat) (ux : Nat) (uy : Nat) (m2 : Nat) (cap2 : Nat) (U : Nat → Int32) (V : Nat → Int32) (rh : Int32) (hn : n ≤ cap) (hcap : cap ≤ 1000) (hp : pls n X Y) (hm : m2 ≤ cap2) (hcap2 : cap2 ≤ 1000) (hq : pls m2 U V) (htc : ¬ (∃ i, i < prt n rg ∧ ∃ j, j < prt m2 rh ∧ eMt n X Y i m2 U V j)) (h1n : 1 ≤ n) (h1m : 1 ≤ m2) (hpn : 1 ≤ prt n rg) (hpm : 1 ≤ prt m2 rh) : Met l yX3_between (.code yX3_between cX3_between 4 none :: ws0) ({ frames := 3, cells := 0, slots := 0, locals := 81 } : Room) (va_Pc [.ref fr, .ref r, .ref u] (zPre (dC, dI) classes (zTy cI cZ cF) [(oc2 fr y1 y2), (oc6 r (.ref rx) (.ref ry) (nI n) rg), (oa rx cI cap X), (oa ry cI cap Y), (oc6 u (.ref ux) (.ref uy) (nI m2) rh), (oa ux cI cap2 U), (oa uy cI cap2 V)] sz zXN)) (zQ none (fun t => ∃ (zu : Int), ∃ (zd : Int), (IM (btP n X Y (prt n rg) m2 U V (prt m2 rh)) zu zd) ∧ ((0 ≤ zu ∧ zu ≤ 4000000000000) ∧ (1 ≤ zd ∧ zd ≤ 2000000)) ∧ va_P (dC, dI) classes [(oc2 fr (jI zu) (jI zd)), (oc6 r (.ref rx) (.ref ry) (nI n) rg), (oa rx cI cap X), (oa ry cI cap Y), (oc6 u (.ref ux) (.ref uy) (nI m2) rh), (oa ux cI cap2 U), (oa uy cI cap2 V)] t.heap ∧ va_D (va_A [(oc2 fr y1 y2), (oc6 r (.ref rx) (.ref ry) (nI n) rg), (oa rx cI cap X), (oa ry cI cap Y), (oc6 u (.ref ux) (.ref uy) (nI m2) rh), (oa ux cI cap2 U), (oa uy cI cap2 V)] sz) [(oc2 fr (jI zu) (jI zd)), (oc6 r (.ref rx) (.ref ry) (nI n) rg), (oa rx cI cap X), (oa ry cI cap Y), (oc6 u (.ref ux) (.ref uy) (nI m2) rh), (oa ux cI cap2 U), (oa uy cI cap2 V)]) (va_A [(oc2 fr y1 y2), (oc6 r (.ref rx) (.ref ry) (nI n) rg), (oa rx cI cap X), (oa ry cI cap Y), (oc6 u (.ref ux) (.ref uy) (nI m2) rh), (oa ux cI cap2 U), (oa uy cI cap2 V)] sz)) 0 0 (va_A [(oc2 fr y1 y2), (oc6 r (.ref rx) (.ref ry) (nI n) rg), (oa rx cI cap X), (oa ry cI cap Y), (oc6 u (.ref ux) (.ref uy) (nI m2) rh), (oa ux cI cap2 U), (oa uy cI cap2 V)] sz) := by
  refine Met.ofW (cc := cX3_between) (maxL := 4) (ret := none) (by decide) rfl ?_
  intro p e s m args below meth c s₁ B hml hv
  obtain ⟨rfl, hsz, hP, hK, hD0, hXN⟩ := hv
  have hx := B.exec
  have hb := B.bytes
  have hr := B.returns
  have hts0 := atoms_spec (ws := .code yX3_between cX3_between 4 none :: ws0) B.pre
  have hts : ∀ w9 ∈ ws0, w9.before ([.ref fr, .ref r, .ref u] : List Value).toArray s = true := fun w9 h => hts0 w9 (List.mem_cons_of_mem _ h)
  have hown : s.vm.findClass "ScaleShop$Fraction" = some m.cls := findClass_of_methodNamed B.named
  have hlocks := B.notSynchronized
  subst hsz
  have hD := hD0.self (sz := s.heap.size)
  clear hD0
  generalize hAe : va_A [(oc2 fr y1 y2), (oc6 r (.ref rx) (.ref ry) (nI n) rg), (oa rx cI cap X), (oa ry cI cap Y), (oc6 u (.ref ux) (.ref uy) (nI m2) rh), (oa ux cI cap2 U), (oa uy cI cap2 V)] s.heap.size = A at hD ⊢
  have hA : ∀ q : Nat, s.heap.size ≤ q → A q := fun q h => by rw [← hAe]; exact Or.inr h
  clear hAe
  have hS : va_S A s.heap s.heap [] := va_S.rf
  have hP : va_P (dC, dI) classes [(oc2 fr y1 y2), (oc6 r (.ref rx) (.ref ry) (nI n) rg), (oa rx cI cap X), (oa ry cI cap Y), (oc6 u (.ref ux) (.ref uy) (nI m2) rh), (oa ux cI cap2 U), (oa uy cI cap2 V)] s.heap := hP
  obtain ⟨Q9, hQ9⟩ : ∃ Q9 : State → Prop, Q9 = MQ below (zQ none (fun t => ∃ (zu : Int), ∃ (zd : Int), (IM (btP n X Y (prt n rg) m2 U V (prt m2 rh)) zu zd) ∧ ((0 ≤ zu ∧ zu ≤ 4000000000000) ∧ (1 ≤ zd ∧ zd ≤ 2000000)) ∧ va_P (dC, dI) classes [(oc2 fr (jI zu) (jI zd)), (oc6 r (.ref rx) (.ref ry) (nI n) rg), (oa rx cI cap X), (oa ry cI cap Y), (oc6 u (.ref ux) (.ref uy) (nI m2) rh), (oa ux cI cap2 U), (oa uy cI cap2 V)] t.heap ∧ va_D A [(oc2 fr (jI zu) (jI zd)), (oc6 r (.ref rx) (.ref ry) (nI n) rg), (oa rx cI cap X), (oa ry cI cap Y), (oc6 u (.ref ux) (.ref uy) (nI m2) rh), (oa ux cI cap2 U), (oa uy cI cap2 V)]) A) ([.ref fr, .ref r, .ref u] : List Value).toArray s 0 0 A := ⟨_, rfl⟩
  rw [← hQ9]
  have hl := lv_entry ([.ref fr, .ref r, .ref u]) (n := 4) (Nat.le_of_ble_eq_true rfl)
  rw [lg_entry_eq]
  generalize (lg_sl ([.ref fr, .ref r, .ref u]) ++ List.replicate (4 - (lg_sl ([.ref fr, .ref r, .ref u])).length) Slot.unset).toArray = ls at hl ⊢
  have hl : lv_has ls 4 [(0, .ref fr), (1, .ref r), (2, .ref u)] := hl
  have hpr := prt_le n rg
  have hpr2 := prt_le m2 rh
  refine lv_aload_n hx hb dX3_between_0 rfl (lv_at hl 1 rfl) ?_
  refine lv_aload_n hx hb dX3_between_1 rfl (lv_at hl 2 rfl) ?_
  have hPc := hP.sub (ws' := [(oc6 r (.ref rx) (.ref ry) (nI n) rg), (oa rx cI cap X), (oa ry cI cap Y), (oc6 u (.ref ux) (.ref uy) (nI m2) rh), (oa ux cI cap2 U), (oa uy cI cap2 V)]) [1, 2, 3, 4, 5, 6] rfl
  have hDc := hD.sub (ws' := [(oc6 r (.ref rx) (.ref ry) (nI n) rg), (oa rx cI cap X), (oa ry cI cap Y), (oc6 u (.ref ux) (.ref uy) (nI m2) rh), (oa ux cI cap2 U), (oa uy cI cap2 V)]) [1, 2, 3, 4, 5, 6] (by decide) rfl
  have hFc := va_free (wc := [(oc6 r (.ref rx) (.ref ry) (nI n) rg), (oa rx cI cap X), (oa ry cI cap Y), (oc6 u (.ref ux) (.ref uy) (nI m2) rh), (oa ux cI cap2 U), (oa uy cI cap2 V)]) hD hS hA [1, 2, 3, 4, 5, 6] rfl
  refine zcall (st1 := [.int (pI (∃ i, i < prt n rg ∧ ∃ j, j < prt m2 rh ∧ eMt n X Y i m2 U V j))]) (va_runV (As := [.ref u]) (rest := []) ⟨hx, hb, hml, hown, hts⟩ (k_Row_touches l dC dI cI cZ cF s.heap.size r rx ry n cap X Y rg u ux uy m2 cap2 U V rh (by omega) (by omega) (by assumption) (by omega) (by omega) (by assumption)) (cwV 1 hts (zz_gV mw_929 mw_680 mw_681 mw_102 mc_yX7_touches) rfl rfl rfl (by decide +kernel) ⟨Nat.le_of_ble_eq_true rfl, Nat.le_of_ble_eq_true rfl⟩) (zPV2 (q0 := 0) (ci := 6) hPc hDc hK hXN rfl rfl) rfl rfl hl.1 rfl (lv_room (Nat.le_of_ble_eq_true rfl)) dX3_between_2 ⟨Nat.le_of_ble_eq_true rfl, Nat.le_of_ble_eq_true rfl⟩) hS hFc hFc rfl (fun t H1 locs ht hB hk1 hS => ?_)
  obtain ⟨hP1, hD1⟩ := hB
  rw [ht] at hP1
  obtain ⟨hP, hD⟩ := va_join (wr := [(oc2 fr y1 y2)]) (w1 := [(oc6 r (.ref rx) (.ref ry) (nI n) rg), (oa rx cI cap X), (oa ry cI cap Y), (oc6 u (.ref ux) (.ref uy) (nI m2) rh), (oa ux cI cap2 U), (oa uy cI cap2 V)]) hP hD [1, 2, 3, 4, 5, 6] [0] rfl rfl (by decide) (by decide) hk1 hFc hP1 hD1
  clear hk1 hPc hDc hFc hP1 hD1 ht
  generalize H1 = H at hP hS ⊢
  have hP : va_P (dC, dI) classes [(oc2 fr y1 y2), (oc6 r (.ref rx) (.ref ry) (nI n) rg), (oa rx cI cap X), (oa ry cI cap Y), (oc6 u (.ref ux) (.ref uy) (nI m2) rh), (oa ux cI cap2 U), (oa uy cI cap2 V)] H := hP
  have hD : va_D A [(oc2 fr y1 y2), (oc6 r (.ref rx) (.ref ry) (nI n) rg), (oa rx cI cap X), (oa ry cI cap Y), (oc6 u (.ref ux) (.ref uy) (nI m2) rh), (oa ux cI cap2 U), (oa uy cI cap2 V)] := hD
  refine lv_if_eq (tgt := 15) hx hb dX3_between_5 (by decide) (fun c_1 => ?_) (fun c_1 => ?_)
  · have c_1 : ¬ (∃ i, i < prt n rg ∧ ∃ j, j < prt m2 rh ∧ eMt n X Y i m2 U V j) := zp_0 c_1
    refine lv_aload_n hx hb dX3_between_15 rfl (lv_at hl 0 rfl) ?_
    have hPc := hP.sub (ws' := [(oc2 fr y1 y2)]) [0] rfl
    have hDc := hD.sub (ws' := [(oc2 fr y1 y2)]) [0] (by decide) rfl
    have hFc := va_free (wc := [(oc2 fr y1 y2)]) hD hS hA [0] rfl
    refine zcall (st1 := []) (va_runV (As := []) (rest := []) ⟨hx, hb, hml, hown, hts⟩ (k_Fr_clear l dC dI cI cZ cF H.size fr y1 y2 ) (cwV 0 hts (zz_gV mw_934 mw_935 mw_936 mw_106 mc_yX3_clear) rfl rfl rfl (by decide +kernel) ⟨Nat.le_of_ble_eq_true rfl, Nat.le_of_ble_eq_true rfl⟩) (zPV2 (q0 := 0) (ci := 2) hPc hDc hK hXN rfl rfl) rfl rfl hl.1 rfl (lv_room (Nat.le_of_ble_eq_true rfl)) dX3_between_16 ⟨Nat.le_of_ble_eq_true rfl, Nat.le_of_ble_eq_true rfl⟩) hS hFc hFc rfl (fun t H1 locs ht hB hk1 hS => ?_)
    obtain ⟨hP1, hD1⟩ := hB
    rw [ht] at hP1
    obtain ⟨hP, hD⟩ := va_join (wr := [(oc6 r (.ref rx) (.ref ry) (nI n) rg), (oa rx cI cap X), (oa ry cI cap Y), (oc6 u (.ref ux) (.ref uy) (nI m2) rh), (oa ux cI cap2 U), (oa uy cI cap2 V)]) (w1 := [(oc2 fr 0 0)]) hP hD [0] [1, 2, 3, 4, 5, 6] rfl rfl (by decide) (by decide) hk1 hFc hP1 hD1
    clear hk1 hPc hDc hFc hP1 hD1 ht
    generalize H1 = H at hP hS ⊢
    have hP := hP.sub (ws' := [(oc2 fr 0 0), (oc6 r (.ref rx) (.ref ry) (nI n) rg), (oa rx cI cap X), (oa ry cI cap Y), (oc6 u (.ref ux) (.ref uy) (nI m2) rh), (oa ux cI cap2 U), (oa uy cI cap2 V)]) [6, 0, 1, 2, 3, 4, 5] rfl
    have hD := hD.sub (ws' := [(oc2 fr 0 0), (oc6 r (.ref rx) (.ref ry) (nI n) rg), (oa rx cI cap X), (oa ry cI cap Y), (oc6 u (.ref ux) (.ref uy) (nI m2) rh), (oa ux cI cap2 U), (oa uy cI cap2 V)]) [6, 0, 1, 2, 3, 4, 5] (by decide) rfl
    have hP : va_P (dC, dI) classes [(oc2 fr 0 0), (oc6 r (.ref rx) (.ref ry) (nI n) rg), (oa rx cI cap X), (oa ry cI cap Y), (oc6 u (.ref ux) (.ref uy) (nI m2) rh), (oa ux cI cap2 U), (oa uy cI cap2 V)] H := hP
    have hD : va_D A [(oc2 fr 0 0), (oc6 r (.ref rx) (.ref ry) (nI n) rg), (oa rx cI cap X), (oa ry cI cap Y), (oc6 u (.ref ux) (.ref uy) (nI m2) rh), (oa ux cI cap2 U), (oa uy cI cap2 V)] := hD
    rw [jI_0] at hP hD
    refine lv_iconst (v := 0) hx hb dX3_between_19 (by decide) ?_
    refine lv_istore_n (lv' := [(3, .int 0), (0, .ref fr), (1, .ref r), (2, .ref u)]) hx hb dX3_between_20 rfl hl (by decide) rfl (fun ls hl => ?_)
    have hl_21 : ∀ (n9 : Nat) (i : Nat) (w1 : Int) (w2 : Int) (H : Heap) (locs : List Loc) (ls : Array Slot), n - i < n9 → (i ≤ n) → (IM (ffP (fun _ _ => False) m2 U V (prt m2 rh) X Y i) w1 w2) → ((0 ≤ w1 ∧ w1 ≤ 4000000000000) ∧ (0 ≤ w2 ∧ w2 ≤ 2000000)) → va_P (dC, dI) classes [(oc2 fr (jI w1) (jI w2)), (oc6 r (.ref rx) (.ref ry) (nI n) rg), (oa rx cI cap X), (oa ry cI cap Y), (oc6 u (.ref ux) (.ref uy) (nI m2) rh), (oa ux cI cap2 U), (oa uy cI cap2 V)] H → va_D A [(oc2 fr (jI w1) (jI w2)), (oc6 r (.ref rx) (.ref ry) (nI n) rg), (oa rx cI cap X), (oa ry cI cap Y), (oc6 u (.ref ux) (.ref uy) (nI m2) rh), (oa ux cI cap2 U), (oa uy cI cap2 V)] → va_S A s.heap H locs → lv_has ls 4 [(3, .int (nI i)), (0, .ref fr), (1, .ref r), (2, .ref u)] → W p l e ((headSpec (.code yX3_between cX3_between 4 none :: ws0) ({ frames := 3, cells := 0, slots := 0, locals := 81 } : Room)).room) s m ([.ref fr, .ref r, .ref u] : List Value).toArray below meth c H locs 0 0 Q9 (F0 m 21 ls []) := by
      intro n9
      induction n9 with
      | zero => intro i w1 w2 H locs ls hm; exact absurd hm (Nat.not_lt_zero _)
      | succ n9 ih_21 =>
        intro i w1 w2 H locs ls hm hi him hud hP hD hS hl
        refine lv_iload_n hx hb dX3_between_21 rfl (lv_at hl 0 rfl) ?_
        refine lv_aload_n hx hb dX3_between_22 rfl (lv_at hl 2 rfl) ?_
        refine va_get (D := (dC, dI)) (ci := 6) (v := .int (nI n)) (C := RX7) (T := TX7) (N := 4) hx hb hts inX7 hown hK hP 1 rfl rfl 2 (by decide) (hts _ mw_181) (fun _ h9 => h9) rfl dX3_between_23 ?_
        refine lv_icmp_ge (tgt := 52) hx hb dX3_between_26 (by decide) (fun c_2 => ?_) (fun c_2 => ?_)
        · have c_2 : ((n : Nat) : Int) ≤ ((i : Nat) : Int) := zc_le (nI_toInt (by omega)) (nI_toInt (by omega)) c_2
          refine lv_iconst (v := 0) hx hb dX3_between_52 (by decide) ?_
          refine lv_istore_n (lv' := [(3, .int 0), (0, .ref fr), (1, .ref r), (2, .ref u)]) hx hb dX3_between_53 rfl hl (by decide) rfl (fun ls hl => ?_)
          have hl_54 : ∀ (n9 : Nat) (i : Nat) (w1 : Int) (w2 : Int) (H : Heap) (locs : List Loc) (ls : Array Slot), m2 - i < n9 → (i ≤ m2) → (IM (ffP (ffP (fun _ _ => False) m2 U V (prt m2 rh) X Y n) n X Y (prt n rg) U V i) w1 w2) → ((0 ≤ w1 ∧ w1 ≤ 4000000000000) ∧ (0 ≤ w2 ∧ w2 ≤ 2000000)) → va_P (dC, dI) classes [(oc2 fr (jI w1) (jI w2)), (oc6 r (.ref rx) (.ref ry) (nI n) rg), (oa rx cI cap X), (oa ry cI cap Y), (oc6 u (.ref ux) (.ref uy) (nI m2) rh), (oa ux cI cap2 U), (oa uy cI cap2 V)] H → va_D A [(oc2 fr (jI w1) (jI w2)), (oc6 r (.ref rx) (.ref ry) (nI n) rg), (oa rx cI cap X), (oa ry cI cap Y), (oc6 u (.ref ux) (.ref uy) (nI m2) rh), (oa ux cI cap2 U), (oa uy cI cap2 V)] → va_S A s.heap H locs → lv_has ls 4 [(3, .int (nI i)), (0, .ref fr), (1, .ref r), (2, .ref u)] → W p l e ((headSpec (.code yX3_between cX3_between 4 none :: ws0) ({ frames := 3, cells := 0, slots := 0, locals := 81 } : Room)).room) s m ([.ref fr, .ref r, .ref u] : List Value).toArray below meth c H locs 0 0 Q9 (F0 m 54 ls []) := by
            intro n9
            induction n9 with
            | zero => intro i w1 w2 H locs ls hm; exact absurd hm (Nat.not_lt_zero _)
            | succ n9 ih_54 =>
              intro i w1 w2 H locs ls hm hi2 him2 hud2 hP hD hS hl
              refine lv_iload_n hx hb dX3_between_54 rfl (lv_at hl 0 rfl) ?_
              refine lv_aload_n hx hb dX3_between_55 rfl (lv_at hl 3 rfl) ?_
              refine va_get (D := (dC, dI)) (ci := 6) (v := .int (nI m2)) (C := RX7) (T := TX7) (N := 4) hx hb hts inX7 hown hK hP 4 rfl rfl 2 (by decide) (hts _ mw_181) (fun _ h9 => h9) rfl dX3_between_56 ?_
              refine lv_icmp_ge (tgt := 85) hx hb dX3_between_59 (by decide) (fun c_3 => ?_) (fun c_3 => ?_)
              · have c_3 : ((m2 : Nat) : Int) ≤ ((i : Nat) : Int) := zc_le (nI_toInt (by omega)) (nI_toInt (by omega)) c_3
                have hie : i = m2 := (by omega)
                rw [hie] at him2
                have hd1 := IM_pos him2 (Or.inr ⟨0, h1m, 0, hpn, rfl, rfl⟩)
                have hP9 := hP.sub (ws' := [(oc2 fr (jI w1) (jI w2)), (oc6 r (.ref rx) (.ref ry) (nI n) rg), (oa rx cI cap X), (oa ry cI cap Y), (oc6 u (.ref ux) (.ref uy) (nI m2) rh), (oa ux cI cap2 U), (oa uy cI cap2 V)]) [0, 1, 2, 3, 4, 5, 6] rfl
                have hD9 := hD.sub (ws' := [(oc2 fr (jI w1) (jI w2)), (oc6 r (.ref rx) (.ref ry) (nI n) rg), (oa rx cI cap X), (oa ry cI cap Y), (oc6 u (.ref ux) (.ref uy) (nI m2) rh), (oa ux cI cap2 U), (oa uy cI cap2 V)]) [0, 1, 2, 3, 4, 5, 6] (by decide) rfl
                rw [hQ9]
                exact W.vret hx hb hr (fun t ht hW => ⟨⟨rfl, w1, w2, (him2), (by omega), by rw [ht]; exact hP9, hD9⟩, hS.F ht⟩) hS.2.2 dX3_between_85
              · have c_3 : ((i : Nat) : Int) < ((m2 : Nat) : Int) := zc_nle (nI_toInt (by omega)) (nI_toInt (by omega)) c_3
                refine lv_aload_n hx hb dX3_between_62 rfl (lv_at hl 1 rfl) ?_
                refine lv_aload_n hx hb dX3_between_63 rfl (lv_at hl 3 rfl) ?_
                refine va_get (D := (dC, dI)) (ci := 6) (v := .ref ux) (C := RX7) (T := TX7) (N := 4) hx hb hts inX7 hown hK hP 4 rfl rfl 0 (by decide) (hts _ mw_166) (fun _ h9 => h9) rfl dX3_between_64 ?_
                refine lv_iload_n hx hb dX3_between_67 rfl (lv_at hl 0 rfl) ?_
                refine z_iald hx hb hK hP 5 0 rfl rfl (e := i) rfl (by omega) (by omega) dX3_between_68 ?_
                refine lv_aload_n hx hb dX3_between_69 rfl (lv_at hl 3 rfl) ?_
                refine va_get (D := (dC, dI)) (ci := 6) (v := .ref uy) (C := RX7) (T := TX7) (N := 4) hx hb hts inX7 hown hK hP 4 rfl rfl 1 (by decide) (hts _ mw_173) (fun _ h9 => h9) rfl dX3_between_70 ?_
                refine lv_iload_n hx hb dX3_between_73 rfl (lv_at hl 0 rfl) ?_
                refine z_iald hx hb hK hP 6 0 rfl rfl (e := i) rfl (by omega) (by omega) dX3_between_74 ?_
                refine lv_aload_n hx hb dX3_between_75 rfl (lv_at hl 2 rfl) ?_
                have hPc := hP.sub (ws' := [(oc2 fr (jI w1) (jI w2)), (oc6 r (.ref rx) (.ref ry) (nI n) rg), (oa rx cI cap X), (oa ry cI cap Y)]) [0, 1, 2, 3] rfl
                have hDc := hD.sub (ws' := [(oc2 fr (jI w1) (jI w2)), (oc6 r (.ref rx) (.ref ry) (nI n) rg), (oa rx cI cap X), (oa ry cI cap Y)]) [0, 1, 2, 3] (by decide) rfl
                have hFc := va_free (wc := [(oc2 fr (jI w1) (jI w2)), (oc6 r (.ref rx) (.ref ry) (nI n) rg), (oa rx cI cap X), (oa ry cI cap Y)]) hD hS hA [0, 1, 2, 3] rfl
                refine zcall (st1 := []) (va_runV (As := [.int (U i), .int (V i), .ref r]) (rest := []) ⟨hx, hb, hml, hown, hts⟩ (k_Fr_offerFrom l dC dI cI cZ cF H.size fr w1 w2 r rx ry n cap X Y rg (U i) (V i) (ffP (ffP (fun _ _ => False) m2 U V (prt m2 rh) X Y n) n X Y (prt n rg) U V i) (hud2.1) (hud2.2) (by omega) (by omega) (hp) ((hq i (by omega)).1) ((hq i (by omega)).2) (ffP_b (ffP_b (fun _ _ h => h.elim) hq hp hpr2 (Nat.le_refl _)) hp hq hpr hi2) (him2)) (cwV 3 hts (zz_gV mw_938 mw_939 mw_940 mw_106 mc_yX3_offerFrom) rfl rfl rfl (by decide +kernel) ⟨Nat.le_of_ble_eq_true rfl, Nat.le_of_ble_eq_true rfl⟩) (zPV2 (q0 := 0) (ci := 2) hPc hDc hK hXN rfl rfl) rfl rfl hl.1 rfl (lv_room (Nat.le_of_ble_eq_true rfl)) dX3_between_76 ⟨Nat.le_of_ble_eq_true rfl, Nat.le_of_ble_eq_true rfl⟩) hS hFc hFc rfl (fun t H1 locs ht hB hk1 hS => ?_)
                obtain ⟨zu9, zd9, him9, hzb9, hP1, hD1⟩ := hB
                rw [ht] at hP1
                obtain ⟨hP, hD⟩ := va_join (wr := [(oc6 u (.ref ux) (.ref uy) (nI m2) rh), (oa ux cI cap2 U), (oa uy cI cap2 V)]) (w1 := [(oc2 fr (jI zu9) (jI zd9)), (oc6 r (.ref rx) (.ref ry) (nI n) rg), (oa rx cI cap X), (oa ry cI cap Y)]) hP hD [0, 1, 2, 3] [4, 5, 6] rfl rfl (by decide) (by decide) hk1 hFc hP1 hD1
                clear hk1 hPc hDc hFc hP1 hD1 ht
                generalize H1 = H at hP hS ⊢
                have hP := hP.sub (ws' := [(oc2 fr (jI zu9) (jI zd9)), (oc6 r (.ref rx) (.ref ry) (nI n) rg), (oa rx cI cap X), (oa ry cI cap Y), (oc6 u (.ref ux) (.ref uy) (nI m2) rh), (oa ux cI cap2 U), (oa uy cI cap2 V)]) [3, 4, 5, 6, 0, 1, 2] rfl
                have hD := hD.sub (ws' := [(oc2 fr (jI zu9) (jI zd9)), (oc6 r (.ref rx) (.ref ry) (nI n) rg), (oa rx cI cap X), (oa ry cI cap Y), (oc6 u (.ref ux) (.ref uy) (nI m2) rh), (oa ux cI cap2 U), (oa uy cI cap2 V)]) [3, 4, 5, 6, 0, 1, 2] (by decide) rfl
                have hP : va_P (dC, dI) classes [(oc2 fr (jI zu9) (jI zd9)), (oc6 r (.ref rx) (.ref ry) (nI n) rg), (oa rx cI cap X), (oa ry cI cap Y), (oc6 u (.ref ux) (.ref uy) (nI m2) rh), (oa ux cI cap2 U), (oa uy cI cap2 V)] H := hP
                have hD : va_D A [(oc2 fr (jI zu9) (jI zd9)), (oc6 r (.ref rx) (.ref ry) (nI n) rg), (oa rx cI cap X), (oa ry cI cap Y), (oc6 u (.ref ux) (.ref uy) (nI m2) rh), (oa ux cI cap2 U), (oa uy cI cap2 V)] := hD
                refine lv_iinc (v := nI (i + 1)) (lv' := [(3, .int (nI (i + 1))), (0, .ref fr), (1, .ref r), (2, .ref u)]) hx hb dX3_between_79 hl (k := 0) rfl (nI_add i 1) (by decide) rfl (fun ls hl => ?_)
                refine lv_goto (tgt := 54) hx hb dX3_between_82 (by decide) ?_
                exact ih_54 (i + 1) zu9 zd9 H locs ls (by omega) (by omega) (ffP_s him9) (hzb9) hP hD hS (lv_sub hl [0, 1, 2, 3] rfl)
          exact hl_54 _ 0 w1 w2 H locs ls (Nat.lt_succ_self _) (by omega) (ffP_0 (by rw [show i = n by omega] at him; exact him)) (hud) hP hD hS (lv_sub hl [0, 1, 2, 3] rfl)
        · have c_2 : ((i : Nat) : Int) < ((n : Nat) : Int) := zc_nle (nI_toInt (by omega)) (nI_toInt (by omega)) c_2
          refine lv_aload_n hx hb dX3_between_29 rfl (lv_at hl 1 rfl) ?_
          refine lv_aload_n hx hb dX3_between_30 rfl (lv_at hl 2 rfl) ?_
          refine va_get (D := (dC, dI)) (ci := 6) (v := .ref rx) (C := RX7) (T := TX7) (N := 4) hx hb hts inX7 hown hK hP 1 rfl rfl 0 (by decide) (hts _ mw_166) (fun _ h9 => h9) rfl dX3_between_31 ?_
          refine lv_iload_n hx hb dX3_between_34 rfl (lv_at hl 0 rfl) ?_
          refine z_iald hx hb hK hP 2 0 rfl rfl (e := i) rfl (by omega) (by omega) dX3_between_35 ?_
          refine lv_aload_n hx hb dX3_between_36 rfl (lv_at hl 2 rfl) ?_
          refine va_get (D := (dC, dI)) (ci := 6) (v := .ref ry) (C := RX7) (T := TX7) (N := 4) hx hb hts inX7 hown hK hP 1 rfl rfl 1 (by decide) (hts _ mw_173) (fun _ h9 => h9) rfl dX3_between_37 ?_
          refine lv_iload_n hx hb dX3_between_40 rfl (lv_at hl 0 rfl) ?_
          refine z_iald hx hb hK hP 3 0 rfl rfl (e := i) rfl (by omega) (by omega) dX3_between_41 ?_
          refine lv_aload_n hx hb dX3_between_42 rfl (lv_at hl 3 rfl) ?_
          have hPc := hP.sub (ws' := [(oc2 fr (jI w1) (jI w2)), (oc6 u (.ref ux) (.ref uy) (nI m2) rh), (oa ux cI cap2 U), (oa uy cI cap2 V)]) [0, 4, 5, 6] rfl
          have hDc := hD.sub (ws' := [(oc2 fr (jI w1) (jI w2)), (oc6 u (.ref ux) (.ref uy) (nI m2) rh), (oa ux cI cap2 U), (oa uy cI cap2 V)]) [0, 4, 5, 6] (by decide) rfl
          have hFc := va_free (wc := [(oc2 fr (jI w1) (jI w2)), (oc6 u (.ref ux) (.ref uy) (nI m2) rh), (oa ux cI cap2 U), (oa uy cI cap2 V)]) hD hS hA [0, 4, 5, 6] rfl
          refine zcall (st1 := []) (va_runV (As := [.int (X i), .int (Y i), .ref u]) (rest := []) ⟨hx, hb, hml, hown, hts⟩ (k_Fr_offerFrom l dC dI cI cZ cF H.size fr w1 w2 u ux uy m2 cap2 U V rh (X i) (Y i) (ffP (fun _ _ => False) m2 U V (prt m2 rh) X Y i) (hud.1) (hud.2) (by omega) (by omega) (hq) ((hp i (by omega)).1) ((hp i (by omega)).2) (ffP_b (fun _ _ h => h.elim) hq hp hpr2 hi) (him)) (cwV 3 hts (zz_gV mw_938 mw_939 mw_940 mw_106 mc_yX3_offerFrom) rfl rfl rfl (by decide +kernel) ⟨Nat.le_of_ble_eq_true rfl, Nat.le_of_ble_eq_true rfl⟩) (zPV2 (q0 := 0) (ci := 2) hPc hDc hK hXN rfl rfl) rfl rfl hl.1 rfl (lv_room (Nat.le_of_ble_eq_true rfl)) dX3_between_43 ⟨Nat.le_of_ble_eq_true rfl, Nat.le_of_ble_eq_true rfl⟩) hS hFc hFc rfl (fun t H1 locs ht hB hk1 hS => ?_)
          obtain ⟨zu9, zd9, him9, hzb9, hP1, hD1⟩ := hB
          rw [ht] at hP1
          obtain ⟨hP, hD⟩ := va_join (wr := [(oc6 r (.ref rx) (.ref ry) (nI n) rg), (oa rx cI cap X), (oa ry cI cap Y)]) (w1 := [(oc2 fr (jI zu9) (jI zd9)), (oc6 u (.ref ux) (.ref uy) (nI m2) rh), (oa ux cI cap2 U), (oa uy cI cap2 V)]) hP hD [0, 4, 5, 6] [1, 2, 3] rfl rfl (by decide) (by decide) hk1 hFc hP1 hD1
          clear hk1 hPc hDc hFc hP1 hD1 ht
          generalize H1 = H at hP hS ⊢
          have hP := hP.sub (ws' := [(oc2 fr (jI zu9) (jI zd9)), (oc6 r (.ref rx) (.ref ry) (nI n) rg), (oa rx cI cap X), (oa ry cI cap Y), (oc6 u (.ref ux) (.ref uy) (nI m2) rh), (oa ux cI cap2 U), (oa uy cI cap2 V)]) [3, 0, 1, 2, 4, 5, 6] rfl
          have hD := hD.sub (ws' := [(oc2 fr (jI zu9) (jI zd9)), (oc6 r (.ref rx) (.ref ry) (nI n) rg), (oa rx cI cap X), (oa ry cI cap Y), (oc6 u (.ref ux) (.ref uy) (nI m2) rh), (oa ux cI cap2 U), (oa uy cI cap2 V)]) [3, 0, 1, 2, 4, 5, 6] (by decide) rfl
          have hP : va_P (dC, dI) classes [(oc2 fr (jI zu9) (jI zd9)), (oc6 r (.ref rx) (.ref ry) (nI n) rg), (oa rx cI cap X), (oa ry cI cap Y), (oc6 u (.ref ux) (.ref uy) (nI m2) rh), (oa ux cI cap2 U), (oa uy cI cap2 V)] H := hP
          have hD : va_D A [(oc2 fr (jI zu9) (jI zd9)), (oc6 r (.ref rx) (.ref ry) (nI n) rg), (oa rx cI cap X), (oa ry cI cap Y), (oc6 u (.ref ux) (.ref uy) (nI m2) rh), (oa ux cI cap2 U), (oa uy cI cap2 V)] := hD
          refine lv_iinc (v := nI (i + 1)) (lv' := [(3, .int (nI (i + 1))), (0, .ref fr), (1, .ref r), (2, .ref u)]) hx hb dX3_between_46 hl (k := 0) rfl (nI_add i 1) (by decide) rfl (fun ls hl => ?_)
          refine lv_goto (tgt := 21) hx hb dX3_between_49 (by decide) ?_
          exact ih_21 (i + 1) zu9 zd9 H locs ls (by omega) (by omega) (ffP_s him9) (hzb9) hP hD hS (lv_sub hl [0, 1, 2, 3] rfl)
    exact hl_21 _ 0 0 0 H locs ls (Nat.lt_succ_self _) (by omega) (ffP_0 IM_no) (by omega) hP hD hS (lv_sub hl [0, 1, 2, 3] rfl)
  · have c_1 : ∃ i, i < prt n rg ∧ ∃ j, j < prt m2 rh ∧ eMt n X Y i m2 U V j := zp_1 c_1
    exfalso; exact absurd (by assumption) htc
set_option maxHeartbeats 4000000 in
set_option maxRecDepth 100000 in
theorem k_Fr_isOver (l : Launch) (dC : Nat → ClassId) (dI : Nat → Nat → Nat) (cI cZ cF : ClassId) (sz : Nat) (fr : Nat) (o9 : Int) (d9 : Int) (gp9 : Int32) (ho : 0 ≤ o9 ∧ o9 ≤ 4000000000000) (hd : 0 ≤ d9 ∧ d9 ≤ 2000000) (hgp : 0 ≤ gp9.toInt ∧ gp9.toInt ≤ 1000) : Met l yX3_isOver (.code yX3_isOver cX3_isOver 2 (some .boolean) :: ws0) ({ frames := 0, cells := 0, slots := 0, locals := 0 } : Room) (va_Pc [.ref fr, .int gp9] (zPre (dC, dI) classes (zTy cI cZ cF) [(oc2 fr (jI o9) (jI d9))] sz zXN)) (zQ (some (.int (pI (gp9.toInt * gp9.toInt * d9 < o9)))) (fun t => va_P (dC, dI) classes [(oc2 fr (jI o9) (jI d9))] t.heap ∧ va_D (va_A [(oc2 fr (jI o9) (jI d9))] sz) [(oc2 fr (jI o9) (jI d9))]) (va_A [(oc2 fr (jI o9) (jI d9))] sz)) 0 0 (va_A [(oc2 fr (jI o9) (jI d9))] sz) := by
  refine Met.ofW (cc := cX3_isOver) (maxL := 2) (ret := (some .boolean)) (by decide) rfl ?_
  intro p e s m args below meth c s₁ B hml hv
  obtain ⟨rfl, hsz, hP, hK, hD0, hXN⟩ := hv
  have hx := B.exec
  have hb := B.bytes
  have hr := B.returns
  have hts0 := atoms_spec (ws := .code yX3_isOver cX3_isOver 2 (some .boolean) :: ws0) B.pre
  have hts : ∀ w9 ∈ ws0, w9.before ([.ref fr, .int gp9] : List Value).toArray s = true := fun w9 h => hts0 w9 (List.mem_cons_of_mem _ h)
  have hown : s.vm.findClass "ScaleShop$Fraction" = some m.cls := findClass_of_methodNamed B.named
  have hlocks := B.notSynchronized
  subst hsz
  have hD := hD0.self (sz := s.heap.size)
  clear hD0
  generalize hAe : va_A [(oc2 fr (jI o9) (jI d9))] s.heap.size = A at hD ⊢
  have hA : ∀ q : Nat, s.heap.size ≤ q → A q := fun q h => by rw [← hAe]; exact Or.inr h
  clear hAe
  have hS : va_S A s.heap s.heap [] := va_S.rf
  have hP : va_P (dC, dI) classes [(oc2 fr (jI o9) (jI d9))] s.heap := hP
  obtain ⟨Q9, hQ9⟩ : ∃ Q9 : State → Prop, Q9 = MQ below (zQ (some (.int (pI (gp9.toInt * gp9.toInt * d9 < o9)))) (fun t => va_P (dC, dI) classes [(oc2 fr (jI o9) (jI d9))] t.heap ∧ va_D A [(oc2 fr (jI o9) (jI d9))]) A) ([.ref fr, .int gp9] : List Value).toArray s 0 0 A := ⟨_, rfl⟩
  rw [← hQ9]
  have hl := lv_entry ([.ref fr, .int gp9]) (n := 2) (Nat.le_of_ble_eq_true rfl)
  rw [lg_entry_eq]
  generalize (lg_sl ([.ref fr, .int gp9]) ++ List.replicate (2 - (lg_sl ([.ref fr, .int gp9])).length) Slot.unset).toArray = ls at hl ⊢
  have hl : lv_has ls 2 [(0, .ref fr), (1, .int gp9)] := hl
  have hgb := fgB (D := d9) hgp hd
  refine lv_aload_n hx hb dX3_isOver_0 rfl (lv_at hl 0 rfl) ?_
  refine va_get (D := (dC, dI)) (ci := 2) (v := .long (jI o9)) (C := RX3) (T := TX3) (N := 2) hx hb hts inX3 hown hK hP 0 rfl rfl 0 (by decide) (hts _ mw_273) (fun _ h9 => h9) rfl dX3_isOver_1 ?_
  refine lv_iload_n hx hb dX3_isOver_4 rfl (lv_at hl 1 rfl) ?_
  refine lv_i2l (v := gp9.toInt64) hx hb dX3_isOver_5 (rfl) ?_
  refine lv_iload_n hx hb dX3_isOver_6 rfl (lv_at hl 1 rfl) ?_
  refine lv_i2l (v := gp9.toInt64) hx hb dX3_isOver_7 (rfl) ?_
  refine lv_lmul hx hb dX3_isOver_8 ?_
  refine lv_aload_n hx hb dX3_isOver_9 rfl (lv_at hl 0 rfl) ?_
  refine va_get (D := (dC, dI)) (ci := 2) (v := .long (jI d9)) (C := RX3) (T := TX3) (N := 2) hx hb hts inX3 hown hK hP 0 rfl rfl 1 (by decide) (hts _ mw_275) (fun _ h9 => h9) rfl dX3_isOver_10 ?_
  refine lv_lmul hx hb dX3_isOver_13 ?_
  refine zz_l (v := jI (gp9.toInt * gp9.toInt * d9)) (fgL hgp hd) ?_
  refine W.lcmp hx hb dX3_isOver_14 ?_
  refine lv_if_le (tgt := 22) hx hb dX3_isOver_15 (by decide) (fun c_1 => ?_) (fun c_1 => ?_)
  · have c_1 : o9 ≤ (gp9.toInt * gp9.toInt * d9) := zl_le (jI_toInt (by omega)) (jI_toInt (by omega)) c_1
    refine lv_iconst (v := 0) hx hb dX3_isOver_22 (by decide) ?_
    have hP9 := hP.sub (ws' := [(oc2 fr (jI o9) (jI d9))]) [0] rfl
    have hD9 := hD.sub (ws' := [(oc2 fr (jI o9) (jI d9))]) [0] (by decide) rfl
    rw [hQ9]
    exact W.zret (ty := .boolean) (v := 0) hx hb hr (rfl) (fun t ht hW => ⟨⟨congrArg (fun z => Outcome.returned (some (Value.int z))) (show (0 : Int32) = pI (gp9.toInt * gp9.toInt * d9 < o9) from (zp_f (by omega)).symm), by rw [ht]; exact hP9, hD9⟩, hS.F ht⟩) hS.2.2 dX3_isOver_23
  · have c_1 : (gp9.toInt * gp9.toInt * d9) < o9 := zl_nle (jI_toInt (by omega)) (jI_toInt (by omega)) c_1
    refine lv_iconst (v := 1) hx hb dX3_isOver_18 (by decide) ?_
    refine lv_goto (tgt := 23) hx hb dX3_isOver_19 (by decide) ?_
    have hP9 := hP.sub (ws' := [(oc2 fr (jI o9) (jI d9))]) [0] rfl
    have hD9 := hD.sub (ws' := [(oc2 fr (jI o9) (jI d9))]) [0] (by decide) rfl
    rw [hQ9]
    exact W.zret (ty := .boolean) (v := 1) hx hb hr (rfl) (fun t ht hW => ⟨⟨congrArg (fun z => Outcome.returned (some (Value.int z))) (show (1 : Int32) = pI (gp9.toInt * gp9.toInt * d9 < o9) from (zp_t (by omega)).symm), by rw [ht]; exact hP9, hD9⟩, hS.F ht⟩) hS.2.2 dX3_isOver_23
set_option maxHeartbeats 4000000 in
set_option maxRecDepth 100000 in
theorem k_Fr_isHalfBelow (l : Launch) (dC : Nat → ClassId) (dI : Nat → Nat → Nat) (cI cZ cF : ClassId) (sz : Nat) (fr : Nat) (o9 : Int) (d9 : Int) (gp9 : Int32) (ho : 0 ≤ o9 ∧ o9 ≤ 4000000000000) (hd : 0 ≤ d9 ∧ d9 ≤ 2000000) (hgp : 0 ≤ gp9.toInt ∧ gp9.toInt ≤ 1000) : Met l yX3_isHalfBelow (.code yX3_isHalfBelow cX3_isHalfBelow 2 (some .boolean) :: ws0) ({ frames := 0, cells := 0, slots := 0, locals := 0 } : Room) (va_Pc [.ref fr, .int gp9] (zPre (dC, dI) classes (zTy cI cZ cF) [(oc2 fr (jI o9) (jI d9))] sz zXN)) (zQ (some (.int (pI (4 * o9 < gp9.toInt * gp9.toInt * d9)))) (fun t => va_P (dC, dI) classes [(oc2 fr (jI o9) (jI d9))] t.heap ∧ va_D (va_A [(oc2 fr (jI o9) (jI d9))] sz) [(oc2 fr (jI o9) (jI d9))]) (va_A [(oc2 fr (jI o9) (jI d9))] sz)) 0 0 (va_A [(oc2 fr (jI o9) (jI d9))] sz) := by
  refine Met.ofW (cc := cX3_isHalfBelow) (maxL := 2) (ret := (some .boolean)) (by decide) rfl ?_
  intro p e s m args below meth c s₁ B hml hv
  obtain ⟨rfl, hsz, hP, hK, hD0, hXN⟩ := hv
  have hx := B.exec
  have hb := B.bytes
  have hr := B.returns
  have hts0 := atoms_spec (ws := .code yX3_isHalfBelow cX3_isHalfBelow 2 (some .boolean) :: ws0) B.pre
  have hts : ∀ w9 ∈ ws0, w9.before ([.ref fr, .int gp9] : List Value).toArray s = true := fun w9 h => hts0 w9 (List.mem_cons_of_mem _ h)
  have hown : s.vm.findClass "ScaleShop$Fraction" = some m.cls := findClass_of_methodNamed B.named
  have hlocks := B.notSynchronized
  subst hsz
  have hD := hD0.self (sz := s.heap.size)
  clear hD0
  generalize hAe : va_A [(oc2 fr (jI o9) (jI d9))] s.heap.size = A at hD ⊢
  have hA : ∀ q : Nat, s.heap.size ≤ q → A q := fun q h => by rw [← hAe]; exact Or.inr h
  clear hAe
  have hS : va_S A s.heap s.heap [] := va_S.rf
  have hP : va_P (dC, dI) classes [(oc2 fr (jI o9) (jI d9))] s.heap := hP
  obtain ⟨Q9, hQ9⟩ : ∃ Q9 : State → Prop, Q9 = MQ below (zQ (some (.int (pI (4 * o9 < gp9.toInt * gp9.toInt * d9)))) (fun t => va_P (dC, dI) classes [(oc2 fr (jI o9) (jI d9))] t.heap ∧ va_D A [(oc2 fr (jI o9) (jI d9))]) A) ([.ref fr, .int gp9] : List Value).toArray s 0 0 A := ⟨_, rfl⟩
  rw [← hQ9]
  have hl := lv_entry ([.ref fr, .int gp9]) (n := 2) (Nat.le_of_ble_eq_true rfl)
  rw [lg_entry_eq]
  generalize (lg_sl ([.ref fr, .int gp9]) ++ List.replicate (2 - (lg_sl ([.ref fr, .int gp9])).length) Slot.unset).toArray = ls at hl ⊢
  have hl : lv_has ls 2 [(0, .ref fr), (1, .int gp9)] := hl
  have hgb := fgB (D := d9) hgp hd
  refine lv_ldc2 hx hb hown (hts _ mw_1099) dX3_isHalfBelow_0 ?_
  refine lv_aload_n hx hb dX3_isHalfBelow_3 rfl (lv_at hl 0 rfl) ?_
  refine va_get (D := (dC, dI)) (ci := 2) (v := .long (jI o9)) (C := RX3) (T := TX3) (N := 2) hx hb hts inX3 hown hK hP 0 rfl rfl 0 (by decide) (hts _ mw_273) (fun _ h9 => h9) rfl dX3_isHalfBelow_4 ?_
  refine lv_lmul hx hb dX3_isHalfBelow_7 ?_
  refine zz_l (v := jI (4 * o9)) (by rw [show (4 : Int64) = jI 4 from rfl]; exact jI_mul (by omega) (by omega) (by omega)) ?_
  refine lv_iload_n hx hb dX3_isHalfBelow_8 rfl (lv_at hl 1 rfl) ?_
  refine lv_i2l (v := gp9.toInt64) hx hb dX3_isHalfBelow_9 (rfl) ?_
  refine lv_iload_n hx hb dX3_isHalfBelow_10 rfl (lv_at hl 1 rfl) ?_
  refine lv_i2l (v := gp9.toInt64) hx hb dX3_isHalfBelow_11 (rfl) ?_
  refine lv_lmul hx hb dX3_isHalfBelow_12 ?_
  refine lv_aload_n hx hb dX3_isHalfBelow_13 rfl (lv_at hl 0 rfl) ?_
  refine va_get (D := (dC, dI)) (ci := 2) (v := .long (jI d9)) (C := RX3) (T := TX3) (N := 2) hx hb hts inX3 hown hK hP 0 rfl rfl 1 (by decide) (hts _ mw_275) (fun _ h9 => h9) rfl dX3_isHalfBelow_14 ?_
  refine lv_lmul hx hb dX3_isHalfBelow_17 ?_
  refine zz_l (v := jI (gp9.toInt * gp9.toInt * d9)) (fgL hgp hd) ?_
  refine W.lcmp hx hb dX3_isHalfBelow_18 ?_
  refine lv_if_ge (tgt := 26) hx hb dX3_isHalfBelow_19 (by decide) (fun c_1 => ?_) (fun c_1 => ?_)
  · have c_1 : (gp9.toInt * gp9.toInt * d9) ≤ (4 * o9) := zl_ge (jI_toInt (by omega)) (jI_toInt (by omega)) c_1
    refine lv_iconst (v := 0) hx hb dX3_isHalfBelow_26 (by decide) ?_
    have hP9 := hP.sub (ws' := [(oc2 fr (jI o9) (jI d9))]) [0] rfl
    have hD9 := hD.sub (ws' := [(oc2 fr (jI o9) (jI d9))]) [0] (by decide) rfl
    rw [hQ9]
    exact W.zret (ty := .boolean) (v := 0) hx hb hr (rfl) (fun t ht hW => ⟨⟨congrArg (fun z => Outcome.returned (some (Value.int z))) (show (0 : Int32) = pI (4 * o9 < gp9.toInt * gp9.toInt * d9) from (zp_f (by omega)).symm), by rw [ht]; exact hP9, hD9⟩, hS.F ht⟩) hS.2.2 dX3_isHalfBelow_27
  · have c_1 : (4 * o9) < (gp9.toInt * gp9.toInt * d9) := zl_nge (jI_toInt (by omega)) (jI_toInt (by omega)) c_1
    refine lv_iconst (v := 1) hx hb dX3_isHalfBelow_22 (by decide) ?_
    refine lv_goto (tgt := 27) hx hb dX3_isHalfBelow_23 (by decide) ?_
    have hP9 := hP.sub (ws' := [(oc2 fr (jI o9) (jI d9))]) [0] rfl
    have hD9 := hD.sub (ws' := [(oc2 fr (jI o9) (jI d9))]) [0] (by decide) rfl
    rw [hQ9]
    exact W.zret (ty := .boolean) (v := 1) hx hb hr (rfl) (fun t ht hW => ⟨⟨congrArg (fun z => Outcome.returned (some (Value.int z))) (show (1 : Int32) = pI (4 * o9 < gp9.toInt * gp9.toInt * d9) from (zp_t (by omega)).symm), by rw [ht]; exact hP9, hD9⟩, hS.F ht⟩) hS.2.2 dX3_isHalfBelow_27
set_option maxHeartbeats 4000000 in
set_option maxRecDepth 100000 in
theorem k_Fr_reduced_0 (l : Launch) (dC : Nat → ClassId) (dI : Nat → Nat → Nat) (cI cZ cF : ClassId) (sz : Nat) (fr : Nat) (un : Nat) (dd : Nat) (hun : un ≤ 4000000000000) (hdd : 1 ≤ dd ∧ dd ≤ 2000000) : Met l yX3_reduced (.code yX3_reduced cX3_reduced 9 (some .long) :: ws0) ({ frames := 0, cells := 0, slots := 0, locals := 0 } : Room) (va_Pc [.ref fr, .int 0] (zPre (dC, dI) classes (zTy cI cZ cF) [(oc2 fr (jI ((un : Nat) : Int)) (jI ((dd : Nat) : Int)))] sz zXN)) (zQ (some (.long (jI ((un / Nat.gcd un dd : Nat) : Int)))) (fun t => va_P (dC, dI) classes [(oc2 fr (jI ((un : Nat) : Int)) (jI ((dd : Nat) : Int)))] t.heap ∧ va_D (va_A [(oc2 fr (jI ((un : Nat) : Int)) (jI ((dd : Nat) : Int)))] sz) [(oc2 fr (jI ((un : Nat) : Int)) (jI ((dd : Nat) : Int)))]) (va_A [(oc2 fr (jI ((un : Nat) : Int)) (jI ((dd : Nat) : Int)))] sz)) 0 0 (va_A [(oc2 fr (jI ((un : Nat) : Int)) (jI ((dd : Nat) : Int)))] sz) := by
  refine Met.ofW (cc := cX3_reduced) (maxL := 9) (ret := (some .long)) (by decide) rfl ?_
  intro p e s m args below meth c s₁ B hml hv
  obtain ⟨rfl, hsz, hP, hK, hD0, hXN⟩ := hv
  have hx := B.exec
  have hb := B.bytes
  have hr := B.returns
  have hts0 := atoms_spec (ws := .code yX3_reduced cX3_reduced 9 (some .long) :: ws0) B.pre
  have hts : ∀ w9 ∈ ws0, w9.before ([.ref fr, .int 0] : List Value).toArray s = true := fun w9 h => hts0 w9 (List.mem_cons_of_mem _ h)
  have hown : s.vm.findClass "ScaleShop$Fraction" = some m.cls := findClass_of_methodNamed B.named
  have hlocks := B.notSynchronized
  subst hsz
  have hD := hD0.self (sz := s.heap.size)
  clear hD0
  generalize hAe : va_A [(oc2 fr (jI ((un : Nat) : Int)) (jI ((dd : Nat) : Int)))] s.heap.size = A at hD ⊢
  have hA : ∀ q : Nat, s.heap.size ≤ q → A q := fun q h => by rw [← hAe]; exact Or.inr h
  clear hAe
  have hS : va_S A s.heap s.heap [] := va_S.rf
  have hP : va_P (dC, dI) classes [(oc2 fr (jI ((un : Nat) : Int)) (jI ((dd : Nat) : Int)))] s.heap := hP
  obtain ⟨Q9, hQ9⟩ : ∃ Q9 : State → Prop, Q9 = MQ below (zQ (some (.long (jI ((un / Nat.gcd un dd : Nat) : Int)))) (fun t => va_P (dC, dI) classes [(oc2 fr (jI ((un : Nat) : Int)) (jI ((dd : Nat) : Int)))] t.heap ∧ va_D A [(oc2 fr (jI ((un : Nat) : Int)) (jI ((dd : Nat) : Int)))]) A) ([.ref fr, .int 0] : List Value).toArray s 0 0 A := ⟨_, rfl⟩
  rw [← hQ9]
  have hl := lv_entry ([.ref fr, .int 0]) (n := 9) (Nat.le_of_ble_eq_true rfl)
  rw [lg_entry_eq]
  generalize (lg_sl ([.ref fr, .int 0]) ++ List.replicate (9 - (lg_sl ([.ref fr, .int 0])).length) Slot.unset).toArray = ls at hl ⊢
  have hl : lv_has ls 9 [(0, .ref fr), (1, .int 0)] := hl
  refine lv_aload_n hx hb dX3_reduced_0 rfl (lv_at hl 0 rfl) ?_
  refine va_get (D := (dC, dI)) (ci := 2) (v := .long (jI ((un : Nat) : Int))) (C := RX3) (T := TX3) (N := 2) hx hb hts inX3 hown hK hP 0 rfl rfl 0 (by decide) (hts _ mw_273) (fun _ h9 => h9) rfl dX3_reduced_1 ?_
  refine lv_lstore_n (lv' := [(2, .long (jI ((un : Nat) : Int))), (0, .ref fr), (1, .int 0)]) hx hb dX3_reduced_4 rfl hl (by decide) rfl (fun ls hl => ?_)
  refine lv_aload_n hx hb dX3_reduced_5 rfl (lv_at hl 1 rfl) ?_
  refine va_get (D := (dC, dI)) (ci := 2) (v := .long (jI ((dd : Nat) : Int))) (C := RX3) (T := TX3) (N := 2) hx hb hts inX3 hown hK hP 0 rfl rfl 1 (by decide) (hts _ mw_275) (fun _ h9 => h9) rfl dX3_reduced_6 ?_
  refine lv_lstore (lv' := [(4, .long (jI ((dd : Nat) : Int))), (2, .long (jI ((un : Nat) : Int))), (0, .ref fr), (1, .int 0)]) hx hb dX3_reduced_9 hl (by decide) rfl (fun ls hl => ?_)
  refine lv_iconst (v := 0) hx hb dX3_reduced_11 (by decide) ?_
  refine lv_istore (lv' := [(6, .int 0), (4, .long (jI ((dd : Nat) : Int))), (2, .long (jI ((un : Nat) : Int))), (0, .ref fr), (1, .int 0)]) hx hb dX3_reduced_12 hl (by decide) rfl (fun ls hl => ?_)
  have hl_14 : ∀ (n9 : Nat) (i : Nat) (aa : Nat) (bb : Nat) (H : Heap) (locs : List Loc) (ls : Array Slot), 200 - i < n9 → (i ≤ 200) → (aa ≤ 4000000000000 ∧ bb ≤ 2000000) → (Nat.gcd aa bb = Nat.gcd un dd) → (euI aa bb i) → va_P (dC, dI) classes [(oc2 fr (jI ((un : Nat) : Int)) (jI ((dd : Nat) : Int)))] H → va_D A [(oc2 fr (jI ((un : Nat) : Int)) (jI ((dd : Nat) : Int)))] → va_S A s.heap H locs → lv_has ls 9 [(6, .int (nI i)), (4, .long (jI ((bb : Nat) : Int))), (2, .long (jI ((aa : Nat) : Int))), (0, .ref fr), (1, .int 0)] → W p l e ((headSpec (.code yX3_reduced cX3_reduced 9 (some .long) :: ws0) ({ frames := 0, cells := 0, slots := 0, locals := 0 } : Room)).room) s m ([.ref fr, .int 0] : List Value).toArray below meth c H locs 0 0 Q9 (F0 m 14 ls []) := by
    intro n9
    induction n9 with
    | zero => intro i aa bb H locs ls hm; exact absurd hm (Nat.not_lt_zero _)
    | succ n9 ih_14 =>
      intro i aa bb H locs ls hm hi hab hgc heu hP hD hS hl
      refine lv_iload hx hb dX3_reduced_14 (lv_at hl 0 rfl) ?_
      refine lv_sipush (v := 200) hx hb dX3_reduced_16 (by decide) ?_
      refine lv_icmp_ge (tgt := 48) hx hb dX3_reduced_19 (by decide) (fun c_1 => ?_) (fun c_1 => ?_)
      · have c_1 : 200 ≤ ((i : Nat) : Int) := zc_le (by decide) (nI_toInt (by omega)) c_1
        have hb0 : bb = 0 := (by first | omega | (rw [show i = 200 by omega] at heu; exact euI_e heu))
        have hag : aa = Nat.gcd un dd := (by rw [← hgc, hb0, Nat.gcd_zero_right])
        have hgp : 0 < Nat.gcd un dd := Nat.gcd_pos_of_pos_right un (by omega)
        refine lv_lload_n hx hb dX3_reduced_48 rfl (lv_at hl 2 rfl) ?_
        refine lv_lconst (v := 0) hx hb dX3_reduced_49 (by decide) ?_
        refine W.lcmp hx hb dX3_reduced_50 ?_
        refine lv_if_ne (tgt := 64) hx hb dX3_reduced_51 (by decide) (fun c_2 => ?_) (fun c_2 => ?_)
        · have c_2 : ¬ ((aa : Nat) : Int) = 0 := zl_ne (jI_toInt (by omega)) (by decide) c_2
          refine lv_iload_n hx hb dX3_reduced_64 rfl (lv_at hl 4 rfl) ?_
          refine lv_if_ne (tgt := 75) hx hb dX3_reduced_65 (by decide) (fun c_3 => ?_) (fun c_3 => ?_)
          · exact absurd (by decide) c_3
          · refine lv_aload_n hx hb dX3_reduced_68 rfl (lv_at hl 3 rfl) ?_
            refine va_get (D := (dC, dI)) (ci := 2) (v := .long (jI ((un : Nat) : Int))) (C := RX3) (T := TX3) (N := 2) hx hb hts inX3 hown hK hP 0 rfl rfl 0 (by decide) (hts _ mw_273) (fun _ h9 => h9) rfl dX3_reduced_69 ?_
            refine lv_goto (tgt := 79) hx hb dX3_reduced_72 (by decide) ?_
            refine lv_lload_n hx hb dX3_reduced_79 rfl (lv_at hl 2 rfl) ?_
            refine lv_ldiv hx hb dX3_reduced_80 (jN_ne (by omega) (by omega)) ?_
            refine zz_l (v := jI ((un / Nat.gcd un dd : Nat) : Int)) (by rw [jN_div (by omega) (by omega) (by omega), hag]) ?_
            have hP9 := hP.sub (ws' := [(oc2 fr (jI ((un : Nat) : Int)) (jI ((dd : Nat) : Int)))]) [0] rfl
            have hD9 := hD.sub (ws' := [(oc2 fr (jI ((un : Nat) : Int)) (jI ((dd : Nat) : Int)))]) [0] (by decide) rfl
            rw [hQ9]
            exact W.lret (v := jI ((un / Nat.gcd un dd : Nat) : Int)) hx hb hr (fun t ht hW => ⟨⟨rfl, by rw [ht]; exact hP9, hD9⟩, hS.F ht⟩) hS.2.2 dX3_reduced_81
        · have c_2 : ((aa : Nat) : Int) = 0 := zl_eq (jI_toInt (by omega)) (by decide) c_2
          exfalso; omega
      · have c_1 : ((i : Nat) : Int) < 200 := zc_nle (by decide) (nI_toInt (by omega)) c_1
        refine lv_lload hx hb dX3_reduced_22 (lv_at hl 1 rfl) ?_
        refine lv_lconst (v := 0) hx hb dX3_reduced_24 (by decide) ?_
        refine W.lcmp hx hb dX3_reduced_25 ?_
        refine lv_if_eq (tgt := 48) hx hb dX3_reduced_26 (by decide) (fun c_4 => ?_) (fun c_4 => ?_)
        · have c_4 : ((bb : Nat) : Int) = 0 := zl_eq (jI_toInt (by omega)) (by decide) c_4
          have hb0 : bb = 0 := (by first | omega | (rw [show i = 200 by omega] at heu; exact euI_e heu))
          have hag : aa = Nat.gcd un dd := (by rw [← hgc, hb0, Nat.gcd_zero_right])
          have hgp : 0 < Nat.gcd un dd := Nat.gcd_pos_of_pos_right un (by omega)
          refine lv_lload_n hx hb dX3_reduced_48 rfl (lv_at hl 2 rfl) ?_
          refine lv_lconst (v := 0) hx hb dX3_reduced_49 (by decide) ?_
          refine W.lcmp hx hb dX3_reduced_50 ?_
          refine lv_if_ne (tgt := 64) hx hb dX3_reduced_51 (by decide) (fun c_5 => ?_) (fun c_5 => ?_)
          · have c_5 : ¬ ((aa : Nat) : Int) = 0 := zl_ne (jI_toInt (by omega)) (by decide) c_5
            refine lv_iload_n hx hb dX3_reduced_64 rfl (lv_at hl 4 rfl) ?_
            refine lv_if_ne (tgt := 75) hx hb dX3_reduced_65 (by decide) (fun c_6 => ?_) (fun c_6 => ?_)
            · exact absurd (by decide) c_6
            · refine lv_aload_n hx hb dX3_reduced_68 rfl (lv_at hl 3 rfl) ?_
              refine va_get (D := (dC, dI)) (ci := 2) (v := .long (jI ((un : Nat) : Int))) (C := RX3) (T := TX3) (N := 2) hx hb hts inX3 hown hK hP 0 rfl rfl 0 (by decide) (hts _ mw_273) (fun _ h9 => h9) rfl dX3_reduced_69 ?_
              refine lv_goto (tgt := 79) hx hb dX3_reduced_72 (by decide) ?_
              refine lv_lload_n hx hb dX3_reduced_79 rfl (lv_at hl 2 rfl) ?_
              refine lv_ldiv hx hb dX3_reduced_80 (jN_ne (by omega) (by omega)) ?_
              refine zz_l (v := jI ((un / Nat.gcd un dd : Nat) : Int)) (by rw [jN_div (by omega) (by omega) (by omega), hag]) ?_
              have hP9 := hP.sub (ws' := [(oc2 fr (jI ((un : Nat) : Int)) (jI ((dd : Nat) : Int)))]) [0] rfl
              have hD9 := hD.sub (ws' := [(oc2 fr (jI ((un : Nat) : Int)) (jI ((dd : Nat) : Int)))]) [0] (by decide) rfl
              rw [hQ9]
              exact W.lret (v := jI ((un / Nat.gcd un dd : Nat) : Int)) hx hb hr (fun t ht hW => ⟨⟨rfl, by rw [ht]; exact hP9, hD9⟩, hS.F ht⟩) hS.2.2 dX3_reduced_81
          · have c_5 : ((aa : Nat) : Int) = 0 := zl_eq (jI_toInt (by omega)) (by decide) c_5
            exfalso; omega
        · have c_4 : ¬ ((bb : Nat) : Int) = 0 := zl_ne (jI_toInt (by omega)) (by decide) c_4
          refine lv_lload_n hx hb dX3_reduced_29 rfl (lv_at hl 2 rfl) ?_
          refine lv_lload hx hb dX3_reduced_30 (lv_at hl 1 rfl) ?_
          refine lv_lrem hx hb dX3_reduced_32 (jN_ne (by omega) (by omega)) ?_
          refine zz_l (v := jI ((aa % bb : Nat) : Int)) (jN_rem (by omega) (by omega) (by omega)) ?_
          refine lv_lstore (lv' := [(7, .long (jI ((aa % bb : Nat) : Int))), (6, .int (nI i)), (4, .long (jI ((bb : Nat) : Int))), (2, .long (jI ((aa : Nat) : Int))), (0, .ref fr), (1, .int 0)]) hx hb dX3_reduced_33 hl (by decide) rfl (fun ls hl => ?_)
          refine lv_lload hx hb dX3_reduced_35 (lv_at hl 2 rfl) ?_
          refine lv_lstore_n (lv' := [(2, .long (jI ((bb : Nat) : Int))), (7, .long (jI ((aa % bb : Nat) : Int))), (6, .int (nI i)), (4, .long (jI ((bb : Nat) : Int))), (0, .ref fr), (1, .int 0)]) hx hb dX3_reduced_37 rfl hl (by decide) rfl (fun ls hl => ?_)
          refine lv_lload hx hb dX3_reduced_38 (lv_at hl 1 rfl) ?_
          refine lv_lstore (lv' := [(4, .long (jI ((aa % bb : Nat) : Int))), (2, .long (jI ((bb : Nat) : Int))), (7, .long (jI ((aa % bb : Nat) : Int))), (6, .int (nI i)), (0, .ref fr), (1, .int 0)]) hx hb dX3_reduced_40 hl (by decide) rfl (fun ls hl => ?_)
          refine lv_iinc (v := nI (i + 1)) (lv' := [(6, .int (nI (i + 1))), (4, .long (jI ((aa % bb : Nat) : Int))), (2, .long (jI ((bb : Nat) : Int))), (7, .long (jI ((aa % bb : Nat) : Int))), (0, .ref fr), (1, .int 0)]) hx hb dX3_reduced_42 hl (k := 3) rfl (nI_add i 1) (by decide) rfl (fun ls hl => ?_)
          refine lv_goto (tgt := 14) hx hb dX3_reduced_45 (by decide) ?_
          exact ih_14 (i + 1) bb (aa % bb) H locs ls (by omega) (by omega) (by have h9 := Nat.mod_lt aa (show 0 < bb by omega); omega) (by rw [Nat.gcd_comm bb, ← Nat.gcd_rec, Nat.gcd_comm]; exact hgc) (euI_s (by omega) hab.2 heu) hP hD hS (lv_sub hl [0, 1, 2, 4, 5] rfl)
  exact hl_14 _ 0 un dd s.heap [] ls (Nat.lt_succ_self _) (by omega) (by omega) (rfl) (Or.inl rfl) hP hD hS (lv_sub hl [0, 1, 2, 3, 4] rfl)
set_option maxHeartbeats 4000000 in
set_option maxRecDepth 100000 in
theorem k_Fr_reduced_1 (l : Launch) (dC : Nat → ClassId) (dI : Nat → Nat → Nat) (cI cZ cF : ClassId) (sz : Nat) (fr : Nat) (un : Nat) (dd : Nat) (hun : un ≤ 4000000000000) (hdd : 1 ≤ dd ∧ dd ≤ 2000000) : Met l yX3_reduced (.code yX3_reduced cX3_reduced 9 (some .long) :: ws0) ({ frames := 0, cells := 0, slots := 0, locals := 0 } : Room) (va_Pc [.ref fr, .int 1] (zPre (dC, dI) classes (zTy cI cZ cF) [(oc2 fr (jI ((un : Nat) : Int)) (jI ((dd : Nat) : Int)))] sz zXN)) (zQ (some (.long (jI ((dd / Nat.gcd un dd : Nat) : Int)))) (fun t => va_P (dC, dI) classes [(oc2 fr (jI ((un : Nat) : Int)) (jI ((dd : Nat) : Int)))] t.heap ∧ va_D (va_A [(oc2 fr (jI ((un : Nat) : Int)) (jI ((dd : Nat) : Int)))] sz) [(oc2 fr (jI ((un : Nat) : Int)) (jI ((dd : Nat) : Int)))]) (va_A [(oc2 fr (jI ((un : Nat) : Int)) (jI ((dd : Nat) : Int)))] sz)) 0 0 (va_A [(oc2 fr (jI ((un : Nat) : Int)) (jI ((dd : Nat) : Int)))] sz) := by
  refine Met.ofW (cc := cX3_reduced) (maxL := 9) (ret := (some .long)) (by decide) rfl ?_
  intro p e s m args below meth c s₁ B hml hv
  obtain ⟨rfl, hsz, hP, hK, hD0, hXN⟩ := hv
  have hx := B.exec
  have hb := B.bytes
  have hr := B.returns
  have hts0 := atoms_spec (ws := .code yX3_reduced cX3_reduced 9 (some .long) :: ws0) B.pre
  have hts : ∀ w9 ∈ ws0, w9.before ([.ref fr, .int 1] : List Value).toArray s = true := fun w9 h => hts0 w9 (List.mem_cons_of_mem _ h)
  have hown : s.vm.findClass "ScaleShop$Fraction" = some m.cls := findClass_of_methodNamed B.named
  have hlocks := B.notSynchronized
  subst hsz
  have hD := hD0.self (sz := s.heap.size)
  clear hD0
  generalize hAe : va_A [(oc2 fr (jI ((un : Nat) : Int)) (jI ((dd : Nat) : Int)))] s.heap.size = A at hD ⊢
  have hA : ∀ q : Nat, s.heap.size ≤ q → A q := fun q h => by rw [← hAe]; exact Or.inr h
  clear hAe
  have hS : va_S A s.heap s.heap [] := va_S.rf
  have hP : va_P (dC, dI) classes [(oc2 fr (jI ((un : Nat) : Int)) (jI ((dd : Nat) : Int)))] s.heap := hP
  obtain ⟨Q9, hQ9⟩ : ∃ Q9 : State → Prop, Q9 = MQ below (zQ (some (.long (jI ((dd / Nat.gcd un dd : Nat) : Int)))) (fun t => va_P (dC, dI) classes [(oc2 fr (jI ((un : Nat) : Int)) (jI ((dd : Nat) : Int)))] t.heap ∧ va_D A [(oc2 fr (jI ((un : Nat) : Int)) (jI ((dd : Nat) : Int)))]) A) ([.ref fr, .int 1] : List Value).toArray s 0 0 A := ⟨_, rfl⟩
  rw [← hQ9]
  have hl := lv_entry ([.ref fr, .int 1]) (n := 9) (Nat.le_of_ble_eq_true rfl)
  rw [lg_entry_eq]
  generalize (lg_sl ([.ref fr, .int 1]) ++ List.replicate (9 - (lg_sl ([.ref fr, .int 1])).length) Slot.unset).toArray = ls at hl ⊢
  have hl : lv_has ls 9 [(0, .ref fr), (1, .int 1)] := hl
  refine lv_aload_n hx hb dX3_reduced_0 rfl (lv_at hl 0 rfl) ?_
  refine va_get (D := (dC, dI)) (ci := 2) (v := .long (jI ((un : Nat) : Int))) (C := RX3) (T := TX3) (N := 2) hx hb hts inX3 hown hK hP 0 rfl rfl 0 (by decide) (hts _ mw_273) (fun _ h9 => h9) rfl dX3_reduced_1 ?_
  refine lv_lstore_n (lv' := [(2, .long (jI ((un : Nat) : Int))), (0, .ref fr), (1, .int 1)]) hx hb dX3_reduced_4 rfl hl (by decide) rfl (fun ls hl => ?_)
  refine lv_aload_n hx hb dX3_reduced_5 rfl (lv_at hl 1 rfl) ?_
  refine va_get (D := (dC, dI)) (ci := 2) (v := .long (jI ((dd : Nat) : Int))) (C := RX3) (T := TX3) (N := 2) hx hb hts inX3 hown hK hP 0 rfl rfl 1 (by decide) (hts _ mw_275) (fun _ h9 => h9) rfl dX3_reduced_6 ?_
  refine lv_lstore (lv' := [(4, .long (jI ((dd : Nat) : Int))), (2, .long (jI ((un : Nat) : Int))), (0, .ref fr), (1, .int 1)]) hx hb dX3_reduced_9 hl (by decide) rfl (fun ls hl => ?_)
  refine lv_iconst (v := 0) hx hb dX3_reduced_11 (by decide) ?_
  refine lv_istore (lv' := [(6, .int 0), (4, .long (jI ((dd : Nat) : Int))), (2, .long (jI ((un : Nat) : Int))), (0, .ref fr), (1, .int 1)]) hx hb dX3_reduced_12 hl (by decide) rfl (fun ls hl => ?_)
  have hl_14 : ∀ (n9 : Nat) (i : Nat) (aa : Nat) (bb : Nat) (H : Heap) (locs : List Loc) (ls : Array Slot), 200 - i < n9 → (i ≤ 200) → (aa ≤ 4000000000000 ∧ bb ≤ 2000000) → (Nat.gcd aa bb = Nat.gcd un dd) → (euI aa bb i) → va_P (dC, dI) classes [(oc2 fr (jI ((un : Nat) : Int)) (jI ((dd : Nat) : Int)))] H → va_D A [(oc2 fr (jI ((un : Nat) : Int)) (jI ((dd : Nat) : Int)))] → va_S A s.heap H locs → lv_has ls 9 [(6, .int (nI i)), (4, .long (jI ((bb : Nat) : Int))), (2, .long (jI ((aa : Nat) : Int))), (0, .ref fr), (1, .int 1)] → W p l e ((headSpec (.code yX3_reduced cX3_reduced 9 (some .long) :: ws0) ({ frames := 0, cells := 0, slots := 0, locals := 0 } : Room)).room) s m ([.ref fr, .int 1] : List Value).toArray below meth c H locs 0 0 Q9 (F0 m 14 ls []) := by
    intro n9
    induction n9 with
    | zero => intro i aa bb H locs ls hm; exact absurd hm (Nat.not_lt_zero _)
    | succ n9 ih_14 =>
      intro i aa bb H locs ls hm hi hab hgc heu hP hD hS hl
      refine lv_iload hx hb dX3_reduced_14 (lv_at hl 0 rfl) ?_
      refine lv_sipush (v := 200) hx hb dX3_reduced_16 (by decide) ?_
      refine lv_icmp_ge (tgt := 48) hx hb dX3_reduced_19 (by decide) (fun c_1 => ?_) (fun c_1 => ?_)
      · have c_1 : 200 ≤ ((i : Nat) : Int) := zc_le (by decide) (nI_toInt (by omega)) c_1
        have hb0 : bb = 0 := (by first | omega | (rw [show i = 200 by omega] at heu; exact euI_e heu))
        have hag : aa = Nat.gcd un dd := (by rw [← hgc, hb0, Nat.gcd_zero_right])
        have hgp : 0 < Nat.gcd un dd := Nat.gcd_pos_of_pos_right un (by omega)
        refine lv_lload_n hx hb dX3_reduced_48 rfl (lv_at hl 2 rfl) ?_
        refine lv_lconst (v := 0) hx hb dX3_reduced_49 (by decide) ?_
        refine W.lcmp hx hb dX3_reduced_50 ?_
        refine lv_if_ne (tgt := 64) hx hb dX3_reduced_51 (by decide) (fun c_2 => ?_) (fun c_2 => ?_)
        · have c_2 : ¬ ((aa : Nat) : Int) = 0 := zl_ne (jI_toInt (by omega)) (by decide) c_2
          refine lv_iload_n hx hb dX3_reduced_64 rfl (lv_at hl 4 rfl) ?_
          refine lv_if_ne (tgt := 75) hx hb dX3_reduced_65 (by decide) (fun c_3 => ?_) (fun c_3 => ?_)
          · refine lv_aload_n hx hb dX3_reduced_75 rfl (lv_at hl 3 rfl) ?_
            refine va_get (D := (dC, dI)) (ci := 2) (v := .long (jI ((dd : Nat) : Int))) (C := RX3) (T := TX3) (N := 2) hx hb hts inX3 hown hK hP 0 rfl rfl 1 (by decide) (hts _ mw_275) (fun _ h9 => h9) rfl dX3_reduced_76 ?_
            refine lv_lload_n hx hb dX3_reduced_79 rfl (lv_at hl 2 rfl) ?_
            refine lv_ldiv hx hb dX3_reduced_80 (jN_ne (by omega) (by omega)) ?_
            refine zz_l (v := jI ((dd / Nat.gcd un dd : Nat) : Int)) (by rw [jN_div (by omega) (by omega) (by omega), hag]) ?_
            have hP9 := hP.sub (ws' := [(oc2 fr (jI ((un : Nat) : Int)) (jI ((dd : Nat) : Int)))]) [0] rfl
            have hD9 := hD.sub (ws' := [(oc2 fr (jI ((un : Nat) : Int)) (jI ((dd : Nat) : Int)))]) [0] (by decide) rfl
            rw [hQ9]
            exact W.lret (v := jI ((dd / Nat.gcd un dd : Nat) : Int)) hx hb hr (fun t ht hW => ⟨⟨rfl, by rw [ht]; exact hP9, hD9⟩, hS.F ht⟩) hS.2.2 dX3_reduced_81
          · exact absurd c_3 (by decide)
        · have c_2 : ((aa : Nat) : Int) = 0 := zl_eq (jI_toInt (by omega)) (by decide) c_2
          exfalso; omega
      · have c_1 : ((i : Nat) : Int) < 200 := zc_nle (by decide) (nI_toInt (by omega)) c_1
        refine lv_lload hx hb dX3_reduced_22 (lv_at hl 1 rfl) ?_
        refine lv_lconst (v := 0) hx hb dX3_reduced_24 (by decide) ?_
        refine W.lcmp hx hb dX3_reduced_25 ?_
        refine lv_if_eq (tgt := 48) hx hb dX3_reduced_26 (by decide) (fun c_4 => ?_) (fun c_4 => ?_)
        · have c_4 : ((bb : Nat) : Int) = 0 := zl_eq (jI_toInt (by omega)) (by decide) c_4
          have hb0 : bb = 0 := (by first | omega | (rw [show i = 200 by omega] at heu; exact euI_e heu))
          have hag : aa = Nat.gcd un dd := (by rw [← hgc, hb0, Nat.gcd_zero_right])
          have hgp : 0 < Nat.gcd un dd := Nat.gcd_pos_of_pos_right un (by omega)
          refine lv_lload_n hx hb dX3_reduced_48 rfl (lv_at hl 2 rfl) ?_
          refine lv_lconst (v := 0) hx hb dX3_reduced_49 (by decide) ?_
          refine W.lcmp hx hb dX3_reduced_50 ?_
          refine lv_if_ne (tgt := 64) hx hb dX3_reduced_51 (by decide) (fun c_5 => ?_) (fun c_5 => ?_)
          · have c_5 : ¬ ((aa : Nat) : Int) = 0 := zl_ne (jI_toInt (by omega)) (by decide) c_5
            refine lv_iload_n hx hb dX3_reduced_64 rfl (lv_at hl 4 rfl) ?_
            refine lv_if_ne (tgt := 75) hx hb dX3_reduced_65 (by decide) (fun c_6 => ?_) (fun c_6 => ?_)
            · refine lv_aload_n hx hb dX3_reduced_75 rfl (lv_at hl 3 rfl) ?_
              refine va_get (D := (dC, dI)) (ci := 2) (v := .long (jI ((dd : Nat) : Int))) (C := RX3) (T := TX3) (N := 2) hx hb hts inX3 hown hK hP 0 rfl rfl 1 (by decide) (hts _ mw_275) (fun _ h9 => h9) rfl dX3_reduced_76 ?_
              refine lv_lload_n hx hb dX3_reduced_79 rfl (lv_at hl 2 rfl) ?_
              refine lv_ldiv hx hb dX3_reduced_80 (jN_ne (by omega) (by omega)) ?_
              refine zz_l (v := jI ((dd / Nat.gcd un dd : Nat) : Int)) (by rw [jN_div (by omega) (by omega) (by omega), hag]) ?_
              have hP9 := hP.sub (ws' := [(oc2 fr (jI ((un : Nat) : Int)) (jI ((dd : Nat) : Int)))]) [0] rfl
              have hD9 := hD.sub (ws' := [(oc2 fr (jI ((un : Nat) : Int)) (jI ((dd : Nat) : Int)))]) [0] (by decide) rfl
              rw [hQ9]
              exact W.lret (v := jI ((dd / Nat.gcd un dd : Nat) : Int)) hx hb hr (fun t ht hW => ⟨⟨rfl, by rw [ht]; exact hP9, hD9⟩, hS.F ht⟩) hS.2.2 dX3_reduced_81
            · exact absurd c_6 (by decide)
          · have c_5 : ((aa : Nat) : Int) = 0 := zl_eq (jI_toInt (by omega)) (by decide) c_5
            exfalso; omega
        · have c_4 : ¬ ((bb : Nat) : Int) = 0 := zl_ne (jI_toInt (by omega)) (by decide) c_4
          refine lv_lload_n hx hb dX3_reduced_29 rfl (lv_at hl 2 rfl) ?_
          refine lv_lload hx hb dX3_reduced_30 (lv_at hl 1 rfl) ?_
          refine lv_lrem hx hb dX3_reduced_32 (jN_ne (by omega) (by omega)) ?_
          refine zz_l (v := jI ((aa % bb : Nat) : Int)) (jN_rem (by omega) (by omega) (by omega)) ?_
          refine lv_lstore (lv' := [(7, .long (jI ((aa % bb : Nat) : Int))), (6, .int (nI i)), (4, .long (jI ((bb : Nat) : Int))), (2, .long (jI ((aa : Nat) : Int))), (0, .ref fr), (1, .int 1)]) hx hb dX3_reduced_33 hl (by decide) rfl (fun ls hl => ?_)
          refine lv_lload hx hb dX3_reduced_35 (lv_at hl 2 rfl) ?_
          refine lv_lstore_n (lv' := [(2, .long (jI ((bb : Nat) : Int))), (7, .long (jI ((aa % bb : Nat) : Int))), (6, .int (nI i)), (4, .long (jI ((bb : Nat) : Int))), (0, .ref fr), (1, .int 1)]) hx hb dX3_reduced_37 rfl hl (by decide) rfl (fun ls hl => ?_)
          refine lv_lload hx hb dX3_reduced_38 (lv_at hl 1 rfl) ?_
          refine lv_lstore (lv' := [(4, .long (jI ((aa % bb : Nat) : Int))), (2, .long (jI ((bb : Nat) : Int))), (7, .long (jI ((aa % bb : Nat) : Int))), (6, .int (nI i)), (0, .ref fr), (1, .int 1)]) hx hb dX3_reduced_40 hl (by decide) rfl (fun ls hl => ?_)
          refine lv_iinc (v := nI (i + 1)) (lv' := [(6, .int (nI (i + 1))), (4, .long (jI ((aa % bb : Nat) : Int))), (2, .long (jI ((bb : Nat) : Int))), (7, .long (jI ((aa % bb : Nat) : Int))), (0, .ref fr), (1, .int 1)]) hx hb dX3_reduced_42 hl (k := 3) rfl (nI_add i 1) (by decide) rfl (fun ls hl => ?_)
          refine lv_goto (tgt := 14) hx hb dX3_reduced_45 (by decide) ?_
          exact ih_14 (i + 1) bb (aa % bb) H locs ls (by omega) (by omega) (by have h9 := Nat.mod_lt aa (show 0 < bb by omega); omega) (by rw [Nat.gcd_comm bb, ← Nat.gcd_rec, Nat.gcd_comm]; exact hgc) (euI_s (by omega) hab.2 heu) hP hD hS (lv_sub hl [0, 1, 2, 4, 5] rfl)
  exact hl_14 _ 0 un dd s.heap [] ls (Nat.lt_succ_self _) (by omega) (by omega) (rfl) (Or.inl rfl) hP hD hS (lv_sub hl [0, 1, 2, 3, 4] rfl)
