set_option maxHeartbeats 4000000 in
set_option maxRecDepth 100000 in
theorem k_M_nearer_q (l : Launch) (dC : Nat → ClassId) (dI : Nat → Nat → Nat) (cI cZ cF : ClassId) (sz : Nat) (k0 : Nat) (a : Nat → Nat) (I0 : Nat → Int32) (J0 : Nat → Int64) (q : Nat) (px : Int32) (py : Int32) (u : Int) (d : Int) (S0 : Nat → Int32) (hq4 : q ≤ 4) (hs : ∀ k, q ≤ k → k < q + 4 → pl (S0 k)) (hpx : pl px) (hpy : pl py) (hu9 : 0 ≤ u ∧ u ≤ 4000000000000) (hd9 : 0 ≤ d ∧ d ≤ 2000000) : Met l yX11_nearer (.code yX11_nearer cX11_nearer 23 none :: ws0) ({ frames := 1, cells := 0, slots := 0, locals := 28 } : Room) (va_Pc [.ref k0, .ref (a 32), .int px, .int py, .int (nI q)] (zPre (dC, dI) classes (zTy cI cZ cF) [(om k0 a I0 (vp_updL (vp_updL J0 48 (jI u)) 49 (jI d))), (oa (a 32) cI 8 S0)] sz zXN)) (zQ none (fun t => ∃ (zu : Int), ∃ (zd : Int), (ndP u d (nrU (S0 q).toInt (S0 (q + 1)).toInt (S0 (q + 2)).toInt (S0 (q + 3)).toInt px.toInt py.toInt) (nrD (S0 q).toInt (S0 (q + 1)).toInt (S0 (q + 2)).toInt (S0 (q + 3)).toInt px.toInt py.toInt) zu zd) ∧ va_P (dC, dI) classes [(om k0 a I0 (vp_updL (vp_updL J0 48 (jI zu)) 49 (jI zd))), (oa (a 32) cI 8 S0)] t.heap ∧ va_D (va_A [(om k0 a I0 (vp_updL (vp_updL J0 48 (jI u)) 49 (jI d))), (oa (a 32) cI 8 S0)] sz) [(om k0 a I0 (vp_updL (vp_updL J0 48 (jI zu)) 49 (jI zd))), (oa (a 32) cI 8 S0)]) (va_A [(om k0 a I0 (vp_updL (vp_updL J0 48 (jI u)) 49 (jI d))), (oa (a 32) cI 8 S0)] sz)) 0 0 (va_A [(om k0 a I0 (vp_updL (vp_updL J0 48 (jI u)) 49 (jI d))), (oa (a 32) cI 8 S0)] sz) := by
  refine Met.ofW (cc := cX11_nearer) (maxL := 23) (ret := none) (by decide) rfl ?_
  intro p e s m args below meth c s₁ B hml hv
  obtain ⟨rfl, hsz, hP, hK, hD0, hXN⟩ := hv
  have hx := B.exec
  have hb := B.bytes
  have hr := B.returns
  have hts0 := atoms_spec (ws := .code yX11_nearer cX11_nearer 23 none :: ws0) B.pre
  have hts : ∀ w9 ∈ ws0, w9.before ([.ref k0, .ref (a 32), .int px, .int py, .int (nI q)] : List Value).toArray s = true := fun w9 h => hts0 w9 (List.mem_cons_of_mem _ h)
  have hown : s.vm.findClass "ScaleShopModel" = some m.cls := findClass_of_methodNamed B.named
  have hlocks := B.notSynchronized
  subst hsz
  have hD := hD0.self (sz := s.heap.size)
  clear hD0
  generalize hAe : va_A [(om k0 a I0 (vp_updL (vp_updL J0 48 (jI u)) 49 (jI d))), (oa (a 32) cI 8 S0)] s.heap.size = A at hD ⊢
  have hA : ∀ q : Nat, s.heap.size ≤ q → A q := fun q h => by rw [← hAe]; exact Or.inr h
  clear hAe
  have hS : va_S A s.heap s.heap [] := va_S.rf
  have hP : va_P (dC, dI) classes [(om k0 a I0 (vp_updL (vp_updL J0 48 (jI u)) 49 (jI d))), (oa (a 32) cI 8 S0)] s.heap := hP
  obtain ⟨Q9, hQ9⟩ : ∃ Q9 : State → Prop, Q9 = MQ below (zQ none (fun t => ∃ (zu : Int), ∃ (zd : Int), (ndP u d (nrU (S0 q).toInt (S0 (q + 1)).toInt (S0 (q + 2)).toInt (S0 (q + 3)).toInt px.toInt py.toInt) (nrD (S0 q).toInt (S0 (q + 1)).toInt (S0 (q + 2)).toInt (S0 (q + 3)).toInt px.toInt py.toInt) zu zd) ∧ va_P (dC, dI) classes [(om k0 a I0 (vp_updL (vp_updL J0 48 (jI zu)) 49 (jI zd))), (oa (a 32) cI 8 S0)] t.heap ∧ va_D A [(om k0 a I0 (vp_updL (vp_updL J0 48 (jI zu)) 49 (jI zd))), (oa (a 32) cI 8 S0)]) A) ([.ref k0, .ref (a 32), .int px, .int py, .int (nI q)] : List Value).toArray s 0 0 A := ⟨_, rfl⟩
  rw [← hQ9]
  have hl := lv_entry ([.ref k0, .ref (a 32), .int px, .int py, .int (nI q)]) (n := 23) (Nat.le_of_ble_eq_true rfl)
  rw [lg_entry_eq]
  generalize (lg_sl ([.ref k0, .ref (a 32), .int px, .int py, .int (nI q)]) ++ List.replicate (23 - (lg_sl ([.ref k0, .ref (a 32), .int px, .int py, .int (nI q)])).length) Slot.unset).toArray = ls at hl ⊢
  have hl : lv_has ls 23 [(0, .ref k0), (1, .ref (a 32)), (2, .int px), (3, .int py), (4, .int (nI q))] := hl
  have hLb := nrL_b (hs q (by omega) (by omega)) (hs (q + 1) (by omega) (by omega)) (hs (q + 2) (by omega) (by omega)) (hs (q + 3) (by omega) (by omega))
  have hTb := nrT_b (hs q (by omega) (by omega)) (hs (q + 1) (by omega) (by omega)) (hs (q + 2) (by omega) (by omega)) (hs (q + 3) (by omega) (by omega)) hpx hpy
  have hUb := nrU_b (hs q (by omega) (by omega)) (hs (q + 1) (by omega) (by omega)) (hs (q + 2) (by omega) (by omega)) (hs (q + 3) (by omega) (by omega)) hpx hpy
  refine lv_aload_n hx hb dX11_nearer_0 rfl (lv_at hl 1 rfl) ?_
  refine lv_iload hx hb dX11_nearer_1 (lv_at hl 4 rfl) ?_
  refine lv_iconst (v := 2) hx hb dX11_nearer_3 (by decide) ?_
  refine lv_iadd hx hb dX11_nearer_4 ?_
  refine zz_i (v := nI (q + 2)) (nI_add q 2) ?_
  refine z_iald hx hb hK hP 1 0 rfl rfl (e := q + 2) rfl (by omega) (by omega) dX11_nearer_5 ?_
  refine lv_aload_n hx hb dX11_nearer_6 rfl (lv_at hl 1 rfl) ?_
  refine lv_iload hx hb dX11_nearer_7 (lv_at hl 4 rfl) ?_
  refine z_iald hx hb hK hP 1 0 rfl rfl (e := q) rfl (by omega) (by omega) dX11_nearer_9 ?_
  refine lv_isub hx hb dX11_nearer_10 ?_
  refine lv_i2l (v := ((S0 (q + 2)) - (S0 q)).toInt64) hx hb dX11_nearer_11 (rfl) ?_
  refine lv_lstore (lv' := [(5, .long (((S0 (q + 2)) - (S0 q)).toInt64)), (0, .ref k0), (1, .ref (a 32)), (2, .int px), (3, .int py), (4, .int (nI q))]) hx hb dX11_nearer_12 hl (by decide) rfl (fun ls hl => ?_)
  refine lv_aload_n hx hb dX11_nearer_14 rfl (lv_at hl 2 rfl) ?_
  refine lv_iload hx hb dX11_nearer_15 (lv_at hl 5 rfl) ?_
  refine lv_iconst (v := 3) hx hb dX11_nearer_17 (by decide) ?_
  refine lv_iadd hx hb dX11_nearer_18 ?_
  refine zz_i (v := nI (q + 3)) (nI_add q 3) ?_
  refine z_iald hx hb hK hP 1 0 rfl rfl (e := q + 3) rfl (by omega) (by omega) dX11_nearer_19 ?_
  refine lv_aload_n hx hb dX11_nearer_20 rfl (lv_at hl 2 rfl) ?_
  refine lv_iload hx hb dX11_nearer_21 (lv_at hl 5 rfl) ?_
  refine lv_iconst (v := 1) hx hb dX11_nearer_23 (by decide) ?_
  refine lv_iadd hx hb dX11_nearer_24 ?_
  refine zz_i (v := nI (q + 1)) (nI_add q 1) ?_
  refine z_iald hx hb hK hP 1 0 rfl rfl (e := q + 1) rfl (by omega) (by omega) dX11_nearer_25 ?_
  refine lv_isub hx hb dX11_nearer_26 ?_
  refine lv_i2l (v := ((S0 (q + 3)) - (S0 (q + 1))).toInt64) hx hb dX11_nearer_27 (rfl) ?_
  refine lv_lstore (lv' := [(7, .long (((S0 (q + 3)) - (S0 (q + 1))).toInt64)), (5, .long (((S0 (q + 2)) - (S0 q)).toInt64)), (0, .ref k0), (1, .ref (a 32)), (2, .int px), (3, .int py), (4, .int (nI q))]) hx hb dX11_nearer_28 hl (by decide) rfl (fun ls hl => ?_)
  refine lv_iload_n hx hb dX11_nearer_30 rfl (lv_at hl 4 rfl) ?_
  refine lv_aload_n hx hb dX11_nearer_31 rfl (lv_at hl 3 rfl) ?_
  refine lv_iload hx hb dX11_nearer_32 (lv_at hl 6 rfl) ?_
  refine z_iald hx hb hK hP 1 0 rfl rfl (e := q) rfl (by omega) (by omega) dX11_nearer_34 ?_
  refine lv_isub hx hb dX11_nearer_35 ?_
  refine lv_i2l (v := (px - (S0 q)).toInt64) hx hb dX11_nearer_36 (rfl) ?_
  refine lv_lstore (lv' := [(9, .long ((px - (S0 q)).toInt64)), (7, .long (((S0 (q + 3)) - (S0 (q + 1))).toInt64)), (5, .long (((S0 (q + 2)) - (S0 q)).toInt64)), (0, .ref k0), (1, .ref (a 32)), (2, .int px), (3, .int py), (4, .int (nI q))]) hx hb dX11_nearer_37 hl (by decide) rfl (fun ls hl => ?_)
  refine lv_iload_n hx hb dX11_nearer_39 rfl (lv_at hl 6 rfl) ?_
  refine lv_aload_n hx hb dX11_nearer_40 rfl (lv_at hl 4 rfl) ?_
  refine lv_iload hx hb dX11_nearer_41 (lv_at hl 7 rfl) ?_
  refine lv_iconst (v := 1) hx hb dX11_nearer_43 (by decide) ?_
  refine lv_iadd hx hb dX11_nearer_44 ?_
  refine zz_i (v := nI (q + 1)) (nI_add q 1) ?_
  refine z_iald hx hb hK hP 1 0 rfl rfl (e := q + 1) rfl (by omega) (by omega) dX11_nearer_45 ?_
  refine lv_isub hx hb dX11_nearer_46 ?_
  refine lv_i2l (v := (py - (S0 (q + 1))).toInt64) hx hb dX11_nearer_47 (rfl) ?_
  refine lv_lstore (lv' := [(11, .long ((py - (S0 (q + 1))).toInt64)), (9, .long ((px - (S0 q)).toInt64)), (7, .long (((S0 (q + 3)) - (S0 (q + 1))).toInt64)), (5, .long (((S0 (q + 2)) - (S0 q)).toInt64)), (0, .ref k0), (1, .ref (a 32)), (2, .int px), (3, .int py), (4, .int (nI q))]) hx hb dX11_nearer_48 hl (by decide) rfl (fun ls hl => ?_)
  refine lv_lload hx hb dX11_nearer_50 (lv_at hl 3 rfl) ?_
  refine lv_lload hx hb dX11_nearer_52 (lv_at hl 3 rfl) ?_
  refine lv_lmul hx hb dX11_nearer_54 ?_
  refine lv_lload hx hb dX11_nearer_55 (lv_at hl 2 rfl) ?_
  refine lv_lload hx hb dX11_nearer_57 (lv_at hl 2 rfl) ?_
  refine lv_lmul hx hb dX11_nearer_59 ?_
  refine lv_ladd hx hb dX11_nearer_60 ?_
  refine zz_l (v := jI (nrL (S0 q).toInt (S0 (q + 1)).toInt (S0 (q + 2)).toInt (S0 (q + 3)).toInt)) (nr_len (hs q (by omega) (by omega)) (hs (q + 1) (by omega) (by omega)) (hs (q + 2) (by omega) (by omega)) (hs (q + 3) (by omega) (by omega))) ?_
  refine lv_lstore (lv' := [(13, .long (jI (nrL (S0 q).toInt (S0 (q + 1)).toInt (S0 (q + 2)).toInt (S0 (q + 3)).toInt))), (11, .long ((py - (S0 (q + 1))).toInt64)), (9, .long ((px - (S0 q)).toInt64)), (7, .long (((S0 (q + 3)) - (S0 (q + 1))).toInt64)), (5, .long (((S0 (q + 2)) - (S0 q)).toInt64)), (0, .ref k0), (1, .ref (a 32)), (2, .int px), (3, .int py), (4, .int (nI q))]) hx hb dX11_nearer_61 hl (by decide) rfl (fun ls hl => ?_)
  refine lv_lload hx hb dX11_nearer_63 (lv_at hl 4 rfl) ?_
  refine lv_lload hx hb dX11_nearer_65 (lv_at hl 2 rfl) ?_
  refine lv_lmul hx hb dX11_nearer_67 ?_
  refine lv_lload hx hb dX11_nearer_68 (lv_at hl 3 rfl) ?_
  refine lv_lload hx hb dX11_nearer_70 (lv_at hl 1 rfl) ?_
  refine lv_lmul hx hb dX11_nearer_72 ?_
  refine lv_ladd hx hb dX11_nearer_73 ?_
  refine zz_l (v := jI (nrT (S0 q).toInt (S0 (q + 1)).toInt (S0 (q + 2)).toInt (S0 (q + 3)).toInt px.toInt py.toInt)) (nr_dot (hs q (by omega) (by omega)) (hs (q + 1) (by omega) (by omega)) (hs (q + 2) (by omega) (by omega)) (hs (q + 3) (by omega) (by omega)) hpx hpy) ?_
  refine lv_lstore (lv' := [(15, .long (jI (nrT (S0 q).toInt (S0 (q + 1)).toInt (S0 (q + 2)).toInt (S0 (q + 3)).toInt px.toInt py.toInt))), (13, .long (jI (nrL (S0 q).toInt (S0 (q + 1)).toInt (S0 (q + 2)).toInt (S0 (q + 3)).toInt))), (11, .long ((py - (S0 (q + 1))).toInt64)), (9, .long ((px - (S0 q)).toInt64)), (7, .long (((S0 (q + 3)) - (S0 (q + 1))).toInt64)), (5, .long (((S0 (q + 2)) - (S0 q)).toInt64)), (0, .ref k0), (1, .ref (a 32)), (2, .int px), (3, .int py), (4, .int (nI q))]) hx hb dX11_nearer_74 hl (by decide) rfl (fun ls hl => ?_)
  refine lv_lconst (v := 1) hx hb dX11_nearer_76 (by decide) ?_
  refine lv_lstore (lv' := [(19, .long 1), (15, .long (jI (nrT (S0 q).toInt (S0 (q + 1)).toInt (S0 (q + 2)).toInt (S0 (q + 3)).toInt px.toInt py.toInt))), (13, .long (jI (nrL (S0 q).toInt (S0 (q + 1)).toInt (S0 (q + 2)).toInt (S0 (q + 3)).toInt))), (11, .long ((py - (S0 (q + 1))).toInt64)), (9, .long ((px - (S0 q)).toInt64)), (7, .long (((S0 (q + 3)) - (S0 (q + 1))).toInt64)), (5, .long (((S0 (q + 2)) - (S0 q)).toInt64)), (0, .ref k0), (1, .ref (a 32)), (2, .int px), (3, .int py), (4, .int (nI q))]) hx hb dX11_nearer_77 hl (by decide) rfl (fun ls hl => ?_)
  refine lv_lload hx hb dX11_nearer_79 (lv_at hl 2 rfl) ?_
  refine lv_lconst (v := 0) hx hb dX11_nearer_81 (by decide) ?_
  refine W.lcmp hx hb dX11_nearer_82 ?_
  refine lv_if_eq (tgt := 93) hx hb dX11_nearer_83 (by decide) (fun c_1 => ?_) (fun c_1 => ?_)
  · have c_1 : (nrL (S0 q).toInt (S0 (q + 1)).toInt (S0 (q + 2)).toInt (S0 (q + 3)).toInt) = 0 := zl_eq (jI_toInt (by omega)) (by decide) c_1
    have hT0 : nrT (S0 q).toInt (S0 (q + 1)).toInt (S0 (q + 2)).toInt (S0 (q + 3)).toInt px.toInt py.toInt ≤ 0 := (by first | omega | (have h9 := nrT_0 (x := px.toInt) (y := py.toInt) (show nrL (S0 q).toInt (S0 (q + 1)).toInt (S0 (q + 2)).toInt (S0 (q + 3)).toInt = 0 by assumption); omega))
    refine lv_lload hx hb dX11_nearer_93 (lv_at hl 4 rfl) ?_
    refine lv_lload hx hb dX11_nearer_95 (lv_at hl 4 rfl) ?_
    refine lv_lmul hx hb dX11_nearer_97 ?_
    refine lv_lload hx hb dX11_nearer_98 (lv_at hl 3 rfl) ?_
    refine lv_lload hx hb dX11_nearer_100 (lv_at hl 3 rfl) ?_
    refine lv_lmul hx hb dX11_nearer_102 ?_
    refine lv_ladd hx hb dX11_nearer_103 ?_
    refine zz_l (v := jI (nrU (S0 q).toInt (S0 (q + 1)).toInt (S0 (q + 2)).toInt (S0 (q + 3)).toInt px.toInt py.toInt)) (nr_u0 (hs q (by omega) (by omega)) (hs (q + 1) (by omega) (by omega)) hpx hpy hT0) ?_
    refine lv_lstore (lv' := [(17, .long (jI (nrU (S0 q).toInt (S0 (q + 1)).toInt (S0 (q + 2)).toInt (S0 (q + 3)).toInt px.toInt py.toInt))), (19, .long 1), (15, .long (jI (nrT (S0 q).toInt (S0 (q + 1)).toInt (S0 (q + 2)).toInt (S0 (q + 3)).toInt px.toInt py.toInt))), (13, .long (jI (nrL (S0 q).toInt (S0 (q + 1)).toInt (S0 (q + 2)).toInt (S0 (q + 3)).toInt))), (11, .long ((py - (S0 (q + 1))).toInt64)), (9, .long ((px - (S0 q)).toInt64)), (7, .long (((S0 (q + 3)) - (S0 (q + 1))).toInt64)), (5, .long (((S0 (q + 2)) - (S0 q)).toInt64)), (0, .ref k0), (1, .ref (a 32)), (2, .int px), (3, .int py), (4, .int (nI q))]) hx hb dX11_nearer_104 hl (by decide) rfl (fun ls hl => ?_)
    refine lv_goto (tgt := 169) hx hb dX11_nearer_106 (by decide) ?_
    refine lv_aload_n hx hb dX11_nearer_169 rfl (lv_at hl 8 rfl) ?_
    refine va_get (D := (dC, dI)) (ci := 9) (v := .long (jI d)) (C := RX11) (T := TX11) (N := 55) hx hb hts inX11 hown hK hP 0 rfl rfl 49 (by decide) (hts _ mw_1208) (fun _ h9 => h9) rfl dX11_nearer_170 ?_
    refine lv_lconst (v := 0) hx hb dX11_nearer_173 (by decide) ?_
    refine W.lcmp hx hb dX11_nearer_174 ?_
    refine lv_if_eq (tgt := 197) hx hb dX11_nearer_175 (by decide) (fun c_2 => ?_) (fun c_2 => ?_)
    · have c_2 : d = 0 := zl_eq (jI_toInt (by omega)) (by decide) c_2
      refine lv_aload_n hx hb dX11_nearer_197 rfl (lv_at hl 8 rfl) ?_
      refine lv_lload hx hb dX11_nearer_198 (lv_at hl 0 rfl) ?_
      refine va_put (D := (dC, dI)) (ci := 9) (v := .long (jI (nrU (S0 q).toInt (S0 (q + 1)).toInt (S0 (q + 2)).toInt (S0 (q + 3)).toInt px.toInt py.toInt))) (ty := .long) (C := RX11) (T := TX11) (N := 55) hx hb hts inX11 tyX11 tyX11_ok nmX11 hown hK hP hD hS 0 rfl rfl 48 (by decide) (hts _ mw_1207) (fun _ h9 => h9) rfl (by decide +kernel) rfl rfl (Nat.le_of_ble_eq_true rfl) dX11_nearer_200 (fun H locs hP hD hS => ?_)
      have hP : va_P (dC, dI) classes [(om k0 a I0 (vp_updL (vp_updL J0 48 (jI (nrU (S0 q).toInt (S0 (q + 1)).toInt (S0 (q + 2)).toInt (S0 (q + 3)).toInt px.toInt py.toInt))) 49 (jI d))), (oa (a 32) cI 8 S0)] H := hP
      have hD : va_D A [(om k0 a I0 (vp_updL (vp_updL J0 48 (jI (nrU (S0 q).toInt (S0 (q + 1)).toInt (S0 (q + 2)).toInt (S0 (q + 3)).toInt px.toInt py.toInt))) 49 (jI d))), (oa (a 32) cI 8 S0)] := hD
      refine lv_aload_n hx hb dX11_nearer_203 rfl (lv_at hl 8 rfl) ?_
      refine lv_lload hx hb dX11_nearer_204 (lv_at hl 1 rfl) ?_
      refine zz_l (v := jI (nrD (S0 q).toInt (S0 (q + 1)).toInt (S0 (q + 2)).toInt (S0 (q + 3)).toInt px.toInt py.toInt)) (by first | (rw [nrD_0 hT0]; exact jI_1) | (rw [nrD_1 (by omega) (by omega)]; exact jI_1) | (rw [nrD_2 (by omega) (by omega)])) ?_
      refine va_put (D := (dC, dI)) (ci := 9) (v := .long (jI (nrD (S0 q).toInt (S0 (q + 1)).toInt (S0 (q + 2)).toInt (S0 (q + 3)).toInt px.toInt py.toInt))) (ty := .long) (C := RX11) (T := TX11) (N := 55) hx hb hts inX11 tyX11 tyX11_ok nmX11 hown hK hP hD hS 0 rfl rfl 49 (by decide) (hts _ mw_1208) (fun _ h9 => h9) rfl (by decide +kernel) rfl rfl (Nat.le_of_ble_eq_true rfl) dX11_nearer_206 (fun H locs hP hD hS => ?_)
      have hP : va_P (dC, dI) classes [(om k0 a I0 (vp_updL (vp_updL J0 48 (jI (nrU (S0 q).toInt (S0 (q + 1)).toInt (S0 (q + 2)).toInt (S0 (q + 3)).toInt px.toInt py.toInt))) 49 (jI (nrD (S0 q).toInt (S0 (q + 1)).toInt (S0 (q + 2)).toInt (S0 (q + 3)).toInt px.toInt py.toInt)))), (oa (a 32) cI 8 S0)] H := hP
      have hD : va_D A [(om k0 a I0 (vp_updL (vp_updL J0 48 (jI (nrU (S0 q).toInt (S0 (q + 1)).toInt (S0 (q + 2)).toInt (S0 (q + 3)).toInt px.toInt py.toInt))) 49 (jI (nrD (S0 q).toInt (S0 (q + 1)).toInt (S0 (q + 2)).toInt (S0 (q + 3)).toInt px.toInt py.toInt)))), (oa (a 32) cI 8 S0)] := hD
      have hP9 := hP.sub (ws' := [(om k0 a I0 (vp_updL (vp_updL J0 48 (jI (nrU (S0 q).toInt (S0 (q + 1)).toInt (S0 (q + 2)).toInt (S0 (q + 3)).toInt px.toInt py.toInt))) 49 (jI (nrD (S0 q).toInt (S0 (q + 1)).toInt (S0 (q + 2)).toInt (S0 (q + 3)).toInt px.toInt py.toInt)))), (oa (a 32) cI 8 S0)]) [0, 1] rfl
      have hD9 := hD.sub (ws' := [(om k0 a I0 (vp_updL (vp_updL J0 48 (jI (nrU (S0 q).toInt (S0 (q + 1)).toInt (S0 (q + 2)).toInt (S0 (q + 3)).toInt px.toInt py.toInt))) 49 (jI (nrD (S0 q).toInt (S0 (q + 1)).toInt (S0 (q + 2)).toInt (S0 (q + 3)).toInt px.toInt py.toInt)))), (oa (a 32) cI 8 S0)]) [0, 1] (by decide) rfl
      rw [hQ9]
      exact W.vret hx hb hr (fun t ht hW => ⟨⟨rfl, (nrU (S0 q).toInt (S0 (q + 1)).toInt (S0 (q + 2)).toInt (S0 (q + 3)).toInt px.toInt py.toInt), (nrD (S0 q).toInt (S0 (q + 1)).toInt (S0 (q + 2)).toInt (S0 (q + 3)).toInt px.toInt py.toInt), (by unfold ndP; first | exact Or.inl ⟨Or.inl (by omega), rfl, rfl⟩ | exact Or.inl ⟨Or.inr (by assumption), rfl, rfl⟩ | exact Or.inr ⟨fun h => h.elim (by omega) (by assumption), rfl, rfl⟩), by rw [ht]; exact hP9, hD9⟩, hS.F ht⟩) hS.2.2 dX11_nearer_209
    · have c_2 : ¬ d = 0 := zl_ne (jI_toInt (by omega)) (by decide) c_2
      refine lv_aload_n hx hb dX11_nearer_178 rfl (lv_at hl 8 rfl) ?_
      refine lv_lload hx hb dX11_nearer_179 (lv_at hl 0 rfl) ?_
      refine lv_lload hx hb dX11_nearer_181 (lv_at hl 1 rfl) ?_
      refine zz_l (v := jI (nrD (S0 q).toInt (S0 (q + 1)).toInt (S0 (q + 2)).toInt (S0 (q + 3)).toInt px.toInt py.toInt)) (by first | (rw [nrD_0 hT0]; exact jI_1) | (rw [nrD_1 (by omega) (by omega)]; exact jI_1) | (rw [nrD_2 (by omega) (by omega)])) ?_
      refine lv_aload_n hx hb dX11_nearer_183 rfl (lv_at hl 8 rfl) ?_
      refine va_get (D := (dC, dI)) (ci := 9) (v := .long (jI u)) (C := RX11) (T := TX11) (N := 55) hx hb hts inX11 hown hK hP 0 rfl rfl 48 (by decide) (hts _ mw_1207) (fun _ h9 => h9) rfl dX11_nearer_184 ?_
      refine lv_aload_n hx hb dX11_nearer_187 rfl (lv_at hl 8 rfl) ?_
      refine va_get (D := (dC, dI)) (ci := 9) (v := .long (jI d)) (C := RX11) (T := TX11) (N := 55) hx hb hts inX11 hown hK hP 0 rfl rfl 49 (by decide) (hts _ mw_1208) (fun _ h9 => h9) rfl dX11_nearer_188 ?_
      have hPc := hP.sub (ws' := [(om k0 a I0 (vp_updL (vp_updL J0 48 (jI u)) 49 (jI d)))]) [0] rfl
      have hDc := hD.sub (ws' := [(om k0 a I0 (vp_updL (vp_updL J0 48 (jI u)) 49 (jI d)))]) [0] (by decide) rfl
      have hFc := va_free (wc := [(om k0 a I0 (vp_updL (vp_updL J0 48 (jI u)) 49 (jI d)))]) hD hS hA [0] rfl
      refine zcall (st1 := [.int (pI ((nrU (S0 q).toInt (S0 (q + 1)).toInt (S0 (q + 2)).toInt (S0 (q + 3)).toInt px.toInt py.toInt) * d < u * (nrD (S0 q).toInt (S0 (q + 1)).toInt (S0 (q + 2)).toInt (S0 (q + 3)).toInt px.toInt py.toInt)))]) (va_runV (As := [.long (jI (nrU (S0 q).toInt (S0 (q + 1)).toInt (S0 (q + 2)).toInt (S0 (q + 3)).toInt px.toInt py.toInt)), .long (jI (nrD (S0 q).toInt (S0 (q + 1)).toInt (S0 (q + 2)).toInt (S0 (q + 3)).toInt px.toInt py.toInt)), .long (jI u), .long (jI d)]) (rest := []) ⟨hx, hb, hml, hown, hts⟩ (k_M_isLess l dC dI cI cZ cF s.heap.size k0 a I0 (vp_updL (vp_updL J0 48 (jI u)) 49 (jI d)) (nrU (S0 q).toInt (S0 (q + 1)).toInt (S0 (q + 2)).toInt (S0 (q + 3)).toInt px.toInt py.toInt) (nrD (S0 q).toInt (S0 (q + 1)).toInt (S0 (q + 2)).toInt (S0 (q + 3)).toInt px.toInt py.toInt) u d (prN hUb.1 hd9) (prN hu9 ⟨by omega, hUb.2.2⟩) (by omega) (by omega) (by omega) (by omega)) (cwV 4 hts (zz_gV mw_1596 mw_1598 mw_86 mw_110 mc_yX11_isLess) rfl rfl rfl (by decide +kernel) ⟨Nat.le_of_ble_eq_true rfl, Nat.le_of_ble_eq_true rfl⟩) (zPV2 (q0 := 0) (ci := 9) hPc hDc hK hXN rfl rfl) rfl rfl hl.1 rfl (lv_room (Nat.le_of_ble_eq_true rfl)) dX11_nearer_191 ⟨Nat.le_of_ble_eq_true rfl, Nat.le_of_ble_eq_true rfl⟩) hS hFc hFc rfl (fun t H1 locs ht hB hk1 hS => ?_)
      obtain ⟨hP1, hD1⟩ := hB
      rw [ht] at hP1
      obtain ⟨hP, hD⟩ := va_join (wr := [(oa (a 32) cI 8 S0)]) (w1 := [(om k0 a I0 (vp_updL (vp_updL J0 48 (jI u)) 49 (jI d)))]) hP hD [0] [1] rfl rfl (by decide) (by decide) hk1 hFc hP1 hD1
      clear hk1 hPc hDc hFc hP1 hD1 ht
      generalize H1 = H at hP hS ⊢
      have hP := hP.sub (ws' := [(om k0 a I0 (vp_updL (vp_updL J0 48 (jI u)) 49 (jI d))), (oa (a 32) cI 8 S0)]) [1, 0] rfl
      have hD := hD.sub (ws' := [(om k0 a I0 (vp_updL (vp_updL J0 48 (jI u)) 49 (jI d))), (oa (a 32) cI 8 S0)]) [1, 0] (by decide) rfl
      have hP : va_P (dC, dI) classes [(om k0 a I0 (vp_updL (vp_updL J0 48 (jI u)) 49 (jI d))), (oa (a 32) cI 8 S0)] H := hP
      have hD : va_D A [(om k0 a I0 (vp_updL (vp_updL J0 48 (jI u)) 49 (jI d))), (oa (a 32) cI 8 S0)] := hD
      refine lv_if_eq (tgt := 209) hx hb dX11_nearer_194 (by decide) (fun c_3 => ?_) (fun c_3 => ?_)
      · have c_3 : ¬ ((nrU (S0 q).toInt (S0 (q + 1)).toInt (S0 (q + 2)).toInt (S0 (q + 3)).toInt px.toInt py.toInt) * d < u * (nrD (S0 q).toInt (S0 (q + 1)).toInt (S0 (q + 2)).toInt (S0 (q + 3)).toInt px.toInt py.toInt)) := zp_0 c_3
        have hP9 := hP.sub (ws' := [(om k0 a I0 (vp_updL (vp_updL J0 48 (jI u)) 49 (jI d))), (oa (a 32) cI 8 S0)]) [0, 1] rfl
        have hD9 := hD.sub (ws' := [(om k0 a I0 (vp_updL (vp_updL J0 48 (jI u)) 49 (jI d))), (oa (a 32) cI 8 S0)]) [0, 1] (by decide) rfl
        rw [hQ9]
        exact W.vret hx hb hr (fun t ht hW => ⟨⟨rfl, u, d, (by unfold ndP; first | exact Or.inl ⟨Or.inl (by omega), rfl, rfl⟩ | exact Or.inl ⟨Or.inr (by assumption), rfl, rfl⟩ | exact Or.inr ⟨fun h => h.elim (by omega) (by assumption), rfl, rfl⟩), by rw [ht]; exact hP9, hD9⟩, hS.F ht⟩) hS.2.2 dX11_nearer_209
      · have c_3 : (nrU (S0 q).toInt (S0 (q + 1)).toInt (S0 (q + 2)).toInt (S0 (q + 3)).toInt px.toInt py.toInt) * d < u * (nrD (S0 q).toInt (S0 (q + 1)).toInt (S0 (q + 2)).toInt (S0 (q + 3)).toInt px.toInt py.toInt) := zp_1 c_3
        refine lv_aload_n hx hb dX11_nearer_197 rfl (lv_at hl 8 rfl) ?_
        refine lv_lload hx hb dX11_nearer_198 (lv_at hl 0 rfl) ?_
        refine va_put (D := (dC, dI)) (ci := 9) (v := .long (jI (nrU (S0 q).toInt (S0 (q + 1)).toInt (S0 (q + 2)).toInt (S0 (q + 3)).toInt px.toInt py.toInt))) (ty := .long) (C := RX11) (T := TX11) (N := 55) hx hb hts inX11 tyX11 tyX11_ok nmX11 hown hK hP hD hS 0 rfl rfl 48 (by decide) (hts _ mw_1207) (fun _ h9 => h9) rfl (by decide +kernel) rfl rfl (Nat.le_of_ble_eq_true rfl) dX11_nearer_200 (fun H locs hP hD hS => ?_)
        have hP : va_P (dC, dI) classes [(om k0 a I0 (vp_updL (vp_updL J0 48 (jI (nrU (S0 q).toInt (S0 (q + 1)).toInt (S0 (q + 2)).toInt (S0 (q + 3)).toInt px.toInt py.toInt))) 49 (jI d))), (oa (a 32) cI 8 S0)] H := hP
        have hD : va_D A [(om k0 a I0 (vp_updL (vp_updL J0 48 (jI (nrU (S0 q).toInt (S0 (q + 1)).toInt (S0 (q + 2)).toInt (S0 (q + 3)).toInt px.toInt py.toInt))) 49 (jI d))), (oa (a 32) cI 8 S0)] := hD
        refine lv_aload_n hx hb dX11_nearer_203 rfl (lv_at hl 8 rfl) ?_
        refine lv_lload hx hb dX11_nearer_204 (lv_at hl 1 rfl) ?_
        refine zz_l (v := jI (nrD (S0 q).toInt (S0 (q + 1)).toInt (S0 (q + 2)).toInt (S0 (q + 3)).toInt px.toInt py.toInt)) (by first | (rw [nrD_0 hT0]; exact jI_1) | (rw [nrD_1 (by omega) (by omega)]; exact jI_1) | (rw [nrD_2 (by omega) (by omega)])) ?_
        refine va_put (D := (dC, dI)) (ci := 9) (v := .long (jI (nrD (S0 q).toInt (S0 (q + 1)).toInt (S0 (q + 2)).toInt (S0 (q + 3)).toInt px.toInt py.toInt))) (ty := .long) (C := RX11) (T := TX11) (N := 55) hx hb hts inX11 tyX11 tyX11_ok nmX11 hown hK hP hD hS 0 rfl rfl 49 (by decide) (hts _ mw_1208) (fun _ h9 => h9) rfl (by decide +kernel) rfl rfl (Nat.le_of_ble_eq_true rfl) dX11_nearer_206 (fun H locs hP hD hS => ?_)
        have hP : va_P (dC, dI) classes [(om k0 a I0 (vp_updL (vp_updL J0 48 (jI (nrU (S0 q).toInt (S0 (q + 1)).toInt (S0 (q + 2)).toInt (S0 (q + 3)).toInt px.toInt py.toInt))) 49 (jI (nrD (S0 q).toInt (S0 (q + 1)).toInt (S0 (q + 2)).toInt (S0 (q + 3)).toInt px.toInt py.toInt)))), (oa (a 32) cI 8 S0)] H := hP
        have hD : va_D A [(om k0 a I0 (vp_updL (vp_updL J0 48 (jI (nrU (S0 q).toInt (S0 (q + 1)).toInt (S0 (q + 2)).toInt (S0 (q + 3)).toInt px.toInt py.toInt))) 49 (jI (nrD (S0 q).toInt (S0 (q + 1)).toInt (S0 (q + 2)).toInt (S0 (q + 3)).toInt px.toInt py.toInt)))), (oa (a 32) cI 8 S0)] := hD
        have hP9 := hP.sub (ws' := [(om k0 a I0 (vp_updL (vp_updL J0 48 (jI (nrU (S0 q).toInt (S0 (q + 1)).toInt (S0 (q + 2)).toInt (S0 (q + 3)).toInt px.toInt py.toInt))) 49 (jI (nrD (S0 q).toInt (S0 (q + 1)).toInt (S0 (q + 2)).toInt (S0 (q + 3)).toInt px.toInt py.toInt)))), (oa (a 32) cI 8 S0)]) [0, 1] rfl
        have hD9 := hD.sub (ws' := [(om k0 a I0 (vp_updL (vp_updL J0 48 (jI (nrU (S0 q).toInt (S0 (q + 1)).toInt (S0 (q + 2)).toInt (S0 (q + 3)).toInt px.toInt py.toInt))) 49 (jI (nrD (S0 q).toInt (S0 (q + 1)).toInt (S0 (q + 2)).toInt (S0 (q + 3)).toInt px.toInt py.toInt)))), (oa (a 32) cI 8 S0)]) [0, 1] (by decide) rfl
        rw [hQ9]
        exact W.vret hx hb hr (fun t ht hW => ⟨⟨rfl, (nrU (S0 q).toInt (S0 (q + 1)).toInt (S0 (q + 2)).toInt (S0 (q + 3)).toInt px.toInt py.toInt), (nrD (S0 q).toInt (S0 (q + 1)).toInt (S0 (q + 2)).toInt (S0 (q + 3)).toInt px.toInt py.toInt), (by unfold ndP; first | exact Or.inl ⟨Or.inl (by omega), rfl, rfl⟩ | exact Or.inl ⟨Or.inr (by assumption), rfl, rfl⟩ | exact Or.inr ⟨fun h => h.elim (by omega) (by assumption), rfl, rfl⟩), by rw [ht]; exact hP9, hD9⟩, hS.F ht⟩) hS.2.2 dX11_nearer_209
  · have c_1 : ¬ (nrL (S0 q).toInt (S0 (q + 1)).toInt (S0 (q + 2)).toInt (S0 (q + 3)).toInt) = 0 := zl_ne (jI_toInt (by omega)) (by decide) c_1
    refine lv_lload hx hb dX11_nearer_86 (lv_at hl 1 rfl) ?_
    refine lv_lconst (v := 0) hx hb dX11_nearer_88 (by decide) ?_
    refine W.lcmp hx hb dX11_nearer_89 ?_
    refine lv_if_gt (tgt := 109) hx hb dX11_nearer_90 (by decide) (fun c_4 => ?_) (fun c_4 => ?_)
    · have c_4 : 0 < (nrT (S0 q).toInt (S0 (q + 1)).toInt (S0 (q + 2)).toInt (S0 (q + 3)).toInt px.toInt py.toInt) := zl_gt (jI_toInt (by omega)) (by decide) c_4
      refine lv_lload hx hb dX11_nearer_109 (lv_at hl 1 rfl) ?_
      refine lv_lload hx hb dX11_nearer_111 (lv_at hl 2 rfl) ?_
      refine W.lcmp hx hb dX11_nearer_113 ?_
      refine lv_if_lt (tgt := 145) hx hb dX11_nearer_114 (by decide) (fun c_5 => ?_) (fun c_5 => ?_)
      · have c_5 : (nrT (S0 q).toInt (S0 (q + 1)).toInt (S0 (q + 2)).toInt (S0 (q + 3)).toInt px.toInt py.toInt) < (nrL (S0 q).toInt (S0 (q + 1)).toInt (S0 (q + 2)).toInt (S0 (q + 3)).toInt) := zl_lt (jI_toInt (by omega)) (jI_toInt (by omega)) c_5
        refine lv_lload hx hb dX11_nearer_145 (lv_at hl 6 rfl) ?_
        refine lv_lload hx hb dX11_nearer_147 (lv_at hl 3 rfl) ?_
        refine lv_lmul hx hb dX11_nearer_149 ?_
        refine lv_lload hx hb dX11_nearer_150 (lv_at hl 5 rfl) ?_
        refine lv_lload hx hb dX11_nearer_152 (lv_at hl 4 rfl) ?_
        refine lv_lmul hx hb dX11_nearer_154 ?_
        refine lv_lsub hx hb dX11_nearer_155 ?_
        refine lv_lstore (lv' := [(21, .long (((((S0 (q + 2)) - (S0 q)).toInt64) * ((py - (S0 (q + 1))).toInt64)) - ((((S0 (q + 3)) - (S0 (q + 1))).toInt64) * ((px - (S0 q)).toInt64)))), (19, .long 1), (15, .long (jI (nrT (S0 q).toInt (S0 (q + 1)).toInt (S0 (q + 2)).toInt (S0 (q + 3)).toInt px.toInt py.toInt))), (13, .long (jI (nrL (S0 q).toInt (S0 (q + 1)).toInt (S0 (q + 2)).toInt (S0 (q + 3)).toInt))), (11, .long ((py - (S0 (q + 1))).toInt64)), (9, .long ((px - (S0 q)).toInt64)), (7, .long (((S0 (q + 3)) - (S0 (q + 1))).toInt64)), (5, .long (((S0 (q + 2)) - (S0 q)).toInt64)), (0, .ref k0), (1, .ref (a 32)), (2, .int px), (3, .int py), (4, .int (nI q))]) hx hb dX11_nearer_156 hl (by decide) rfl (fun ls hl => ?_)
        refine lv_lload hx hb dX11_nearer_158 (lv_at hl 0 rfl) ?_
        refine lv_lload hx hb dX11_nearer_160 (lv_at hl 0 rfl) ?_
        refine lv_lmul hx hb dX11_nearer_162 ?_
        refine zz_l (v := jI (nrU (S0 q).toInt (S0 (q + 1)).toInt (S0 (q + 2)).toInt (S0 (q + 3)).toInt px.toInt py.toInt)) (nr_u2 (hs q (by omega) (by omega)) (hs (q + 1) (by omega) (by omega)) (hs (q + 2) (by omega) (by omega)) (hs (q + 3) (by omega) (by omega)) hpx hpy (by omega) (by omega)) ?_
        refine lv_lstore (lv' := [(17, .long (jI (nrU (S0 q).toInt (S0 (q + 1)).toInt (S0 (q + 2)).toInt (S0 (q + 3)).toInt px.toInt py.toInt))), (21, .long (((((S0 (q + 2)) - (S0 q)).toInt64) * ((py - (S0 (q + 1))).toInt64)) - ((((S0 (q + 3)) - (S0 (q + 1))).toInt64) * ((px - (S0 q)).toInt64)))), (19, .long 1), (15, .long (jI (nrT (S0 q).toInt (S0 (q + 1)).toInt (S0 (q + 2)).toInt (S0 (q + 3)).toInt px.toInt py.toInt))), (13, .long (jI (nrL (S0 q).toInt (S0 (q + 1)).toInt (S0 (q + 2)).toInt (S0 (q + 3)).toInt))), (11, .long ((py - (S0 (q + 1))).toInt64)), (9, .long ((px - (S0 q)).toInt64)), (7, .long (((S0 (q + 3)) - (S0 (q + 1))).toInt64)), (5, .long (((S0 (q + 2)) - (S0 q)).toInt64)), (0, .ref k0), (1, .ref (a 32)), (2, .int px), (3, .int py), (4, .int (nI q))]) hx hb dX11_nearer_163 hl (by decide) rfl (fun ls hl => ?_)
        refine lv_lload hx hb dX11_nearer_165 (lv_at hl 4 rfl) ?_
        refine lv_lstore (lv' := [(19, .long (jI (nrL (S0 q).toInt (S0 (q + 1)).toInt (S0 (q + 2)).toInt (S0 (q + 3)).toInt))), (17, .long (jI (nrU (S0 q).toInt (S0 (q + 1)).toInt (S0 (q + 2)).toInt (S0 (q + 3)).toInt px.toInt py.toInt))), (21, .long (((((S0 (q + 2)) - (S0 q)).toInt64) * ((py - (S0 (q + 1))).toInt64)) - ((((S0 (q + 3)) - (S0 (q + 1))).toInt64) * ((px - (S0 q)).toInt64)))), (15, .long (jI (nrT (S0 q).toInt (S0 (q + 1)).toInt (S0 (q + 2)).toInt (S0 (q + 3)).toInt px.toInt py.toInt))), (13, .long (jI (nrL (S0 q).toInt (S0 (q + 1)).toInt (S0 (q + 2)).toInt (S0 (q + 3)).toInt))), (11, .long ((py - (S0 (q + 1))).toInt64)), (9, .long ((px - (S0 q)).toInt64)), (7, .long (((S0 (q + 3)) - (S0 (q + 1))).toInt64)), (5, .long (((S0 (q + 2)) - (S0 q)).toInt64)), (0, .ref k0), (1, .ref (a 32)), (2, .int px), (3, .int py), (4, .int (nI q))]) hx hb dX11_nearer_167 hl (by decide) rfl (fun ls hl => ?_)
        refine lv_aload_n hx hb dX11_nearer_169 rfl (lv_at hl 9 rfl) ?_
        refine va_get (D := (dC, dI)) (ci := 9) (v := .long (jI d)) (C := RX11) (T := TX11) (N := 55) hx hb hts inX11 hown hK hP 0 rfl rfl 49 (by decide) (hts _ mw_1208) (fun _ h9 => h9) rfl dX11_nearer_170 ?_
        refine lv_lconst (v := 0) hx hb dX11_nearer_173 (by decide) ?_
        refine W.lcmp hx hb dX11_nearer_174 ?_
        refine lv_if_eq (tgt := 197) hx hb dX11_nearer_175 (by decide) (fun c_6 => ?_) (fun c_6 => ?_)
        · have c_6 : d = 0 := zl_eq (jI_toInt (by omega)) (by decide) c_6
          refine lv_aload_n hx hb dX11_nearer_197 rfl (lv_at hl 9 rfl) ?_
          refine lv_lload hx hb dX11_nearer_198 (lv_at hl 1 rfl) ?_
          refine va_put (D := (dC, dI)) (ci := 9) (v := .long (jI (nrU (S0 q).toInt (S0 (q + 1)).toInt (S0 (q + 2)).toInt (S0 (q + 3)).toInt px.toInt py.toInt))) (ty := .long) (C := RX11) (T := TX11) (N := 55) hx hb hts inX11 tyX11 tyX11_ok nmX11 hown hK hP hD hS 0 rfl rfl 48 (by decide) (hts _ mw_1207) (fun _ h9 => h9) rfl (by decide +kernel) rfl rfl (Nat.le_of_ble_eq_true rfl) dX11_nearer_200 (fun H locs hP hD hS => ?_)
          have hP : va_P (dC, dI) classes [(om k0 a I0 (vp_updL (vp_updL J0 48 (jI (nrU (S0 q).toInt (S0 (q + 1)).toInt (S0 (q + 2)).toInt (S0 (q + 3)).toInt px.toInt py.toInt))) 49 (jI d))), (oa (a 32) cI 8 S0)] H := hP
          have hD : va_D A [(om k0 a I0 (vp_updL (vp_updL J0 48 (jI (nrU (S0 q).toInt (S0 (q + 1)).toInt (S0 (q + 2)).toInt (S0 (q + 3)).toInt px.toInt py.toInt))) 49 (jI d))), (oa (a 32) cI 8 S0)] := hD
          refine lv_aload_n hx hb dX11_nearer_203 rfl (lv_at hl 9 rfl) ?_
          refine lv_lload hx hb dX11_nearer_204 (lv_at hl 0 rfl) ?_
          refine zz_l (v := jI (nrD (S0 q).toInt (S0 (q + 1)).toInt (S0 (q + 2)).toInt (S0 (q + 3)).toInt px.toInt py.toInt)) (by first | (rw [nrD_0 hT0]; exact jI_1) | (rw [nrD_1 (by omega) (by omega)]; exact jI_1) | (rw [nrD_2 (by omega) (by omega)])) ?_
          refine va_put (D := (dC, dI)) (ci := 9) (v := .long (jI (nrD (S0 q).toInt (S0 (q + 1)).toInt (S0 (q + 2)).toInt (S0 (q + 3)).toInt px.toInt py.toInt))) (ty := .long) (C := RX11) (T := TX11) (N := 55) hx hb hts inX11 tyX11 tyX11_ok nmX11 hown hK hP hD hS 0 rfl rfl 49 (by decide) (hts _ mw_1208) (fun _ h9 => h9) rfl (by decide +kernel) rfl rfl (Nat.le_of_ble_eq_true rfl) dX11_nearer_206 (fun H locs hP hD hS => ?_)
          have hP : va_P (dC, dI) classes [(om k0 a I0 (vp_updL (vp_updL J0 48 (jI (nrU (S0 q).toInt (S0 (q + 1)).toInt (S0 (q + 2)).toInt (S0 (q + 3)).toInt px.toInt py.toInt))) 49 (jI (nrD (S0 q).toInt (S0 (q + 1)).toInt (S0 (q + 2)).toInt (S0 (q + 3)).toInt px.toInt py.toInt)))), (oa (a 32) cI 8 S0)] H := hP
          have hD : va_D A [(om k0 a I0 (vp_updL (vp_updL J0 48 (jI (nrU (S0 q).toInt (S0 (q + 1)).toInt (S0 (q + 2)).toInt (S0 (q + 3)).toInt px.toInt py.toInt))) 49 (jI (nrD (S0 q).toInt (S0 (q + 1)).toInt (S0 (q + 2)).toInt (S0 (q + 3)).toInt px.toInt py.toInt)))), (oa (a 32) cI 8 S0)] := hD
          have hP9 := hP.sub (ws' := [(om k0 a I0 (vp_updL (vp_updL J0 48 (jI (nrU (S0 q).toInt (S0 (q + 1)).toInt (S0 (q + 2)).toInt (S0 (q + 3)).toInt px.toInt py.toInt))) 49 (jI (nrD (S0 q).toInt (S0 (q + 1)).toInt (S0 (q + 2)).toInt (S0 (q + 3)).toInt px.toInt py.toInt)))), (oa (a 32) cI 8 S0)]) [0, 1] rfl
          have hD9 := hD.sub (ws' := [(om k0 a I0 (vp_updL (vp_updL J0 48 (jI (nrU (S0 q).toInt (S0 (q + 1)).toInt (S0 (q + 2)).toInt (S0 (q + 3)).toInt px.toInt py.toInt))) 49 (jI (nrD (S0 q).toInt (S0 (q + 1)).toInt (S0 (q + 2)).toInt (S0 (q + 3)).toInt px.toInt py.toInt)))), (oa (a 32) cI 8 S0)]) [0, 1] (by decide) rfl
          rw [hQ9]
          exact W.vret hx hb hr (fun t ht hW => ⟨⟨rfl, (nrU (S0 q).toInt (S0 (q + 1)).toInt (S0 (q + 2)).toInt (S0 (q + 3)).toInt px.toInt py.toInt), (nrD (S0 q).toInt (S0 (q + 1)).toInt (S0 (q + 2)).toInt (S0 (q + 3)).toInt px.toInt py.toInt), (by unfold ndP; first | exact Or.inl ⟨Or.inl (by omega), rfl, rfl⟩ | exact Or.inl ⟨Or.inr (by assumption), rfl, rfl⟩ | exact Or.inr ⟨fun h => h.elim (by omega) (by assumption), rfl, rfl⟩), by rw [ht]; exact hP9, hD9⟩, hS.F ht⟩) hS.2.2 dX11_nearer_209
        · have c_6 : ¬ d = 0 := zl_ne (jI_toInt (by omega)) (by decide) c_6
          refine lv_aload_n hx hb dX11_nearer_178 rfl (lv_at hl 9 rfl) ?_
          refine lv_lload hx hb dX11_nearer_179 (lv_at hl 1 rfl) ?_
          refine lv_lload hx hb dX11_nearer_181 (lv_at hl 0 rfl) ?_
          refine zz_l (v := jI (nrD (S0 q).toInt (S0 (q + 1)).toInt (S0 (q + 2)).toInt (S0 (q + 3)).toInt px.toInt py.toInt)) (by first | (rw [nrD_0 hT0]; exact jI_1) | (rw [nrD_1 (by omega) (by omega)]; exact jI_1) | (rw [nrD_2 (by omega) (by omega)])) ?_
          refine lv_aload_n hx hb dX11_nearer_183 rfl (lv_at hl 9 rfl) ?_
          refine va_get (D := (dC, dI)) (ci := 9) (v := .long (jI u)) (C := RX11) (T := TX11) (N := 55) hx hb hts inX11 hown hK hP 0 rfl rfl 48 (by decide) (hts _ mw_1207) (fun _ h9 => h9) rfl dX11_nearer_184 ?_
          refine lv_aload_n hx hb dX11_nearer_187 rfl (lv_at hl 9 rfl) ?_
          refine va_get (D := (dC, dI)) (ci := 9) (v := .long (jI d)) (C := RX11) (T := TX11) (N := 55) hx hb hts inX11 hown hK hP 0 rfl rfl 49 (by decide) (hts _ mw_1208) (fun _ h9 => h9) rfl dX11_nearer_188 ?_
          have hPc := hP.sub (ws' := [(om k0 a I0 (vp_updL (vp_updL J0 48 (jI u)) 49 (jI d)))]) [0] rfl
          have hDc := hD.sub (ws' := [(om k0 a I0 (vp_updL (vp_updL J0 48 (jI u)) 49 (jI d)))]) [0] (by decide) rfl
          have hFc := va_free (wc := [(om k0 a I0 (vp_updL (vp_updL J0 48 (jI u)) 49 (jI d)))]) hD hS hA [0] rfl
          refine zcall (st1 := [.int (pI ((nrU (S0 q).toInt (S0 (q + 1)).toInt (S0 (q + 2)).toInt (S0 (q + 3)).toInt px.toInt py.toInt) * d < u * (nrD (S0 q).toInt (S0 (q + 1)).toInt (S0 (q + 2)).toInt (S0 (q + 3)).toInt px.toInt py.toInt)))]) (va_runV (As := [.long (jI (nrU (S0 q).toInt (S0 (q + 1)).toInt (S0 (q + 2)).toInt (S0 (q + 3)).toInt px.toInt py.toInt)), .long (jI (nrD (S0 q).toInt (S0 (q + 1)).toInt (S0 (q + 2)).toInt (S0 (q + 3)).toInt px.toInt py.toInt)), .long (jI u), .long (jI d)]) (rest := []) ⟨hx, hb, hml, hown, hts⟩ (k_M_isLess l dC dI cI cZ cF s.heap.size k0 a I0 (vp_updL (vp_updL J0 48 (jI u)) 49 (jI d)) (nrU (S0 q).toInt (S0 (q + 1)).toInt (S0 (q + 2)).toInt (S0 (q + 3)).toInt px.toInt py.toInt) (nrD (S0 q).toInt (S0 (q + 1)).toInt (S0 (q + 2)).toInt (S0 (q + 3)).toInt px.toInt py.toInt) u d (prN hUb.1 hd9) (prN hu9 ⟨by omega, hUb.2.2⟩) (by omega) (by omega) (by omega) (by omega)) (cwV 4 hts (zz_gV mw_1596 mw_1598 mw_86 mw_110 mc_yX11_isLess) rfl rfl rfl (by decide +kernel) ⟨Nat.le_of_ble_eq_true rfl, Nat.le_of_ble_eq_true rfl⟩) (zPV2 (q0 := 0) (ci := 9) hPc hDc hK hXN rfl rfl) rfl rfl hl.1 rfl (lv_room (Nat.le_of_ble_eq_true rfl)) dX11_nearer_191 ⟨Nat.le_of_ble_eq_true rfl, Nat.le_of_ble_eq_true rfl⟩) hS hFc hFc rfl (fun t H1 locs ht hB hk1 hS => ?_)
          obtain ⟨hP1, hD1⟩ := hB
          rw [ht] at hP1
          obtain ⟨hP, hD⟩ := va_join (wr := [(oa (a 32) cI 8 S0)]) (w1 := [(om k0 a I0 (vp_updL (vp_updL J0 48 (jI u)) 49 (jI d)))]) hP hD [0] [1] rfl rfl (by decide) (by decide) hk1 hFc hP1 hD1
          clear hk1 hPc hDc hFc hP1 hD1 ht
          generalize H1 = H at hP hS ⊢
          have hP := hP.sub (ws' := [(om k0 a I0 (vp_updL (vp_updL J0 48 (jI u)) 49 (jI d))), (oa (a 32) cI 8 S0)]) [1, 0] rfl
          have hD := hD.sub (ws' := [(om k0 a I0 (vp_updL (vp_updL J0 48 (jI u)) 49 (jI d))), (oa (a 32) cI 8 S0)]) [1, 0] (by decide) rfl
          have hP : va_P (dC, dI) classes [(om k0 a I0 (vp_updL (vp_updL J0 48 (jI u)) 49 (jI d))), (oa (a 32) cI 8 S0)] H := hP
          have hD : va_D A [(om k0 a I0 (vp_updL (vp_updL J0 48 (jI u)) 49 (jI d))), (oa (a 32) cI 8 S0)] := hD
          refine lv_if_eq (tgt := 209) hx hb dX11_nearer_194 (by decide) (fun c_7 => ?_) (fun c_7 => ?_)
          · have c_7 : ¬ ((nrU (S0 q).toInt (S0 (q + 1)).toInt (S0 (q + 2)).toInt (S0 (q + 3)).toInt px.toInt py.toInt) * d < u * (nrD (S0 q).toInt (S0 (q + 1)).toInt (S0 (q + 2)).toInt (S0 (q + 3)).toInt px.toInt py.toInt)) := zp_0 c_7
            have hP9 := hP.sub (ws' := [(om k0 a I0 (vp_updL (vp_updL J0 48 (jI u)) 49 (jI d))), (oa (a 32) cI 8 S0)]) [0, 1] rfl
            have hD9 := hD.sub (ws' := [(om k0 a I0 (vp_updL (vp_updL J0 48 (jI u)) 49 (jI d))), (oa (a 32) cI 8 S0)]) [0, 1] (by decide) rfl
            rw [hQ9]
            exact W.vret hx hb hr (fun t ht hW => ⟨⟨rfl, u, d, (by unfold ndP; first | exact Or.inl ⟨Or.inl (by omega), rfl, rfl⟩ | exact Or.inl ⟨Or.inr (by assumption), rfl, rfl⟩ | exact Or.inr ⟨fun h => h.elim (by omega) (by assumption), rfl, rfl⟩), by rw [ht]; exact hP9, hD9⟩, hS.F ht⟩) hS.2.2 dX11_nearer_209
          · have c_7 : (nrU (S0 q).toInt (S0 (q + 1)).toInt (S0 (q + 2)).toInt (S0 (q + 3)).toInt px.toInt py.toInt) * d < u * (nrD (S0 q).toInt (S0 (q + 1)).toInt (S0 (q + 2)).toInt (S0 (q + 3)).toInt px.toInt py.toInt) := zp_1 c_7
            refine lv_aload_n hx hb dX11_nearer_197 rfl (lv_at hl 9 rfl) ?_
            refine lv_lload hx hb dX11_nearer_198 (lv_at hl 1 rfl) ?_
            refine va_put (D := (dC, dI)) (ci := 9) (v := .long (jI (nrU (S0 q).toInt (S0 (q + 1)).toInt (S0 (q + 2)).toInt (S0 (q + 3)).toInt px.toInt py.toInt))) (ty := .long) (C := RX11) (T := TX11) (N := 55) hx hb hts inX11 tyX11 tyX11_ok nmX11 hown hK hP hD hS 0 rfl rfl 48 (by decide) (hts _ mw_1207) (fun _ h9 => h9) rfl (by decide +kernel) rfl rfl (Nat.le_of_ble_eq_true rfl) dX11_nearer_200 (fun H locs hP hD hS => ?_)
            have hP : va_P (dC, dI) classes [(om k0 a I0 (vp_updL (vp_updL J0 48 (jI (nrU (S0 q).toInt (S0 (q + 1)).toInt (S0 (q + 2)).toInt (S0 (q + 3)).toInt px.toInt py.toInt))) 49 (jI d))), (oa (a 32) cI 8 S0)] H := hP
            have hD : va_D A [(om k0 a I0 (vp_updL (vp_updL J0 48 (jI (nrU (S0 q).toInt (S0 (q + 1)).toInt (S0 (q + 2)).toInt (S0 (q + 3)).toInt px.toInt py.toInt))) 49 (jI d))), (oa (a 32) cI 8 S0)] := hD
            refine lv_aload_n hx hb dX11_nearer_203 rfl (lv_at hl 9 rfl) ?_
            refine lv_lload hx hb dX11_nearer_204 (lv_at hl 0 rfl) ?_
            refine zz_l (v := jI (nrD (S0 q).toInt (S0 (q + 1)).toInt (S0 (q + 2)).toInt (S0 (q + 3)).toInt px.toInt py.toInt)) (by first | (rw [nrD_0 hT0]; exact jI_1) | (rw [nrD_1 (by omega) (by omega)]; exact jI_1) | (rw [nrD_2 (by omega) (by omega)])) ?_
            refine va_put (D := (dC, dI)) (ci := 9) (v := .long (jI (nrD (S0 q).toInt (S0 (q + 1)).toInt (S0 (q + 2)).toInt (S0 (q + 3)).toInt px.toInt py.toInt))) (ty := .long) (C := RX11) (T := TX11) (N := 55) hx hb hts inX11 tyX11 tyX11_ok nmX11 hown hK hP hD hS 0 rfl rfl 49 (by decide) (hts _ mw_1208) (fun _ h9 => h9) rfl (by decide +kernel) rfl rfl (Nat.le_of_ble_eq_true rfl) dX11_nearer_206 (fun H locs hP hD hS => ?_)
            have hP : va_P (dC, dI) classes [(om k0 a I0 (vp_updL (vp_updL J0 48 (jI (nrU (S0 q).toInt (S0 (q + 1)).toInt (S0 (q + 2)).toInt (S0 (q + 3)).toInt px.toInt py.toInt))) 49 (jI (nrD (S0 q).toInt (S0 (q + 1)).toInt (S0 (q + 2)).toInt (S0 (q + 3)).toInt px.toInt py.toInt)))), (oa (a 32) cI 8 S0)] H := hP
            have hD : va_D A [(om k0 a I0 (vp_updL (vp_updL J0 48 (jI (nrU (S0 q).toInt (S0 (q + 1)).toInt (S0 (q + 2)).toInt (S0 (q + 3)).toInt px.toInt py.toInt))) 49 (jI (nrD (S0 q).toInt (S0 (q + 1)).toInt (S0 (q + 2)).toInt (S0 (q + 3)).toInt px.toInt py.toInt)))), (oa (a 32) cI 8 S0)] := hD
            have hP9 := hP.sub (ws' := [(om k0 a I0 (vp_updL (vp_updL J0 48 (jI (nrU (S0 q).toInt (S0 (q + 1)).toInt (S0 (q + 2)).toInt (S0 (q + 3)).toInt px.toInt py.toInt))) 49 (jI (nrD (S0 q).toInt (S0 (q + 1)).toInt (S0 (q + 2)).toInt (S0 (q + 3)).toInt px.toInt py.toInt)))), (oa (a 32) cI 8 S0)]) [0, 1] rfl
            have hD9 := hD.sub (ws' := [(om k0 a I0 (vp_updL (vp_updL J0 48 (jI (nrU (S0 q).toInt (S0 (q + 1)).toInt (S0 (q + 2)).toInt (S0 (q + 3)).toInt px.toInt py.toInt))) 49 (jI (nrD (S0 q).toInt (S0 (q + 1)).toInt (S0 (q + 2)).toInt (S0 (q + 3)).toInt px.toInt py.toInt)))), (oa (a 32) cI 8 S0)]) [0, 1] (by decide) rfl
            rw [hQ9]
            exact W.vret hx hb hr (fun t ht hW => ⟨⟨rfl, (nrU (S0 q).toInt (S0 (q + 1)).toInt (S0 (q + 2)).toInt (S0 (q + 3)).toInt px.toInt py.toInt), (nrD (S0 q).toInt (S0 (q + 1)).toInt (S0 (q + 2)).toInt (S0 (q + 3)).toInt px.toInt py.toInt), (by unfold ndP; first | exact Or.inl ⟨Or.inl (by omega), rfl, rfl⟩ | exact Or.inl ⟨Or.inr (by assumption), rfl, rfl⟩ | exact Or.inr ⟨fun h => h.elim (by omega) (by assumption), rfl, rfl⟩), by rw [ht]; exact hP9, hD9⟩, hS.F ht⟩) hS.2.2 dX11_nearer_209
      · have c_5 : (nrL (S0 q).toInt (S0 (q + 1)).toInt (S0 (q + 2)).toInt (S0 (q + 3)).toInt) ≤ (nrT (S0 q).toInt (S0 (q + 1)).toInt (S0 (q + 2)).toInt (S0 (q + 3)).toInt px.toInt py.toInt) := zl_nlt (jI_toInt (by omega)) (jI_toInt (by omega)) c_5
        refine lv_lload hx hb dX11_nearer_117 (lv_at hl 4 rfl) ?_
        refine lv_lload hx hb dX11_nearer_119 (lv_at hl 6 rfl) ?_
        refine lv_lsub hx hb dX11_nearer_121 ?_
        refine lv_lload hx hb dX11_nearer_122 (lv_at hl 4 rfl) ?_
        refine lv_lload hx hb dX11_nearer_124 (lv_at hl 6 rfl) ?_
        refine lv_lsub hx hb dX11_nearer_126 ?_
        refine lv_lmul hx hb dX11_nearer_127 ?_
        refine lv_lload hx hb dX11_nearer_128 (lv_at hl 3 rfl) ?_
        refine lv_lload hx hb dX11_nearer_130 (lv_at hl 5 rfl) ?_
        refine lv_lsub hx hb dX11_nearer_132 ?_
        refine lv_lload hx hb dX11_nearer_133 (lv_at hl 3 rfl) ?_
        refine lv_lload hx hb dX11_nearer_135 (lv_at hl 5 rfl) ?_
        refine lv_lsub hx hb dX11_nearer_137 ?_
        refine lv_lmul hx hb dX11_nearer_138 ?_
        refine lv_ladd hx hb dX11_nearer_139 ?_
        refine zz_l (v := jI (nrU (S0 q).toInt (S0 (q + 1)).toInt (S0 (q + 2)).toInt (S0 (q + 3)).toInt px.toInt py.toInt)) (nr_u1 (hs q (by omega) (by omega)) (hs (q + 1) (by omega) (by omega)) (hs (q + 2) (by omega) (by omega)) (hs (q + 3) (by omega) (by omega)) hpx hpy (by omega) (by omega)) ?_
        refine lv_lstore (lv' := [(17, .long (jI (nrU (S0 q).toInt (S0 (q + 1)).toInt (S0 (q + 2)).toInt (S0 (q + 3)).toInt px.toInt py.toInt))), (19, .long 1), (15, .long (jI (nrT (S0 q).toInt (S0 (q + 1)).toInt (S0 (q + 2)).toInt (S0 (q + 3)).toInt px.toInt py.toInt))), (13, .long (jI (nrL (S0 q).toInt (S0 (q + 1)).toInt (S0 (q + 2)).toInt (S0 (q + 3)).toInt))), (11, .long ((py - (S0 (q + 1))).toInt64)), (9, .long ((px - (S0 q)).toInt64)), (7, .long (((S0 (q + 3)) - (S0 (q + 1))).toInt64)), (5, .long (((S0 (q + 2)) - (S0 q)).toInt64)), (0, .ref k0), (1, .ref (a 32)), (2, .int px), (3, .int py), (4, .int (nI q))]) hx hb dX11_nearer_140 hl (by decide) rfl (fun ls hl => ?_)
        refine lv_goto (tgt := 169) hx hb dX11_nearer_142 (by decide) ?_
        refine lv_aload_n hx hb dX11_nearer_169 rfl (lv_at hl 8 rfl) ?_
        refine va_get (D := (dC, dI)) (ci := 9) (v := .long (jI d)) (C := RX11) (T := TX11) (N := 55) hx hb hts inX11 hown hK hP 0 rfl rfl 49 (by decide) (hts _ mw_1208) (fun _ h9 => h9) rfl dX11_nearer_170 ?_
        refine lv_lconst (v := 0) hx hb dX11_nearer_173 (by decide) ?_
        refine W.lcmp hx hb dX11_nearer_174 ?_
        refine lv_if_eq (tgt := 197) hx hb dX11_nearer_175 (by decide) (fun c_8 => ?_) (fun c_8 => ?_)
        · have c_8 : d = 0 := zl_eq (jI_toInt (by omega)) (by decide) c_8
          refine lv_aload_n hx hb dX11_nearer_197 rfl (lv_at hl 8 rfl) ?_
          refine lv_lload hx hb dX11_nearer_198 (lv_at hl 0 rfl) ?_
          refine va_put (D := (dC, dI)) (ci := 9) (v := .long (jI (nrU (S0 q).toInt (S0 (q + 1)).toInt (S0 (q + 2)).toInt (S0 (q + 3)).toInt px.toInt py.toInt))) (ty := .long) (C := RX11) (T := TX11) (N := 55) hx hb hts inX11 tyX11 tyX11_ok nmX11 hown hK hP hD hS 0 rfl rfl 48 (by decide) (hts _ mw_1207) (fun _ h9 => h9) rfl (by decide +kernel) rfl rfl (Nat.le_of_ble_eq_true rfl) dX11_nearer_200 (fun H locs hP hD hS => ?_)
          have hP : va_P (dC, dI) classes [(om k0 a I0 (vp_updL (vp_updL J0 48 (jI (nrU (S0 q).toInt (S0 (q + 1)).toInt (S0 (q + 2)).toInt (S0 (q + 3)).toInt px.toInt py.toInt))) 49 (jI d))), (oa (a 32) cI 8 S0)] H := hP
          have hD : va_D A [(om k0 a I0 (vp_updL (vp_updL J0 48 (jI (nrU (S0 q).toInt (S0 (q + 1)).toInt (S0 (q + 2)).toInt (S0 (q + 3)).toInt px.toInt py.toInt))) 49 (jI d))), (oa (a 32) cI 8 S0)] := hD
          refine lv_aload_n hx hb dX11_nearer_203 rfl (lv_at hl 8 rfl) ?_
          refine lv_lload hx hb dX11_nearer_204 (lv_at hl 1 rfl) ?_
          refine zz_l (v := jI (nrD (S0 q).toInt (S0 (q + 1)).toInt (S0 (q + 2)).toInt (S0 (q + 3)).toInt px.toInt py.toInt)) (by first | (rw [nrD_0 hT0]; exact jI_1) | (rw [nrD_1 (by omega) (by omega)]; exact jI_1) | (rw [nrD_2 (by omega) (by omega)])) ?_
          refine va_put (D := (dC, dI)) (ci := 9) (v := .long (jI (nrD (S0 q).toInt (S0 (q + 1)).toInt (S0 (q + 2)).toInt (S0 (q + 3)).toInt px.toInt py.toInt))) (ty := .long) (C := RX11) (T := TX11) (N := 55) hx hb hts inX11 tyX11 tyX11_ok nmX11 hown hK hP hD hS 0 rfl rfl 49 (by decide) (hts _ mw_1208) (fun _ h9 => h9) rfl (by decide +kernel) rfl rfl (Nat.le_of_ble_eq_true rfl) dX11_nearer_206 (fun H locs hP hD hS => ?_)
          have hP : va_P (dC, dI) classes [(om k0 a I0 (vp_updL (vp_updL J0 48 (jI (nrU (S0 q).toInt (S0 (q + 1)).toInt (S0 (q + 2)).toInt (S0 (q + 3)).toInt px.toInt py.toInt))) 49 (jI (nrD (S0 q).toInt (S0 (q + 1)).toInt (S0 (q + 2)).toInt (S0 (q + 3)).toInt px.toInt py.toInt)))), (oa (a 32) cI 8 S0)] H := hP
          have hD : va_D A [(om k0 a I0 (vp_updL (vp_updL J0 48 (jI (nrU (S0 q).toInt (S0 (q + 1)).toInt (S0 (q + 2)).toInt (S0 (q + 3)).toInt px.toInt py.toInt))) 49 (jI (nrD (S0 q).toInt (S0 (q + 1)).toInt (S0 (q + 2)).toInt (S0 (q + 3)).toInt px.toInt py.toInt)))), (oa (a 32) cI 8 S0)] := hD
          have hP9 := hP.sub (ws' := [(om k0 a I0 (vp_updL (vp_updL J0 48 (jI (nrU (S0 q).toInt (S0 (q + 1)).toInt (S0 (q + 2)).toInt (S0 (q + 3)).toInt px.toInt py.toInt))) 49 (jI (nrD (S0 q).toInt (S0 (q + 1)).toInt (S0 (q + 2)).toInt (S0 (q + 3)).toInt px.toInt py.toInt)))), (oa (a 32) cI 8 S0)]) [0, 1] rfl
          have hD9 := hD.sub (ws' := [(om k0 a I0 (vp_updL (vp_updL J0 48 (jI (nrU (S0 q).toInt (S0 (q + 1)).toInt (S0 (q + 2)).toInt (S0 (q + 3)).toInt px.toInt py.toInt))) 49 (jI (nrD (S0 q).toInt (S0 (q + 1)).toInt (S0 (q + 2)).toInt (S0 (q + 3)).toInt px.toInt py.toInt)))), (oa (a 32) cI 8 S0)]) [0, 1] (by decide) rfl
          rw [hQ9]
          exact W.vret hx hb hr (fun t ht hW => ⟨⟨rfl, (nrU (S0 q).toInt (S0 (q + 1)).toInt (S0 (q + 2)).toInt (S0 (q + 3)).toInt px.toInt py.toInt), (nrD (S0 q).toInt (S0 (q + 1)).toInt (S0 (q + 2)).toInt (S0 (q + 3)).toInt px.toInt py.toInt), (by unfold ndP; first | exact Or.inl ⟨Or.inl (by omega), rfl, rfl⟩ | exact Or.inl ⟨Or.inr (by assumption), rfl, rfl⟩ | exact Or.inr ⟨fun h => h.elim (by omega) (by assumption), rfl, rfl⟩), by rw [ht]; exact hP9, hD9⟩, hS.F ht⟩) hS.2.2 dX11_nearer_209
        · have c_8 : ¬ d = 0 := zl_ne (jI_toInt (by omega)) (by decide) c_8
          refine lv_aload_n hx hb dX11_nearer_178 rfl (lv_at hl 8 rfl) ?_
          refine lv_lload hx hb dX11_nearer_179 (lv_at hl 0 rfl) ?_
          refine lv_lload hx hb dX11_nearer_181 (lv_at hl 1 rfl) ?_
          refine zz_l (v := jI (nrD (S0 q).toInt (S0 (q + 1)).toInt (S0 (q + 2)).toInt (S0 (q + 3)).toInt px.toInt py.toInt)) (by first | (rw [nrD_0 hT0]; exact jI_1) | (rw [nrD_1 (by omega) (by omega)]; exact jI_1) | (rw [nrD_2 (by omega) (by omega)])) ?_
          refine lv_aload_n hx hb dX11_nearer_183 rfl (lv_at hl 8 rfl) ?_
          refine va_get (D := (dC, dI)) (ci := 9) (v := .long (jI u)) (C := RX11) (T := TX11) (N := 55) hx hb hts inX11 hown hK hP 0 rfl rfl 48 (by decide) (hts _ mw_1207) (fun _ h9 => h9) rfl dX11_nearer_184 ?_
          refine lv_aload_n hx hb dX11_nearer_187 rfl (lv_at hl 8 rfl) ?_
          refine va_get (D := (dC, dI)) (ci := 9) (v := .long (jI d)) (C := RX11) (T := TX11) (N := 55) hx hb hts inX11 hown hK hP 0 rfl rfl 49 (by decide) (hts _ mw_1208) (fun _ h9 => h9) rfl dX11_nearer_188 ?_
          have hPc := hP.sub (ws' := [(om k0 a I0 (vp_updL (vp_updL J0 48 (jI u)) 49 (jI d)))]) [0] rfl
          have hDc := hD.sub (ws' := [(om k0 a I0 (vp_updL (vp_updL J0 48 (jI u)) 49 (jI d)))]) [0] (by decide) rfl
          have hFc := va_free (wc := [(om k0 a I0 (vp_updL (vp_updL J0 48 (jI u)) 49 (jI d)))]) hD hS hA [0] rfl
          refine zcall (st1 := [.int (pI ((nrU (S0 q).toInt (S0 (q + 1)).toInt (S0 (q + 2)).toInt (S0 (q + 3)).toInt px.toInt py.toInt) * d < u * (nrD (S0 q).toInt (S0 (q + 1)).toInt (S0 (q + 2)).toInt (S0 (q + 3)).toInt px.toInt py.toInt)))]) (va_runV (As := [.long (jI (nrU (S0 q).toInt (S0 (q + 1)).toInt (S0 (q + 2)).toInt (S0 (q + 3)).toInt px.toInt py.toInt)), .long (jI (nrD (S0 q).toInt (S0 (q + 1)).toInt (S0 (q + 2)).toInt (S0 (q + 3)).toInt px.toInt py.toInt)), .long (jI u), .long (jI d)]) (rest := []) ⟨hx, hb, hml, hown, hts⟩ (k_M_isLess l dC dI cI cZ cF s.heap.size k0 a I0 (vp_updL (vp_updL J0 48 (jI u)) 49 (jI d)) (nrU (S0 q).toInt (S0 (q + 1)).toInt (S0 (q + 2)).toInt (S0 (q + 3)).toInt px.toInt py.toInt) (nrD (S0 q).toInt (S0 (q + 1)).toInt (S0 (q + 2)).toInt (S0 (q + 3)).toInt px.toInt py.toInt) u d (prN hUb.1 hd9) (prN hu9 ⟨by omega, hUb.2.2⟩) (by omega) (by omega) (by omega) (by omega)) (cwV 4 hts (zz_gV mw_1596 mw_1598 mw_86 mw_110 mc_yX11_isLess) rfl rfl rfl (by decide +kernel) ⟨Nat.le_of_ble_eq_true rfl, Nat.le_of_ble_eq_true rfl⟩) (zPV2 (q0 := 0) (ci := 9) hPc hDc hK hXN rfl rfl) rfl rfl hl.1 rfl (lv_room (Nat.le_of_ble_eq_true rfl)) dX11_nearer_191 ⟨Nat.le_of_ble_eq_true rfl, Nat.le_of_ble_eq_true rfl⟩) hS hFc hFc rfl (fun t H1 locs ht hB hk1 hS => ?_)
          obtain ⟨hP1, hD1⟩ := hB
          rw [ht] at hP1
          obtain ⟨hP, hD⟩ := va_join (wr := [(oa (a 32) cI 8 S0)]) (w1 := [(om k0 a I0 (vp_updL (vp_updL J0 48 (jI u)) 49 (jI d)))]) hP hD [0] [1] rfl rfl (by decide) (by decide) hk1 hFc hP1 hD1
          clear hk1 hPc hDc hFc hP1 hD1 ht
          generalize H1 = H at hP hS ⊢
          have hP := hP.sub (ws' := [(om k0 a I0 (vp_updL (vp_updL J0 48 (jI u)) 49 (jI d))), (oa (a 32) cI 8 S0)]) [1, 0] rfl
          have hD := hD.sub (ws' := [(om k0 a I0 (vp_updL (vp_updL J0 48 (jI u)) 49 (jI d))), (oa (a 32) cI 8 S0)]) [1, 0] (by decide) rfl
          have hP : va_P (dC, dI) classes [(om k0 a I0 (vp_updL (vp_updL J0 48 (jI u)) 49 (jI d))), (oa (a 32) cI 8 S0)] H := hP
          have hD : va_D A [(om k0 a I0 (vp_updL (vp_updL J0 48 (jI u)) 49 (jI d))), (oa (a 32) cI 8 S0)] := hD
          refine lv_if_eq (tgt := 209) hx hb dX11_nearer_194 (by decide) (fun c_9 => ?_) (fun c_9 => ?_)
          · have c_9 : ¬ ((nrU (S0 q).toInt (S0 (q + 1)).toInt (S0 (q + 2)).toInt (S0 (q + 3)).toInt px.toInt py.toInt) * d < u * (nrD (S0 q).toInt (S0 (q + 1)).toInt (S0 (q + 2)).toInt (S0 (q + 3)).toInt px.toInt py.toInt)) := zp_0 c_9
            have hP9 := hP.sub (ws' := [(om k0 a I0 (vp_updL (vp_updL J0 48 (jI u)) 49 (jI d))), (oa (a 32) cI 8 S0)]) [0, 1] rfl
            have hD9 := hD.sub (ws' := [(om k0 a I0 (vp_updL (vp_updL J0 48 (jI u)) 49 (jI d))), (oa (a 32) cI 8 S0)]) [0, 1] (by decide) rfl
            rw [hQ9]
            exact W.vret hx hb hr (fun t ht hW => ⟨⟨rfl, u, d, (by unfold ndP; first | exact Or.inl ⟨Or.inl (by omega), rfl, rfl⟩ | exact Or.inl ⟨Or.inr (by assumption), rfl, rfl⟩ | exact Or.inr ⟨fun h => h.elim (by omega) (by assumption), rfl, rfl⟩), by rw [ht]; exact hP9, hD9⟩, hS.F ht⟩) hS.2.2 dX11_nearer_209
          · have c_9 : (nrU (S0 q).toInt (S0 (q + 1)).toInt (S0 (q + 2)).toInt (S0 (q + 3)).toInt px.toInt py.toInt) * d < u * (nrD (S0 q).toInt (S0 (q + 1)).toInt (S0 (q + 2)).toInt (S0 (q + 3)).toInt px.toInt py.toInt) := zp_1 c_9
            refine lv_aload_n hx hb dX11_nearer_197 rfl (lv_at hl 8 rfl) ?_
            refine lv_lload hx hb dX11_nearer_198 (lv_at hl 0 rfl) ?_
            refine va_put (D := (dC, dI)) (ci := 9) (v := .long (jI (nrU (S0 q).toInt (S0 (q + 1)).toInt (S0 (q + 2)).toInt (S0 (q + 3)).toInt px.toInt py.toInt))) (ty := .long) (C := RX11) (T := TX11) (N := 55) hx hb hts inX11 tyX11 tyX11_ok nmX11 hown hK hP hD hS 0 rfl rfl 48 (by decide) (hts _ mw_1207) (fun _ h9 => h9) rfl (by decide +kernel) rfl rfl (Nat.le_of_ble_eq_true rfl) dX11_nearer_200 (fun H locs hP hD hS => ?_)
            have hP : va_P (dC, dI) classes [(om k0 a I0 (vp_updL (vp_updL J0 48 (jI (nrU (S0 q).toInt (S0 (q + 1)).toInt (S0 (q + 2)).toInt (S0 (q + 3)).toInt px.toInt py.toInt))) 49 (jI d))), (oa (a 32) cI 8 S0)] H := hP
            have hD : va_D A [(om k0 a I0 (vp_updL (vp_updL J0 48 (jI (nrU (S0 q).toInt (S0 (q + 1)).toInt (S0 (q + 2)).toInt (S0 (q + 3)).toInt px.toInt py.toInt))) 49 (jI d))), (oa (a 32) cI 8 S0)] := hD
            refine lv_aload_n hx hb dX11_nearer_203 rfl (lv_at hl 8 rfl) ?_
            refine lv_lload hx hb dX11_nearer_204 (lv_at hl 1 rfl) ?_
            refine zz_l (v := jI (nrD (S0 q).toInt (S0 (q + 1)).toInt (S0 (q + 2)).toInt (S0 (q + 3)).toInt px.toInt py.toInt)) (by first | (rw [nrD_0 hT0]; exact jI_1) | (rw [nrD_1 (by omega) (by omega)]; exact jI_1) | (rw [nrD_2 (by omega) (by omega)])) ?_
            refine va_put (D := (dC, dI)) (ci := 9) (v := .long (jI (nrD (S0 q).toInt (S0 (q + 1)).toInt (S0 (q + 2)).toInt (S0 (q + 3)).toInt px.toInt py.toInt))) (ty := .long) (C := RX11) (T := TX11) (N := 55) hx hb hts inX11 tyX11 tyX11_ok nmX11 hown hK hP hD hS 0 rfl rfl 49 (by decide) (hts _ mw_1208) (fun _ h9 => h9) rfl (by decide +kernel) rfl rfl (Nat.le_of_ble_eq_true rfl) dX11_nearer_206 (fun H locs hP hD hS => ?_)
            have hP : va_P (dC, dI) classes [(om k0 a I0 (vp_updL (vp_updL J0 48 (jI (nrU (S0 q).toInt (S0 (q + 1)).toInt (S0 (q + 2)).toInt (S0 (q + 3)).toInt px.toInt py.toInt))) 49 (jI (nrD (S0 q).toInt (S0 (q + 1)).toInt (S0 (q + 2)).toInt (S0 (q + 3)).toInt px.toInt py.toInt)))), (oa (a 32) cI 8 S0)] H := hP
            have hD : va_D A [(om k0 a I0 (vp_updL (vp_updL J0 48 (jI (nrU (S0 q).toInt (S0 (q + 1)).toInt (S0 (q + 2)).toInt (S0 (q + 3)).toInt px.toInt py.toInt))) 49 (jI (nrD (S0 q).toInt (S0 (q + 1)).toInt (S0 (q + 2)).toInt (S0 (q + 3)).toInt px.toInt py.toInt)))), (oa (a 32) cI 8 S0)] := hD
            have hP9 := hP.sub (ws' := [(om k0 a I0 (vp_updL (vp_updL J0 48 (jI (nrU (S0 q).toInt (S0 (q + 1)).toInt (S0 (q + 2)).toInt (S0 (q + 3)).toInt px.toInt py.toInt))) 49 (jI (nrD (S0 q).toInt (S0 (q + 1)).toInt (S0 (q + 2)).toInt (S0 (q + 3)).toInt px.toInt py.toInt)))), (oa (a 32) cI 8 S0)]) [0, 1] rfl
            have hD9 := hD.sub (ws' := [(om k0 a I0 (vp_updL (vp_updL J0 48 (jI (nrU (S0 q).toInt (S0 (q + 1)).toInt (S0 (q + 2)).toInt (S0 (q + 3)).toInt px.toInt py.toInt))) 49 (jI (nrD (S0 q).toInt (S0 (q + 1)).toInt (S0 (q + 2)).toInt (S0 (q + 3)).toInt px.toInt py.toInt)))), (oa (a 32) cI 8 S0)]) [0, 1] (by decide) rfl
            rw [hQ9]
            exact W.vret hx hb hr (fun t ht hW => ⟨⟨rfl, (nrU (S0 q).toInt (S0 (q + 1)).toInt (S0 (q + 2)).toInt (S0 (q + 3)).toInt px.toInt py.toInt), (nrD (S0 q).toInt (S0 (q + 1)).toInt (S0 (q + 2)).toInt (S0 (q + 3)).toInt px.toInt py.toInt), (by unfold ndP; first | exact Or.inl ⟨Or.inl (by omega), rfl, rfl⟩ | exact Or.inl ⟨Or.inr (by assumption), rfl, rfl⟩ | exact Or.inr ⟨fun h => h.elim (by omega) (by assumption), rfl, rfl⟩), by rw [ht]; exact hP9, hD9⟩, hS.F ht⟩) hS.2.2 dX11_nearer_209
    · have c_4 : (nrT (S0 q).toInt (S0 (q + 1)).toInt (S0 (q + 2)).toInt (S0 (q + 3)).toInt px.toInt py.toInt) ≤ 0 := zl_ngt (jI_toInt (by omega)) (by decide) c_4
      have hT0 : nrT (S0 q).toInt (S0 (q + 1)).toInt (S0 (q + 2)).toInt (S0 (q + 3)).toInt px.toInt py.toInt ≤ 0 := (by first | omega | (have h9 := nrT_0 (x := px.toInt) (y := py.toInt) (show nrL (S0 q).toInt (S0 (q + 1)).toInt (S0 (q + 2)).toInt (S0 (q + 3)).toInt = 0 by assumption); omega))
      refine lv_lload hx hb dX11_nearer_93 (lv_at hl 4 rfl) ?_
      refine lv_lload hx hb dX11_nearer_95 (lv_at hl 4 rfl) ?_
      refine lv_lmul hx hb dX11_nearer_97 ?_
      refine lv_lload hx hb dX11_nearer_98 (lv_at hl 3 rfl) ?_
      refine lv_lload hx hb dX11_nearer_100 (lv_at hl 3 rfl) ?_
      refine lv_lmul hx hb dX11_nearer_102 ?_
      refine lv_ladd hx hb dX11_nearer_103 ?_
      refine zz_l (v := jI (nrU (S0 q).toInt (S0 (q + 1)).toInt (S0 (q + 2)).toInt (S0 (q + 3)).toInt px.toInt py.toInt)) (nr_u0 (hs q (by omega) (by omega)) (hs (q + 1) (by omega) (by omega)) hpx hpy hT0) ?_
      refine lv_lstore (lv' := [(17, .long (jI (nrU (S0 q).toInt (S0 (q + 1)).toInt (S0 (q + 2)).toInt (S0 (q + 3)).toInt px.toInt py.toInt))), (19, .long 1), (15, .long (jI (nrT (S0 q).toInt (S0 (q + 1)).toInt (S0 (q + 2)).toInt (S0 (q + 3)).toInt px.toInt py.toInt))), (13, .long (jI (nrL (S0 q).toInt (S0 (q + 1)).toInt (S0 (q + 2)).toInt (S0 (q + 3)).toInt))), (11, .long ((py - (S0 (q + 1))).toInt64)), (9, .long ((px - (S0 q)).toInt64)), (7, .long (((S0 (q + 3)) - (S0 (q + 1))).toInt64)), (5, .long (((S0 (q + 2)) - (S0 q)).toInt64)), (0, .ref k0), (1, .ref (a 32)), (2, .int px), (3, .int py), (4, .int (nI q))]) hx hb dX11_nearer_104 hl (by decide) rfl (fun ls hl => ?_)
      refine lv_goto (tgt := 169) hx hb dX11_nearer_106 (by decide) ?_
      refine lv_aload_n hx hb dX11_nearer_169 rfl (lv_at hl 8 rfl) ?_
      refine va_get (D := (dC, dI)) (ci := 9) (v := .long (jI d)) (C := RX11) (T := TX11) (N := 55) hx hb hts inX11 hown hK hP 0 rfl rfl 49 (by decide) (hts _ mw_1208) (fun _ h9 => h9) rfl dX11_nearer_170 ?_
      refine lv_lconst (v := 0) hx hb dX11_nearer_173 (by decide) ?_
      refine W.lcmp hx hb dX11_nearer_174 ?_
      refine lv_if_eq (tgt := 197) hx hb dX11_nearer_175 (by decide) (fun c_10 => ?_) (fun c_10 => ?_)
      · have c_10 : d = 0 := zl_eq (jI_toInt (by omega)) (by decide) c_10
        refine lv_aload_n hx hb dX11_nearer_197 rfl (lv_at hl 8 rfl) ?_
        refine lv_lload hx hb dX11_nearer_198 (lv_at hl 0 rfl) ?_
        refine va_put (D := (dC, dI)) (ci := 9) (v := .long (jI (nrU (S0 q).toInt (S0 (q + 1)).toInt (S0 (q + 2)).toInt (S0 (q + 3)).toInt px.toInt py.toInt))) (ty := .long) (C := RX11) (T := TX11) (N := 55) hx hb hts inX11 tyX11 tyX11_ok nmX11 hown hK hP hD hS 0 rfl rfl 48 (by decide) (hts _ mw_1207) (fun _ h9 => h9) rfl (by decide +kernel) rfl rfl (Nat.le_of_ble_eq_true rfl) dX11_nearer_200 (fun H locs hP hD hS => ?_)
        have hP : va_P (dC, dI) classes [(om k0 a I0 (vp_updL (vp_updL J0 48 (jI (nrU (S0 q).toInt (S0 (q + 1)).toInt (S0 (q + 2)).toInt (S0 (q + 3)).toInt px.toInt py.toInt))) 49 (jI d))), (oa (a 32) cI 8 S0)] H := hP
        have hD : va_D A [(om k0 a I0 (vp_updL (vp_updL J0 48 (jI (nrU (S0 q).toInt (S0 (q + 1)).toInt (S0 (q + 2)).toInt (S0 (q + 3)).toInt px.toInt py.toInt))) 49 (jI d))), (oa (a 32) cI 8 S0)] := hD
        refine lv_aload_n hx hb dX11_nearer_203 rfl (lv_at hl 8 rfl) ?_
        refine lv_lload hx hb dX11_nearer_204 (lv_at hl 1 rfl) ?_
        refine zz_l (v := jI (nrD (S0 q).toInt (S0 (q + 1)).toInt (S0 (q + 2)).toInt (S0 (q + 3)).toInt px.toInt py.toInt)) (by first | (rw [nrD_0 hT0]; exact jI_1) | (rw [nrD_1 (by omega) (by omega)]; exact jI_1) | (rw [nrD_2 (by omega) (by omega)])) ?_
        refine va_put (D := (dC, dI)) (ci := 9) (v := .long (jI (nrD (S0 q).toInt (S0 (q + 1)).toInt (S0 (q + 2)).toInt (S0 (q + 3)).toInt px.toInt py.toInt))) (ty := .long) (C := RX11) (T := TX11) (N := 55) hx hb hts inX11 tyX11 tyX11_ok nmX11 hown hK hP hD hS 0 rfl rfl 49 (by decide) (hts _ mw_1208) (fun _ h9 => h9) rfl (by decide +kernel) rfl rfl (Nat.le_of_ble_eq_true rfl) dX11_nearer_206 (fun H locs hP hD hS => ?_)
        have hP : va_P (dC, dI) classes [(om k0 a I0 (vp_updL (vp_updL J0 48 (jI (nrU (S0 q).toInt (S0 (q + 1)).toInt (S0 (q + 2)).toInt (S0 (q + 3)).toInt px.toInt py.toInt))) 49 (jI (nrD (S0 q).toInt (S0 (q + 1)).toInt (S0 (q + 2)).toInt (S0 (q + 3)).toInt px.toInt py.toInt)))), (oa (a 32) cI 8 S0)] H := hP
        have hD : va_D A [(om k0 a I0 (vp_updL (vp_updL J0 48 (jI (nrU (S0 q).toInt (S0 (q + 1)).toInt (S0 (q + 2)).toInt (S0 (q + 3)).toInt px.toInt py.toInt))) 49 (jI (nrD (S0 q).toInt (S0 (q + 1)).toInt (S0 (q + 2)).toInt (S0 (q + 3)).toInt px.toInt py.toInt)))), (oa (a 32) cI 8 S0)] := hD
        have hP9 := hP.sub (ws' := [(om k0 a I0 (vp_updL (vp_updL J0 48 (jI (nrU (S0 q).toInt (S0 (q + 1)).toInt (S0 (q + 2)).toInt (S0 (q + 3)).toInt px.toInt py.toInt))) 49 (jI (nrD (S0 q).toInt (S0 (q + 1)).toInt (S0 (q + 2)).toInt (S0 (q + 3)).toInt px.toInt py.toInt)))), (oa (a 32) cI 8 S0)]) [0, 1] rfl
        have hD9 := hD.sub (ws' := [(om k0 a I0 (vp_updL (vp_updL J0 48 (jI (nrU (S0 q).toInt (S0 (q + 1)).toInt (S0 (q + 2)).toInt (S0 (q + 3)).toInt px.toInt py.toInt))) 49 (jI (nrD (S0 q).toInt (S0 (q + 1)).toInt (S0 (q + 2)).toInt (S0 (q + 3)).toInt px.toInt py.toInt)))), (oa (a 32) cI 8 S0)]) [0, 1] (by decide) rfl
        rw [hQ9]
        exact W.vret hx hb hr (fun t ht hW => ⟨⟨rfl, (nrU (S0 q).toInt (S0 (q + 1)).toInt (S0 (q + 2)).toInt (S0 (q + 3)).toInt px.toInt py.toInt), (nrD (S0 q).toInt (S0 (q + 1)).toInt (S0 (q + 2)).toInt (S0 (q + 3)).toInt px.toInt py.toInt), (by unfold ndP; first | exact Or.inl ⟨Or.inl (by omega), rfl, rfl⟩ | exact Or.inl ⟨Or.inr (by assumption), rfl, rfl⟩ | exact Or.inr ⟨fun h => h.elim (by omega) (by assumption), rfl, rfl⟩), by rw [ht]; exact hP9, hD9⟩, hS.F ht⟩) hS.2.2 dX11_nearer_209
      · have c_10 : ¬ d = 0 := zl_ne (jI_toInt (by omega)) (by decide) c_10
        refine lv_aload_n hx hb dX11_nearer_178 rfl (lv_at hl 8 rfl) ?_
        refine lv_lload hx hb dX11_nearer_179 (lv_at hl 0 rfl) ?_
        refine lv_lload hx hb dX11_nearer_181 (lv_at hl 1 rfl) ?_
        refine zz_l (v := jI (nrD (S0 q).toInt (S0 (q + 1)).toInt (S0 (q + 2)).toInt (S0 (q + 3)).toInt px.toInt py.toInt)) (by first | (rw [nrD_0 hT0]; exact jI_1) | (rw [nrD_1 (by omega) (by omega)]; exact jI_1) | (rw [nrD_2 (by omega) (by omega)])) ?_
        refine lv_aload_n hx hb dX11_nearer_183 rfl (lv_at hl 8 rfl) ?_
        refine va_get (D := (dC, dI)) (ci := 9) (v := .long (jI u)) (C := RX11) (T := TX11) (N := 55) hx hb hts inX11 hown hK hP 0 rfl rfl 48 (by decide) (hts _ mw_1207) (fun _ h9 => h9) rfl dX11_nearer_184 ?_
        refine lv_aload_n hx hb dX11_nearer_187 rfl (lv_at hl 8 rfl) ?_
        refine va_get (D := (dC, dI)) (ci := 9) (v := .long (jI d)) (C := RX11) (T := TX11) (N := 55) hx hb hts inX11 hown hK hP 0 rfl rfl 49 (by decide) (hts _ mw_1208) (fun _ h9 => h9) rfl dX11_nearer_188 ?_
        have hPc := hP.sub (ws' := [(om k0 a I0 (vp_updL (vp_updL J0 48 (jI u)) 49 (jI d)))]) [0] rfl
        have hDc := hD.sub (ws' := [(om k0 a I0 (vp_updL (vp_updL J0 48 (jI u)) 49 (jI d)))]) [0] (by decide) rfl
        have hFc := va_free (wc := [(om k0 a I0 (vp_updL (vp_updL J0 48 (jI u)) 49 (jI d)))]) hD hS hA [0] rfl
        refine zcall (st1 := [.int (pI ((nrU (S0 q).toInt (S0 (q + 1)).toInt (S0 (q + 2)).toInt (S0 (q + 3)).toInt px.toInt py.toInt) * d < u * (nrD (S0 q).toInt (S0 (q + 1)).toInt (S0 (q + 2)).toInt (S0 (q + 3)).toInt px.toInt py.toInt)))]) (va_runV (As := [.long (jI (nrU (S0 q).toInt (S0 (q + 1)).toInt (S0 (q + 2)).toInt (S0 (q + 3)).toInt px.toInt py.toInt)), .long (jI (nrD (S0 q).toInt (S0 (q + 1)).toInt (S0 (q + 2)).toInt (S0 (q + 3)).toInt px.toInt py.toInt)), .long (jI u), .long (jI d)]) (rest := []) ⟨hx, hb, hml, hown, hts⟩ (k_M_isLess l dC dI cI cZ cF s.heap.size k0 a I0 (vp_updL (vp_updL J0 48 (jI u)) 49 (jI d)) (nrU (S0 q).toInt (S0 (q + 1)).toInt (S0 (q + 2)).toInt (S0 (q + 3)).toInt px.toInt py.toInt) (nrD (S0 q).toInt (S0 (q + 1)).toInt (S0 (q + 2)).toInt (S0 (q + 3)).toInt px.toInt py.toInt) u d (prN hUb.1 hd9) (prN hu9 ⟨by omega, hUb.2.2⟩) (by omega) (by omega) (by omega) (by omega)) (cwV 4 hts (zz_gV mw_1596 mw_1598 mw_86 mw_110 mc_yX11_isLess) rfl rfl rfl (by decide +kernel) ⟨Nat.le_of_ble_eq_true rfl, Nat.le_of_ble_eq_true rfl⟩) (zPV2 (q0 := 0) (ci := 9) hPc hDc hK hXN rfl rfl) rfl rfl hl.1 rfl (lv_room (Nat.le_of_ble_eq_true rfl)) dX11_nearer_191 ⟨Nat.le_of_ble_eq_true rfl, Nat.le_of_ble_eq_true rfl⟩) hS hFc hFc rfl (fun t H1 locs ht hB hk1 hS => ?_)
        obtain ⟨hP1, hD1⟩ := hB
        rw [ht] at hP1
        obtain ⟨hP, hD⟩ := va_join (wr := [(oa (a 32) cI 8 S0)]) (w1 := [(om k0 a I0 (vp_updL (vp_updL J0 48 (jI u)) 49 (jI d)))]) hP hD [0] [1] rfl rfl (by decide) (by decide) hk1 hFc hP1 hD1
        clear hk1 hPc hDc hFc hP1 hD1 ht
        generalize H1 = H at hP hS ⊢
        have hP := hP.sub (ws' := [(om k0 a I0 (vp_updL (vp_updL J0 48 (jI u)) 49 (jI d))), (oa (a 32) cI 8 S0)]) [1, 0] rfl
        have hD := hD.sub (ws' := [(om k0 a I0 (vp_updL (vp_updL J0 48 (jI u)) 49 (jI d))), (oa (a 32) cI 8 S0)]) [1, 0] (by decide) rfl
        have hP : va_P (dC, dI) classes [(om k0 a I0 (vp_updL (vp_updL J0 48 (jI u)) 49 (jI d))), (oa (a 32) cI 8 S0)] H := hP
        have hD : va_D A [(om k0 a I0 (vp_updL (vp_updL J0 48 (jI u)) 49 (jI d))), (oa (a 32) cI 8 S0)] := hD
        refine lv_if_eq (tgt := 209) hx hb dX11_nearer_194 (by decide) (fun c_11 => ?_) (fun c_11 => ?_)
        · have c_11 : ¬ ((nrU (S0 q).toInt (S0 (q + 1)).toInt (S0 (q + 2)).toInt (S0 (q + 3)).toInt px.toInt py.toInt) * d < u * (nrD (S0 q).toInt (S0 (q + 1)).toInt (S0 (q + 2)).toInt (S0 (q + 3)).toInt px.toInt py.toInt)) := zp_0 c_11
          have hP9 := hP.sub (ws' := [(om k0 a I0 (vp_updL (vp_updL J0 48 (jI u)) 49 (jI d))), (oa (a 32) cI 8 S0)]) [0, 1] rfl
          have hD9 := hD.sub (ws' := [(om k0 a I0 (vp_updL (vp_updL J0 48 (jI u)) 49 (jI d))), (oa (a 32) cI 8 S0)]) [0, 1] (by decide) rfl
          rw [hQ9]
          exact W.vret hx hb hr (fun t ht hW => ⟨⟨rfl, u, d, (by unfold ndP; first | exact Or.inl ⟨Or.inl (by omega), rfl, rfl⟩ | exact Or.inl ⟨Or.inr (by assumption), rfl, rfl⟩ | exact Or.inr ⟨fun h => h.elim (by omega) (by assumption), rfl, rfl⟩), by rw [ht]; exact hP9, hD9⟩, hS.F ht⟩) hS.2.2 dX11_nearer_209
        · have c_11 : (nrU (S0 q).toInt (S0 (q + 1)).toInt (S0 (q + 2)).toInt (S0 (q + 3)).toInt px.toInt py.toInt) * d < u * (nrD (S0 q).toInt (S0 (q + 1)).toInt (S0 (q + 2)).toInt (S0 (q + 3)).toInt px.toInt py.toInt) := zp_1 c_11
          refine lv_aload_n hx hb dX11_nearer_197 rfl (lv_at hl 8 rfl) ?_
          refine lv_lload hx hb dX11_nearer_198 (lv_at hl 0 rfl) ?_
          refine va_put (D := (dC, dI)) (ci := 9) (v := .long (jI (nrU (S0 q).toInt (S0 (q + 1)).toInt (S0 (q + 2)).toInt (S0 (q + 3)).toInt px.toInt py.toInt))) (ty := .long) (C := RX11) (T := TX11) (N := 55) hx hb hts inX11 tyX11 tyX11_ok nmX11 hown hK hP hD hS 0 rfl rfl 48 (by decide) (hts _ mw_1207) (fun _ h9 => h9) rfl (by decide +kernel) rfl rfl (Nat.le_of_ble_eq_true rfl) dX11_nearer_200 (fun H locs hP hD hS => ?_)
          have hP : va_P (dC, dI) classes [(om k0 a I0 (vp_updL (vp_updL J0 48 (jI (nrU (S0 q).toInt (S0 (q + 1)).toInt (S0 (q + 2)).toInt (S0 (q + 3)).toInt px.toInt py.toInt))) 49 (jI d))), (oa (a 32) cI 8 S0)] H := hP
          have hD : va_D A [(om k0 a I0 (vp_updL (vp_updL J0 48 (jI (nrU (S0 q).toInt (S0 (q + 1)).toInt (S0 (q + 2)).toInt (S0 (q + 3)).toInt px.toInt py.toInt))) 49 (jI d))), (oa (a 32) cI 8 S0)] := hD
          refine lv_aload_n hx hb dX11_nearer_203 rfl (lv_at hl 8 rfl) ?_
          refine lv_lload hx hb dX11_nearer_204 (lv_at hl 1 rfl) ?_
          refine zz_l (v := jI (nrD (S0 q).toInt (S0 (q + 1)).toInt (S0 (q + 2)).toInt (S0 (q + 3)).toInt px.toInt py.toInt)) (by first | (rw [nrD_0 hT0]; exact jI_1) | (rw [nrD_1 (by omega) (by omega)]; exact jI_1) | (rw [nrD_2 (by omega) (by omega)])) ?_
          refine va_put (D := (dC, dI)) (ci := 9) (v := .long (jI (nrD (S0 q).toInt (S0 (q + 1)).toInt (S0 (q + 2)).toInt (S0 (q + 3)).toInt px.toInt py.toInt))) (ty := .long) (C := RX11) (T := TX11) (N := 55) hx hb hts inX11 tyX11 tyX11_ok nmX11 hown hK hP hD hS 0 rfl rfl 49 (by decide) (hts _ mw_1208) (fun _ h9 => h9) rfl (by decide +kernel) rfl rfl (Nat.le_of_ble_eq_true rfl) dX11_nearer_206 (fun H locs hP hD hS => ?_)
          have hP : va_P (dC, dI) classes [(om k0 a I0 (vp_updL (vp_updL J0 48 (jI (nrU (S0 q).toInt (S0 (q + 1)).toInt (S0 (q + 2)).toInt (S0 (q + 3)).toInt px.toInt py.toInt))) 49 (jI (nrD (S0 q).toInt (S0 (q + 1)).toInt (S0 (q + 2)).toInt (S0 (q + 3)).toInt px.toInt py.toInt)))), (oa (a 32) cI 8 S0)] H := hP
          have hD : va_D A [(om k0 a I0 (vp_updL (vp_updL J0 48 (jI (nrU (S0 q).toInt (S0 (q + 1)).toInt (S0 (q + 2)).toInt (S0 (q + 3)).toInt px.toInt py.toInt))) 49 (jI (nrD (S0 q).toInt (S0 (q + 1)).toInt (S0 (q + 2)).toInt (S0 (q + 3)).toInt px.toInt py.toInt)))), (oa (a 32) cI 8 S0)] := hD
          have hP9 := hP.sub (ws' := [(om k0 a I0 (vp_updL (vp_updL J0 48 (jI (nrU (S0 q).toInt (S0 (q + 1)).toInt (S0 (q + 2)).toInt (S0 (q + 3)).toInt px.toInt py.toInt))) 49 (jI (nrD (S0 q).toInt (S0 (q + 1)).toInt (S0 (q + 2)).toInt (S0 (q + 3)).toInt px.toInt py.toInt)))), (oa (a 32) cI 8 S0)]) [0, 1] rfl
          have hD9 := hD.sub (ws' := [(om k0 a I0 (vp_updL (vp_updL J0 48 (jI (nrU (S0 q).toInt (S0 (q + 1)).toInt (S0 (q + 2)).toInt (S0 (q + 3)).toInt px.toInt py.toInt))) 49 (jI (nrD (S0 q).toInt (S0 (q + 1)).toInt (S0 (q + 2)).toInt (S0 (q + 3)).toInt px.toInt py.toInt)))), (oa (a 32) cI 8 S0)]) [0, 1] (by decide) rfl
          rw [hQ9]
          exact W.vret hx hb hr (fun t ht hW => ⟨⟨rfl, (nrU (S0 q).toInt (S0 (q + 1)).toInt (S0 (q + 2)).toInt (S0 (q + 3)).toInt px.toInt py.toInt), (nrD (S0 q).toInt (S0 (q + 1)).toInt (S0 (q + 2)).toInt (S0 (q + 3)).toInt px.toInt py.toInt), (by unfold ndP; first | exact Or.inl ⟨Or.inl (by omega), rfl, rfl⟩ | exact Or.inl ⟨Or.inr (by assumption), rfl, rfl⟩ | exact Or.inr ⟨fun h => h.elim (by omega) (by assumption), rfl, rfl⟩), by rw [ht]; exact hP9, hD9⟩, hS.F ht⟩) hS.2.2 dX11_nearer_209
set_option maxHeartbeats 4000000 in
set_option maxRecDepth 100000 in
theorem k_M_far_x (l : Launch) (dC : Nat → ClassId) (dI : Nat → Nat → Nat) (cI cZ cF : ClassId) (sz : Nat) (k0 : Nat) (a : Nat → Nat) (I0 : Nat → Int32) (J0 : Nat → Int64) (ft : Nat) (v : Int32) (w : Int32) (hft : I0 0 = nI ft) (h200 : ft ≤ 200) (hv : ¬ (0 ≤ v.toInt ∧ v.toInt < (ft : Int))) : Met l yX11_far (.code yX11_far cX11_far 9 (some .long) :: ws0) ({ frames := 2, cells := 0, slots := 0, locals := 42 } : Room) (va_Pc [.ref k0, .int v, .int w] (zPre (dC, dI) classes (zTy cI cZ cF) [(om k0 a I0 J0)] sz zXN)) (zQ (some (.long (-1))) (fun t => va_P (dC, dI) classes [(om k0 a I0 J0)] t.heap ∧ va_D (va_A [(om k0 a I0 J0)] sz) [(om k0 a I0 J0)]) (va_A [(om k0 a I0 J0)] sz)) 0 0 (va_A [(om k0 a I0 J0)] sz) := by
  refine Met.ofW (cc := cX11_far) (maxL := 9) (ret := (some .long)) (by decide) rfl ?_
  intro p e s m args below meth c s₁ B hml hv
  obtain ⟨rfl, hsz, hP, hK, hD0, hXN⟩ := hv
  have hx := B.exec
  have hb := B.bytes
  have hr := B.returns
  have hts0 := atoms_spec (ws := .code yX11_far cX11_far 9 (some .long) :: ws0) B.pre
  have hts : ∀ w9 ∈ ws0, w9.before ([.ref k0, .int v, .int w] : List Value).toArray s = true := fun w9 h => hts0 w9 (List.mem_cons_of_mem _ h)
  have hown : s.vm.findClass "ScaleShopModel" = some m.cls := findClass_of_methodNamed B.named
  have hlocks := B.notSynchronized
  subst hsz
  have hD := hD0.self (sz := s.heap.size)
  clear hD0
  generalize hAe : va_A [(om k0 a I0 J0)] s.heap.size = A at hD ⊢
  have hA : ∀ q : Nat, s.heap.size ≤ q → A q := fun q h => by rw [← hAe]; exact Or.inr h
  clear hAe
  have hS : va_S A s.heap s.heap [] := va_S.rf
  have hP : va_P (dC, dI) classes [(om k0 a I0 J0)] s.heap := hP
  obtain ⟨Q9, hQ9⟩ : ∃ Q9 : State → Prop, Q9 = MQ below (zQ (some (.long (-1))) (fun t => va_P (dC, dI) classes [(om k0 a I0 J0)] t.heap ∧ va_D A [(om k0 a I0 J0)]) A) ([.ref k0, .int v, .int w] : List Value).toArray s 0 0 A := ⟨_, rfl⟩
  rw [← hQ9]
  have hl := lv_entry ([.ref k0, .int v, .int w]) (n := 9) (Nat.le_of_ble_eq_true rfl)
  rw [lg_entry_eq]
  generalize (lg_sl ([.ref k0, .int v, .int w]) ++ List.replicate (9 - (lg_sl ([.ref k0, .int v, .int w])).length) Slot.unset).toArray = ls at hl ⊢
  have hl : lv_has ls 9 [(0, .ref k0), (1, .int v), (2, .int w)] := hl
  refine lv_aload_n hx hb dX11_far_0 rfl (lv_at hl 0 rfl) ?_
  refine lv_iload_n hx hb dX11_far_1 rfl (lv_at hl 1 rfl) ?_
  have hPc := hP.sub (ws' := [(om k0 a I0 J0)]) [0] rfl
  have hDc := hD.sub (ws' := [(om k0 a I0 J0)]) [0] (by decide) rfl
  have hFc := va_free (wc := [(om k0 a I0 J0)]) hD hS hA [0] rfl
  refine zcall (st1 := [.int 0]) (va_runV (As := [.int v]) (rest := []) ⟨hx, hb, hml, hown, hts⟩ (k_M_is_x l dC dI cI cZ cF s.heap.size k0 a I0 J0 ft v (by assumption) (by omega) (by assumption)) (cwV 1 hts (zz_gV mw_1447 mw_1449 mw_56 mw_110 mc_yX11_is) rfl rfl rfl (by decide +kernel) ⟨Nat.le_of_ble_eq_true rfl, Nat.le_of_ble_eq_true rfl⟩) (zPV2 (q0 := 0) (ci := 9) hPc hDc hK hXN rfl rfl) rfl rfl hl.1 rfl (lv_room (Nat.le_of_ble_eq_true rfl)) dX11_far_2 ⟨Nat.le_of_ble_eq_true rfl, Nat.le_of_ble_eq_true rfl⟩) hS hFc hFc rfl (fun t H1 locs ht hB hk1 hS => ?_)
  obtain ⟨hP1, hD1⟩ := hB
  rw [ht] at hP1
  obtain ⟨hP, hD⟩ := va_join (wr := []) (w1 := [(om k0 a I0 J0)]) hP hD [0] [] rfl rfl (by decide) (by decide) hk1 hFc hP1 hD1
  clear hk1 hPc hDc hFc hP1 hD1 ht
  generalize H1 = H at hP hS ⊢
  have hP : va_P (dC, dI) classes [(om k0 a I0 J0)] H := hP
  have hD : va_D A [(om k0 a I0 J0)] := hD
  refine lv_if_eq (tgt := 17) hx hb dX11_far_5 (by decide) (fun c_1 => ?_) (fun c_1 => ?_)
  · refine lv_ldc2 hx hb hown (hts _ mw_1620) dX11_far_17 ?_
    have hP9 := hP.sub (ws' := [(om k0 a I0 J0)]) [0] rfl
    have hD9 := hD.sub (ws' := [(om k0 a I0 J0)]) [0] (by decide) rfl
    rw [hQ9]
    exact W.lret (v := (-1)) hx hb hr (fun t ht hW => ⟨⟨rfl, by rw [ht]; exact hP9, hD9⟩, hS.F ht⟩) hS.2.2 dX11_far_20
  · exact absurd (by decide) c_1
set_option maxHeartbeats 4000000 in
set_option maxRecDepth 100000 in
theorem k_M_far_r (l : Launch) (dC : Nat → ClassId) (dI : Nat → Nat → Nat) (cI cZ cF : ClassId) (sz : Nat) (k0 : Nat) (a : Nat → Nat) (I0 : Nat → Int32) (J0 : Nat → Int64) (f : Nat) (ft : Nat) (w : Int32) (st : Nat → Int32) (tn : Nat → Int32) (hft : I0 0 = nI ft) (h200 : ft ≤ 200) (hf_t : f < ft) (hbad : ¬ (lvF ft st tn f ∧ 0 ≤ w.toInt ∧ w.toInt ≤ 1)) : Met l yX11_far (.code yX11_far cX11_far 9 (some .long) :: ws0) ({ frames := 2, cells := 0, slots := 0, locals := 42 } : Room) (va_Pc [.ref k0, .int (nI f), .int w] (zPre (dC, dI) classes (zTy cI cZ cF) [(om k0 a I0 J0), (oa (a 5) cI 201 st), (oa (a 6) cZ 201 tn)] sz zXN)) (zQ (some (.long (-1))) (fun t => va_P (dC, dI) classes [(om k0 a I0 J0), (oa (a 5) cI 201 st), (oa (a 6) cZ 201 tn)] t.heap ∧ va_D (va_A [(om k0 a I0 J0), (oa (a 5) cI 201 st), (oa (a 6) cZ 201 tn)] sz) [(om k0 a I0 J0), (oa (a 5) cI 201 st), (oa (a 6) cZ 201 tn)]) (va_A [(om k0 a I0 J0), (oa (a 5) cI 201 st), (oa (a 6) cZ 201 tn)] sz)) 0 0 (va_A [(om k0 a I0 J0), (oa (a 5) cI 201 st), (oa (a 6) cZ 201 tn)] sz) := by
  refine Met.ofW (cc := cX11_far) (maxL := 9) (ret := (some .long)) (by decide) rfl ?_
  intro p e s m args below meth c s₁ B hml hv
  obtain ⟨rfl, hsz, hP, hK, hD0, hXN⟩ := hv
  have hx := B.exec
  have hb := B.bytes
  have hr := B.returns
  have hts0 := atoms_spec (ws := .code yX11_far cX11_far 9 (some .long) :: ws0) B.pre
  have hts : ∀ w9 ∈ ws0, w9.before ([.ref k0, .int (nI f), .int w] : List Value).toArray s = true := fun w9 h => hts0 w9 (List.mem_cons_of_mem _ h)
  have hown : s.vm.findClass "ScaleShopModel" = some m.cls := findClass_of_methodNamed B.named
  have hlocks := B.notSynchronized
  subst hsz
  have hD := hD0.self (sz := s.heap.size)
  clear hD0
  generalize hAe : va_A [(om k0 a I0 J0), (oa (a 5) cI 201 st), (oa (a 6) cZ 201 tn)] s.heap.size = A at hD ⊢
  have hA : ∀ q : Nat, s.heap.size ≤ q → A q := fun q h => by rw [← hAe]; exact Or.inr h
  clear hAe
  have hS : va_S A s.heap s.heap [] := va_S.rf
  have hP : va_P (dC, dI) classes [(om k0 a I0 J0), (oa (a 5) cI 201 st), (oa (a 6) cZ 201 tn)] s.heap := hP
  obtain ⟨Q9, hQ9⟩ : ∃ Q9 : State → Prop, Q9 = MQ below (zQ (some (.long (-1))) (fun t => va_P (dC, dI) classes [(om k0 a I0 J0), (oa (a 5) cI 201 st), (oa (a 6) cZ 201 tn)] t.heap ∧ va_D A [(om k0 a I0 J0), (oa (a 5) cI 201 st), (oa (a 6) cZ 201 tn)]) A) ([.ref k0, .int (nI f), .int w] : List Value).toArray s 0 0 A := ⟨_, rfl⟩
  rw [← hQ9]
  have hl := lv_entry ([.ref k0, .int (nI f), .int w]) (n := 9) (Nat.le_of_ble_eq_true rfl)
  rw [lg_entry_eq]
  generalize (lg_sl ([.ref k0, .int (nI f), .int w]) ++ List.replicate (9 - (lg_sl ([.ref k0, .int (nI f), .int w])).length) Slot.unset).toArray = ls at hl ⊢
  have hl : lv_has ls 9 [(0, .ref k0), (1, .int (nI f)), (2, .int w)] := hl
  refine lv_aload_n hx hb dX11_far_0 rfl (lv_at hl 0 rfl) ?_
  refine lv_iload_n hx hb dX11_far_1 rfl (lv_at hl 1 rfl) ?_
  have hPc := hP.sub (ws' := [(om k0 a I0 J0), (oa (a 5) cI 201 st), (oa (a 6) cZ 201 tn)]) [0, 1, 2] rfl
  have hDc := hD.sub (ws' := [(om k0 a I0 J0), (oa (a 5) cI 201 st), (oa (a 6) cZ 201 tn)]) [0, 1, 2] (by decide) rfl
  have hFc := va_free (wc := [(om k0 a I0 J0), (oa (a 5) cI 201 st), (oa (a 6) cZ 201 tn)]) hD hS hA [0, 1, 2] rfl
  refine zcall (st1 := [.int (pI (f < ft ∧ (st f).toInt = 1 ∧ (tn f).toInt = 0))]) (va_runV (As := [.int (nI f)]) (rest := []) ⟨hx, hb, hml, hown, hts⟩ (k_M_is_n l dC dI cI cZ cF s.heap.size k0 a I0 J0 f ft st tn (by assumption) (by omega) (by omega)) (cwV 1 hts (zz_gV mw_1447 mw_1449 mw_56 mw_110 mc_yX11_is) rfl rfl rfl (by decide +kernel) ⟨Nat.le_of_ble_eq_true rfl, Nat.le_of_ble_eq_true rfl⟩) (zPV2 (q0 := 0) (ci := 9) hPc hDc hK hXN rfl rfl) rfl rfl hl.1 rfl (lv_room (Nat.le_of_ble_eq_true rfl)) dX11_far_2 ⟨Nat.le_of_ble_eq_true rfl, Nat.le_of_ble_eq_true rfl⟩) hS hFc hFc rfl (fun t H1 locs ht hB hk1 hS => ?_)
  obtain ⟨hP1, hD1⟩ := hB
  rw [ht] at hP1
  obtain ⟨hP, hD⟩ := va_join (wr := []) (w1 := [(om k0 a I0 J0), (oa (a 5) cI 201 st), (oa (a 6) cZ 201 tn)]) hP hD [0, 1, 2] [] rfl rfl (by decide) (by decide) hk1 hFc hP1 hD1
  clear hk1 hPc hDc hFc hP1 hD1 ht
  generalize H1 = H at hP hS ⊢
  have hP : va_P (dC, dI) classes [(om k0 a I0 J0), (oa (a 5) cI 201 st), (oa (a 6) cZ 201 tn)] H := hP
  have hD : va_D A [(om k0 a I0 J0), (oa (a 5) cI 201 st), (oa (a 6) cZ 201 tn)] := hD
  refine lv_if_eq (tgt := 17) hx hb dX11_far_5 (by decide) (fun c_1 => ?_) (fun c_1 => ?_)
  · have c_1 : ¬ (f < ft ∧ (st f).toInt = 1 ∧ (tn f).toInt = 0) := zp_0 c_1
    refine lv_ldc2 hx hb hown (hts _ mw_1620) dX11_far_17 ?_
    have hP9 := hP.sub (ws' := [(om k0 a I0 J0), (oa (a 5) cI 201 st), (oa (a 6) cZ 201 tn)]) [0, 1, 2] rfl
    have hD9 := hD.sub (ws' := [(om k0 a I0 J0), (oa (a 5) cI 201 st), (oa (a 6) cZ 201 tn)]) [0, 1, 2] (by decide) rfl
    rw [hQ9]
    exact W.lret (v := (-1)) hx hb hr (fun t ht hW => ⟨⟨rfl, by rw [ht]; exact hP9, hD9⟩, hS.F ht⟩) hS.2.2 dX11_far_20
  · have c_1 : f < ft ∧ (st f).toInt = 1 ∧ (tn f).toInt = 0 := zp_1 c_1
    refine lv_iload_n hx hb dX11_far_8 rfl (lv_at hl 2 rfl) ?_
    refine lv_if_lt (tgt := 17) hx hb dX11_far_9 (by decide) (fun c_2 => ?_) (fun c_2 => ?_)
    · have c_2 : w.toInt < 0 := zc_lt rfl (by decide) c_2
      refine lv_ldc2 hx hb hown (hts _ mw_1620) dX11_far_17 ?_
      have hP9 := hP.sub (ws' := [(om k0 a I0 J0), (oa (a 5) cI 201 st), (oa (a 6) cZ 201 tn)]) [0, 1, 2] rfl
      have hD9 := hD.sub (ws' := [(om k0 a I0 J0), (oa (a 5) cI 201 st), (oa (a 6) cZ 201 tn)]) [0, 1, 2] (by decide) rfl
      rw [hQ9]
      exact W.lret (v := (-1)) hx hb hr (fun t ht hW => ⟨⟨rfl, by rw [ht]; exact hP9, hD9⟩, hS.F ht⟩) hS.2.2 dX11_far_20
    · have c_2 : 0 ≤ w.toInt := zc_nlt rfl (by decide) c_2
      refine lv_iload_n hx hb dX11_far_12 rfl (lv_at hl 2 rfl) ?_
      refine lv_iconst (v := 1) hx hb dX11_far_13 (by decide) ?_
      refine lv_icmp_le (tgt := 21) hx hb dX11_far_14 (by decide) (fun c_3 => ?_) (fun c_3 => ?_)
      · have c_3 : w.toInt ≤ 1 := zc_le rfl (by decide) c_3
        exact absurd ⟨by assumption, by omega, by omega⟩ hbad
      · have c_3 : 1 < w.toInt := zc_nle rfl (by decide) c_3
        refine lv_ldc2 hx hb hown (hts _ mw_1620) dX11_far_17 ?_
        have hP9 := hP.sub (ws' := [(om k0 a I0 J0), (oa (a 5) cI 201 st), (oa (a 6) cZ 201 tn)]) [0, 1, 2] rfl
        have hD9 := hD.sub (ws' := [(om k0 a I0 J0), (oa (a 5) cI 201 st), (oa (a 6) cZ 201 tn)]) [0, 1, 2] (by decide) rfl
        rw [hQ9]
        exact W.lret (v := (-1)) hx hb hr (fun t ht hW => ⟨⟨rfl, by rw [ht]; exact hP9, hD9⟩, hS.F ht⟩) hS.2.2 dX11_far_20
set_option maxHeartbeats 4000000 in
set_option maxRecDepth 100000 in
theorem k_M_far_s (l : Launch) (dC : Nat → ClassId) (dI : Nat → Nat → Nat) (cI cZ cF : ClassId) (sz : Nat) (k0 : Nat) (a : Nat → Nat) (I0 : Nat → Int32) (J0 : Nat → Int64) (f : Nat) (ft : Nat) (ln : Nat) (cl : Nat) (w : Int32) (st : Nat → Int32) (tn : Nat → Int32) (kd : Nat → Int32) (mn : Nat → Int32) (cx : Nat → Int32) (cy : Nat → Int32) (S0 : Nat → Int32) (la : Nat → Int32) (lb : Nat → Int32) (lc : Nat → Int32) (ld : Nat → Int32) (hft : I0 0 = nI ft) (h200 : ft ≤ 200) (hwf : ∀ q, lvF ft st tn q → wfM mn cx cy q) (hln : I0 26 = nI ln) (hlc : ln ≤ 64 * cl) (hcl1 : 1 ≤ cl) (hclm : cl ≤ 1000000) (hf_t : f < ft) (hlv : lvF ft st tn f) (hw1 : 0 ≤ w.toInt ∧ w.toInt ≤ 1) (he_f : 1 ≤ eO (kd f).toInt (nN (mn f))) (hpl : ∀ j, j < ln → pl (lb j) ∧ pl (lc j)) : Met l yX11_far (.code yX11_far cX11_far 9 (some .long) :: ws0) ({ frames := 2, cells := 0, slots := 0, locals := 70 } : Room) (va_Pc [.ref k0, .int (nI f), .int w] (zPre (dC, dI) classes (zTy cI cZ cF) [(om k0 a I0 J0), (oa (a 5) cI 201 st), (oa (a 6) cZ 201 tn), (oa (a 1) cI 201 kd), (oa (a 11) cI 201 mn), (oa (a 12) cI 8040 cx), (oa (a 13) cI 8040 cy), (oa (a 32) cI 8 S0), (oa (a 22) cI (64 * cl) la), (oa (a 23) cI (64 * cl) lb), (oa (a 24) cI (64 * cl) lc), (oa (a 25) cI (64 * cl) ld)] sz zXN)) (zQe (fun v9 t => ∃ (zr : Int64), ∃ (u9 : Int64), ∃ (d9 : Int64), ∃ (S1 : Nat → Int32), v9 = (some (.long zr)) ∧ va_P (dC, dI) classes [(om k0 a I0 (vp_updL (vp_updL J0 48 u9) 49 d9)), (oa (a 5) cI 201 st), (oa (a 6) cZ 201 tn), (oa (a 1) cI 201 kd), (oa (a 11) cI 201 mn), (oa (a 12) cI 8040 cx), (oa (a 13) cI 8040 cy), (oa (a 32) cI 8 S1), (oa (a 22) cI (64 * cl) la), (oa (a 23) cI (64 * cl) lb), (oa (a 24) cI (64 * cl) lc), (oa (a 25) cI (64 * cl) ld)] t.heap ∧ va_D (va_A [(om k0 a I0 J0), (oa (a 5) cI 201 st), (oa (a 6) cZ 201 tn), (oa (a 1) cI 201 kd), (oa (a 11) cI 201 mn), (oa (a 12) cI 8040 cx), (oa (a 13) cI 8040 cy), (oa (a 32) cI 8 S0), (oa (a 22) cI (64 * cl) la), (oa (a 23) cI (64 * cl) lb), (oa (a 24) cI (64 * cl) lc), (oa (a 25) cI (64 * cl) ld)] sz) [(om k0 a I0 (vp_updL (vp_updL J0 48 u9) 49 d9)), (oa (a 5) cI 201 st), (oa (a 6) cZ 201 tn), (oa (a 1) cI 201 kd), (oa (a 11) cI 201 mn), (oa (a 12) cI 8040 cx), (oa (a 13) cI 8040 cy), (oa (a 32) cI 8 S1), (oa (a 22) cI (64 * cl) la), (oa (a 23) cI (64 * cl) lb), (oa (a 24) cI (64 * cl) lc), (oa (a 25) cI (64 * cl) ld)]) (va_A [(om k0 a I0 J0), (oa (a 5) cI 201 st), (oa (a 6) cZ 201 tn), (oa (a 1) cI 201 kd), (oa (a 11) cI 201 mn), (oa (a 12) cI 8040 cx), (oa (a 13) cI 8040 cy), (oa (a 32) cI 8 S0), (oa (a 22) cI (64 * cl) la), (oa (a 23) cI (64 * cl) lb), (oa (a 24) cI (64 * cl) lc), (oa (a 25) cI (64 * cl) ld)] sz)) 0 0 (va_A [(om k0 a I0 J0), (oa (a 5) cI 201 st), (oa (a 6) cZ 201 tn), (oa (a 1) cI 201 kd), (oa (a 11) cI 201 mn), (oa (a 12) cI 8040 cx), (oa (a 13) cI 8040 cy), (oa (a 32) cI 8 S0), (oa (a 22) cI (64 * cl) la), (oa (a 23) cI (64 * cl) lb), (oa (a 24) cI (64 * cl) lc), (oa (a 25) cI (64 * cl) ld)] sz) := by
  refine Met.ofW (cc := cX11_far) (maxL := 9) (ret := (some .long)) (by decide) rfl ?_
  intro p e s m args below meth c s₁ B hml hv
  obtain ⟨rfl, hsz, hP, hK, hD0, hXN⟩ := hv
  have hx := B.exec
  have hb := B.bytes
  have hr := B.returns
  have hts0 := atoms_spec (ws := .code yX11_far cX11_far 9 (some .long) :: ws0) B.pre
  have hts : ∀ w9 ∈ ws0, w9.before ([.ref k0, .int (nI f), .int w] : List Value).toArray s = true := fun w9 h => hts0 w9 (List.mem_cons_of_mem _ h)
  have hown : s.vm.findClass "ScaleShopModel" = some m.cls := findClass_of_methodNamed B.named
  have hlocks := B.notSynchronized
  subst hsz
  have hD := hD0.self (sz := s.heap.size)
  clear hD0
  generalize hAe : va_A [(om k0 a I0 J0), (oa (a 5) cI 201 st), (oa (a 6) cZ 201 tn), (oa (a 1) cI 201 kd), (oa (a 11) cI 201 mn), (oa (a 12) cI 8040 cx), (oa (a 13) cI 8040 cy), (oa (a 32) cI 8 S0), (oa (a 22) cI (64 * cl) la), (oa (a 23) cI (64 * cl) lb), (oa (a 24) cI (64 * cl) lc), (oa (a 25) cI (64 * cl) ld)] s.heap.size = A at hD ⊢
  have hA : ∀ q : Nat, s.heap.size ≤ q → A q := fun q h => by rw [← hAe]; exact Or.inr h
  clear hAe
  have hS : va_S A s.heap s.heap [] := va_S.rf
  have hP : va_P (dC, dI) classes [(om k0 a I0 J0), (oa (a 5) cI 201 st), (oa (a 6) cZ 201 tn), (oa (a 1) cI 201 kd), (oa (a 11) cI 201 mn), (oa (a 12) cI 8040 cx), (oa (a 13) cI 8040 cy), (oa (a 32) cI 8 S0), (oa (a 22) cI (64 * cl) la), (oa (a 23) cI (64 * cl) lb), (oa (a 24) cI (64 * cl) lc), (oa (a 25) cI (64 * cl) ld)] s.heap := hP
  obtain ⟨Q9, hQ9⟩ : ∃ Q9 : State → Prop, Q9 = MQ below (zQe (fun v9 t => ∃ (zr : Int64), ∃ (u9 : Int64), ∃ (d9 : Int64), ∃ (S1 : Nat → Int32), v9 = (some (.long zr)) ∧ va_P (dC, dI) classes [(om k0 a I0 (vp_updL (vp_updL J0 48 u9) 49 d9)), (oa (a 5) cI 201 st), (oa (a 6) cZ 201 tn), (oa (a 1) cI 201 kd), (oa (a 11) cI 201 mn), (oa (a 12) cI 8040 cx), (oa (a 13) cI 8040 cy), (oa (a 32) cI 8 S1), (oa (a 22) cI (64 * cl) la), (oa (a 23) cI (64 * cl) lb), (oa (a 24) cI (64 * cl) lc), (oa (a 25) cI (64 * cl) ld)] t.heap ∧ va_D A [(om k0 a I0 (vp_updL (vp_updL J0 48 u9) 49 d9)), (oa (a 5) cI 201 st), (oa (a 6) cZ 201 tn), (oa (a 1) cI 201 kd), (oa (a 11) cI 201 mn), (oa (a 12) cI 8040 cx), (oa (a 13) cI 8040 cy), (oa (a 32) cI 8 S1), (oa (a 22) cI (64 * cl) la), (oa (a 23) cI (64 * cl) lb), (oa (a 24) cI (64 * cl) lc), (oa (a 25) cI (64 * cl) ld)]) A) ([.ref k0, .int (nI f), .int w] : List Value).toArray s 0 0 A := ⟨_, rfl⟩
  rw [← hQ9]
  have hl := lv_entry ([.ref k0, .int (nI f), .int w]) (n := 9) (Nat.le_of_ble_eq_true rfl)
  rw [lg_entry_eq]
  generalize (lg_sl ([.ref k0, .int (nI f), .int w]) ++ List.replicate (9 - (lg_sl ([.ref k0, .int (nI f), .int w])).length) Slot.unset).toArray = ls at hl ⊢
  have hl : lv_has ls 9 [(0, .ref k0), (1, .int (nI f)), (2, .int w)] := hl
  have hw_ff := hwf f (by assumption)
  have hm_ff := hw_ff.1
  have hn_ff := hw_ff.2.1
  have hp_ff := hw_ff.2.2
  have hee := eO_le (k := (kd f).toInt) hn_ff.1
  refine lv_aload_n hx hb dX11_far_0 rfl (lv_at hl 0 rfl) ?_
  refine lv_iload_n hx hb dX11_far_1 rfl (lv_at hl 1 rfl) ?_
  have hPc := hP.sub (ws' := [(om k0 a I0 J0), (oa (a 5) cI 201 st), (oa (a 6) cZ 201 tn)]) [0, 1, 2] rfl
  have hDc := hD.sub (ws' := [(om k0 a I0 J0), (oa (a 5) cI 201 st), (oa (a 6) cZ 201 tn)]) [0, 1, 2] (by decide) rfl
  have hFc := va_free (wc := [(om k0 a I0 J0), (oa (a 5) cI 201 st), (oa (a 6) cZ 201 tn)]) hD hS hA [0, 1, 2] rfl
  refine zcall (st1 := [.int (pI (f < ft ∧ (st f).toInt = 1 ∧ (tn f).toInt = 0))]) (va_runV (As := [.int (nI f)]) (rest := []) ⟨hx, hb, hml, hown, hts⟩ (k_M_is_n l dC dI cI cZ cF s.heap.size k0 a I0 J0 f ft st tn (by assumption) (by omega) (by omega)) (cwV 1 hts (zz_gV mw_1447 mw_1449 mw_56 mw_110 mc_yX11_is) rfl rfl rfl (by decide +kernel) ⟨Nat.le_of_ble_eq_true rfl, Nat.le_of_ble_eq_true rfl⟩) (zPV2 (q0 := 0) (ci := 9) hPc hDc hK hXN rfl rfl) rfl rfl hl.1 rfl (lv_room (Nat.le_of_ble_eq_true rfl)) dX11_far_2 ⟨Nat.le_of_ble_eq_true rfl, Nat.le_of_ble_eq_true rfl⟩) hS hFc hFc rfl (fun t H1 locs ht hB hk1 hS => ?_)
  obtain ⟨hP1, hD1⟩ := hB
  rw [ht] at hP1
  obtain ⟨hP, hD⟩ := va_join (wr := [(oa (a 1) cI 201 kd), (oa (a 11) cI 201 mn), (oa (a 12) cI 8040 cx), (oa (a 13) cI 8040 cy), (oa (a 32) cI 8 S0), (oa (a 22) cI (64 * cl) la), (oa (a 23) cI (64 * cl) lb), (oa (a 24) cI (64 * cl) lc), (oa (a 25) cI (64 * cl) ld)]) (w1 := [(om k0 a I0 J0), (oa (a 5) cI 201 st), (oa (a 6) cZ 201 tn)]) hP hD [0, 1, 2] [3, 4, 5, 6, 7, 8, 9, 10, 11] rfl rfl (by decide) (by decide) hk1 hFc hP1 hD1
  clear hk1 hPc hDc hFc hP1 hD1 ht
  generalize H1 = H at hP hS ⊢
  have hP := hP.sub (ws' := [(om k0 a I0 J0), (oa (a 5) cI 201 st), (oa (a 6) cZ 201 tn), (oa (a 1) cI 201 kd), (oa (a 11) cI 201 mn), (oa (a 12) cI 8040 cx), (oa (a 13) cI 8040 cy), (oa (a 32) cI 8 S0), (oa (a 22) cI (64 * cl) la), (oa (a 23) cI (64 * cl) lb), (oa (a 24) cI (64 * cl) lc), (oa (a 25) cI (64 * cl) ld)]) [9, 10, 11, 0, 1, 2, 3, 4, 5, 6, 7, 8] rfl
  have hD := hD.sub (ws' := [(om k0 a I0 J0), (oa (a 5) cI 201 st), (oa (a 6) cZ 201 tn), (oa (a 1) cI 201 kd), (oa (a 11) cI 201 mn), (oa (a 12) cI 8040 cx), (oa (a 13) cI 8040 cy), (oa (a 32) cI 8 S0), (oa (a 22) cI (64 * cl) la), (oa (a 23) cI (64 * cl) lb), (oa (a 24) cI (64 * cl) lc), (oa (a 25) cI (64 * cl) ld)]) [9, 10, 11, 0, 1, 2, 3, 4, 5, 6, 7, 8] (by decide) rfl
  have hP : va_P (dC, dI) classes [(om k0 a I0 J0), (oa (a 5) cI 201 st), (oa (a 6) cZ 201 tn), (oa (a 1) cI 201 kd), (oa (a 11) cI 201 mn), (oa (a 12) cI 8040 cx), (oa (a 13) cI 8040 cy), (oa (a 32) cI 8 S0), (oa (a 22) cI (64 * cl) la), (oa (a 23) cI (64 * cl) lb), (oa (a 24) cI (64 * cl) lc), (oa (a 25) cI (64 * cl) ld)] H := hP
  have hD : va_D A [(om k0 a I0 J0), (oa (a 5) cI 201 st), (oa (a 6) cZ 201 tn), (oa (a 1) cI 201 kd), (oa (a 11) cI 201 mn), (oa (a 12) cI 8040 cx), (oa (a 13) cI 8040 cy), (oa (a 32) cI 8 S0), (oa (a 22) cI (64 * cl) la), (oa (a 23) cI (64 * cl) lb), (oa (a 24) cI (64 * cl) lc), (oa (a 25) cI (64 * cl) ld)] := hD
  refine lv_if_eq (tgt := 17) hx hb dX11_far_5 (by decide) (fun c_1 => ?_) (fun c_1 => ?_)
  · have c_1 : ¬ (f < ft ∧ (st f).toInt = 1 ∧ (tn f).toInt = 0) := zp_0 c_1
    exfalso; exact absurd hlv (by assumption)
  · have c_1 : f < ft ∧ (st f).toInt = 1 ∧ (tn f).toInt = 0 := zp_1 c_1
    refine lv_iload_n hx hb dX11_far_8 rfl (lv_at hl 2 rfl) ?_
    refine lv_if_lt (tgt := 17) hx hb dX11_far_9 (by decide) (fun c_2 => ?_) (fun c_2 => ?_)
    · have c_2 : w.toInt < 0 := zc_lt rfl (by decide) c_2
      exfalso; omega
    · have c_2 : 0 ≤ w.toInt := zc_nlt rfl (by decide) c_2
      refine lv_iload_n hx hb dX11_far_12 rfl (lv_at hl 2 rfl) ?_
      refine lv_iconst (v := 1) hx hb dX11_far_13 (by decide) ?_
      refine lv_icmp_le (tgt := 21) hx hb dX11_far_14 (by decide) (fun c_3 => ?_) (fun c_3 => ?_)
      · have c_3 : w.toInt ≤ 1 := zc_le rfl (by decide) c_3
        refine lv_lconst (v := 0) hx hb dX11_far_21 (by decide) ?_
        refine zz_l (v := jI 0) (jI_0) ?_
        refine lv_lstore_n (lv' := [(3, .long (jI 0)), (0, .ref k0), (1, .int (nI f)), (2, .int w)]) hx hb dX11_far_22 rfl hl (by decide) rfl (fun ls hl => ?_)
        refine lv_lconst (v := 1) hx hb dX11_far_23 (by decide) ?_
        refine zz_l (v := jI 1) (jI_1) ?_
        refine lv_lstore (lv' := [(5, .long (jI 1)), (3, .long (jI 0)), (0, .ref k0), (1, .int (nI f)), (2, .int w)]) hx hb dX11_far_24 hl (by decide) rfl (fun ls hl => ?_)
        refine lv_iconst (v := 0) hx hb dX11_far_26 (by decide) ?_
        refine lv_istore (lv' := [(7, .int 0), (5, .long (jI 1)), (3, .long (jI 0)), (0, .ref k0), (1, .int (nI f)), (2, .int w)]) hx hb dX11_far_27 hl (by decide) rfl (fun ls hl => ?_)
        have hl_29 : ∀ (n9 : Nat) (j9 : Nat) (ua : Int) (ub : Int) (u9 : Int64) (d9 : Int64) (S1 : Nat → Int32) (H : Heap) (locs : List Loc) (ls : Array Slot), ln - j9 < n9 → (j9 ≤ ln) → ((0 ≤ ua ∧ ua ≤ 4000000000000) ∧ (1 ≤ ub ∧ ub ≤ 2000000)) → va_P (dC, dI) classes [(om k0 a I0 (vp_updL (vp_updL J0 48 u9) 49 d9)), (oa (a 5) cI 201 st), (oa (a 6) cZ 201 tn), (oa (a 1) cI 201 kd), (oa (a 11) cI 201 mn), (oa (a 12) cI 8040 cx), (oa (a 13) cI 8040 cy), (oa (a 32) cI 8 S1), (oa (a 22) cI (64 * cl) la), (oa (a 23) cI (64 * cl) lb), (oa (a 24) cI (64 * cl) lc), (oa (a 25) cI (64 * cl) ld)] H → va_D A [(om k0 a I0 (vp_updL (vp_updL J0 48 u9) 49 d9)), (oa (a 5) cI 201 st), (oa (a 6) cZ 201 tn), (oa (a 1) cI 201 kd), (oa (a 11) cI 201 mn), (oa (a 12) cI 8040 cx), (oa (a 13) cI 8040 cy), (oa (a 32) cI 8 S1), (oa (a 22) cI (64 * cl) la), (oa (a 23) cI (64 * cl) lb), (oa (a 24) cI (64 * cl) lc), (oa (a 25) cI (64 * cl) ld)] → va_S A s.heap H locs → lv_has ls 9 [(7, .int (nI j9)), (5, .long (jI ub)), (3, .long (jI ua)), (0, .ref k0), (1, .int (nI f)), (2, .int w)] → W p l e ((headSpec (.code yX11_far cX11_far 9 (some .long) :: ws0) ({ frames := 2, cells := 0, slots := 0, locals := 70 } : Room)).room) s m ([.ref k0, .int (nI f), .int w] : List Value).toArray below meth c H locs 0 0 Q9 (F0 m 29 ls []) := by
          intro n9
          induction n9 with
          | zero => intro j9 ua ub u9 d9 S1 H locs ls hm; exact absurd hm (Nat.not_lt_zero _)
          | succ n9 ih_29 =>
            intro j9 ua ub u9 d9 S1 H locs ls hm hj9 hab hP hD hS hl
            refine lv_iload hx hb dX11_far_29 (lv_at hl 0 rfl) ?_
            refine lv_aload_n hx hb dX11_far_31 rfl (lv_at hl 3 rfl) ?_
            refine va_get (D := (dC, dI)) (ci := 9) (v := .int (I0 26)) (C := RX11) (T := TX11) (N := 55) hx hb hts inX11 hown hK hP 0 rfl rfl 26 (by decide) (hts _ mw_1185) (fun _ h9 => h9) rfl dX11_far_32 ?_
            refine zz_i (v := nI ln) (hln) ?_
            refine lv_icmp_ge (tgt := 161) hx hb dX11_far_35 (by decide) (fun c_4 => ?_) (fun c_4 => ?_)
            · have c_4 : ((ln : Nat) : Int) ≤ ((j9 : Nat) : Int) := zc_le (nI_toInt (by omega)) (nI_toInt (by omega)) c_4
              refine lv_aload_n hx hb dX11_far_161 rfl (lv_at hl 3 rfl) ?_
              refine lv_lload_n hx hb dX11_far_162 rfl (lv_at hl 2 rfl) ?_
              refine va_put (D := (dC, dI)) (ci := 9) (v := .long (jI ua)) (ty := .long) (C := RX11) (T := TX11) (N := 55) hx hb hts inX11 tyX11 tyX11_ok nmX11 hown hK hP hD hS 0 rfl rfl 48 (by decide) (hts _ mw_1207) (fun _ h9 => h9) rfl (by decide +kernel) rfl rfl (Nat.le_of_ble_eq_true rfl) dX11_far_163 (fun H locs hP hD hS => ?_)
              have hP : va_P (dC, dI) classes [(om k0 a I0 (vp_updL (vp_updL J0 48 (jI ua)) 49 d9)), (oa (a 5) cI 201 st), (oa (a 6) cZ 201 tn), (oa (a 1) cI 201 kd), (oa (a 11) cI 201 mn), (oa (a 12) cI 8040 cx), (oa (a 13) cI 8040 cy), (oa (a 32) cI 8 S1), (oa (a 22) cI (64 * cl) la), (oa (a 23) cI (64 * cl) lb), (oa (a 24) cI (64 * cl) lc), (oa (a 25) cI (64 * cl) ld)] H := hP
              have hD : va_D A [(om k0 a I0 (vp_updL (vp_updL J0 48 (jI ua)) 49 d9)), (oa (a 5) cI 201 st), (oa (a 6) cZ 201 tn), (oa (a 1) cI 201 kd), (oa (a 11) cI 201 mn), (oa (a 12) cI 8040 cx), (oa (a 13) cI 8040 cy), (oa (a 32) cI 8 S1), (oa (a 22) cI (64 * cl) la), (oa (a 23) cI (64 * cl) lb), (oa (a 24) cI (64 * cl) lc), (oa (a 25) cI (64 * cl) ld)] := hD
              refine lv_aload_n hx hb dX11_far_166 rfl (lv_at hl 3 rfl) ?_
              refine lv_lload hx hb dX11_far_167 (lv_at hl 1 rfl) ?_
              refine va_put (D := (dC, dI)) (ci := 9) (v := .long (jI ub)) (ty := .long) (C := RX11) (T := TX11) (N := 55) hx hb hts inX11 tyX11 tyX11_ok nmX11 hown hK hP hD hS 0 rfl rfl 49 (by decide) (hts _ mw_1208) (fun _ h9 => h9) rfl (by decide +kernel) rfl rfl (Nat.le_of_ble_eq_true rfl) dX11_far_169 (fun H locs hP hD hS => ?_)
              have hP : va_P (dC, dI) classes [(om k0 a I0 (vp_updL (vp_updL J0 48 (jI ua)) 49 (jI ub))), (oa (a 5) cI 201 st), (oa (a 6) cZ 201 tn), (oa (a 1) cI 201 kd), (oa (a 11) cI 201 mn), (oa (a 12) cI 8040 cx), (oa (a 13) cI 8040 cy), (oa (a 32) cI 8 S1), (oa (a 22) cI (64 * cl) la), (oa (a 23) cI (64 * cl) lb), (oa (a 24) cI (64 * cl) lc), (oa (a 25) cI (64 * cl) ld)] H := hP
              have hD : va_D A [(om k0 a I0 (vp_updL (vp_updL J0 48 (jI ua)) 49 (jI ub))), (oa (a 5) cI 201 st), (oa (a 6) cZ 201 tn), (oa (a 1) cI 201 kd), (oa (a 11) cI 201 mn), (oa (a 12) cI 8040 cx), (oa (a 13) cI 8040 cy), (oa (a 32) cI 8 S1), (oa (a 22) cI (64 * cl) la), (oa (a 23) cI (64 * cl) lb), (oa (a 24) cI (64 * cl) lc), (oa (a 25) cI (64 * cl) ld)] := hD
              obtain ⟨un, hun⟩ : ∃ un : Nat, ua = ((un : Nat) : Int) := ⟨ua.toNat, by omega⟩
              obtain ⟨dd, hdd⟩ : ∃ dd : Nat, ub = ((dd : Nat) : Int) := ⟨ub.toNat, by omega⟩
              rw [hun, hdd] at hP hD
              refine lv_aload_n hx hb dX11_far_172 rfl (lv_at hl 3 rfl) ?_
              have hPc := hP.sub (ws' := [(om k0 a I0 (vp_updL (vp_updL J0 48 (jI ((un : Nat) : Int))) 49 (jI ((dd : Nat) : Int))))]) [0] rfl
              have hDc := hD.sub (ws' := [(om k0 a I0 (vp_updL (vp_updL J0 48 (jI ((un : Nat) : Int))) 49 (jI ((dd : Nat) : Int))))]) [0] (by decide) rfl
              have hFc := va_free (wc := [(om k0 a I0 (vp_updL (vp_updL J0 48 (jI ((un : Nat) : Int))) 49 (jI ((dd : Nat) : Int))))]) hD hS hA [0] rfl
              refine zcall (st1 := []) (va_runV (As := []) (rest := []) ⟨hx, hb, hml, hown, hts⟩ (k_M_plainFraction l dC dI cI cZ cF H.size k0 a I0 (vp_updL (vp_updL J0 48 (jI ((un : Nat) : Int))) 49 (jI ((dd : Nat) : Int))) un dd (by omega) (by omega)) (cwV 0 hts (zz_gV mw_1600 mw_1602 mw_87 mw_110 mc_yX11_plainFraction) rfl rfl rfl (by decide +kernel) ⟨Nat.le_of_ble_eq_true rfl, Nat.le_of_ble_eq_true rfl⟩) (zPV2 (q0 := 0) (ci := 9) hPc hDc hK hXN rfl rfl) rfl rfl hl.1 rfl (lv_room (Nat.le_of_ble_eq_true rfl)) dX11_far_173 ⟨Nat.le_of_ble_eq_true rfl, Nat.le_of_ble_eq_true rfl⟩) hS hFc hFc rfl (fun t H1 locs ht hB hk1 hS => ?_)
              obtain ⟨hP1, hD1⟩ := hB
              rw [ht] at hP1
              obtain ⟨hP, hD⟩ := va_join (wr := [(oa (a 5) cI 201 st), (oa (a 6) cZ 201 tn), (oa (a 1) cI 201 kd), (oa (a 11) cI 201 mn), (oa (a 12) cI 8040 cx), (oa (a 13) cI 8040 cy), (oa (a 32) cI 8 S1), (oa (a 22) cI (64 * cl) la), (oa (a 23) cI (64 * cl) lb), (oa (a 24) cI (64 * cl) lc), (oa (a 25) cI (64 * cl) ld)]) (w1 := [(om k0 a I0 (vp_updL (vp_updL J0 48 (jI ((un / Nat.gcd un dd : Nat) : Int))) 49 (jI ((dd / Nat.gcd un dd : Nat) : Int))))]) hP hD [0] [1, 2, 3, 4, 5, 6, 7, 8, 9, 10, 11] rfl rfl (by decide) (by decide) hk1 hFc hP1 hD1
              clear hk1 hPc hDc hFc hP1 hD1 ht
              generalize H1 = H at hP hS ⊢
              have hP := hP.sub (ws' := [(om k0 a I0 (vp_updL (vp_updL J0 48 (jI ((un / Nat.gcd un dd : Nat) : Int))) 49 (jI ((dd / Nat.gcd un dd : Nat) : Int)))), (oa (a 5) cI 201 st), (oa (a 6) cZ 201 tn), (oa (a 1) cI 201 kd), (oa (a 11) cI 201 mn), (oa (a 12) cI 8040 cx), (oa (a 13) cI 8040 cy), (oa (a 32) cI 8 S1), (oa (a 22) cI (64 * cl) la), (oa (a 23) cI (64 * cl) lb), (oa (a 24) cI (64 * cl) lc), (oa (a 25) cI (64 * cl) ld)]) [11, 0, 1, 2, 3, 4, 5, 6, 7, 8, 9, 10] rfl
              have hD := hD.sub (ws' := [(om k0 a I0 (vp_updL (vp_updL J0 48 (jI ((un / Nat.gcd un dd : Nat) : Int))) 49 (jI ((dd / Nat.gcd un dd : Nat) : Int)))), (oa (a 5) cI 201 st), (oa (a 6) cZ 201 tn), (oa (a 1) cI 201 kd), (oa (a 11) cI 201 mn), (oa (a 12) cI 8040 cx), (oa (a 13) cI 8040 cy), (oa (a 32) cI 8 S1), (oa (a 22) cI (64 * cl) la), (oa (a 23) cI (64 * cl) lb), (oa (a 24) cI (64 * cl) lc), (oa (a 25) cI (64 * cl) ld)]) [11, 0, 1, 2, 3, 4, 5, 6, 7, 8, 9, 10] (by decide) rfl
              have hP : va_P (dC, dI) classes [(om k0 a I0 (vp_updL (vp_updL J0 48 (jI ((un / Nat.gcd un dd : Nat) : Int))) 49 (jI ((dd / Nat.gcd un dd : Nat) : Int)))), (oa (a 5) cI 201 st), (oa (a 6) cZ 201 tn), (oa (a 1) cI 201 kd), (oa (a 11) cI 201 mn), (oa (a 12) cI 8040 cx), (oa (a 13) cI 8040 cy), (oa (a 32) cI 8 S1), (oa (a 22) cI (64 * cl) la), (oa (a 23) cI (64 * cl) lb), (oa (a 24) cI (64 * cl) lc), (oa (a 25) cI (64 * cl) ld)] H := hP
              have hD : va_D A [(om k0 a I0 (vp_updL (vp_updL J0 48 (jI ((un / Nat.gcd un dd : Nat) : Int))) 49 (jI ((dd / Nat.gcd un dd : Nat) : Int)))), (oa (a 5) cI 201 st), (oa (a 6) cZ 201 tn), (oa (a 1) cI 201 kd), (oa (a 11) cI 201 mn), (oa (a 12) cI 8040 cx), (oa (a 13) cI 8040 cy), (oa (a 32) cI 8 S1), (oa (a 22) cI (64 * cl) la), (oa (a 23) cI (64 * cl) lb), (oa (a 24) cI (64 * cl) lc), (oa (a 25) cI (64 * cl) ld)] := hD
              refine lv_iload_n hx hb dX11_far_176 rfl (lv_at hl 5 rfl) ?_
              refine lv_if_ne (tgt := 187) hx hb dX11_far_177 (by decide) (fun c_5 => ?_) (fun c_5 => ?_)
              · have c_5 : ¬ w.toInt = 0 := zc_ne rfl (by decide) c_5
                refine lv_aload_n hx hb dX11_far_187 rfl (lv_at hl 3 rfl) ?_
                refine va_get (D := (dC, dI)) (ci := 9) (v := .long (jI ((dd / Nat.gcd un dd : Nat) : Int))) (C := RX11) (T := TX11) (N := 55) hx hb hts inX11 hown hK hP 0 rfl rfl 49 (by decide) (hts _ mw_1208) (fun _ h9 => h9) rfl dX11_far_188 ?_
                have hP9 := hP.sub (ws' := [(om k0 a I0 (vp_updL (vp_updL J0 48 (jI ((un / Nat.gcd un dd : Nat) : Int))) 49 (jI ((dd / Nat.gcd un dd : Nat) : Int)))), (oa (a 5) cI 201 st), (oa (a 6) cZ 201 tn), (oa (a 1) cI 201 kd), (oa (a 11) cI 201 mn), (oa (a 12) cI 8040 cx), (oa (a 13) cI 8040 cy), (oa (a 32) cI 8 S1), (oa (a 22) cI (64 * cl) la), (oa (a 23) cI (64 * cl) lb), (oa (a 24) cI (64 * cl) lc), (oa (a 25) cI (64 * cl) ld)]) [0, 1, 2, 3, 4, 5, 6, 7, 8, 9, 10, 11] rfl
                have hD9 := hD.sub (ws' := [(om k0 a I0 (vp_updL (vp_updL J0 48 (jI ((un / Nat.gcd un dd : Nat) : Int))) 49 (jI ((dd / Nat.gcd un dd : Nat) : Int)))), (oa (a 5) cI 201 st), (oa (a 6) cZ 201 tn), (oa (a 1) cI 201 kd), (oa (a 11) cI 201 mn), (oa (a 12) cI 8040 cx), (oa (a 13) cI 8040 cy), (oa (a 32) cI 8 S1), (oa (a 22) cI (64 * cl) la), (oa (a 23) cI (64 * cl) lb), (oa (a 24) cI (64 * cl) lc), (oa (a 25) cI (64 * cl) ld)]) [0, 1, 2, 3, 4, 5, 6, 7, 8, 9, 10, 11] (by decide) rfl
                rw [hQ9]
                exact W.lret (v := jI ((dd / Nat.gcd un dd : Nat) : Int)) hx hb hr (fun t ht hW => ⟨⟨_, rfl, (jI ((dd / Nat.gcd un dd : Nat) : Int)), (jI ((un / Nat.gcd un dd : Nat) : Int)), (jI ((dd / Nat.gcd un dd : Nat) : Int)), S1, rfl, by rw [ht]; exact hP9, hD9⟩, hS.F ht⟩) hS.2.2 dX11_far_191
              · have c_5 : w.toInt = 0 := zc_eq rfl (by decide) c_5
                refine lv_aload_n hx hb dX11_far_180 rfl (lv_at hl 3 rfl) ?_
                refine va_get (D := (dC, dI)) (ci := 9) (v := .long (jI ((un / Nat.gcd un dd : Nat) : Int))) (C := RX11) (T := TX11) (N := 55) hx hb hts inX11 hown hK hP 0 rfl rfl 48 (by decide) (hts _ mw_1207) (fun _ h9 => h9) rfl dX11_far_181 ?_
                refine lv_goto (tgt := 191) hx hb dX11_far_184 (by decide) ?_
                have hP9 := hP.sub (ws' := [(om k0 a I0 (vp_updL (vp_updL J0 48 (jI ((un / Nat.gcd un dd : Nat) : Int))) 49 (jI ((dd / Nat.gcd un dd : Nat) : Int)))), (oa (a 5) cI 201 st), (oa (a 6) cZ 201 tn), (oa (a 1) cI 201 kd), (oa (a 11) cI 201 mn), (oa (a 12) cI 8040 cx), (oa (a 13) cI 8040 cy), (oa (a 32) cI 8 S1), (oa (a 22) cI (64 * cl) la), (oa (a 23) cI (64 * cl) lb), (oa (a 24) cI (64 * cl) lc), (oa (a 25) cI (64 * cl) ld)]) [0, 1, 2, 3, 4, 5, 6, 7, 8, 9, 10, 11] rfl
                have hD9 := hD.sub (ws' := [(om k0 a I0 (vp_updL (vp_updL J0 48 (jI ((un / Nat.gcd un dd : Nat) : Int))) 49 (jI ((dd / Nat.gcd un dd : Nat) : Int)))), (oa (a 5) cI 201 st), (oa (a 6) cZ 201 tn), (oa (a 1) cI 201 kd), (oa (a 11) cI 201 mn), (oa (a 12) cI 8040 cx), (oa (a 13) cI 8040 cy), (oa (a 32) cI 8 S1), (oa (a 22) cI (64 * cl) la), (oa (a 23) cI (64 * cl) lb), (oa (a 24) cI (64 * cl) lc), (oa (a 25) cI (64 * cl) ld)]) [0, 1, 2, 3, 4, 5, 6, 7, 8, 9, 10, 11] (by decide) rfl
                rw [hQ9]
                exact W.lret (v := jI ((un / Nat.gcd un dd : Nat) : Int)) hx hb hr (fun t ht hW => ⟨⟨_, rfl, (jI ((un / Nat.gcd un dd : Nat) : Int)), (jI ((un / Nat.gcd un dd : Nat) : Int)), (jI ((dd / Nat.gcd un dd : Nat) : Int)), S1, rfl, by rw [ht]; exact hP9, hD9⟩, hS.F ht⟩) hS.2.2 dX11_far_191
            · have c_4 : ((j9 : Nat) : Int) < ((ln : Nat) : Int) := zc_nle (nI_toInt (by omega)) (nI_toInt (by omega)) c_4
              refine lv_aload_n hx hb dX11_far_38 rfl (lv_at hl 3 rfl) ?_
              refine va_get (D := (dC, dI)) (ci := 9) (v := .ref (a 22)) (C := RX11) (T := TX11) (N := 55) hx hb hts inX11 hown hK hP 0 rfl rfl 22 (by decide) (hts _ mw_1181) (fun _ h9 => h9) rfl dX11_far_39 ?_
              refine lv_iload hx hb dX11_far_42 (lv_at hl 0 rfl) ?_
              refine z_iald hx hb hK hP 8 0 rfl rfl (e := j9) rfl (by omega) (by omega) dX11_far_44 ?_
              refine lv_iload_n hx hb dX11_far_45 rfl (lv_at hl 4 rfl) ?_
              refine lv_icmp_ne (tgt := 155) hx hb dX11_far_46 (by decide) (fun c_6 => ?_) (fun c_6 => ?_)
              · have c_6 : ¬ (la j9).toInt = ((f : Nat) : Int) := zc_ne rfl (nI_toInt (by omega)) c_6
                refine lv_iinc (v := nI (j9 + 1)) (lv' := [(7, .int (nI (j9 + 1))), (5, .long (jI ub)), (3, .long (jI ua)), (0, .ref k0), (1, .int (nI f)), (2, .int w)]) hx hb dX11_far_155 hl (k := 0) rfl (nI_add j9 1) (by decide) rfl (fun ls hl => ?_)
                refine lv_goto (tgt := 29) hx hb dX11_far_158 (by decide) ?_
                exact ih_29 (j9 + 1) ua ub u9 d9 S1 H locs ls (by omega) (by omega) (by first | exact hab | (have h9 := hd1 (by omega); omega)) hP hD hS (lv_sub hl [0, 1, 2, 3, 4, 5] rfl)
              · have c_6 : (la j9).toInt = ((f : Nat) : Int) := zc_eq rfl (nI_toInt (by omega)) c_6
                refine lv_aload_n hx hb dX11_far_49 rfl (lv_at hl 3 rfl) ?_
                refine va_get (D := (dC, dI)) (ci := 9) (v := .ref (a 25)) (C := RX11) (T := TX11) (N := 55) hx hb hts inX11 hown hK hP 0 rfl rfl 25 (by decide) (hts _ mw_1184) (fun _ h9 => h9) rfl dX11_far_50 ?_
                refine lv_iload hx hb dX11_far_53 (lv_at hl 0 rfl) ?_
                refine z_iald hx hb hK hP 11 0 rfl rfl (e := j9) rfl (by omega) (by omega) dX11_far_55 ?_
                refine lv_aload_n hx hb dX11_far_56 rfl (lv_at hl 3 rfl) ?_
                refine va_get (D := (dC, dI)) (ci := 9) (v := .int (I0 19)) (C := RX11) (T := TX11) (N := 55) hx hb hts inX11 hown hK hP 0 rfl rfl 19 (by decide) (hts _ mw_1178) (fun _ h9 => h9) rfl dX11_far_57 ?_
                refine lv_icmp_le (tgt := 66) hx hb dX11_far_60 (by decide) (fun c_7 => ?_) (fun c_7 => ?_)
                · have c_7 : (ld j9).toInt ≤ (I0 19).toInt := zc_le rfl rfl c_7
                  refine lv_aload_n hx hb dX11_far_66 rfl (lv_at hl 3 rfl) ?_
                  refine lv_lconst (v := 0) hx hb dX11_far_67 (by decide) ?_
                  refine zz_l (v := jI 0) (jI_0) ?_
                  refine va_put (D := (dC, dI)) (ci := 9) (v := .long (jI 0)) (ty := .long) (C := RX11) (T := TX11) (N := 55) hx hb hts inX11 tyX11 tyX11_ok nmX11 hown hK hP hD hS 0 rfl rfl 48 (by decide) (hts _ mw_1207) (fun _ h9 => h9) rfl (by decide +kernel) rfl rfl (Nat.le_of_ble_eq_true rfl) dX11_far_68 (fun H locs hP hD hS => ?_)
                  have hP : va_P (dC, dI) classes [(om k0 a I0 (vp_updL (vp_updL J0 48 (jI 0)) 49 d9)), (oa (a 5) cI 201 st), (oa (a 6) cZ 201 tn), (oa (a 1) cI 201 kd), (oa (a 11) cI 201 mn), (oa (a 12) cI 8040 cx), (oa (a 13) cI 8040 cy), (oa (a 32) cI 8 S1), (oa (a 22) cI (64 * cl) la), (oa (a 23) cI (64 * cl) lb), (oa (a 24) cI (64 * cl) lc), (oa (a 25) cI (64 * cl) ld)] H := hP
                  have hD : va_D A [(om k0 a I0 (vp_updL (vp_updL J0 48 (jI 0)) 49 d9)), (oa (a 5) cI 201 st), (oa (a 6) cZ 201 tn), (oa (a 1) cI 201 kd), (oa (a 11) cI 201 mn), (oa (a 12) cI 8040 cx), (oa (a 13) cI 8040 cy), (oa (a 32) cI 8 S1), (oa (a 22) cI (64 * cl) la), (oa (a 23) cI (64 * cl) lb), (oa (a 24) cI (64 * cl) lc), (oa (a 25) cI (64 * cl) ld)] := hD
                  refine lv_aload_n hx hb dX11_far_71 rfl (lv_at hl 3 rfl) ?_
                  refine lv_lconst (v := 0) hx hb dX11_far_72 (by decide) ?_
                  refine zz_l (v := jI 0) (jI_0) ?_
                  refine va_put (D := (dC, dI)) (ci := 9) (v := .long (jI 0)) (ty := .long) (C := RX11) (T := TX11) (N := 55) hx hb hts inX11 tyX11 tyX11_ok nmX11 hown hK hP hD hS 0 rfl rfl 49 (by decide) (hts _ mw_1208) (fun _ h9 => h9) rfl (by decide +kernel) rfl rfl (Nat.le_of_ble_eq_true rfl) dX11_far_73 (fun H locs hP hD hS => ?_)
                  have hP : va_P (dC, dI) classes [(om k0 a I0 (vp_updL (vp_updL J0 48 (jI 0)) 49 (jI 0))), (oa (a 5) cI 201 st), (oa (a 6) cZ 201 tn), (oa (a 1) cI 201 kd), (oa (a 11) cI 201 mn), (oa (a 12) cI 8040 cx), (oa (a 13) cI 8040 cy), (oa (a 32) cI 8 S1), (oa (a 22) cI (64 * cl) la), (oa (a 23) cI (64 * cl) lb), (oa (a 24) cI (64 * cl) lc), (oa (a 25) cI (64 * cl) ld)] H := hP
                  have hD : va_D A [(om k0 a I0 (vp_updL (vp_updL J0 48 (jI 0)) 49 (jI 0))), (oa (a 5) cI 201 st), (oa (a 6) cZ 201 tn), (oa (a 1) cI 201 kd), (oa (a 11) cI 201 mn), (oa (a 12) cI 8040 cx), (oa (a 13) cI 8040 cy), (oa (a 32) cI 8 S1), (oa (a 22) cI (64 * cl) la), (oa (a 23) cI (64 * cl) lb), (oa (a 24) cI (64 * cl) lc), (oa (a 25) cI (64 * cl) ld)] := hD
                  refine lv_iconst (v := 0) hx hb dX11_far_76 (by decide) ?_
                  refine lv_istore (lv' := [(8, .int 0), (7, .int (nI j9)), (5, .long (jI ub)), (3, .long (jI ua)), (0, .ref k0), (1, .int (nI f)), (2, .int w)]) hx hb dX11_far_77 hl (by decide) rfl (fun ls hl => ?_)
                  have hl_79 : ∀ (n9 : Nat) (e9 : Nat) (u2 : Int) (d2 : Int) (S2 : Nat → Int32) (H : Heap) (locs : List Loc) (ls : Array Slot), eO (kd f).toInt (nN (mn f)) - e9 < n9 → (e9 ≤ eO (kd f).toInt (nN (mn f))) → ((0 ≤ u2 ∧ u2 ≤ 4000000000000) ∧ (0 ≤ d2 ∧ d2 ≤ 2000000)) → (0 < e9 → 1 ≤ d2) → va_P (dC, dI) classes [(om k0 a I0 (vp_updL (vp_updL J0 48 (jI u2)) 49 (jI d2))), (oa (a 5) cI 201 st), (oa (a 6) cZ 201 tn), (oa (a 1) cI 201 kd), (oa (a 11) cI 201 mn), (oa (a 12) cI 8040 cx), (oa (a 13) cI 8040 cy), (oa (a 32) cI 8 S2), (oa (a 22) cI (64 * cl) la), (oa (a 23) cI (64 * cl) lb), (oa (a 24) cI (64 * cl) lc), (oa (a 25) cI (64 * cl) ld)] H → va_D A [(om k0 a I0 (vp_updL (vp_updL J0 48 (jI u2)) 49 (jI d2))), (oa (a 5) cI 201 st), (oa (a 6) cZ 201 tn), (oa (a 1) cI 201 kd), (oa (a 11) cI 201 mn), (oa (a 12) cI 8040 cx), (oa (a 13) cI 8040 cy), (oa (a 32) cI 8 S2), (oa (a 22) cI (64 * cl) la), (oa (a 23) cI (64 * cl) lb), (oa (a 24) cI (64 * cl) lc), (oa (a 25) cI (64 * cl) ld)] → va_S A s.heap H locs → lv_has ls 9 [(8, .int (nI e9)), (7, .int (nI j9)), (5, .long (jI ub)), (3, .long (jI ua)), (0, .ref k0), (1, .int (nI f)), (2, .int w)] → W p l e ((headSpec (.code yX11_far cX11_far 9 (some .long) :: ws0) ({ frames := 2, cells := 0, slots := 0, locals := 70 } : Room)).room) s m ([.ref k0, .int (nI f), .int w] : List Value).toArray below meth c H locs 0 0 Q9 (F0 m 79 ls []) := by
                    intro n9
                    induction n9 with
                    | zero => intro e9 u2 d2 S2 H locs ls hm; exact absurd hm (Nat.not_lt_zero _)
                    | succ n9 ih_79 =>
                      intro e9 u2 d2 S2 H locs ls hm he9 hud2 hd1 hP hD hS hl
                      refine lv_iload hx hb dX11_far_79 (lv_at hl 0 rfl) ?_
                      refine lv_aload_n hx hb dX11_far_81 rfl (lv_at hl 4 rfl) ?_
                      refine lv_iload_n hx hb dX11_far_82 rfl (lv_at hl 5 rfl) ?_
                      have hPc := hP.sub (ws' := [(om k0 a I0 (vp_updL (vp_updL J0 48 (jI u2)) 49 (jI d2))), (oa (a 1) cI 201 kd), (oa (a 11) cI 201 mn)]) [0, 3, 4] rfl
                      have hDc := hD.sub (ws' := [(om k0 a I0 (vp_updL (vp_updL J0 48 (jI u2)) 49 (jI d2))), (oa (a 1) cI 201 kd), (oa (a 11) cI 201 mn)]) [0, 3, 4] (by decide) rfl
                      have hFc := va_free (wc := [(om k0 a I0 (vp_updL (vp_updL J0 48 (jI u2)) 49 (jI d2))), (oa (a 1) cI 201 kd), (oa (a 11) cI 201 mn)]) hD hS hA [0, 3, 4] rfl
                      refine zcall (st1 := [.int (nI (eO (kd f).toInt (nN (mn f)))), .int (nI e9)]) (va_runV (As := [.int (nI f)]) (rest := [.int (nI e9)]) ⟨hx, hb, hml, hown, hts⟩ (k_M_edgesOf l dC dI cI cZ cF H.size k0 a I0 (vp_updL (vp_updL J0 48 (jI u2)) 49 (jI d2)) f (nN (mn f)) kd mn (by omega) (hm_ff) (hn_ff)) (cwV 1 hts (zz_gV mw_1369 mw_1371 mw_41 mw_110 mc_yX11_edgesOf) rfl rfl rfl (by decide +kernel) ⟨Nat.le_of_ble_eq_true rfl, Nat.le_of_ble_eq_true rfl⟩) (zPV2 (q0 := 0) (ci := 9) hPc hDc hK hXN rfl rfl) rfl rfl hl.1 rfl (lv_room (Nat.le_of_ble_eq_true rfl)) dX11_far_83 ⟨Nat.le_of_ble_eq_true rfl, Nat.le_of_ble_eq_true rfl⟩) hS hFc hFc rfl (fun t H1 locs ht hB hk1 hS => ?_)
                      obtain ⟨hP1, hD1⟩ := hB
                      rw [ht] at hP1
                      obtain ⟨hP, hD⟩ := va_join (wr := [(oa (a 5) cI 201 st), (oa (a 6) cZ 201 tn), (oa (a 12) cI 8040 cx), (oa (a 13) cI 8040 cy), (oa (a 32) cI 8 S2), (oa (a 22) cI (64 * cl) la), (oa (a 23) cI (64 * cl) lb), (oa (a 24) cI (64 * cl) lc), (oa (a 25) cI (64 * cl) ld)]) (w1 := [(om k0 a I0 (vp_updL (vp_updL J0 48 (jI u2)) 49 (jI d2))), (oa (a 1) cI 201 kd), (oa (a 11) cI 201 mn)]) hP hD [0, 3, 4] [1, 2, 5, 6, 7, 8, 9, 10, 11] rfl rfl (by decide) (by decide) hk1 hFc hP1 hD1
                      clear hk1 hPc hDc hFc hP1 hD1 ht
                      generalize H1 = H at hP hS ⊢
                      have hP := hP.sub (ws' := [(om k0 a I0 (vp_updL (vp_updL J0 48 (jI u2)) 49 (jI d2))), (oa (a 5) cI 201 st), (oa (a 6) cZ 201 tn), (oa (a 1) cI 201 kd), (oa (a 11) cI 201 mn), (oa (a 12) cI 8040 cx), (oa (a 13) cI 8040 cy), (oa (a 32) cI 8 S2), (oa (a 22) cI (64 * cl) la), (oa (a 23) cI (64 * cl) lb), (oa (a 24) cI (64 * cl) lc), (oa (a 25) cI (64 * cl) ld)]) [9, 0, 1, 10, 11, 2, 3, 4, 5, 6, 7, 8] rfl
                      have hD := hD.sub (ws' := [(om k0 a I0 (vp_updL (vp_updL J0 48 (jI u2)) 49 (jI d2))), (oa (a 5) cI 201 st), (oa (a 6) cZ 201 tn), (oa (a 1) cI 201 kd), (oa (a 11) cI 201 mn), (oa (a 12) cI 8040 cx), (oa (a 13) cI 8040 cy), (oa (a 32) cI 8 S2), (oa (a 22) cI (64 * cl) la), (oa (a 23) cI (64 * cl) lb), (oa (a 24) cI (64 * cl) lc), (oa (a 25) cI (64 * cl) ld)]) [9, 0, 1, 10, 11, 2, 3, 4, 5, 6, 7, 8] (by decide) rfl
                      have hP : va_P (dC, dI) classes [(om k0 a I0 (vp_updL (vp_updL J0 48 (jI u2)) 49 (jI d2))), (oa (a 5) cI 201 st), (oa (a 6) cZ 201 tn), (oa (a 1) cI 201 kd), (oa (a 11) cI 201 mn), (oa (a 12) cI 8040 cx), (oa (a 13) cI 8040 cy), (oa (a 32) cI 8 S2), (oa (a 22) cI (64 * cl) la), (oa (a 23) cI (64 * cl) lb), (oa (a 24) cI (64 * cl) lc), (oa (a 25) cI (64 * cl) ld)] H := hP
                      have hD : va_D A [(om k0 a I0 (vp_updL (vp_updL J0 48 (jI u2)) 49 (jI d2))), (oa (a 5) cI 201 st), (oa (a 6) cZ 201 tn), (oa (a 1) cI 201 kd), (oa (a 11) cI 201 mn), (oa (a 12) cI 8040 cx), (oa (a 13) cI 8040 cy), (oa (a 32) cI 8 S2), (oa (a 22) cI (64 * cl) la), (oa (a 23) cI (64 * cl) lb), (oa (a 24) cI (64 * cl) lc), (oa (a 25) cI (64 * cl) ld)] := hD
                      refine lv_icmp_ge (tgt := 126) hx hb dX11_far_86 (by decide) (fun c_8 => ?_) (fun c_8 => ?_)
                      · have c_8 : ((eO (kd f).toInt (nN (mn f)) : Nat) : Int) ≤ ((e9 : Nat) : Int) := zc_le (nI_toInt (by omega)) (nI_toInt (by omega)) c_8
                        refine lv_aload_n hx hb dX11_far_126 rfl (lv_at hl 4 rfl) ?_
                        refine lv_lload_n hx hb dX11_far_127 rfl (lv_at hl 3 rfl) ?_
                        refine lv_lload hx hb dX11_far_128 (lv_at hl 2 rfl) ?_
                        refine lv_aload_n hx hb dX11_far_130 rfl (lv_at hl 4 rfl) ?_
                        refine va_get (D := (dC, dI)) (ci := 9) (v := .long (jI u2)) (C := RX11) (T := TX11) (N := 55) hx hb hts inX11 hown hK hP 0 rfl rfl 48 (by decide) (hts _ mw_1207) (fun _ h9 => h9) rfl dX11_far_131 ?_
                        refine lv_aload_n hx hb dX11_far_134 rfl (lv_at hl 4 rfl) ?_
                        refine va_get (D := (dC, dI)) (ci := 9) (v := .long (jI d2)) (C := RX11) (T := TX11) (N := 55) hx hb hts inX11 hown hK hP 0 rfl rfl 49 (by decide) (hts _ mw_1208) (fun _ h9 => h9) rfl dX11_far_135 ?_
                        have hPc := hP.sub (ws' := [(om k0 a I0 (vp_updL (vp_updL J0 48 (jI u2)) 49 (jI d2)))]) [0] rfl
                        have hDc := hD.sub (ws' := [(om k0 a I0 (vp_updL (vp_updL J0 48 (jI u2)) 49 (jI d2)))]) [0] (by decide) rfl
                        have hFc := va_free (wc := [(om k0 a I0 (vp_updL (vp_updL J0 48 (jI u2)) 49 (jI d2)))]) hD hS hA [0] rfl
                        refine zcall (st1 := [.int (pI (ua * d2 < u2 * ub))]) (va_runV (As := [.long (jI ua), .long (jI ub), .long (jI u2), .long (jI d2)]) (rest := []) ⟨hx, hb, hml, hown, hts⟩ (k_M_isLess l dC dI cI cZ cF H.size k0 a I0 (vp_updL (vp_updL J0 48 (jI u2)) 49 (jI d2)) ua ub u2 d2 (prN hab.1 hud2.2) (prN hud2.1 ⟨by omega, hab.2.2⟩) (by omega) (by omega) (by omega) (by omega)) (cwV 4 hts (zz_gV mw_1596 mw_1598 mw_86 mw_110 mc_yX11_isLess) rfl rfl rfl (by decide +kernel) ⟨Nat.le_of_ble_eq_true rfl, Nat.le_of_ble_eq_true rfl⟩) (zPV2 (q0 := 0) (ci := 9) hPc hDc hK hXN rfl rfl) rfl rfl hl.1 rfl (lv_room (Nat.le_of_ble_eq_true rfl)) dX11_far_138 ⟨Nat.le_of_ble_eq_true rfl, Nat.le_of_ble_eq_true rfl⟩) hS hFc hFc rfl (fun t H1 locs ht hB hk1 hS => ?_)
                        obtain ⟨hP1, hD1⟩ := hB
                        rw [ht] at hP1
                        obtain ⟨hP, hD⟩ := va_join (wr := [(oa (a 5) cI 201 st), (oa (a 6) cZ 201 tn), (oa (a 1) cI 201 kd), (oa (a 11) cI 201 mn), (oa (a 12) cI 8040 cx), (oa (a 13) cI 8040 cy), (oa (a 32) cI 8 S2), (oa (a 22) cI (64 * cl) la), (oa (a 23) cI (64 * cl) lb), (oa (a 24) cI (64 * cl) lc), (oa (a 25) cI (64 * cl) ld)]) (w1 := [(om k0 a I0 (vp_updL (vp_updL J0 48 (jI u2)) 49 (jI d2)))]) hP hD [0] [1, 2, 3, 4, 5, 6, 7, 8, 9, 10, 11] rfl rfl (by decide) (by decide) hk1 hFc hP1 hD1
                        clear hk1 hPc hDc hFc hP1 hD1 ht
                        generalize H1 = H at hP hS ⊢
                        have hP := hP.sub (ws' := [(om k0 a I0 (vp_updL (vp_updL J0 48 (jI u2)) 49 (jI d2))), (oa (a 5) cI 201 st), (oa (a 6) cZ 201 tn), (oa (a 1) cI 201 kd), (oa (a 11) cI 201 mn), (oa (a 12) cI 8040 cx), (oa (a 13) cI 8040 cy), (oa (a 32) cI 8 S2), (oa (a 22) cI (64 * cl) la), (oa (a 23) cI (64 * cl) lb), (oa (a 24) cI (64 * cl) lc), (oa (a 25) cI (64 * cl) ld)]) [11, 0, 1, 2, 3, 4, 5, 6, 7, 8, 9, 10] rfl
                        have hD := hD.sub (ws' := [(om k0 a I0 (vp_updL (vp_updL J0 48 (jI u2)) 49 (jI d2))), (oa (a 5) cI 201 st), (oa (a 6) cZ 201 tn), (oa (a 1) cI 201 kd), (oa (a 11) cI 201 mn), (oa (a 12) cI 8040 cx), (oa (a 13) cI 8040 cy), (oa (a 32) cI 8 S2), (oa (a 22) cI (64 * cl) la), (oa (a 23) cI (64 * cl) lb), (oa (a 24) cI (64 * cl) lc), (oa (a 25) cI (64 * cl) ld)]) [11, 0, 1, 2, 3, 4, 5, 6, 7, 8, 9, 10] (by decide) rfl
                        have hP : va_P (dC, dI) classes [(om k0 a I0 (vp_updL (vp_updL J0 48 (jI u2)) 49 (jI d2))), (oa (a 5) cI 201 st), (oa (a 6) cZ 201 tn), (oa (a 1) cI 201 kd), (oa (a 11) cI 201 mn), (oa (a 12) cI 8040 cx), (oa (a 13) cI 8040 cy), (oa (a 32) cI 8 S2), (oa (a 22) cI (64 * cl) la), (oa (a 23) cI (64 * cl) lb), (oa (a 24) cI (64 * cl) lc), (oa (a 25) cI (64 * cl) ld)] H := hP
                        have hD : va_D A [(om k0 a I0 (vp_updL (vp_updL J0 48 (jI u2)) 49 (jI d2))), (oa (a 5) cI 201 st), (oa (a 6) cZ 201 tn), (oa (a 1) cI 201 kd), (oa (a 11) cI 201 mn), (oa (a 12) cI 8040 cx), (oa (a 13) cI 8040 cy), (oa (a 32) cI 8 S2), (oa (a 22) cI (64 * cl) la), (oa (a 23) cI (64 * cl) lb), (oa (a 24) cI (64 * cl) lc), (oa (a 25) cI (64 * cl) ld)] := hD
                        refine lv_if_eq (tgt := 155) hx hb dX11_far_141 (by decide) (fun c_9 => ?_) (fun c_9 => ?_)
                        · have c_9 : ¬ (ua * d2 < u2 * ub) := zp_0 c_9
                          refine lv_iinc (v := nI (j9 + 1)) (lv' := [(7, .int (nI (j9 + 1))), (8, .int (nI e9)), (5, .long (jI ub)), (3, .long (jI ua)), (0, .ref k0), (1, .int (nI f)), (2, .int w)]) hx hb dX11_far_155 hl (k := 1) rfl (nI_add j9 1) (by decide) rfl (fun ls hl => ?_)
                          refine lv_goto (tgt := 29) hx hb dX11_far_158 (by decide) ?_
                          exact ih_29 (j9 + 1) ua ub (jI u2) (jI d2) S2 H locs ls (by omega) (by omega) (by first | exact hab | (have h9 := hd1 (by omega); omega)) hP hD hS (lv_sub hl [0, 2, 3, 4, 5, 6] rfl)
                        · have c_9 : ua * d2 < u2 * ub := zp_1 c_9
                          refine lv_aload_n hx hb dX11_far_144 rfl (lv_at hl 4 rfl) ?_
                          refine va_get (D := (dC, dI)) (ci := 9) (v := .long (jI u2)) (C := RX11) (T := TX11) (N := 55) hx hb hts inX11 hown hK hP 0 rfl rfl 48 (by decide) (hts _ mw_1207) (fun _ h9 => h9) rfl dX11_far_145 ?_
                          refine lv_lstore_n (lv' := [(3, .long (jI u2)), (8, .int (nI e9)), (7, .int (nI j9)), (5, .long (jI ub)), (0, .ref k0), (1, .int (nI f)), (2, .int w)]) hx hb dX11_far_148 rfl hl (by decide) rfl (fun ls hl => ?_)
                          refine lv_aload_n hx hb dX11_far_149 rfl (lv_at hl 4 rfl) ?_
                          refine va_get (D := (dC, dI)) (ci := 9) (v := .long (jI d2)) (C := RX11) (T := TX11) (N := 55) hx hb hts inX11 hown hK hP 0 rfl rfl 49 (by decide) (hts _ mw_1208) (fun _ h9 => h9) rfl dX11_far_150 ?_
                          refine lv_lstore (lv' := [(5, .long (jI d2)), (3, .long (jI u2)), (8, .int (nI e9)), (7, .int (nI j9)), (0, .ref k0), (1, .int (nI f)), (2, .int w)]) hx hb dX11_far_153 hl (by decide) rfl (fun ls hl => ?_)
                          refine lv_iinc (v := nI (j9 + 1)) (lv' := [(7, .int (nI (j9 + 1))), (5, .long (jI d2)), (3, .long (jI u2)), (8, .int (nI e9)), (0, .ref k0), (1, .int (nI f)), (2, .int w)]) hx hb dX11_far_155 hl (k := 3) rfl (nI_add j9 1) (by decide) rfl (fun ls hl => ?_)
                          refine lv_goto (tgt := 29) hx hb dX11_far_158 (by decide) ?_
                          exact ih_29 (j9 + 1) u2 d2 (jI u2) (jI d2) S2 H locs ls (by omega) (by omega) (by first | exact hab | (have h9 := hd1 (by omega); omega)) hP hD hS (lv_sub hl [0, 1, 2, 4, 5, 6] rfl)
                      · have c_8 : ((e9 : Nat) : Int) < ((eO (kd f).toInt (nN (mn f)) : Nat) : Int) := zc_nle (nI_toInt (by omega)) (nI_toInt (by omega)) c_8
                        have hi9 : e9 < nN (mn f) := (by omega)
                        have hnx := nxt_lt (n := nN (mn f)) (i := e9) (by omega)
                        refine lv_aload_n hx hb dX11_far_89 rfl (lv_at hl 4 rfl) ?_
                        refine lv_iload_n hx hb dX11_far_90 rfl (lv_at hl 5 rfl) ?_
                        refine lv_iload hx hb dX11_far_91 (lv_at hl 0 rfl) ?_
                        refine lv_iconst (v := 0) hx hb dX11_far_93 (by decide) ?_
                        have hPc := hP.sub (ws' := [(om k0 a I0 (vp_updL (vp_updL J0 48 (jI u2)) 49 (jI d2))), (oa (a 11) cI 201 mn), (oa (a 12) cI 8040 cx), (oa (a 13) cI 8040 cy), (oa (a 32) cI 8 S2)]) [0, 4, 5, 6, 7] rfl
                        have hDc := hD.sub (ws' := [(om k0 a I0 (vp_updL (vp_updL J0 48 (jI u2)) 49 (jI d2))), (oa (a 11) cI 201 mn), (oa (a 12) cI 8040 cx), (oa (a 13) cI 8040 cy), (oa (a 32) cI 8 S2)]) [0, 4, 5, 6, 7] (by decide) rfl
                        have hFc := va_free (wc := [(om k0 a I0 (vp_updL (vp_updL J0 48 (jI u2)) 49 (jI d2))), (oa (a 11) cI 201 mn), (oa (a 12) cI 8040 cx), (oa (a 13) cI 8040 cy), (oa (a 32) cI 8 S2)]) hD hS hA [0, 4, 5, 6, 7] rfl
                        refine zcall (st1 := []) (va_runV (As := [.int (nI f), .int (nI e9), .int 0]) (rest := []) ⟨hx, hb, hml, hown, hts⟩ (k_M_edge l dC dI cI cZ cF H.size k0 a I0 (vp_updL (vp_updL J0 48 (jI u2)) 49 (jI d2)) f (nN (mn f)) e9 0 mn cx cy S2 (by omega) (hm_ff) (hn_ff) (by omega) (by omega)) (cwV 3 hts (zz_gV mw_1373 mw_1375 mw_42 mw_110 mc_yX11_edge) rfl rfl rfl (by decide +kernel) ⟨Nat.le_of_ble_eq_true rfl, Nat.le_of_ble_eq_true rfl⟩) (zPV2 (q0 := 0) (ci := 9) hPc hDc hK hXN rfl rfl) rfl rfl hl.1 rfl (lv_room (Nat.le_of_ble_eq_true rfl)) dX11_far_94 ⟨Nat.le_of_ble_eq_true rfl, Nat.le_of_ble_eq_true rfl⟩) hS hFc hFc rfl (fun t H1 locs ht hB hk1 hS => ?_)
                        obtain ⟨S3, t0, t1, t2, t3, tr, hP1, hD1⟩ := hB
                        rw [ht] at hP1
                        obtain ⟨hP, hD⟩ := va_join (wr := [(oa (a 5) cI 201 st), (oa (a 6) cZ 201 tn), (oa (a 1) cI 201 kd), (oa (a 22) cI (64 * cl) la), (oa (a 23) cI (64 * cl) lb), (oa (a 24) cI (64 * cl) lc), (oa (a 25) cI (64 * cl) ld)]) (w1 := [(om k0 a I0 (vp_updL (vp_updL J0 48 (jI u2)) 49 (jI d2))), (oa (a 11) cI 201 mn), (oa (a 12) cI 8040 cx), (oa (a 13) cI 8040 cy), (oa (a 32) cI 8 S3)]) hP hD [0, 4, 5, 6, 7] [1, 2, 3, 8, 9, 10, 11] rfl rfl (by decide) (by decide) hk1 hFc hP1 hD1
                        clear hk1 hPc hDc hFc hP1 hD1 ht
                        generalize H1 = H at hP hS ⊢
                        have hP := hP.sub (ws' := [(om k0 a I0 (vp_updL (vp_updL J0 48 (jI u2)) 49 (jI d2))), (oa (a 5) cI 201 st), (oa (a 6) cZ 201 tn), (oa (a 1) cI 201 kd), (oa (a 11) cI 201 mn), (oa (a 12) cI 8040 cx), (oa (a 13) cI 8040 cy), (oa (a 32) cI 8 S3), (oa (a 22) cI (64 * cl) la), (oa (a 23) cI (64 * cl) lb), (oa (a 24) cI (64 * cl) lc), (oa (a 25) cI (64 * cl) ld)]) [7, 0, 1, 2, 8, 9, 10, 11, 3, 4, 5, 6] rfl
                        have hD := hD.sub (ws' := [(om k0 a I0 (vp_updL (vp_updL J0 48 (jI u2)) 49 (jI d2))), (oa (a 5) cI 201 st), (oa (a 6) cZ 201 tn), (oa (a 1) cI 201 kd), (oa (a 11) cI 201 mn), (oa (a 12) cI 8040 cx), (oa (a 13) cI 8040 cy), (oa (a 32) cI 8 S3), (oa (a 22) cI (64 * cl) la), (oa (a 23) cI (64 * cl) lb), (oa (a 24) cI (64 * cl) lc), (oa (a 25) cI (64 * cl) ld)]) [7, 0, 1, 2, 8, 9, 10, 11, 3, 4, 5, 6] (by decide) rfl
                        have hP : va_P (dC, dI) classes [(om k0 a I0 (vp_updL (vp_updL J0 48 (jI u2)) 49 (jI d2))), (oa (a 5) cI 201 st), (oa (a 6) cZ 201 tn), (oa (a 1) cI 201 kd), (oa (a 11) cI 201 mn), (oa (a 12) cI 8040 cx), (oa (a 13) cI 8040 cy), (oa (a 32) cI 8 S3), (oa (a 22) cI (64 * cl) la), (oa (a 23) cI (64 * cl) lb), (oa (a 24) cI (64 * cl) lc), (oa (a 25) cI (64 * cl) ld)] H := hP
                        have hD : va_D A [(om k0 a I0 (vp_updL (vp_updL J0 48 (jI u2)) 49 (jI d2))), (oa (a 5) cI 201 st), (oa (a 6) cZ 201 tn), (oa (a 1) cI 201 kd), (oa (a 11) cI 201 mn), (oa (a 12) cI 8040 cx), (oa (a 13) cI 8040 cy), (oa (a 32) cI 8 S3), (oa (a 22) cI (64 * cl) la), (oa (a 23) cI (64 * cl) lb), (oa (a 24) cI (64 * cl) lc), (oa (a 25) cI (64 * cl) ld)] := hD
                        have v0 : S3 0 = cF40 cx f e9 := t0
                        have v1 : S3 1 = cF40 cy f e9 := t1
                        have v2 : S3 2 = cF40 cx f (nxt (nN (mn f)) e9) := t2
                        have v3 : S3 3 = cF40 cy f (nxt (nN (mn f)) e9) := t3
                        have hs3 : ∀ k, 0 ≤ k → k < 0 + 4 → pl (S3 k) := fun k _ hk => (by rcases (show k = 0 ∨ k = 1 ∨ k = 2 ∨ k = 3 by omega) with h | h | h | h <;> rw [h]; (rw [v0]; exact (hp_ff e9 hi9).1); (rw [v1]; exact (hp_ff e9 hi9).2); (rw [v2]; exact (hp_ff _ hnx).1); (rw [v3]; exact (hp_ff _ hnx).2))
                        refine lv_aload_n hx hb dX11_far_97 rfl (lv_at hl 4 rfl) ?_
                        refine lv_aload_n hx hb dX11_far_98 rfl (lv_at hl 4 rfl) ?_
                        refine va_get (D := (dC, dI)) (ci := 9) (v := .ref (a 32)) (C := RX11) (T := TX11) (N := 55) hx hb hts inX11 hown hK hP 0 rfl rfl 32 (by decide) (hts _ mw_1191) (fun _ h9 => h9) rfl dX11_far_99 ?_
                        refine lv_aload_n hx hb dX11_far_102 rfl (lv_at hl 4 rfl) ?_
                        refine va_get (D := (dC, dI)) (ci := 9) (v := .ref (a 23)) (C := RX11) (T := TX11) (N := 55) hx hb hts inX11 hown hK hP 0 rfl rfl 23 (by decide) (hts _ mw_1182) (fun _ h9 => h9) rfl dX11_far_103 ?_
                        refine lv_iload hx hb dX11_far_106 (lv_at hl 1 rfl) ?_
                        refine z_iald hx hb hK hP 9 0 rfl rfl (e := j9) rfl (by omega) (by omega) dX11_far_108 ?_
                        refine lv_aload_n hx hb dX11_far_109 rfl (lv_at hl 4 rfl) ?_
                        refine va_get (D := (dC, dI)) (ci := 9) (v := .ref (a 24)) (C := RX11) (T := TX11) (N := 55) hx hb hts inX11 hown hK hP 0 rfl rfl 24 (by decide) (hts _ mw_1183) (fun _ h9 => h9) rfl dX11_far_110 ?_
                        refine lv_iload hx hb dX11_far_113 (lv_at hl 1 rfl) ?_
                        refine z_iald hx hb hK hP 10 0 rfl rfl (e := j9) rfl (by omega) (by omega) dX11_far_115 ?_
                        refine lv_iconst (v := 0) hx hb dX11_far_116 (by decide) ?_
                        have hPc := hP.sub (ws' := [(om k0 a I0 (vp_updL (vp_updL J0 48 (jI u2)) 49 (jI d2))), (oa (a 32) cI 8 S3)]) [0, 7] rfl
                        have hDc := hD.sub (ws' := [(om k0 a I0 (vp_updL (vp_updL J0 48 (jI u2)) 49 (jI d2))), (oa (a 32) cI 8 S3)]) [0, 7] (by decide) rfl
                        have hFc := va_free (wc := [(om k0 a I0 (vp_updL (vp_updL J0 48 (jI u2)) 49 (jI d2))), (oa (a 32) cI 8 S3)]) hD hS hA [0, 7] rfl
                        refine zcall (st1 := []) (va_runV (As := [.ref (a 32), .int (lb j9), .int (lc j9), .int 0]) (rest := []) ⟨hx, hb, hml, hown, hts⟩ (k_M_nearer_q l dC dI cI cZ cF H.size k0 a I0 (vp_updL (vp_updL J0 48 (jI u2)) 49 (jI d2)) 0 (lb j9) (lc j9) u2 d2 S3 (by omega) (hs3) ((hpl j9 (by omega)).1) ((hpl j9 (by omega)).2) (hud2.1) (hud2.2)) (cwV 4 hts (zz_gV mw_1592 mw_1594 mw_85 mw_110 mc_yX11_nearer) rfl rfl rfl (by decide +kernel) ⟨Nat.le_of_ble_eq_true rfl, Nat.le_of_ble_eq_true rfl⟩) (zPV2 (q0 := 0) (ci := 9) hPc hDc hK hXN rfl rfl) rfl rfl hl.1 rfl (lv_room (Nat.le_of_ble_eq_true rfl)) dX11_far_117 ⟨Nat.le_of_ble_eq_true rfl, Nat.le_of_ble_eq_true rfl⟩) hS hFc hFc rfl (fun t H1 locs ht hB hk1 hS => ?_)
                        obtain ⟨zu1, zd1, hnd1, hP1, hD1⟩ := hB
                        rw [ht] at hP1
                        obtain ⟨hP, hD⟩ := va_join (wr := [(oa (a 5) cI 201 st), (oa (a 6) cZ 201 tn), (oa (a 1) cI 201 kd), (oa (a 11) cI 201 mn), (oa (a 12) cI 8040 cx), (oa (a 13) cI 8040 cy), (oa (a 22) cI (64 * cl) la), (oa (a 23) cI (64 * cl) lb), (oa (a 24) cI (64 * cl) lc), (oa (a 25) cI (64 * cl) ld)]) (w1 := [(om k0 a I0 (vp_updL (vp_updL J0 48 (jI zu1)) 49 (jI zd1))), (oa (a 32) cI 8 S3)]) hP hD [0, 7] [1, 2, 3, 4, 5, 6, 8, 9, 10, 11] rfl rfl (by decide) (by decide) hk1 hFc hP1 hD1
                        clear hk1 hPc hDc hFc hP1 hD1 ht
                        generalize H1 = H at hP hS ⊢
                        have hP := hP.sub (ws' := [(om k0 a I0 (vp_updL (vp_updL J0 48 (jI zu1)) 49 (jI zd1))), (oa (a 5) cI 201 st), (oa (a 6) cZ 201 tn), (oa (a 1) cI 201 kd), (oa (a 11) cI 201 mn), (oa (a 12) cI 8040 cx), (oa (a 13) cI 8040 cy), (oa (a 32) cI 8 S3), (oa (a 22) cI (64 * cl) la), (oa (a 23) cI (64 * cl) lb), (oa (a 24) cI (64 * cl) lc), (oa (a 25) cI (64 * cl) ld)]) [10, 0, 1, 2, 3, 4, 5, 11, 6, 7, 8, 9] rfl
                        have hD := hD.sub (ws' := [(om k0 a I0 (vp_updL (vp_updL J0 48 (jI zu1)) 49 (jI zd1))), (oa (a 5) cI 201 st), (oa (a 6) cZ 201 tn), (oa (a 1) cI 201 kd), (oa (a 11) cI 201 mn), (oa (a 12) cI 8040 cx), (oa (a 13) cI 8040 cy), (oa (a 32) cI 8 S3), (oa (a 22) cI (64 * cl) la), (oa (a 23) cI (64 * cl) lb), (oa (a 24) cI (64 * cl) lc), (oa (a 25) cI (64 * cl) ld)]) [10, 0, 1, 2, 3, 4, 5, 11, 6, 7, 8, 9] (by decide) rfl
                        have hP : va_P (dC, dI) classes [(om k0 a I0 (vp_updL (vp_updL J0 48 (jI zu1)) 49 (jI zd1))), (oa (a 5) cI 201 st), (oa (a 6) cZ 201 tn), (oa (a 1) cI 201 kd), (oa (a 11) cI 201 mn), (oa (a 12) cI 8040 cx), (oa (a 13) cI 8040 cy), (oa (a 32) cI 8 S3), (oa (a 22) cI (64 * cl) la), (oa (a 23) cI (64 * cl) lb), (oa (a 24) cI (64 * cl) lc), (oa (a 25) cI (64 * cl) ld)] H := hP
                        have hD : va_D A [(om k0 a I0 (vp_updL (vp_updL J0 48 (jI zu1)) 49 (jI zd1))), (oa (a 5) cI 201 st), (oa (a 6) cZ 201 tn), (oa (a 1) cI 201 kd), (oa (a 11) cI 201 mn), (oa (a 12) cI 8040 cx), (oa (a 13) cI 8040 cy), (oa (a 32) cI 8 S3), (oa (a 22) cI (64 * cl) la), (oa (a 23) cI (64 * cl) lb), (oa (a 24) cI (64 * cl) lc), (oa (a 25) cI (64 * cl) ld)] := hD
                        have hx1 : ndP u2 d2 (nrU (S3 0).toInt (S3 1).toInt (S3 2).toInt (S3 3).toInt (lb j9).toInt (lc j9).toInt) (nrD (S3 0).toInt (S3 1).toInt (S3 2).toInt (S3 3).toInt (lb j9).toInt (lc j9).toInt) zu1 zd1 := hnd1
                        have hUb9 := nrU_b (hs3 0 (by omega) (by omega)) (hs3 1 (by omega) (by omega)) (hs3 2 (by omega) (by omega)) (hs3 3 (by omega) (by omega)) (hpl j9 (by omega)).1 (hpl j9 (by omega)).2
                        have hb1 := ndP_b hud2.1 hud2.2 hUb9 hx1
                        have hz1 : 1 ≤ zd1 := (by unfold ndP at hx1; rcases hx1 with h9 | h9 <;> omega)
                        refine lv_iinc (v := nI (e9 + 1)) (lv' := [(8, .int (nI (e9 + 1))), (7, .int (nI j9)), (5, .long (jI ub)), (3, .long (jI ua)), (0, .ref k0), (1, .int (nI f)), (2, .int w)]) hx hb dX11_far_120 hl (k := 0) rfl (nI_add e9 1) (by decide) rfl (fun ls hl => ?_)
                        refine lv_goto (tgt := 79) hx hb dX11_far_123 (by decide) ?_
                        exact ih_79 (e9 + 1) zu1 zd1 S3 H locs ls (by omega) (by omega) (hb1) (fun _ => hz1) hP hD hS (lv_sub hl [0, 1, 2, 3, 4, 5, 6] rfl)
                  exact hl_79 _ 0 0 0 S1 H locs ls (Nat.lt_succ_self _) (by omega) (by omega) (by omega) hP hD hS (lv_sub hl [0, 1, 2, 3, 4, 5, 6] rfl)
                · have c_7 : (I0 19).toInt < (ld j9).toInt := zc_nle rfl rfl c_7
                  refine lv_goto (tgt := 155) hx hb dX11_far_63 (by decide) ?_
                  refine lv_iinc (v := nI (j9 + 1)) (lv' := [(7, .int (nI (j9 + 1))), (5, .long (jI ub)), (3, .long (jI ua)), (0, .ref k0), (1, .int (nI f)), (2, .int w)]) hx hb dX11_far_155 hl (k := 0) rfl (nI_add j9 1) (by decide) rfl (fun ls hl => ?_)
                  refine lv_goto (tgt := 29) hx hb dX11_far_158 (by decide) ?_
                  exact ih_29 (j9 + 1) ua ub u9 d9 S1 H locs ls (by omega) (by omega) (by first | exact hab | (have h9 := hd1 (by omega); omega)) hP hD hS (lv_sub hl [0, 1, 2, 3, 4, 5] rfl)
        exact hl_29 _ 0 0 1 (J0 48) (J0 49) S0 H locs ls (Nat.lt_succ_self _) (by omega) (by omega) hP hD hS (lv_sub hl [0, 1, 2, 3, 4, 5] rfl)
      · have c_3 : 1 < w.toInt := zc_nle rfl (by decide) c_3
        exfalso; omega
