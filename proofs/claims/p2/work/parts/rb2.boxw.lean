set_option maxHeartbeats 4000000 in
set_option maxRecDepth 100000 in
theorem k_M_box_w (l : Launch) (dC : Nat → ClassId) (dI : Nat → Nat → Nat) (cI cZ cF : ClassId) (sz : Nat) (k0 : Nat) (a : Nat → Nat) (I0 : Nat → Int32) (J0 : Nat → Int64) (f : Nat) (n : Nat) (y1 : Int32) (y2 : Int32) (y3 : Int32) (y4 : Int32) (mn : Nat → Int32) (cx : Nat → Int32) (cy : Nat → Int32) (hf_f : f ≤ 200) (hm_f : mn f = nI n) (hn_f : 1 ≤ n ∧ n ≤ 40) (hp_f : pls n (cF40 cx f) (cF40 cy f)) : Met l yX11_box (.code yX11_box cX11_box 7 none :: ws0) ({ frames := 1, cells := 0, slots := 0, locals := 14 } : Room) (va_Pc [.ref k0, .int (nI f), .int 0] (zPre (dC, dI) classes (zTy cI cZ cF) [(om k0 a (upd (upd (upd (upd I0 44 y1) 45 y2) 46 y3) 47 y4) J0), (oa (a 11) cI 201 mn), (oa (a 12) cI 8040 cx), (oa (a 13) cI 8040 cy)] sz zXN)) (zQ none (fun t => ∃ (x1 : Int32), ∃ (x2 : Int32), ∃ (x3 : Int32), ∃ (x4 : Int32), (x1.toInt = mnI y1.toInt (cF40 cx f) n) ∧ (x2.toInt = mnI y2.toInt (cF40 cy f) n) ∧ (x3.toInt = mxI y3.toInt (cF40 cx f) n) ∧ (x4.toInt = mxI y4.toInt (cF40 cy f) n) ∧ va_P (dC, dI) classes [(om k0 a (upd (upd (upd (upd I0 44 x1) 45 x2) 46 x3) 47 x4) J0), (oa (a 11) cI 201 mn), (oa (a 12) cI 8040 cx), (oa (a 13) cI 8040 cy)] t.heap ∧ va_D (va_A [(om k0 a (upd (upd (upd (upd I0 44 y1) 45 y2) 46 y3) 47 y4) J0), (oa (a 11) cI 201 mn), (oa (a 12) cI 8040 cx), (oa (a 13) cI 8040 cy)] sz) [(om k0 a (upd (upd (upd (upd I0 44 x1) 45 x2) 46 x3) 47 x4) J0), (oa (a 11) cI 201 mn), (oa (a 12) cI 8040 cx), (oa (a 13) cI 8040 cy)]) (va_A [(om k0 a (upd (upd (upd (upd I0 44 y1) 45 y2) 46 y3) 47 y4) J0), (oa (a 11) cI 201 mn), (oa (a 12) cI 8040 cx), (oa (a 13) cI 8040 cy)] sz)) 0 0 (va_A [(om k0 a (upd (upd (upd (upd I0 44 y1) 45 y2) 46 y3) 47 y4) J0), (oa (a 11) cI 201 mn), (oa (a 12) cI 8040 cx), (oa (a 13) cI 8040 cy)] sz) := by
  refine Met.ofW (cc := cX11_box) (maxL := 7) (ret := none) (by decide) rfl ?_
  intro p e s m args below meth c s₁ B hml hv
  obtain ⟨rfl, hsz, hP, hK, hD0, hXN⟩ := hv
  have hx := B.exec
  have hb := B.bytes
  have hr := B.returns
  have hts0 := atoms_spec (ws := .code yX11_box cX11_box 7 none :: ws0) B.pre
  have hts : ∀ w9 ∈ ws0, w9.before ([.ref k0, .int (nI f), .int 0] : List Value).toArray s = true := fun w9 h => hts0 w9 (List.mem_cons_of_mem _ h)
  have hown : s.vm.findClass "ScaleShopModel" = some m.cls := findClass_of_methodNamed B.named
  have hlocks := B.notSynchronized
  subst hsz
  have hD := hD0.self (sz := s.heap.size)
  clear hD0
  generalize hAe : va_A [(om k0 a (upd (upd (upd (upd I0 44 y1) 45 y2) 46 y3) 47 y4) J0), (oa (a 11) cI 201 mn), (oa (a 12) cI 8040 cx), (oa (a 13) cI 8040 cy)] s.heap.size = A at hD ⊢
  have hA : ∀ q : Nat, s.heap.size ≤ q → A q := fun q h => by rw [← hAe]; exact Or.inr h
  clear hAe
  have hS : va_S A s.heap s.heap [] := va_S.rf
  have hP : va_P (dC, dI) classes [(om k0 a (upd (upd (upd (upd I0 44 y1) 45 y2) 46 y3) 47 y4) J0), (oa (a 11) cI 201 mn), (oa (a 12) cI 8040 cx), (oa (a 13) cI 8040 cy)] s.heap := hP
  obtain ⟨Q9, hQ9⟩ : ∃ Q9 : State → Prop, Q9 = MQ below (zQ none (fun t => ∃ (x1 : Int32), ∃ (x2 : Int32), ∃ (x3 : Int32), ∃ (x4 : Int32), (x1.toInt = mnI y1.toInt (cF40 cx f) n) ∧ (x2.toInt = mnI y2.toInt (cF40 cy f) n) ∧ (x3.toInt = mxI y3.toInt (cF40 cx f) n) ∧ (x4.toInt = mxI y4.toInt (cF40 cy f) n) ∧ va_P (dC, dI) classes [(om k0 a (upd (upd (upd (upd I0 44 x1) 45 x2) 46 x3) 47 x4) J0), (oa (a 11) cI 201 mn), (oa (a 12) cI 8040 cx), (oa (a 13) cI 8040 cy)] t.heap ∧ va_D A [(om k0 a (upd (upd (upd (upd I0 44 x1) 45 x2) 46 x3) 47 x4) J0), (oa (a 11) cI 201 mn), (oa (a 12) cI 8040 cx), (oa (a 13) cI 8040 cy)]) A) ([.ref k0, .int (nI f), .int 0] : List Value).toArray s 0 0 A := ⟨_, rfl⟩
  rw [← hQ9]
  have hl := lv_entry ([.ref k0, .int (nI f), .int 0]) (n := 7) (Nat.le_of_ble_eq_true rfl)
  rw [lg_entry_eq]
  generalize (lg_sl ([.ref k0, .int (nI f), .int 0]) ++ List.replicate (7 - (lg_sl ([.ref k0, .int (nI f), .int 0])).length) Slot.unset).toArray = ls at hl ⊢
  have hl : lv_has ls 7 [(0, .ref k0), (1, .int (nI f)), (2, .int 0)] := hl
  refine lv_iconst (v := 0) hx hb dX11_box_0 (by decide) ?_
  refine lv_istore_n (lv' := [(3, .int 0), (0, .ref k0), (1, .int (nI f)), (2, .int 0)]) hx hb dX11_box_1 rfl hl (by decide) rfl (fun ls hl => ?_)
  have hl_2 : ∀ (n9 : Nat) (k : Nat) (x1 : Int32) (x2 : Int32) (x3 : Int32) (x4 : Int32) (H : Heap) (locs : List Loc) (ls : Array Slot), n - k < n9 → (k ≤ n) → (x1.toInt = mnI y1.toInt (cF40 cx f) k ∧ x2.toInt = mnI y2.toInt (cF40 cy f) k ∧ x3.toInt = mxI y3.toInt (cF40 cx f) k ∧ x4.toInt = mxI y4.toInt (cF40 cy f) k) → va_P (dC, dI) classes [(om k0 a (upd (upd (upd (upd I0 44 x1) 45 x2) 46 x3) 47 x4) J0), (oa (a 11) cI 201 mn), (oa (a 12) cI 8040 cx), (oa (a 13) cI 8040 cy)] H → va_D A [(om k0 a (upd (upd (upd (upd I0 44 x1) 45 x2) 46 x3) 47 x4) J0), (oa (a 11) cI 201 mn), (oa (a 12) cI 8040 cx), (oa (a 13) cI 8040 cy)] → va_S A s.heap H locs → lv_has ls 7 [(3, .int (nI k)), (0, .ref k0), (1, .int (nI f)), (2, .int 0)] → W p l e ((headSpec (.code yX11_box cX11_box 7 none :: ws0) ({ frames := 1, cells := 0, slots := 0, locals := 14 } : Room)).room) s m ([.ref k0, .int (nI f), .int 0] : List Value).toArray below meth c H locs 0 0 Q9 (F0 m 2 ls []) := by
    intro n9
    induction n9 with
    | zero => intro k x1 x2 x3 x4 H locs ls hm; exact absurd hm (Nat.not_lt_zero _)
    | succ n9 ih_2 =>
      intro k x1 x2 x3 x4 H locs ls hm hk hz hP hD hS hl
      refine lv_iload_n hx hb dX11_box_2 rfl (lv_at hl 0 rfl) ?_
      refine lv_aload_n hx hb dX11_box_3 rfl (lv_at hl 1 rfl) ?_
      refine va_get (D := (dC, dI)) (ci := 9) (v := .ref (a 11)) (C := RX11) (T := TX11) (N := 55) hx hb hts inX11 hown hK hP 0 rfl rfl 11 (by decide) (hts _ mw_1170) (fun _ h9 => h9) rfl dX11_box_4 ?_
      refine lv_iload_n hx hb dX11_box_7 rfl (lv_at hl 2 rfl) ?_
      refine z_iald hx hb hK hP 1 0 rfl rfl (e := f) rfl (by omega) (by omega) dX11_box_8 ?_
      refine zz_i (v := nI n) (hm_f) ?_
      refine lv_icmp_ge (tgt := 151) hx hb dX11_box_9 (by decide) (fun c_1 => ?_) (fun c_1 => ?_)
      · have c_1 : ((n : Nat) : Int) ≤ ((k : Nat) : Int) := zc_le (nI_toInt (by omega)) (nI_toInt (by omega)) c_1
        have hkn : k = n := (by omega)
        rw [hkn] at hz
        have hP9 := hP.sub (ws' := [(om k0 a (upd (upd (upd (upd I0 44 x1) 45 x2) 46 x3) 47 x4) J0), (oa (a 11) cI 201 mn), (oa (a 12) cI 8040 cx), (oa (a 13) cI 8040 cy)]) [0, 1, 2, 3] rfl
        have hD9 := hD.sub (ws' := [(om k0 a (upd (upd (upd (upd I0 44 x1) 45 x2) 46 x3) 47 x4) J0), (oa (a 11) cI 201 mn), (oa (a 12) cI 8040 cx), (oa (a 13) cI 8040 cy)]) [0, 1, 2, 3] (by decide) rfl
        rw [hQ9]
        exact W.vret hx hb hr (fun t ht hW => ⟨⟨rfl, x1, x2, x3, x4, (hz.1), (hz.2.1), (hz.2.2.1), (hz.2.2.2), by rw [ht]; exact hP9, hD9⟩, hS.F ht⟩) hS.2.2 dX11_box_151
      · have c_1 : ((k : Nat) : Int) < ((n : Nat) : Int) := zc_nle (nI_toInt (by omega)) (nI_toInt (by omega)) c_1
        have hk9 : k < n := (by omega)
        refine lv_aload_n hx hb dX11_box_12 rfl (lv_at hl 1 rfl) ?_
        refine va_get (D := (dC, dI)) (ci := 9) (v := .ref (a 12)) (C := RX11) (T := TX11) (N := 55) hx hb hts inX11 hown hK hP 0 rfl rfl 12 (by decide) (hts _ mw_1171) (fun _ h9 => h9) rfl dX11_box_13 ?_
        refine lv_bipush (v := 40) hx hb dX11_box_16 (by decide) ?_
        refine lv_iload_n hx hb dX11_box_18 rfl (lv_at hl 2 rfl) ?_
        refine lv_imul hx hb dX11_box_19 ?_
        refine zz_i (v := nI (40 * f)) (pk_mul 40 f) ?_
        refine lv_iload_n hx hb dX11_box_20 rfl (lv_at hl 0 rfl) ?_
        refine lv_iadd hx hb dX11_box_21 ?_
        refine zz_i (v := nI (40 * f + k)) (nI_add (40 * f) k) ?_
        refine z_iald hx hb hK hP 2 0 rfl rfl (e := 40 * f + k) rfl (by omega) (by omega) dX11_box_22 ?_
        refine zz_i (v := cF40 cx f k) (rfl) ?_
        refine lv_istore (lv' := [(4, .int (cF40 cx f k)), (3, .int (nI k)), (0, .ref k0), (1, .int (nI f)), (2, .int 0)]) hx hb dX11_box_23 hl (by decide) rfl (fun ls hl => ?_)
        refine lv_aload_n hx hb dX11_box_25 rfl (lv_at hl 2 rfl) ?_
        refine va_get (D := (dC, dI)) (ci := 9) (v := .ref (a 13)) (C := RX11) (T := TX11) (N := 55) hx hb hts inX11 hown hK hP 0 rfl rfl 13 (by decide) (hts _ mw_1172) (fun _ h9 => h9) rfl dX11_box_26 ?_
        refine lv_bipush (v := 40) hx hb dX11_box_29 (by decide) ?_
        refine lv_iload_n hx hb dX11_box_31 rfl (lv_at hl 3 rfl) ?_
        refine lv_imul hx hb dX11_box_32 ?_
        refine zz_i (v := nI (40 * f)) (pk_mul 40 f) ?_
        refine lv_iload_n hx hb dX11_box_33 rfl (lv_at hl 1 rfl) ?_
        refine lv_iadd hx hb dX11_box_34 ?_
        refine zz_i (v := nI (40 * f + k)) (nI_add (40 * f) k) ?_
        refine z_iald hx hb hK hP 3 0 rfl rfl (e := 40 * f + k) rfl (by omega) (by omega) dX11_box_35 ?_
        refine zz_i (v := cF40 cy f k) (rfl) ?_
        refine lv_istore (lv' := [(5, .int (cF40 cy f k)), (4, .int (cF40 cx f k)), (3, .int (nI k)), (0, .ref k0), (1, .int (nI f)), (2, .int 0)]) hx hb dX11_box_36 hl (by decide) rfl (fun ls hl => ?_)
        refine lv_iload_n hx hb dX11_box_38 rfl (lv_at hl 5 rfl) ?_
        refine lv_if_eq (tgt := 50) hx hb dX11_box_39 (by decide) (fun c_2 => ?_) (fun c_2 => ?_)
        · refine lv_iconst (v := 0) hx hb dX11_box_50 (by decide) ?_
          refine lv_istore (lv' := [(6, .int 0), (5, .int (cF40 cy f k)), (4, .int (cF40 cx f k)), (3, .int (nI k)), (0, .ref k0), (1, .int (nI f)), (2, .int 0)]) hx hb dX11_box_51 hl (by decide) rfl (fun ls hl => ?_)
          refine lv_aload_n hx hb dX11_box_53 rfl (lv_at hl 4 rfl) ?_
          refine lv_iload hx hb dX11_box_54 (lv_at hl 0 rfl) ?_
          refine lv_if_eq (tgt := 64) hx hb dX11_box_56 (by decide) (fun c_3 => ?_) (fun c_3 => ?_)
          · refine lv_aload_n hx hb dX11_box_64 rfl (lv_at hl 4 rfl) ?_
            refine va_get (D := (dC, dI)) (ci := 9) (v := .int x1) (C := RX11) (T := TX11) (N := 55) hx hb hts inX11 hown hK hP 0 rfl rfl 44 (by decide) (hts _ mw_1203) (fun _ h9 => h9) rfl dX11_box_65 ?_
            refine lv_iload hx hb dX11_box_68 (lv_at hl 2 rfl) ?_
            refine va_mmin hx hb (by rw [hml]; exact hl.1.symm) hown (hts _ mw_1397) (hts _ mw_858) (hts _ mw_103) (hts _ mw_mincode) (Nat.le_of_ble_eq_true rfl) (Nat.le_of_ble_eq_true rfl) (Nat.le_of_ble_eq_true rfl) (Nat.le_of_ble_eq_true rfl) dX11_box_70 ?_
            refine lv_topi (fun v_4 ev_4 => ?_)
            have hv_4 : v_4.toInt = min x1.toInt (cF40 cx f k).toInt := zmin rfl rfl ev_4
            refine va_put (D := (dC, dI)) (ci := 9) (v := .int v_4) (ty := .int) (C := RX11) (T := TX11) (N := 55) hx hb hts inX11 tyX11 tyX11_ok nmX11 hown hK hP hD hS 0 rfl rfl 44 (by decide) (hts _ mw_1203) (fun _ h9 => h9) rfl (by decide +kernel) rfl rfl (Nat.le_of_ble_eq_true rfl) dX11_box_73 (fun H locs hP hD hS => ?_)
            have hP : va_P (dC, dI) classes [(om k0 a (upd (upd (upd (upd I0 44 v_4) 45 x2) 46 x3) 47 x4) J0), (oa (a 11) cI 201 mn), (oa (a 12) cI 8040 cx), (oa (a 13) cI 8040 cy)] H := hP
            have hD : va_D A [(om k0 a (upd (upd (upd (upd I0 44 v_4) 45 x2) 46 x3) 47 x4) J0), (oa (a 11) cI 201 mn), (oa (a 12) cI 8040 cx), (oa (a 13) cI 8040 cy)] := hD
            refine lv_aload_n hx hb dX11_box_76 rfl (lv_at hl 4 rfl) ?_
            refine lv_iload hx hb dX11_box_77 (lv_at hl 0 rfl) ?_
            refine lv_if_eq (tgt := 87) hx hb dX11_box_79 (by decide) (fun c_5 => ?_) (fun c_5 => ?_)
            · refine lv_aload_n hx hb dX11_box_87 rfl (lv_at hl 4 rfl) ?_
              refine va_get (D := (dC, dI)) (ci := 9) (v := .int x2) (C := RX11) (T := TX11) (N := 55) hx hb hts inX11 hown hK hP 0 rfl rfl 45 (by decide) (hts _ mw_1204) (fun _ h9 => h9) rfl dX11_box_88 ?_
              refine lv_iload hx hb dX11_box_91 (lv_at hl 1 rfl) ?_
              refine va_mmin hx hb (by rw [hml]; exact hl.1.symm) hown (hts _ mw_1397) (hts _ mw_858) (hts _ mw_103) (hts _ mw_mincode) (Nat.le_of_ble_eq_true rfl) (Nat.le_of_ble_eq_true rfl) (Nat.le_of_ble_eq_true rfl) (Nat.le_of_ble_eq_true rfl) dX11_box_93 ?_
              refine lv_topi (fun v_6 ev_6 => ?_)
              have hv_6 : v_6.toInt = min x2.toInt (cF40 cy f k).toInt := zmin rfl rfl ev_6
              refine va_put (D := (dC, dI)) (ci := 9) (v := .int v_6) (ty := .int) (C := RX11) (T := TX11) (N := 55) hx hb hts inX11 tyX11 tyX11_ok nmX11 hown hK hP hD hS 0 rfl rfl 45 (by decide) (hts _ mw_1204) (fun _ h9 => h9) rfl (by decide +kernel) rfl rfl (Nat.le_of_ble_eq_true rfl) dX11_box_96 (fun H locs hP hD hS => ?_)
              have hP : va_P (dC, dI) classes [(om k0 a (upd (upd (upd (upd I0 44 v_4) 45 v_6) 46 x3) 47 x4) J0), (oa (a 11) cI 201 mn), (oa (a 12) cI 8040 cx), (oa (a 13) cI 8040 cy)] H := hP
              have hD : va_D A [(om k0 a (upd (upd (upd (upd I0 44 v_4) 45 v_6) 46 x3) 47 x4) J0), (oa (a 11) cI 201 mn), (oa (a 12) cI 8040 cx), (oa (a 13) cI 8040 cy)] := hD
              refine lv_aload_n hx hb dX11_box_99 rfl (lv_at hl 4 rfl) ?_
              refine lv_iload hx hb dX11_box_100 (lv_at hl 0 rfl) ?_
              refine lv_if_eq (tgt := 110) hx hb dX11_box_102 (by decide) (fun c_7 => ?_) (fun c_7 => ?_)
              · refine lv_aload_n hx hb dX11_box_110 rfl (lv_at hl 4 rfl) ?_
                refine va_get (D := (dC, dI)) (ci := 9) (v := .int x3) (C := RX11) (T := TX11) (N := 55) hx hb hts inX11 hown hK hP 0 rfl rfl 46 (by decide) (hts _ mw_1205) (fun _ h9 => h9) rfl dX11_box_111 ?_
                refine lv_iload hx hb dX11_box_114 (lv_at hl 2 rfl) ?_
                refine va_mmax hx hb (by rw [hml]; exact hl.1.symm) hown (hts _ mw_1398) (hts _ mw_159) (hts _ mw_103) (hts _ mw_maxcode) (Nat.le_of_ble_eq_true rfl) (Nat.le_of_ble_eq_true rfl) (Nat.le_of_ble_eq_true rfl) (Nat.le_of_ble_eq_true rfl) dX11_box_116 ?_
                refine lv_topi (fun v_8 ev_8 => ?_)
                have hv_8 : v_8.toInt = max x3.toInt (cF40 cx f k).toInt := zmax rfl rfl ev_8
                refine va_put (D := (dC, dI)) (ci := 9) (v := .int v_8) (ty := .int) (C := RX11) (T := TX11) (N := 55) hx hb hts inX11 tyX11 tyX11_ok nmX11 hown hK hP hD hS 0 rfl rfl 46 (by decide) (hts _ mw_1205) (fun _ h9 => h9) rfl (by decide +kernel) rfl rfl (Nat.le_of_ble_eq_true rfl) dX11_box_119 (fun H locs hP hD hS => ?_)
                have hP : va_P (dC, dI) classes [(om k0 a (upd (upd (upd (upd I0 44 v_4) 45 v_6) 46 v_8) 47 x4) J0), (oa (a 11) cI 201 mn), (oa (a 12) cI 8040 cx), (oa (a 13) cI 8040 cy)] H := hP
                have hD : va_D A [(om k0 a (upd (upd (upd (upd I0 44 v_4) 45 v_6) 46 v_8) 47 x4) J0), (oa (a 11) cI 201 mn), (oa (a 12) cI 8040 cx), (oa (a 13) cI 8040 cy)] := hD
                refine lv_aload_n hx hb dX11_box_122 rfl (lv_at hl 4 rfl) ?_
                refine lv_iload hx hb dX11_box_123 (lv_at hl 0 rfl) ?_
                refine lv_if_eq (tgt := 133) hx hb dX11_box_125 (by decide) (fun c_9 => ?_) (fun c_9 => ?_)
                · refine lv_aload_n hx hb dX11_box_133 rfl (lv_at hl 4 rfl) ?_
                  refine va_get (D := (dC, dI)) (ci := 9) (v := .int x4) (C := RX11) (T := TX11) (N := 55) hx hb hts inX11 hown hK hP 0 rfl rfl 47 (by decide) (hts _ mw_1206) (fun _ h9 => h9) rfl dX11_box_134 ?_
                  refine lv_iload hx hb dX11_box_137 (lv_at hl 1 rfl) ?_
                  refine va_mmax hx hb (by rw [hml]; exact hl.1.symm) hown (hts _ mw_1398) (hts _ mw_159) (hts _ mw_103) (hts _ mw_maxcode) (Nat.le_of_ble_eq_true rfl) (Nat.le_of_ble_eq_true rfl) (Nat.le_of_ble_eq_true rfl) (Nat.le_of_ble_eq_true rfl) dX11_box_139 ?_
                  refine lv_topi (fun v_10 ev_10 => ?_)
                  have hv_10 : v_10.toInt = max x4.toInt (cF40 cy f k).toInt := zmax rfl rfl ev_10
                  refine va_put (D := (dC, dI)) (ci := 9) (v := .int v_10) (ty := .int) (C := RX11) (T := TX11) (N := 55) hx hb hts inX11 tyX11 tyX11_ok nmX11 hown hK hP hD hS 0 rfl rfl 47 (by decide) (hts _ mw_1206) (fun _ h9 => h9) rfl (by decide +kernel) rfl rfl (Nat.le_of_ble_eq_true rfl) dX11_box_142 (fun H locs hP hD hS => ?_)
                  have hP : va_P (dC, dI) classes [(om k0 a (upd (upd (upd (upd I0 44 v_4) 45 v_6) 46 v_8) 47 v_10) J0), (oa (a 11) cI 201 mn), (oa (a 12) cI 8040 cx), (oa (a 13) cI 8040 cy)] H := hP
                  have hD : va_D A [(om k0 a (upd (upd (upd (upd I0 44 v_4) 45 v_6) 46 v_8) 47 v_10) J0), (oa (a 11) cI 201 mn), (oa (a 12) cI 8040 cx), (oa (a 13) cI 8040 cy)] := hD
                  refine lv_iinc (v := nI (k + 1)) (lv' := [(3, .int (nI (k + 1))), (6, .int 0), (5, .int (cF40 cy f k)), (4, .int (cF40 cx f k)), (0, .ref k0), (1, .int (nI f)), (2, .int 0)]) hx hb dX11_box_145 hl (k := 3) rfl (nI_add k 1) (by decide) rfl (fun ls hl => ?_)
                  refine lv_goto (tgt := 2) hx hb dX11_box_148 (by decide) ?_
                  exact ih_2 (k + 1) v_4 v_6 v_8 v_10 H locs ls (by omega) (by omega) (by rw [mnI_s, mnI_s, mxI_s, mxI_s]; omega) hP hD hS (lv_sub hl [0, 4, 5, 6] rfl)
                · exact absurd (by decide) c_9
              · exact absurd (by decide) c_7
            · exact absurd (by decide) c_5
          · exact absurd (by decide) c_3
        · exact absurd (by decide) c_2
  exact hl_2 _ 0 y1 y2 y3 y4 s.heap [] ls (Nat.lt_succ_self _) (by omega) (⟨rfl, rfl, rfl, rfl⟩) hP hD hS (lv_sub hl [0, 1, 2, 3] rfl)
