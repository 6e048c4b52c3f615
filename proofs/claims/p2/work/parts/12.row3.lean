set_option maxHeartbeats 4000000 in
set_option maxRecDepth 100000 in
theorem k_Row_foldsBack (l : Launch) (dC : Nat → ClassId) (dI : Nat → Nat → Nat) (cI cZ cF : ClassId) (sz : Nat) (r : Nat) (rx : Nat) (ry : Nat) (n : Nat) (cap : Nat) (X : Nat → Int32) (Y : Nat → Int32) (rg : Int32) (k : Nat) (hn : n ≤ cap) (hcap : cap ≤ 1000) (hp : pls n X Y) (hi : k < n) : Met l yX7_foldsBack (.code yX7_foldsBack cX7_foldsBack 8 (some .boolean) :: ws0) ({ frames := 0, cells := 0, slots := 0, locals := 0 } : Room) (va_Pc [.ref r, .int (nI k)] (zPre (dC, dI) classes (zTy cI cZ cF) [(oc6 r (.ref rx) (.ref ry) (nI n) rg), (oa rx cI cap X), (oa ry cI cap Y)] sz zXN)) (zQ (some (.int (pI (eFd n X Y k)))) (fun t => va_P (dC, dI) classes [(oc6 r (.ref rx) (.ref ry) (nI n) rg), (oa rx cI cap X), (oa ry cI cap Y)] t.heap ∧ va_D (va_A [(oc6 r (.ref rx) (.ref ry) (nI n) rg), (oa rx cI cap X), (oa ry cI cap Y)] sz) [(oc6 r (.ref rx) (.ref ry) (nI n) rg), (oa rx cI cap X), (oa ry cI cap Y)]) (va_A [(oc6 r (.ref rx) (.ref ry) (nI n) rg), (oa rx cI cap X), (oa ry cI cap Y)] sz)) 0 0 (va_A [(oc6 r (.ref rx) (.ref ry) (nI n) rg), (oa rx cI cap X), (oa ry cI cap Y)] sz) := by
  refine Met.ofW (cc := cX7_foldsBack) (maxL := 8) (ret := (some .boolean)) (by decide) rfl ?_
  intro p e s m args below meth c s₁ B hml hv
  obtain ⟨rfl, hsz, hP, hK, hD0, hXN⟩ := hv
  have hx := B.exec
  have hb := B.bytes
  have hr := B.returns
  have hts0 := atoms_spec (ws := .code yX7_foldsBack cX7_foldsBack 8 (some .boolean) :: ws0) B.pre
  have hts : ∀ w9 ∈ ws0, w9.before ([.ref r, .int (nI k)] : List Value).toArray s = true := fun w9 h => hts0 w9 (List.mem_cons_of_mem _ h)
  have hown : s.vm.findClass "ScaleShop$Row" = some m.cls := findClass_of_methodNamed B.named
  have hlocks := B.notSynchronized
  subst hsz
  have hD := hD0.self (sz := s.heap.size)
  clear hD0
  generalize hAe : va_A [(oc6 r (.ref rx) (.ref ry) (nI n) rg), (oa rx cI cap X), (oa ry cI cap Y)] s.heap.size = A at hD ⊢
  have hA : ∀ q : Nat, s.heap.size ≤ q → A q := fun q h => by rw [← hAe]; exact Or.inr h
  clear hAe
  have hS : va_S A s.heap s.heap [] := va_S.rf
  have hP : va_P (dC, dI) classes [(oc6 r (.ref rx) (.ref ry) (nI n) rg), (oa rx cI cap X), (oa ry cI cap Y)] s.heap := hP
  obtain ⟨Q9, hQ9⟩ : ∃ Q9 : State → Prop, Q9 = MQ below (zQ (some (.int (pI (eFd n X Y k)))) (fun t => va_P (dC, dI) classes [(oc6 r (.ref rx) (.ref ry) (nI n) rg), (oa rx cI cap X), (oa ry cI cap Y)] t.heap ∧ va_D A [(oc6 r (.ref rx) (.ref ry) (nI n) rg), (oa rx cI cap X), (oa ry cI cap Y)]) A) ([.ref r, .int (nI k)] : List Value).toArray s 0 0 A := ⟨_, rfl⟩
  rw [← hQ9]
  have hl := lv_entry ([.ref r, .int (nI k)]) (n := 8) (Nat.le_of_ble_eq_true rfl)
  rw [lg_entry_eq]
  generalize (lg_sl ([.ref r, .int (nI k)]) ++ List.replicate (8 - (lg_sl ([.ref r, .int (nI k)])).length) Slot.unset).toArray = ls at hl ⊢
  have hl : lv_has ls 8 [(0, .ref r), (1, .int (nI k))] := hl
  refine lv_iload_n hx hb dX7_foldsBack_0 rfl (lv_at hl 1 rfl) ?_
  have hj_1 : W p l e ((headSpec (.code yX7_foldsBack cX7_foldsBack 8 (some .boolean) :: ws0) ({ frames := 0, cells := 0, slots := 0, locals := 0 } : Room)).room) s m ([.ref r, .int (nI k)] : List Value).toArray below meth c s.heap [] 0 0 Q9 (F0 m 16 ls [.int (nI (prv n k))]) := by
    have hpv := prv_lt (n := n) (i := k) (by omega)
    refine lv_istore_n (lv' := [(2, .int (nI (prv n k))), (0, .ref r), (1, .int (nI k))]) hx hb dX7_foldsBack_16 rfl hl (by decide) rfl (fun ls hl => ?_)
    refine lv_iload_n hx hb dX7_foldsBack_17 rfl (lv_at hl 2 rfl) ?_
    refine lv_iconst (v := 1) hx hb dX7_foldsBack_18 (by decide) ?_
    refine lv_iadd hx hb dX7_foldsBack_19 ?_
    refine zz_i (v := nI (k + 1)) (nI_add k 1) ?_
    refine lv_aload_n hx hb dX7_foldsBack_20 rfl (lv_at hl 1 rfl) ?_
    refine va_get (D := (dC, dI)) (ci := 6) (v := .int (nI n)) (C := RX7) (T := TX7) (N := 4) hx hb hts inX7 hown hK hP 0 rfl rfl 2 (by decide) (hts _ mw_175) (fun _ h9 => h9) rfl dX7_foldsBack_21 ?_
    have hj_2 : W p l e ((headSpec (.code yX7_foldsBack cX7_foldsBack 8 (some .boolean) :: ws0) ({ frames := 0, cells := 0, slots := 0, locals := 0 } : Room)).room) s m ([.ref r, .int (nI k)] : List Value).toArray below meth c s.heap [] 0 0 Q9 (F0 m 34 ls [.int (nI (nxt n k))]) := by
      have hnk := nxt_lt (n := n) (i := k) (by omega)
      refine lv_istore_n (lv' := [(3, .int (nI (nxt n k))), (2, .int (nI (prv n k))), (0, .ref r), (1, .int (nI k))]) hx hb dX7_foldsBack_34 rfl hl (by decide) rfl (fun ls hl => ?_)
      refine lv_aload_n hx hb dX7_foldsBack_35 rfl (lv_at hl 2 rfl) ?_
      refine va_get (D := (dC, dI)) (ci := 6) (v := .ref rx) (C := RX7) (T := TX7) (N := 4) hx hb hts inX7 hown hK hP 0 rfl rfl 0 (by decide) (hts _ mw_161) (fun _ h9 => h9) rfl dX7_foldsBack_36 ?_
      refine lv_iload_n hx hb dX7_foldsBack_39 rfl (lv_at hl 1 rfl) ?_
      refine z_iald hx hb hK hP 1 0 rfl rfl (e := prv n k) rfl (by omega) (by omega) dX7_foldsBack_40 ?_
      refine lv_aload_n hx hb dX7_foldsBack_41 rfl (lv_at hl 2 rfl) ?_
      refine va_get (D := (dC, dI)) (ci := 6) (v := .ref rx) (C := RX7) (T := TX7) (N := 4) hx hb hts inX7 hown hK hP 0 rfl rfl 0 (by decide) (hts _ mw_161) (fun _ h9 => h9) rfl dX7_foldsBack_42 ?_
      refine lv_iload_n hx hb dX7_foldsBack_45 rfl (lv_at hl 3 rfl) ?_
      refine z_iald hx hb hK hP 1 0 rfl rfl (e := k) rfl (by omega) (by omega) dX7_foldsBack_46 ?_
      refine lv_isub hx hb dX7_foldsBack_47 ?_
      refine lv_istore (lv' := [(4, .int ((X (prv n k)) - (X k))), (3, .int (nI (nxt n k))), (2, .int (nI (prv n k))), (0, .ref r), (1, .int (nI k))]) hx hb dX7_foldsBack_48 hl (by decide) rfl (fun ls hl => ?_)
      refine lv_aload_n hx hb dX7_foldsBack_50 rfl (lv_at hl 3 rfl) ?_
      refine va_get (D := (dC, dI)) (ci := 6) (v := .ref ry) (C := RX7) (T := TX7) (N := 4) hx hb hts inX7 hown hK hP 0 rfl rfl 1 (by decide) (hts _ mw_168) (fun _ h9 => h9) rfl dX7_foldsBack_51 ?_
      refine lv_iload_n hx hb dX7_foldsBack_54 rfl (lv_at hl 2 rfl) ?_
      refine z_iald hx hb hK hP 2 0 rfl rfl (e := prv n k) rfl (by omega) (by omega) dX7_foldsBack_55 ?_
      refine lv_aload_n hx hb dX7_foldsBack_56 rfl (lv_at hl 3 rfl) ?_
      refine va_get (D := (dC, dI)) (ci := 6) (v := .ref ry) (C := RX7) (T := TX7) (N := 4) hx hb hts inX7 hown hK hP 0 rfl rfl 1 (by decide) (hts _ mw_168) (fun _ h9 => h9) rfl dX7_foldsBack_57 ?_
      refine lv_iload_n hx hb dX7_foldsBack_60 rfl (lv_at hl 4 rfl) ?_
      refine z_iald hx hb hK hP 2 0 rfl rfl (e := k) rfl (by omega) (by omega) dX7_foldsBack_61 ?_
      refine lv_isub hx hb dX7_foldsBack_62 ?_
      refine lv_istore (lv' := [(5, .int ((Y (prv n k)) - (Y k))), (4, .int ((X (prv n k)) - (X k))), (3, .int (nI (nxt n k))), (2, .int (nI (prv n k))), (0, .ref r), (1, .int (nI k))]) hx hb dX7_foldsBack_63 hl (by decide) rfl (fun ls hl => ?_)
      refine lv_aload_n hx hb dX7_foldsBack_65 rfl (lv_at hl 4 rfl) ?_
      refine va_get (D := (dC, dI)) (ci := 6) (v := .ref rx) (C := RX7) (T := TX7) (N := 4) hx hb hts inX7 hown hK hP 0 rfl rfl 0 (by decide) (hts _ mw_161) (fun _ h9 => h9) rfl dX7_foldsBack_66 ?_
      refine lv_iload_n hx hb dX7_foldsBack_69 rfl (lv_at hl 2 rfl) ?_
      refine z_iald hx hb hK hP 1 0 rfl rfl (e := nxt n k) rfl (by omega) (by omega) dX7_foldsBack_70 ?_
      refine lv_aload_n hx hb dX7_foldsBack_71 rfl (lv_at hl 4 rfl) ?_
      refine va_get (D := (dC, dI)) (ci := 6) (v := .ref rx) (C := RX7) (T := TX7) (N := 4) hx hb hts inX7 hown hK hP 0 rfl rfl 0 (by decide) (hts _ mw_161) (fun _ h9 => h9) rfl dX7_foldsBack_72 ?_
      refine lv_iload_n hx hb dX7_foldsBack_75 rfl (lv_at hl 5 rfl) ?_
      refine z_iald hx hb hK hP 1 0 rfl rfl (e := k) rfl (by omega) (by omega) dX7_foldsBack_76 ?_
      refine lv_isub hx hb dX7_foldsBack_77 ?_
      refine lv_istore (lv' := [(6, .int ((X (nxt n k)) - (X k))), (5, .int ((Y (prv n k)) - (Y k))), (4, .int ((X (prv n k)) - (X k))), (3, .int (nI (nxt n k))), (2, .int (nI (prv n k))), (0, .ref r), (1, .int (nI k))]) hx hb dX7_foldsBack_78 hl (by decide) rfl (fun ls hl => ?_)
      refine lv_aload_n hx hb dX7_foldsBack_80 rfl (lv_at hl 5 rfl) ?_
      refine va_get (D := (dC, dI)) (ci := 6) (v := .ref ry) (C := RX7) (T := TX7) (N := 4) hx hb hts inX7 hown hK hP 0 rfl rfl 1 (by decide) (hts _ mw_168) (fun _ h9 => h9) rfl dX7_foldsBack_81 ?_
      refine lv_iload_n hx hb dX7_foldsBack_84 rfl (lv_at hl 3 rfl) ?_
      refine z_iald hx hb hK hP 2 0 rfl rfl (e := nxt n k) rfl (by omega) (by omega) dX7_foldsBack_85 ?_
      refine lv_aload_n hx hb dX7_foldsBack_86 rfl (lv_at hl 5 rfl) ?_
      refine va_get (D := (dC, dI)) (ci := 6) (v := .ref ry) (C := RX7) (T := TX7) (N := 4) hx hb hts inX7 hown hK hP 0 rfl rfl 1 (by decide) (hts _ mw_168) (fun _ h9 => h9) rfl dX7_foldsBack_87 ?_
      refine lv_iload_n hx hb dX7_foldsBack_90 rfl (lv_at hl 6 rfl) ?_
      refine z_iald hx hb hK hP 2 0 rfl rfl (e := k) rfl (by omega) (by omega) dX7_foldsBack_91 ?_
      refine lv_isub hx hb dX7_foldsBack_92 ?_
      refine lv_istore (lv' := [(7, .int ((Y (nxt n k)) - (Y k))), (6, .int ((X (nxt n k)) - (X k))), (5, .int ((Y (prv n k)) - (Y k))), (4, .int ((X (prv n k)) - (X k))), (3, .int (nI (nxt n k))), (2, .int (nI (prv n k))), (0, .ref r), (1, .int (nI k))]) hx hb dX7_foldsBack_93 hl (by decide) rfl (fun ls hl => ?_)
      refine lv_iload hx hb dX7_foldsBack_95 (lv_at hl 3 rfl) ?_
      refine lv_iload hx hb dX7_foldsBack_97 (lv_at hl 0 rfl) ?_
      refine lv_imul hx hb dX7_foldsBack_99 ?_
      refine zz_i (v := iI (((X (prv n k)).toInt - (X k).toInt) * ((Y (nxt n k)).toInt - (Y k).toInt))) (mlI (hp _ hpv).1 (hp k hi).1 (hp _ hnk).2 (hp k hi).2) ?_
      have hB1 := mlB (hp _ hpv).1 (hp k hi).1 (hp _ hnk).2 (hp k hi).2
      refine lv_iload hx hb dX7_foldsBack_100 (lv_at hl 2 rfl) ?_
      refine lv_iload hx hb dX7_foldsBack_102 (lv_at hl 1 rfl) ?_
      refine lv_imul hx hb dX7_foldsBack_104 ?_
      refine zz_i (v := iI (((Y (prv n k)).toInt - (Y k).toInt) * ((X (nxt n k)).toInt - (X k).toInt))) (mlI (hp _ hpv).2 (hp k hi).2 (hp _ hnk).1 (hp k hi).1) ?_
      have hB2 := mlB (hp _ hpv).2 (hp k hi).2 (hp _ hnk).1 (hp k hi).1
      refine lv_icmp_ne (tgt := 126) hx hb dX7_foldsBack_105 (by decide) (fun c_3 => ?_) (fun c_3 => ?_)
      · have c_3 : ¬ (((X (prv n k)).toInt - (X k).toInt) * ((Y (nxt n k)).toInt - (Y k).toInt)) = (((Y (prv n k)).toInt - (Y k).toInt) * ((X (nxt n k)).toInt - (X k).toInt)) := zc_ne (iI_toInt (by omega)) (iI_toInt (by omega)) c_3
        refine lv_iconst (v := 0) hx hb dX7_foldsBack_126 (by decide) ?_
        have hP9 := hP.sub (ws' := [(oc6 r (.ref rx) (.ref ry) (nI n) rg), (oa rx cI cap X), (oa ry cI cap Y)]) [0, 1, 2] rfl
        have hD9 := hD.sub (ws' := [(oc6 r (.ref rx) (.ref ry) (nI n) rg), (oa rx cI cap X), (oa ry cI cap Y)]) [0, 1, 2] (by decide) rfl
        rw [hQ9]
        exact W.zret (ty := .boolean) (v := 0) hx hb hr (rfl) (fun t ht hW => ⟨⟨congrArg (fun z => Outcome.returned (some (Value.int z))) (show (0 : Int32) = pI (eFd n X Y k) from (zp_f (by have h9 := cr_ml (X (prv n k)).toInt (Y (prv n k)).toInt (X k).toInt (Y k).toInt (X (nxt n k)).toInt (Y (nxt n k)).toInt; unfold eFd fld; omega)).symm), by rw [ht]; exact hP9, hD9⟩, hS.F ht⟩) hS.2.2 dX7_foldsBack_127
      · have c_3 : (((X (prv n k)).toInt - (X k).toInt) * ((Y (nxt n k)).toInt - (Y k).toInt)) = (((Y (prv n k)).toInt - (Y k).toInt) * ((X (nxt n k)).toInt - (X k).toInt)) := zc_eq (iI_toInt (by omega)) (iI_toInt (by omega)) c_3
        refine lv_iload hx hb dX7_foldsBack_108 (lv_at hl 3 rfl) ?_
        refine lv_iload hx hb dX7_foldsBack_110 (lv_at hl 1 rfl) ?_
        refine lv_imul hx hb dX7_foldsBack_112 ?_
        refine lv_iload hx hb dX7_foldsBack_113 (lv_at hl 2 rfl) ?_
        refine lv_iload hx hb dX7_foldsBack_115 (lv_at hl 0 rfl) ?_
        refine lv_imul hx hb dX7_foldsBack_117 ?_
        refine lv_iadd hx hb dX7_foldsBack_118 ?_
        refine zz_i (v := iI (dt (X (prv n k)).toInt (Y (prv n k)).toInt (X k).toInt (Y k).toInt (X (nxt n k)).toInt (Y (nxt n k)).toInt)) (dtI (hp _ hpv).1 (hp _ hpv).2 (hp k hi).1 (hp k hi).2 (hp _ hnk).1 (hp _ hnk).2) ?_
        have hB3 := dtB (hp _ hpv).1 (hp _ hpv).2 (hp k hi).1 (hp k hi).2 (hp _ hnk).1 (hp _ hnk).2
        refine lv_if_le (tgt := 126) hx hb dX7_foldsBack_119 (by decide) (fun c_4 => ?_) (fun c_4 => ?_)
        · have c_4 : (dt (X (prv n k)).toInt (Y (prv n k)).toInt (X k).toInt (Y k).toInt (X (nxt n k)).toInt (Y (nxt n k)).toInt) ≤ 0 := zc_le (iI_toInt (by omega)) (by decide) c_4
          refine lv_iconst (v := 0) hx hb dX7_foldsBack_126 (by decide) ?_
          have hP9 := hP.sub (ws' := [(oc6 r (.ref rx) (.ref ry) (nI n) rg), (oa rx cI cap X), (oa ry cI cap Y)]) [0, 1, 2] rfl
          have hD9 := hD.sub (ws' := [(oc6 r (.ref rx) (.ref ry) (nI n) rg), (oa rx cI cap X), (oa ry cI cap Y)]) [0, 1, 2] (by decide) rfl
          rw [hQ9]
          exact W.zret (ty := .boolean) (v := 0) hx hb hr (rfl) (fun t ht hW => ⟨⟨congrArg (fun z => Outcome.returned (some (Value.int z))) (show (0 : Int32) = pI (eFd n X Y k) from (zp_f (by have h9 := cr_ml (X (prv n k)).toInt (Y (prv n k)).toInt (X k).toInt (Y k).toInt (X (nxt n k)).toInt (Y (nxt n k)).toInt; unfold eFd fld; omega)).symm), by rw [ht]; exact hP9, hD9⟩, hS.F ht⟩) hS.2.2 dX7_foldsBack_127
        · have c_4 : 0 < (dt (X (prv n k)).toInt (Y (prv n k)).toInt (X k).toInt (Y k).toInt (X (nxt n k)).toInt (Y (nxt n k)).toInt) := zc_nle (iI_toInt (by omega)) (by decide) c_4
          refine lv_iconst (v := 1) hx hb dX7_foldsBack_122 (by decide) ?_
          refine lv_goto (tgt := 127) hx hb dX7_foldsBack_123 (by decide) ?_
          have hP9 := hP.sub (ws' := [(oc6 r (.ref rx) (.ref ry) (nI n) rg), (oa rx cI cap X), (oa ry cI cap Y)]) [0, 1, 2] rfl
          have hD9 := hD.sub (ws' := [(oc6 r (.ref rx) (.ref ry) (nI n) rg), (oa rx cI cap X), (oa ry cI cap Y)]) [0, 1, 2] (by decide) rfl
          rw [hQ9]
          exact W.zret (ty := .boolean) (v := 1) hx hb hr (rfl) (fun t ht hW => ⟨⟨congrArg (fun z => Outcome.returned (some (Value.int z))) (show (1 : Int32) = pI (eFd n X Y k) from (zp_t (by have h9 := cr_ml (X (prv n k)).toInt (Y (prv n k)).toInt (X k).toInt (Y k).toInt (X (nxt n k)).toInt (Y (nxt n k)).toInt; unfold eFd fld; omega)).symm), by rw [ht]; exact hP9, hD9⟩, hS.F ht⟩) hS.2.2 dX7_foldsBack_127
    refine lv_icmp_ge (tgt := 33) hx hb dX7_foldsBack_24 (by decide) (fun c_5 => ?_) (fun c_5 => ?_)
    · have c_5 : ((n : Nat) : Int) ≤ ((k + 1 : Nat) : Int) := zc_le (nI_toInt (by omega)) (nI_toInt (by omega)) c_5
      refine lv_iconst (v := 0) hx hb dX7_foldsBack_33 (by decide) ?_
      refine zz_i (v := nI (nxt n k)) (by first | (rw [nxt, if_pos (by omega)]) | (rw [nxt, if_neg (by omega)]; first | done | rfl)) ?_
      exact hj_2 
    · have c_5 : ((k + 1 : Nat) : Int) < ((n : Nat) : Int) := zc_nle (nI_toInt (by omega)) (nI_toInt (by omega)) c_5
      refine lv_iload_n hx hb dX7_foldsBack_27 rfl (lv_at hl 2 rfl) ?_
      refine lv_iconst (v := 1) hx hb dX7_foldsBack_28 (by decide) ?_
      refine lv_iadd hx hb dX7_foldsBack_29 ?_
      refine zz_i (v := nI (k + 1)) (nI_add k 1) ?_
      refine lv_goto (tgt := 34) hx hb dX7_foldsBack_30 (by decide) ?_
      refine zz_i (v := nI (nxt n k)) (by first | (rw [nxt, if_pos (by omega)]) | (rw [nxt, if_neg (by omega)]; first | done | rfl)) ?_
      exact hj_2 
  refine lv_if_le (tgt := 10) hx hb dX7_foldsBack_1 (by decide) (fun c_6 => ?_) (fun c_6 => ?_)
  · have c_6 : ((k : Nat) : Int) ≤ 0 := zc_le (nI_toInt (by omega)) (by decide) c_6
    refine lv_aload_n hx hb dX7_foldsBack_10 rfl (lv_at hl 0 rfl) ?_
    refine va_get (D := (dC, dI)) (ci := 6) (v := .int (nI n)) (C := RX7) (T := TX7) (N := 4) hx hb hts inX7 hown hK hP 0 rfl rfl 2 (by decide) (hts _ mw_175) (fun _ h9 => h9) rfl dX7_foldsBack_11 ?_
    refine lv_iconst (v := 1) hx hb dX7_foldsBack_14 (by decide) ?_
    refine lv_isub hx hb dX7_foldsBack_15 ?_
    refine zz_i (v := nI (n - 1)) (pk_sub (a := n) (b := 1) (by omega)) ?_
    refine zz_i (v := nI (prv n k)) (by first | (rw [prv, if_pos (by omega)]) | (rw [prv, if_neg (by omega)])) ?_
    exact hj_1 
  · have c_6 : 0 < ((k : Nat) : Int) := zc_nle (nI_toInt (by omega)) (by decide) c_6
    refine lv_iload_n hx hb dX7_foldsBack_4 rfl (lv_at hl 1 rfl) ?_
    refine lv_iconst (v := 1) hx hb dX7_foldsBack_5 (by decide) ?_
    refine lv_isub hx hb dX7_foldsBack_6 ?_
    refine zz_i (v := nI (k - 1)) (pk_sub (a := k) (b := 1) (by omega)) ?_
    refine lv_goto (tgt := 16) hx hb dX7_foldsBack_7 (by decide) ?_
    refine zz_i (v := nI (prv n k)) (by first | (rw [prv, if_pos (by omega)]) | (rw [prv, if_neg (by omega)])) ?_
    exact hj_1 
set_option maxHeartbeats 4000000 in
set_option maxRecDepth 100000 in
theorem k_Row_hasRightAngles (l : Launch) (dC : Nat → ClassId) (dI : Nat → Nat → Nat) (cI cZ cF : ClassId) (sz : Nat) (r : Nat) (rx : Nat) (ry : Nat) (n : Nat) (cap : Nat) (X : Nat → Int32) (Y : Nat → Int32) (rg : Int32) (hn : n ≤ cap) (hcap : cap ≤ 1000) (hp : pls n X Y) : Met l yX7_hasRightAngles (.code yX7_hasRightAngles cX7_hasRightAngles 4 (some .boolean) :: ws0) ({ frames := 1, cells := 0, slots := 0, locals := 21 } : Room) (va_Pc [.ref r] (zPre (dC, dI) classes (zTy cI cZ cF) [(oc6 r (.ref rx) (.ref ry) (nI n) rg), (oa rx cI cap X), (oa ry cI cap Y)] sz zXN)) (zQ (some (.int (pI (∀ k, k < n → eRt n X Y k)))) (fun t => va_P (dC, dI) classes [(oc6 r (.ref rx) (.ref ry) (nI n) rg), (oa rx cI cap X), (oa ry cI cap Y)] t.heap ∧ va_D (va_A [(oc6 r (.ref rx) (.ref ry) (nI n) rg), (oa rx cI cap X), (oa ry cI cap Y)] sz) [(oc6 r (.ref rx) (.ref ry) (nI n) rg), (oa rx cI cap X), (oa ry cI cap Y)]) (va_A [(oc6 r (.ref rx) (.ref ry) (nI n) rg), (oa rx cI cap X), (oa ry cI cap Y)] sz)) 0 0 (va_A [(oc6 r (.ref rx) (.ref ry) (nI n) rg), (oa rx cI cap X), (oa ry cI cap Y)] sz) := by
  refine Met.ofW (cc := cX7_hasRightAngles) (maxL := 4) (ret := (some .boolean)) (by decide) rfl ?_
  intro p e s m args below meth c s₁ B hml hv
  obtain ⟨rfl, hsz, hP, hK, hD0, hXN⟩ := hv
  have hx := B.exec
  have hb := B.bytes
  have hr := B.returns
  have hts0 := atoms_spec (ws := .code yX7_hasRightAngles cX7_hasRightAngles 4 (some .boolean) :: ws0) B.pre
  have hts : ∀ w9 ∈ ws0, w9.before ([.ref r] : List Value).toArray s = true := fun w9 h => hts0 w9 (List.mem_cons_of_mem _ h)
  have hown : s.vm.findClass "ScaleShop$Row" = some m.cls := findClass_of_methodNamed B.named
  have hlocks := B.notSynchronized
  subst hsz
  have hD := hD0.self (sz := s.heap.size)
  clear hD0
  generalize hAe : va_A [(oc6 r (.ref rx) (.ref ry) (nI n) rg), (oa rx cI cap X), (oa ry cI cap Y)] s.heap.size = A at hD ⊢
  have hA : ∀ q : Nat, s.heap.size ≤ q → A q := fun q h => by rw [← hAe]; exact Or.inr h
  clear hAe
  have hS : va_S A s.heap s.heap [] := va_S.rf
  have hP : va_P (dC, dI) classes [(oc6 r (.ref rx) (.ref ry) (nI n) rg), (oa rx cI cap X), (oa ry cI cap Y)] s.heap := hP
  obtain ⟨Q9, hQ9⟩ : ∃ Q9 : State → Prop, Q9 = MQ below (zQ (some (.int (pI (∀ k, k < n → eRt n X Y k)))) (fun t => va_P (dC, dI) classes [(oc6 r (.ref rx) (.ref ry) (nI n) rg), (oa rx cI cap X), (oa ry cI cap Y)] t.heap ∧ va_D A [(oc6 r (.ref rx) (.ref ry) (nI n) rg), (oa rx cI cap X), (oa ry cI cap Y)]) A) ([.ref r] : List Value).toArray s 0 0 A := ⟨_, rfl⟩
  rw [← hQ9]
  have hl := lv_entry ([.ref r]) (n := 4) (Nat.le_of_ble_eq_true rfl)
  rw [lg_entry_eq]
  generalize (lg_sl ([.ref r]) ++ List.replicate (4 - (lg_sl ([.ref r])).length) Slot.unset).toArray = ls at hl ⊢
  have hl : lv_has ls 4 [(0, .ref r)] := hl
  refine lv_iconst (v := 0) hx hb dX7_hasRightAngles_0 (by decide) ?_
  refine lv_istore_n (lv' := [(1, .int 0), (0, .ref r)]) hx hb dX7_hasRightAngles_1 rfl hl (by decide) rfl (fun ls hl => ?_)
  have hl_2 : ∀ (n9 : Nat) (k : Nat) (H : Heap) (locs : List Loc) (ls : Array Slot), n - k < n9 → (k ≤ n) → (∀ j, j < k → eRt n X Y j) → va_P (dC, dI) classes [(oc6 r (.ref rx) (.ref ry) (nI n) rg), (oa rx cI cap X), (oa ry cI cap Y)] H → va_D A [(oc6 r (.ref rx) (.ref ry) (nI n) rg), (oa rx cI cap X), (oa ry cI cap Y)] → va_S A s.heap H locs → lv_has ls 4 [(1, .int (nI k)), (0, .ref r)] → W p l e ((headSpec (.code yX7_hasRightAngles cX7_hasRightAngles 4 (some .boolean) :: ws0) ({ frames := 1, cells := 0, slots := 0, locals := 21 } : Room)).room) s m ([.ref r] : List Value).toArray below meth c H locs 0 0 Q9 (F0 m 2 ls []) := by
    intro n9
    induction n9 with
    | zero => intro k H locs ls hm; exact absurd hm (Nat.not_lt_zero _)
    | succ n9 ih_2 =>
      intro k H locs ls hm hi0 hall hP hD hS hl
      refine lv_iload_n hx hb dX7_hasRightAngles_2 rfl (lv_at hl 0 rfl) ?_
      refine lv_aload_n hx hb dX7_hasRightAngles_3 rfl (lv_at hl 1 rfl) ?_
      refine va_get (D := (dC, dI)) (ci := 6) (v := .int (nI n)) (C := RX7) (T := TX7) (N := 4) hx hb hts inX7 hown hK hP 0 rfl rfl 2 (by decide) (hts _ mw_175) (fun _ h9 => h9) rfl dX7_hasRightAngles_4 ?_
      refine lv_icmp_ge (tgt := 88) hx hb dX7_hasRightAngles_7 (by decide) (fun c_1 => ?_) (fun c_1 => ?_)
      · have c_1 : ((n : Nat) : Int) ≤ ((k : Nat) : Int) := zc_le (nI_toInt (by omega)) (nI_toInt (by omega)) c_1
        refine lv_iconst (v := 1) hx hb dX7_hasRightAngles_88 (by decide) ?_
        have hP9 := hP.sub (ws' := [(oc6 r (.ref rx) (.ref ry) (nI n) rg), (oa rx cI cap X), (oa ry cI cap Y)]) [0, 1, 2] rfl
        have hD9 := hD.sub (ws' := [(oc6 r (.ref rx) (.ref ry) (nI n) rg), (oa rx cI cap X), (oa ry cI cap Y)]) [0, 1, 2] (by decide) rfl
        rw [hQ9]
        exact W.zret (ty := .boolean) (v := 1) hx hb hr (rfl) (fun t ht hW => ⟨⟨congrArg (fun z => Outcome.returned (some (Value.int z))) (show (1 : Int32) = pI (∀ k, k < n → eRt n X Y k) from (zp_t (fun j hj => hall j (by omega))).symm), by rw [ht]; exact hP9, hD9⟩, hS.F ht⟩) hS.2.2 dX7_hasRightAngles_89
      · have c_1 : ((k : Nat) : Int) < ((n : Nat) : Int) := zc_nle (nI_toInt (by omega)) (nI_toInt (by omega)) c_1
        have hi : k < n := (by omega)
        have hpv := prv_lt (n := n) (i := k) (by omega)
        have hnk := nxt_lt (n := n) (i := k) (by omega)
        refine lv_aload_n hx hb dX7_hasRightAngles_10 rfl (lv_at hl 1 rfl) ?_
        refine lv_iload_n hx hb dX7_hasRightAngles_11 rfl (lv_at hl 0 rfl) ?_
        have hPc := hP.sub (ws' := [(oc6 r (.ref rx) (.ref ry) (nI n) rg), (oa rx cI cap X), (oa ry cI cap Y)]) [0, 1, 2] rfl
        have hDc := hD.sub (ws' := [(oc6 r (.ref rx) (.ref ry) (nI n) rg), (oa rx cI cap X), (oa ry cI cap Y)]) [0, 1, 2] (by decide) rfl
        have hFc := va_free (wc := [(oc6 r (.ref rx) (.ref ry) (nI n) rg), (oa rx cI cap X), (oa ry cI cap Y)]) hD hS hA [0, 1, 2] rfl
        refine zcall (st1 := [.int (nI (prv n k))]) (va_runV (As := [.int (nI k)]) (rest := []) ⟨hx, hb, hml, hown, hts⟩ (k_Row_previous l dC dI cI cZ cF H.size r rx ry n cap X Y rg k (by omega) (by omega) (by omega)) (cwV 1 hts (zz_gV mw_556 mw_557 mw_558 mw_102 mc_yX7_previous) rfl rfl rfl (by decide +kernel) ⟨Nat.le_of_ble_eq_true rfl, Nat.le_of_ble_eq_true rfl⟩) (zPV2 (q0 := 0) (ci := 6) hPc hDc hK hXN rfl rfl) rfl rfl hl.1 rfl (lv_room (Nat.le_of_ble_eq_true rfl)) dX7_hasRightAngles_12 ⟨Nat.le_of_ble_eq_true rfl, Nat.le_of_ble_eq_true rfl⟩) hS hFc hFc rfl (fun t H1 locs ht hB hk1 hS => ?_)
        obtain ⟨hP1, hD1⟩ := hB
        rw [ht] at hP1
        obtain ⟨hP, hD⟩ := va_join (wr := []) (w1 := [(oc6 r (.ref rx) (.ref ry) (nI n) rg), (oa rx cI cap X), (oa ry cI cap Y)]) hP hD [0, 1, 2] [] rfl rfl (by decide) (by decide) hk1 hFc hP1 hD1
        clear hk1 hPc hDc hFc hP1 hD1 ht
        generalize H1 = H at hP hS ⊢
        have hP : va_P (dC, dI) classes [(oc6 r (.ref rx) (.ref ry) (nI n) rg), (oa rx cI cap X), (oa ry cI cap Y)] H := hP
        have hD : va_D A [(oc6 r (.ref rx) (.ref ry) (nI n) rg), (oa rx cI cap X), (oa ry cI cap Y)] := hD
        refine lv_istore_n (lv' := [(2, .int (nI (prv n k))), (1, .int (nI k)), (0, .ref r)]) hx hb dX7_hasRightAngles_15 rfl hl (by decide) rfl (fun ls hl => ?_)
        refine lv_aload_n hx hb dX7_hasRightAngles_16 rfl (lv_at hl 2 rfl) ?_
        refine lv_iload_n hx hb dX7_hasRightAngles_17 rfl (lv_at hl 1 rfl) ?_
        have hPc := hP.sub (ws' := [(oc6 r (.ref rx) (.ref ry) (nI n) rg), (oa rx cI cap X), (oa ry cI cap Y)]) [0, 1, 2] rfl
        have hDc := hD.sub (ws' := [(oc6 r (.ref rx) (.ref ry) (nI n) rg), (oa rx cI cap X), (oa ry cI cap Y)]) [0, 1, 2] (by decide) rfl
        have hFc := va_free (wc := [(oc6 r (.ref rx) (.ref ry) (nI n) rg), (oa rx cI cap X), (oa ry cI cap Y)]) hD hS hA [0, 1, 2] rfl
        refine zcall (st1 := [.int (nI (nxt n k))]) (va_runV (As := [.int (nI k)]) (rest := []) ⟨hx, hb, hml, hown, hts⟩ (k_Row_next l dC dI cI cZ cF H.size r rx ry n cap X Y rg k (by omega) (by omega) (by omega)) (cwV 1 hts (zz_gV mw_536 mw_537 mw_538 mw_102 mc_yX7_next) rfl rfl rfl (by decide +kernel) ⟨Nat.le_of_ble_eq_true rfl, Nat.le_of_ble_eq_true rfl⟩) (zPV2 (q0 := 0) (ci := 6) hPc hDc hK hXN rfl rfl) rfl rfl hl.1 rfl (lv_room (Nat.le_of_ble_eq_true rfl)) dX7_hasRightAngles_18 ⟨Nat.le_of_ble_eq_true rfl, Nat.le_of_ble_eq_true rfl⟩) hS hFc hFc rfl (fun t H1 locs ht hB hk1 hS => ?_)
        obtain ⟨hP1, hD1⟩ := hB
        rw [ht] at hP1
        obtain ⟨hP, hD⟩ := va_join (wr := []) (w1 := [(oc6 r (.ref rx) (.ref ry) (nI n) rg), (oa rx cI cap X), (oa ry cI cap Y)]) hP hD [0, 1, 2] [] rfl rfl (by decide) (by decide) hk1 hFc hP1 hD1
        clear hk1 hPc hDc hFc hP1 hD1 ht
        generalize H1 = H at hP hS ⊢
        have hP : va_P (dC, dI) classes [(oc6 r (.ref rx) (.ref ry) (nI n) rg), (oa rx cI cap X), (oa ry cI cap Y)] H := hP
        have hD : va_D A [(oc6 r (.ref rx) (.ref ry) (nI n) rg), (oa rx cI cap X), (oa ry cI cap Y)] := hD
        refine lv_istore_n (lv' := [(3, .int (nI (nxt n k))), (2, .int (nI (prv n k))), (1, .int (nI k)), (0, .ref r)]) hx hb dX7_hasRightAngles_21 rfl hl (by decide) rfl (fun ls hl => ?_)
        refine lv_aload_n hx hb dX7_hasRightAngles_22 rfl (lv_at hl 3 rfl) ?_
        refine va_get (D := (dC, dI)) (ci := 6) (v := .ref rx) (C := RX7) (T := TX7) (N := 4) hx hb hts inX7 hown hK hP 0 rfl rfl 0 (by decide) (hts _ mw_161) (fun _ h9 => h9) rfl dX7_hasRightAngles_23 ?_
        refine lv_iload_n hx hb dX7_hasRightAngles_26 rfl (lv_at hl 1 rfl) ?_
        refine z_iald hx hb hK hP 1 0 rfl rfl (e := prv n k) rfl (by omega) (by omega) dX7_hasRightAngles_27 ?_
        refine lv_aload_n hx hb dX7_hasRightAngles_28 rfl (lv_at hl 3 rfl) ?_
        refine va_get (D := (dC, dI)) (ci := 6) (v := .ref rx) (C := RX7) (T := TX7) (N := 4) hx hb hts inX7 hown hK hP 0 rfl rfl 0 (by decide) (hts _ mw_161) (fun _ h9 => h9) rfl dX7_hasRightAngles_29 ?_
        refine lv_iload_n hx hb dX7_hasRightAngles_32 rfl (lv_at hl 2 rfl) ?_
        refine z_iald hx hb hK hP 1 0 rfl rfl (e := k) rfl (by omega) (by omega) dX7_hasRightAngles_33 ?_
        refine lv_isub hx hb dX7_hasRightAngles_34 ?_
        refine lv_aload_n hx hb dX7_hasRightAngles_35 rfl (lv_at hl 3 rfl) ?_
        refine va_get (D := (dC, dI)) (ci := 6) (v := .ref rx) (C := RX7) (T := TX7) (N := 4) hx hb hts inX7 hown hK hP 0 rfl rfl 0 (by decide) (hts _ mw_161) (fun _ h9 => h9) rfl dX7_hasRightAngles_36 ?_
        refine lv_iload_n hx hb dX7_hasRightAngles_39 rfl (lv_at hl 0 rfl) ?_
        refine z_iald hx hb hK hP 1 0 rfl rfl (e := nxt n k) rfl (by omega) (by omega) dX7_hasRightAngles_40 ?_
        refine lv_aload_n hx hb dX7_hasRightAngles_41 rfl (lv_at hl 3 rfl) ?_
        refine va_get (D := (dC, dI)) (ci := 6) (v := .ref rx) (C := RX7) (T := TX7) (N := 4) hx hb hts inX7 hown hK hP 0 rfl rfl 0 (by decide) (hts _ mw_161) (fun _ h9 => h9) rfl dX7_hasRightAngles_42 ?_
        refine lv_iload_n hx hb dX7_hasRightAngles_45 rfl (lv_at hl 2 rfl) ?_
        refine z_iald hx hb hK hP 1 0 rfl rfl (e := k) rfl (by omega) (by omega) dX7_hasRightAngles_46 ?_
        refine lv_isub hx hb dX7_hasRightAngles_47 ?_
        refine lv_imul hx hb dX7_hasRightAngles_48 ?_
        refine lv_aload_n hx hb dX7_hasRightAngles_49 rfl (lv_at hl 3 rfl) ?_
        refine va_get (D := (dC, dI)) (ci := 6) (v := .ref ry) (C := RX7) (T := TX7) (N := 4) hx hb hts inX7 hown hK hP 0 rfl rfl 1 (by decide) (hts _ mw_168) (fun _ h9 => h9) rfl dX7_hasRightAngles_50 ?_
        refine lv_iload_n hx hb dX7_hasRightAngles_53 rfl (lv_at hl 1 rfl) ?_
        refine z_iald hx hb hK hP 2 0 rfl rfl (e := prv n k) rfl (by omega) (by omega) dX7_hasRightAngles_54 ?_
        refine lv_aload_n hx hb dX7_hasRightAngles_55 rfl (lv_at hl 3 rfl) ?_
        refine va_get (D := (dC, dI)) (ci := 6) (v := .ref ry) (C := RX7) (T := TX7) (N := 4) hx hb hts inX7 hown hK hP 0 rfl rfl 1 (by decide) (hts _ mw_168) (fun _ h9 => h9) rfl dX7_hasRightAngles_56 ?_
        refine lv_iload_n hx hb dX7_hasRightAngles_59 rfl (lv_at hl 2 rfl) ?_
        refine z_iald hx hb hK hP 2 0 rfl rfl (e := k) rfl (by omega) (by omega) dX7_hasRightAngles_60 ?_
        refine lv_isub hx hb dX7_hasRightAngles_61 ?_
        refine lv_aload_n hx hb dX7_hasRightAngles_62 rfl (lv_at hl 3 rfl) ?_
        refine va_get (D := (dC, dI)) (ci := 6) (v := .ref ry) (C := RX7) (T := TX7) (N := 4) hx hb hts inX7 hown hK hP 0 rfl rfl 1 (by decide) (hts _ mw_168) (fun _ h9 => h9) rfl dX7_hasRightAngles_63 ?_
        refine lv_iload_n hx hb dX7_hasRightAngles_66 rfl (lv_at hl 0 rfl) ?_
        refine z_iald hx hb hK hP 2 0 rfl rfl (e := nxt n k) rfl (by omega) (by omega) dX7_hasRightAngles_67 ?_
        refine lv_aload_n hx hb dX7_hasRightAngles_68 rfl (lv_at hl 3 rfl) ?_
        refine va_get (D := (dC, dI)) (ci := 6) (v := .ref ry) (C := RX7) (T := TX7) (N := 4) hx hb hts inX7 hown hK hP 0 rfl rfl 1 (by decide) (hts _ mw_168) (fun _ h9 => h9) rfl dX7_hasRightAngles_69 ?_
        refine lv_iload_n hx hb dX7_hasRightAngles_72 rfl (lv_at hl 2 rfl) ?_
        refine z_iald hx hb hK hP 2 0 rfl rfl (e := k) rfl (by omega) (by omega) dX7_hasRightAngles_73 ?_
        refine lv_isub hx hb dX7_hasRightAngles_74 ?_
        refine lv_imul hx hb dX7_hasRightAngles_75 ?_
        refine lv_iadd hx hb dX7_hasRightAngles_76 ?_
        refine zz_i (v := iI (dt (X (prv n k)).toInt (Y (prv n k)).toInt (X k).toInt (Y k).toInt (X (nxt n k)).toInt (Y (nxt n k)).toInt)) (dtI (hp _ hpv).1 (hp _ hpv).2 (hp k hi).1 (hp k hi).2 (hp _ hnk).1 (hp _ hnk).2) ?_
        have hB3 := dtB (hp _ hpv).1 (hp _ hpv).2 (hp k hi).1 (hp k hi).2 (hp _ hnk).1 (hp _ hnk).2
        refine lv_if_eq (tgt := 82) hx hb dX7_hasRightAngles_77 (by decide) (fun c_2 => ?_) (fun c_2 => ?_)
        · have c_2 : (dt (X (prv n k)).toInt (Y (prv n k)).toInt (X k).toInt (Y k).toInt (X (nxt n k)).toInt (Y (nxt n k)).toInt) = 0 := zc_eq (iI_toInt (by omega)) (by decide) c_2
          refine lv_iinc (v := nI (k + 1)) (lv' := [(1, .int (nI (k + 1))), (3, .int (nI (nxt n k))), (2, .int (nI (prv n k))), (0, .ref r)]) hx hb dX7_hasRightAngles_82 hl (k := 2) rfl (nI_add k 1) (by decide) rfl (fun ls hl => ?_)
          refine lv_goto (tgt := 2) hx hb dX7_hasRightAngles_85 (by decide) ?_
          exact ih_2 (k + 1) H locs ls (by omega) (by omega) (by intro j hj; rcases Nat.lt_or_ge j k with h | h; exact hall j h; have e9 : j = k := (by omega); subst e9; unfold eRt; assumption) hP hD hS (lv_sub hl [0, 3] rfl)
        · have c_2 : ¬ (dt (X (prv n k)).toInt (Y (prv n k)).toInt (X k).toInt (Y k).toInt (X (nxt n k)).toInt (Y (nxt n k)).toInt) = 0 := zc_ne (iI_toInt (by omega)) (by decide) c_2
          refine lv_iconst (v := 0) hx hb dX7_hasRightAngles_80 (by decide) ?_
          have hP9 := hP.sub (ws' := [(oc6 r (.ref rx) (.ref ry) (nI n) rg), (oa rx cI cap X), (oa ry cI cap Y)]) [0, 1, 2] rfl
          have hD9 := hD.sub (ws' := [(oc6 r (.ref rx) (.ref ry) (nI n) rg), (oa rx cI cap X), (oa ry cI cap Y)]) [0, 1, 2] (by decide) rfl
          rw [hQ9]
          exact W.zret (ty := .boolean) (v := 0) hx hb hr (rfl) (fun t ht hW => ⟨⟨congrArg (fun z => Outcome.returned (some (Value.int z))) (show (0 : Int32) = pI (∀ k, k < n → eRt n X Y k) from (zp_f (fun h => absurd (h k (by omega)) (by unfold eRt; assumption))).symm), by rw [ht]; exact hP9, hD9⟩, hS.F ht⟩) hS.2.2 dX7_hasRightAngles_81
  exact hl_2 _ 0 s.heap [] ls (Nat.lt_succ_self _) (by omega) (by intro j hj; omega) hP hD hS (lv_sub hl [0, 1] rfl)
set_option maxHeartbeats 4000000 in
set_option maxRecDepth 100000 in
theorem k_Row_isEdgeFree (l : Launch) (dC : Nat → ClassId) (dI : Nat → Nat → Nat) (cI cZ cF : ClassId) (sz : Nat) (r : Nat) (rx : Nat) (ry : Nat) (n : Nat) (cap : Nat) (X : Nat → Int32) (Y : Nat → Int32) (rg : Int32) (i : Nat) (f : Nat) (hn : n ≤ cap) (hcap : cap ≤ 1000) (hp : pls n X Y) (hi : i < n) (hf : f ≤ n) : Met l yX7_isEdgeFree (.code yX7_isEdgeFree cX7_isEdgeFree 5 (some .boolean) :: ws0) ({ frames := 1, cells := 0, slots := 0, locals := 37 } : Room) (va_Pc [.ref r, .int (nI i), .int (nI f)] (zPre (dC, dI) classes (zTy cI cZ cF) [(oc6 r (.ref rx) (.ref ry) (nI n) rg), (oa rx cI cap X), (oa ry cI cap Y)] sz zXN)) (zQ (some (.int (pI (eFr n X Y rg i f)))) (fun t => va_P (dC, dI) classes [(oc6 r (.ref rx) (.ref ry) (nI n) rg), (oa rx cI cap X), (oa ry cI cap Y)] t.heap ∧ va_D (va_A [(oc6 r (.ref rx) (.ref ry) (nI n) rg), (oa rx cI cap X), (oa ry cI cap Y)] sz) [(oc6 r (.ref rx) (.ref ry) (nI n) rg), (oa rx cI cap X), (oa ry cI cap Y)]) (va_A [(oc6 r (.ref rx) (.ref ry) (nI n) rg), (oa rx cI cap X), (oa ry cI cap Y)] sz)) 0 0 (va_A [(oc6 r (.ref rx) (.ref ry) (nI n) rg), (oa rx cI cap X), (oa ry cI cap Y)] sz) := by
  refine Met.ofW (cc := cX7_isEdgeFree) (maxL := 5) (ret := (some .boolean)) (by decide) rfl ?_
  intro p e s m args below meth c s₁ B hml hv
  obtain ⟨rfl, hsz, hP, hK, hD0, hXN⟩ := hv
  have hx := B.exec
  have hb := B.bytes
  have hr := B.returns
  have hts0 := atoms_spec (ws := .code yX7_isEdgeFree cX7_isEdgeFree 5 (some .boolean) :: ws0) B.pre
  have hts : ∀ w9 ∈ ws0, w9.before ([.ref r, .int (nI i), .int (nI f)] : List Value).toArray s = true := fun w9 h => hts0 w9 (List.mem_cons_of_mem _ h)
  have hown : s.vm.findClass "ScaleShop$Row" = some m.cls := findClass_of_methodNamed B.named
  have hlocks := B.notSynchronized
  subst hsz
  have hD := hD0.self (sz := s.heap.size)
  clear hD0
  generalize hAe : va_A [(oc6 r (.ref rx) (.ref ry) (nI n) rg), (oa rx cI cap X), (oa ry cI cap Y)] s.heap.size = A at hD ⊢
  have hA : ∀ q : Nat, s.heap.size ≤ q → A q := fun q h => by rw [← hAe]; exact Or.inr h
  clear hAe
  have hS : va_S A s.heap s.heap [] := va_S.rf
  have hP : va_P (dC, dI) classes [(oc6 r (.ref rx) (.ref ry) (nI n) rg), (oa rx cI cap X), (oa ry cI cap Y)] s.heap := hP
  obtain ⟨Q9, hQ9⟩ : ∃ Q9 : State → Prop, Q9 = MQ below (zQ (some (.int (pI (eFr n X Y rg i f)))) (fun t => va_P (dC, dI) classes [(oc6 r (.ref rx) (.ref ry) (nI n) rg), (oa rx cI cap X), (oa ry cI cap Y)] t.heap ∧ va_D A [(oc6 r (.ref rx) (.ref ry) (nI n) rg), (oa rx cI cap X), (oa ry cI cap Y)]) A) ([.ref r, .int (nI i), .int (nI f)] : List Value).toArray s 0 0 A := ⟨_, rfl⟩
  rw [← hQ9]
  have hl := lv_entry ([.ref r, .int (nI i), .int (nI f)]) (n := 5) (Nat.le_of_ble_eq_true rfl)
  rw [lg_entry_eq]
  generalize (lg_sl ([.ref r, .int (nI i), .int (nI f)]) ++ List.replicate (5 - (lg_sl ([.ref r, .int (nI i), .int (nI f)])).length) Slot.unset).toArray = ls at hl ⊢
  have hl : lv_has ls 5 [(0, .ref r), (1, .int (nI i)), (2, .int (nI f))] := hl
  have hnx := nxt_lt (n := n) (i := i) (by omega)
  have hle := edg_le n rg
  refine lv_aload_n hx hb dX7_isEdgeFree_0 rfl (lv_at hl 0 rfl) ?_
  refine lv_iload_n hx hb dX7_isEdgeFree_1 rfl (lv_at hl 1 rfl) ?_
  refine lv_aload_n hx hb dX7_isEdgeFree_2 rfl (lv_at hl 0 rfl) ?_
  refine va_get (D := (dC, dI)) (ci := 6) (v := .ref rx) (C := RX7) (T := TX7) (N := 4) hx hb hts inX7 hown hK hP 0 rfl rfl 0 (by decide) (hts _ mw_161) (fun _ h9 => h9) rfl dX7_isEdgeFree_3 ?_
  refine lv_aload_n hx hb dX7_isEdgeFree_6 rfl (lv_at hl 0 rfl) ?_
  refine lv_iload_n hx hb dX7_isEdgeFree_7 rfl (lv_at hl 1 rfl) ?_
  have hPc := hP.sub (ws' := [(oc6 r (.ref rx) (.ref ry) (nI n) rg), (oa rx cI cap X), (oa ry cI cap Y)]) [0, 1, 2] rfl
  have hDc := hD.sub (ws' := [(oc6 r (.ref rx) (.ref ry) (nI n) rg), (oa rx cI cap X), (oa ry cI cap Y)]) [0, 1, 2] (by decide) rfl
  have hFc := va_free (wc := [(oc6 r (.ref rx) (.ref ry) (nI n) rg), (oa rx cI cap X), (oa ry cI cap Y)]) hD hS hA [0, 1, 2] rfl
  refine zcall (st1 := [.int (nI (nxt n i)), .ref rx, .int (nI i), .ref r]) (va_runV (As := [.int (nI i)]) (rest := [.ref rx, .int (nI i), .ref r]) ⟨hx, hb, hml, hown, hts⟩ (k_Row_next l dC dI cI cZ cF s.heap.size r rx ry n cap X Y rg i (by omega) (by omega) (by omega)) (cwV 1 hts (zz_gV mw_536 mw_537 mw_538 mw_102 mc_yX7_next) rfl rfl rfl (by decide +kernel) ⟨Nat.le_of_ble_eq_true rfl, Nat.le_of_ble_eq_true rfl⟩) (zPV2 (q0 := 0) (ci := 6) hPc hDc hK hXN rfl rfl) rfl rfl hl.1 rfl (lv_room (Nat.le_of_ble_eq_true rfl)) dX7_isEdgeFree_8 ⟨Nat.le_of_ble_eq_true rfl, Nat.le_of_ble_eq_true rfl⟩) hS hFc hFc rfl (fun t H1 locs ht hB hk1 hS => ?_)
  obtain ⟨hP1, hD1⟩ := hB
  rw [ht] at hP1
  obtain ⟨hP, hD⟩ := va_join (wr := []) (w1 := [(oc6 r (.ref rx) (.ref ry) (nI n) rg), (oa rx cI cap X), (oa ry cI cap Y)]) hP hD [0, 1, 2] [] rfl rfl (by decide) (by decide) hk1 hFc hP1 hD1
  clear hk1 hPc hDc hFc hP1 hD1 ht
  generalize H1 = H at hP hS ⊢
  have hP : va_P (dC, dI) classes [(oc6 r (.ref rx) (.ref ry) (nI n) rg), (oa rx cI cap X), (oa ry cI cap Y)] H := hP
  have hD : va_D A [(oc6 r (.ref rx) (.ref ry) (nI n) rg), (oa rx cI cap X), (oa ry cI cap Y)] := hD
  refine z_iald hx hb hK hP 1 0 rfl rfl (e := nxt n i) rfl (by omega) (by omega) dX7_isEdgeFree_11 ?_
  refine lv_aload_n hx hb dX7_isEdgeFree_12 rfl (lv_at hl 0 rfl) ?_
  refine va_get (D := (dC, dI)) (ci := 6) (v := .ref ry) (C := RX7) (T := TX7) (N := 4) hx hb hts inX7 hown hK hP 0 rfl rfl 1 (by decide) (hts _ mw_168) (fun _ h9 => h9) rfl dX7_isEdgeFree_13 ?_
  refine lv_aload_n hx hb dX7_isEdgeFree_16 rfl (lv_at hl 0 rfl) ?_
  refine lv_iload_n hx hb dX7_isEdgeFree_17 rfl (lv_at hl 1 rfl) ?_
  have hPc := hP.sub (ws' := [(oc6 r (.ref rx) (.ref ry) (nI n) rg), (oa rx cI cap X), (oa ry cI cap Y)]) [0, 1, 2] rfl
  have hDc := hD.sub (ws' := [(oc6 r (.ref rx) (.ref ry) (nI n) rg), (oa rx cI cap X), (oa ry cI cap Y)]) [0, 1, 2] (by decide) rfl
  have hFc := va_free (wc := [(oc6 r (.ref rx) (.ref ry) (nI n) rg), (oa rx cI cap X), (oa ry cI cap Y)]) hD hS hA [0, 1, 2] rfl
  refine zcall (st1 := [.int (nI (nxt n i)), .ref ry, .int (X (nxt n i)), .int (nI i), .ref r]) (va_runV (As := [.int (nI i)]) (rest := [.ref ry, .int (X (nxt n i)), .int (nI i), .ref r]) ⟨hx, hb, hml, hown, hts⟩ (k_Row_next l dC dI cI cZ cF H.size r rx ry n cap X Y rg i (by omega) (by omega) (by omega)) (cwV 1 hts (zz_gV mw_536 mw_537 mw_538 mw_102 mc_yX7_next) rfl rfl rfl (by decide +kernel) ⟨Nat.le_of_ble_eq_true rfl, Nat.le_of_ble_eq_true rfl⟩) (zPV2 (q0 := 0) (ci := 6) hPc hDc hK hXN rfl rfl) rfl rfl hl.1 rfl (lv_room (Nat.le_of_ble_eq_true rfl)) dX7_isEdgeFree_18 ⟨Nat.le_of_ble_eq_true rfl, Nat.le_of_ble_eq_true rfl⟩) hS hFc hFc rfl (fun t H1 locs ht hB hk1 hS => ?_)
  obtain ⟨hP1, hD1⟩ := hB
  rw [ht] at hP1
  obtain ⟨hP, hD⟩ := va_join (wr := []) (w1 := [(oc6 r (.ref rx) (.ref ry) (nI n) rg), (oa rx cI cap X), (oa ry cI cap Y)]) hP hD [0, 1, 2] [] rfl rfl (by decide) (by decide) hk1 hFc hP1 hD1
  clear hk1 hPc hDc hFc hP1 hD1 ht
  generalize H1 = H at hP hS ⊢
  have hP : va_P (dC, dI) classes [(oc6 r (.ref rx) (.ref ry) (nI n) rg), (oa rx cI cap X), (oa ry cI cap Y)] H := hP
  have hD : va_D A [(oc6 r (.ref rx) (.ref ry) (nI n) rg), (oa rx cI cap X), (oa ry cI cap Y)] := hD
  refine z_iald hx hb hK hP 2 0 rfl rfl (e := nxt n i) rfl (by omega) (by omega) dX7_isEdgeFree_21 ?_
  have hPc := hP.sub (ws' := [(oc6 r (.ref rx) (.ref ry) (nI n) rg), (oa rx cI cap X), (oa ry cI cap Y)]) [0, 1, 2] rfl
  have hDc := hD.sub (ws' := [(oc6 r (.ref rx) (.ref ry) (nI n) rg), (oa rx cI cap X), (oa ry cI cap Y)]) [0, 1, 2] (by decide) rfl
  have hFc := va_free (wc := [(oc6 r (.ref rx) (.ref ry) (nI n) rg), (oa rx cI cap X), (oa ry cI cap Y)]) hD hS hA [0, 1, 2] rfl
  refine zcall (st1 := [.int (pI ((X i).toInt = (X (nxt n i)).toInt ∧ (Y i).toInt = (Y (nxt n i)).toInt))]) (va_runV (As := [.int (nI i), .int (X (nxt n i)), .int (Y (nxt n i))]) (rest := []) ⟨hx, hb, hml, hown, hts⟩ (k_Row_isCorner l dC dI cI cZ cF H.size r rx ry n cap X Y rg i (X (nxt n i)) (Y (nxt n i)) (by omega) (by omega) (by omega)) (cwV 3 hts (zz_gV mw_540 mw_541 mw_542 mw_102 mc_yX7_isCorner) rfl rfl rfl (by decide +kernel) ⟨Nat.le_of_ble_eq_true rfl, Nat.le_of_ble_eq_true rfl⟩) (zPV2 (q0 := 0) (ci := 6) hPc hDc hK hXN rfl rfl) rfl rfl hl.1 rfl (lv_room (Nat.le_of_ble_eq_true rfl)) dX7_isEdgeFree_22 ⟨Nat.le_of_ble_eq_true rfl, Nat.le_of_ble_eq_true rfl⟩) hS hFc hFc rfl (fun t H1 locs ht hB hk1 hS => ?_)
  obtain ⟨hP1, hD1⟩ := hB
  rw [ht] at hP1
  obtain ⟨hP, hD⟩ := va_join (wr := []) (w1 := [(oc6 r (.ref rx) (.ref ry) (nI n) rg), (oa rx cI cap X), (oa ry cI cap Y)]) hP hD [0, 1, 2] [] rfl rfl (by decide) (by decide) hk1 hFc hP1 hD1
  clear hk1 hPc hDc hFc hP1 hD1 ht
  generalize H1 = H at hP hS ⊢
  have hP : va_P (dC, dI) classes [(oc6 r (.ref rx) (.ref ry) (nI n) rg), (oa rx cI cap X), (oa ry cI cap Y)] H := hP
  have hD : va_D A [(oc6 r (.ref rx) (.ref ry) (nI n) rg), (oa rx cI cap X), (oa ry cI cap Y)] := hD
  refine lv_if_eq (tgt := 30) hx hb dX7_isEdgeFree_25 (by decide) (fun c_1 => ?_) (fun c_1 => ?_)
  · have c_1 : ¬ ((X i).toInt = (X (nxt n i)).toInt ∧ (Y i).toInt = (Y (nxt n i)).toInt) := zp_0 c_1
    refine lv_iload_n hx hb dX7_isEdgeFree_30 rfl (lv_at hl 2 rfl) ?_
    refine lv_istore_n (lv' := [(3, .int (nI f)), (0, .ref r), (1, .int (nI i)), (2, .int (nI f))]) hx hb dX7_isEdgeFree_31 rfl hl (by decide) rfl (fun ls hl => ?_)
    have hl_32 : ∀ (n9 : Nat) (j : Nat) (H : Heap) (locs : List Loc) (ls : Array Slot), edg n rg - j < n9 → (j ≤ n) → (f ≤ j) → (∀ q, f ≤ q → q < j → q ≠ i → (nxt n i = q → ¬ eFd n X Y q) ∧ (nxt n i ≠ q → nxt n q = i → ¬ eFd n X Y i) ∧ (nxt n i ≠ q → nxt n q ≠ i → ¬ eMt n X Y i n X Y q)) → va_P (dC, dI) classes [(oc6 r (.ref rx) (.ref ry) (nI n) rg), (oa rx cI cap X), (oa ry cI cap Y)] H → va_D A [(oc6 r (.ref rx) (.ref ry) (nI n) rg), (oa rx cI cap X), (oa ry cI cap Y)] → va_S A s.heap H locs → lv_has ls 5 [(3, .int (nI j)), (0, .ref r), (1, .int (nI i)), (2, .int (nI f))] → W p l e ((headSpec (.code yX7_isEdgeFree cX7_isEdgeFree 5 (some .boolean) :: ws0) ({ frames := 1, cells := 0, slots := 0, locals := 37 } : Room)).room) s m ([.ref r, .int (nI i), .int (nI f)] : List Value).toArray below meth c H locs 0 0 Q9 (F0 m 32 ls []) := by
      intro n9
      induction n9 with
      | zero => intro j H locs ls hm; exact absurd hm (Nat.not_lt_zero _)
      | succ n9 ih_32 =>
        intro j H locs ls hm hj hfj hall hP hD hS hl
        refine lv_iload_n hx hb dX7_isEdgeFree_32 rfl (lv_at hl 0 rfl) ?_
        refine lv_aload_n hx hb dX7_isEdgeFree_33 rfl (lv_at hl 1 rfl) ?_
        have hPc := hP.sub (ws' := [(oc6 r (.ref rx) (.ref ry) (nI n) rg), (oa rx cI cap X), (oa ry cI cap Y)]) [0, 1, 2] rfl
        have hDc := hD.sub (ws' := [(oc6 r (.ref rx) (.ref ry) (nI n) rg), (oa rx cI cap X), (oa ry cI cap Y)]) [0, 1, 2] (by decide) rfl
        have hFc := va_free (wc := [(oc6 r (.ref rx) (.ref ry) (nI n) rg), (oa rx cI cap X), (oa ry cI cap Y)]) hD hS hA [0, 1, 2] rfl
        refine zcall (st1 := [.int (nI (edg n rg)), .int (nI j)]) (va_runV (As := []) (rest := [.int (nI j)]) ⟨hx, hb, hml, hown, hts⟩ (k_Row_edges l dC dI cI cZ cF H.size r rx ry n cap X Y rg (by omega) (by omega)) (cwV 0 hts (zz_gV mw_528 mw_529 mw_530 mw_102 mc_yX7_edges) rfl rfl rfl (by decide +kernel) ⟨Nat.le_of_ble_eq_true rfl, Nat.le_of_ble_eq_true rfl⟩) (zPV2 (q0 := 0) (ci := 6) hPc hDc hK hXN rfl rfl) rfl rfl hl.1 rfl (lv_room (Nat.le_of_ble_eq_true rfl)) dX7_isEdgeFree_34 ⟨Nat.le_of_ble_eq_true rfl, Nat.le_of_ble_eq_true rfl⟩) hS hFc hFc rfl (fun t H1 locs ht hB hk1 hS => ?_)
        obtain ⟨hP1, hD1⟩ := hB
        rw [ht] at hP1
        obtain ⟨hP, hD⟩ := va_join (wr := []) (w1 := [(oc6 r (.ref rx) (.ref ry) (nI n) rg), (oa rx cI cap X), (oa ry cI cap Y)]) hP hD [0, 1, 2] [] rfl rfl (by decide) (by decide) hk1 hFc hP1 hD1
        clear hk1 hPc hDc hFc hP1 hD1 ht
        generalize H1 = H at hP hS ⊢
        have hP : va_P (dC, dI) classes [(oc6 r (.ref rx) (.ref ry) (nI n) rg), (oa rx cI cap X), (oa ry cI cap Y)] H := hP
        have hD : va_D A [(oc6 r (.ref rx) (.ref ry) (nI n) rg), (oa rx cI cap X), (oa ry cI cap Y)] := hD
        refine lv_icmp_ge (tgt := 132) hx hb dX7_isEdgeFree_37 (by decide) (fun c_2 => ?_) (fun c_2 => ?_)
        · have c_2 : ((edg n rg : Nat) : Int) ≤ ((j : Nat) : Int) := zc_le (nI_toInt (by omega)) (nI_toInt (by omega)) c_2
          refine lv_iconst (v := 1) hx hb dX7_isEdgeFree_132 (by decide) ?_
          have hP9 := hP.sub (ws' := [(oc6 r (.ref rx) (.ref ry) (nI n) rg), (oa rx cI cap X), (oa ry cI cap Y)]) [0, 1, 2] rfl
          have hD9 := hD.sub (ws' := [(oc6 r (.ref rx) (.ref ry) (nI n) rg), (oa rx cI cap X), (oa ry cI cap Y)]) [0, 1, 2] (by decide) rfl
          rw [hQ9]
          exact W.zret (ty := .boolean) (v := 1) hx hb hr (rfl) (fun t ht hW => ⟨⟨congrArg (fun z => Outcome.returned (some (Value.int z))) (show (1 : Int32) = pI (eFr n X Y rg i f) from (zp_t (⟨by assumption, fun q h1 h2 h3 => hall q h1 (by omega) h3⟩)).symm), by rw [ht]; exact hP9, hD9⟩, hS.F ht⟩) hS.2.2 dX7_isEdgeFree_133
        · have c_2 : ((j : Nat) : Int) < ((edg n rg : Nat) : Int) := zc_nle (nI_toInt (by omega)) (nI_toInt (by omega)) c_2
          have hnj := nxt_lt (n := n) (i := j) (by omega)
          have hjn : j < n := (by omega)
          refine lv_iload_n hx hb dX7_isEdgeFree_40 rfl (lv_at hl 0 rfl) ?_
          refine lv_iload_n hx hb dX7_isEdgeFree_41 rfl (lv_at hl 2 rfl) ?_
          refine lv_icmp_ne (tgt := 48) hx hb dX7_isEdgeFree_42 (by decide) (fun c_3 => ?_) (fun c_3 => ?_)
          · have c_3 : ¬ ((j : Nat) : Int) = ((i : Nat) : Int) := zc_ne (nI_toInt (by omega)) (nI_toInt (by omega)) c_3
            refine lv_aload_n hx hb dX7_isEdgeFree_48 rfl (lv_at hl 1 rfl) ?_
            refine lv_iload_n hx hb dX7_isEdgeFree_49 rfl (lv_at hl 2 rfl) ?_
            have hPc := hP.sub (ws' := [(oc6 r (.ref rx) (.ref ry) (nI n) rg), (oa rx cI cap X), (oa ry cI cap Y)]) [0, 1, 2] rfl
            have hDc := hD.sub (ws' := [(oc6 r (.ref rx) (.ref ry) (nI n) rg), (oa rx cI cap X), (oa ry cI cap Y)]) [0, 1, 2] (by decide) rfl
            have hFc := va_free (wc := [(oc6 r (.ref rx) (.ref ry) (nI n) rg), (oa rx cI cap X), (oa ry cI cap Y)]) hD hS hA [0, 1, 2] rfl
            refine zcall (st1 := [.int (nI (nxt n i))]) (va_runV (As := [.int (nI i)]) (rest := []) ⟨hx, hb, hml, hown, hts⟩ (k_Row_next l dC dI cI cZ cF H.size r rx ry n cap X Y rg i (by omega) (by omega) (by omega)) (cwV 1 hts (zz_gV mw_536 mw_537 mw_538 mw_102 mc_yX7_next) rfl rfl rfl (by decide +kernel) ⟨Nat.le_of_ble_eq_true rfl, Nat.le_of_ble_eq_true rfl⟩) (zPV2 (q0 := 0) (ci := 6) hPc hDc hK hXN rfl rfl) rfl rfl hl.1 rfl (lv_room (Nat.le_of_ble_eq_true rfl)) dX7_isEdgeFree_50 ⟨Nat.le_of_ble_eq_true rfl, Nat.le_of_ble_eq_true rfl⟩) hS hFc hFc rfl (fun t H1 locs ht hB hk1 hS => ?_)
            obtain ⟨hP1, hD1⟩ := hB
            rw [ht] at hP1
            obtain ⟨hP, hD⟩ := va_join (wr := []) (w1 := [(oc6 r (.ref rx) (.ref ry) (nI n) rg), (oa rx cI cap X), (oa ry cI cap Y)]) hP hD [0, 1, 2] [] rfl rfl (by decide) (by decide) hk1 hFc hP1 hD1
            clear hk1 hPc hDc hFc hP1 hD1 ht
            generalize H1 = H at hP hS ⊢
            have hP : va_P (dC, dI) classes [(oc6 r (.ref rx) (.ref ry) (nI n) rg), (oa rx cI cap X), (oa ry cI cap Y)] H := hP
            have hD : va_D A [(oc6 r (.ref rx) (.ref ry) (nI n) rg), (oa rx cI cap X), (oa ry cI cap Y)] := hD
            refine lv_iload_n hx hb dX7_isEdgeFree_53 rfl (lv_at hl 0 rfl) ?_
            refine lv_icmp_ne (tgt := 75) hx hb dX7_isEdgeFree_54 (by decide) (fun c_4 => ?_) (fun c_4 => ?_)
            · have c_4 : ¬ ((nxt n i : Nat) : Int) = ((j : Nat) : Int) := zc_ne (nI_toInt (by omega)) (nI_toInt (by omega)) c_4
              refine lv_aload_n hx hb dX7_isEdgeFree_75 rfl (lv_at hl 1 rfl) ?_
              refine lv_iload_n hx hb dX7_isEdgeFree_76 rfl (lv_at hl 0 rfl) ?_
              have hPc := hP.sub (ws' := [(oc6 r (.ref rx) (.ref ry) (nI n) rg), (oa rx cI cap X), (oa ry cI cap Y)]) [0, 1, 2] rfl
              have hDc := hD.sub (ws' := [(oc6 r (.ref rx) (.ref ry) (nI n) rg), (oa rx cI cap X), (oa ry cI cap Y)]) [0, 1, 2] (by decide) rfl
              have hFc := va_free (wc := [(oc6 r (.ref rx) (.ref ry) (nI n) rg), (oa rx cI cap X), (oa ry cI cap Y)]) hD hS hA [0, 1, 2] rfl
              refine zcall (st1 := [.int (nI (nxt n j))]) (va_runV (As := [.int (nI j)]) (rest := []) ⟨hx, hb, hml, hown, hts⟩ (k_Row_next l dC dI cI cZ cF H.size r rx ry n cap X Y rg j (by omega) (by omega) (by omega)) (cwV 1 hts (zz_gV mw_536 mw_537 mw_538 mw_102 mc_yX7_next) rfl rfl rfl (by decide +kernel) ⟨Nat.le_of_ble_eq_true rfl, Nat.le_of_ble_eq_true rfl⟩) (zPV2 (q0 := 0) (ci := 6) hPc hDc hK hXN rfl rfl) rfl rfl hl.1 rfl (lv_room (Nat.le_of_ble_eq_true rfl)) dX7_isEdgeFree_77 ⟨Nat.le_of_ble_eq_true rfl, Nat.le_of_ble_eq_true rfl⟩) hS hFc hFc rfl (fun t H1 locs ht hB hk1 hS => ?_)
              obtain ⟨hP1, hD1⟩ := hB
              rw [ht] at hP1
              obtain ⟨hP, hD⟩ := va_join (wr := []) (w1 := [(oc6 r (.ref rx) (.ref ry) (nI n) rg), (oa rx cI cap X), (oa ry cI cap Y)]) hP hD [0, 1, 2] [] rfl rfl (by decide) (by decide) hk1 hFc hP1 hD1
              clear hk1 hPc hDc hFc hP1 hD1 ht
              generalize H1 = H at hP hS ⊢
              have hP : va_P (dC, dI) classes [(oc6 r (.ref rx) (.ref ry) (nI n) rg), (oa rx cI cap X), (oa ry cI cap Y)] H := hP
              have hD : va_D A [(oc6 r (.ref rx) (.ref ry) (nI n) rg), (oa rx cI cap X), (oa ry cI cap Y)] := hD
              refine lv_iload_n hx hb dX7_isEdgeFree_80 rfl (lv_at hl 2 rfl) ?_
              refine lv_icmp_ne (tgt := 102) hx hb dX7_isEdgeFree_81 (by decide) (fun c_5 => ?_) (fun c_5 => ?_)
              · have c_5 : ¬ ((nxt n j : Nat) : Int) = ((i : Nat) : Int) := zc_ne (nI_toInt (by omega)) (nI_toInt (by omega)) c_5
                refine lv_aload_n hx hb dX7_isEdgeFree_102 rfl (lv_at hl 1 rfl) ?_
                refine lv_iload_n hx hb dX7_isEdgeFree_103 rfl (lv_at hl 2 rfl) ?_
                refine lv_aload_n hx hb dX7_isEdgeFree_104 rfl (lv_at hl 1 rfl) ?_
                refine lv_iload_n hx hb dX7_isEdgeFree_105 rfl (lv_at hl 0 rfl) ?_
                have hPc := hP.sub (ws' := [(oc6 r (.ref rx) (.ref ry) (nI n) rg), (oa rx cI cap X), (oa ry cI cap Y)]) [0, 1, 2] rfl
                have hDc := hD.sub (ws' := [(oc6 r (.ref rx) (.ref ry) (nI n) rg), (oa rx cI cap X), (oa ry cI cap Y)]) [0, 1, 2] (by decide) rfl
                have hFc := va_free (wc := [(oc6 r (.ref rx) (.ref ry) (nI n) rg), (oa rx cI cap X), (oa ry cI cap Y)]) hD hS hA [0, 1, 2] rfl
                refine zcall (st1 := [.int (pI (eMt n X Y i n X Y j))]) (va_runV (As := [.int (nI i), .ref r, .int (nI j)]) (rest := []) ⟨hx, hb, hml, hown, hts⟩ (k_Row_partsMeet_self l dC dI cI cZ cF H.size r rx ry n cap X Y rg i j (by omega) (by omega) (by assumption) (by omega) (by omega)) (cwV 3 hts (zz_gV mw_548 mw_549 mw_550 mw_102 mc_yX7_partsMeet) rfl rfl rfl (by decide +kernel) ⟨Nat.le_of_ble_eq_true rfl, Nat.le_of_ble_eq_true rfl⟩) (zPV2 (q0 := 0) (ci := 6) hPc hDc hK hXN rfl rfl) rfl rfl hl.1 rfl (lv_room (Nat.le_of_ble_eq_true rfl)) dX7_isEdgeFree_106 ⟨Nat.le_of_ble_eq_true rfl, Nat.le_of_ble_eq_true rfl⟩) hS hFc hFc rfl (fun t H1 locs ht hB hk1 hS => ?_)
                obtain ⟨hP1, hD1⟩ := hB
                rw [ht] at hP1
                obtain ⟨hP, hD⟩ := va_join (wr := []) (w1 := [(oc6 r (.ref rx) (.ref ry) (nI n) rg), (oa rx cI cap X), (oa ry cI cap Y)]) hP hD [0, 1, 2] [] rfl rfl (by decide) (by decide) hk1 hFc hP1 hD1
                clear hk1 hPc hDc hFc hP1 hD1 ht
                generalize H1 = H at hP hS ⊢
                have hP : va_P (dC, dI) classes [(oc6 r (.ref rx) (.ref ry) (nI n) rg), (oa rx cI cap X), (oa ry cI cap Y)] H := hP
                have hD : va_D A [(oc6 r (.ref rx) (.ref ry) (nI n) rg), (oa rx cI cap X), (oa ry cI cap Y)] := hD
                refine lv_if_ne (tgt := 116) hx hb dX7_isEdgeFree_109 (by decide) (fun c_6 => ?_) (fun c_6 => ?_)
                · have c_6 : eMt n X Y i n X Y j := zp_1 c_6
                  refine lv_iconst (v := 0) hx hb dX7_isEdgeFree_116 (by decide) ?_
                  refine lv_istore (lv' := [(4, .int 0), (3, .int (nI j)), (0, .ref r), (1, .int (nI i)), (2, .int (nI f))]) hx hb dX7_isEdgeFree_117 hl (by decide) rfl (fun ls hl => ?_)
                  refine lv_iload hx hb dX7_isEdgeFree_119 (lv_at hl 0 rfl) ?_
                  refine lv_if_ne (tgt := 126) hx hb dX7_isEdgeFree_121 (by decide) (fun c_7 => ?_) (fun c_7 => ?_)
                  · exact absurd (by decide) c_7
                  · refine lv_iconst (v := 0) hx hb dX7_isEdgeFree_124 (by decide) ?_
                    have hP9 := hP.sub (ws' := [(oc6 r (.ref rx) (.ref ry) (nI n) rg), (oa rx cI cap X), (oa ry cI cap Y)]) [0, 1, 2] rfl
                    have hD9 := hD.sub (ws' := [(oc6 r (.ref rx) (.ref ry) (nI n) rg), (oa rx cI cap X), (oa ry cI cap Y)]) [0, 1, 2] (by decide) rfl
                    rw [hQ9]
                    exact W.zret (ty := .boolean) (v := 0) hx hb hr (rfl) (fun t ht hW => ⟨⟨congrArg (fun z => Outcome.returned (some (Value.int z))) (show (0 : Int32) = pI (eFr n X Y rg i f) from (zp_f (fun h => by have h9 := h.2 j (by omega) (by omega) (by omega); have h91 := h9.1; have h92 := h9.2.1; have h93 := h9.2.2; first | exact h91 (by omega) (by assumption) | exact h92 (by omega) (by omega) (by assumption) | exact h93 (by omega) (by omega) (by assumption))).symm), by rw [ht]; exact hP9, hD9⟩, hS.F ht⟩) hS.2.2 dX7_isEdgeFree_125
                · have c_6 : ¬ (eMt n X Y i n X Y j) := zp_0 c_6
                  refine lv_iconst (v := 1) hx hb dX7_isEdgeFree_112 (by decide) ?_
                  refine lv_goto (tgt := 117) hx hb dX7_isEdgeFree_113 (by decide) ?_
                  refine lv_istore (lv' := [(4, .int 1), (3, .int (nI j)), (0, .ref r), (1, .int (nI i)), (2, .int (nI f))]) hx hb dX7_isEdgeFree_117 hl (by decide) rfl (fun ls hl => ?_)
                  refine lv_iload hx hb dX7_isEdgeFree_119 (lv_at hl 0 rfl) ?_
                  refine lv_if_ne (tgt := 126) hx hb dX7_isEdgeFree_121 (by decide) (fun c_8 => ?_) (fun c_8 => ?_)
                  · refine lv_iinc (v := nI (j + 1)) (lv' := [(3, .int (nI (j + 1))), (4, .int 1), (0, .ref r), (1, .int (nI i)), (2, .int (nI f))]) hx hb dX7_isEdgeFree_126 hl (k := 1) rfl (nI_add j 1) (by decide) rfl (fun ls hl => ?_)
                    refine lv_goto (tgt := 32) hx hb dX7_isEdgeFree_129 (by decide) ?_
                    exact ih_32 (j + 1) H locs ls (by omega) (by omega) (by omega) (by intro q h1 h2 h3; rcases Nat.lt_or_ge q j with h | h; exact hall q h1 h h3; have e9 : q = j := (by omega); subst e9; first | (exact absurd (by omega) h3) | (refine ⟨fun h => ?_, fun h h4 => ?_, fun h h4 => ?_⟩ <;> first | assumption | (exfalso; omega))) hP hD hS (lv_sub hl [0, 2, 3, 4] rfl)
                  · exact absurd c_8 (by decide)
              · have c_5 : ((nxt n j : Nat) : Int) = ((i : Nat) : Int) := zc_eq (nI_toInt (by omega)) (nI_toInt (by omega)) c_5
                refine lv_aload_n hx hb dX7_isEdgeFree_84 rfl (lv_at hl 1 rfl) ?_
                refine lv_iload_n hx hb dX7_isEdgeFree_85 rfl (lv_at hl 2 rfl) ?_
                have hPc := hP.sub (ws' := [(oc6 r (.ref rx) (.ref ry) (nI n) rg), (oa rx cI cap X), (oa ry cI cap Y)]) [0, 1, 2] rfl
                have hDc := hD.sub (ws' := [(oc6 r (.ref rx) (.ref ry) (nI n) rg), (oa rx cI cap X), (oa ry cI cap Y)]) [0, 1, 2] (by decide) rfl
                have hFc := va_free (wc := [(oc6 r (.ref rx) (.ref ry) (nI n) rg), (oa rx cI cap X), (oa ry cI cap Y)]) hD hS hA [0, 1, 2] rfl
                refine zcall (st1 := [.int (pI (eFd n X Y i))]) (va_runV (As := [.int (nI i)]) (rest := []) ⟨hx, hb, hml, hown, hts⟩ (k_Row_foldsBack l dC dI cI cZ cF H.size r rx ry n cap X Y rg i (by omega) (by omega) (by assumption) (by omega)) (cwV 1 hts (zz_gV mw_544 mw_546 mw_5 mw_102 mc_yX7_foldsBack) rfl rfl rfl (by decide +kernel) ⟨Nat.le_of_ble_eq_true rfl, Nat.le_of_ble_eq_true rfl⟩) (zPV2 (q0 := 0) (ci := 6) hPc hDc hK hXN rfl rfl) rfl rfl hl.1 rfl (lv_room (Nat.le_of_ble_eq_true rfl)) dX7_isEdgeFree_86 ⟨Nat.le_of_ble_eq_true rfl, Nat.le_of_ble_eq_true rfl⟩) hS hFc hFc rfl (fun t H1 locs ht hB hk1 hS => ?_)
                obtain ⟨hP1, hD1⟩ := hB
                rw [ht] at hP1
                obtain ⟨hP, hD⟩ := va_join (wr := []) (w1 := [(oc6 r (.ref rx) (.ref ry) (nI n) rg), (oa rx cI cap X), (oa ry cI cap Y)]) hP hD [0, 1, 2] [] rfl rfl (by decide) (by decide) hk1 hFc hP1 hD1
                clear hk1 hPc hDc hFc hP1 hD1 ht
                generalize H1 = H at hP hS ⊢
                have hP : va_P (dC, dI) classes [(oc6 r (.ref rx) (.ref ry) (nI n) rg), (oa rx cI cap X), (oa ry cI cap Y)] H := hP
                have hD : va_D A [(oc6 r (.ref rx) (.ref ry) (nI n) rg), (oa rx cI cap X), (oa ry cI cap Y)] := hD
                refine lv_if_ne (tgt := 96) hx hb dX7_isEdgeFree_89 (by decide) (fun c_9 => ?_) (fun c_9 => ?_)
                · have c_9 : eFd n X Y i := zp_1 c_9
                  refine lv_iconst (v := 0) hx hb dX7_isEdgeFree_96 (by decide) ?_
                  refine lv_istore (lv' := [(4, .int 0), (3, .int (nI j)), (0, .ref r), (1, .int (nI i)), (2, .int (nI f))]) hx hb dX7_isEdgeFree_97 hl (by decide) rfl (fun ls hl => ?_)
                  refine lv_goto (tgt := 119) hx hb dX7_isEdgeFree_99 (by decide) ?_
                  refine lv_iload hx hb dX7_isEdgeFree_119 (lv_at hl 0 rfl) ?_
                  refine lv_if_ne (tgt := 126) hx hb dX7_isEdgeFree_121 (by decide) (fun c_10 => ?_) (fun c_10 => ?_)
                  · exact absurd (by decide) c_10
                  · refine lv_iconst (v := 0) hx hb dX7_isEdgeFree_124 (by decide) ?_
                    have hP9 := hP.sub (ws' := [(oc6 r (.ref rx) (.ref ry) (nI n) rg), (oa rx cI cap X), (oa ry cI cap Y)]) [0, 1, 2] rfl
                    have hD9 := hD.sub (ws' := [(oc6 r (.ref rx) (.ref ry) (nI n) rg), (oa rx cI cap X), (oa ry cI cap Y)]) [0, 1, 2] (by decide) rfl
                    rw [hQ9]
                    exact W.zret (ty := .boolean) (v := 0) hx hb hr (rfl) (fun t ht hW => ⟨⟨congrArg (fun z => Outcome.returned (some (Value.int z))) (show (0 : Int32) = pI (eFr n X Y rg i f) from (zp_f (fun h => by have h9 := h.2 j (by omega) (by omega) (by omega); have h91 := h9.1; have h92 := h9.2.1; have h93 := h9.2.2; first | exact h91 (by omega) (by assumption) | exact h92 (by omega) (by omega) (by assumption) | exact h93 (by omega) (by omega) (by assumption))).symm), by rw [ht]; exact hP9, hD9⟩, hS.F ht⟩) hS.2.2 dX7_isEdgeFree_125
                · have c_9 : ¬ (eFd n X Y i) := zp_0 c_9
                  refine lv_iconst (v := 1) hx hb dX7_isEdgeFree_92 (by decide) ?_
                  refine lv_goto (tgt := 97) hx hb dX7_isEdgeFree_93 (by decide) ?_
                  refine lv_istore (lv' := [(4, .int 1), (3, .int (nI j)), (0, .ref r), (1, .int (nI i)), (2, .int (nI f))]) hx hb dX7_isEdgeFree_97 hl (by decide) rfl (fun ls hl => ?_)
                  refine lv_goto (tgt := 119) hx hb dX7_isEdgeFree_99 (by decide) ?_
                  refine lv_iload hx hb dX7_isEdgeFree_119 (lv_at hl 0 rfl) ?_
                  refine lv_if_ne (tgt := 126) hx hb dX7_isEdgeFree_121 (by decide) (fun c_11 => ?_) (fun c_11 => ?_)
                  · refine lv_iinc (v := nI (j + 1)) (lv' := [(3, .int (nI (j + 1))), (4, .int 1), (0, .ref r), (1, .int (nI i)), (2, .int (nI f))]) hx hb dX7_isEdgeFree_126 hl (k := 1) rfl (nI_add j 1) (by decide) rfl (fun ls hl => ?_)
                    refine lv_goto (tgt := 32) hx hb dX7_isEdgeFree_129 (by decide) ?_
                    exact ih_32 (j + 1) H locs ls (by omega) (by omega) (by omega) (by intro q h1 h2 h3; rcases Nat.lt_or_ge q j with h | h; exact hall q h1 h h3; have e9 : q = j := (by omega); subst e9; first | (exact absurd (by omega) h3) | (refine ⟨fun h => ?_, fun h h4 => ?_, fun h h4 => ?_⟩ <;> first | assumption | (exfalso; omega))) hP hD hS (lv_sub hl [0, 2, 3, 4] rfl)
                  · exact absurd c_11 (by decide)
            · have c_4 : ((nxt n i : Nat) : Int) = ((j : Nat) : Int) := zc_eq (nI_toInt (by omega)) (nI_toInt (by omega)) c_4
              refine lv_aload_n hx hb dX7_isEdgeFree_57 rfl (lv_at hl 1 rfl) ?_
              refine lv_iload_n hx hb dX7_isEdgeFree_58 rfl (lv_at hl 0 rfl) ?_
              have hPc := hP.sub (ws' := [(oc6 r (.ref rx) (.ref ry) (nI n) rg), (oa rx cI cap X), (oa ry cI cap Y)]) [0, 1, 2] rfl
              have hDc := hD.sub (ws' := [(oc6 r (.ref rx) (.ref ry) (nI n) rg), (oa rx cI cap X), (oa ry cI cap Y)]) [0, 1, 2] (by decide) rfl
              have hFc := va_free (wc := [(oc6 r (.ref rx) (.ref ry) (nI n) rg), (oa rx cI cap X), (oa ry cI cap Y)]) hD hS hA [0, 1, 2] rfl
              refine zcall (st1 := [.int (pI (eFd n X Y j))]) (va_runV (As := [.int (nI j)]) (rest := []) ⟨hx, hb, hml, hown, hts⟩ (k_Row_foldsBack l dC dI cI cZ cF H.size r rx ry n cap X Y rg j (by omega) (by omega) (by assumption) (by omega)) (cwV 1 hts (zz_gV mw_544 mw_546 mw_5 mw_102 mc_yX7_foldsBack) rfl rfl rfl (by decide +kernel) ⟨Nat.le_of_ble_eq_true rfl, Nat.le_of_ble_eq_true rfl⟩) (zPV2 (q0 := 0) (ci := 6) hPc hDc hK hXN rfl rfl) rfl rfl hl.1 rfl (lv_room (Nat.le_of_ble_eq_true rfl)) dX7_isEdgeFree_59 ⟨Nat.le_of_ble_eq_true rfl, Nat.le_of_ble_eq_true rfl⟩) hS hFc hFc rfl (fun t H1 locs ht hB hk1 hS => ?_)
              obtain ⟨hP1, hD1⟩ := hB
              rw [ht] at hP1
              obtain ⟨hP, hD⟩ := va_join (wr := []) (w1 := [(oc6 r (.ref rx) (.ref ry) (nI n) rg), (oa rx cI cap X), (oa ry cI cap Y)]) hP hD [0, 1, 2] [] rfl rfl (by decide) (by decide) hk1 hFc hP1 hD1
              clear hk1 hPc hDc hFc hP1 hD1 ht
              generalize H1 = H at hP hS ⊢
              have hP : va_P (dC, dI) classes [(oc6 r (.ref rx) (.ref ry) (nI n) rg), (oa rx cI cap X), (oa ry cI cap Y)] H := hP
              have hD : va_D A [(oc6 r (.ref rx) (.ref ry) (nI n) rg), (oa rx cI cap X), (oa ry cI cap Y)] := hD
              refine lv_if_ne (tgt := 69) hx hb dX7_isEdgeFree_62 (by decide) (fun c_12 => ?_) (fun c_12 => ?_)
              · have c_12 : eFd n X Y j := zp_1 c_12
                refine lv_iconst (v := 0) hx hb dX7_isEdgeFree_69 (by decide) ?_
                refine lv_istore (lv' := [(4, .int 0), (3, .int (nI j)), (0, .ref r), (1, .int (nI i)), (2, .int (nI f))]) hx hb dX7_isEdgeFree_70 hl (by decide) rfl (fun ls hl => ?_)
                refine lv_goto (tgt := 119) hx hb dX7_isEdgeFree_72 (by decide) ?_
                refine lv_iload hx hb dX7_isEdgeFree_119 (lv_at hl 0 rfl) ?_
                refine lv_if_ne (tgt := 126) hx hb dX7_isEdgeFree_121 (by decide) (fun c_13 => ?_) (fun c_13 => ?_)
                · exact absurd (by decide) c_13
                · refine lv_iconst (v := 0) hx hb dX7_isEdgeFree_124 (by decide) ?_
                  have hP9 := hP.sub (ws' := [(oc6 r (.ref rx) (.ref ry) (nI n) rg), (oa rx cI cap X), (oa ry cI cap Y)]) [0, 1, 2] rfl
                  have hD9 := hD.sub (ws' := [(oc6 r (.ref rx) (.ref ry) (nI n) rg), (oa rx cI cap X), (oa ry cI cap Y)]) [0, 1, 2] (by decide) rfl
                  rw [hQ9]
                  exact W.zret (ty := .boolean) (v := 0) hx hb hr (rfl) (fun t ht hW => ⟨⟨congrArg (fun z => Outcome.returned (some (Value.int z))) (show (0 : Int32) = pI (eFr n X Y rg i f) from (zp_f (fun h => by have h9 := h.2 j (by omega) (by omega) (by omega); have h91 := h9.1; have h92 := h9.2.1; have h93 := h9.2.2; first | exact h91 (by omega) (by assumption) | exact h92 (by omega) (by omega) (by assumption) | exact h93 (by omega) (by omega) (by assumption))).symm), by rw [ht]; exact hP9, hD9⟩, hS.F ht⟩) hS.2.2 dX7_isEdgeFree_125
              · have c_12 : ¬ (eFd n X Y j) := zp_0 c_12
                refine lv_iconst (v := 1) hx hb dX7_isEdgeFree_65 (by decide) ?_
                refine lv_goto (tgt := 70) hx hb dX7_isEdgeFree_66 (by decide) ?_
                refine lv_istore (lv' := [(4, .int 1), (3, .int (nI j)), (0, .ref r), (1, .int (nI i)), (2, .int (nI f))]) hx hb dX7_isEdgeFree_70 hl (by decide) rfl (fun ls hl => ?_)
                refine lv_goto (tgt := 119) hx hb dX7_isEdgeFree_72 (by decide) ?_
                refine lv_iload hx hb dX7_isEdgeFree_119 (lv_at hl 0 rfl) ?_
                refine lv_if_ne (tgt := 126) hx hb dX7_isEdgeFree_121 (by decide) (fun c_14 => ?_) (fun c_14 => ?_)
                · refine lv_iinc (v := nI (j + 1)) (lv' := [(3, .int (nI (j + 1))), (4, .int 1), (0, .ref r), (1, .int (nI i)), (2, .int (nI f))]) hx hb dX7_isEdgeFree_126 hl (k := 1) rfl (nI_add j 1) (by decide) rfl (fun ls hl => ?_)
                  refine lv_goto (tgt := 32) hx hb dX7_isEdgeFree_129 (by decide) ?_
                  exact ih_32 (j + 1) H locs ls (by omega) (by omega) (by omega) (by intro q h1 h2 h3; rcases Nat.lt_or_ge q j with h | h; exact hall q h1 h h3; have e9 : q = j := (by omega); subst e9; first | (exact absurd (by omega) h3) | (refine ⟨fun h => ?_, fun h h4 => ?_, fun h h4 => ?_⟩ <;> first | assumption | (exfalso; omega))) hP hD hS (lv_sub hl [0, 2, 3, 4] rfl)
                · exact absurd c_14 (by decide)
          · have c_3 : ((j : Nat) : Int) = ((i : Nat) : Int) := zc_eq (nI_toInt (by omega)) (nI_toInt (by omega)) c_3
            refine lv_goto (tgt := 126) hx hb dX7_isEdgeFree_45 (by decide) ?_
            refine lv_iinc (v := nI (j + 1)) (lv' := [(3, .int (nI (j + 1))), (0, .ref r), (1, .int (nI i)), (2, .int (nI f))]) hx hb dX7_isEdgeFree_126 hl (k := 0) rfl (nI_add j 1) (by decide) rfl (fun ls hl => ?_)
            refine lv_goto (tgt := 32) hx hb dX7_isEdgeFree_129 (by decide) ?_
            exact ih_32 (j + 1) H locs ls (by omega) (by omega) (by omega) (by intro q h1 h2 h3; rcases Nat.lt_or_ge q j with h | h; exact hall q h1 h h3; have e9 : q = j := (by omega); subst e9; first | (exact absurd (by omega) h3) | (refine ⟨fun h => ?_, fun h h4 => ?_, fun h h4 => ?_⟩ <;> first | assumption | (exfalso; omega))) hP hD hS (lv_sub hl [0, 1, 2, 3] rfl)
    exact hl_32 _ f H locs ls (Nat.lt_succ_self _) (by omega) (by omega) (by intro q h1 h2; omega) hP hD hS (lv_sub hl [0, 1, 2, 3] rfl)
  · have c_1 : (X i).toInt = (X (nxt n i)).toInt ∧ (Y i).toInt = (Y (nxt n i)).toInt := zp_1 c_1
    refine lv_iconst (v := 0) hx hb dX7_isEdgeFree_28 (by decide) ?_
    have hP9 := hP.sub (ws' := [(oc6 r (.ref rx) (.ref ry) (nI n) rg), (oa rx cI cap X), (oa ry cI cap Y)]) [0, 1, 2] rfl
    have hD9 := hD.sub (ws' := [(oc6 r (.ref rx) (.ref ry) (nI n) rg), (oa rx cI cap X), (oa ry cI cap Y)]) [0, 1, 2] (by decide) rfl
    rw [hQ9]
    exact W.zret (ty := .boolean) (v := 0) hx hb hr (rfl) (fun t ht hW => ⟨⟨congrArg (fun z => Outcome.returned (some (Value.int z))) (show (0 : Int32) = pI (eFr n X Y rg i f) from (zp_f (fun h => h.1 (by assumption))).symm), by rw [ht]; exact hP9, hD9⟩, hS.F ht⟩) hS.2.2 dX7_isEdgeFree_29
set_option maxHeartbeats 4000000 in
set_option maxRecDepth 100000 in
theorem k_Row_isSound (l : Launch) (dC : Nat → ClassId) (dI : Nat → Nat → Nat) (cI cZ cF : ClassId) (sz : Nat) (r : Nat) (rx : Nat) (ry : Nat) (n : Nat) (cap : Nat) (X : Nat → Int32) (Y : Nat → Int32) (rg : Int32) (kd : Int32) (hn : n ≤ cap) (hcap : cap ≤ 1000) (hp : pls n X Y) : Met l yX7_isSound (.code yX7_isSound cX7_isSound 3 (some .boolean) :: ws0) ({ frames := 2, cells := 0, slots := 0, locals := 61 } : Room) (va_Pc [.ref r, .int kd] (zPre (dC, dI) classes (zTy cI cZ cF) [(oc6 r (.ref rx) (.ref ry) (nI n) rg), (oa rx cI cap X), (oa ry cI cap Y)] sz zXN)) (zQ (some (.int (pI ((∀ i, i < edg n rg → eFr n X Y rg i (i + 1)) ∧ (¬ kd.toInt = 6 ∨ ∀ k, k < n → eRt n X Y k))))) (fun t => va_P (dC, dI) classes [(oc6 r (.ref rx) (.ref ry) (nI n) rg), (oa rx cI cap X), (oa ry cI cap Y)] t.heap ∧ va_D (va_A [(oc6 r (.ref rx) (.ref ry) (nI n) rg), (oa rx cI cap X), (oa ry cI cap Y)] sz) [(oc6 r (.ref rx) (.ref ry) (nI n) rg), (oa rx cI cap X), (oa ry cI cap Y)]) (va_A [(oc6 r (.ref rx) (.ref ry) (nI n) rg), (oa rx cI cap X), (oa ry cI cap Y)] sz)) 0 0 (va_A [(oc6 r (.ref rx) (.ref ry) (nI n) rg), (oa rx cI cap X), (oa ry cI cap Y)] sz) := by
  refine Met.ofW (cc := cX7_isSound) (maxL := 3) (ret := (some .boolean)) (by decide) rfl ?_
  intro p e s m args below meth c s₁ B hml hv
  obtain ⟨rfl, hsz, hP, hK, hD0, hXN⟩ := hv
  have hx := B.exec
  have hb := B.bytes
  have hr := B.returns
  have hts0 := atoms_spec (ws := .code yX7_isSound cX7_isSound 3 (some .boolean) :: ws0) B.pre
  have hts : ∀ w9 ∈ ws0, w9.before ([.ref r, .int kd] : List Value).toArray s = true := fun w9 h => hts0 w9 (List.mem_cons_of_mem _ h)
  have hown : s.vm.findClass "ScaleShop$Row" = some m.cls := findClass_of_methodNamed B.named
  have hlocks := B.notSynchronized
  subst hsz
  have hD := hD0.self (sz := s.heap.size)
  clear hD0
  generalize hAe : va_A [(oc6 r (.ref rx) (.ref ry) (nI n) rg), (oa rx cI cap X), (oa ry cI cap Y)] s.heap.size = A at hD ⊢
  have hA : ∀ q : Nat, s.heap.size ≤ q → A q := fun q h => by rw [← hAe]; exact Or.inr h
  clear hAe
  have hS : va_S A s.heap s.heap [] := va_S.rf
  have hP : va_P (dC, dI) classes [(oc6 r (.ref rx) (.ref ry) (nI n) rg), (oa rx cI cap X), (oa ry cI cap Y)] s.heap := hP
  obtain ⟨Q9, hQ9⟩ : ∃ Q9 : State → Prop, Q9 = MQ below (zQ (some (.int (pI ((∀ i, i < edg n rg → eFr n X Y rg i (i + 1)) ∧ (¬ kd.toInt = 6 ∨ ∀ k, k < n → eRt n X Y k))))) (fun t => va_P (dC, dI) classes [(oc6 r (.ref rx) (.ref ry) (nI n) rg), (oa rx cI cap X), (oa ry cI cap Y)] t.heap ∧ va_D A [(oc6 r (.ref rx) (.ref ry) (nI n) rg), (oa rx cI cap X), (oa ry cI cap Y)]) A) ([.ref r, .int kd] : List Value).toArray s 0 0 A := ⟨_, rfl⟩
  rw [← hQ9]
  have hl := lv_entry ([.ref r, .int kd]) (n := 3) (Nat.le_of_ble_eq_true rfl)
  rw [lg_entry_eq]
  generalize (lg_sl ([.ref r, .int kd]) ++ List.replicate (3 - (lg_sl ([.ref r, .int kd])).length) Slot.unset).toArray = ls at hl ⊢
  have hl : lv_has ls 3 [(0, .ref r), (1, .int kd)] := hl
  have hle := edg_le n rg
  refine lv_iconst (v := 0) hx hb dX7_isSound_0 (by decide) ?_
  refine lv_istore_n (lv' := [(2, .int 0), (0, .ref r), (1, .int kd)]) hx hb dX7_isSound_1 rfl hl (by decide) rfl (fun ls hl => ?_)
  have hl_2 : ∀ (n9 : Nat) (i : Nat) (H : Heap) (locs : List Loc) (ls : Array Slot), edg n rg - i < n9 → (i ≤ edg n rg) → (∀ j, j < i → eFr n X Y rg j (j + 1)) → va_P (dC, dI) classes [(oc6 r (.ref rx) (.ref ry) (nI n) rg), (oa rx cI cap X), (oa ry cI cap Y)] H → va_D A [(oc6 r (.ref rx) (.ref ry) (nI n) rg), (oa rx cI cap X), (oa ry cI cap Y)] → va_S A s.heap H locs → lv_has ls 3 [(2, .int (nI i)), (0, .ref r), (1, .int kd)] → W p l e ((headSpec (.code yX7_isSound cX7_isSound 3 (some .boolean) :: ws0) ({ frames := 2, cells := 0, slots := 0, locals := 61 } : Room)).room) s m ([.ref r, .int kd] : List Value).toArray below meth c H locs 0 0 Q9 (F0 m 2 ls []) := by
    intro n9
    induction n9 with
    | zero => intro i H locs ls hm; exact absurd hm (Nat.not_lt_zero _)
    | succ n9 ih_2 =>
      intro i H locs ls hm hi hall hP hD hS hl
      refine lv_iload_n hx hb dX7_isSound_2 rfl (lv_at hl 0 rfl) ?_
      refine lv_aload_n hx hb dX7_isSound_3 rfl (lv_at hl 1 rfl) ?_
      have hPc := hP.sub (ws' := [(oc6 r (.ref rx) (.ref ry) (nI n) rg), (oa rx cI cap X), (oa ry cI cap Y)]) [0, 1, 2] rfl
      have hDc := hD.sub (ws' := [(oc6 r (.ref rx) (.ref ry) (nI n) rg), (oa rx cI cap X), (oa ry cI cap Y)]) [0, 1, 2] (by decide) rfl
      have hFc := va_free (wc := [(oc6 r (.ref rx) (.ref ry) (nI n) rg), (oa rx cI cap X), (oa ry cI cap Y)]) hD hS hA [0, 1, 2] rfl
      refine zcall (st1 := [.int (nI (edg n rg)), .int (nI i)]) (va_runV (As := []) (rest := [.int (nI i)]) ⟨hx, hb, hml, hown, hts⟩ (k_Row_edges l dC dI cI cZ cF H.size r rx ry n cap X Y rg (by omega) (by omega)) (cwV 0 hts (zz_gV mw_528 mw_529 mw_530 mw_102 mc_yX7_edges) rfl rfl rfl (by decide +kernel) ⟨Nat.le_of_ble_eq_true rfl, Nat.le_of_ble_eq_true rfl⟩) (zPV2 (q0 := 0) (ci := 6) hPc hDc hK hXN rfl rfl) rfl rfl hl.1 rfl (lv_room (Nat.le_of_ble_eq_true rfl)) dX7_isSound_4 ⟨Nat.le_of_ble_eq_true rfl, Nat.le_of_ble_eq_true rfl⟩) hS hFc hFc rfl (fun t H1 locs ht hB hk1 hS => ?_)
      obtain ⟨hP1, hD1⟩ := hB
      rw [ht] at hP1
      obtain ⟨hP, hD⟩ := va_join (wr := []) (w1 := [(oc6 r (.ref rx) (.ref ry) (nI n) rg), (oa rx cI cap X), (oa ry cI cap Y)]) hP hD [0, 1, 2] [] rfl rfl (by decide) (by decide) hk1 hFc hP1 hD1
      clear hk1 hPc hDc hFc hP1 hD1 ht
      generalize H1 = H at hP hS ⊢
      have hP : va_P (dC, dI) classes [(oc6 r (.ref rx) (.ref ry) (nI n) rg), (oa rx cI cap X), (oa ry cI cap Y)] H := hP
      have hD : va_D A [(oc6 r (.ref rx) (.ref ry) (nI n) rg), (oa rx cI cap X), (oa ry cI cap Y)] := hD
      refine lv_icmp_ge (tgt := 29) hx hb dX7_isSound_7 (by decide) (fun c_1 => ?_) (fun c_1 => ?_)
      · have c_1 : ((edg n rg : Nat) : Int) ≤ ((i : Nat) : Int) := zc_le (nI_toInt (by omega)) (nI_toInt (by omega)) c_1
        refine lv_iload_n hx hb dX7_isSound_29 rfl (lv_at hl 2 rfl) ?_
        refine lv_bipush (v := 6) hx hb dX7_isSound_30 (by decide) ?_
        refine lv_icmp_ne (tgt := 42) hx hb dX7_isSound_32 (by decide) (fun c_2 => ?_) (fun c_2 => ?_)
        · have c_2 : ¬ kd.toInt = 6 := zc_ne rfl (by decide) c_2
          refine lv_iconst (v := 1) hx hb dX7_isSound_42 (by decide) ?_
          refine lv_goto (tgt := 47) hx hb dX7_isSound_43 (by decide) ?_
          have hP9 := hP.sub (ws' := [(oc6 r (.ref rx) (.ref ry) (nI n) rg), (oa rx cI cap X), (oa ry cI cap Y)]) [0, 1, 2] rfl
          have hD9 := hD.sub (ws' := [(oc6 r (.ref rx) (.ref ry) (nI n) rg), (oa rx cI cap X), (oa ry cI cap Y)]) [0, 1, 2] (by decide) rfl
          rw [hQ9]
          exact W.zret (ty := .boolean) (v := 1) hx hb hr (rfl) (fun t ht hW => ⟨⟨congrArg (fun z => Outcome.returned (some (Value.int z))) (show (1 : Int32) = pI ((∀ i, i < edg n rg → eFr n X Y rg i (i + 1)) ∧ (¬ kd.toInt = 6 ∨ ∀ k, k < n → eRt n X Y k)) from (zp_t (by first | exact ⟨fun j hj => hall j (by omega), Or.inl (by omega)⟩ | exact ⟨fun j hj => hall j (by omega), Or.inr (by assumption)⟩ | exact fun h => h.2.elim (fun h => h (by omega)) (by assumption))).symm), by rw [ht]; exact hP9, hD9⟩, hS.F ht⟩) hS.2.2 dX7_isSound_47
        · have c_2 : kd.toInt = 6 := zc_eq rfl (by decide) c_2
          refine lv_aload_n hx hb dX7_isSound_35 rfl (lv_at hl 1 rfl) ?_
          have hPc := hP.sub (ws' := [(oc6 r (.ref rx) (.ref ry) (nI n) rg), (oa rx cI cap X), (oa ry cI cap Y)]) [0, 1, 2] rfl
          have hDc := hD.sub (ws' := [(oc6 r (.ref rx) (.ref ry) (nI n) rg), (oa rx cI cap X), (oa ry cI cap Y)]) [0, 1, 2] (by decide) rfl
          have hFc := va_free (wc := [(oc6 r (.ref rx) (.ref ry) (nI n) rg), (oa rx cI cap X), (oa ry cI cap Y)]) hD hS hA [0, 1, 2] rfl
          refine zcall (st1 := [.int (pI (∀ k, k < n → eRt n X Y k))]) (va_runV (As := []) (rest := []) ⟨hx, hb, hml, hown, hts⟩ (k_Row_hasRightAngles l dC dI cI cZ cF H.size r rx ry n cap X Y rg (by omega) (by omega) (by assumption)) (cwV 0 hts (zz_gV mw_552 mw_554 mw_6 mw_102 mc_yX7_hasRightAngles) rfl rfl rfl (by decide +kernel) ⟨Nat.le_of_ble_eq_true rfl, Nat.le_of_ble_eq_true rfl⟩) (zPV2 (q0 := 0) (ci := 6) hPc hDc hK hXN rfl rfl) rfl rfl hl.1 rfl (lv_room (Nat.le_of_ble_eq_true rfl)) dX7_isSound_36 ⟨Nat.le_of_ble_eq_true rfl, Nat.le_of_ble_eq_true rfl⟩) hS hFc hFc rfl (fun t H1 locs ht hB hk1 hS => ?_)
          obtain ⟨hP1, hD1⟩ := hB
          rw [ht] at hP1
          obtain ⟨hP, hD⟩ := va_join (wr := []) (w1 := [(oc6 r (.ref rx) (.ref ry) (nI n) rg), (oa rx cI cap X), (oa ry cI cap Y)]) hP hD [0, 1, 2] [] rfl rfl (by decide) (by decide) hk1 hFc hP1 hD1
          clear hk1 hPc hDc hFc hP1 hD1 ht
          generalize H1 = H at hP hS ⊢
          have hP : va_P (dC, dI) classes [(oc6 r (.ref rx) (.ref ry) (nI n) rg), (oa rx cI cap X), (oa ry cI cap Y)] H := hP
          have hD : va_D A [(oc6 r (.ref rx) (.ref ry) (nI n) rg), (oa rx cI cap X), (oa ry cI cap Y)] := hD
          refine lv_if_eq (tgt := 46) hx hb dX7_isSound_39 (by decide) (fun c_3 => ?_) (fun c_3 => ?_)
          · have c_3 : ¬ (∀ k, k < n → eRt n X Y k) := zp_0 c_3
            refine lv_iconst (v := 0) hx hb dX7_isSound_46 (by decide) ?_
            have hP9 := hP.sub (ws' := [(oc6 r (.ref rx) (.ref ry) (nI n) rg), (oa rx cI cap X), (oa ry cI cap Y)]) [0, 1, 2] rfl
            have hD9 := hD.sub (ws' := [(oc6 r (.ref rx) (.ref ry) (nI n) rg), (oa rx cI cap X), (oa ry cI cap Y)]) [0, 1, 2] (by decide) rfl
            rw [hQ9]
            exact W.zret (ty := .boolean) (v := 0) hx hb hr (rfl) (fun t ht hW => ⟨⟨congrArg (fun z => Outcome.returned (some (Value.int z))) (show (0 : Int32) = pI ((∀ i, i < edg n rg → eFr n X Y rg i (i + 1)) ∧ (¬ kd.toInt = 6 ∨ ∀ k, k < n → eRt n X Y k)) from (zp_f (by first | exact ⟨fun j hj => hall j (by omega), Or.inl (by omega)⟩ | exact ⟨fun j hj => hall j (by omega), Or.inr (by assumption)⟩ | exact fun h => h.2.elim (fun h => h (by omega)) (by assumption))).symm), by rw [ht]; exact hP9, hD9⟩, hS.F ht⟩) hS.2.2 dX7_isSound_47
          · have c_3 : ∀ k, k < n → eRt n X Y k := zp_1 c_3
            refine lv_iconst (v := 1) hx hb dX7_isSound_42 (by decide) ?_
            refine lv_goto (tgt := 47) hx hb dX7_isSound_43 (by decide) ?_
            have hP9 := hP.sub (ws' := [(oc6 r (.ref rx) (.ref ry) (nI n) rg), (oa rx cI cap X), (oa ry cI cap Y)]) [0, 1, 2] rfl
            have hD9 := hD.sub (ws' := [(oc6 r (.ref rx) (.ref ry) (nI n) rg), (oa rx cI cap X), (oa ry cI cap Y)]) [0, 1, 2] (by decide) rfl
            rw [hQ9]
            exact W.zret (ty := .boolean) (v := 1) hx hb hr (rfl) (fun t ht hW => ⟨⟨congrArg (fun z => Outcome.returned (some (Value.int z))) (show (1 : Int32) = pI ((∀ i, i < edg n rg → eFr n X Y rg i (i + 1)) ∧ (¬ kd.toInt = 6 ∨ ∀ k, k < n → eRt n X Y k)) from (zp_t (by first | exact ⟨fun j hj => hall j (by omega), Or.inl (by omega)⟩ | exact ⟨fun j hj => hall j (by omega), Or.inr (by assumption)⟩ | exact fun h => h.2.elim (fun h => h (by omega)) (by assumption))).symm), by rw [ht]; exact hP9, hD9⟩, hS.F ht⟩) hS.2.2 dX7_isSound_47
      · have c_1 : ((i : Nat) : Int) < ((edg n rg : Nat) : Int) := zc_nle (nI_toInt (by omega)) (nI_toInt (by omega)) c_1
        refine lv_aload_n hx hb dX7_isSound_10 rfl (lv_at hl 1 rfl) ?_
        refine lv_iload_n hx hb dX7_isSound_11 rfl (lv_at hl 0 rfl) ?_
        refine lv_iload_n hx hb dX7_isSound_12 rfl (lv_at hl 0 rfl) ?_
        refine lv_iconst (v := 1) hx hb dX7_isSound_13 (by decide) ?_
        refine lv_iadd hx hb dX7_isSound_14 ?_
        refine zz_i (v := nI (i + 1)) (nI_add i 1) ?_
        have hPc := hP.sub (ws' := [(oc6 r (.ref rx) (.ref ry) (nI n) rg), (oa rx cI cap X), (oa ry cI cap Y)]) [0, 1, 2] rfl
        have hDc := hD.sub (ws' := [(oc6 r (.ref rx) (.ref ry) (nI n) rg), (oa rx cI cap X), (oa ry cI cap Y)]) [0, 1, 2] (by decide) rfl
        have hFc := va_free (wc := [(oc6 r (.ref rx) (.ref ry) (nI n) rg), (oa rx cI cap X), (oa ry cI cap Y)]) hD hS hA [0, 1, 2] rfl
        refine zcall (st1 := [.int (pI (eFr n X Y rg i (i + 1)))]) (va_runV (As := [.int (nI i), .int (nI (i + 1))]) (rest := []) ⟨hx, hb, hml, hown, hts⟩ (k_Row_isEdgeFree l dC dI cI cZ cF H.size r rx ry n cap X Y rg i (i + 1) (by omega) (by omega) (by assumption) (by omega) (by omega)) (cwV 2 hts (zz_gV mw_532 mw_533 mw_534 mw_102 mc_yX7_isEdgeFree) rfl rfl rfl (by decide +kernel) ⟨Nat.le_of_ble_eq_true rfl, Nat.le_of_ble_eq_true rfl⟩) (zPV2 (q0 := 0) (ci := 6) hPc hDc hK hXN rfl rfl) rfl rfl hl.1 rfl (lv_room (Nat.le_of_ble_eq_true rfl)) dX7_isSound_15 ⟨Nat.le_of_ble_eq_true rfl, Nat.le_of_ble_eq_true rfl⟩) hS hFc hFc rfl (fun t H1 locs ht hB hk1 hS => ?_)
        obtain ⟨hP1, hD1⟩ := hB
        rw [ht] at hP1
        obtain ⟨hP, hD⟩ := va_join (wr := []) (w1 := [(oc6 r (.ref rx) (.ref ry) (nI n) rg), (oa rx cI cap X), (oa ry cI cap Y)]) hP hD [0, 1, 2] [] rfl rfl (by decide) (by decide) hk1 hFc hP1 hD1
        clear hk1 hPc hDc hFc hP1 hD1 ht
        generalize H1 = H at hP hS ⊢
        have hP : va_P (dC, dI) classes [(oc6 r (.ref rx) (.ref ry) (nI n) rg), (oa rx cI cap X), (oa ry cI cap Y)] H := hP
        have hD : va_D A [(oc6 r (.ref rx) (.ref ry) (nI n) rg), (oa rx cI cap X), (oa ry cI cap Y)] := hD
        refine lv_if_ne (tgt := 23) hx hb dX7_isSound_18 (by decide) (fun c_4 => ?_) (fun c_4 => ?_)
        · have c_4 : eFr n X Y rg i (i + 1) := zp_1 c_4
          refine lv_iinc (v := nI (i + 1)) (lv' := [(2, .int (nI (i + 1))), (0, .ref r), (1, .int kd)]) hx hb dX7_isSound_23 hl (k := 0) rfl (nI_add i 1) (by decide) rfl (fun ls hl => ?_)
          refine lv_goto (tgt := 2) hx hb dX7_isSound_26 (by decide) ?_
          exact ih_2 (i + 1) H locs ls (by omega) (by omega) (by intro j hj; rcases Nat.lt_or_ge j i with h | h; exact hall j h; have e9 : j = i := (by omega); subst e9; assumption) hP hD hS (lv_sub hl [0, 1, 2] rfl)
        · have c_4 : ¬ (eFr n X Y rg i (i + 1)) := zp_0 c_4
          refine lv_iconst (v := 0) hx hb dX7_isSound_21 (by decide) ?_
          have hP9 := hP.sub (ws' := [(oc6 r (.ref rx) (.ref ry) (nI n) rg), (oa rx cI cap X), (oa ry cI cap Y)]) [0, 1, 2] rfl
          have hD9 := hD.sub (ws' := [(oc6 r (.ref rx) (.ref ry) (nI n) rg), (oa rx cI cap X), (oa ry cI cap Y)]) [0, 1, 2] (by decide) rfl
          rw [hQ9]
          exact W.zret (ty := .boolean) (v := 0) hx hb hr (rfl) (fun t ht hW => ⟨⟨congrArg (fun z => Outcome.returned (some (Value.int z))) (show (0 : Int32) = pI ((∀ i, i < edg n rg → eFr n X Y rg i (i + 1)) ∧ (¬ kd.toInt = 6 ∨ ∀ k, k < n → eRt n X Y k)) from (zp_f (fun h => absurd (h.1 i (by omega)) (by assumption))).symm), by rw [ht]; exact hP9, hD9⟩, hS.F ht⟩) hS.2.2 dX7_isSound_22
  exact hl_2 _ 0 s.heap [] ls (Nat.lt_succ_self _) (by omega) (by intro j hj; omega) hP hD hS (lv_sub hl [0, 1, 2] rfl)
