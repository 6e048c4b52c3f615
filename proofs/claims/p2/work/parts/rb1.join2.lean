set_option maxHeartbeats 4000000 in
set_option maxRecDepth 100000 in
theorem k_M_join_4 (l : Launch) (dC : Nat → ClassId) (dI : Nat → Nat → Nat) (cI cZ cF : ClassId) (sz : Nat) (k0 : Nat) (a : Nat → Nat) (I0 : Nat → Int32) (J0 : Nat → Int64) (f : Nat) (n : Nat) (g : Nat) (m2 : Nat) (ft : Nat) (gp9 : Int32) (st : Nat → Int32) (tn : Nat → Int32) (kd : Nat → Int32) (mn : Nat → Int32) (cx : Nat → Int32) (cy : Nat → Int32) (S0 : Nat → Int32) (hft : I0 0 = nI ft) (h200 : ft ≤ 200) (hf_f : f ≤ 200) (hm_f : mn f = nI n) (hn_f : 1 ≤ n ∧ n ≤ 40) (hp_f : pls n (cF40 cx f) (cF40 cy f)) (hf_g : g ≤ 200) (hm_g : mn g = nI m2) (hn_g : 1 ≤ m2 ∧ m2 ≤ 40) (hp_g : pls m2 (cF40 cx g) (cF40 cy g)) (hf_t : f < ft) (hg_t : g < ft) (hok : ((st f).toInt = 1 ∧ (st g).toInt = 1) ∧ ((kd f).toInt = 6 ∧ (kd g).toInt = 6) ∧ (0 ≤ gp9.toInt ∧ gp9.toInt ≤ 1000) ∧ ((tn f).toInt = 0 ∧ (tn g).toInt = 0)) (hmt : ¬ mtF (kd f).toInt n (cF40 cx f) (cF40 cy f) (kd g).toInt m2 (cF40 cx g) (cF40 cy g)) (he_f : 1 ≤ eO (kd f).toInt n) (he_g : 1 ≤ eO (kd g).toInt m2) (hfar : ∀ u d : Nat, 1 ≤ d → IM (dcP n (cF40 cx f) (cF40 cy f) m2 (cF40 cx g) (cF40 cy g) (eO (kd g).toInt m2) (eO (kd f).toInt n) 0) ((u : Nat) : Int) ((d : Nat) : Int) → gp9.toInt * gp9.toInt * ((d : Nat) : Int) < ((u : Nat) : Int)) : Met l yX11_join (.code yX11_join cX11_join 9 (some .int) :: ws0) ({ frames := 5, cells := 0, slots := 0, locals := 129 } : Room) (va_Pc [.ref k0, .int (nI f), .int (nI g), .int gp9] (zPre (dC, dI) classes (zTy cI cZ cF) [(om k0 a I0 J0), (oa (a 5) cI 201 st), (oa (a 6) cZ 201 tn), (oa (a 1) cI 201 kd), (oa (a 11) cI 201 mn), (oa (a 12) cI 8040 cx), (oa (a 13) cI 8040 cy), (oa (a 32) cI 8 S0)] sz zXN)) (zQ (some (.int (-1))) (fun t => ∃ (uq : Nat), ∃ (dq : Nat), ∃ (S1 : Nat → Int32), va_P (dC, dI) classes [(om k0 a (upd (upd I0 14 4) 15 (I0 15)) (vp_updL (vp_updL J0 48 (jI ((uq : Nat) : Int))) 49 (jI ((dq : Nat) : Int)))), (oa (a 5) cI 201 st), (oa (a 6) cZ 201 tn), (oa (a 1) cI 201 kd), (oa (a 11) cI 201 mn), (oa (a 12) cI 8040 cx), (oa (a 13) cI 8040 cy), (oa (a 32) cI 8 S1)] t.heap ∧ va_D (va_A [(om k0 a I0 J0), (oa (a 5) cI 201 st), (oa (a 6) cZ 201 tn), (oa (a 1) cI 201 kd), (oa (a 11) cI 201 mn), (oa (a 12) cI 8040 cx), (oa (a 13) cI 8040 cy), (oa (a 32) cI 8 S0)] sz) [(om k0 a (upd (upd I0 14 4) 15 (I0 15)) (vp_updL (vp_updL J0 48 (jI ((uq : Nat) : Int))) 49 (jI ((dq : Nat) : Int)))), (oa (a 5) cI 201 st), (oa (a 6) cZ 201 tn), (oa (a 1) cI 201 kd), (oa (a 11) cI 201 mn), (oa (a 12) cI 8040 cx), (oa (a 13) cI 8040 cy), (oa (a 32) cI 8 S1)]) (va_A [(om k0 a I0 J0), (oa (a 5) cI 201 st), (oa (a 6) cZ 201 tn), (oa (a 1) cI 201 kd), (oa (a 11) cI 201 mn), (oa (a 12) cI 8040 cx), (oa (a 13) cI 8040 cy), (oa (a 32) cI 8 S0)] sz)) 0 0 (va_A [(om k0 a I0 J0), (oa (a 5) cI 201 st), (oa (a 6) cZ 201 tn), (oa (a 1) cI 201 kd), (oa (a 11) cI 201 mn), (oa (a 12) cI 8040 cx), (oa (a 13) cI 8040 cy), (oa (a 32) cI 8 S0)] sz) := by
  refine Met.ofW (cc := cX11_join) (maxL := 9) (ret := (some .int)) (by decide) rfl ?_
  intro p e s m args below meth c s₁ B hml hv
  obtain ⟨rfl, hsz, hP, hK, hD0, hXN⟩ := hv
  have hx := B.exec
  have hb := B.bytes
  have hr := B.returns
  have hts0 := atoms_spec (ws := .code yX11_join cX11_join 9 (some .int) :: ws0) B.pre
  have hts : ∀ w9 ∈ ws0, w9.before ([.ref k0, .int (nI f), .int (nI g), .int gp9] : List Value).toArray s = true := fun w9 h => hts0 w9 (List.mem_cons_of_mem _ h)
  have hown : s.vm.findClass "ScaleShopModel" = some m.cls := findClass_of_methodNamed B.named
  have hlocks := B.notSynchronized
  subst hsz
  have hD := hD0.self (sz := s.heap.size)
  clear hD0
  generalize hAe : va_A [(om k0 a I0 J0), (oa (a 5) cI 201 st), (oa (a 6) cZ 201 tn), (oa (a 1) cI 201 kd), (oa (a 11) cI 201 mn), (oa (a 12) cI 8040 cx), (oa (a 13) cI 8040 cy), (oa (a 32) cI 8 S0)] s.heap.size = A at hD ⊢
  have hA : ∀ q : Nat, s.heap.size ≤ q → A q := fun q h => by rw [← hAe]; exact Or.inr h
  clear hAe
  have hS : va_S A s.heap s.heap [] := va_S.rf
  have hP : va_P (dC, dI) classes [(om k0 a I0 J0), (oa (a 5) cI 201 st), (oa (a 6) cZ 201 tn), (oa (a 1) cI 201 kd), (oa (a 11) cI 201 mn), (oa (a 12) cI 8040 cx), (oa (a 13) cI 8040 cy), (oa (a 32) cI 8 S0)] s.heap := hP
  obtain ⟨Q9, hQ9⟩ : ∃ Q9 : State → Prop, Q9 = MQ below (zQ (some (.int (-1))) (fun t => ∃ (uq : Nat), ∃ (dq : Nat), ∃ (S1 : Nat → Int32), va_P (dC, dI) classes [(om k0 a (upd (upd I0 14 4) 15 (I0 15)) (vp_updL (vp_updL J0 48 (jI ((uq : Nat) : Int))) 49 (jI ((dq : Nat) : Int)))), (oa (a 5) cI 201 st), (oa (a 6) cZ 201 tn), (oa (a 1) cI 201 kd), (oa (a 11) cI 201 mn), (oa (a 12) cI 8040 cx), (oa (a 13) cI 8040 cy), (oa (a 32) cI 8 S1)] t.heap ∧ va_D A [(om k0 a (upd (upd I0 14 4) 15 (I0 15)) (vp_updL (vp_updL J0 48 (jI ((uq : Nat) : Int))) 49 (jI ((dq : Nat) : Int)))), (oa (a 5) cI 201 st), (oa (a 6) cZ 201 tn), (oa (a 1) cI 201 kd), (oa (a 11) cI 201 mn), (oa (a 12) cI 8040 cx), (oa (a 13) cI 8040 cy), (oa (a 32) cI 8 S1)]) A) ([.ref k0, .int (nI f), .int (nI g), .int gp9] : List Value).toArray s 0 0 A := ⟨_, rfl⟩
  rw [← hQ9]
  have hl := lv_entry ([.ref k0, .int (nI f), .int (nI g), .int gp9]) (n := 9) (Nat.le_of_ble_eq_true rfl)
  rw [lg_entry_eq]
  generalize (lg_sl ([.ref k0, .int (nI f), .int (nI g), .int gp9]) ++ List.replicate (9 - (lg_sl ([.ref k0, .int (nI f), .int (nI g), .int gp9])).length) Slot.unset).toArray = ls at hl ⊢
  have hl : lv_has ls 9 [(0, .ref k0), (1, .int (nI f)), (2, .int (nI g)), (3, .int gp9)] := hl
  refine lv_aload_n hx hb dX11_join_0 rfl (lv_at hl 0 rfl) ?_
  refine lv_iload_n hx hb dX11_join_1 rfl (lv_at hl 1 rfl) ?_
  have hPc := hP.sub (ws' := [(om k0 a I0 J0)]) [0] rfl
  have hDc := hD.sub (ws' := [(om k0 a I0 J0)]) [0] (by decide) rfl
  have hFc := va_free (wc := [(om k0 a I0 J0)]) hD hS hA [0] rfl
  refine zcall (st1 := [.int (pI (f < ft))]) (va_runV (As := [.int (nI f)]) (rest := []) ⟨hx, hb, hml, hown, hts⟩ (k_M_isFeature_n l dC dI cI cZ cF s.heap.size k0 a I0 J0 f ft (by assumption) (by omega) (by omega)) (cwV 1 hts (zz_gV mw_1345 mw_1347 mw_37 mw_110 mc_yX11_isFeature) rfl rfl rfl (by decide +kernel) ⟨Nat.le_of_ble_eq_true rfl, Nat.le_of_ble_eq_true rfl⟩) (zPV2 (q0 := 0) (ci := 9) hPc hDc hK hXN rfl rfl) rfl rfl hl.1 rfl (lv_room (Nat.le_of_ble_eq_true rfl)) dX11_join_2 ⟨Nat.le_of_ble_eq_true rfl, Nat.le_of_ble_eq_true rfl⟩) hS hFc hFc rfl (fun t H1 locs ht hB hk1 hS => ?_)
  obtain ⟨hP1, hD1⟩ := hB
  rw [ht] at hP1
  obtain ⟨hP, hD⟩ := va_join (wr := [(oa (a 5) cI 201 st), (oa (a 6) cZ 201 tn), (oa (a 1) cI 201 kd), (oa (a 11) cI 201 mn), (oa (a 12) cI 8040 cx), (oa (a 13) cI 8040 cy), (oa (a 32) cI 8 S0)]) (w1 := [(om k0 a I0 J0)]) hP hD [0] [1, 2, 3, 4, 5, 6, 7] rfl rfl (by decide) (by decide) hk1 hFc hP1 hD1
  clear hk1 hPc hDc hFc hP1 hD1 ht
  generalize H1 = H at hP hS ⊢
  have hP := hP.sub (ws' := [(om k0 a I0 J0), (oa (a 5) cI 201 st), (oa (a 6) cZ 201 tn), (oa (a 1) cI 201 kd), (oa (a 11) cI 201 mn), (oa (a 12) cI 8040 cx), (oa (a 13) cI 8040 cy), (oa (a 32) cI 8 S0)]) [7, 0, 1, 2, 3, 4, 5, 6] rfl
  have hD := hD.sub (ws' := [(om k0 a I0 J0), (oa (a 5) cI 201 st), (oa (a 6) cZ 201 tn), (oa (a 1) cI 201 kd), (oa (a 11) cI 201 mn), (oa (a 12) cI 8040 cx), (oa (a 13) cI 8040 cy), (oa (a 32) cI 8 S0)]) [7, 0, 1, 2, 3, 4, 5, 6] (by decide) rfl
  have hP : va_P (dC, dI) classes [(om k0 a I0 J0), (oa (a 5) cI 201 st), (oa (a 6) cZ 201 tn), (oa (a 1) cI 201 kd), (oa (a 11) cI 201 mn), (oa (a 12) cI 8040 cx), (oa (a 13) cI 8040 cy), (oa (a 32) cI 8 S0)] H := hP
  have hD : va_D A [(om k0 a I0 J0), (oa (a 5) cI 201 st), (oa (a 6) cZ 201 tn), (oa (a 1) cI 201 kd), (oa (a 11) cI 201 mn), (oa (a 12) cI 8040 cx), (oa (a 13) cI 8040 cy), (oa (a 32) cI 8 S0)] := hD
  refine lv_if_eq (tgt := 16) hx hb dX11_join_5 (by decide) (fun c_1 => ?_) (fun c_1 => ?_)
  · have c_1 : ¬ (f < ft) := zp_0 c_1
    exfalso; omega
  · have c_1 : f < ft := zp_1 c_1
    refine lv_aload_n hx hb dX11_join_8 rfl (lv_at hl 0 rfl) ?_
    refine lv_iload_n hx hb dX11_join_9 rfl (lv_at hl 2 rfl) ?_
    have hPc := hP.sub (ws' := [(om k0 a I0 J0)]) [0] rfl
    have hDc := hD.sub (ws' := [(om k0 a I0 J0)]) [0] (by decide) rfl
    have hFc := va_free (wc := [(om k0 a I0 J0)]) hD hS hA [0] rfl
    refine zcall (st1 := [.int (pI (g < ft))]) (va_runV (As := [.int (nI g)]) (rest := []) ⟨hx, hb, hml, hown, hts⟩ (k_M_isFeature_n l dC dI cI cZ cF H.size k0 a I0 J0 g ft (by assumption) (by omega) (by omega)) (cwV 1 hts (zz_gV mw_1345 mw_1347 mw_37 mw_110 mc_yX11_isFeature) rfl rfl rfl (by decide +kernel) ⟨Nat.le_of_ble_eq_true rfl, Nat.le_of_ble_eq_true rfl⟩) (zPV2 (q0 := 0) (ci := 9) hPc hDc hK hXN rfl rfl) rfl rfl hl.1 rfl (lv_room (Nat.le_of_ble_eq_true rfl)) dX11_join_10 ⟨Nat.le_of_ble_eq_true rfl, Nat.le_of_ble_eq_true rfl⟩) hS hFc hFc rfl (fun t H1 locs ht hB hk1 hS => ?_)
    obtain ⟨hP1, hD1⟩ := hB
    rw [ht] at hP1
    obtain ⟨hP, hD⟩ := va_join (wr := [(oa (a 5) cI 201 st), (oa (a 6) cZ 201 tn), (oa (a 1) cI 201 kd), (oa (a 11) cI 201 mn), (oa (a 12) cI 8040 cx), (oa (a 13) cI 8040 cy), (oa (a 32) cI 8 S0)]) (w1 := [(om k0 a I0 J0)]) hP hD [0] [1, 2, 3, 4, 5, 6, 7] rfl rfl (by decide) (by decide) hk1 hFc hP1 hD1
    clear hk1 hPc hDc hFc hP1 hD1 ht
    generalize H1 = H at hP hS ⊢
    have hP := hP.sub (ws' := [(om k0 a I0 J0), (oa (a 5) cI 201 st), (oa (a 6) cZ 201 tn), (oa (a 1) cI 201 kd), (oa (a 11) cI 201 mn), (oa (a 12) cI 8040 cx), (oa (a 13) cI 8040 cy), (oa (a 32) cI 8 S0)]) [7, 0, 1, 2, 3, 4, 5, 6] rfl
    have hD := hD.sub (ws' := [(om k0 a I0 J0), (oa (a 5) cI 201 st), (oa (a 6) cZ 201 tn), (oa (a 1) cI 201 kd), (oa (a 11) cI 201 mn), (oa (a 12) cI 8040 cx), (oa (a 13) cI 8040 cy), (oa (a 32) cI 8 S0)]) [7, 0, 1, 2, 3, 4, 5, 6] (by decide) rfl
    have hP : va_P (dC, dI) classes [(om k0 a I0 J0), (oa (a 5) cI 201 st), (oa (a 6) cZ 201 tn), (oa (a 1) cI 201 kd), (oa (a 11) cI 201 mn), (oa (a 12) cI 8040 cx), (oa (a 13) cI 8040 cy), (oa (a 32) cI 8 S0)] H := hP
    have hD : va_D A [(om k0 a I0 J0), (oa (a 5) cI 201 st), (oa (a 6) cZ 201 tn), (oa (a 1) cI 201 kd), (oa (a 11) cI 201 mn), (oa (a 12) cI 8040 cx), (oa (a 13) cI 8040 cy), (oa (a 32) cI 8 S0)] := hD
    refine lv_if_ne (tgt := 20) hx hb dX11_join_13 (by decide) (fun c_2 => ?_) (fun c_2 => ?_)
    · have c_2 : g < ft := zp_1 c_2
      refine lv_aload_n hx hb dX11_join_20 rfl (lv_at hl 0 rfl) ?_
      refine va_get (D := (dC, dI)) (ci := 9) (v := .ref (a 5)) (C := RX11) (T := TX11) (N := 55) hx hb hts inX11 hown hK hP 0 rfl rfl 5 (by decide) (hts _ mw_1164) (fun _ h9 => h9) rfl dX11_join_21 ?_
      refine lv_iload_n hx hb dX11_join_24 rfl (lv_at hl 1 rfl) ?_
      refine z_iald hx hb hK hP 1 0 rfl rfl (e := f) rfl (by omega) (by omega) dX11_join_25 ?_
      refine lv_iconst (v := 1) hx hb dX11_join_26 (by decide) ?_
      refine lv_icmp_ne (tgt := 40) hx hb dX11_join_27 (by decide) (fun c_3 => ?_) (fun c_3 => ?_)
      · have c_3 : ¬ (st f).toInt = 1 := zc_ne rfl (by decide) c_3
        exfalso; omega
      · have c_3 : (st f).toInt = 1 := zc_eq rfl (by decide) c_3
        refine lv_aload_n hx hb dX11_join_30 rfl (lv_at hl 0 rfl) ?_
        refine va_get (D := (dC, dI)) (ci := 9) (v := .ref (a 5)) (C := RX11) (T := TX11) (N := 55) hx hb hts inX11 hown hK hP 0 rfl rfl 5 (by decide) (hts _ mw_1164) (fun _ h9 => h9) rfl dX11_join_31 ?_
        refine lv_iload_n hx hb dX11_join_34 rfl (lv_at hl 2 rfl) ?_
        refine z_iald hx hb hK hP 1 0 rfl rfl (e := g) rfl (by omega) (by omega) dX11_join_35 ?_
        refine lv_iconst (v := 1) hx hb dX11_join_36 (by decide) ?_
        refine lv_icmp_eq (tgt := 44) hx hb dX11_join_37 (by decide) (fun c_4 => ?_) (fun c_4 => ?_)
        · have c_4 : (st g).toInt = 1 := zc_eq rfl (by decide) c_4
          refine lv_iconst (v := 0) hx hb dX11_join_44 (by decide) ?_
          refine lv_istore (lv' := [(4, .int 0), (0, .ref k0), (1, .int (nI f)), (2, .int (nI g)), (3, .int gp9)]) hx hb dX11_join_45 hl (by decide) rfl (fun ls hl => ?_)
          refine lv_iload hx hb dX11_join_47 (lv_at hl 0 rfl) ?_
          refine lv_if_le (tgt := 57) hx hb dX11_join_49 (by decide) (fun c_5 => ?_) (fun c_5 => ?_)
          · refine lv_aload_n hx hb dX11_join_57 rfl (lv_at hl 1 rfl) ?_
            refine va_get (D := (dC, dI)) (ci := 9) (v := .ref (a 1)) (C := RX11) (T := TX11) (N := 55) hx hb hts inX11 hown hK hP 0 rfl rfl 1 (by decide) (hts _ mw_1160) (fun _ h9 => h9) rfl dX11_join_58 ?_
            refine lv_iload_n hx hb dX11_join_61 rfl (lv_at hl 2 rfl) ?_
            refine z_iald hx hb hK hP 3 0 rfl rfl (e := f) rfl (by omega) (by omega) dX11_join_62 ?_
            refine lv_bipush (v := 6) hx hb dX11_join_63 (by decide) ?_
            refine lv_icmp_ne (tgt := 79) hx hb dX11_join_65 (by decide) (fun c_6 => ?_) (fun c_6 => ?_)
            · have c_6 : ¬ (kd f).toInt = 6 := zc_ne rfl (by decide) c_6
              exfalso; omega
            · have c_6 : (kd f).toInt = 6 := zc_eq rfl (by decide) c_6
              refine lv_aload_n hx hb dX11_join_68 rfl (lv_at hl 1 rfl) ?_
              refine va_get (D := (dC, dI)) (ci := 9) (v := .ref (a 1)) (C := RX11) (T := TX11) (N := 55) hx hb hts inX11 hown hK hP 0 rfl rfl 1 (by decide) (hts _ mw_1160) (fun _ h9 => h9) rfl dX11_join_69 ?_
              refine lv_iload_n hx hb dX11_join_72 rfl (lv_at hl 3 rfl) ?_
              refine z_iald hx hb hK hP 3 0 rfl rfl (e := g) rfl (by omega) (by omega) dX11_join_73 ?_
              refine lv_bipush (v := 6) hx hb dX11_join_74 (by decide) ?_
              refine lv_icmp_eq (tgt := 83) hx hb dX11_join_76 (by decide) (fun c_7 => ?_) (fun c_7 => ?_)
              · have c_7 : (kd g).toInt = 6 := zc_eq rfl (by decide) c_7
                refine lv_iload_n hx hb dX11_join_83 rfl (lv_at hl 4 rfl) ?_
                refine lv_if_lt (tgt := 94) hx hb dX11_join_84 (by decide) (fun c_8 => ?_) (fun c_8 => ?_)
                · have c_8 : gp9.toInt < 0 := zc_lt rfl (by decide) c_8
                  exfalso; omega
                · have c_8 : 0 ≤ gp9.toInt := zc_nlt rfl (by decide) c_8
                  refine lv_iload_n hx hb dX11_join_87 rfl (lv_at hl 4 rfl) ?_
                  refine lv_sipush (v := 1000) hx hb dX11_join_88 (by decide) ?_
                  refine lv_icmp_le (tgt := 98) hx hb dX11_join_91 (by decide) (fun c_9 => ?_) (fun c_9 => ?_)
                  · have c_9 : gp9.toInt ≤ 1000 := zc_le rfl (by decide) c_9
                    refine lv_aload_n hx hb dX11_join_98 rfl (lv_at hl 1 rfl) ?_
                    refine va_get (D := (dC, dI)) (ci := 9) (v := .ref (a 6)) (C := RX11) (T := TX11) (N := 55) hx hb hts inX11 hown hK hP 0 rfl rfl 6 (by decide) (hts _ mw_1165) (fun _ h9 => h9) rfl dX11_join_99 ?_
                    refine lv_iload_n hx hb dX11_join_102 rfl (lv_at hl 2 rfl) ?_
                    refine z_zald hx hb hK hP 2 1 rfl rfl (e := f) rfl (by omega) (by omega) dX11_join_103 ?_
                    refine lv_if_ne (tgt := 116) hx hb dX11_join_104 (by decide) (fun c_10 => ?_) (fun c_10 => ?_)
                    · have c_10 : ¬ (tn f).toInt = 0 := zc_ne rfl (by decide) c_10
                      exfalso; omega
                    · have c_10 : (tn f).toInt = 0 := zc_eq rfl (by decide) c_10
                      refine lv_aload_n hx hb dX11_join_107 rfl (lv_at hl 1 rfl) ?_
                      refine va_get (D := (dC, dI)) (ci := 9) (v := .ref (a 6)) (C := RX11) (T := TX11) (N := 55) hx hb hts inX11 hown hK hP 0 rfl rfl 6 (by decide) (hts _ mw_1165) (fun _ h9 => h9) rfl dX11_join_108 ?_
                      refine lv_iload_n hx hb dX11_join_111 rfl (lv_at hl 3 rfl) ?_
                      refine z_zald hx hb hK hP 2 1 rfl rfl (e := g) rfl (by omega) (by omega) dX11_join_112 ?_
                      refine lv_if_eq (tgt := 120) hx hb dX11_join_113 (by decide) (fun c_11 => ?_) (fun c_11 => ?_)
                      · have c_11 : (tn g).toInt = 0 := zc_eq rfl (by decide) c_11
                        refine lv_iconst (v := 0) hx hb dX11_join_120 (by decide) ?_
                        refine lv_istore (lv' := [(4, .int 0), (0, .ref k0), (1, .int (nI f)), (2, .int (nI g)), (3, .int gp9)]) hx hb dX11_join_121 hl (by decide) rfl (fun ls hl => ?_)
                        refine lv_iload hx hb dX11_join_123 (lv_at hl 0 rfl) ?_
                        refine lv_if_le (tgt := 135) hx hb dX11_join_125 (by decide) (fun c_12 => ?_) (fun c_12 => ?_)
                        · refine lv_aload_n hx hb dX11_join_135 rfl (lv_at hl 1 rfl) ?_
                          refine lv_iload_n hx hb dX11_join_136 rfl (lv_at hl 2 rfl) ?_
                          refine lv_iload_n hx hb dX11_join_137 rfl (lv_at hl 3 rfl) ?_
                          have hPc := hP.sub (ws' := [(om k0 a I0 J0), (oa (a 1) cI 201 kd), (oa (a 11) cI 201 mn), (oa (a 12) cI 8040 cx), (oa (a 13) cI 8040 cy), (oa (a 32) cI 8 S0)]) [0, 3, 4, 5, 6, 7] rfl
                          have hDc := hD.sub (ws' := [(om k0 a I0 J0), (oa (a 1) cI 201 kd), (oa (a 11) cI 201 mn), (oa (a 12) cI 8040 cx), (oa (a 13) cI 8040 cy), (oa (a 32) cI 8 S0)]) [0, 3, 4, 5, 6, 7] (by decide) rfl
                          have hFc := va_free (wc := [(om k0 a I0 J0), (oa (a 1) cI 201 kd), (oa (a 11) cI 201 mn), (oa (a 12) cI 8040 cx), (oa (a 13) cI 8040 cy), (oa (a 32) cI 8 S0)]) hD hS hA [0, 3, 4, 5, 6, 7] rfl
                          refine zcall (st1 := []) (va_runV (As := [.int (nI f), .int (nI g)]) (rest := []) ⟨hx, hb, hml, hown, hts⟩ (k_M_distance_n l dC dI cI cZ cF H.size k0 a I0 J0 f n g m2 kd mn cx cy S0 (by omega) (by assumption) (by omega) (by assumption) (by omega) (by assumption) (by omega) (by assumption) (hmt) (he_f) (he_g)) (cwV 2 hts (zz_gV mw_1588 mw_1590 mw_84 mw_110 mc_yX11_distance) rfl rfl rfl (by decide +kernel) ⟨Nat.le_of_ble_eq_true rfl, Nat.le_of_ble_eq_true rfl⟩) (zPV2 (q0 := 0) (ci := 9) hPc hDc hK hXN rfl rfl) rfl rfl hl.1 rfl (lv_room (Nat.le_of_ble_eq_true rfl)) dX11_join_138 ⟨Nat.le_of_ble_eq_true rfl, Nat.le_of_ble_eq_true rfl⟩) hS hFc hFc rfl (fun t H1 locs ht hB hk1 hS => ?_)
                          obtain ⟨un, dd, S1, hmin, hub, hP1, hD1⟩ := hB
                          rw [ht] at hP1
                          obtain ⟨hP, hD⟩ := va_join (wr := [(oa (a 5) cI 201 st), (oa (a 6) cZ 201 tn)]) (w1 := [(om k0 a I0 (vp_updL (vp_updL J0 48 (jI ((un / Nat.gcd un dd : Nat) : Int))) 49 (jI ((dd / Nat.gcd un dd : Nat) : Int)))), (oa (a 1) cI 201 kd), (oa (a 11) cI 201 mn), (oa (a 12) cI 8040 cx), (oa (a 13) cI 8040 cy), (oa (a 32) cI 8 S1)]) hP hD [0, 3, 4, 5, 6, 7] [1, 2] rfl rfl (by decide) (by decide) hk1 hFc hP1 hD1
                          clear hk1 hPc hDc hFc hP1 hD1 ht
                          generalize H1 = H at hP hS ⊢
                          have hP := hP.sub (ws' := [(om k0 a I0 (vp_updL (vp_updL J0 48 (jI ((un / Nat.gcd un dd : Nat) : Int))) 49 (jI ((dd / Nat.gcd un dd : Nat) : Int)))), (oa (a 5) cI 201 st), (oa (a 6) cZ 201 tn), (oa (a 1) cI 201 kd), (oa (a 11) cI 201 mn), (oa (a 12) cI 8040 cx), (oa (a 13) cI 8040 cy), (oa (a 32) cI 8 S1)]) [2, 0, 1, 3, 4, 5, 6, 7] rfl
                          have hD := hD.sub (ws' := [(om k0 a I0 (vp_updL (vp_updL J0 48 (jI ((un / Nat.gcd un dd : Nat) : Int))) 49 (jI ((dd / Nat.gcd un dd : Nat) : Int)))), (oa (a 5) cI 201 st), (oa (a 6) cZ 201 tn), (oa (a 1) cI 201 kd), (oa (a 11) cI 201 mn), (oa (a 12) cI 8040 cx), (oa (a 13) cI 8040 cy), (oa (a 32) cI 8 S1)]) [2, 0, 1, 3, 4, 5, 6, 7] (by decide) rfl
                          have hP : va_P (dC, dI) classes [(om k0 a I0 (vp_updL (vp_updL J0 48 (jI ((un / Nat.gcd un dd : Nat) : Int))) 49 (jI ((dd / Nat.gcd un dd : Nat) : Int)))), (oa (a 5) cI 201 st), (oa (a 6) cZ 201 tn), (oa (a 1) cI 201 kd), (oa (a 11) cI 201 mn), (oa (a 12) cI 8040 cx), (oa (a 13) cI 8040 cy), (oa (a 32) cI 8 S1)] H := hP
                          have hD : va_D A [(om k0 a I0 (vp_updL (vp_updL J0 48 (jI ((un / Nat.gcd un dd : Nat) : Int))) 49 (jI ((dd / Nat.gcd un dd : Nat) : Int)))), (oa (a 5) cI 201 st), (oa (a 6) cZ 201 tn), (oa (a 1) cI 201 kd), (oa (a 11) cI 201 mn), (oa (a 12) cI 8040 cx), (oa (a 13) cI 8040 cy), (oa (a 32) cI 8 S1)] := hD
                          have hge := Nat.gcd_pos_of_pos_right un (show 0 < dd by omega)
                          have hq1 : un / Nat.gcd un dd ≤ un := Nat.div_le_self _ _
                          have hq2 : dd / Nat.gcd un dd ≤ dd := Nat.div_le_self _ _
                          have hcm := rd_lt (c := gp9.toInt * gp9.toInt) (u := un) (d := dd) hub.2.1
                          obtain ⟨uq, huq⟩ : ∃ uq, uq = un / Nat.gcd un dd := ⟨_, rfl⟩
                          obtain ⟨dq, hdq⟩ : ∃ dq, dq = dd / Nat.gcd un dd := ⟨_, rfl⟩
                          rw [← huq, ← hdq] at hP hD hcm
                          rw [← huq] at hq1
                          rw [← hdq] at hq2
                          have hgb := gpB9 (g := gp9) (D := dq) hok.2.2.1 (by omega)
                          refine lv_aload_n hx hb dX11_join_141 rfl (lv_at hl 1 rfl) ?_
                          refine va_get (D := (dC, dI)) (ci := 9) (v := .long (jI ((uq : Nat) : Int))) (C := RX11) (T := TX11) (N := 55) hx hb hts inX11 hown hK hP 0 rfl rfl 48 (by decide) (hts _ mw_1207) (fun _ h9 => h9) rfl dX11_join_142 ?_
                          refine lv_iload_n hx hb dX11_join_145 rfl (lv_at hl 4 rfl) ?_
                          refine lv_i2l (v := gp9.toInt64) hx hb dX11_join_146 (rfl) ?_
                          refine lv_iload_n hx hb dX11_join_147 rfl (lv_at hl 4 rfl) ?_
                          refine lv_i2l (v := gp9.toInt64) hx hb dX11_join_148 (rfl) ?_
                          refine lv_lmul hx hb dX11_join_149 ?_
                          refine lv_aload_n hx hb dX11_join_150 rfl (lv_at hl 1 rfl) ?_
                          refine va_get (D := (dC, dI)) (ci := 9) (v := .long (jI ((dq : Nat) : Int))) (C := RX11) (T := TX11) (N := 55) hx hb hts inX11 hown hK hP 0 rfl rfl 49 (by decide) (hts _ mw_1208) (fun _ h9 => h9) rfl dX11_join_151 ?_
                          refine lv_lmul hx hb dX11_join_154 ?_
                          refine zz_l (v := jI (gp9.toInt * gp9.toInt * ((dq : Nat) : Int))) (gpL hok.2.2.1 (by omega)) ?_
                          refine W.lcmp hx hb dX11_join_155 ?_
                          refine lv_if_le (tgt := 165) hx hb dX11_join_156 (by decide) (fun c_13 => ?_) (fun c_13 => ?_)
                          · have c_13 : ((uq : Nat) : Int) ≤ (gp9.toInt * gp9.toInt * ((dq : Nat) : Int)) := zl_le (jI_toInt (by omega)) (jI_toInt (by omega)) c_13
                            exfalso; have h9 := hcm.mpr (hfar un dd hub.2.1 hmin); omega
                          · have c_13 : (gp9.toInt * gp9.toInt * ((dq : Nat) : Int)) < ((uq : Nat) : Int) := zl_nle (jI_toInt (by omega)) (jI_toInt (by omega)) c_13
                            refine lv_aload_n hx hb dX11_join_159 rfl (lv_at hl 1 rfl) ?_
                            refine lv_iconst (v := 4) hx hb dX11_join_160 (by decide) ?_
                            have hPc := hP.sub (ws' := [(om k0 a I0 (vp_updL (vp_updL J0 48 (jI ((uq : Nat) : Int))) 49 (jI ((dq : Nat) : Int))))]) [0] rfl
                            have hDc := hD.sub (ws' := [(om k0 a I0 (vp_updL (vp_updL J0 48 (jI ((uq : Nat) : Int))) 49 (jI ((dq : Nat) : Int))))]) [0] (by decide) rfl
                            have hFc := va_free (wc := [(om k0 a I0 (vp_updL (vp_updL J0 48 (jI ((uq : Nat) : Int))) 49 (jI ((dq : Nat) : Int))))]) hD hS hA [0] rfl
                            refine zcall (st1 := [.int (-1)]) (va_runV (As := [.int 4]) (rest := []) ⟨hx, hb, hml, hown, hts⟩ (k_M_refuse l dC dI cI cZ cF H.size k0 a I0 (vp_updL (vp_updL J0 48 (jI ((uq : Nat) : Int))) 49 (jI ((dq : Nat) : Int))) 4 (by decide)) (cwV 1 hts (zz_gV mw_1329 mw_1331 mw_34 mw_110 mc_yX11_refuse) rfl rfl rfl (by decide +kernel) ⟨Nat.le_of_ble_eq_true rfl, Nat.le_of_ble_eq_true rfl⟩) (zPV2 (q0 := 0) (ci := 9) hPc hDc hK hXN rfl rfl) rfl rfl hl.1 rfl (lv_room (Nat.le_of_ble_eq_true rfl)) dX11_join_161 ⟨Nat.le_of_ble_eq_true rfl, Nat.le_of_ble_eq_true rfl⟩) hS hFc hFc rfl (fun t H1 locs ht hB hk1 hS => ?_)
                            obtain ⟨hP1, hD1⟩ := hB
                            rw [ht] at hP1
                            obtain ⟨hP, hD⟩ := va_join (wr := [(oa (a 5) cI 201 st), (oa (a 6) cZ 201 tn), (oa (a 1) cI 201 kd), (oa (a 11) cI 201 mn), (oa (a 12) cI 8040 cx), (oa (a 13) cI 8040 cy), (oa (a 32) cI 8 S1)]) (w1 := [(om k0 a (upd (upd I0 14 4) 15 (I0 15)) (vp_updL (vp_updL J0 48 (jI ((uq : Nat) : Int))) 49 (jI ((dq : Nat) : Int))))]) hP hD [0] [1, 2, 3, 4, 5, 6, 7] rfl rfl (by decide) (by decide) hk1 hFc hP1 hD1
                            clear hk1 hPc hDc hFc hP1 hD1 ht
                            generalize H1 = H at hP hS ⊢
                            have hP := hP.sub (ws' := [(om k0 a (upd (upd I0 14 4) 15 (I0 15)) (vp_updL (vp_updL J0 48 (jI ((uq : Nat) : Int))) 49 (jI ((dq : Nat) : Int)))), (oa (a 5) cI 201 st), (oa (a 6) cZ 201 tn), (oa (a 1) cI 201 kd), (oa (a 11) cI 201 mn), (oa (a 12) cI 8040 cx), (oa (a 13) cI 8040 cy), (oa (a 32) cI 8 S1)]) [7, 0, 1, 2, 3, 4, 5, 6] rfl
                            have hD := hD.sub (ws' := [(om k0 a (upd (upd I0 14 4) 15 (I0 15)) (vp_updL (vp_updL J0 48 (jI ((uq : Nat) : Int))) 49 (jI ((dq : Nat) : Int)))), (oa (a 5) cI 201 st), (oa (a 6) cZ 201 tn), (oa (a 1) cI 201 kd), (oa (a 11) cI 201 mn), (oa (a 12) cI 8040 cx), (oa (a 13) cI 8040 cy), (oa (a 32) cI 8 S1)]) [7, 0, 1, 2, 3, 4, 5, 6] (by decide) rfl
                            have hP : va_P (dC, dI) classes [(om k0 a (upd (upd I0 14 4) 15 (I0 15)) (vp_updL (vp_updL J0 48 (jI ((uq : Nat) : Int))) 49 (jI ((dq : Nat) : Int)))), (oa (a 5) cI 201 st), (oa (a 6) cZ 201 tn), (oa (a 1) cI 201 kd), (oa (a 11) cI 201 mn), (oa (a 12) cI 8040 cx), (oa (a 13) cI 8040 cy), (oa (a 32) cI 8 S1)] H := hP
                            have hD : va_D A [(om k0 a (upd (upd I0 14 4) 15 (I0 15)) (vp_updL (vp_updL J0 48 (jI ((uq : Nat) : Int))) 49 (jI ((dq : Nat) : Int)))), (oa (a 5) cI 201 st), (oa (a 6) cZ 201 tn), (oa (a 1) cI 201 kd), (oa (a 11) cI 201 mn), (oa (a 12) cI 8040 cx), (oa (a 13) cI 8040 cy), (oa (a 32) cI 8 S1)] := hD
                            have hP9 := hP.sub (ws' := [(om k0 a (upd (upd I0 14 4) 15 (I0 15)) (vp_updL (vp_updL J0 48 (jI ((uq : Nat) : Int))) 49 (jI ((dq : Nat) : Int)))), (oa (a 5) cI 201 st), (oa (a 6) cZ 201 tn), (oa (a 1) cI 201 kd), (oa (a 11) cI 201 mn), (oa (a 12) cI 8040 cx), (oa (a 13) cI 8040 cy), (oa (a 32) cI 8 S1)]) [0, 1, 2, 3, 4, 5, 6, 7] rfl
                            have hD9 := hD.sub (ws' := [(om k0 a (upd (upd I0 14 4) 15 (I0 15)) (vp_updL (vp_updL J0 48 (jI ((uq : Nat) : Int))) 49 (jI ((dq : Nat) : Int)))), (oa (a 5) cI 201 st), (oa (a 6) cZ 201 tn), (oa (a 1) cI 201 kd), (oa (a 11) cI 201 mn), (oa (a 12) cI 8040 cx), (oa (a 13) cI 8040 cy), (oa (a 32) cI 8 S1)]) [0, 1, 2, 3, 4, 5, 6, 7] (by decide) rfl
                            rw [hQ9]
                            exact W.iret (v := (-1)) hx hb hr (fun t ht hW => ⟨⟨rfl, uq, dq, S1, by rw [ht]; exact hP9, hD9⟩, hS.F ht⟩) hS.2.2 dX11_join_164
                        · exact absurd (by decide) c_12
                      · have c_11 : ¬ (tn g).toInt = 0 := zc_ne rfl (by decide) c_11
                        exfalso; omega
                  · have c_9 : 1000 < gp9.toInt := zc_nle rfl (by decide) c_9
                    exfalso; omega
              · have c_7 : ¬ (kd g).toInt = 6 := zc_ne rfl (by decide) c_7
                exfalso; omega
          · exact absurd (by decide) c_5
        · have c_4 : ¬ (st g).toInt = 1 := zc_ne rfl (by decide) c_4
          exfalso; omega
    · have c_2 : ¬ (g < ft) := zp_0 c_2
      exfalso; omega
