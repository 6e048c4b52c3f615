set_option maxHeartbeats 4000000 in
set_option maxRecDepth 100000 in
theorem k_M_told_a (l : Launch) (dC : Nat → ClassId) (dI : Nat → Nat → Nat) (cI cZ cF : ClassId) (sz : Nat) (k0 : Nat) (a : Nat → Nat) (I0 : Nat → Int32) (J0 : Nat → Int64) (f : Nat) (ft : Nat) (w : Int32) (kd : Nat → Int32) (rk : Nat → Int32) (wd : Nat → Int32) (tw : Nat → Int32) (mn : Nat → Int32) (st : Nat → Int32) (tn : Nat → Int32) (gb : Nat → Int32) (pa : Nat → Int32) (pb : Nat → Int32) (it : Nat → Int32) (hft : I0 0 = nI ft) (h200 : ft ≤ 200) (hf_t : f < ft) : Met l yX11_told (.code yX11_told cX11_told 3 (some .int) :: ws0) ({ frames := 1, cells := 0, slots := 0, locals := 21 } : Room) (va_Pc [.ref k0, .int (nI f), .int w] (zPre (dC, dI) classes (zTy cI cZ cF) [(om k0 a I0 J0), (oa (a 1) cI 201 kd), (oa (a 2) cI 201 rk), (oa (a 3) cI 201 wd), (oa (a 4) cI 201 tw), (oa (a 11) cI 201 mn), (oa (a 5) cI 201 st), (oa (a 6) cZ 201 tn), (oa (a 7) cI 201 gb), (oa (a 8) cI 201 pa), (oa (a 9) cI 201 pb), (oa (a 10) cI 201 it)] sz zXN)) (zQe (fun v9 t => ∃ (b9 : Int32), v9 = (some (.int b9)) ∧ va_P (dC, dI) classes [(om k0 a I0 J0), (oa (a 1) cI 201 kd), (oa (a 2) cI 201 rk), (oa (a 3) cI 201 wd), (oa (a 4) cI 201 tw), (oa (a 11) cI 201 mn), (oa (a 5) cI 201 st), (oa (a 6) cZ 201 tn), (oa (a 7) cI 201 gb), (oa (a 8) cI 201 pa), (oa (a 9) cI 201 pb), (oa (a 10) cI 201 it)] t.heap ∧ va_D (va_A [(om k0 a I0 J0), (oa (a 1) cI 201 kd), (oa (a 2) cI 201 rk), (oa (a 3) cI 201 wd), (oa (a 4) cI 201 tw), (oa (a 11) cI 201 mn), (oa (a 5) cI 201 st), (oa (a 6) cZ 201 tn), (oa (a 7) cI 201 gb), (oa (a 8) cI 201 pa), (oa (a 9) cI 201 pb), (oa (a 10) cI 201 it)] sz) [(om k0 a I0 J0), (oa (a 1) cI 201 kd), (oa (a 2) cI 201 rk), (oa (a 3) cI 201 wd), (oa (a 4) cI 201 tw), (oa (a 11) cI 201 mn), (oa (a 5) cI 201 st), (oa (a 6) cZ 201 tn), (oa (a 7) cI 201 gb), (oa (a 8) cI 201 pa), (oa (a 9) cI 201 pb), (oa (a 10) cI 201 it)]) (va_A [(om k0 a I0 J0), (oa (a 1) cI 201 kd), (oa (a 2) cI 201 rk), (oa (a 3) cI 201 wd), (oa (a 4) cI 201 tw), (oa (a 11) cI 201 mn), (oa (a 5) cI 201 st), (oa (a 6) cZ 201 tn), (oa (a 7) cI 201 gb), (oa (a 8) cI 201 pa), (oa (a 9) cI 201 pb), (oa (a 10) cI 201 it)] sz)) 0 0 (va_A [(om k0 a I0 J0), (oa (a 1) cI 201 kd), (oa (a 2) cI 201 rk), (oa (a 3) cI 201 wd), (oa (a 4) cI 201 tw), (oa (a 11) cI 201 mn), (oa (a 5) cI 201 st), (oa (a 6) cZ 201 tn), (oa (a 7) cI 201 gb), (oa (a 8) cI 201 pa), (oa (a 9) cI 201 pb), (oa (a 10) cI 201 it)] sz) := by
  refine Met.ofW (cc := cX11_told) (maxL := 3) (ret := (some .int)) (by decide) rfl ?_
  intro p e s m args below meth c s₁ B hml hv
  obtain ⟨rfl, hsz, hP, hK, hD0, hXN⟩ := hv
  have hx := B.exec
  have hb := B.bytes
  have hr := B.returns
  have hts0 := atoms_spec (ws := .code yX11_told cX11_told 3 (some .int) :: ws0) B.pre
  have hts : ∀ w9 ∈ ws0, w9.before ([.ref k0, .int (nI f), .int w] : List Value).toArray s = true := fun w9 h => hts0 w9 (List.mem_cons_of_mem _ h)
  have hown : s.vm.findClass "ScaleShopModel" = some m.cls := findClass_of_methodNamed B.named
  have hlocks := B.notSynchronized
  subst hsz
  have hD := hD0.self (sz := s.heap.size)
  clear hD0
  generalize hAe : va_A [(om k0 a I0 J0), (oa (a 1) cI 201 kd), (oa (a 2) cI 201 rk), (oa (a 3) cI 201 wd), (oa (a 4) cI 201 tw), (oa (a 11) cI 201 mn), (oa (a 5) cI 201 st), (oa (a 6) cZ 201 tn), (oa (a 7) cI 201 gb), (oa (a 8) cI 201 pa), (oa (a 9) cI 201 pb), (oa (a 10) cI 201 it)] s.heap.size = A at hD ⊢
  have hA : ∀ q : Nat, s.heap.size ≤ q → A q := fun q h => by rw [← hAe]; exact Or.inr h
  clear hAe
  have hS : va_S A s.heap s.heap [] := va_S.rf
  have hP : va_P (dC, dI) classes [(om k0 a I0 J0), (oa (a 1) cI 201 kd), (oa (a 2) cI 201 rk), (oa (a 3) cI 201 wd), (oa (a 4) cI 201 tw), (oa (a 11) cI 201 mn), (oa (a 5) cI 201 st), (oa (a 6) cZ 201 tn), (oa (a 7) cI 201 gb), (oa (a 8) cI 201 pa), (oa (a 9) cI 201 pb), (oa (a 10) cI 201 it)] s.heap := hP
  obtain ⟨Q9, hQ9⟩ : ∃ Q9 : State → Prop, Q9 = MQ below (zQe (fun v9 t => ∃ (b9 : Int32), v9 = (some (.int b9)) ∧ va_P (dC, dI) classes [(om k0 a I0 J0), (oa (a 1) cI 201 kd), (oa (a 2) cI 201 rk), (oa (a 3) cI 201 wd), (oa (a 4) cI 201 tw), (oa (a 11) cI 201 mn), (oa (a 5) cI 201 st), (oa (a 6) cZ 201 tn), (oa (a 7) cI 201 gb), (oa (a 8) cI 201 pa), (oa (a 9) cI 201 pb), (oa (a 10) cI 201 it)] t.heap ∧ va_D A [(om k0 a I0 J0), (oa (a 1) cI 201 kd), (oa (a 2) cI 201 rk), (oa (a 3) cI 201 wd), (oa (a 4) cI 201 tw), (oa (a 11) cI 201 mn), (oa (a 5) cI 201 st), (oa (a 6) cZ 201 tn), (oa (a 7) cI 201 gb), (oa (a 8) cI 201 pa), (oa (a 9) cI 201 pb), (oa (a 10) cI 201 it)]) A) ([.ref k0, .int (nI f), .int w] : List Value).toArray s 0 0 A := ⟨_, rfl⟩
  rw [← hQ9]
  have hl := lv_entry ([.ref k0, .int (nI f), .int w]) (n := 3) (Nat.le_of_ble_eq_true rfl)
  rw [lg_entry_eq]
  generalize (lg_sl ([.ref k0, .int (nI f), .int w]) ++ List.replicate (3 - (lg_sl ([.ref k0, .int (nI f), .int w])).length) Slot.unset).toArray = ls at hl ⊢
  have hl : lv_has ls 3 [(0, .ref k0), (1, .int (nI f)), (2, .int w)] := hl
  refine lv_aload_n hx hb dX11_told_0 rfl (lv_at hl 0 rfl) ?_
  refine lv_iload_n hx hb dX11_told_1 rfl (lv_at hl 1 rfl) ?_
  have hPc := hP.sub (ws' := [(om k0 a I0 J0)]) [0] rfl
  have hDc := hD.sub (ws' := [(om k0 a I0 J0)]) [0] (by decide) rfl
  have hFc := va_free (wc := [(om k0 a I0 J0)]) hD hS hA [0] rfl
  refine zcall (st1 := [.int (pI (f < ft))]) (va_runV (As := [.int (nI f)]) (rest := []) ⟨hx, hb, hml, hown, hts⟩ (k_M_isFeature_n l dC dI cI cZ cF s.heap.size k0 a I0 J0 f ft (by assumption) (by omega) (by omega)) (cwV 1 hts (zz_gV mw_1345 mw_1347 mw_37 mw_110 mc_yX11_isFeature) rfl rfl rfl (by decide +kernel) ⟨Nat.le_of_ble_eq_true rfl, Nat.le_of_ble_eq_true rfl⟩) (zPV2 (q0 := 0) (ci := 9) hPc hDc hK hXN rfl rfl) rfl rfl hl.1 rfl (lv_room (Nat.le_of_ble_eq_true rfl)) dX11_told_2 ⟨Nat.le_of_ble_eq_true rfl, Nat.le_of_ble_eq_true rfl⟩) hS hFc hFc rfl (fun t H1 locs ht hB hk1 hS => ?_)
  obtain ⟨hP1, hD1⟩ := hB
  rw [ht] at hP1
  obtain ⟨hP, hD⟩ := va_join (wr := [(oa (a 1) cI 201 kd), (oa (a 2) cI 201 rk), (oa (a 3) cI 201 wd), (oa (a 4) cI 201 tw), (oa (a 11) cI 201 mn), (oa (a 5) cI 201 st), (oa (a 6) cZ 201 tn), (oa (a 7) cI 201 gb), (oa (a 8) cI 201 pa), (oa (a 9) cI 201 pb), (oa (a 10) cI 201 it)]) (w1 := [(om k0 a I0 J0)]) hP hD [0] [1, 2, 3, 4, 5, 6, 7, 8, 9, 10, 11] rfl rfl (by decide) (by decide) hk1 hFc hP1 hD1
  clear hk1 hPc hDc hFc hP1 hD1 ht
  generalize H1 = H at hP hS ⊢
  have hP := hP.sub (ws' := [(om k0 a I0 J0), (oa (a 1) cI 201 kd), (oa (a 2) cI 201 rk), (oa (a 3) cI 201 wd), (oa (a 4) cI 201 tw), (oa (a 11) cI 201 mn), (oa (a 5) cI 201 st), (oa (a 6) cZ 201 tn), (oa (a 7) cI 201 gb), (oa (a 8) cI 201 pa), (oa (a 9) cI 201 pb), (oa (a 10) cI 201 it)]) [11, 0, 1, 2, 3, 4, 5, 6, 7, 8, 9, 10] rfl
  have hD := hD.sub (ws' := [(om k0 a I0 J0), (oa (a 1) cI 201 kd), (oa (a 2) cI 201 rk), (oa (a 3) cI 201 wd), (oa (a 4) cI 201 tw), (oa (a 11) cI 201 mn), (oa (a 5) cI 201 st), (oa (a 6) cZ 201 tn), (oa (a 7) cI 201 gb), (oa (a 8) cI 201 pa), (oa (a 9) cI 201 pb), (oa (a 10) cI 201 it)]) [11, 0, 1, 2, 3, 4, 5, 6, 7, 8, 9, 10] (by decide) rfl
  have hP : va_P (dC, dI) classes [(om k0 a I0 J0), (oa (a 1) cI 201 kd), (oa (a 2) cI 201 rk), (oa (a 3) cI 201 wd), (oa (a 4) cI 201 tw), (oa (a 11) cI 201 mn), (oa (a 5) cI 201 st), (oa (a 6) cZ 201 tn), (oa (a 7) cI 201 gb), (oa (a 8) cI 201 pa), (oa (a 9) cI 201 pb), (oa (a 10) cI 201 it)] H := hP
  have hD : va_D A [(om k0 a I0 J0), (oa (a 1) cI 201 kd), (oa (a 2) cI 201 rk), (oa (a 3) cI 201 wd), (oa (a 4) cI 201 tw), (oa (a 11) cI 201 mn), (oa (a 5) cI 201 st), (oa (a 6) cZ 201 tn), (oa (a 7) cI 201 gb), (oa (a 8) cI 201 pa), (oa (a 9) cI 201 pb), (oa (a 10) cI 201 it)] := hD
  refine lv_if_ne (tgt := 10) hx hb dX11_told_5 (by decide) (fun c_1 => ?_) (fun c_1 => ?_)
  · have c_1 : f < ft := zp_1 c_1
    refine lv_iload_n hx hb dX11_told_10 rfl (lv_at hl 2 rfl) ?_
    rcases zz_sw (lo := 0) (hi := 10) rfl with c_2 | c_2
    · refine lv_tableOut (tgt := 166) hx hb dX11_told_11 c_2.1 (by decide) ?_
      refine lv_iconst (v := (-1)) hx hb dX11_told_166 (by decide) ?_
      have hP9 := hP.sub (ws' := [(om k0 a I0 J0), (oa (a 1) cI 201 kd), (oa (a 2) cI 201 rk), (oa (a 3) cI 201 wd), (oa (a 4) cI 201 tw), (oa (a 11) cI 201 mn), (oa (a 5) cI 201 st), (oa (a 6) cZ 201 tn), (oa (a 7) cI 201 gb), (oa (a 8) cI 201 pa), (oa (a 9) cI 201 pb), (oa (a 10) cI 201 it)]) [0, 1, 2, 3, 4, 5, 6, 7, 8, 9, 10, 11] rfl
      have hD9 := hD.sub (ws' := [(om k0 a I0 J0), (oa (a 1) cI 201 kd), (oa (a 2) cI 201 rk), (oa (a 3) cI 201 wd), (oa (a 4) cI 201 tw), (oa (a 11) cI 201 mn), (oa (a 5) cI 201 st), (oa (a 6) cZ 201 tn), (oa (a 7) cI 201 gb), (oa (a 8) cI 201 pa), (oa (a 9) cI 201 pb), (oa (a 10) cI 201 it)]) [0, 1, 2, 3, 4, 5, 6, 7, 8, 9, 10, 11] (by decide) rfl
      rw [hQ9]
      exact W.iret (v := (-1)) hx hb hr (fun t ht hW => ⟨⟨_, rfl, (-1), rfl, by rw [ht]; exact hP9, hD9⟩, hS.F ht⟩) hS.2.2 dX11_told_167
    · by_cases c_3 : w.toInt = 0
      · refine lv_tableIn (tgt := 68) (off := 57) hx hb dX11_told_11 c_2.2.1 c_2.2.2 (by rw [show (w).toInt = 0 from (rfl).trans c_3]; rfl) (by decide) ?_
        refine lv_aload_n hx hb dX11_told_68 rfl (lv_at hl 0 rfl) ?_
        refine va_get (D := (dC, dI)) (ci := 9) (v := .ref (a 1)) (C := RX11) (T := TX11) (N := 55) hx hb hts inX11 hown hK hP 0 rfl rfl 1 (by decide) (hts _ mw_1160) (fun _ h9 => h9) rfl dX11_told_69 ?_
        refine lv_iload_n hx hb dX11_told_72 rfl (lv_at hl 1 rfl) ?_
        refine z_iald hx hb hK hP 1 0 rfl rfl (e := f) rfl (by omega) (by omega) dX11_told_73 ?_
        have hP9 := hP.sub (ws' := [(om k0 a I0 J0), (oa (a 1) cI 201 kd), (oa (a 2) cI 201 rk), (oa (a 3) cI 201 wd), (oa (a 4) cI 201 tw), (oa (a 11) cI 201 mn), (oa (a 5) cI 201 st), (oa (a 6) cZ 201 tn), (oa (a 7) cI 201 gb), (oa (a 8) cI 201 pa), (oa (a 9) cI 201 pb), (oa (a 10) cI 201 it)]) [0, 1, 2, 3, 4, 5, 6, 7, 8, 9, 10, 11] rfl
        have hD9 := hD.sub (ws' := [(om k0 a I0 J0), (oa (a 1) cI 201 kd), (oa (a 2) cI 201 rk), (oa (a 3) cI 201 wd), (oa (a 4) cI 201 tw), (oa (a 11) cI 201 mn), (oa (a 5) cI 201 st), (oa (a 6) cZ 201 tn), (oa (a 7) cI 201 gb), (oa (a 8) cI 201 pa), (oa (a 9) cI 201 pb), (oa (a 10) cI 201 it)]) [0, 1, 2, 3, 4, 5, 6, 7, 8, 9, 10, 11] (by decide) rfl
        rw [hQ9]
        exact W.iret (v := kd f) hx hb hr (fun t ht hW => ⟨⟨_, rfl, (kd f), rfl, by rw [ht]; exact hP9, hD9⟩, hS.F ht⟩) hS.2.2 dX11_told_74
      by_cases c_4 : w.toInt = 1
      · refine lv_tableIn (tgt := 75) (off := 64) hx hb dX11_told_11 c_2.2.1 c_2.2.2 (by rw [show (w).toInt = 1 from (rfl).trans c_4]; rfl) (by decide) ?_
        refine lv_aload_n hx hb dX11_told_75 rfl (lv_at hl 0 rfl) ?_
        refine va_get (D := (dC, dI)) (ci := 9) (v := .ref (a 2)) (C := RX11) (T := TX11) (N := 55) hx hb hts inX11 hown hK hP 0 rfl rfl 2 (by decide) (hts _ mw_1161) (fun _ h9 => h9) rfl dX11_told_76 ?_
        refine lv_iload_n hx hb dX11_told_79 rfl (lv_at hl 1 rfl) ?_
        refine z_iald hx hb hK hP 2 0 rfl rfl (e := f) rfl (by omega) (by omega) dX11_told_80 ?_
        have hP9 := hP.sub (ws' := [(om k0 a I0 J0), (oa (a 1) cI 201 kd), (oa (a 2) cI 201 rk), (oa (a 3) cI 201 wd), (oa (a 4) cI 201 tw), (oa (a 11) cI 201 mn), (oa (a 5) cI 201 st), (oa (a 6) cZ 201 tn), (oa (a 7) cI 201 gb), (oa (a 8) cI 201 pa), (oa (a 9) cI 201 pb), (oa (a 10) cI 201 it)]) [0, 1, 2, 3, 4, 5, 6, 7, 8, 9, 10, 11] rfl
        have hD9 := hD.sub (ws' := [(om k0 a I0 J0), (oa (a 1) cI 201 kd), (oa (a 2) cI 201 rk), (oa (a 3) cI 201 wd), (oa (a 4) cI 201 tw), (oa (a 11) cI 201 mn), (oa (a 5) cI 201 st), (oa (a 6) cZ 201 tn), (oa (a 7) cI 201 gb), (oa (a 8) cI 201 pa), (oa (a 9) cI 201 pb), (oa (a 10) cI 201 it)]) [0, 1, 2, 3, 4, 5, 6, 7, 8, 9, 10, 11] (by decide) rfl
        rw [hQ9]
        exact W.iret (v := rk f) hx hb hr (fun t ht hW => ⟨⟨_, rfl, (rk f), rfl, by rw [ht]; exact hP9, hD9⟩, hS.F ht⟩) hS.2.2 dX11_told_81
      by_cases c_5 : w.toInt = 2
      · refine lv_tableIn (tgt := 82) (off := 71) hx hb dX11_told_11 c_2.2.1 c_2.2.2 (by rw [show (w).toInt = 2 from (rfl).trans c_5]; rfl) (by decide) ?_
        refine lv_aload_n hx hb dX11_told_82 rfl (lv_at hl 0 rfl) ?_
        refine va_get (D := (dC, dI)) (ci := 9) (v := .ref (a 3)) (C := RX11) (T := TX11) (N := 55) hx hb hts inX11 hown hK hP 0 rfl rfl 3 (by decide) (hts _ mw_1162) (fun _ h9 => h9) rfl dX11_told_83 ?_
        refine lv_iload_n hx hb dX11_told_86 rfl (lv_at hl 1 rfl) ?_
        refine z_iald hx hb hK hP 3 0 rfl rfl (e := f) rfl (by omega) (by omega) dX11_told_87 ?_
        have hP9 := hP.sub (ws' := [(om k0 a I0 J0), (oa (a 1) cI 201 kd), (oa (a 2) cI 201 rk), (oa (a 3) cI 201 wd), (oa (a 4) cI 201 tw), (oa (a 11) cI 201 mn), (oa (a 5) cI 201 st), (oa (a 6) cZ 201 tn), (oa (a 7) cI 201 gb), (oa (a 8) cI 201 pa), (oa (a 9) cI 201 pb), (oa (a 10) cI 201 it)]) [0, 1, 2, 3, 4, 5, 6, 7, 8, 9, 10, 11] rfl
        have hD9 := hD.sub (ws' := [(om k0 a I0 J0), (oa (a 1) cI 201 kd), (oa (a 2) cI 201 rk), (oa (a 3) cI 201 wd), (oa (a 4) cI 201 tw), (oa (a 11) cI 201 mn), (oa (a 5) cI 201 st), (oa (a 6) cZ 201 tn), (oa (a 7) cI 201 gb), (oa (a 8) cI 201 pa), (oa (a 9) cI 201 pb), (oa (a 10) cI 201 it)]) [0, 1, 2, 3, 4, 5, 6, 7, 8, 9, 10, 11] (by decide) rfl
        rw [hQ9]
        exact W.iret (v := wd f) hx hb hr (fun t ht hW => ⟨⟨_, rfl, (wd f), rfl, by rw [ht]; exact hP9, hD9⟩, hS.F ht⟩) hS.2.2 dX11_told_88
      by_cases c_6 : w.toInt = 3
      · refine lv_tableIn (tgt := 89) (off := 78) hx hb dX11_told_11 c_2.2.1 c_2.2.2 (by rw [show (w).toInt = 3 from (rfl).trans c_6]; rfl) (by decide) ?_
        refine lv_aload_n hx hb dX11_told_89 rfl (lv_at hl 0 rfl) ?_
        refine va_get (D := (dC, dI)) (ci := 9) (v := .ref (a 4)) (C := RX11) (T := TX11) (N := 55) hx hb hts inX11 hown hK hP 0 rfl rfl 4 (by decide) (hts _ mw_1163) (fun _ h9 => h9) rfl dX11_told_90 ?_
        refine lv_iload_n hx hb dX11_told_93 rfl (lv_at hl 1 rfl) ?_
        refine z_iald hx hb hK hP 4 0 rfl rfl (e := f) rfl (by omega) (by omega) dX11_told_94 ?_
        have hP9 := hP.sub (ws' := [(om k0 a I0 J0), (oa (a 1) cI 201 kd), (oa (a 2) cI 201 rk), (oa (a 3) cI 201 wd), (oa (a 4) cI 201 tw), (oa (a 11) cI 201 mn), (oa (a 5) cI 201 st), (oa (a 6) cZ 201 tn), (oa (a 7) cI 201 gb), (oa (a 8) cI 201 pa), (oa (a 9) cI 201 pb), (oa (a 10) cI 201 it)]) [0, 1, 2, 3, 4, 5, 6, 7, 8, 9, 10, 11] rfl
        have hD9 := hD.sub (ws' := [(om k0 a I0 J0), (oa (a 1) cI 201 kd), (oa (a 2) cI 201 rk), (oa (a 3) cI 201 wd), (oa (a 4) cI 201 tw), (oa (a 11) cI 201 mn), (oa (a 5) cI 201 st), (oa (a 6) cZ 201 tn), (oa (a 7) cI 201 gb), (oa (a 8) cI 201 pa), (oa (a 9) cI 201 pb), (oa (a 10) cI 201 it)]) [0, 1, 2, 3, 4, 5, 6, 7, 8, 9, 10, 11] (by decide) rfl
        rw [hQ9]
        exact W.iret (v := tw f) hx hb hr (fun t ht hW => ⟨⟨_, rfl, (tw f), rfl, by rw [ht]; exact hP9, hD9⟩, hS.F ht⟩) hS.2.2 dX11_told_95
      by_cases c_7 : w.toInt = 4
      · refine lv_tableIn (tgt := 96) (off := 85) hx hb dX11_told_11 c_2.2.1 c_2.2.2 (by rw [show (w).toInt = 4 from (rfl).trans c_7]; rfl) (by decide) ?_
        refine lv_aload_n hx hb dX11_told_96 rfl (lv_at hl 0 rfl) ?_
        refine va_get (D := (dC, dI)) (ci := 9) (v := .ref (a 6)) (C := RX11) (T := TX11) (N := 55) hx hb hts inX11 hown hK hP 0 rfl rfl 6 (by decide) (hts _ mw_1165) (fun _ h9 => h9) rfl dX11_told_97 ?_
        refine lv_iload_n hx hb dX11_told_100 rfl (lv_at hl 1 rfl) ?_
        refine z_zald hx hb hK hP 7 1 rfl rfl (e := f) rfl (by omega) (by omega) dX11_told_101 ?_
        refine lv_if_eq (tgt := 109) hx hb dX11_told_102 (by decide) (fun c_8 => ?_) (fun c_8 => ?_)
        · have c_8 : (tn f).toInt = 0 := zc_eq rfl (by decide) c_8
          refine lv_aload_n hx hb dX11_told_109 rfl (lv_at hl 0 rfl) ?_
          refine va_get (D := (dC, dI)) (ci := 9) (v := .ref (a 11)) (C := RX11) (T := TX11) (N := 55) hx hb hts inX11 hown hK hP 0 rfl rfl 11 (by decide) (hts _ mw_1170) (fun _ h9 => h9) rfl dX11_told_110 ?_
          refine lv_iload_n hx hb dX11_told_113 rfl (lv_at hl 1 rfl) ?_
          refine z_iald hx hb hK hP 5 0 rfl rfl (e := f) rfl (by omega) (by omega) dX11_told_114 ?_
          have hP9 := hP.sub (ws' := [(om k0 a I0 J0), (oa (a 1) cI 201 kd), (oa (a 2) cI 201 rk), (oa (a 3) cI 201 wd), (oa (a 4) cI 201 tw), (oa (a 11) cI 201 mn), (oa (a 5) cI 201 st), (oa (a 6) cZ 201 tn), (oa (a 7) cI 201 gb), (oa (a 8) cI 201 pa), (oa (a 9) cI 201 pb), (oa (a 10) cI 201 it)]) [0, 1, 2, 3, 4, 5, 6, 7, 8, 9, 10, 11] rfl
          have hD9 := hD.sub (ws' := [(om k0 a I0 J0), (oa (a 1) cI 201 kd), (oa (a 2) cI 201 rk), (oa (a 3) cI 201 wd), (oa (a 4) cI 201 tw), (oa (a 11) cI 201 mn), (oa (a 5) cI 201 st), (oa (a 6) cZ 201 tn), (oa (a 7) cI 201 gb), (oa (a 8) cI 201 pa), (oa (a 9) cI 201 pb), (oa (a 10) cI 201 it)]) [0, 1, 2, 3, 4, 5, 6, 7, 8, 9, 10, 11] (by decide) rfl
          rw [hQ9]
          exact W.iret (v := mn f) hx hb hr (fun t ht hW => ⟨⟨_, rfl, (mn f), rfl, by rw [ht]; exact hP9, hD9⟩, hS.F ht⟩) hS.2.2 dX11_told_115
        · have c_8 : ¬ (tn f).toInt = 0 := zc_ne rfl (by decide) c_8
          refine lv_iconst (v := 0) hx hb dX11_told_105 (by decide) ?_
          refine lv_goto (tgt := 115) hx hb dX11_told_106 (by decide) ?_
          have hP9 := hP.sub (ws' := [(om k0 a I0 J0), (oa (a 1) cI 201 kd), (oa (a 2) cI 201 rk), (oa (a 3) cI 201 wd), (oa (a 4) cI 201 tw), (oa (a 11) cI 201 mn), (oa (a 5) cI 201 st), (oa (a 6) cZ 201 tn), (oa (a 7) cI 201 gb), (oa (a 8) cI 201 pa), (oa (a 9) cI 201 pb), (oa (a 10) cI 201 it)]) [0, 1, 2, 3, 4, 5, 6, 7, 8, 9, 10, 11] rfl
          have hD9 := hD.sub (ws' := [(om k0 a I0 J0), (oa (a 1) cI 201 kd), (oa (a 2) cI 201 rk), (oa (a 3) cI 201 wd), (oa (a 4) cI 201 tw), (oa (a 11) cI 201 mn), (oa (a 5) cI 201 st), (oa (a 6) cZ 201 tn), (oa (a 7) cI 201 gb), (oa (a 8) cI 201 pa), (oa (a 9) cI 201 pb), (oa (a 10) cI 201 it)]) [0, 1, 2, 3, 4, 5, 6, 7, 8, 9, 10, 11] (by decide) rfl
          rw [hQ9]
          exact W.iret (v := 0) hx hb hr (fun t ht hW => ⟨⟨_, rfl, 0, rfl, by rw [ht]; exact hP9, hD9⟩, hS.F ht⟩) hS.2.2 dX11_told_115
      by_cases c_9 : w.toInt = 5
      · refine lv_tableIn (tgt := 116) (off := 105) hx hb dX11_told_11 c_2.2.1 c_2.2.2 (by rw [show (w).toInt = 5 from (rfl).trans c_9]; rfl) (by decide) ?_
        refine lv_aload_n hx hb dX11_told_116 rfl (lv_at hl 0 rfl) ?_
        refine va_get (D := (dC, dI)) (ci := 9) (v := .ref (a 5)) (C := RX11) (T := TX11) (N := 55) hx hb hts inX11 hown hK hP 0 rfl rfl 5 (by decide) (hts _ mw_1164) (fun _ h9 => h9) rfl dX11_told_117 ?_
        refine lv_iload_n hx hb dX11_told_120 rfl (lv_at hl 1 rfl) ?_
        refine z_iald hx hb hK hP 6 0 rfl rfl (e := f) rfl (by omega) (by omega) dX11_told_121 ?_
        have hP9 := hP.sub (ws' := [(om k0 a I0 J0), (oa (a 1) cI 201 kd), (oa (a 2) cI 201 rk), (oa (a 3) cI 201 wd), (oa (a 4) cI 201 tw), (oa (a 11) cI 201 mn), (oa (a 5) cI 201 st), (oa (a 6) cZ 201 tn), (oa (a 7) cI 201 gb), (oa (a 8) cI 201 pa), (oa (a 9) cI 201 pb), (oa (a 10) cI 201 it)]) [0, 1, 2, 3, 4, 5, 6, 7, 8, 9, 10, 11] rfl
        have hD9 := hD.sub (ws' := [(om k0 a I0 J0), (oa (a 1) cI 201 kd), (oa (a 2) cI 201 rk), (oa (a 3) cI 201 wd), (oa (a 4) cI 201 tw), (oa (a 11) cI 201 mn), (oa (a 5) cI 201 st), (oa (a 6) cZ 201 tn), (oa (a 7) cI 201 gb), (oa (a 8) cI 201 pa), (oa (a 9) cI 201 pb), (oa (a 10) cI 201 it)]) [0, 1, 2, 3, 4, 5, 6, 7, 8, 9, 10, 11] (by decide) rfl
        rw [hQ9]
        exact W.iret (v := st f) hx hb hr (fun t ht hW => ⟨⟨_, rfl, (st f), rfl, by rw [ht]; exact hP9, hD9⟩, hS.F ht⟩) hS.2.2 dX11_told_122
      by_cases c_10 : w.toInt = 6
      · refine lv_tableIn (tgt := 123) (off := 112) hx hb dX11_told_11 c_2.2.1 c_2.2.2 (by rw [show (w).toInt = 6 from (rfl).trans c_10]; rfl) (by decide) ?_
        refine lv_aload_n hx hb dX11_told_123 rfl (lv_at hl 0 rfl) ?_
        refine va_get (D := (dC, dI)) (ci := 9) (v := .ref (a 6)) (C := RX11) (T := TX11) (N := 55) hx hb hts inX11 hown hK hP 0 rfl rfl 6 (by decide) (hts _ mw_1165) (fun _ h9 => h9) rfl dX11_told_124 ?_
        refine lv_iload_n hx hb dX11_told_127 rfl (lv_at hl 1 rfl) ?_
        refine z_zald hx hb hK hP 7 1 rfl rfl (e := f) rfl (by omega) (by omega) dX11_told_128 ?_
        refine lv_if_eq (tgt := 136) hx hb dX11_told_129 (by decide) (fun c_11 => ?_) (fun c_11 => ?_)
        · have c_11 : (tn f).toInt = 0 := zc_eq rfl (by decide) c_11
          refine lv_iconst (v := 0) hx hb dX11_told_136 (by decide) ?_
          have hP9 := hP.sub (ws' := [(om k0 a I0 J0), (oa (a 1) cI 201 kd), (oa (a 2) cI 201 rk), (oa (a 3) cI 201 wd), (oa (a 4) cI 201 tw), (oa (a 11) cI 201 mn), (oa (a 5) cI 201 st), (oa (a 6) cZ 201 tn), (oa (a 7) cI 201 gb), (oa (a 8) cI 201 pa), (oa (a 9) cI 201 pb), (oa (a 10) cI 201 it)]) [0, 1, 2, 3, 4, 5, 6, 7, 8, 9, 10, 11] rfl
          have hD9 := hD.sub (ws' := [(om k0 a I0 J0), (oa (a 1) cI 201 kd), (oa (a 2) cI 201 rk), (oa (a 3) cI 201 wd), (oa (a 4) cI 201 tw), (oa (a 11) cI 201 mn), (oa (a 5) cI 201 st), (oa (a 6) cZ 201 tn), (oa (a 7) cI 201 gb), (oa (a 8) cI 201 pa), (oa (a 9) cI 201 pb), (oa (a 10) cI 201 it)]) [0, 1, 2, 3, 4, 5, 6, 7, 8, 9, 10, 11] (by decide) rfl
          rw [hQ9]
          exact W.iret (v := 0) hx hb hr (fun t ht hW => ⟨⟨_, rfl, 0, rfl, by rw [ht]; exact hP9, hD9⟩, hS.F ht⟩) hS.2.2 dX11_told_137
        · have c_11 : ¬ (tn f).toInt = 0 := zc_ne rfl (by decide) c_11
          refine lv_iconst (v := 1) hx hb dX11_told_132 (by decide) ?_
          refine lv_goto (tgt := 137) hx hb dX11_told_133 (by decide) ?_
          have hP9 := hP.sub (ws' := [(om k0 a I0 J0), (oa (a 1) cI 201 kd), (oa (a 2) cI 201 rk), (oa (a 3) cI 201 wd), (oa (a 4) cI 201 tw), (oa (a 11) cI 201 mn), (oa (a 5) cI 201 st), (oa (a 6) cZ 201 tn), (oa (a 7) cI 201 gb), (oa (a 8) cI 201 pa), (oa (a 9) cI 201 pb), (oa (a 10) cI 201 it)]) [0, 1, 2, 3, 4, 5, 6, 7, 8, 9, 10, 11] rfl
          have hD9 := hD.sub (ws' := [(om k0 a I0 J0), (oa (a 1) cI 201 kd), (oa (a 2) cI 201 rk), (oa (a 3) cI 201 wd), (oa (a 4) cI 201 tw), (oa (a 11) cI 201 mn), (oa (a 5) cI 201 st), (oa (a 6) cZ 201 tn), (oa (a 7) cI 201 gb), (oa (a 8) cI 201 pa), (oa (a 9) cI 201 pb), (oa (a 10) cI 201 it)]) [0, 1, 2, 3, 4, 5, 6, 7, 8, 9, 10, 11] (by decide) rfl
          rw [hQ9]
          exact W.iret (v := 1) hx hb hr (fun t ht hW => ⟨⟨_, rfl, 1, rfl, by rw [ht]; exact hP9, hD9⟩, hS.F ht⟩) hS.2.2 dX11_told_137
      by_cases c_12 : w.toInt = 7
      · refine lv_tableIn (tgt := 138) (off := 127) hx hb dX11_told_11 c_2.2.1 c_2.2.2 (by rw [show (w).toInt = 7 from (rfl).trans c_12]; rfl) (by decide) ?_
        refine lv_aload_n hx hb dX11_told_138 rfl (lv_at hl 0 rfl) ?_
        refine va_get (D := (dC, dI)) (ci := 9) (v := .ref (a 7)) (C := RX11) (T := TX11) (N := 55) hx hb hts inX11 hown hK hP 0 rfl rfl 7 (by decide) (hts _ mw_1166) (fun _ h9 => h9) rfl dX11_told_139 ?_
        refine lv_iload_n hx hb dX11_told_142 rfl (lv_at hl 1 rfl) ?_
        refine z_iald hx hb hK hP 8 0 rfl rfl (e := f) rfl (by omega) (by omega) dX11_told_143 ?_
        have hP9 := hP.sub (ws' := [(om k0 a I0 J0), (oa (a 1) cI 201 kd), (oa (a 2) cI 201 rk), (oa (a 3) cI 201 wd), (oa (a 4) cI 201 tw), (oa (a 11) cI 201 mn), (oa (a 5) cI 201 st), (oa (a 6) cZ 201 tn), (oa (a 7) cI 201 gb), (oa (a 8) cI 201 pa), (oa (a 9) cI 201 pb), (oa (a 10) cI 201 it)]) [0, 1, 2, 3, 4, 5, 6, 7, 8, 9, 10, 11] rfl
        have hD9 := hD.sub (ws' := [(om k0 a I0 J0), (oa (a 1) cI 201 kd), (oa (a 2) cI 201 rk), (oa (a 3) cI 201 wd), (oa (a 4) cI 201 tw), (oa (a 11) cI 201 mn), (oa (a 5) cI 201 st), (oa (a 6) cZ 201 tn), (oa (a 7) cI 201 gb), (oa (a 8) cI 201 pa), (oa (a 9) cI 201 pb), (oa (a 10) cI 201 it)]) [0, 1, 2, 3, 4, 5, 6, 7, 8, 9, 10, 11] (by decide) rfl
        rw [hQ9]
        exact W.iret (v := gb f) hx hb hr (fun t ht hW => ⟨⟨_, rfl, (gb f), rfl, by rw [ht]; exact hP9, hD9⟩, hS.F ht⟩) hS.2.2 dX11_told_144
      by_cases c_13 : w.toInt = 8
      · refine lv_tableIn (tgt := 145) (off := 134) hx hb dX11_told_11 c_2.2.1 c_2.2.2 (by rw [show (w).toInt = 8 from (rfl).trans c_13]; rfl) (by decide) ?_
        refine lv_aload_n hx hb dX11_told_145 rfl (lv_at hl 0 rfl) ?_
        refine va_get (D := (dC, dI)) (ci := 9) (v := .ref (a 8)) (C := RX11) (T := TX11) (N := 55) hx hb hts inX11 hown hK hP 0 rfl rfl 8 (by decide) (hts _ mw_1167) (fun _ h9 => h9) rfl dX11_told_146 ?_
        refine lv_iload_n hx hb dX11_told_149 rfl (lv_at hl 1 rfl) ?_
        refine z_iald hx hb hK hP 9 0 rfl rfl (e := f) rfl (by omega) (by omega) dX11_told_150 ?_
        have hP9 := hP.sub (ws' := [(om k0 a I0 J0), (oa (a 1) cI 201 kd), (oa (a 2) cI 201 rk), (oa (a 3) cI 201 wd), (oa (a 4) cI 201 tw), (oa (a 11) cI 201 mn), (oa (a 5) cI 201 st), (oa (a 6) cZ 201 tn), (oa (a 7) cI 201 gb), (oa (a 8) cI 201 pa), (oa (a 9) cI 201 pb), (oa (a 10) cI 201 it)]) [0, 1, 2, 3, 4, 5, 6, 7, 8, 9, 10, 11] rfl
        have hD9 := hD.sub (ws' := [(om k0 a I0 J0), (oa (a 1) cI 201 kd), (oa (a 2) cI 201 rk), (oa (a 3) cI 201 wd), (oa (a 4) cI 201 tw), (oa (a 11) cI 201 mn), (oa (a 5) cI 201 st), (oa (a 6) cZ 201 tn), (oa (a 7) cI 201 gb), (oa (a 8) cI 201 pa), (oa (a 9) cI 201 pb), (oa (a 10) cI 201 it)]) [0, 1, 2, 3, 4, 5, 6, 7, 8, 9, 10, 11] (by decide) rfl
        rw [hQ9]
        exact W.iret (v := pa f) hx hb hr (fun t ht hW => ⟨⟨_, rfl, (pa f), rfl, by rw [ht]; exact hP9, hD9⟩, hS.F ht⟩) hS.2.2 dX11_told_151
      by_cases c_14 : w.toInt = 9
      · refine lv_tableIn (tgt := 152) (off := 141) hx hb dX11_told_11 c_2.2.1 c_2.2.2 (by rw [show (w).toInt = 9 from (rfl).trans c_14]; rfl) (by decide) ?_
        refine lv_aload_n hx hb dX11_told_152 rfl (lv_at hl 0 rfl) ?_
        refine va_get (D := (dC, dI)) (ci := 9) (v := .ref (a 9)) (C := RX11) (T := TX11) (N := 55) hx hb hts inX11 hown hK hP 0 rfl rfl 9 (by decide) (hts _ mw_1168) (fun _ h9 => h9) rfl dX11_told_153 ?_
        refine lv_iload_n hx hb dX11_told_156 rfl (lv_at hl 1 rfl) ?_
        refine z_iald hx hb hK hP 10 0 rfl rfl (e := f) rfl (by omega) (by omega) dX11_told_157 ?_
        have hP9 := hP.sub (ws' := [(om k0 a I0 J0), (oa (a 1) cI 201 kd), (oa (a 2) cI 201 rk), (oa (a 3) cI 201 wd), (oa (a 4) cI 201 tw), (oa (a 11) cI 201 mn), (oa (a 5) cI 201 st), (oa (a 6) cZ 201 tn), (oa (a 7) cI 201 gb), (oa (a 8) cI 201 pa), (oa (a 9) cI 201 pb), (oa (a 10) cI 201 it)]) [0, 1, 2, 3, 4, 5, 6, 7, 8, 9, 10, 11] rfl
        have hD9 := hD.sub (ws' := [(om k0 a I0 J0), (oa (a 1) cI 201 kd), (oa (a 2) cI 201 rk), (oa (a 3) cI 201 wd), (oa (a 4) cI 201 tw), (oa (a 11) cI 201 mn), (oa (a 5) cI 201 st), (oa (a 6) cZ 201 tn), (oa (a 7) cI 201 gb), (oa (a 8) cI 201 pa), (oa (a 9) cI 201 pb), (oa (a 10) cI 201 it)]) [0, 1, 2, 3, 4, 5, 6, 7, 8, 9, 10, 11] (by decide) rfl
        rw [hQ9]
        exact W.iret (v := pb f) hx hb hr (fun t ht hW => ⟨⟨_, rfl, (pb f), rfl, by rw [ht]; exact hP9, hD9⟩, hS.F ht⟩) hS.2.2 dX11_told_158
      by_cases c_15 : w.toInt = 10
      · refine lv_tableIn (tgt := 159) (off := 148) hx hb dX11_told_11 c_2.2.1 c_2.2.2 (by rw [show (w).toInt = 10 from (rfl).trans c_15]; rfl) (by decide) ?_
        refine lv_aload_n hx hb dX11_told_159 rfl (lv_at hl 0 rfl) ?_
        refine va_get (D := (dC, dI)) (ci := 9) (v := .ref (a 10)) (C := RX11) (T := TX11) (N := 55) hx hb hts inX11 hown hK hP 0 rfl rfl 10 (by decide) (hts _ mw_1169) (fun _ h9 => h9) rfl dX11_told_160 ?_
        refine lv_iload_n hx hb dX11_told_163 rfl (lv_at hl 1 rfl) ?_
        refine z_iald hx hb hK hP 11 0 rfl rfl (e := f) rfl (by omega) (by omega) dX11_told_164 ?_
        have hP9 := hP.sub (ws' := [(om k0 a I0 J0), (oa (a 1) cI 201 kd), (oa (a 2) cI 201 rk), (oa (a 3) cI 201 wd), (oa (a 4) cI 201 tw), (oa (a 11) cI 201 mn), (oa (a 5) cI 201 st), (oa (a 6) cZ 201 tn), (oa (a 7) cI 201 gb), (oa (a 8) cI 201 pa), (oa (a 9) cI 201 pb), (oa (a 10) cI 201 it)]) [0, 1, 2, 3, 4, 5, 6, 7, 8, 9, 10, 11] rfl
        have hD9 := hD.sub (ws' := [(om k0 a I0 J0), (oa (a 1) cI 201 kd), (oa (a 2) cI 201 rk), (oa (a 3) cI 201 wd), (oa (a 4) cI 201 tw), (oa (a 11) cI 201 mn), (oa (a 5) cI 201 st), (oa (a 6) cZ 201 tn), (oa (a 7) cI 201 gb), (oa (a 8) cI 201 pa), (oa (a 9) cI 201 pb), (oa (a 10) cI 201 it)]) [0, 1, 2, 3, 4, 5, 6, 7, 8, 9, 10, 11] (by decide) rfl
        rw [hQ9]
        exact W.iret (v := it f) hx hb hr (fun t ht hW => ⟨⟨_, rfl, (it f), rfl, by rw [ht]; exact hP9, hD9⟩, hS.F ht⟩) hS.2.2 dX11_told_165
      exfalso; omega
  · have c_1 : ¬ (f < ft) := zp_0 c_1
    exfalso; omega
set_option maxHeartbeats 4000000 in
set_option maxRecDepth 100000 in
theorem k_M_step_a (l : Launch) (dC : Nat → ClassId) (dI : Nat → Nat → Nat) (cI cZ cF : ClassId) (sz : Nat) (k0 : Nat) (a : Nat → Nat) (I0 : Nat → Int32) (J0 : Nat → Int64) (i : Nat) (dn : Nat) (rd : Nat) (w : Int32) (wh : Nat → Int32) (of9 : Nat → Int32) (we : Nat → Int32) (hdn : I0 19 = nI dn) (hrd : I0 20 = nI rd) (hsum : dn + rd ≤ 512) (hi1 : 1 ≤ i ∧ i ≤ dn + rd) : Met l yX11_step (.code yX11_step cX11_step 3 (some .int) :: ws0) ({ frames := 0, cells := 0, slots := 0, locals := 0 } : Room) (va_Pc [.ref k0, .int (nI i), .int w] (zPre (dC, dI) classes (zTy cI cZ cF) [(om k0 a I0 J0), (oa (a 16) cI 514 wh), (oa (a 17) cI 514 of9), (oa (a 18) cI 514 we)] sz zXN)) (zQe (fun v9 t => ∃ (b9 : Int32), v9 = (some (.int b9)) ∧ va_P (dC, dI) classes [(om k0 a I0 J0), (oa (a 16) cI 514 wh), (oa (a 17) cI 514 of9), (oa (a 18) cI 514 we)] t.heap ∧ va_D (va_A [(om k0 a I0 J0), (oa (a 16) cI 514 wh), (oa (a 17) cI 514 of9), (oa (a 18) cI 514 we)] sz) [(om k0 a I0 J0), (oa (a 16) cI 514 wh), (oa (a 17) cI 514 of9), (oa (a 18) cI 514 we)]) (va_A [(om k0 a I0 J0), (oa (a 16) cI 514 wh), (oa (a 17) cI 514 of9), (oa (a 18) cI 514 we)] sz)) 0 0 (va_A [(om k0 a I0 J0), (oa (a 16) cI 514 wh), (oa (a 17) cI 514 of9), (oa (a 18) cI 514 we)] sz) := by
  refine Met.ofW (cc := cX11_step) (maxL := 3) (ret := (some .int)) (by decide) rfl ?_
  intro p e s m args below meth c s₁ B hml hv
  obtain ⟨rfl, hsz, hP, hK, hD0, hXN⟩ := hv
  have hx := B.exec
  have hb := B.bytes
  have hr := B.returns
  have hts0 := atoms_spec (ws := .code yX11_step cX11_step 3 (some .int) :: ws0) B.pre
  have hts : ∀ w9 ∈ ws0, w9.before ([.ref k0, .int (nI i), .int w] : List Value).toArray s = true := fun w9 h => hts0 w9 (List.mem_cons_of_mem _ h)
  have hown : s.vm.findClass "ScaleShopModel" = some m.cls := findClass_of_methodNamed B.named
  have hlocks := B.notSynchronized
  subst hsz
  have hD := hD0.self (sz := s.heap.size)
  clear hD0
  generalize hAe : va_A [(om k0 a I0 J0), (oa (a 16) cI 514 wh), (oa (a 17) cI 514 of9), (oa (a 18) cI 514 we)] s.heap.size = A at hD ⊢
  have hA : ∀ q : Nat, s.heap.size ≤ q → A q := fun q h => by rw [← hAe]; exact Or.inr h
  clear hAe
  have hS : va_S A s.heap s.heap [] := va_S.rf
  have hP : va_P (dC, dI) classes [(om k0 a I0 J0), (oa (a 16) cI 514 wh), (oa (a 17) cI 514 of9), (oa (a 18) cI 514 we)] s.heap := hP
  obtain ⟨Q9, hQ9⟩ : ∃ Q9 : State → Prop, Q9 = MQ below (zQe (fun v9 t => ∃ (b9 : Int32), v9 = (some (.int b9)) ∧ va_P (dC, dI) classes [(om k0 a I0 J0), (oa (a 16) cI 514 wh), (oa (a 17) cI 514 of9), (oa (a 18) cI 514 we)] t.heap ∧ va_D A [(om k0 a I0 J0), (oa (a 16) cI 514 wh), (oa (a 17) cI 514 of9), (oa (a 18) cI 514 we)]) A) ([.ref k0, .int (nI i), .int w] : List Value).toArray s 0 0 A := ⟨_, rfl⟩
  rw [← hQ9]
  have hl := lv_entry ([.ref k0, .int (nI i), .int w]) (n := 3) (Nat.le_of_ble_eq_true rfl)
  rw [lg_entry_eq]
  generalize (lg_sl ([.ref k0, .int (nI i), .int w]) ++ List.replicate (3 - (lg_sl ([.ref k0, .int (nI i), .int w])).length) Slot.unset).toArray = ls at hl ⊢
  have hl : lv_has ls 3 [(0, .ref k0), (1, .int (nI i)), (2, .int w)] := hl
  refine lv_iload_n hx hb dX11_step_0 rfl (lv_at hl 1 rfl) ?_
  refine lv_iconst (v := 1) hx hb dX11_step_1 (by decide) ?_
  refine lv_icmp_lt (tgt := 18) hx hb dX11_step_2 (by decide) (fun c_1 => ?_) (fun c_1 => ?_)
  · have c_1 : ((i : Nat) : Int) < 1 := zc_lt (nI_toInt (by omega)) (by decide) c_1
    exfalso; omega
  · have c_1 : 1 ≤ ((i : Nat) : Int) := zc_nlt (nI_toInt (by omega)) (by decide) c_1
    refine lv_iload_n hx hb dX11_step_5 rfl (lv_at hl 1 rfl) ?_
    refine lv_aload_n hx hb dX11_step_6 rfl (lv_at hl 0 rfl) ?_
    refine va_get (D := (dC, dI)) (ci := 9) (v := .int (I0 19)) (C := RX11) (T := TX11) (N := 55) hx hb hts inX11 hown hK hP 0 rfl rfl 19 (by decide) (hts _ mw_1178) (fun _ h9 => h9) rfl dX11_step_7 ?_
    refine zz_i (v := nI dn) (hdn) ?_
    refine lv_aload_n hx hb dX11_step_10 rfl (lv_at hl 0 rfl) ?_
    refine va_get (D := (dC, dI)) (ci := 9) (v := .int (I0 20)) (C := RX11) (T := TX11) (N := 55) hx hb hts inX11 hown hK hP 0 rfl rfl 20 (by decide) (hts _ mw_1179) (fun _ h9 => h9) rfl dX11_step_11 ?_
    refine zz_i (v := nI rd) (hrd) ?_
    refine lv_iadd hx hb dX11_step_14 ?_
    refine zz_i (v := nI (dn + rd)) (nI_add dn rd) ?_
    refine lv_icmp_le (tgt := 20) hx hb dX11_step_15 (by decide) (fun c_2 => ?_) (fun c_2 => ?_)
    · have c_2 : ((i : Nat) : Int) ≤ ((dn + rd : Nat) : Int) := zc_le (nI_toInt (by omega)) (nI_toInt (by omega)) c_2
      refine lv_iload_n hx hb dX11_step_20 rfl (lv_at hl 2 rfl) ?_
      rcases zz_sw (lo := 0) (hi := 3) rfl with c_3 | c_3
      · refine lv_tableOut (tgt := 87) hx hb dX11_step_21 c_3.1 (by decide) ?_
        refine lv_iconst (v := (-1)) hx hb dX11_step_87 (by decide) ?_
        have hP9 := hP.sub (ws' := [(om k0 a I0 J0), (oa (a 16) cI 514 wh), (oa (a 17) cI 514 of9), (oa (a 18) cI 514 we)]) [0, 1, 2, 3] rfl
        have hD9 := hD.sub (ws' := [(om k0 a I0 J0), (oa (a 16) cI 514 wh), (oa (a 17) cI 514 of9), (oa (a 18) cI 514 we)]) [0, 1, 2, 3] (by decide) rfl
        rw [hQ9]
        exact W.iret (v := (-1)) hx hb hr (fun t ht hW => ⟨⟨_, rfl, (-1), rfl, by rw [ht]; exact hP9, hD9⟩, hS.F ht⟩) hS.2.2 dX11_step_88
      · by_cases c_4 : w.toInt = 0
        · refine lv_tableIn (tgt := 52) (off := 31) hx hb dX11_step_21 c_3.2.1 c_3.2.2 (by rw [show (w).toInt = 0 from (rfl).trans c_4]; rfl) (by decide) ?_
          refine lv_aload_n hx hb dX11_step_52 rfl (lv_at hl 0 rfl) ?_
          refine va_get (D := (dC, dI)) (ci := 9) (v := .ref (a 16)) (C := RX11) (T := TX11) (N := 55) hx hb hts inX11 hown hK hP 0 rfl rfl 16 (by decide) (hts _ mw_1175) (fun _ h9 => h9) rfl dX11_step_53 ?_
          refine lv_iload_n hx hb dX11_step_56 rfl (lv_at hl 1 rfl) ?_
          refine z_iald hx hb hK hP 1 0 rfl rfl (e := i) rfl (by omega) (by omega) dX11_step_57 ?_
          have hP9 := hP.sub (ws' := [(om k0 a I0 J0), (oa (a 16) cI 514 wh), (oa (a 17) cI 514 of9), (oa (a 18) cI 514 we)]) [0, 1, 2, 3] rfl
          have hD9 := hD.sub (ws' := [(om k0 a I0 J0), (oa (a 16) cI 514 wh), (oa (a 17) cI 514 of9), (oa (a 18) cI 514 we)]) [0, 1, 2, 3] (by decide) rfl
          rw [hQ9]
          exact W.iret (v := wh i) hx hb hr (fun t ht hW => ⟨⟨_, rfl, (wh i), rfl, by rw [ht]; exact hP9, hD9⟩, hS.F ht⟩) hS.2.2 dX11_step_58
        by_cases c_5 : w.toInt = 1
        · refine lv_tableIn (tgt := 59) (off := 38) hx hb dX11_step_21 c_3.2.1 c_3.2.2 (by rw [show (w).toInt = 1 from (rfl).trans c_5]; rfl) (by decide) ?_
          refine lv_aload_n hx hb dX11_step_59 rfl (lv_at hl 0 rfl) ?_
          refine va_get (D := (dC, dI)) (ci := 9) (v := .ref (a 17)) (C := RX11) (T := TX11) (N := 55) hx hb hts inX11 hown hK hP 0 rfl rfl 17 (by decide) (hts _ mw_1176) (fun _ h9 => h9) rfl dX11_step_60 ?_
          refine lv_iload_n hx hb dX11_step_63 rfl (lv_at hl 1 rfl) ?_
          refine z_iald hx hb hK hP 2 0 rfl rfl (e := i) rfl (by omega) (by omega) dX11_step_64 ?_
          have hP9 := hP.sub (ws' := [(om k0 a I0 J0), (oa (a 16) cI 514 wh), (oa (a 17) cI 514 of9), (oa (a 18) cI 514 we)]) [0, 1, 2, 3] rfl
          have hD9 := hD.sub (ws' := [(om k0 a I0 J0), (oa (a 16) cI 514 wh), (oa (a 17) cI 514 of9), (oa (a 18) cI 514 we)]) [0, 1, 2, 3] (by decide) rfl
          rw [hQ9]
          exact W.iret (v := of9 i) hx hb hr (fun t ht hW => ⟨⟨_, rfl, (of9 i), rfl, by rw [ht]; exact hP9, hD9⟩, hS.F ht⟩) hS.2.2 dX11_step_65
        by_cases c_6 : w.toInt = 2
        · refine lv_tableIn (tgt := 66) (off := 45) hx hb dX11_step_21 c_3.2.1 c_3.2.2 (by rw [show (w).toInt = 2 from (rfl).trans c_6]; rfl) (by decide) ?_
          refine lv_aload_n hx hb dX11_step_66 rfl (lv_at hl 0 rfl) ?_
          refine va_get (D := (dC, dI)) (ci := 9) (v := .ref (a 18)) (C := RX11) (T := TX11) (N := 55) hx hb hts inX11 hown hK hP 0 rfl rfl 18 (by decide) (hts _ mw_1177) (fun _ h9 => h9) rfl dX11_step_67 ?_
          refine lv_iload_n hx hb dX11_step_70 rfl (lv_at hl 1 rfl) ?_
          refine z_iald hx hb hK hP 3 0 rfl rfl (e := i) rfl (by omega) (by omega) dX11_step_71 ?_
          have hP9 := hP.sub (ws' := [(om k0 a I0 J0), (oa (a 16) cI 514 wh), (oa (a 17) cI 514 of9), (oa (a 18) cI 514 we)]) [0, 1, 2, 3] rfl
          have hD9 := hD.sub (ws' := [(om k0 a I0 J0), (oa (a 16) cI 514 wh), (oa (a 17) cI 514 of9), (oa (a 18) cI 514 we)]) [0, 1, 2, 3] (by decide) rfl
          rw [hQ9]
          exact W.iret (v := we i) hx hb hr (fun t ht hW => ⟨⟨_, rfl, (we i), rfl, by rw [ht]; exact hP9, hD9⟩, hS.F ht⟩) hS.2.2 dX11_step_72
        by_cases c_7 : w.toInt = 3
        · refine lv_tableIn (tgt := 73) (off := 52) hx hb dX11_step_21 c_3.2.1 c_3.2.2 (by rw [show (w).toInt = 3 from (rfl).trans c_7]; rfl) (by decide) ?_
          refine lv_iload_n hx hb dX11_step_73 rfl (lv_at hl 1 rfl) ?_
          refine lv_aload_n hx hb dX11_step_74 rfl (lv_at hl 0 rfl) ?_
          refine va_get (D := (dC, dI)) (ci := 9) (v := .int (I0 19)) (C := RX11) (T := TX11) (N := 55) hx hb hts inX11 hown hK hP 0 rfl rfl 19 (by decide) (hts _ mw_1178) (fun _ h9 => h9) rfl dX11_step_75 ?_
          refine zz_i (v := nI dn) (hdn) ?_
          refine lv_icmp_gt (tgt := 85) hx hb dX11_step_78 (by decide) (fun c_8 => ?_) (fun c_8 => ?_)
          · have c_8 : ((dn : Nat) : Int) < ((i : Nat) : Int) := zc_lt (nI_toInt (by omega)) (nI_toInt (by omega)) c_8
            refine lv_iconst (v := 0) hx hb dX11_step_85 (by decide) ?_
            have hP9 := hP.sub (ws' := [(om k0 a I0 J0), (oa (a 16) cI 514 wh), (oa (a 17) cI 514 of9), (oa (a 18) cI 514 we)]) [0, 1, 2, 3] rfl
            have hD9 := hD.sub (ws' := [(om k0 a I0 J0), (oa (a 16) cI 514 wh), (oa (a 17) cI 514 of9), (oa (a 18) cI 514 we)]) [0, 1, 2, 3] (by decide) rfl
            rw [hQ9]
            exact W.iret (v := 0) hx hb hr (fun t ht hW => ⟨⟨_, rfl, 0, rfl, by rw [ht]; exact hP9, hD9⟩, hS.F ht⟩) hS.2.2 dX11_step_86
          · have c_8 : ((i : Nat) : Int) ≤ ((dn : Nat) : Int) := zc_nlt (nI_toInt (by omega)) (nI_toInt (by omega)) c_8
            refine lv_iconst (v := 1) hx hb dX11_step_81 (by decide) ?_
            refine lv_goto (tgt := 86) hx hb dX11_step_82 (by decide) ?_
            have hP9 := hP.sub (ws' := [(om k0 a I0 J0), (oa (a 16) cI 514 wh), (oa (a 17) cI 514 of9), (oa (a 18) cI 514 we)]) [0, 1, 2, 3] rfl
            have hD9 := hD.sub (ws' := [(om k0 a I0 J0), (oa (a 16) cI 514 wh), (oa (a 17) cI 514 of9), (oa (a 18) cI 514 we)]) [0, 1, 2, 3] (by decide) rfl
            rw [hQ9]
            exact W.iret (v := 1) hx hb hr (fun t ht hW => ⟨⟨_, rfl, 1, rfl, by rw [ht]; exact hP9, hD9⟩, hS.F ht⟩) hS.2.2 dX11_step_86
        exfalso; omega
    · have c_2 : ((dn + rd : Nat) : Int) < ((i : Nat) : Int) := zc_nle (nI_toInt (by omega)) (nI_toInt (by omega)) c_2
      exfalso; omega
set_option maxHeartbeats 4000000 in
set_option maxRecDepth 100000 in
theorem k_M_count_a (l : Launch) (dC : Nat → ClassId) (dI : Nat → Nat → Nat) (cI cZ cF : ClassId) (sz : Nat) (k0 : Nat) (a : Nat → Nat) (I0 : Nat → Int32) (J0 : Nat → Int64) (ft : Nat) (w : Int32) (st : Nat → Int32) (tn : Nat → Int32) (mn : Nat → Int32) (hft : I0 0 = nI ft) (h200 : ft ≤ 200) (hmw : ∀ q, lvF ft st tn q → mn q = nI (nN (mn q)) ∧ nN (mn q) ≤ 40) : Met l yX11_count (.code yX11_count cX11_count 7 (some .int) :: ws0) ({ frames := 2, cells := 0, slots := 0, locals := 42 } : Room) (va_Pc [.ref k0, .int w] (zPre (dC, dI) classes (zTy cI cZ cF) [(om k0 a I0 J0), (oa (a 5) cI 201 st), (oa (a 6) cZ 201 tn), (oa (a 11) cI 201 mn)] sz zXN)) (zQe (fun v9 t => ∃ (b9 : Int32), v9 = (some (.int b9)) ∧ va_P (dC, dI) classes [(om k0 a I0 J0), (oa (a 5) cI 201 st), (oa (a 6) cZ 201 tn), (oa (a 11) cI 201 mn)] t.heap ∧ va_D (va_A [(om k0 a I0 J0), (oa (a 5) cI 201 st), (oa (a 6) cZ 201 tn), (oa (a 11) cI 201 mn)] sz) [(om k0 a I0 J0), (oa (a 5) cI 201 st), (oa (a 6) cZ 201 tn), (oa (a 11) cI 201 mn)]) (va_A [(om k0 a I0 J0), (oa (a 5) cI 201 st), (oa (a 6) cZ 201 tn), (oa (a 11) cI 201 mn)] sz)) 0 0 (va_A [(om k0 a I0 J0), (oa (a 5) cI 201 st), (oa (a 6) cZ 201 tn), (oa (a 11) cI 201 mn)] sz) := by
  refine Met.ofW (cc := cX11_count) (maxL := 7) (ret := (some .int)) (by decide) rfl ?_
  intro p e s m args below meth c s₁ B hml hv
  obtain ⟨rfl, hsz, hP, hK, hD0, hXN⟩ := hv
  have hx := B.exec
  have hb := B.bytes
  have hr := B.returns
  have hts0 := atoms_spec (ws := .code yX11_count cX11_count 7 (some .int) :: ws0) B.pre
  have hts : ∀ w9 ∈ ws0, w9.before ([.ref k0, .int w] : List Value).toArray s = true := fun w9 h => hts0 w9 (List.mem_cons_of_mem _ h)
  have hown : s.vm.findClass "ScaleShopModel" = some m.cls := findClass_of_methodNamed B.named
  have hlocks := B.notSynchronized
  subst hsz
  have hD := hD0.self (sz := s.heap.size)
  clear hD0
  generalize hAe : va_A [(om k0 a I0 J0), (oa (a 5) cI 201 st), (oa (a 6) cZ 201 tn), (oa (a 11) cI 201 mn)] s.heap.size = A at hD ⊢
  have hA : ∀ q : Nat, s.heap.size ≤ q → A q := fun q h => by rw [← hAe]; exact Or.inr h
  clear hAe
  have hS : va_S A s.heap s.heap [] := va_S.rf
  have hP : va_P (dC, dI) classes [(om k0 a I0 J0), (oa (a 5) cI 201 st), (oa (a 6) cZ 201 tn), (oa (a 11) cI 201 mn)] s.heap := hP
  obtain ⟨Q9, hQ9⟩ : ∃ Q9 : State → Prop, Q9 = MQ below (zQe (fun v9 t => ∃ (b9 : Int32), v9 = (some (.int b9)) ∧ va_P (dC, dI) classes [(om k0 a I0 J0), (oa (a 5) cI 201 st), (oa (a 6) cZ 201 tn), (oa (a 11) cI 201 mn)] t.heap ∧ va_D A [(om k0 a I0 J0), (oa (a 5) cI 201 st), (oa (a 6) cZ 201 tn), (oa (a 11) cI 201 mn)]) A) ([.ref k0, .int w] : List Value).toArray s 0 0 A := ⟨_, rfl⟩
  rw [← hQ9]
  have hl := lv_entry ([.ref k0, .int w]) (n := 7) (Nat.le_of_ble_eq_true rfl)
  rw [lg_entry_eq]
  generalize (lg_sl ([.ref k0, .int w]) ++ List.replicate (7 - (lg_sl ([.ref k0, .int w])).length) Slot.unset).toArray = ls at hl ⊢
  have hl : lv_has ls 7 [(0, .ref k0), (1, .int w)] := hl
  refine lv_iconst (v := 0) hx hb dX11_count_0 (by decide) ?_
  refine lv_istore_n (lv' := [(2, .int 0), (0, .ref k0), (1, .int w)]) hx hb dX11_count_1 rfl hl (by decide) rfl (fun ls hl => ?_)
  refine lv_iconst (v := 0) hx hb dX11_count_2 (by decide) ?_
  refine lv_istore_n (lv' := [(3, .int 0), (2, .int 0), (0, .ref k0), (1, .int w)]) hx hb dX11_count_3 rfl hl (by decide) rfl (fun ls hl => ?_)
  refine lv_iconst (v := 0) hx hb dX11_count_4 (by decide) ?_
  refine lv_istore (lv' := [(4, .int 0), (3, .int 0), (2, .int 0), (0, .ref k0), (1, .int w)]) hx hb dX11_count_5 hl (by decide) rfl (fun ls hl => ?_)
  refine lv_iconst (v := 0) hx hb dX11_count_7 (by decide) ?_
  refine lv_istore (lv' := [(5, .int 0), (4, .int 0), (3, .int 0), (2, .int 0), (0, .ref k0), (1, .int w)]) hx hb dX11_count_8 hl (by decide) rfl (fun ls hl => ?_)
  refine lv_iconst (v := 0) hx hb dX11_count_10 (by decide) ?_
  refine lv_istore (lv' := [(6, .int 0), (5, .int 0), (4, .int 0), (3, .int 0), (2, .int 0), (0, .ref k0), (1, .int w)]) hx hb dX11_count_11 hl (by decide) rfl (fun ls hl => ?_)
  have hl_13 : ∀ (n9 : Nat) (q : Nat) (H : Heap) (locs : List Loc) (ls : Array Slot), ft - q < n9 → (q ≤ ft) → va_P (dC, dI) classes [(om k0 a I0 J0), (oa (a 5) cI 201 st), (oa (a 6) cZ 201 tn), (oa (a 11) cI 201 mn)] H → va_D A [(om k0 a I0 J0), (oa (a 5) cI 201 st), (oa (a 6) cZ 201 tn), (oa (a 11) cI 201 mn)] → va_S A s.heap H locs → lv_has ls 7 [(6, .int (nI q)), (5, .int (nI (smP (lvF ft st tn) (fun g => nN (mn g)) q))), (4, .int (nI (cntP (fun g => ¬ (tn g).toInt = 0) q))), (3, .int (nI (cntP (fun g => (st g).toInt = 2) q))), (2, .int (nI (cntP (fun g => (st g).toInt = 1) q))), (0, .ref k0), (1, .int w)] → W p l e ((headSpec (.code yX11_count cX11_count 7 (some .int) :: ws0) ({ frames := 2, cells := 0, slots := 0, locals := 42 } : Room)).room) s m ([.ref k0, .int w] : List Value).toArray below meth c H locs 0 0 Q9 (F0 m 13 ls []) := by
    intro n9
    induction n9 with
    | zero => intro q H locs ls hm; exact absurd hm (Nat.not_lt_zero _)
    | succ n9 ih_13 =>
      intro q H locs ls hm hq hP hD hS hl
      have hc2 := cntP_b (fun g => (st g).toInt = 1) q
      have hc3 := cntP_b (fun g => (st g).toInt = 2) q
      have hc4 := cntP_b (fun g => ¬ (tn g).toInt = 0) q
      have hc5 := smP_b (P := lvF ft st tn) (c := fun g => nN (mn g)) q (fun j _ h => (hmw j h).2)
      refine lv_iload hx hb dX11_count_13 (lv_at hl 0 rfl) ?_
      refine lv_aload_n hx hb dX11_count_15 rfl (lv_at hl 5 rfl) ?_
      refine va_get (D := (dC, dI)) (ci := 9) (v := .int (I0 0)) (C := RX11) (T := TX11) (N := 55) hx hb hts inX11 hown hK hP 0 rfl rfl 0 (by decide) (hts _ mw_1159) (fun _ h9 => h9) rfl dX11_count_16 ?_
      refine zz_i (v := nI ft) (hft) ?_
      refine lv_icmp_ge (tgt := 111) hx hb dX11_count_19 (by decide) (fun c_1 => ?_) (fun c_1 => ?_)
      · have c_1 : ((ft : Nat) : Int) ≤ ((q : Nat) : Int) := zc_le (nI_toInt (by omega)) (nI_toInt (by omega)) c_1
        refine lv_iload_n hx hb dX11_count_111 rfl (lv_at hl 6 rfl) ?_
        rcases zz_sw (lo := 0) (hi := 7) rfl with c_2 | c_2
        · refine lv_tableOut (tgt := 190) hx hb dX11_count_112 c_2.1 (by decide) ?_
          refine lv_iconst (v := (-1)) hx hb dX11_count_190 (by decide) ?_
          have hP9 := hP.sub (ws' := [(om k0 a I0 J0), (oa (a 5) cI 201 st), (oa (a 6) cZ 201 tn), (oa (a 11) cI 201 mn)]) [0, 1, 2, 3] rfl
          have hD9 := hD.sub (ws' := [(om k0 a I0 J0), (oa (a 5) cI 201 st), (oa (a 6) cZ 201 tn), (oa (a 11) cI 201 mn)]) [0, 1, 2, 3] (by decide) rfl
          rw [hQ9]
          exact W.iret (v := (-1)) hx hb hr (fun t ht hW => ⟨⟨_, rfl, (-1), rfl, by rw [ht]; exact hP9, hD9⟩, hS.F ht⟩) hS.2.2 dX11_count_191
        · by_cases c_3 : w.toInt = 0
          · refine lv_tableIn (tgt := 160) (off := 48) hx hb dX11_count_112 c_2.2.1 c_2.2.2 (by rw [show (w).toInt = 0 from (rfl).trans c_3]; rfl) (by decide) ?_
            refine lv_aload_n hx hb dX11_count_160 rfl (lv_at hl 5 rfl) ?_
            refine va_get (D := (dC, dI)) (ci := 9) (v := .int (I0 0)) (C := RX11) (T := TX11) (N := 55) hx hb hts inX11 hown hK hP 0 rfl rfl 0 (by decide) (hts _ mw_1159) (fun _ h9 => h9) rfl dX11_count_161 ?_
            refine zz_i (v := nI ft) (hft) ?_
            have hP9 := hP.sub (ws' := [(om k0 a I0 J0), (oa (a 5) cI 201 st), (oa (a 6) cZ 201 tn), (oa (a 11) cI 201 mn)]) [0, 1, 2, 3] rfl
            have hD9 := hD.sub (ws' := [(om k0 a I0 J0), (oa (a 5) cI 201 st), (oa (a 6) cZ 201 tn), (oa (a 11) cI 201 mn)]) [0, 1, 2, 3] (by decide) rfl
            rw [hQ9]
            exact W.iret (v := nI ft) hx hb hr (fun t ht hW => ⟨⟨_, rfl, (nI ft), rfl, by rw [ht]; exact hP9, hD9⟩, hS.F ht⟩) hS.2.2 dX11_count_164
          by_cases c_4 : w.toInt = 1
          · refine lv_tableIn (tgt := 165) (off := 53) hx hb dX11_count_112 c_2.2.1 c_2.2.2 (by rw [show (w).toInt = 1 from (rfl).trans c_4]; rfl) (by decide) ?_
            refine lv_iload_n hx hb dX11_count_165 rfl (lv_at hl 4 rfl) ?_
            have hP9 := hP.sub (ws' := [(om k0 a I0 J0), (oa (a 5) cI 201 st), (oa (a 6) cZ 201 tn), (oa (a 11) cI 201 mn)]) [0, 1, 2, 3] rfl
            have hD9 := hD.sub (ws' := [(om k0 a I0 J0), (oa (a 5) cI 201 st), (oa (a 6) cZ 201 tn), (oa (a 11) cI 201 mn)]) [0, 1, 2, 3] (by decide) rfl
            rw [hQ9]
            exact W.iret (v := nI (cntP (fun g => (st g).toInt = 1) q)) hx hb hr (fun t ht hW => ⟨⟨_, rfl, (nI (cntP (fun g => (st g).toInt = 1) q)), rfl, by rw [ht]; exact hP9, hD9⟩, hS.F ht⟩) hS.2.2 dX11_count_166
          by_cases c_5 : w.toInt = 2
          · refine lv_tableIn (tgt := 167) (off := 55) hx hb dX11_count_112 c_2.2.1 c_2.2.2 (by rw [show (w).toInt = 2 from (rfl).trans c_5]; rfl) (by decide) ?_
            refine lv_iload_n hx hb dX11_count_167 rfl (lv_at hl 3 rfl) ?_
            have hP9 := hP.sub (ws' := [(om k0 a I0 J0), (oa (a 5) cI 201 st), (oa (a 6) cZ 201 tn), (oa (a 11) cI 201 mn)]) [0, 1, 2, 3] rfl
            have hD9 := hD.sub (ws' := [(om k0 a I0 J0), (oa (a 5) cI 201 st), (oa (a 6) cZ 201 tn), (oa (a 11) cI 201 mn)]) [0, 1, 2, 3] (by decide) rfl
            rw [hQ9]
            exact W.iret (v := nI (cntP (fun g => (st g).toInt = 2) q)) hx hb hr (fun t ht hW => ⟨⟨_, rfl, (nI (cntP (fun g => (st g).toInt = 2) q)), rfl, by rw [ht]; exact hP9, hD9⟩, hS.F ht⟩) hS.2.2 dX11_count_168
          by_cases c_6 : w.toInt = 3
          · refine lv_tableIn (tgt := 169) (off := 57) hx hb dX11_count_112 c_2.2.1 c_2.2.2 (by rw [show (w).toInt = 3 from (rfl).trans c_6]; rfl) (by decide) ?_
            refine lv_iload hx hb dX11_count_169 (lv_at hl 2 rfl) ?_
            have hP9 := hP.sub (ws' := [(om k0 a I0 J0), (oa (a 5) cI 201 st), (oa (a 6) cZ 201 tn), (oa (a 11) cI 201 mn)]) [0, 1, 2, 3] rfl
            have hD9 := hD.sub (ws' := [(om k0 a I0 J0), (oa (a 5) cI 201 st), (oa (a 6) cZ 201 tn), (oa (a 11) cI 201 mn)]) [0, 1, 2, 3] (by decide) rfl
            rw [hQ9]
            exact W.iret (v := nI (cntP (fun g => ¬ (tn g).toInt = 0) q)) hx hb hr (fun t ht hW => ⟨⟨_, rfl, (nI (cntP (fun g => ¬ (tn g).toInt = 0) q)), rfl, by rw [ht]; exact hP9, hD9⟩, hS.F ht⟩) hS.2.2 dX11_count_171
          by_cases c_7 : w.toInt = 4
          · refine lv_tableIn (tgt := 172) (off := 60) hx hb dX11_count_112 c_2.2.1 c_2.2.2 (by rw [show (w).toInt = 4 from (rfl).trans c_7]; rfl) (by decide) ?_
            refine lv_iload hx hb dX11_count_172 (lv_at hl 1 rfl) ?_
            have hP9 := hP.sub (ws' := [(om k0 a I0 J0), (oa (a 5) cI 201 st), (oa (a 6) cZ 201 tn), (oa (a 11) cI 201 mn)]) [0, 1, 2, 3] rfl
            have hD9 := hD.sub (ws' := [(om k0 a I0 J0), (oa (a 5) cI 201 st), (oa (a 6) cZ 201 tn), (oa (a 11) cI 201 mn)]) [0, 1, 2, 3] (by decide) rfl
            rw [hQ9]
            exact W.iret (v := nI (smP (lvF ft st tn) (fun g => nN (mn g)) q)) hx hb hr (fun t ht hW => ⟨⟨_, rfl, (nI (smP (lvF ft st tn) (fun g => nN (mn g)) q)), rfl, by rw [ht]; exact hP9, hD9⟩, hS.F ht⟩) hS.2.2 dX11_count_174
          by_cases c_8 : w.toInt = 5
          · refine lv_tableIn (tgt := 175) (off := 63) hx hb dX11_count_112 c_2.2.1 c_2.2.2 (by rw [show (w).toInt = 5 from (rfl).trans c_8]; rfl) (by decide) ?_
            refine lv_aload_n hx hb dX11_count_175 rfl (lv_at hl 5 rfl) ?_
            refine va_get (D := (dC, dI)) (ci := 9) (v := .int (I0 19)) (C := RX11) (T := TX11) (N := 55) hx hb hts inX11 hown hK hP 0 rfl rfl 19 (by decide) (hts _ mw_1178) (fun _ h9 => h9) rfl dX11_count_176 ?_
            have hP9 := hP.sub (ws' := [(om k0 a I0 J0), (oa (a 5) cI 201 st), (oa (a 6) cZ 201 tn), (oa (a 11) cI 201 mn)]) [0, 1, 2, 3] rfl
            have hD9 := hD.sub (ws' := [(om k0 a I0 J0), (oa (a 5) cI 201 st), (oa (a 6) cZ 201 tn), (oa (a 11) cI 201 mn)]) [0, 1, 2, 3] (by decide) rfl
            rw [hQ9]
            exact W.iret (v := I0 19) hx hb hr (fun t ht hW => ⟨⟨_, rfl, (I0 19), rfl, by rw [ht]; exact hP9, hD9⟩, hS.F ht⟩) hS.2.2 dX11_count_179
          by_cases c_9 : w.toInt = 6
          · refine lv_tableIn (tgt := 180) (off := 68) hx hb dX11_count_112 c_2.2.1 c_2.2.2 (by rw [show (w).toInt = 6 from (rfl).trans c_9]; rfl) (by decide) ?_
            refine lv_aload_n hx hb dX11_count_180 rfl (lv_at hl 5 rfl) ?_
            refine va_get (D := (dC, dI)) (ci := 9) (v := .int (I0 20)) (C := RX11) (T := TX11) (N := 55) hx hb hts inX11 hown hK hP 0 rfl rfl 20 (by decide) (hts _ mw_1179) (fun _ h9 => h9) rfl dX11_count_181 ?_
            have hP9 := hP.sub (ws' := [(om k0 a I0 J0), (oa (a 5) cI 201 st), (oa (a 6) cZ 201 tn), (oa (a 11) cI 201 mn)]) [0, 1, 2, 3] rfl
            have hD9 := hD.sub (ws' := [(om k0 a I0 J0), (oa (a 5) cI 201 st), (oa (a 6) cZ 201 tn), (oa (a 11) cI 201 mn)]) [0, 1, 2, 3] (by decide) rfl
            rw [hQ9]
            exact W.iret (v := I0 20) hx hb hr (fun t ht hW => ⟨⟨_, rfl, (I0 20), rfl, by rw [ht]; exact hP9, hD9⟩, hS.F ht⟩) hS.2.2 dX11_count_184
          by_cases c_10 : w.toInt = 7
          · refine lv_tableIn (tgt := 185) (off := 73) hx hb dX11_count_112 c_2.2.1 c_2.2.2 (by rw [show (w).toInt = 7 from (rfl).trans c_10]; rfl) (by decide) ?_
            refine lv_aload_n hx hb dX11_count_185 rfl (lv_at hl 5 rfl) ?_
            refine va_get (D := (dC, dI)) (ci := 9) (v := .int (I0 15)) (C := RX11) (T := TX11) (N := 55) hx hb hts inX11 hown hK hP 0 rfl rfl 15 (by decide) (hts _ mw_1174) (fun _ h9 => h9) rfl dX11_count_186 ?_
            have hP9 := hP.sub (ws' := [(om k0 a I0 J0), (oa (a 5) cI 201 st), (oa (a 6) cZ 201 tn), (oa (a 11) cI 201 mn)]) [0, 1, 2, 3] rfl
            have hD9 := hD.sub (ws' := [(om k0 a I0 J0), (oa (a 5) cI 201 st), (oa (a 6) cZ 201 tn), (oa (a 11) cI 201 mn)]) [0, 1, 2, 3] (by decide) rfl
            rw [hQ9]
            exact W.iret (v := I0 15) hx hb hr (fun t ht hW => ⟨⟨_, rfl, (I0 15), rfl, by rw [ht]; exact hP9, hD9⟩, hS.F ht⟩) hS.2.2 dX11_count_189
          exfalso; omega
      · have c_1 : ((q : Nat) : Int) < ((ft : Nat) : Int) := zc_nle (nI_toInt (by omega)) (nI_toInt (by omega)) c_1
        refine lv_iload_n hx hb dX11_count_22 rfl (lv_at hl 4 rfl) ?_
        refine lv_aload_n hx hb dX11_count_23 rfl (lv_at hl 5 rfl) ?_
        refine va_get (D := (dC, dI)) (ci := 9) (v := .ref (a 5)) (C := RX11) (T := TX11) (N := 55) hx hb hts inX11 hown hK hP 0 rfl rfl 5 (by decide) (hts _ mw_1164) (fun _ h9 => h9) rfl dX11_count_24 ?_
        refine lv_iload hx hb dX11_count_27 (lv_at hl 0 rfl) ?_
        refine z_iald hx hb hK hP 1 0 rfl rfl (e := q) rfl (by omega) (by omega) dX11_count_29 ?_
        refine lv_iconst (v := 1) hx hb dX11_count_30 (by decide) ?_
        refine lv_icmp_ne (tgt := 38) hx hb dX11_count_31 (by decide) (fun c_11 => ?_) (fun c_11 => ?_)
        · have c_11 : ¬ (st q).toInt = 1 := zc_ne rfl (by decide) c_11
          refine lv_iconst (v := 0) hx hb dX11_count_38 (by decide) ?_
          refine lv_iadd hx hb dX11_count_39 ?_
          refine zz_i (v := nI ((cntP (fun g => (st g).toInt = 1) q) + 0)) (nI_add (cntP (fun g => (st g).toInt = 1) q) 0) ?_
          refine lv_istore_n (lv' := [(2, .int (nI ((cntP (fun g => (st g).toInt = 1) q) + 0))), (6, .int (nI q)), (5, .int (nI (smP (lvF ft st tn) (fun g => nN (mn g)) q))), (4, .int (nI (cntP (fun g => ¬ (tn g).toInt = 0) q))), (3, .int (nI (cntP (fun g => (st g).toInt = 2) q))), (0, .ref k0), (1, .int w)]) hx hb dX11_count_40 rfl hl (by decide) rfl (fun ls hl => ?_)
          refine lv_iload_n hx hb dX11_count_41 rfl (lv_at hl 4 rfl) ?_
          refine lv_aload_n hx hb dX11_count_42 rfl (lv_at hl 5 rfl) ?_
          refine va_get (D := (dC, dI)) (ci := 9) (v := .ref (a 5)) (C := RX11) (T := TX11) (N := 55) hx hb hts inX11 hown hK hP 0 rfl rfl 5 (by decide) (hts _ mw_1164) (fun _ h9 => h9) rfl dX11_count_43 ?_
          refine lv_iload hx hb dX11_count_46 (lv_at hl 1 rfl) ?_
          refine z_iald hx hb hK hP 1 0 rfl rfl (e := q) rfl (by omega) (by omega) dX11_count_48 ?_
          refine lv_iconst (v := 2) hx hb dX11_count_49 (by decide) ?_
          refine lv_icmp_ne (tgt := 57) hx hb dX11_count_50 (by decide) (fun c_12 => ?_) (fun c_12 => ?_)
          · have c_12 : ¬ (st q).toInt = 2 := zc_ne rfl (by decide) c_12
            refine lv_iconst (v := 0) hx hb dX11_count_57 (by decide) ?_
            refine lv_iadd hx hb dX11_count_58 ?_
            refine zz_i (v := nI ((cntP (fun g => (st g).toInt = 2) q) + 0)) (nI_add (cntP (fun g => (st g).toInt = 2) q) 0) ?_
            refine lv_istore_n (lv' := [(3, .int (nI ((cntP (fun g => (st g).toInt = 2) q) + 0))), (2, .int (nI ((cntP (fun g => (st g).toInt = 1) q) + 0))), (6, .int (nI q)), (5, .int (nI (smP (lvF ft st tn) (fun g => nN (mn g)) q))), (4, .int (nI (cntP (fun g => ¬ (tn g).toInt = 0) q))), (0, .ref k0), (1, .int w)]) hx hb dX11_count_59 rfl hl (by decide) rfl (fun ls hl => ?_)
            refine lv_iload hx hb dX11_count_60 (lv_at hl 4 rfl) ?_
            refine lv_aload_n hx hb dX11_count_62 rfl (lv_at hl 5 rfl) ?_
            refine va_get (D := (dC, dI)) (ci := 9) (v := .ref (a 6)) (C := RX11) (T := TX11) (N := 55) hx hb hts inX11 hown hK hP 0 rfl rfl 6 (by decide) (hts _ mw_1165) (fun _ h9 => h9) rfl dX11_count_63 ?_
            refine lv_iload hx hb dX11_count_66 (lv_at hl 2 rfl) ?_
            refine z_zald hx hb hK hP 2 1 rfl rfl (e := q) rfl (by omega) (by omega) dX11_count_68 ?_
            refine lv_if_eq (tgt := 76) hx hb dX11_count_69 (by decide) (fun c_13 => ?_) (fun c_13 => ?_)
            · have c_13 : (tn q).toInt = 0 := zc_eq rfl (by decide) c_13
              refine lv_iconst (v := 0) hx hb dX11_count_76 (by decide) ?_
              refine lv_iadd hx hb dX11_count_77 ?_
              refine zz_i (v := nI ((cntP (fun g => ¬ (tn g).toInt = 0) q) + 0)) (nI_add (cntP (fun g => ¬ (tn g).toInt = 0) q) 0) ?_
              refine lv_istore (lv' := [(4, .int (nI ((cntP (fun g => ¬ (tn g).toInt = 0) q) + 0))), (3, .int (nI ((cntP (fun g => (st g).toInt = 2) q) + 0))), (2, .int (nI ((cntP (fun g => (st g).toInt = 1) q) + 0))), (6, .int (nI q)), (5, .int (nI (smP (lvF ft st tn) (fun g => nN (mn g)) q))), (0, .ref k0), (1, .int w)]) hx hb dX11_count_78 hl (by decide) rfl (fun ls hl => ?_)
              refine lv_iload hx hb dX11_count_80 (lv_at hl 4 rfl) ?_
              refine lv_aload_n hx hb dX11_count_82 rfl (lv_at hl 5 rfl) ?_
              refine lv_iload hx hb dX11_count_83 (lv_at hl 3 rfl) ?_
              have hPc := hP.sub (ws' := [(om k0 a I0 J0), (oa (a 5) cI 201 st), (oa (a 6) cZ 201 tn)]) [0, 1, 2] rfl
              have hDc := hD.sub (ws' := [(om k0 a I0 J0), (oa (a 5) cI 201 st), (oa (a 6) cZ 201 tn)]) [0, 1, 2] (by decide) rfl
              have hFc := va_free (wc := [(om k0 a I0 J0), (oa (a 5) cI 201 st), (oa (a 6) cZ 201 tn)]) hD hS hA [0, 1, 2] rfl
              refine zcall (st1 := [.int (pI (q < ft ∧ (st q).toInt = 1 ∧ (tn q).toInt = 0)), .int (nI (smP (lvF ft st tn) (fun g => nN (mn g)) q))]) (va_runV (As := [.int (nI q)]) (rest := [.int (nI (smP (lvF ft st tn) (fun g => nN (mn g)) q))]) ⟨hx, hb, hml, hown, hts⟩ (k_M_is_n l dC dI cI cZ cF H.size k0 a I0 J0 q ft st tn (by assumption) (by omega) (by omega)) (cwV 1 hts (zz_gV mw_1447 mw_1449 mw_56 mw_110 mc_yX11_is) rfl rfl rfl (by decide +kernel) ⟨Nat.le_of_ble_eq_true rfl, Nat.le_of_ble_eq_true rfl⟩) (zPV2 (q0 := 0) (ci := 9) hPc hDc hK hXN rfl rfl) rfl rfl hl.1 rfl (lv_room (Nat.le_of_ble_eq_true rfl)) dX11_count_85 ⟨Nat.le_of_ble_eq_true rfl, Nat.le_of_ble_eq_true rfl⟩) hS hFc hFc rfl (fun t H1 locs ht hB hk1 hS => ?_)
              obtain ⟨hP1, hD1⟩ := hB
              rw [ht] at hP1
              obtain ⟨hP, hD⟩ := va_join (wr := [(oa (a 11) cI 201 mn)]) (w1 := [(om k0 a I0 J0), (oa (a 5) cI 201 st), (oa (a 6) cZ 201 tn)]) hP hD [0, 1, 2] [3] rfl rfl (by decide) (by decide) hk1 hFc hP1 hD1
              clear hk1 hPc hDc hFc hP1 hD1 ht
              generalize H1 = H at hP hS ⊢
              have hP := hP.sub (ws' := [(om k0 a I0 J0), (oa (a 5) cI 201 st), (oa (a 6) cZ 201 tn), (oa (a 11) cI 201 mn)]) [1, 2, 3, 0] rfl
              have hD := hD.sub (ws' := [(om k0 a I0 J0), (oa (a 5) cI 201 st), (oa (a 6) cZ 201 tn), (oa (a 11) cI 201 mn)]) [1, 2, 3, 0] (by decide) rfl
              have hP : va_P (dC, dI) classes [(om k0 a I0 J0), (oa (a 5) cI 201 st), (oa (a 6) cZ 201 tn), (oa (a 11) cI 201 mn)] H := hP
              have hD : va_D A [(om k0 a I0 J0), (oa (a 5) cI 201 st), (oa (a 6) cZ 201 tn), (oa (a 11) cI 201 mn)] := hD
              refine lv_if_eq (tgt := 101) hx hb dX11_count_88 (by decide) (fun c_14 => ?_) (fun c_14 => ?_)
              · have c_14 : ¬ (q < ft ∧ (st q).toInt = 1 ∧ (tn q).toInt = 0) := zp_0 c_14
                refine lv_iconst (v := 0) hx hb dX11_count_101 (by decide) ?_
                refine lv_iadd hx hb dX11_count_102 ?_
                refine zz_i (v := nI ((smP (lvF ft st tn) (fun g => nN (mn g)) q) + 0)) (nI_add (smP (lvF ft st tn) (fun g => nN (mn g)) q) 0) ?_
                refine lv_istore (lv' := [(5, .int (nI ((smP (lvF ft st tn) (fun g => nN (mn g)) q) + 0))), (4, .int (nI ((cntP (fun g => ¬ (tn g).toInt = 0) q) + 0))), (3, .int (nI ((cntP (fun g => (st g).toInt = 2) q) + 0))), (2, .int (nI ((cntP (fun g => (st g).toInt = 1) q) + 0))), (6, .int (nI q)), (0, .ref k0), (1, .int w)]) hx hb dX11_count_103 hl (by decide) rfl (fun ls hl => ?_)
                refine lv_iinc (v := nI (q + 1)) (lv' := [(6, .int (nI (q + 1))), (5, .int (nI ((smP (lvF ft st tn) (fun g => nN (mn g)) q) + 0))), (4, .int (nI ((cntP (fun g => ¬ (tn g).toInt = 0) q) + 0))), (3, .int (nI ((cntP (fun g => (st g).toInt = 2) q) + 0))), (2, .int (nI ((cntP (fun g => (st g).toInt = 1) q) + 0))), (0, .ref k0), (1, .int w)]) hx hb dX11_count_105 hl (k := 4) rfl (nI_add q 1) (by decide) rfl (fun ls hl => ?_)
                refine lv_goto (tgt := 13) hx hb dX11_count_108 (by decide) ?_
                have hl9 := lv_sub hl [0, 1, 2, 3, 4, 5, 6] rfl
                have e9_2 : nI (cntP (fun g => (st g).toInt = 1) (q + 1)) = (nI ((cntP (fun g => (st g).toInt = 1) q) + 0) : Int32) := by first | exact congrArg nI (cntP_y (P := fun g => (st g).toInt = 1) (show (st q).toInt = 1 by omega)) | exact congrArg nI (cntP_n0 (P := fun g => (st g).toInt = 1) (show ¬ (st q).toInt = 1 by omega))
                have e9_3 : nI (cntP (fun g => (st g).toInt = 2) (q + 1)) = (nI ((cntP (fun g => (st g).toInt = 2) q) + 0) : Int32) := by first | exact congrArg nI (cntP_y (P := fun g => (st g).toInt = 2) (show (st q).toInt = 2 by omega)) | exact congrArg nI (cntP_n0 (P := fun g => (st g).toInt = 2) (show ¬ (st q).toInt = 2 by omega))
                have e9_4 : nI (cntP (fun g => ¬ (tn g).toInt = 0) (q + 1)) = (nI ((cntP (fun g => ¬ (tn g).toInt = 0) q) + 0) : Int32) := by first | exact congrArg nI (cntP_y (P := fun g => ¬ (tn g).toInt = 0) (show ¬ (tn q).toInt = 0 by omega)) | exact congrArg nI (cntP_n0 (P := fun g => ¬ (tn g).toInt = 0) (show ¬ ¬ (tn q).toInt = 0 by omega))
                have e9_5 : nI (smP (lvF ft st tn) (fun g => nN (mn g)) (q + 1)) = (nI ((smP (lvF ft st tn) (fun g => nN (mn g)) q) + 0) : Int32) := by first | exact congrArg nI (smP_y (P := lvF ft st tn) (by assumption)) | exact congrArg nI (smP_n (P := lvF ft st tn) (by assumption))
                have hl9 : lv_has ls 7 [(6, .int (nI (q + 1))), (5, .int (nI (smP (lvF ft st tn) (fun g => nN (mn g)) (q + 1)))), (4, .int (nI (cntP (fun g => ¬ (tn g).toInt = 0) (q + 1)))), (3, .int (nI (cntP (fun g => (st g).toInt = 2) (q + 1)))), (2, .int (nI (cntP (fun g => (st g).toInt = 1) (q + 1)))), (0, .ref k0), (1, .int w)] := by rw [e9_2]; rw [e9_3]; rw [e9_4]; rw [e9_5]; exact hl9
                exact ih_13 (q + 1) H locs ls (by omega) (by omega) hP hD hS hl9
              · have c_14 : q < ft ∧ (st q).toInt = 1 ∧ (tn q).toInt = 0 := zp_1 c_14
                refine lv_aload_n hx hb dX11_count_91 rfl (lv_at hl 5 rfl) ?_
                refine va_get (D := (dC, dI)) (ci := 9) (v := .ref (a 11)) (C := RX11) (T := TX11) (N := 55) hx hb hts inX11 hown hK hP 0 rfl rfl 11 (by decide) (hts _ mw_1170) (fun _ h9 => h9) rfl dX11_count_92 ?_
                refine lv_iload hx hb dX11_count_95 (lv_at hl 3 rfl) ?_
                refine z_iald hx hb hK hP 3 0 rfl rfl (e := q) rfl (by omega) (by omega) dX11_count_97 ?_
                refine zz_i (v := nI (nN (mn q))) ((hmw q (by assumption)).1) ?_
                refine lv_goto (tgt := 102) hx hb dX11_count_98 (by decide) ?_
                refine lv_iadd hx hb dX11_count_102 ?_
                refine zz_i (v := nI ((smP (lvF ft st tn) (fun g => nN (mn g)) q) + (nN (mn q)))) (nI_add (smP (lvF ft st tn) (fun g => nN (mn g)) q) (nN (mn q))) ?_
                refine lv_istore (lv' := [(5, .int (nI ((smP (lvF ft st tn) (fun g => nN (mn g)) q) + (nN (mn q))))), (4, .int (nI ((cntP (fun g => ¬ (tn g).toInt = 0) q) + 0))), (3, .int (nI ((cntP (fun g => (st g).toInt = 2) q) + 0))), (2, .int (nI ((cntP (fun g => (st g).toInt = 1) q) + 0))), (6, .int (nI q)), (0, .ref k0), (1, .int w)]) hx hb dX11_count_103 hl (by decide) rfl (fun ls hl => ?_)
                refine lv_iinc (v := nI (q + 1)) (lv' := [(6, .int (nI (q + 1))), (5, .int (nI ((smP (lvF ft st tn) (fun g => nN (mn g)) q) + (nN (mn q))))), (4, .int (nI ((cntP (fun g => ¬ (tn g).toInt = 0) q) + 0))), (3, .int (nI ((cntP (fun g => (st g).toInt = 2) q) + 0))), (2, .int (nI ((cntP (fun g => (st g).toInt = 1) q) + 0))), (0, .ref k0), (1, .int w)]) hx hb dX11_count_105 hl (k := 4) rfl (nI_add q 1) (by decide) rfl (fun ls hl => ?_)
                refine lv_goto (tgt := 13) hx hb dX11_count_108 (by decide) ?_
                have hl9 := lv_sub hl [0, 1, 2, 3, 4, 5, 6] rfl
                have e9_2 : nI (cntP (fun g => (st g).toInt = 1) (q + 1)) = (nI ((cntP (fun g => (st g).toInt = 1) q) + 0) : Int32) := by first | exact congrArg nI (cntP_y (P := fun g => (st g).toInt = 1) (show (st q).toInt = 1 by omega)) | exact congrArg nI (cntP_n0 (P := fun g => (st g).toInt = 1) (show ¬ (st q).toInt = 1 by omega))
                have e9_3 : nI (cntP (fun g => (st g).toInt = 2) (q + 1)) = (nI ((cntP (fun g => (st g).toInt = 2) q) + 0) : Int32) := by first | exact congrArg nI (cntP_y (P := fun g => (st g).toInt = 2) (show (st q).toInt = 2 by omega)) | exact congrArg nI (cntP_n0 (P := fun g => (st g).toInt = 2) (show ¬ (st q).toInt = 2 by omega))
                have e9_4 : nI (cntP (fun g => ¬ (tn g).toInt = 0) (q + 1)) = (nI ((cntP (fun g => ¬ (tn g).toInt = 0) q) + 0) : Int32) := by first | exact congrArg nI (cntP_y (P := fun g => ¬ (tn g).toInt = 0) (show ¬ (tn q).toInt = 0 by omega)) | exact congrArg nI (cntP_n0 (P := fun g => ¬ (tn g).toInt = 0) (show ¬ ¬ (tn q).toInt = 0 by omega))
                have e9_5 : nI (smP (lvF ft st tn) (fun g => nN (mn g)) (q + 1)) = (nI ((smP (lvF ft st tn) (fun g => nN (mn g)) q) + (nN (mn q))) : Int32) := by first | exact congrArg nI (smP_y (P := lvF ft st tn) (by assumption)) | exact congrArg nI (smP_n (P := lvF ft st tn) (by assumption))
                have hl9 : lv_has ls 7 [(6, .int (nI (q + 1))), (5, .int (nI (smP (lvF ft st tn) (fun g => nN (mn g)) (q + 1)))), (4, .int (nI (cntP (fun g => ¬ (tn g).toInt = 0) (q + 1)))), (3, .int (nI (cntP (fun g => (st g).toInt = 2) (q + 1)))), (2, .int (nI (cntP (fun g => (st g).toInt = 1) (q + 1)))), (0, .ref k0), (1, .int w)] := by rw [e9_2]; rw [e9_3]; rw [e9_4]; rw [e9_5]; exact hl9
                exact ih_13 (q + 1) H locs ls (by omega) (by omega) hP hD hS hl9
            · have c_13 : ¬ (tn q).toInt = 0 := zc_ne rfl (by decide) c_13
              refine lv_iconst (v := 1) hx hb dX11_count_72 (by decide) ?_
              refine lv_goto (tgt := 77) hx hb dX11_count_73 (by decide) ?_
              refine lv_iadd hx hb dX11_count_77 ?_
              refine zz_i (v := nI ((cntP (fun g => ¬ (tn g).toInt = 0) q) + 1)) (nI_add (cntP (fun g => ¬ (tn g).toInt = 0) q) 1) ?_
              refine lv_istore (lv' := [(4, .int (nI ((cntP (fun g => ¬ (tn g).toInt = 0) q) + 1))), (3, .int (nI ((cntP (fun g => (st g).toInt = 2) q) + 0))), (2, .int (nI ((cntP (fun g => (st g).toInt = 1) q) + 0))), (6, .int (nI q)), (5, .int (nI (smP (lvF ft st tn) (fun g => nN (mn g)) q))), (0, .ref k0), (1, .int w)]) hx hb dX11_count_78 hl (by decide) rfl (fun ls hl => ?_)
              refine lv_iload hx hb dX11_count_80 (lv_at hl 4 rfl) ?_
              refine lv_aload_n hx hb dX11_count_82 rfl (lv_at hl 5 rfl) ?_
              refine lv_iload hx hb dX11_count_83 (lv_at hl 3 rfl) ?_
              have hPc := hP.sub (ws' := [(om k0 a I0 J0), (oa (a 5) cI 201 st), (oa (a 6) cZ 201 tn)]) [0, 1, 2] rfl
              have hDc := hD.sub (ws' := [(om k0 a I0 J0), (oa (a 5) cI 201 st), (oa (a 6) cZ 201 tn)]) [0, 1, 2] (by decide) rfl
              have hFc := va_free (wc := [(om k0 a I0 J0), (oa (a 5) cI 201 st), (oa (a 6) cZ 201 tn)]) hD hS hA [0, 1, 2] rfl
              refine zcall (st1 := [.int (pI (q < ft ∧ (st q).toInt = 1 ∧ (tn q).toInt = 0)), .int (nI (smP (lvF ft st tn) (fun g => nN (mn g)) q))]) (va_runV (As := [.int (nI q)]) (rest := [.int (nI (smP (lvF ft st tn) (fun g => nN (mn g)) q))]) ⟨hx, hb, hml, hown, hts⟩ (k_M_is_n l dC dI cI cZ cF H.size k0 a I0 J0 q ft st tn (by assumption) (by omega) (by omega)) (cwV 1 hts (zz_gV mw_1447 mw_1449 mw_56 mw_110 mc_yX11_is) rfl rfl rfl (by decide +kernel) ⟨Nat.le_of_ble_eq_true rfl, Nat.le_of_ble_eq_true rfl⟩) (zPV2 (q0 := 0) (ci := 9) hPc hDc hK hXN rfl rfl) rfl rfl hl.1 rfl (lv_room (Nat.le_of_ble_eq_true rfl)) dX11_count_85 ⟨Nat.le_of_ble_eq_true rfl, Nat.le_of_ble_eq_true rfl⟩) hS hFc hFc rfl (fun t H1 locs ht hB hk1 hS => ?_)
              obtain ⟨hP1, hD1⟩ := hB
              rw [ht] at hP1
              obtain ⟨hP, hD⟩ := va_join (wr := [(oa (a 11) cI 201 mn)]) (w1 := [(om k0 a I0 J0), (oa (a 5) cI 201 st), (oa (a 6) cZ 201 tn)]) hP hD [0, 1, 2] [3] rfl rfl (by decide) (by decide) hk1 hFc hP1 hD1
              clear hk1 hPc hDc hFc hP1 hD1 ht
              generalize H1 = H at hP hS ⊢
              have hP := hP.sub (ws' := [(om k0 a I0 J0), (oa (a 5) cI 201 st), (oa (a 6) cZ 201 tn), (oa (a 11) cI 201 mn)]) [1, 2, 3, 0] rfl
              have hD := hD.sub (ws' := [(om k0 a I0 J0), (oa (a 5) cI 201 st), (oa (a 6) cZ 201 tn), (oa (a 11) cI 201 mn)]) [1, 2, 3, 0] (by decide) rfl
              have hP : va_P (dC, dI) classes [(om k0 a I0 J0), (oa (a 5) cI 201 st), (oa (a 6) cZ 201 tn), (oa (a 11) cI 201 mn)] H := hP
              have hD : va_D A [(om k0 a I0 J0), (oa (a 5) cI 201 st), (oa (a 6) cZ 201 tn), (oa (a 11) cI 201 mn)] := hD
              refine lv_if_eq (tgt := 101) hx hb dX11_count_88 (by decide) (fun c_15 => ?_) (fun c_15 => ?_)
              · have c_15 : ¬ (q < ft ∧ (st q).toInt = 1 ∧ (tn q).toInt = 0) := zp_0 c_15
                refine lv_iconst (v := 0) hx hb dX11_count_101 (by decide) ?_
                refine lv_iadd hx hb dX11_count_102 ?_
                refine zz_i (v := nI ((smP (lvF ft st tn) (fun g => nN (mn g)) q) + 0)) (nI_add (smP (lvF ft st tn) (fun g => nN (mn g)) q) 0) ?_
                refine lv_istore (lv' := [(5, .int (nI ((smP (lvF ft st tn) (fun g => nN (mn g)) q) + 0))), (4, .int (nI ((cntP (fun g => ¬ (tn g).toInt = 0) q) + 1))), (3, .int (nI ((cntP (fun g => (st g).toInt = 2) q) + 0))), (2, .int (nI ((cntP (fun g => (st g).toInt = 1) q) + 0))), (6, .int (nI q)), (0, .ref k0), (1, .int w)]) hx hb dX11_count_103 hl (by decide) rfl (fun ls hl => ?_)
                refine lv_iinc (v := nI (q + 1)) (lv' := [(6, .int (nI (q + 1))), (5, .int (nI ((smP (lvF ft st tn) (fun g => nN (mn g)) q) + 0))), (4, .int (nI ((cntP (fun g => ¬ (tn g).toInt = 0) q) + 1))), (3, .int (nI ((cntP (fun g => (st g).toInt = 2) q) + 0))), (2, .int (nI ((cntP (fun g => (st g).toInt = 1) q) + 0))), (0, .ref k0), (1, .int w)]) hx hb dX11_count_105 hl (k := 4) rfl (nI_add q 1) (by decide) rfl (fun ls hl => ?_)
                refine lv_goto (tgt := 13) hx hb dX11_count_108 (by decide) ?_
                have hl9 := lv_sub hl [0, 1, 2, 3, 4, 5, 6] rfl
                have e9_2 : nI (cntP (fun g => (st g).toInt = 1) (q + 1)) = (nI ((cntP (fun g => (st g).toInt = 1) q) + 0) : Int32) := by first | exact congrArg nI (cntP_y (P := fun g => (st g).toInt = 1) (show (st q).toInt = 1 by omega)) | exact congrArg nI (cntP_n0 (P := fun g => (st g).toInt = 1) (show ¬ (st q).toInt = 1 by omega))
                have e9_3 : nI (cntP (fun g => (st g).toInt = 2) (q + 1)) = (nI ((cntP (fun g => (st g).toInt = 2) q) + 0) : Int32) := by first | exact congrArg nI (cntP_y (P := fun g => (st g).toInt = 2) (show (st q).toInt = 2 by omega)) | exact congrArg nI (cntP_n0 (P := fun g => (st g).toInt = 2) (show ¬ (st q).toInt = 2 by omega))
                have e9_4 : nI (cntP (fun g => ¬ (tn g).toInt = 0) (q + 1)) = (nI ((cntP (fun g => ¬ (tn g).toInt = 0) q) + 1) : Int32) := by first | exact congrArg nI (cntP_y (P := fun g => ¬ (tn g).toInt = 0) (show ¬ (tn q).toInt = 0 by omega)) | exact congrArg nI (cntP_n0 (P := fun g => ¬ (tn g).toInt = 0) (show ¬ ¬ (tn q).toInt = 0 by omega))
                have e9_5 : nI (smP (lvF ft st tn) (fun g => nN (mn g)) (q + 1)) = (nI ((smP (lvF ft st tn) (fun g => nN (mn g)) q) + 0) : Int32) := by first | exact congrArg nI (smP_y (P := lvF ft st tn) (by assumption)) | exact congrArg nI (smP_n (P := lvF ft st tn) (by assumption))
                have hl9 : lv_has ls 7 [(6, .int (nI (q + 1))), (5, .int (nI (smP (lvF ft st tn) (fun g => nN (mn g)) (q + 1)))), (4, .int (nI (cntP (fun g => ¬ (tn g).toInt = 0) (q + 1)))), (3, .int (nI (cntP (fun g => (st g).toInt = 2) (q + 1)))), (2, .int (nI (cntP (fun g => (st g).toInt = 1) (q + 1)))), (0, .ref k0), (1, .int w)] := by rw [e9_2]; rw [e9_3]; rw [e9_4]; rw [e9_5]; exact hl9
                exact ih_13 (q + 1) H locs ls (by omega) (by omega) hP hD hS hl9
              · have c_15 : q < ft ∧ (st q).toInt = 1 ∧ (tn q).toInt = 0 := zp_1 c_15
                refine lv_aload_n hx hb dX11_count_91 rfl (lv_at hl 5 rfl) ?_
                refine va_get (D := (dC, dI)) (ci := 9) (v := .ref (a 11)) (C := RX11) (T := TX11) (N := 55) hx hb hts inX11 hown hK hP 0 rfl rfl 11 (by decide) (hts _ mw_1170) (fun _ h9 => h9) rfl dX11_count_92 ?_
                refine lv_iload hx hb dX11_count_95 (lv_at hl 3 rfl) ?_
                refine z_iald hx hb hK hP 3 0 rfl rfl (e := q) rfl (by omega) (by omega) dX11_count_97 ?_
                refine zz_i (v := nI (nN (mn q))) ((hmw q (by assumption)).1) ?_
                refine lv_goto (tgt := 102) hx hb dX11_count_98 (by decide) ?_
                refine lv_iadd hx hb dX11_count_102 ?_
                refine zz_i (v := nI ((smP (lvF ft st tn) (fun g => nN (mn g)) q) + (nN (mn q)))) (nI_add (smP (lvF ft st tn) (fun g => nN (mn g)) q) (nN (mn q))) ?_
                refine lv_istore (lv' := [(5, .int (nI ((smP (lvF ft st tn) (fun g => nN (mn g)) q) + (nN (mn q))))), (4, .int (nI ((cntP (fun g => ¬ (tn g).toInt = 0) q) + 1))), (3, .int (nI ((cntP (fun g => (st g).toInt = 2) q) + 0))), (2, .int (nI ((cntP (fun g => (st g).toInt = 1) q) + 0))), (6, .int (nI q)), (0, .ref k0), (1, .int w)]) hx hb dX11_count_103 hl (by decide) rfl (fun ls hl => ?_)
                refine lv_iinc (v := nI (q + 1)) (lv' := [(6, .int (nI (q + 1))), (5, .int (nI ((smP (lvF ft st tn) (fun g => nN (mn g)) q) + (nN (mn q))))), (4, .int (nI ((cntP (fun g => ¬ (tn g).toInt = 0) q) + 1))), (3, .int (nI ((cntP (fun g => (st g).toInt = 2) q) + 0))), (2, .int (nI ((cntP (fun g => (st g).toInt = 1) q) + 0))), (0, .ref k0), (1, .int w)]) hx hb dX11_count_105 hl (k := 4) rfl (nI_add q 1) (by decide) rfl (fun ls hl => ?_)
                refine lv_goto (tgt := 13) hx hb dX11_count_108 (by decide) ?_
                have hl9 := lv_sub hl [0, 1, 2, 3, 4, 5, 6] rfl
                have e9_2 : nI (cntP (fun g => (st g).toInt = 1) (q + 1)) = (nI ((cntP (fun g => (st g).toInt = 1) q) + 0) : Int32) := by first | exact congrArg nI (cntP_y (P := fun g => (st g).toInt = 1) (show (st q).toInt = 1 by omega)) | exact congrArg nI (cntP_n0 (P := fun g => (st g).toInt = 1) (show ¬ (st q).toInt = 1 by omega))
                have e9_3 : nI (cntP (fun g => (st g).toInt = 2) (q + 1)) = (nI ((cntP (fun g => (st g).toInt = 2) q) + 0) : Int32) := by first | exact congrArg nI (cntP_y (P := fun g => (st g).toInt = 2) (show (st q).toInt = 2 by omega)) | exact congrArg nI (cntP_n0 (P := fun g => (st g).toInt = 2) (show ¬ (st q).toInt = 2 by omega))
                have e9_4 : nI (cntP (fun g => ¬ (tn g).toInt = 0) (q + 1)) = (nI ((cntP (fun g => ¬ (tn g).toInt = 0) q) + 1) : Int32) := by first | exact congrArg nI (cntP_y (P := fun g => ¬ (tn g).toInt = 0) (show ¬ (tn q).toInt = 0 by omega)) | exact congrArg nI (cntP_n0 (P := fun g => ¬ (tn g).toInt = 0) (show ¬ ¬ (tn q).toInt = 0 by omega))
                have e9_5 : nI (smP (lvF ft st tn) (fun g => nN (mn g)) (q + 1)) = (nI ((smP (lvF ft st tn) (fun g => nN (mn g)) q) + (nN (mn q))) : Int32) := by first | exact congrArg nI (smP_y (P := lvF ft st tn) (by assumption)) | exact congrArg nI (smP_n (P := lvF ft st tn) (by assumption))
                have hl9 : lv_has ls 7 [(6, .int (nI (q + 1))), (5, .int (nI (smP (lvF ft st tn) (fun g => nN (mn g)) (q + 1)))), (4, .int (nI (cntP (fun g => ¬ (tn g).toInt = 0) (q + 1)))), (3, .int (nI (cntP (fun g => (st g).toInt = 2) (q + 1)))), (2, .int (nI (cntP (fun g => (st g).toInt = 1) (q + 1)))), (0, .ref k0), (1, .int w)] := by rw [e9_2]; rw [e9_3]; rw [e9_4]; rw [e9_5]; exact hl9
                exact ih_13 (q + 1) H locs ls (by omega) (by omega) hP hD hS hl9
          · have c_12 : (st q).toInt = 2 := zc_eq rfl (by decide) c_12
            refine lv_iconst (v := 1) hx hb dX11_count_53 (by decide) ?_
            refine lv_goto (tgt := 58) hx hb dX11_count_54 (by decide) ?_
            refine lv_iadd hx hb dX11_count_58 ?_
            refine zz_i (v := nI ((cntP (fun g => (st g).toInt = 2) q) + 1)) (nI_add (cntP (fun g => (st g).toInt = 2) q) 1) ?_
            refine lv_istore_n (lv' := [(3, .int (nI ((cntP (fun g => (st g).toInt = 2) q) + 1))), (2, .int (nI ((cntP (fun g => (st g).toInt = 1) q) + 0))), (6, .int (nI q)), (5, .int (nI (smP (lvF ft st tn) (fun g => nN (mn g)) q))), (4, .int (nI (cntP (fun g => ¬ (tn g).toInt = 0) q))), (0, .ref k0), (1, .int w)]) hx hb dX11_count_59 rfl hl (by decide) rfl (fun ls hl => ?_)
            refine lv_iload hx hb dX11_count_60 (lv_at hl 4 rfl) ?_
            refine lv_aload_n hx hb dX11_count_62 rfl (lv_at hl 5 rfl) ?_
            refine va_get (D := (dC, dI)) (ci := 9) (v := .ref (a 6)) (C := RX11) (T := TX11) (N := 55) hx hb hts inX11 hown hK hP 0 rfl rfl 6 (by decide) (hts _ mw_1165) (fun _ h9 => h9) rfl dX11_count_63 ?_
            refine lv_iload hx hb dX11_count_66 (lv_at hl 2 rfl) ?_
            refine z_zald hx hb hK hP 2 1 rfl rfl (e := q) rfl (by omega) (by omega) dX11_count_68 ?_
            refine lv_if_eq (tgt := 76) hx hb dX11_count_69 (by decide) (fun c_16 => ?_) (fun c_16 => ?_)
            · have c_16 : (tn q).toInt = 0 := zc_eq rfl (by decide) c_16
              refine lv_iconst (v := 0) hx hb dX11_count_76 (by decide) ?_
              refine lv_iadd hx hb dX11_count_77 ?_
              refine zz_i (v := nI ((cntP (fun g => ¬ (tn g).toInt = 0) q) + 0)) (nI_add (cntP (fun g => ¬ (tn g).toInt = 0) q) 0) ?_
              refine lv_istore (lv' := [(4, .int (nI ((cntP (fun g => ¬ (tn g).toInt = 0) q) + 0))), (3, .int (nI ((cntP (fun g => (st g).toInt = 2) q) + 1))), (2, .int (nI ((cntP (fun g => (st g).toInt = 1) q) + 0))), (6, .int (nI q)), (5, .int (nI (smP (lvF ft st tn) (fun g => nN (mn g)) q))), (0, .ref k0), (1, .int w)]) hx hb dX11_count_78 hl (by decide) rfl (fun ls hl => ?_)
              refine lv_iload hx hb dX11_count_80 (lv_at hl 4 rfl) ?_
              refine lv_aload_n hx hb dX11_count_82 rfl (lv_at hl 5 rfl) ?_
              refine lv_iload hx hb dX11_count_83 (lv_at hl 3 rfl) ?_
              have hPc := hP.sub (ws' := [(om k0 a I0 J0), (oa (a 5) cI 201 st), (oa (a 6) cZ 201 tn)]) [0, 1, 2] rfl
              have hDc := hD.sub (ws' := [(om k0 a I0 J0), (oa (a 5) cI 201 st), (oa (a 6) cZ 201 tn)]) [0, 1, 2] (by decide) rfl
              have hFc := va_free (wc := [(om k0 a I0 J0), (oa (a 5) cI 201 st), (oa (a 6) cZ 201 tn)]) hD hS hA [0, 1, 2] rfl
              refine zcall (st1 := [.int (pI (q < ft ∧ (st q).toInt = 1 ∧ (tn q).toInt = 0)), .int (nI (smP (lvF ft st tn) (fun g => nN (mn g)) q))]) (va_runV (As := [.int (nI q)]) (rest := [.int (nI (smP (lvF ft st tn) (fun g => nN (mn g)) q))]) ⟨hx, hb, hml, hown, hts⟩ (k_M_is_n l dC dI cI cZ cF H.size k0 a I0 J0 q ft st tn (by assumption) (by omega) (by omega)) (cwV 1 hts (zz_gV mw_1447 mw_1449 mw_56 mw_110 mc_yX11_is) rfl rfl rfl (by decide +kernel) ⟨Nat.le_of_ble_eq_true rfl, Nat.le_of_ble_eq_true rfl⟩) (zPV2 (q0 := 0) (ci := 9) hPc hDc hK hXN rfl rfl) rfl rfl hl.1 rfl (lv_room (Nat.le_of_ble_eq_true rfl)) dX11_count_85 ⟨Nat.le_of_ble_eq_true rfl, Nat.le_of_ble_eq_true rfl⟩) hS hFc hFc rfl (fun t H1 locs ht hB hk1 hS => ?_)
              obtain ⟨hP1, hD1⟩ := hB
              rw [ht] at hP1
              obtain ⟨hP, hD⟩ := va_join (wr := [(oa (a 11) cI 201 mn)]) (w1 := [(om k0 a I0 J0), (oa (a 5) cI 201 st), (oa (a 6) cZ 201 tn)]) hP hD [0, 1, 2] [3] rfl rfl (by decide) (by decide) hk1 hFc hP1 hD1
              clear hk1 hPc hDc hFc hP1 hD1 ht
              generalize H1 = H at hP hS ⊢
              have hP := hP.sub (ws' := [(om k0 a I0 J0), (oa (a 5) cI 201 st), (oa (a 6) cZ 201 tn), (oa (a 11) cI 201 mn)]) [1, 2, 3, 0] rfl
              have hD := hD.sub (ws' := [(om k0 a I0 J0), (oa (a 5) cI 201 st), (oa (a 6) cZ 201 tn), (oa (a 11) cI 201 mn)]) [1, 2, 3, 0] (by decide) rfl
              have hP : va_P (dC, dI) classes [(om k0 a I0 J0), (oa (a 5) cI 201 st), (oa (a 6) cZ 201 tn), (oa (a 11) cI 201 mn)] H := hP
              have hD : va_D A [(om k0 a I0 J0), (oa (a 5) cI 201 st), (oa (a 6) cZ 201 tn), (oa (a 11) cI 201 mn)] := hD
              refine lv_if_eq (tgt := 101) hx hb dX11_count_88 (by decide) (fun c_17 => ?_) (fun c_17 => ?_)
              · have c_17 : ¬ (q < ft ∧ (st q).toInt = 1 ∧ (tn q).toInt = 0) := zp_0 c_17
                refine lv_iconst (v := 0) hx hb dX11_count_101 (by decide) ?_
                refine lv_iadd hx hb dX11_count_102 ?_
                refine zz_i (v := nI ((smP (lvF ft st tn) (fun g => nN (mn g)) q) + 0)) (nI_add (smP (lvF ft st tn) (fun g => nN (mn g)) q) 0) ?_
                refine lv_istore (lv' := [(5, .int (nI ((smP (lvF ft st tn) (fun g => nN (mn g)) q) + 0))), (4, .int (nI ((cntP (fun g => ¬ (tn g).toInt = 0) q) + 0))), (3, .int (nI ((cntP (fun g => (st g).toInt = 2) q) + 1))), (2, .int (nI ((cntP (fun g => (st g).toInt = 1) q) + 0))), (6, .int (nI q)), (0, .ref k0), (1, .int w)]) hx hb dX11_count_103 hl (by decide) rfl (fun ls hl => ?_)
                refine lv_iinc (v := nI (q + 1)) (lv' := [(6, .int (nI (q + 1))), (5, .int (nI ((smP (lvF ft st tn) (fun g => nN (mn g)) q) + 0))), (4, .int (nI ((cntP (fun g => ¬ (tn g).toInt = 0) q) + 0))), (3, .int (nI ((cntP (fun g => (st g).toInt = 2) q) + 1))), (2, .int (nI ((cntP (fun g => (st g).toInt = 1) q) + 0))), (0, .ref k0), (1, .int w)]) hx hb dX11_count_105 hl (k := 4) rfl (nI_add q 1) (by decide) rfl (fun ls hl => ?_)
                refine lv_goto (tgt := 13) hx hb dX11_count_108 (by decide) ?_
                have hl9 := lv_sub hl [0, 1, 2, 3, 4, 5, 6] rfl
                have e9_2 : nI (cntP (fun g => (st g).toInt = 1) (q + 1)) = (nI ((cntP (fun g => (st g).toInt = 1) q) + 0) : Int32) := by first | exact congrArg nI (cntP_y (P := fun g => (st g).toInt = 1) (show (st q).toInt = 1 by omega)) | exact congrArg nI (cntP_n0 (P := fun g => (st g).toInt = 1) (show ¬ (st q).toInt = 1 by omega))
                have e9_3 : nI (cntP (fun g => (st g).toInt = 2) (q + 1)) = (nI ((cntP (fun g => (st g).toInt = 2) q) + 1) : Int32) := by first | exact congrArg nI (cntP_y (P := fun g => (st g).toInt = 2) (show (st q).toInt = 2 by omega)) | exact congrArg nI (cntP_n0 (P := fun g => (st g).toInt = 2) (show ¬ (st q).toInt = 2 by omega))
                have e9_4 : nI (cntP (fun g => ¬ (tn g).toInt = 0) (q + 1)) = (nI ((cntP (fun g => ¬ (tn g).toInt = 0) q) + 0) : Int32) := by first | exact congrArg nI (cntP_y (P := fun g => ¬ (tn g).toInt = 0) (show ¬ (tn q).toInt = 0 by omega)) | exact congrArg nI (cntP_n0 (P := fun g => ¬ (tn g).toInt = 0) (show ¬ ¬ (tn q).toInt = 0 by omega))
                have e9_5 : nI (smP (lvF ft st tn) (fun g => nN (mn g)) (q + 1)) = (nI ((smP (lvF ft st tn) (fun g => nN (mn g)) q) + 0) : Int32) := by first | exact congrArg nI (smP_y (P := lvF ft st tn) (by assumption)) | exact congrArg nI (smP_n (P := lvF ft st tn) (by assumption))
                have hl9 : lv_has ls 7 [(6, .int (nI (q + 1))), (5, .int (nI (smP (lvF ft st tn) (fun g => nN (mn g)) (q + 1)))), (4, .int (nI (cntP (fun g => ¬ (tn g).toInt = 0) (q + 1)))), (3, .int (nI (cntP (fun g => (st g).toInt = 2) (q + 1)))), (2, .int (nI (cntP (fun g => (st g).toInt = 1) (q + 1)))), (0, .ref k0), (1, .int w)] := by rw [e9_2]; rw [e9_3]; rw [e9_4]; rw [e9_5]; exact hl9
                exact ih_13 (q + 1) H locs ls (by omega) (by omega) hP hD hS hl9
              · have c_17 : q < ft ∧ (st q).toInt = 1 ∧ (tn q).toInt = 0 := zp_1 c_17
                refine lv_aload_n hx hb dX11_count_91 rfl (lv_at hl 5 rfl) ?_
                refine va_get (D := (dC, dI)) (ci := 9) (v := .ref (a 11)) (C := RX11) (T := TX11) (N := 55) hx hb hts inX11 hown hK hP 0 rfl rfl 11 (by decide) (hts _ mw_1170) (fun _ h9 => h9) rfl dX11_count_92 ?_
                refine lv_iload hx hb dX11_count_95 (lv_at hl 3 rfl) ?_
                refine z_iald hx hb hK hP 3 0 rfl rfl (e := q) rfl (by omega) (by omega) dX11_count_97 ?_
                refine zz_i (v := nI (nN (mn q))) ((hmw q (by assumption)).1) ?_
                refine lv_goto (tgt := 102) hx hb dX11_count_98 (by decide) ?_
                refine lv_iadd hx hb dX11_count_102 ?_
                refine zz_i (v := nI ((smP (lvF ft st tn) (fun g => nN (mn g)) q) + (nN (mn q)))) (nI_add (smP (lvF ft st tn) (fun g => nN (mn g)) q) (nN (mn q))) ?_
                refine lv_istore (lv' := [(5, .int (nI ((smP (lvF ft st tn) (fun g => nN (mn g)) q) + (nN (mn q))))), (4, .int (nI ((cntP (fun g => ¬ (tn g).toInt = 0) q) + 0))), (3, .int (nI ((cntP (fun g => (st g).toInt = 2) q) + 1))), (2, .int (nI ((cntP (fun g => (st g).toInt = 1) q) + 0))), (6, .int (nI q)), (0, .ref k0), (1, .int w)]) hx hb dX11_count_103 hl (by decide) rfl (fun ls hl => ?_)
                refine lv_iinc (v := nI (q + 1)) (lv' := [(6, .int (nI (q + 1))), (5, .int (nI ((smP (lvF ft st tn) (fun g => nN (mn g)) q) + (nN (mn q))))), (4, .int (nI ((cntP (fun g => ¬ (tn g).toInt = 0) q) + 0))), (3, .int (nI ((cntP (fun g => (st g).toInt = 2) q) + 1))), (2, .int (nI ((cntP (fun g => (st g).toInt = 1) q) + 0))), (0, .ref k0), (1, .int w)]) hx hb dX11_count_105 hl (k := 4) rfl (nI_add q 1) (by decide) rfl (fun ls hl => ?_)
                refine lv_goto (tgt := 13) hx hb dX11_count_108 (by decide) ?_
                have hl9 := lv_sub hl [0, 1, 2, 3, 4, 5, 6] rfl
                have e9_2 : nI (cntP (fun g => (st g).toInt = 1) (q + 1)) = (nI ((cntP (fun g => (st g).toInt = 1) q) + 0) : Int32) := by first | exact congrArg nI (cntP_y (P := fun g => (st g).toInt = 1) (show (st q).toInt = 1 by omega)) | exact congrArg nI (cntP_n0 (P := fun g => (st g).toInt = 1) (show ¬ (st q).toInt = 1 by omega))
                have e9_3 : nI (cntP (fun g => (st g).toInt = 2) (q + 1)) = (nI ((cntP (fun g => (st g).toInt = 2) q) + 1) : Int32) := by first | exact congrArg nI (cntP_y (P := fun g => (st g).toInt = 2) (show (st q).toInt = 2 by omega)) | exact congrArg nI (cntP_n0 (P := fun g => (st g).toInt = 2) (show ¬ (st q).toInt = 2 by omega))
                have e9_4 : nI (cntP (fun g => ¬ (tn g).toInt = 0) (q + 1)) = (nI ((cntP (fun g => ¬ (tn g).toInt = 0) q) + 0) : Int32) := by first | exact congrArg nI (cntP_y (P := fun g => ¬ (tn g).toInt = 0) (show ¬ (tn q).toInt = 0 by omega)) | exact congrArg nI (cntP_n0 (P := fun g => ¬ (tn g).toInt = 0) (show ¬ ¬ (tn q).toInt = 0 by omega))
                have e9_5 : nI (smP (lvF ft st tn) (fun g => nN (mn g)) (q + 1)) = (nI ((smP (lvF ft st tn) (fun g => nN (mn g)) q) + (nN (mn q))) : Int32) := by first | exact congrArg nI (smP_y (P := lvF ft st tn) (by assumption)) | exact congrArg nI (smP_n (P := lvF ft st tn) (by assumption))
                have hl9 : lv_has ls 7 [(6, .int (nI (q + 1))), (5, .int (nI (smP (lvF ft st tn) (fun g => nN (mn g)) (q + 1)))), (4, .int (nI (cntP (fun g => ¬ (tn g).toInt = 0) (q + 1)))), (3, .int (nI (cntP (fun g => (st g).toInt = 2) (q + 1)))), (2, .int (nI (cntP (fun g => (st g).toInt = 1) (q + 1)))), (0, .ref k0), (1, .int w)] := by rw [e9_2]; rw [e9_3]; rw [e9_4]; rw [e9_5]; exact hl9
                exact ih_13 (q + 1) H locs ls (by omega) (by omega) hP hD hS hl9
            · have c_16 : ¬ (tn q).toInt = 0 := zc_ne rfl (by decide) c_16
              refine lv_iconst (v := 1) hx hb dX11_count_72 (by decide) ?_
              refine lv_goto (tgt := 77) hx hb dX11_count_73 (by decide) ?_
              refine lv_iadd hx hb dX11_count_77 ?_
              refine zz_i (v := nI ((cntP (fun g => ¬ (tn g).toInt = 0) q) + 1)) (nI_add (cntP (fun g => ¬ (tn g).toInt = 0) q) 1) ?_
              refine lv_istore (lv' := [(4, .int (nI ((cntP (fun g => ¬ (tn g).toInt = 0) q) + 1))), (3, .int (nI ((cntP (fun g => (st g).toInt = 2) q) + 1))), (2, .int (nI ((cntP (fun g => (st g).toInt = 1) q) + 0))), (6, .int (nI q)), (5, .int (nI (smP (lvF ft st tn) (fun g => nN (mn g)) q))), (0, .ref k0), (1, .int w)]) hx hb dX11_count_78 hl (by decide) rfl (fun ls hl => ?_)
              refine lv_iload hx hb dX11_count_80 (lv_at hl 4 rfl) ?_
              refine lv_aload_n hx hb dX11_count_82 rfl (lv_at hl 5 rfl) ?_
              refine lv_iload hx hb dX11_count_83 (lv_at hl 3 rfl) ?_
              have hPc := hP.sub (ws' := [(om k0 a I0 J0), (oa (a 5) cI 201 st), (oa (a 6) cZ 201 tn)]) [0, 1, 2] rfl
              have hDc := hD.sub (ws' := [(om k0 a I0 J0), (oa (a 5) cI 201 st), (oa (a 6) cZ 201 tn)]) [0, 1, 2] (by decide) rfl
              have hFc := va_free (wc := [(om k0 a I0 J0), (oa (a 5) cI 201 st), (oa (a 6) cZ 201 tn)]) hD hS hA [0, 1, 2] rfl
              refine zcall (st1 := [.int (pI (q < ft ∧ (st q).toInt = 1 ∧ (tn q).toInt = 0)), .int (nI (smP (lvF ft st tn) (fun g => nN (mn g)) q))]) (va_runV (As := [.int (nI q)]) (rest := [.int (nI (smP (lvF ft st tn) (fun g => nN (mn g)) q))]) ⟨hx, hb, hml, hown, hts⟩ (k_M_is_n l dC dI cI cZ cF H.size k0 a I0 J0 q ft st tn (by assumption) (by omega) (by omega)) (cwV 1 hts (zz_gV mw_1447 mw_1449 mw_56 mw_110 mc_yX11_is) rfl rfl rfl (by decide +kernel) ⟨Nat.le_of_ble_eq_true rfl, Nat.le_of_ble_eq_true rfl⟩) (zPV2 (q0 := 0) (ci := 9) hPc hDc hK hXN rfl rfl) rfl rfl hl.1 rfl (lv_room (Nat.le_of_ble_eq_true rfl)) dX11_count_85 ⟨Nat.le_of_ble_eq_true rfl, Nat.le_of_ble_eq_true rfl⟩) hS hFc hFc rfl (fun t H1 locs ht hB hk1 hS => ?_)
              obtain ⟨hP1, hD1⟩ := hB
              rw [ht] at hP1
              obtain ⟨hP, hD⟩ := va_join (wr := [(oa (a 11) cI 201 mn)]) (w1 := [(om k0 a I0 J0), (oa (a 5) cI 201 st), (oa (a 6) cZ 201 tn)]) hP hD [0, 1, 2] [3] rfl rfl (by decide) (by decide) hk1 hFc hP1 hD1
              clear hk1 hPc hDc hFc hP1 hD1 ht
              generalize H1 = H at hP hS ⊢
              have hP := hP.sub (ws' := [(om k0 a I0 J0), (oa (a 5) cI 201 st), (oa (a 6) cZ 201 tn), (oa (a 11) cI 201 mn)]) [1, 2, 3, 0] rfl
              have hD := hD.sub (ws' := [(om k0 a I0 J0), (oa (a 5) cI 201 st), (oa (a 6) cZ 201 tn), (oa (a 11) cI 201 mn)]) [1, 2, 3, 0] (by decide) rfl
              have hP : va_P (dC, dI) classes [(om k0 a I0 J0), (oa (a 5) cI 201 st), (oa (a 6) cZ 201 tn), (oa (a 11) cI 201 mn)] H := hP
              have hD : va_D A [(om k0 a I0 J0), (oa (a 5) cI 201 st), (oa (a 6) cZ 201 tn), (oa (a 11) cI 201 mn)] := hD
              refine lv_if_eq (tgt := 101) hx hb dX11_count_88 (by decide) (fun c_18 => ?_) (fun c_18 => ?_)
              · have c_18 : ¬ (q < ft ∧ (st q).toInt = 1 ∧ (tn q).toInt = 0) := zp_0 c_18
                refine lv_iconst (v := 0) hx hb dX11_count_101 (by decide) ?_
                refine lv_iadd hx hb dX11_count_102 ?_
                refine zz_i (v := nI ((smP (lvF ft st tn) (fun g => nN (mn g)) q) + 0)) (nI_add (smP (lvF ft st tn) (fun g => nN (mn g)) q) 0) ?_
                refine lv_istore (lv' := [(5, .int (nI ((smP (lvF ft st tn) (fun g => nN (mn g)) q) + 0))), (4, .int (nI ((cntP (fun g => ¬ (tn g).toInt = 0) q) + 1))), (3, .int (nI ((cntP (fun g => (st g).toInt = 2) q) + 1))), (2, .int (nI ((cntP (fun g => (st g).toInt = 1) q) + 0))), (6, .int (nI q)), (0, .ref k0), (1, .int w)]) hx hb dX11_count_103 hl (by decide) rfl (fun ls hl => ?_)
                refine lv_iinc (v := nI (q + 1)) (lv' := [(6, .int (nI (q + 1))), (5, .int (nI ((smP (lvF ft st tn) (fun g => nN (mn g)) q) + 0))), (4, .int (nI ((cntP (fun g => ¬ (tn g).toInt = 0) q) + 1))), (3, .int (nI ((cntP (fun g => (st g).toInt = 2) q) + 1))), (2, .int (nI ((cntP (fun g => (st g).toInt = 1) q) + 0))), (0, .ref k0), (1, .int w)]) hx hb dX11_count_105 hl (k := 4) rfl (nI_add q 1) (by decide) rfl (fun ls hl => ?_)
                refine lv_goto (tgt := 13) hx hb dX11_count_108 (by decide) ?_
                have hl9 := lv_sub hl [0, 1, 2, 3, 4, 5, 6] rfl
                have e9_2 : nI (cntP (fun g => (st g).toInt = 1) (q + 1)) = (nI ((cntP (fun g => (st g).toInt = 1) q) + 0) : Int32) := by first | exact congrArg nI (cntP_y (P := fun g => (st g).toInt = 1) (show (st q).toInt = 1 by omega)) | exact congrArg nI (cntP_n0 (P := fun g => (st g).toInt = 1) (show ¬ (st q).toInt = 1 by omega))
                have e9_3 : nI (cntP (fun g => (st g).toInt = 2) (q + 1)) = (nI ((cntP (fun g => (st g).toInt = 2) q) + 1) : Int32) := by first | exact congrArg nI (cntP_y (P := fun g => (st g).toInt = 2) (show (st q).toInt = 2 by omega)) | exact congrArg nI (cntP_n0 (P := fun g => (st g).toInt = 2) (show ¬ (st q).toInt = 2 by omega))
                have e9_4 : nI (cntP (fun g => ¬ (tn g).toInt = 0) (q + 1)) = (nI ((cntP (fun g => ¬ (tn g).toInt = 0) q) + 1) : Int32) := by first | exact congrArg nI (cntP_y (P := fun g => ¬ (tn g).toInt = 0) (show ¬ (tn q).toInt = 0 by omega)) | exact congrArg nI (cntP_n0 (P := fun g => ¬ (tn g).toInt = 0) (show ¬ ¬ (tn q).toInt = 0 by omega))
                have e9_5 : nI (smP (lvF ft st tn) (fun g => nN (mn g)) (q + 1)) = (nI ((smP (lvF ft st tn) (fun g => nN (mn g)) q) + 0) : Int32) := by first | exact congrArg nI (smP_y (P := lvF ft st tn) (by assumption)) | exact congrArg nI (smP_n (P := lvF ft st tn) (by assumption))
                have hl9 : lv_has ls 7 [(6, .int (nI (q + 1))), (5, .int (nI (smP (lvF ft st tn) (fun g => nN (mn g)) (q + 1)))), (4, .int (nI (cntP (fun g => ¬ (tn g).toInt = 0) (q + 1)))), (3, .int (nI (cntP (fun g => (st g).toInt = 2) (q + 1)))), (2, .int (nI (cntP (fun g => (st g).toInt = 1) (q + 1)))), (0, .ref k0), (1, .int w)] := by rw [e9_2]; rw [e9_3]; rw [e9_4]; rw [e9_5]; exact hl9
                exact ih_13 (q + 1) H locs ls (by omega) (by omega) hP hD hS hl9
              · have c_18 : q < ft ∧ (st q).toInt = 1 ∧ (tn q).toInt = 0 := zp_1 c_18
                refine lv_aload_n hx hb dX11_count_91 rfl (lv_at hl 5 rfl) ?_
                refine va_get (D := (dC, dI)) (ci := 9) (v := .ref (a 11)) (C := RX11) (T := TX11) (N := 55) hx hb hts inX11 hown hK hP 0 rfl rfl 11 (by decide) (hts _ mw_1170) (fun _ h9 => h9) rfl dX11_count_92 ?_
                refine lv_iload hx hb dX11_count_95 (lv_at hl 3 rfl) ?_
                refine z_iald hx hb hK hP 3 0 rfl rfl (e := q) rfl (by omega) (by omega) dX11_count_97 ?_
                refine zz_i (v := nI (nN (mn q))) ((hmw q (by assumption)).1) ?_
                refine lv_goto (tgt := 102) hx hb dX11_count_98 (by decide) ?_
                refine lv_iadd hx hb dX11_count_102 ?_
                refine zz_i (v := nI ((smP (lvF ft st tn) (fun g => nN (mn g)) q) + (nN (mn q)))) (nI_add (smP (lvF ft st tn) (fun g => nN (mn g)) q) (nN (mn q))) ?_
                refine lv_istore (lv' := [(5, .int (nI ((smP (lvF ft st tn) (fun g => nN (mn g)) q) + (nN (mn q))))), (4, .int (nI ((cntP (fun g => ¬ (tn g).toInt = 0) q) + 1))), (3, .int (nI ((cntP (fun g => (st g).toInt = 2) q) + 1))), (2, .int (nI ((cntP (fun g => (st g).toInt = 1) q) + 0))), (6, .int (nI q)), (0, .ref k0), (1, .int w)]) hx hb dX11_count_103 hl (by decide) rfl (fun ls hl => ?_)
                refine lv_iinc (v := nI (q + 1)) (lv' := [(6, .int (nI (q + 1))), (5, .int (nI ((smP (lvF ft st tn) (fun g => nN (mn g)) q) + (nN (mn q))))), (4, .int (nI ((cntP (fun g => ¬ (tn g).toInt = 0) q) + 1))), (3, .int (nI ((cntP (fun g => (st g).toInt = 2) q) + 1))), (2, .int (nI ((cntP (fun g => (st g).toInt = 1) q) + 0))), (0, .ref k0), (1, .int w)]) hx hb dX11_count_105 hl (k := 4) rfl (nI_add q 1) (by decide) rfl (fun ls hl => ?_)
                refine lv_goto (tgt := 13) hx hb dX11_count_108 (by decide) ?_
                have hl9 := lv_sub hl [0, 1, 2, 3, 4, 5, 6] rfl
                have e9_2 : nI (cntP (fun g => (st g).toInt = 1) (q + 1)) = (nI ((cntP (fun g => (st g).toInt = 1) q) + 0) : Int32) := by first | exact congrArg nI (cntP_y (P := fun g => (st g).toInt = 1) (show (st q).toInt = 1 by omega)) | exact congrArg nI (cntP_n0 (P := fun g => (st g).toInt = 1) (show ¬ (st q).toInt = 1 by omega))
                have e9_3 : nI (cntP (fun g => (st g).toInt = 2) (q + 1)) = (nI ((cntP (fun g => (st g).toInt = 2) q) + 1) : Int32) := by first | exact congrArg nI (cntP_y (P := fun g => (st g).toInt = 2) (show (st q).toInt = 2 by omega)) | exact congrArg nI (cntP_n0 (P := fun g => (st g).toInt = 2) (show ¬ (st q).toInt = 2 by omega))
                have e9_4 : nI (cntP (fun g => ¬ (tn g).toInt = 0) (q + 1)) = (nI ((cntP (fun g => ¬ (tn g).toInt = 0) q) + 1) : Int32) := by first | exact congrArg nI (cntP_y (P := fun g => ¬ (tn g).toInt = 0) (show ¬ (tn q).toInt = 0 by omega)) | exact congrArg nI (cntP_n0 (P := fun g => ¬ (tn g).toInt = 0) (show ¬ ¬ (tn q).toInt = 0 by omega))
                have e9_5 : nI (smP (lvF ft st tn) (fun g => nN (mn g)) (q + 1)) = (nI ((smP (lvF ft st tn) (fun g => nN (mn g)) q) + (nN (mn q))) : Int32) := by first | exact congrArg nI (smP_y (P := lvF ft st tn) (by assumption)) | exact congrArg nI (smP_n (P := lvF ft st tn) (by assumption))
                have hl9 : lv_has ls 7 [(6, .int (nI (q + 1))), (5, .int (nI (smP (lvF ft st tn) (fun g => nN (mn g)) (q + 1)))), (4, .int (nI (cntP (fun g => ¬ (tn g).toInt = 0) (q + 1)))), (3, .int (nI (cntP (fun g => (st g).toInt = 2) (q + 1)))), (2, .int (nI (cntP (fun g => (st g).toInt = 1) (q + 1)))), (0, .ref k0), (1, .int w)] := by rw [e9_2]; rw [e9_3]; rw [e9_4]; rw [e9_5]; exact hl9
                exact ih_13 (q + 1) H locs ls (by omega) (by omega) hP hD hS hl9
        · have c_11 : (st q).toInt = 1 := zc_eq rfl (by decide) c_11
          refine lv_iconst (v := 1) hx hb dX11_count_34 (by decide) ?_
          refine lv_goto (tgt := 39) hx hb dX11_count_35 (by decide) ?_
          refine lv_iadd hx hb dX11_count_39 ?_
          refine zz_i (v := nI ((cntP (fun g => (st g).toInt = 1) q) + 1)) (nI_add (cntP (fun g => (st g).toInt = 1) q) 1) ?_
          refine lv_istore_n (lv' := [(2, .int (nI ((cntP (fun g => (st g).toInt = 1) q) + 1))), (6, .int (nI q)), (5, .int (nI (smP (lvF ft st tn) (fun g => nN (mn g)) q))), (4, .int (nI (cntP (fun g => ¬ (tn g).toInt = 0) q))), (3, .int (nI (cntP (fun g => (st g).toInt = 2) q))), (0, .ref k0), (1, .int w)]) hx hb dX11_count_40 rfl hl (by decide) rfl (fun ls hl => ?_)
          refine lv_iload_n hx hb dX11_count_41 rfl (lv_at hl 4 rfl) ?_
          refine lv_aload_n hx hb dX11_count_42 rfl (lv_at hl 5 rfl) ?_
          refine va_get (D := (dC, dI)) (ci := 9) (v := .ref (a 5)) (C := RX11) (T := TX11) (N := 55) hx hb hts inX11 hown hK hP 0 rfl rfl 5 (by decide) (hts _ mw_1164) (fun _ h9 => h9) rfl dX11_count_43 ?_
          refine lv_iload hx hb dX11_count_46 (lv_at hl 1 rfl) ?_
          refine z_iald hx hb hK hP 1 0 rfl rfl (e := q) rfl (by omega) (by omega) dX11_count_48 ?_
          refine lv_iconst (v := 2) hx hb dX11_count_49 (by decide) ?_
          refine lv_icmp_ne (tgt := 57) hx hb dX11_count_50 (by decide) (fun c_19 => ?_) (fun c_19 => ?_)
          · have c_19 : ¬ (st q).toInt = 2 := zc_ne rfl (by decide) c_19
            refine lv_iconst (v := 0) hx hb dX11_count_57 (by decide) ?_
            refine lv_iadd hx hb dX11_count_58 ?_
            refine zz_i (v := nI ((cntP (fun g => (st g).toInt = 2) q) + 0)) (nI_add (cntP (fun g => (st g).toInt = 2) q) 0) ?_
            refine lv_istore_n (lv' := [(3, .int (nI ((cntP (fun g => (st g).toInt = 2) q) + 0))), (2, .int (nI ((cntP (fun g => (st g).toInt = 1) q) + 1))), (6, .int (nI q)), (5, .int (nI (smP (lvF ft st tn) (fun g => nN (mn g)) q))), (4, .int (nI (cntP (fun g => ¬ (tn g).toInt = 0) q))), (0, .ref k0), (1, .int w)]) hx hb dX11_count_59 rfl hl (by decide) rfl (fun ls hl => ?_)
            refine lv_iload hx hb dX11_count_60 (lv_at hl 4 rfl) ?_
            refine lv_aload_n hx hb dX11_count_62 rfl (lv_at hl 5 rfl) ?_
            refine va_get (D := (dC, dI)) (ci := 9) (v := .ref (a 6)) (C := RX11) (T := TX11) (N := 55) hx hb hts inX11 hown hK hP 0 rfl rfl 6 (by decide) (hts _ mw_1165) (fun _ h9 => h9) rfl dX11_count_63 ?_
            refine lv_iload hx hb dX11_count_66 (lv_at hl 2 rfl) ?_
            refine z_zald hx hb hK hP 2 1 rfl rfl (e := q) rfl (by omega) (by omega) dX11_count_68 ?_
            refine lv_if_eq (tgt := 76) hx hb dX11_count_69 (by decide) (fun c_20 => ?_) (fun c_20 => ?_)
            · have c_20 : (tn q).toInt = 0 := zc_eq rfl (by decide) c_20
              refine lv_iconst (v := 0) hx hb dX11_count_76 (by decide) ?_
              refine lv_iadd hx hb dX11_count_77 ?_
              refine zz_i (v := nI ((cntP (fun g => ¬ (tn g).toInt = 0) q) + 0)) (nI_add (cntP (fun g => ¬ (tn g).toInt = 0) q) 0) ?_
              refine lv_istore (lv' := [(4, .int (nI ((cntP (fun g => ¬ (tn g).toInt = 0) q) + 0))), (3, .int (nI ((cntP (fun g => (st g).toInt = 2) q) + 0))), (2, .int (nI ((cntP (fun g => (st g).toInt = 1) q) + 1))), (6, .int (nI q)), (5, .int (nI (smP (lvF ft st tn) (fun g => nN (mn g)) q))), (0, .ref k0), (1, .int w)]) hx hb dX11_count_78 hl (by decide) rfl (fun ls hl => ?_)
              refine lv_iload hx hb dX11_count_80 (lv_at hl 4 rfl) ?_
              refine lv_aload_n hx hb dX11_count_82 rfl (lv_at hl 5 rfl) ?_
              refine lv_iload hx hb dX11_count_83 (lv_at hl 3 rfl) ?_
              have hPc := hP.sub (ws' := [(om k0 a I0 J0), (oa (a 5) cI 201 st), (oa (a 6) cZ 201 tn)]) [0, 1, 2] rfl
              have hDc := hD.sub (ws' := [(om k0 a I0 J0), (oa (a 5) cI 201 st), (oa (a 6) cZ 201 tn)]) [0, 1, 2] (by decide) rfl
              have hFc := va_free (wc := [(om k0 a I0 J0), (oa (a 5) cI 201 st), (oa (a 6) cZ 201 tn)]) hD hS hA [0, 1, 2] rfl
              refine zcall (st1 := [.int (pI (q < ft ∧ (st q).toInt = 1 ∧ (tn q).toInt = 0)), .int (nI (smP (lvF ft st tn) (fun g => nN (mn g)) q))]) (va_runV (As := [.int (nI q)]) (rest := [.int (nI (smP (lvF ft st tn) (fun g => nN (mn g)) q))]) ⟨hx, hb, hml, hown, hts⟩ (k_M_is_n l dC dI cI cZ cF H.size k0 a I0 J0 q ft st tn (by assumption) (by omega) (by omega)) (cwV 1 hts (zz_gV mw_1447 mw_1449 mw_56 mw_110 mc_yX11_is) rfl rfl rfl (by decide +kernel) ⟨Nat.le_of_ble_eq_true rfl, Nat.le_of_ble_eq_true rfl⟩) (zPV2 (q0 := 0) (ci := 9) hPc hDc hK hXN rfl rfl) rfl rfl hl.1 rfl (lv_room (Nat.le_of_ble_eq_true rfl)) dX11_count_85 ⟨Nat.le_of_ble_eq_true rfl, Nat.le_of_ble_eq_true rfl⟩) hS hFc hFc rfl (fun t H1 locs ht hB hk1 hS => ?_)
              obtain ⟨hP1, hD1⟩ := hB
              rw [ht] at hP1
              obtain ⟨hP, hD⟩ := va_join (wr := [(oa (a 11) cI 201 mn)]) (w1 := [(om k0 a I0 J0), (oa (a 5) cI 201 st), (oa (a 6) cZ 201 tn)]) hP hD [0, 1, 2] [3] rfl rfl (by decide) (by decide) hk1 hFc hP1 hD1
              clear hk1 hPc hDc hFc hP1 hD1 ht
              generalize H1 = H at hP hS ⊢
              have hP := hP.sub (ws' := [(om k0 a I0 J0), (oa (a 5) cI 201 st), (oa (a 6) cZ 201 tn), (oa (a 11) cI 201 mn)]) [1, 2, 3, 0] rfl
              have hD := hD.sub (ws' := [(om k0 a I0 J0), (oa (a 5) cI 201 st), (oa (a 6) cZ 201 tn), (oa (a 11) cI 201 mn)]) [1, 2, 3, 0] (by decide) rfl
              have hP : va_P (dC, dI) classes [(om k0 a I0 J0), (oa (a 5) cI 201 st), (oa (a 6) cZ 201 tn), (oa (a 11) cI 201 mn)] H := hP
              have hD : va_D A [(om k0 a I0 J0), (oa (a 5) cI 201 st), (oa (a 6) cZ 201 tn), (oa (a 11) cI 201 mn)] := hD
              refine lv_if_eq (tgt := 101) hx hb dX11_count_88 (by decide) (fun c_21 => ?_) (fun c_21 => ?_)
              · have c_21 : ¬ (q < ft ∧ (st q).toInt = 1 ∧ (tn q).toInt = 0) := zp_0 c_21
                refine lv_iconst (v := 0) hx hb dX11_count_101 (by decide) ?_
                refine lv_iadd hx hb dX11_count_102 ?_
                refine zz_i (v := nI ((smP (lvF ft st tn) (fun g => nN (mn g)) q) + 0)) (nI_add (smP (lvF ft st tn) (fun g => nN (mn g)) q) 0) ?_
                refine lv_istore (lv' := [(5, .int (nI ((smP (lvF ft st tn) (fun g => nN (mn g)) q) + 0))), (4, .int (nI ((cntP (fun g => ¬ (tn g).toInt = 0) q) + 0))), (3, .int (nI ((cntP (fun g => (st g).toInt = 2) q) + 0))), (2, .int (nI ((cntP (fun g => (st g).toInt = 1) q) + 1))), (6, .int (nI q)), (0, .ref k0), (1, .int w)]) hx hb dX11_count_103 hl (by decide) rfl (fun ls hl => ?_)
                refine lv_iinc (v := nI (q + 1)) (lv' := [(6, .int (nI (q + 1))), (5, .int (nI ((smP (lvF ft st tn) (fun g => nN (mn g)) q) + 0))), (4, .int (nI ((cntP (fun g => ¬ (tn g).toInt = 0) q) + 0))), (3, .int (nI ((cntP (fun g => (st g).toInt = 2) q) + 0))), (2, .int (nI ((cntP (fun g => (st g).toInt = 1) q) + 1))), (0, .ref k0), (1, .int w)]) hx hb dX11_count_105 hl (k := 4) rfl (nI_add q 1) (by decide) rfl (fun ls hl => ?_)
                refine lv_goto (tgt := 13) hx hb dX11_count_108 (by decide) ?_
                have hl9 := lv_sub hl [0, 1, 2, 3, 4, 5, 6] rfl
                have e9_2 : nI (cntP (fun g => (st g).toInt = 1) (q + 1)) = (nI ((cntP (fun g => (st g).toInt = 1) q) + 1) : Int32) := by first | exact congrArg nI (cntP_y (P := fun g => (st g).toInt = 1) (show (st q).toInt = 1 by omega)) | exact congrArg nI (cntP_n0 (P := fun g => (st g).toInt = 1) (show ¬ (st q).toInt = 1 by omega))
                have e9_3 : nI (cntP (fun g => (st g).toInt = 2) (q + 1)) = (nI ((cntP (fun g => (st g).toInt = 2) q) + 0) : Int32) := by first | exact congrArg nI (cntP_y (P := fun g => (st g).toInt = 2) (show (st q).toInt = 2 by omega)) | exact congrArg nI (cntP_n0 (P := fun g => (st g).toInt = 2) (show ¬ (st q).toInt = 2 by omega))
                have e9_4 : nI (cntP (fun g => ¬ (tn g).toInt = 0) (q + 1)) = (nI ((cntP (fun g => ¬ (tn g).toInt = 0) q) + 0) : Int32) := by first | exact congrArg nI (cntP_y (P := fun g => ¬ (tn g).toInt = 0) (show ¬ (tn q).toInt = 0 by omega)) | exact congrArg nI (cntP_n0 (P := fun g => ¬ (tn g).toInt = 0) (show ¬ ¬ (tn q).toInt = 0 by omega))
                have e9_5 : nI (smP (lvF ft st tn) (fun g => nN (mn g)) (q + 1)) = (nI ((smP (lvF ft st tn) (fun g => nN (mn g)) q) + 0) : Int32) := by first | exact congrArg nI (smP_y (P := lvF ft st tn) (by assumption)) | exact congrArg nI (smP_n (P := lvF ft st tn) (by assumption))
                have hl9 : lv_has ls 7 [(6, .int (nI (q + 1))), (5, .int (nI (smP (lvF ft st tn) (fun g => nN (mn g)) (q + 1)))), (4, .int (nI (cntP (fun g => ¬ (tn g).toInt = 0) (q + 1)))), (3, .int (nI (cntP (fun g => (st g).toInt = 2) (q + 1)))), (2, .int (nI (cntP (fun g => (st g).toInt = 1) (q + 1)))), (0, .ref k0), (1, .int w)] := by rw [e9_2]; rw [e9_3]; rw [e9_4]; rw [e9_5]; exact hl9
                exact ih_13 (q + 1) H locs ls (by omega) (by omega) hP hD hS hl9
              · have c_21 : q < ft ∧ (st q).toInt = 1 ∧ (tn q).toInt = 0 := zp_1 c_21
                refine lv_aload_n hx hb dX11_count_91 rfl (lv_at hl 5 rfl) ?_
                refine va_get (D := (dC, dI)) (ci := 9) (v := .ref (a 11)) (C := RX11) (T := TX11) (N := 55) hx hb hts inX11 hown hK hP 0 rfl rfl 11 (by decide) (hts _ mw_1170) (fun _ h9 => h9) rfl dX11_count_92 ?_
                refine lv_iload hx hb dX11_count_95 (lv_at hl 3 rfl) ?_
                refine z_iald hx hb hK hP 3 0 rfl rfl (e := q) rfl (by omega) (by omega) dX11_count_97 ?_
                refine zz_i (v := nI (nN (mn q))) ((hmw q (by assumption)).1) ?_
                refine lv_goto (tgt := 102) hx hb dX11_count_98 (by decide) ?_
                refine lv_iadd hx hb dX11_count_102 ?_
                refine zz_i (v := nI ((smP (lvF ft st tn) (fun g => nN (mn g)) q) + (nN (mn q)))) (nI_add (smP (lvF ft st tn) (fun g => nN (mn g)) q) (nN (mn q))) ?_
                refine lv_istore (lv' := [(5, .int (nI ((smP (lvF ft st tn) (fun g => nN (mn g)) q) + (nN (mn q))))), (4, .int (nI ((cntP (fun g => ¬ (tn g).toInt = 0) q) + 0))), (3, .int (nI ((cntP (fun g => (st g).toInt = 2) q) + 0))), (2, .int (nI ((cntP (fun g => (st g).toInt = 1) q) + 1))), (6, .int (nI q)), (0, .ref k0), (1, .int w)]) hx hb dX11_count_103 hl (by decide) rfl (fun ls hl => ?_)
                refine lv_iinc (v := nI (q + 1)) (lv' := [(6, .int (nI (q + 1))), (5, .int (nI ((smP (lvF ft st tn) (fun g => nN (mn g)) q) + (nN (mn q))))), (4, .int (nI ((cntP (fun g => ¬ (tn g).toInt = 0) q) + 0))), (3, .int (nI ((cntP (fun g => (st g).toInt = 2) q) + 0))), (2, .int (nI ((cntP (fun g => (st g).toInt = 1) q) + 1))), (0, .ref k0), (1, .int w)]) hx hb dX11_count_105 hl (k := 4) rfl (nI_add q 1) (by decide) rfl (fun ls hl => ?_)
                refine lv_goto (tgt := 13) hx hb dX11_count_108 (by decide) ?_
                have hl9 := lv_sub hl [0, 1, 2, 3, 4, 5, 6] rfl
                have e9_2 : nI (cntP (fun g => (st g).toInt = 1) (q + 1)) = (nI ((cntP (fun g => (st g).toInt = 1) q) + 1) : Int32) := by first | exact congrArg nI (cntP_y (P := fun g => (st g).toInt = 1) (show (st q).toInt = 1 by omega)) | exact congrArg nI (cntP_n0 (P := fun g => (st g).toInt = 1) (show ¬ (st q).toInt = 1 by omega))
                have e9_3 : nI (cntP (fun g => (st g).toInt = 2) (q + 1)) = (nI ((cntP (fun g => (st g).toInt = 2) q) + 0) : Int32) := by first | exact congrArg nI (cntP_y (P := fun g => (st g).toInt = 2) (show (st q).toInt = 2 by omega)) | exact congrArg nI (cntP_n0 (P := fun g => (st g).toInt = 2) (show ¬ (st q).toInt = 2 by omega))
                have e9_4 : nI (cntP (fun g => ¬ (tn g).toInt = 0) (q + 1)) = (nI ((cntP (fun g => ¬ (tn g).toInt = 0) q) + 0) : Int32) := by first | exact congrArg nI (cntP_y (P := fun g => ¬ (tn g).toInt = 0) (show ¬ (tn q).toInt = 0 by omega)) | exact congrArg nI (cntP_n0 (P := fun g => ¬ (tn g).toInt = 0) (show ¬ ¬ (tn q).toInt = 0 by omega))
                have e9_5 : nI (smP (lvF ft st tn) (fun g => nN (mn g)) (q + 1)) = (nI ((smP (lvF ft st tn) (fun g => nN (mn g)) q) + (nN (mn q))) : Int32) := by first | exact congrArg nI (smP_y (P := lvF ft st tn) (by assumption)) | exact congrArg nI (smP_n (P := lvF ft st tn) (by assumption))
                have hl9 : lv_has ls 7 [(6, .int (nI (q + 1))), (5, .int (nI (smP (lvF ft st tn) (fun g => nN (mn g)) (q + 1)))), (4, .int (nI (cntP (fun g => ¬ (tn g).toInt = 0) (q + 1)))), (3, .int (nI (cntP (fun g => (st g).toInt = 2) (q + 1)))), (2, .int (nI (cntP (fun g => (st g).toInt = 1) (q + 1)))), (0, .ref k0), (1, .int w)] := by rw [e9_2]; rw [e9_3]; rw [e9_4]; rw [e9_5]; exact hl9
                exact ih_13 (q + 1) H locs ls (by omega) (by omega) hP hD hS hl9
            · have c_20 : ¬ (tn q).toInt = 0 := zc_ne rfl (by decide) c_20
              refine lv_iconst (v := 1) hx hb dX11_count_72 (by decide) ?_
              refine lv_goto (tgt := 77) hx hb dX11_count_73 (by decide) ?_
              refine lv_iadd hx hb dX11_count_77 ?_
              refine zz_i (v := nI ((cntP (fun g => ¬ (tn g).toInt = 0) q) + 1)) (nI_add (cntP (fun g => ¬ (tn g).toInt = 0) q) 1) ?_
              refine lv_istore (lv' := [(4, .int (nI ((cntP (fun g => ¬ (tn g).toInt = 0) q) + 1))), (3, .int (nI ((cntP (fun g => (st g).toInt = 2) q) + 0))), (2, .int (nI ((cntP (fun g => (st g).toInt = 1) q) + 1))), (6, .int (nI q)), (5, .int (nI (smP (lvF ft st tn) (fun g => nN (mn g)) q))), (0, .ref k0), (1, .int w)]) hx hb dX11_count_78 hl (by decide) rfl (fun ls hl => ?_)
              refine lv_iload hx hb dX11_count_80 (lv_at hl 4 rfl) ?_
              refine lv_aload_n hx hb dX11_count_82 rfl (lv_at hl 5 rfl) ?_
              refine lv_iload hx hb dX11_count_83 (lv_at hl 3 rfl) ?_
              have hPc := hP.sub (ws' := [(om k0 a I0 J0), (oa (a 5) cI 201 st), (oa (a 6) cZ 201 tn)]) [0, 1, 2] rfl
              have hDc := hD.sub (ws' := [(om k0 a I0 J0), (oa (a 5) cI 201 st), (oa (a 6) cZ 201 tn)]) [0, 1, 2] (by decide) rfl
              have hFc := va_free (wc := [(om k0 a I0 J0), (oa (a 5) cI 201 st), (oa (a 6) cZ 201 tn)]) hD hS hA [0, 1, 2] rfl
              refine zcall (st1 := [.int (pI (q < ft ∧ (st q).toInt = 1 ∧ (tn q).toInt = 0)), .int (nI (smP (lvF ft st tn) (fun g => nN (mn g)) q))]) (va_runV (As := [.int (nI q)]) (rest := [.int (nI (smP (lvF ft st tn) (fun g => nN (mn g)) q))]) ⟨hx, hb, hml, hown, hts⟩ (k_M_is_n l dC dI cI cZ cF H.size k0 a I0 J0 q ft st tn (by assumption) (by omega) (by omega)) (cwV 1 hts (zz_gV mw_1447 mw_1449 mw_56 mw_110 mc_yX11_is) rfl rfl rfl (by decide +kernel) ⟨Nat.le_of_ble_eq_true rfl, Nat.le_of_ble_eq_true rfl⟩) (zPV2 (q0 := 0) (ci := 9) hPc hDc hK hXN rfl rfl) rfl rfl hl.1 rfl (lv_room (Nat.le_of_ble_eq_true rfl)) dX11_count_85 ⟨Nat.le_of_ble_eq_true rfl, Nat.le_of_ble_eq_true rfl⟩) hS hFc hFc rfl (fun t H1 locs ht hB hk1 hS => ?_)
              obtain ⟨hP1, hD1⟩ := hB
              rw [ht] at hP1
              obtain ⟨hP, hD⟩ := va_join (wr := [(oa (a 11) cI 201 mn)]) (w1 := [(om k0 a I0 J0), (oa (a 5) cI 201 st), (oa (a 6) cZ 201 tn)]) hP hD [0, 1, 2] [3] rfl rfl (by decide) (by decide) hk1 hFc hP1 hD1
              clear hk1 hPc hDc hFc hP1 hD1 ht
              generalize H1 = H at hP hS ⊢
              have hP := hP.sub (ws' := [(om k0 a I0 J0), (oa (a 5) cI 201 st), (oa (a 6) cZ 201 tn), (oa (a 11) cI 201 mn)]) [1, 2, 3, 0] rfl
              have hD := hD.sub (ws' := [(om k0 a I0 J0), (oa (a 5) cI 201 st), (oa (a 6) cZ 201 tn), (oa (a 11) cI 201 mn)]) [1, 2, 3, 0] (by decide) rfl
              have hP : va_P (dC, dI) classes [(om k0 a I0 J0), (oa (a 5) cI 201 st), (oa (a 6) cZ 201 tn), (oa (a 11) cI 201 mn)] H := hP
              have hD : va_D A [(om k0 a I0 J0), (oa (a 5) cI 201 st), (oa (a 6) cZ 201 tn), (oa (a 11) cI 201 mn)] := hD
              refine lv_if_eq (tgt := 101) hx hb dX11_count_88 (by decide) (fun c_22 => ?_) (fun c_22 => ?_)
              · have c_22 : ¬ (q < ft ∧ (st q).toInt = 1 ∧ (tn q).toInt = 0) := zp_0 c_22
                refine lv_iconst (v := 0) hx hb dX11_count_101 (by decide) ?_
                refine lv_iadd hx hb dX11_count_102 ?_
                refine zz_i (v := nI ((smP (lvF ft st tn) (fun g => nN (mn g)) q) + 0)) (nI_add (smP (lvF ft st tn) (fun g => nN (mn g)) q) 0) ?_
                refine lv_istore (lv' := [(5, .int (nI ((smP (lvF ft st tn) (fun g => nN (mn g)) q) + 0))), (4, .int (nI ((cntP (fun g => ¬ (tn g).toInt = 0) q) + 1))), (3, .int (nI ((cntP (fun g => (st g).toInt = 2) q) + 0))), (2, .int (nI ((cntP (fun g => (st g).toInt = 1) q) + 1))), (6, .int (nI q)), (0, .ref k0), (1, .int w)]) hx hb dX11_count_103 hl (by decide) rfl (fun ls hl => ?_)
                refine lv_iinc (v := nI (q + 1)) (lv' := [(6, .int (nI (q + 1))), (5, .int (nI ((smP (lvF ft st tn) (fun g => nN (mn g)) q) + 0))), (4, .int (nI ((cntP (fun g => ¬ (tn g).toInt = 0) q) + 1))), (3, .int (nI ((cntP (fun g => (st g).toInt = 2) q) + 0))), (2, .int (nI ((cntP (fun g => (st g).toInt = 1) q) + 1))), (0, .ref k0), (1, .int w)]) hx hb dX11_count_105 hl (k := 4) rfl (nI_add q 1) (by decide) rfl (fun ls hl => ?_)
                refine lv_goto (tgt := 13) hx hb dX11_count_108 (by decide) ?_
                have hl9 := lv_sub hl [0, 1, 2, 3, 4, 5, 6] rfl
                have e9_2 : nI (cntP (fun g => (st g).toInt = 1) (q + 1)) = (nI ((cntP (fun g => (st g).toInt = 1) q) + 1) : Int32) := by first | exact congrArg nI (cntP_y (P := fun g => (st g).toInt = 1) (show (st q).toInt = 1 by omega)) | exact congrArg nI (cntP_n0 (P := fun g => (st g).toInt = 1) (show ¬ (st q).toInt = 1 by omega))
                have e9_3 : nI (cntP (fun g => (st g).toInt = 2) (q + 1)) = (nI ((cntP (fun g => (st g).toInt = 2) q) + 0) : Int32) := by first | exact congrArg nI (cntP_y (P := fun g => (st g).toInt = 2) (show (st q).toInt = 2 by omega)) | exact congrArg nI (cntP_n0 (P := fun g => (st g).toInt = 2) (show ¬ (st q).toInt = 2 by omega))
                have e9_4 : nI (cntP (fun g => ¬ (tn g).toInt = 0) (q + 1)) = (nI ((cntP (fun g => ¬ (tn g).toInt = 0) q) + 1) : Int32) := by first | exact congrArg nI (cntP_y (P := fun g => ¬ (tn g).toInt = 0) (show ¬ (tn q).toInt = 0 by omega)) | exact congrArg nI (cntP_n0 (P := fun g => ¬ (tn g).toInt = 0) (show ¬ ¬ (tn q).toInt = 0 by omega))
                have e9_5 : nI (smP (lvF ft st tn) (fun g => nN (mn g)) (q + 1)) = (nI ((smP (lvF ft st tn) (fun g => nN (mn g)) q) + 0) : Int32) := by first | exact congrArg nI (smP_y (P := lvF ft st tn) (by assumption)) | exact congrArg nI (smP_n (P := lvF ft st tn) (by assumption))
                have hl9 : lv_has ls 7 [(6, .int (nI (q + 1))), (5, .int (nI (smP (lvF ft st tn) (fun g => nN (mn g)) (q + 1)))), (4, .int (nI (cntP (fun g => ¬ (tn g).toInt = 0) (q + 1)))), (3, .int (nI (cntP (fun g => (st g).toInt = 2) (q + 1)))), (2, .int (nI (cntP (fun g => (st g).toInt = 1) (q + 1)))), (0, .ref k0), (1, .int w)] := by rw [e9_2]; rw [e9_3]; rw [e9_4]; rw [e9_5]; exact hl9
                exact ih_13 (q + 1) H locs ls (by omega) (by omega) hP hD hS hl9
              · have c_22 : q < ft ∧ (st q).toInt = 1 ∧ (tn q).toInt = 0 := zp_1 c_22
                refine lv_aload_n hx hb dX11_count_91 rfl (lv_at hl 5 rfl) ?_
                refine va_get (D := (dC, dI)) (ci := 9) (v := .ref (a 11)) (C := RX11) (T := TX11) (N := 55) hx hb hts inX11 hown hK hP 0 rfl rfl 11 (by decide) (hts _ mw_1170) (fun _ h9 => h9) rfl dX11_count_92 ?_
                refine lv_iload hx hb dX11_count_95 (lv_at hl 3 rfl) ?_
                refine z_iald hx hb hK hP 3 0 rfl rfl (e := q) rfl (by omega) (by omega) dX11_count_97 ?_
                refine zz_i (v := nI (nN (mn q))) ((hmw q (by assumption)).1) ?_
                refine lv_goto (tgt := 102) hx hb dX11_count_98 (by decide) ?_
                refine lv_iadd hx hb dX11_count_102 ?_
                refine zz_i (v := nI ((smP (lvF ft st tn) (fun g => nN (mn g)) q) + (nN (mn q)))) (nI_add (smP (lvF ft st tn) (fun g => nN (mn g)) q) (nN (mn q))) ?_
                refine lv_istore (lv' := [(5, .int (nI ((smP (lvF ft st tn) (fun g => nN (mn g)) q) + (nN (mn q))))), (4, .int (nI ((cntP (fun g => ¬ (tn g).toInt = 0) q) + 1))), (3, .int (nI ((cntP (fun g => (st g).toInt = 2) q) + 0))), (2, .int (nI ((cntP (fun g => (st g).toInt = 1) q) + 1))), (6, .int (nI q)), (0, .ref k0), (1, .int w)]) hx hb dX11_count_103 hl (by decide) rfl (fun ls hl => ?_)
                refine lv_iinc (v := nI (q + 1)) (lv' := [(6, .int (nI (q + 1))), (5, .int (nI ((smP (lvF ft st tn) (fun g => nN (mn g)) q) + (nN (mn q))))), (4, .int (nI ((cntP (fun g => ¬ (tn g).toInt = 0) q) + 1))), (3, .int (nI ((cntP (fun g => (st g).toInt = 2) q) + 0))), (2, .int (nI ((cntP (fun g => (st g).toInt = 1) q) + 1))), (0, .ref k0), (1, .int w)]) hx hb dX11_count_105 hl (k := 4) rfl (nI_add q 1) (by decide) rfl (fun ls hl => ?_)
                refine lv_goto (tgt := 13) hx hb dX11_count_108 (by decide) ?_
                have hl9 := lv_sub hl [0, 1, 2, 3, 4, 5, 6] rfl
                have e9_2 : nI (cntP (fun g => (st g).toInt = 1) (q + 1)) = (nI ((cntP (fun g => (st g).toInt = 1) q) + 1) : Int32) := by first | exact congrArg nI (cntP_y (P := fun g => (st g).toInt = 1) (show (st q).toInt = 1 by omega)) | exact congrArg nI (cntP_n0 (P := fun g => (st g).toInt = 1) (show ¬ (st q).toInt = 1 by omega))
                have e9_3 : nI (cntP (fun g => (st g).toInt = 2) (q + 1)) = (nI ((cntP (fun g => (st g).toInt = 2) q) + 0) : Int32) := by first | exact congrArg nI (cntP_y (P := fun g => (st g).toInt = 2) (show (st q).toInt = 2 by omega)) | exact congrArg nI (cntP_n0 (P := fun g => (st g).toInt = 2) (show ¬ (st q).toInt = 2 by omega))
                have e9_4 : nI (cntP (fun g => ¬ (tn g).toInt = 0) (q + 1)) = (nI ((cntP (fun g => ¬ (tn g).toInt = 0) q) + 1) : Int32) := by first | exact congrArg nI (cntP_y (P := fun g => ¬ (tn g).toInt = 0) (show ¬ (tn q).toInt = 0 by omega)) | exact congrArg nI (cntP_n0 (P := fun g => ¬ (tn g).toInt = 0) (show ¬ ¬ (tn q).toInt = 0 by omega))
                have e9_5 : nI (smP (lvF ft st tn) (fun g => nN (mn g)) (q + 1)) = (nI ((smP (lvF ft st tn) (fun g => nN (mn g)) q) + (nN (mn q))) : Int32) := by first | exact congrArg nI (smP_y (P := lvF ft st tn) (by assumption)) | exact congrArg nI (smP_n (P := lvF ft st tn) (by assumption))
                have hl9 : lv_has ls 7 [(6, .int (nI (q + 1))), (5, .int (nI (smP (lvF ft st tn) (fun g => nN (mn g)) (q + 1)))), (4, .int (nI (cntP (fun g => ¬ (tn g).toInt = 0) (q + 1)))), (3, .int (nI (cntP (fun g => (st g).toInt = 2) (q + 1)))), (2, .int (nI (cntP (fun g => (st g).toInt = 1) (q + 1)))), (0, .ref k0), (1, .int w)] := by rw [e9_2]; rw [e9_3]; rw [e9_4]; rw [e9_5]; exact hl9
                exact ih_13 (q + 1) H locs ls (by omega) (by omega) hP hD hS hl9
          · have c_19 : (st q).toInt = 2 := zc_eq rfl (by decide) c_19
            refine lv_iconst (v := 1) hx hb dX11_count_53 (by decide) ?_
            refine lv_goto (tgt := 58) hx hb dX11_count_54 (by decide) ?_
            refine lv_iadd hx hb dX11_count_58 ?_
            refine zz_i (v := nI ((cntP (fun g => (st g).toInt = 2) q) + 1)) (nI_add (cntP (fun g => (st g).toInt = 2) q) 1) ?_
            refine lv_istore_n (lv' := [(3, .int (nI ((cntP (fun g => (st g).toInt = 2) q) + 1))), (2, .int (nI ((cntP (fun g => (st g).toInt = 1) q) + 1))), (6, .int (nI q)), (5, .int (nI (smP (lvF ft st tn) (fun g => nN (mn g)) q))), (4, .int (nI (cntP (fun g => ¬ (tn g).toInt = 0) q))), (0, .ref k0), (1, .int w)]) hx hb dX11_count_59 rfl hl (by decide) rfl (fun ls hl => ?_)
            refine lv_iload hx hb dX11_count_60 (lv_at hl 4 rfl) ?_
            refine lv_aload_n hx hb dX11_count_62 rfl (lv_at hl 5 rfl) ?_
            refine va_get (D := (dC, dI)) (ci := 9) (v := .ref (a 6)) (C := RX11) (T := TX11) (N := 55) hx hb hts inX11 hown hK hP 0 rfl rfl 6 (by decide) (hts _ mw_1165) (fun _ h9 => h9) rfl dX11_count_63 ?_
            refine lv_iload hx hb dX11_count_66 (lv_at hl 2 rfl) ?_
            refine z_zald hx hb hK hP 2 1 rfl rfl (e := q) rfl (by omega) (by omega) dX11_count_68 ?_
            refine lv_if_eq (tgt := 76) hx hb dX11_count_69 (by decide) (fun c_23 => ?_) (fun c_23 => ?_)
            · have c_23 : (tn q).toInt = 0 := zc_eq rfl (by decide) c_23
              refine lv_iconst (v := 0) hx hb dX11_count_76 (by decide) ?_
              refine lv_iadd hx hb dX11_count_77 ?_
              refine zz_i (v := nI ((cntP (fun g => ¬ (tn g).toInt = 0) q) + 0)) (nI_add (cntP (fun g => ¬ (tn g).toInt = 0) q) 0) ?_
              refine lv_istore (lv' := [(4, .int (nI ((cntP (fun g => ¬ (tn g).toInt = 0) q) + 0))), (3, .int (nI ((cntP (fun g => (st g).toInt = 2) q) + 1))), (2, .int (nI ((cntP (fun g => (st g).toInt = 1) q) + 1))), (6, .int (nI q)), (5, .int (nI (smP (lvF ft st tn) (fun g => nN (mn g)) q))), (0, .ref k0), (1, .int w)]) hx hb dX11_count_78 hl (by decide) rfl (fun ls hl => ?_)
              refine lv_iload hx hb dX11_count_80 (lv_at hl 4 rfl) ?_
              refine lv_aload_n hx hb dX11_count_82 rfl (lv_at hl 5 rfl) ?_
              refine lv_iload hx hb dX11_count_83 (lv_at hl 3 rfl) ?_
              have hPc := hP.sub (ws' := [(om k0 a I0 J0), (oa (a 5) cI 201 st), (oa (a 6) cZ 201 tn)]) [0, 1, 2] rfl
              have hDc := hD.sub (ws' := [(om k0 a I0 J0), (oa (a 5) cI 201 st), (oa (a 6) cZ 201 tn)]) [0, 1, 2] (by decide) rfl
              have hFc := va_free (wc := [(om k0 a I0 J0), (oa (a 5) cI 201 st), (oa (a 6) cZ 201 tn)]) hD hS hA [0, 1, 2] rfl
              refine zcall (st1 := [.int (pI (q < ft ∧ (st q).toInt = 1 ∧ (tn q).toInt = 0)), .int (nI (smP (lvF ft st tn) (fun g => nN (mn g)) q))]) (va_runV (As := [.int (nI q)]) (rest := [.int (nI (smP (lvF ft st tn) (fun g => nN (mn g)) q))]) ⟨hx, hb, hml, hown, hts⟩ (k_M_is_n l dC dI cI cZ cF H.size k0 a I0 J0 q ft st tn (by assumption) (by omega) (by omega)) (cwV 1 hts (zz_gV mw_1447 mw_1449 mw_56 mw_110 mc_yX11_is) rfl rfl rfl (by decide +kernel) ⟨Nat.le_of_ble_eq_true rfl, Nat.le_of_ble_eq_true rfl⟩) (zPV2 (q0 := 0) (ci := 9) hPc hDc hK hXN rfl rfl) rfl rfl hl.1 rfl (lv_room (Nat.le_of_ble_eq_true rfl)) dX11_count_85 ⟨Nat.le_of_ble_eq_true rfl, Nat.le_of_ble_eq_true rfl⟩) hS hFc hFc rfl (fun t H1 locs ht hB hk1 hS => ?_)
              obtain ⟨hP1, hD1⟩ := hB
              rw [ht] at hP1
              obtain ⟨hP, hD⟩ := va_join (wr := [(oa (a 11) cI 201 mn)]) (w1 := [(om k0 a I0 J0), (oa (a 5) cI 201 st), (oa (a 6) cZ 201 tn)]) hP hD [0, 1, 2] [3] rfl rfl (by decide) (by decide) hk1 hFc hP1 hD1
              clear hk1 hPc hDc hFc hP1 hD1 ht
              generalize H1 = H at hP hS ⊢
              have hP := hP.sub (ws' := [(om k0 a I0 J0), (oa (a 5) cI 201 st), (oa (a 6) cZ 201 tn), (oa (a 11) cI 201 mn)]) [1, 2, 3, 0] rfl
              have hD := hD.sub (ws' := [(om k0 a I0 J0), (oa (a 5) cI 201 st), (oa (a 6) cZ 201 tn), (oa (a 11) cI 201 mn)]) [1, 2, 3, 0] (by decide) rfl
              have hP : va_P (dC, dI) classes [(om k0 a I0 J0), (oa (a 5) cI 201 st), (oa (a 6) cZ 201 tn), (oa (a 11) cI 201 mn)] H := hP
              have hD : va_D A [(om k0 a I0 J0), (oa (a 5) cI 201 st), (oa (a 6) cZ 201 tn), (oa (a 11) cI 201 mn)] := hD
              refine lv_if_eq (tgt := 101) hx hb dX11_count_88 (by decide) (fun c_24 => ?_) (fun c_24 => ?_)
              · have c_24 : ¬ (q < ft ∧ (st q).toInt = 1 ∧ (tn q).toInt = 0) := zp_0 c_24
                refine lv_iconst (v := 0) hx hb dX11_count_101 (by decide) ?_
                refine lv_iadd hx hb dX11_count_102 ?_
                refine zz_i (v := nI ((smP (lvF ft st tn) (fun g => nN (mn g)) q) + 0)) (nI_add (smP (lvF ft st tn) (fun g => nN (mn g)) q) 0) ?_
                refine lv_istore (lv' := [(5, .int (nI ((smP (lvF ft st tn) (fun g => nN (mn g)) q) + 0))), (4, .int (nI ((cntP (fun g => ¬ (tn g).toInt = 0) q) + 0))), (3, .int (nI ((cntP (fun g => (st g).toInt = 2) q) + 1))), (2, .int (nI ((cntP (fun g => (st g).toInt = 1) q) + 1))), (6, .int (nI q)), (0, .ref k0), (1, .int w)]) hx hb dX11_count_103 hl (by decide) rfl (fun ls hl => ?_)
                refine lv_iinc (v := nI (q + 1)) (lv' := [(6, .int (nI (q + 1))), (5, .int (nI ((smP (lvF ft st tn) (fun g => nN (mn g)) q) + 0))), (4, .int (nI ((cntP (fun g => ¬ (tn g).toInt = 0) q) + 0))), (3, .int (nI ((cntP (fun g => (st g).toInt = 2) q) + 1))), (2, .int (nI ((cntP (fun g => (st g).toInt = 1) q) + 1))), (0, .ref k0), (1, .int w)]) hx hb dX11_count_105 hl (k := 4) rfl (nI_add q 1) (by decide) rfl (fun ls hl => ?_)
                refine lv_goto (tgt := 13) hx hb dX11_count_108 (by decide) ?_
                have hl9 := lv_sub hl [0, 1, 2, 3, 4, 5, 6] rfl
                have e9_2 : nI (cntP (fun g => (st g).toInt = 1) (q + 1)) = (nI ((cntP (fun g => (st g).toInt = 1) q) + 1) : Int32) := by first | exact congrArg nI (cntP_y (P := fun g => (st g).toInt = 1) (show (st q).toInt = 1 by omega)) | exact congrArg nI (cntP_n0 (P := fun g => (st g).toInt = 1) (show ¬ (st q).toInt = 1 by omega))
                have e9_3 : nI (cntP (fun g => (st g).toInt = 2) (q + 1)) = (nI ((cntP (fun g => (st g).toInt = 2) q) + 1) : Int32) := by first | exact congrArg nI (cntP_y (P := fun g => (st g).toInt = 2) (show (st q).toInt = 2 by omega)) | exact congrArg nI (cntP_n0 (P := fun g => (st g).toInt = 2) (show ¬ (st q).toInt = 2 by omega))
                have e9_4 : nI (cntP (fun g => ¬ (tn g).toInt = 0) (q + 1)) = (nI ((cntP (fun g => ¬ (tn g).toInt = 0) q) + 0) : Int32) := by first | exact congrArg nI (cntP_y (P := fun g => ¬ (tn g).toInt = 0) (show ¬ (tn q).toInt = 0 by omega)) | exact congrArg nI (cntP_n0 (P := fun g => ¬ (tn g).toInt = 0) (show ¬ ¬ (tn q).toInt = 0 by omega))
                have e9_5 : nI (smP (lvF ft st tn) (fun g => nN (mn g)) (q + 1)) = (nI ((smP (lvF ft st tn) (fun g => nN (mn g)) q) + 0) : Int32) := by first | exact congrArg nI (smP_y (P := lvF ft st tn) (by assumption)) | exact congrArg nI (smP_n (P := lvF ft st tn) (by assumption))
                have hl9 : lv_has ls 7 [(6, .int (nI (q + 1))), (5, .int (nI (smP (lvF ft st tn) (fun g => nN (mn g)) (q + 1)))), (4, .int (nI (cntP (fun g => ¬ (tn g).toInt = 0) (q + 1)))), (3, .int (nI (cntP (fun g => (st g).toInt = 2) (q + 1)))), (2, .int (nI (cntP (fun g => (st g).toInt = 1) (q + 1)))), (0, .ref k0), (1, .int w)] := by rw [e9_2]; rw [e9_3]; rw [e9_4]; rw [e9_5]; exact hl9
                exact ih_13 (q + 1) H locs ls (by omega) (by omega) hP hD hS hl9
              · have c_24 : q < ft ∧ (st q).toInt = 1 ∧ (tn q).toInt = 0 := zp_1 c_24
                refine lv_aload_n hx hb dX11_count_91 rfl (lv_at hl 5 rfl) ?_
                refine va_get (D := (dC, dI)) (ci := 9) (v := .ref (a 11)) (C := RX11) (T := TX11) (N := 55) hx hb hts inX11 hown hK hP 0 rfl rfl 11 (by decide) (hts _ mw_1170) (fun _ h9 => h9) rfl dX11_count_92 ?_
                refine lv_iload hx hb dX11_count_95 (lv_at hl 3 rfl) ?_
                refine z_iald hx hb hK hP 3 0 rfl rfl (e := q) rfl (by omega) (by omega) dX11_count_97 ?_
                refine zz_i (v := nI (nN (mn q))) ((hmw q (by assumption)).1) ?_
                refine lv_goto (tgt := 102) hx hb dX11_count_98 (by decide) ?_
                refine lv_iadd hx hb dX11_count_102 ?_
                refine zz_i (v := nI ((smP (lvF ft st tn) (fun g => nN (mn g)) q) + (nN (mn q)))) (nI_add (smP (lvF ft st tn) (fun g => nN (mn g)) q) (nN (mn q))) ?_
                refine lv_istore (lv' := [(5, .int (nI ((smP (lvF ft st tn) (fun g => nN (mn g)) q) + (nN (mn q))))), (4, .int (nI ((cntP (fun g => ¬ (tn g).toInt = 0) q) + 0))), (3, .int (nI ((cntP (fun g => (st g).toInt = 2) q) + 1))), (2, .int (nI ((cntP (fun g => (st g).toInt = 1) q) + 1))), (6, .int (nI q)), (0, .ref k0), (1, .int w)]) hx hb dX11_count_103 hl (by decide) rfl (fun ls hl => ?_)
                refine lv_iinc (v := nI (q + 1)) (lv' := [(6, .int (nI (q + 1))), (5, .int (nI ((smP (lvF ft st tn) (fun g => nN (mn g)) q) + (nN (mn q))))), (4, .int (nI ((cntP (fun g => ¬ (tn g).toInt = 0) q) + 0))), (3, .int (nI ((cntP (fun g => (st g).toInt = 2) q) + 1))), (2, .int (nI ((cntP (fun g => (st g).toInt = 1) q) + 1))), (0, .ref k0), (1, .int w)]) hx hb dX11_count_105 hl (k := 4) rfl (nI_add q 1) (by decide) rfl (fun ls hl => ?_)
                refine lv_goto (tgt := 13) hx hb dX11_count_108 (by decide) ?_
                have hl9 := lv_sub hl [0, 1, 2, 3, 4, 5, 6] rfl
                have e9_2 : nI (cntP (fun g => (st g).toInt = 1) (q + 1)) = (nI ((cntP (fun g => (st g).toInt = 1) q) + 1) : Int32) := by first | exact congrArg nI (cntP_y (P := fun g => (st g).toInt = 1) (show (st q).toInt = 1 by omega)) | exact congrArg nI (cntP_n0 (P := fun g => (st g).toInt = 1) (show ¬ (st q).toInt = 1 by omega))
                have e9_3 : nI (cntP (fun g => (st g).toInt = 2) (q + 1)) = (nI ((cntP (fun g => (st g).toInt = 2) q) + 1) : Int32) := by first | exact congrArg nI (cntP_y (P := fun g => (st g).toInt = 2) (show (st q).toInt = 2 by omega)) | exact congrArg nI (cntP_n0 (P := fun g => (st g).toInt = 2) (show ¬ (st q).toInt = 2 by omega))
                have e9_4 : nI (cntP (fun g => ¬ (tn g).toInt = 0) (q + 1)) = (nI ((cntP (fun g => ¬ (tn g).toInt = 0) q) + 0) : Int32) := by first | exact congrArg nI (cntP_y (P := fun g => ¬ (tn g).toInt = 0) (show ¬ (tn q).toInt = 0 by omega)) | exact congrArg nI (cntP_n0 (P := fun g => ¬ (tn g).toInt = 0) (show ¬ ¬ (tn q).toInt = 0 by omega))
                have e9_5 : nI (smP (lvF ft st tn) (fun g => nN (mn g)) (q + 1)) = (nI ((smP (lvF ft st tn) (fun g => nN (mn g)) q) + (nN (mn q))) : Int32) := by first | exact congrArg nI (smP_y (P := lvF ft st tn) (by assumption)) | exact congrArg nI (smP_n (P := lvF ft st tn) (by assumption))
                have hl9 : lv_has ls 7 [(6, .int (nI (q + 1))), (5, .int (nI (smP (lvF ft st tn) (fun g => nN (mn g)) (q + 1)))), (4, .int (nI (cntP (fun g => ¬ (tn g).toInt = 0) (q + 1)))), (3, .int (nI (cntP (fun g => (st g).toInt = 2) (q + 1)))), (2, .int (nI (cntP (fun g => (st g).toInt = 1) (q + 1)))), (0, .ref k0), (1, .int w)] := by rw [e9_2]; rw [e9_3]; rw [e9_4]; rw [e9_5]; exact hl9
                exact ih_13 (q + 1) H locs ls (by omega) (by omega) hP hD hS hl9
            · have c_23 : ¬ (tn q).toInt = 0 := zc_ne rfl (by decide) c_23
              refine lv_iconst (v := 1) hx hb dX11_count_72 (by decide) ?_
              refine lv_goto (tgt := 77) hx hb dX11_count_73 (by decide) ?_
              refine lv_iadd hx hb dX11_count_77 ?_
              refine zz_i (v := nI ((cntP (fun g => ¬ (tn g).toInt = 0) q) + 1)) (nI_add (cntP (fun g => ¬ (tn g).toInt = 0) q) 1) ?_
              refine lv_istore (lv' := [(4, .int (nI ((cntP (fun g => ¬ (tn g).toInt = 0) q) + 1))), (3, .int (nI ((cntP (fun g => (st g).toInt = 2) q) + 1))), (2, .int (nI ((cntP (fun g => (st g).toInt = 1) q) + 1))), (6, .int (nI q)), (5, .int (nI (smP (lvF ft st tn) (fun g => nN (mn g)) q))), (0, .ref k0), (1, .int w)]) hx hb dX11_count_78 hl (by decide) rfl (fun ls hl => ?_)
              refine lv_iload hx hb dX11_count_80 (lv_at hl 4 rfl) ?_
              refine lv_aload_n hx hb dX11_count_82 rfl (lv_at hl 5 rfl) ?_
              refine lv_iload hx hb dX11_count_83 (lv_at hl 3 rfl) ?_
              have hPc := hP.sub (ws' := [(om k0 a I0 J0), (oa (a 5) cI 201 st), (oa (a 6) cZ 201 tn)]) [0, 1, 2] rfl
              have hDc := hD.sub (ws' := [(om k0 a I0 J0), (oa (a 5) cI 201 st), (oa (a 6) cZ 201 tn)]) [0, 1, 2] (by decide) rfl
              have hFc := va_free (wc := [(om k0 a I0 J0), (oa (a 5) cI 201 st), (oa (a 6) cZ 201 tn)]) hD hS hA [0, 1, 2] rfl
              refine zcall (st1 := [.int (pI (q < ft ∧ (st q).toInt = 1 ∧ (tn q).toInt = 0)), .int (nI (smP (lvF ft st tn) (fun g => nN (mn g)) q))]) (va_runV (As := [.int (nI q)]) (rest := [.int (nI (smP (lvF ft st tn) (fun g => nN (mn g)) q))]) ⟨hx, hb, hml, hown, hts⟩ (k_M_is_n l dC dI cI cZ cF H.size k0 a I0 J0 q ft st tn (by assumption) (by omega) (by omega)) (cwV 1 hts (zz_gV mw_1447 mw_1449 mw_56 mw_110 mc_yX11_is) rfl rfl rfl (by decide +kernel) ⟨Nat.le_of_ble_eq_true rfl, Nat.le_of_ble_eq_true rfl⟩) (zPV2 (q0 := 0) (ci := 9) hPc hDc hK hXN rfl rfl) rfl rfl hl.1 rfl (lv_room (Nat.le_of_ble_eq_true rfl)) dX11_count_85 ⟨Nat.le_of_ble_eq_true rfl, Nat.le_of_ble_eq_true rfl⟩) hS hFc hFc rfl (fun t H1 locs ht hB hk1 hS => ?_)
              obtain ⟨hP1, hD1⟩ := hB
              rw [ht] at hP1
              obtain ⟨hP, hD⟩ := va_join (wr := [(oa (a 11) cI 201 mn)]) (w1 := [(om k0 a I0 J0), (oa (a 5) cI 201 st), (oa (a 6) cZ 201 tn)]) hP hD [0, 1, 2] [3] rfl rfl (by decide) (by decide) hk1 hFc hP1 hD1
              clear hk1 hPc hDc hFc hP1 hD1 ht
              generalize H1 = H at hP hS ⊢
              have hP := hP.sub (ws' := [(om k0 a I0 J0), (oa (a 5) cI 201 st), (oa (a 6) cZ 201 tn), (oa (a 11) cI 201 mn)]) [1, 2, 3, 0] rfl
              have hD := hD.sub (ws' := [(om k0 a I0 J0), (oa (a 5) cI 201 st), (oa (a 6) cZ 201 tn), (oa (a 11) cI 201 mn)]) [1, 2, 3, 0] (by decide) rfl
              have hP : va_P (dC, dI) classes [(om k0 a I0 J0), (oa (a 5) cI 201 st), (oa (a 6) cZ 201 tn), (oa (a 11) cI 201 mn)] H := hP
              have hD : va_D A [(om k0 a I0 J0), (oa (a 5) cI 201 st), (oa (a 6) cZ 201 tn), (oa (a 11) cI 201 mn)] := hD
              refine lv_if_eq (tgt := 101) hx hb dX11_count_88 (by decide) (fun c_25 => ?_) (fun c_25 => ?_)
              · have c_25 : ¬ (q < ft ∧ (st q).toInt = 1 ∧ (tn q).toInt = 0) := zp_0 c_25
                refine lv_iconst (v := 0) hx hb dX11_count_101 (by decide) ?_
                refine lv_iadd hx hb dX11_count_102 ?_
                refine zz_i (v := nI ((smP (lvF ft st tn) (fun g => nN (mn g)) q) + 0)) (nI_add (smP (lvF ft st tn) (fun g => nN (mn g)) q) 0) ?_
                refine lv_istore (lv' := [(5, .int (nI ((smP (lvF ft st tn) (fun g => nN (mn g)) q) + 0))), (4, .int (nI ((cntP (fun g => ¬ (tn g).toInt = 0) q) + 1))), (3, .int (nI ((cntP (fun g => (st g).toInt = 2) q) + 1))), (2, .int (nI ((cntP (fun g => (st g).toInt = 1) q) + 1))), (6, .int (nI q)), (0, .ref k0), (1, .int w)]) hx hb dX11_count_103 hl (by decide) rfl (fun ls hl => ?_)
                refine lv_iinc (v := nI (q + 1)) (lv' := [(6, .int (nI (q + 1))), (5, .int (nI ((smP (lvF ft st tn) (fun g => nN (mn g)) q) + 0))), (4, .int (nI ((cntP (fun g => ¬ (tn g).toInt = 0) q) + 1))), (3, .int (nI ((cntP (fun g => (st g).toInt = 2) q) + 1))), (2, .int (nI ((cntP (fun g => (st g).toInt = 1) q) + 1))), (0, .ref k0), (1, .int w)]) hx hb dX11_count_105 hl (k := 4) rfl (nI_add q 1) (by decide) rfl (fun ls hl => ?_)
                refine lv_goto (tgt := 13) hx hb dX11_count_108 (by decide) ?_
                have hl9 := lv_sub hl [0, 1, 2, 3, 4, 5, 6] rfl
                have e9_2 : nI (cntP (fun g => (st g).toInt = 1) (q + 1)) = (nI ((cntP (fun g => (st g).toInt = 1) q) + 1) : Int32) := by first | exact congrArg nI (cntP_y (P := fun g => (st g).toInt = 1) (show (st q).toInt = 1 by omega)) | exact congrArg nI (cntP_n0 (P := fun g => (st g).toInt = 1) (show ¬ (st q).toInt = 1 by omega))
                have e9_3 : nI (cntP (fun g => (st g).toInt = 2) (q + 1)) = (nI ((cntP (fun g => (st g).toInt = 2) q) + 1) : Int32) := by first | exact congrArg nI (cntP_y (P := fun g => (st g).toInt = 2) (show (st q).toInt = 2 by omega)) | exact congrArg nI (cntP_n0 (P := fun g => (st g).toInt = 2) (show ¬ (st q).toInt = 2 by omega))
                have e9_4 : nI (cntP (fun g => ¬ (tn g).toInt = 0) (q + 1)) = (nI ((cntP (fun g => ¬ (tn g).toInt = 0) q) + 1) : Int32) := by first | exact congrArg nI (cntP_y (P := fun g => ¬ (tn g).toInt = 0) (show ¬ (tn q).toInt = 0 by omega)) | exact congrArg nI (cntP_n0 (P := fun g => ¬ (tn g).toInt = 0) (show ¬ ¬ (tn q).toInt = 0 by omega))
                have e9_5 : nI (smP (lvF ft st tn) (fun g => nN (mn g)) (q + 1)) = (nI ((smP (lvF ft st tn) (fun g => nN (mn g)) q) + 0) : Int32) := by first | exact congrArg nI (smP_y (P := lvF ft st tn) (by assumption)) | exact congrArg nI (smP_n (P := lvF ft st tn) (by assumption))
                have hl9 : lv_has ls 7 [(6, .int (nI (q + 1))), (5, .int (nI (smP (lvF ft st tn) (fun g => nN (mn g)) (q + 1)))), (4, .int (nI (cntP (fun g => ¬ (tn g).toInt = 0) (q + 1)))), (3, .int (nI (cntP (fun g => (st g).toInt = 2) (q + 1)))), (2, .int (nI (cntP (fun g => (st g).toInt = 1) (q + 1)))), (0, .ref k0), (1, .int w)] := by rw [e9_2]; rw [e9_3]; rw [e9_4]; rw [e9_5]; exact hl9
                exact ih_13 (q + 1) H locs ls (by omega) (by omega) hP hD hS hl9
              · have c_25 : q < ft ∧ (st q).toInt = 1 ∧ (tn q).toInt = 0 := zp_1 c_25
                refine lv_aload_n hx hb dX11_count_91 rfl (lv_at hl 5 rfl) ?_
                refine va_get (D := (dC, dI)) (ci := 9) (v := .ref (a 11)) (C := RX11) (T := TX11) (N := 55) hx hb hts inX11 hown hK hP 0 rfl rfl 11 (by decide) (hts _ mw_1170) (fun _ h9 => h9) rfl dX11_count_92 ?_
                refine lv_iload hx hb dX11_count_95 (lv_at hl 3 rfl) ?_
                refine z_iald hx hb hK hP 3 0 rfl rfl (e := q) rfl (by omega) (by omega) dX11_count_97 ?_
                refine zz_i (v := nI (nN (mn q))) ((hmw q (by assumption)).1) ?_
                refine lv_goto (tgt := 102) hx hb dX11_count_98 (by decide) ?_
                refine lv_iadd hx hb dX11_count_102 ?_
                refine zz_i (v := nI ((smP (lvF ft st tn) (fun g => nN (mn g)) q) + (nN (mn q)))) (nI_add (smP (lvF ft st tn) (fun g => nN (mn g)) q) (nN (mn q))) ?_
                refine lv_istore (lv' := [(5, .int (nI ((smP (lvF ft st tn) (fun g => nN (mn g)) q) + (nN (mn q))))), (4, .int (nI ((cntP (fun g => ¬ (tn g).toInt = 0) q) + 1))), (3, .int (nI ((cntP (fun g => (st g).toInt = 2) q) + 1))), (2, .int (nI ((cntP (fun g => (st g).toInt = 1) q) + 1))), (6, .int (nI q)), (0, .ref k0), (1, .int w)]) hx hb dX11_count_103 hl (by decide) rfl (fun ls hl => ?_)
                refine lv_iinc (v := nI (q + 1)) (lv' := [(6, .int (nI (q + 1))), (5, .int (nI ((smP (lvF ft st tn) (fun g => nN (mn g)) q) + (nN (mn q))))), (4, .int (nI ((cntP (fun g => ¬ (tn g).toInt = 0) q) + 1))), (3, .int (nI ((cntP (fun g => (st g).toInt = 2) q) + 1))), (2, .int (nI ((cntP (fun g => (st g).toInt = 1) q) + 1))), (0, .ref k0), (1, .int w)]) hx hb dX11_count_105 hl (k := 4) rfl (nI_add q 1) (by decide) rfl (fun ls hl => ?_)
                refine lv_goto (tgt := 13) hx hb dX11_count_108 (by decide) ?_
                have hl9 := lv_sub hl [0, 1, 2, 3, 4, 5, 6] rfl
                have e9_2 : nI (cntP (fun g => (st g).toInt = 1) (q + 1)) = (nI ((cntP (fun g => (st g).toInt = 1) q) + 1) : Int32) := by first | exact congrArg nI (cntP_y (P := fun g => (st g).toInt = 1) (show (st q).toInt = 1 by omega)) | exact congrArg nI (cntP_n0 (P := fun g => (st g).toInt = 1) (show ¬ (st q).toInt = 1 by omega))
                have e9_3 : nI (cntP (fun g => (st g).toInt = 2) (q + 1)) = (nI ((cntP (fun g => (st g).toInt = 2) q) + 1) : Int32) := by first | exact congrArg nI (cntP_y (P := fun g => (st g).toInt = 2) (show (st q).toInt = 2 by omega)) | exact congrArg nI (cntP_n0 (P := fun g => (st g).toInt = 2) (show ¬ (st q).toInt = 2 by omega))
                have e9_4 : nI (cntP (fun g => ¬ (tn g).toInt = 0) (q + 1)) = (nI ((cntP (fun g => ¬ (tn g).toInt = 0) q) + 1) : Int32) := by first | exact congrArg nI (cntP_y (P := fun g => ¬ (tn g).toInt = 0) (show ¬ (tn q).toInt = 0 by omega)) | exact congrArg nI (cntP_n0 (P := fun g => ¬ (tn g).toInt = 0) (show ¬ ¬ (tn q).toInt = 0 by omega))
                have e9_5 : nI (smP (lvF ft st tn) (fun g => nN (mn g)) (q + 1)) = (nI ((smP (lvF ft st tn) (fun g => nN (mn g)) q) + (nN (mn q))) : Int32) := by first | exact congrArg nI (smP_y (P := lvF ft st tn) (by assumption)) | exact congrArg nI (smP_n (P := lvF ft st tn) (by assumption))
                have hl9 : lv_has ls 7 [(6, .int (nI (q + 1))), (5, .int (nI (smP (lvF ft st tn) (fun g => nN (mn g)) (q + 1)))), (4, .int (nI (cntP (fun g => ¬ (tn g).toInt = 0) (q + 1)))), (3, .int (nI (cntP (fun g => (st g).toInt = 2) (q + 1)))), (2, .int (nI (cntP (fun g => (st g).toInt = 1) (q + 1)))), (0, .ref k0), (1, .int w)] := by rw [e9_2]; rw [e9_3]; rw [e9_4]; rw [e9_5]; exact hl9
                exact ih_13 (q + 1) H locs ls (by omega) (by omega) hP hD hS hl9
  have e9_2 : nI (cntP (fun g => (st g).toInt = 1) 0) = (0 : Int32) := by rfl
  have e9_3 : nI (cntP (fun g => (st g).toInt = 2) 0) = (0 : Int32) := by rfl
  have e9_4 : nI (cntP (fun g => ¬ (tn g).toInt = 0) 0) = (0 : Int32) := by rfl
  have e9_5 : nI (smP (lvF ft st tn) (fun g => nN (mn g)) 0) = (0 : Int32) := by rfl
  have hl9 : lv_has ls 7 [(6, .int (nI 0)), (5, .int (nI (smP (lvF ft st tn) (fun g => nN (mn g)) 0))), (4, .int (nI (cntP (fun g => ¬ (tn g).toInt = 0) 0))), (3, .int (nI (cntP (fun g => (st g).toInt = 2) 0))), (2, .int (nI (cntP (fun g => (st g).toInt = 1) 0))), (0, .ref k0), (1, .int w)] := by rw [e9_2]; rw [e9_3]; rw [e9_4]; rw [e9_5]; exact lv_sub hl [0, 1, 2, 3, 4, 5, 6] rfl
  exact hl_13 _ 0 s.heap [] ls (Nat.lt_succ_self _) (by omega) hP hD hS hl9
set_option maxHeartbeats 4000000 in
set_option maxRecDepth 100000 in
theorem k_M_near_a (l : Launch) (dC : Nat → ClassId) (dI : Nat → Nat → Nat) (cI cZ cF : ClassId) (sz : Nat) (k0 : Nat) (a : Nat → Nat) (I0 : Nat → Int32) (J0 : Nat → Int64) (f : Nat) (g : Nat) (ft : Nat) (w : Int32) (st : Nat → Int32) (tn : Nat → Int32) (kd : Nat → Int32) (mn : Nat → Int32) (cx : Nat → Int32) (cy : Nat → Int32) (S0 : Nat → Int32) (hft : I0 0 = nI ft) (h200 : ft ≤ 200) (hwf : ∀ q, lvF ft st tn q → wfM mn cx cy q) (hf_t : f < ft) (hg_t : g < ft) (hlf : lvF ft st tn f) (hlg : lvF ft st tn g) (hw1 : 0 ≤ w.toInt ∧ w.toInt ≤ 1) (he_f : 1 ≤ eO (kd f).toInt (nN (mn f))) (he_g : 1 ≤ eO (kd g).toInt (nN (mn g))) : Met l yX11_near (.code yX11_near cX11_near 4 (some .long) :: ws0) ({ frames := 5, cells := 0, slots := 0, locals := 129 } : Room) (va_Pc [.ref k0, .int (nI f), .int (nI g), .int w] (zPre (dC, dI) classes (zTy cI cZ cF) [(om k0 a I0 J0), (oa (a 5) cI 201 st), (oa (a 6) cZ 201 tn), (oa (a 1) cI 201 kd), (oa (a 11) cI 201 mn), (oa (a 12) cI 8040 cx), (oa (a 13) cI 8040 cy), (oa (a 32) cI 8 S0)] sz zXN)) (zQe (fun v9 t => ∃ (b9 : Int64), ∃ (un : Nat), ∃ (dd : Nat), ∃ (S1 : Nat → Int32), v9 = (some (.long b9)) ∧ va_P (dC, dI) classes [(om k0 a I0 (vp_updL (vp_updL J0 48 (jI ((un : Nat) : Int))) 49 (jI ((dd : Nat) : Int)))), (oa (a 5) cI 201 st), (oa (a 6) cZ 201 tn), (oa (a 1) cI 201 kd), (oa (a 11) cI 201 mn), (oa (a 12) cI 8040 cx), (oa (a 13) cI 8040 cy), (oa (a 32) cI 8 S1)] t.heap ∧ va_D (va_A [(om k0 a I0 J0), (oa (a 5) cI 201 st), (oa (a 6) cZ 201 tn), (oa (a 1) cI 201 kd), (oa (a 11) cI 201 mn), (oa (a 12) cI 8040 cx), (oa (a 13) cI 8040 cy), (oa (a 32) cI 8 S0)] sz) [(om k0 a I0 (vp_updL (vp_updL J0 48 (jI ((un : Nat) : Int))) 49 (jI ((dd : Nat) : Int)))), (oa (a 5) cI 201 st), (oa (a 6) cZ 201 tn), (oa (a 1) cI 201 kd), (oa (a 11) cI 201 mn), (oa (a 12) cI 8040 cx), (oa (a 13) cI 8040 cy), (oa (a 32) cI 8 S1)]) (va_A [(om k0 a I0 J0), (oa (a 5) cI 201 st), (oa (a 6) cZ 201 tn), (oa (a 1) cI 201 kd), (oa (a 11) cI 201 mn), (oa (a 12) cI 8040 cx), (oa (a 13) cI 8040 cy), (oa (a 32) cI 8 S0)] sz)) 0 0 (va_A [(om k0 a I0 J0), (oa (a 5) cI 201 st), (oa (a 6) cZ 201 tn), (oa (a 1) cI 201 kd), (oa (a 11) cI 201 mn), (oa (a 12) cI 8040 cx), (oa (a 13) cI 8040 cy), (oa (a 32) cI 8 S0)] sz) := by
  refine Met.ofW (cc := cX11_near) (maxL := 4) (ret := (some .long)) (by decide) rfl ?_
  intro p e s m args below meth c s₁ B hml hv
  obtain ⟨rfl, hsz, hP, hK, hD0, hXN⟩ := hv
  have hx := B.exec
  have hb := B.bytes
  have hr := B.returns
  have hts0 := atoms_spec (ws := .code yX11_near cX11_near 4 (some .long) :: ws0) B.pre
  have hts : ∀ w9 ∈ ws0, w9.before ([.ref k0, .int (nI f), .int (nI g), .int w] : List Value).toArray s = true := fun w9 h => hts0 w9 (List.mem_cons_of_mem _ h)
  have hown : s.vm.findClass "ScaleShopModel" = some m.cls := findClass_of_methodNamed B.named
  have hlocks := B.notSynchronized
  subst hsz
  have hD := hD0.self (sz := s.heap.size)
  clear hD0
  generalize hAe : va_A [(om k0 a I0 J0), (oa (a 5) cI 201 st), (oa (a 6) cZ 201 tn), (oa (a 1) cI 201 kd), (oa (a 11) cI 201 mn), (oa (a 12) cI 8040 cx), (oa (a 13) cI 8040 cy), (oa (a 32) cI 8 S0)] s.heap.size = A at hD ⊢
  have hA : ∀ q : Nat, s.heap.size ≤ q → A q := fun q h => by rw [← hAe]; exact Or.inr h
  clear hAe
  have hS : va_S A s.heap s.heap [] := va_S.rf
  have hP : va_P (dC, dI) classes [(om k0 a I0 J0), (oa (a 5) cI 201 st), (oa (a 6) cZ 201 tn), (oa (a 1) cI 201 kd), (oa (a 11) cI 201 mn), (oa (a 12) cI 8040 cx), (oa (a 13) cI 8040 cy), (oa (a 32) cI 8 S0)] s.heap := hP
  obtain ⟨Q9, hQ9⟩ : ∃ Q9 : State → Prop, Q9 = MQ below (zQe (fun v9 t => ∃ (b9 : Int64), ∃ (un : Nat), ∃ (dd : Nat), ∃ (S1 : Nat → Int32), v9 = (some (.long b9)) ∧ va_P (dC, dI) classes [(om k0 a I0 (vp_updL (vp_updL J0 48 (jI ((un : Nat) : Int))) 49 (jI ((dd : Nat) : Int)))), (oa (a 5) cI 201 st), (oa (a 6) cZ 201 tn), (oa (a 1) cI 201 kd), (oa (a 11) cI 201 mn), (oa (a 12) cI 8040 cx), (oa (a 13) cI 8040 cy), (oa (a 32) cI 8 S1)] t.heap ∧ va_D A [(om k0 a I0 (vp_updL (vp_updL J0 48 (jI ((un : Nat) : Int))) 49 (jI ((dd : Nat) : Int)))), (oa (a 5) cI 201 st), (oa (a 6) cZ 201 tn), (oa (a 1) cI 201 kd), (oa (a 11) cI 201 mn), (oa (a 12) cI 8040 cx), (oa (a 13) cI 8040 cy), (oa (a 32) cI 8 S1)]) A) ([.ref k0, .int (nI f), .int (nI g), .int w] : List Value).toArray s 0 0 A := ⟨_, rfl⟩
  rw [← hQ9]
  have hl := lv_entry ([.ref k0, .int (nI f), .int (nI g), .int w]) (n := 4) (Nat.le_of_ble_eq_true rfl)
  rw [lg_entry_eq]
  generalize (lg_sl ([.ref k0, .int (nI f), .int (nI g), .int w]) ++ List.replicate (4 - (lg_sl ([.ref k0, .int (nI f), .int (nI g), .int w])).length) Slot.unset).toArray = ls at hl ⊢
  have hl : lv_has ls 4 [(0, .ref k0), (1, .int (nI f)), (2, .int (nI g)), (3, .int w)] := hl
  refine lv_aload_n hx hb dX11_near_0 rfl (lv_at hl 0 rfl) ?_
  refine lv_iload_n hx hb dX11_near_1 rfl (lv_at hl 1 rfl) ?_
  have hPc := hP.sub (ws' := [(om k0 a I0 J0), (oa (a 5) cI 201 st), (oa (a 6) cZ 201 tn)]) [0, 1, 2] rfl
  have hDc := hD.sub (ws' := [(om k0 a I0 J0), (oa (a 5) cI 201 st), (oa (a 6) cZ 201 tn)]) [0, 1, 2] (by decide) rfl
  have hFc := va_free (wc := [(om k0 a I0 J0), (oa (a 5) cI 201 st), (oa (a 6) cZ 201 tn)]) hD hS hA [0, 1, 2] rfl
  refine zcall (st1 := [.int (pI (f < ft ∧ (st f).toInt = 1 ∧ (tn f).toInt = 0))]) (va_runV (As := [.int (nI f)]) (rest := []) ⟨hx, hb, hml, hown, hts⟩ (k_M_is_n l dC dI cI cZ cF s.heap.size k0 a I0 J0 f ft st tn (by assumption) (by omega) (by omega)) (cwV 1 hts (zz_gV mw_1447 mw_1449 mw_56 mw_110 mc_yX11_is) rfl rfl rfl (by decide +kernel) ⟨Nat.le_of_ble_eq_true rfl, Nat.le_of_ble_eq_true rfl⟩) (zPV2 (q0 := 0) (ci := 9) hPc hDc hK hXN rfl rfl) rfl rfl hl.1 rfl (lv_room (Nat.le_of_ble_eq_true rfl)) dX11_near_2 ⟨Nat.le_of_ble_eq_true rfl, Nat.le_of_ble_eq_true rfl⟩) hS hFc hFc rfl (fun t H1 locs ht hB hk1 hS => ?_)
  obtain ⟨hP1, hD1⟩ := hB
  rw [ht] at hP1
  obtain ⟨hP, hD⟩ := va_join (wr := [(oa (a 1) cI 201 kd), (oa (a 11) cI 201 mn), (oa (a 12) cI 8040 cx), (oa (a 13) cI 8040 cy), (oa (a 32) cI 8 S0)]) (w1 := [(om k0 a I0 J0), (oa (a 5) cI 201 st), (oa (a 6) cZ 201 tn)]) hP hD [0, 1, 2] [3, 4, 5, 6, 7] rfl rfl (by decide) (by decide) hk1 hFc hP1 hD1
  clear hk1 hPc hDc hFc hP1 hD1 ht
  generalize H1 = H at hP hS ⊢
  have hP := hP.sub (ws' := [(om k0 a I0 J0), (oa (a 5) cI 201 st), (oa (a 6) cZ 201 tn), (oa (a 1) cI 201 kd), (oa (a 11) cI 201 mn), (oa (a 12) cI 8040 cx), (oa (a 13) cI 8040 cy), (oa (a 32) cI 8 S0)]) [5, 6, 7, 0, 1, 2, 3, 4] rfl
  have hD := hD.sub (ws' := [(om k0 a I0 J0), (oa (a 5) cI 201 st), (oa (a 6) cZ 201 tn), (oa (a 1) cI 201 kd), (oa (a 11) cI 201 mn), (oa (a 12) cI 8040 cx), (oa (a 13) cI 8040 cy), (oa (a 32) cI 8 S0)]) [5, 6, 7, 0, 1, 2, 3, 4] (by decide) rfl
  have hP : va_P (dC, dI) classes [(om k0 a I0 J0), (oa (a 5) cI 201 st), (oa (a 6) cZ 201 tn), (oa (a 1) cI 201 kd), (oa (a 11) cI 201 mn), (oa (a 12) cI 8040 cx), (oa (a 13) cI 8040 cy), (oa (a 32) cI 8 S0)] H := hP
  have hD : va_D A [(om k0 a I0 J0), (oa (a 5) cI 201 st), (oa (a 6) cZ 201 tn), (oa (a 1) cI 201 kd), (oa (a 11) cI 201 mn), (oa (a 12) cI 8040 cx), (oa (a 13) cI 8040 cy), (oa (a 32) cI 8 S0)] := hD
  refine lv_if_eq (tgt := 25) hx hb dX11_near_5 (by decide) (fun c_1 => ?_) (fun c_1 => ?_)
  · have c_1 : ¬ (f < ft ∧ (st f).toInt = 1 ∧ (tn f).toInt = 0) := zp_0 c_1
    exfalso; exact absurd hlf (by assumption)
  · have c_1 : f < ft ∧ (st f).toInt = 1 ∧ (tn f).toInt = 0 := zp_1 c_1
    have hw_ff := hwf f (by assumption)
    have hm_ff := hw_ff.1
    have hn_ff := hw_ff.2.1
    have hp_ff := hw_ff.2.2
    refine lv_aload_n hx hb dX11_near_8 rfl (lv_at hl 0 rfl) ?_
    refine lv_iload_n hx hb dX11_near_9 rfl (lv_at hl 2 rfl) ?_
    have hPc := hP.sub (ws' := [(om k0 a I0 J0), (oa (a 5) cI 201 st), (oa (a 6) cZ 201 tn)]) [0, 1, 2] rfl
    have hDc := hD.sub (ws' := [(om k0 a I0 J0), (oa (a 5) cI 201 st), (oa (a 6) cZ 201 tn)]) [0, 1, 2] (by decide) rfl
    have hFc := va_free (wc := [(om k0 a I0 J0), (oa (a 5) cI 201 st), (oa (a 6) cZ 201 tn)]) hD hS hA [0, 1, 2] rfl
    refine zcall (st1 := [.int (pI (g < ft ∧ (st g).toInt = 1 ∧ (tn g).toInt = 0))]) (va_runV (As := [.int (nI g)]) (rest := []) ⟨hx, hb, hml, hown, hts⟩ (k_M_is_n l dC dI cI cZ cF H.size k0 a I0 J0 g ft st tn (by assumption) (by omega) (by omega)) (cwV 1 hts (zz_gV mw_1447 mw_1449 mw_56 mw_110 mc_yX11_is) rfl rfl rfl (by decide +kernel) ⟨Nat.le_of_ble_eq_true rfl, Nat.le_of_ble_eq_true rfl⟩) (zPV2 (q0 := 0) (ci := 9) hPc hDc hK hXN rfl rfl) rfl rfl hl.1 rfl (lv_room (Nat.le_of_ble_eq_true rfl)) dX11_near_10 ⟨Nat.le_of_ble_eq_true rfl, Nat.le_of_ble_eq_true rfl⟩) hS hFc hFc rfl (fun t H1 locs ht hB hk1 hS => ?_)
    obtain ⟨hP1, hD1⟩ := hB
    rw [ht] at hP1
    obtain ⟨hP, hD⟩ := va_join (wr := [(oa (a 1) cI 201 kd), (oa (a 11) cI 201 mn), (oa (a 12) cI 8040 cx), (oa (a 13) cI 8040 cy), (oa (a 32) cI 8 S0)]) (w1 := [(om k0 a I0 J0), (oa (a 5) cI 201 st), (oa (a 6) cZ 201 tn)]) hP hD [0, 1, 2] [3, 4, 5, 6, 7] rfl rfl (by decide) (by decide) hk1 hFc hP1 hD1
    clear hk1 hPc hDc hFc hP1 hD1 ht
    generalize H1 = H at hP hS ⊢
    have hP := hP.sub (ws' := [(om k0 a I0 J0), (oa (a 5) cI 201 st), (oa (a 6) cZ 201 tn), (oa (a 1) cI 201 kd), (oa (a 11) cI 201 mn), (oa (a 12) cI 8040 cx), (oa (a 13) cI 8040 cy), (oa (a 32) cI 8 S0)]) [5, 6, 7, 0, 1, 2, 3, 4] rfl
    have hD := hD.sub (ws' := [(om k0 a I0 J0), (oa (a 5) cI 201 st), (oa (a 6) cZ 201 tn), (oa (a 1) cI 201 kd), (oa (a 11) cI 201 mn), (oa (a 12) cI 8040 cx), (oa (a 13) cI 8040 cy), (oa (a 32) cI 8 S0)]) [5, 6, 7, 0, 1, 2, 3, 4] (by decide) rfl
    have hP : va_P (dC, dI) classes [(om k0 a I0 J0), (oa (a 5) cI 201 st), (oa (a 6) cZ 201 tn), (oa (a 1) cI 201 kd), (oa (a 11) cI 201 mn), (oa (a 12) cI 8040 cx), (oa (a 13) cI 8040 cy), (oa (a 32) cI 8 S0)] H := hP
    have hD : va_D A [(om k0 a I0 J0), (oa (a 5) cI 201 st), (oa (a 6) cZ 201 tn), (oa (a 1) cI 201 kd), (oa (a 11) cI 201 mn), (oa (a 12) cI 8040 cx), (oa (a 13) cI 8040 cy), (oa (a 32) cI 8 S0)] := hD
    refine lv_if_eq (tgt := 25) hx hb dX11_near_13 (by decide) (fun c_2 => ?_) (fun c_2 => ?_)
    · have c_2 : ¬ (g < ft ∧ (st g).toInt = 1 ∧ (tn g).toInt = 0) := zp_0 c_2
      exfalso; exact absurd hlg (by assumption)
    · have c_2 : g < ft ∧ (st g).toInt = 1 ∧ (tn g).toInt = 0 := zp_1 c_2
      have hw_gg := hwf g (by assumption)
      have hm_gg := hw_gg.1
      have hn_gg := hw_gg.2.1
      have hp_gg := hw_gg.2.2
      refine lv_iload_n hx hb dX11_near_16 rfl (lv_at hl 3 rfl) ?_
      refine lv_if_lt (tgt := 25) hx hb dX11_near_17 (by decide) (fun c_3 => ?_) (fun c_3 => ?_)
      · have c_3 : w.toInt < 0 := zc_lt rfl (by decide) c_3
        exfalso; omega
      · have c_3 : 0 ≤ w.toInt := zc_nlt rfl (by decide) c_3
        refine lv_iload_n hx hb dX11_near_20 rfl (lv_at hl 3 rfl) ?_
        refine lv_iconst (v := 1) hx hb dX11_near_21 (by decide) ?_
        refine lv_icmp_le (tgt := 29) hx hb dX11_near_22 (by decide) (fun c_4 => ?_) (fun c_4 => ?_)
        · have c_4 : w.toInt ≤ 1 := zc_le rfl (by decide) c_4
          refine lv_aload_n hx hb dX11_near_29 rfl (lv_at hl 0 rfl) ?_
          refine lv_iload_n hx hb dX11_near_30 rfl (lv_at hl 1 rfl) ?_
          refine lv_iload_n hx hb dX11_near_31 rfl (lv_at hl 2 rfl) ?_
          have hPc := hP.sub (ws' := [(om k0 a I0 J0), (oa (a 1) cI 201 kd), (oa (a 11) cI 201 mn), (oa (a 12) cI 8040 cx), (oa (a 13) cI 8040 cy), (oa (a 32) cI 8 S0)]) [0, 3, 4, 5, 6, 7] rfl
          have hDc := hD.sub (ws' := [(om k0 a I0 J0), (oa (a 1) cI 201 kd), (oa (a 11) cI 201 mn), (oa (a 12) cI 8040 cx), (oa (a 13) cI 8040 cy), (oa (a 32) cI 8 S0)]) [0, 3, 4, 5, 6, 7] (by decide) rfl
          have hFc := va_free (wc := [(om k0 a I0 J0), (oa (a 1) cI 201 kd), (oa (a 11) cI 201 mn), (oa (a 12) cI 8040 cx), (oa (a 13) cI 8040 cy), (oa (a 32) cI 8 S0)]) hD hS hA [0, 3, 4, 5, 6, 7] rfl
          refine zcall (st1 := []) (va_runV (As := [.int (nI f), .int (nI g)]) (rest := []) ⟨hx, hb, hml, hown, hts⟩ (k_M_distance_a l dC dI cI cZ cF H.size k0 a I0 J0 f (nN (mn f)) g (nN (mn g)) kd mn cx cy S0 (by omega) (by assumption) (by omega) (by assumption) (by omega) (by assumption) (by omega) (by assumption) (he_f) (he_g)) (cwV 2 hts (zz_gV mw_1588 mw_1590 mw_84 mw_110 mc_yX11_distance) rfl rfl rfl (by decide +kernel) ⟨Nat.le_of_ble_eq_true rfl, Nat.le_of_ble_eq_true rfl⟩) (zPV2 (q0 := 0) (ci := 9) hPc hDc hK hXN rfl rfl) rfl rfl hl.1 rfl (lv_room (Nat.le_of_ble_eq_true rfl)) dX11_near_32 ⟨Nat.le_of_ble_eq_true rfl, Nat.le_of_ble_eq_true rfl⟩) hS hFc hFc rfl (fun t H1 locs ht hB hk1 hS => ?_)
          obtain ⟨un, dd, S1, hfr, hub, hP1, hD1⟩ := hB
          rw [ht] at hP1
          obtain ⟨hP, hD⟩ := va_join (wr := [(oa (a 5) cI 201 st), (oa (a 6) cZ 201 tn)]) (w1 := [(om k0 a I0 (vp_updL (vp_updL J0 48 (jI ((un : Nat) : Int))) 49 (jI ((dd : Nat) : Int)))), (oa (a 1) cI 201 kd), (oa (a 11) cI 201 mn), (oa (a 12) cI 8040 cx), (oa (a 13) cI 8040 cy), (oa (a 32) cI 8 S1)]) hP hD [0, 3, 4, 5, 6, 7] [1, 2] rfl rfl (by decide) (by decide) hk1 hFc hP1 hD1
          clear hk1 hPc hDc hFc hP1 hD1 ht
          generalize H1 = H at hP hS ⊢
          have hP := hP.sub (ws' := [(om k0 a I0 (vp_updL (vp_updL J0 48 (jI ((un : Nat) : Int))) 49 (jI ((dd : Nat) : Int)))), (oa (a 5) cI 201 st), (oa (a 6) cZ 201 tn), (oa (a 1) cI 201 kd), (oa (a 11) cI 201 mn), (oa (a 12) cI 8040 cx), (oa (a 13) cI 8040 cy), (oa (a 32) cI 8 S1)]) [2, 0, 1, 3, 4, 5, 6, 7] rfl
          have hD := hD.sub (ws' := [(om k0 a I0 (vp_updL (vp_updL J0 48 (jI ((un : Nat) : Int))) 49 (jI ((dd : Nat) : Int)))), (oa (a 5) cI 201 st), (oa (a 6) cZ 201 tn), (oa (a 1) cI 201 kd), (oa (a 11) cI 201 mn), (oa (a 12) cI 8040 cx), (oa (a 13) cI 8040 cy), (oa (a 32) cI 8 S1)]) [2, 0, 1, 3, 4, 5, 6, 7] (by decide) rfl
          have hP : va_P (dC, dI) classes [(om k0 a I0 (vp_updL (vp_updL J0 48 (jI ((un : Nat) : Int))) 49 (jI ((dd : Nat) : Int)))), (oa (a 5) cI 201 st), (oa (a 6) cZ 201 tn), (oa (a 1) cI 201 kd), (oa (a 11) cI 201 mn), (oa (a 12) cI 8040 cx), (oa (a 13) cI 8040 cy), (oa (a 32) cI 8 S1)] H := hP
          have hD : va_D A [(om k0 a I0 (vp_updL (vp_updL J0 48 (jI ((un : Nat) : Int))) 49 (jI ((dd : Nat) : Int)))), (oa (a 5) cI 201 st), (oa (a 6) cZ 201 tn), (oa (a 1) cI 201 kd), (oa (a 11) cI 201 mn), (oa (a 12) cI 8040 cx), (oa (a 13) cI 8040 cy), (oa (a 32) cI 8 S1)] := hD
          refine lv_iload_n hx hb dX11_near_35 rfl (lv_at hl 3 rfl) ?_
          refine lv_if_ne (tgt := 46) hx hb dX11_near_36 (by decide) (fun c_5 => ?_) (fun c_5 => ?_)
          · have c_5 : ¬ w.toInt = 0 := zc_ne rfl (by decide) c_5
            refine lv_aload_n hx hb dX11_near_46 rfl (lv_at hl 0 rfl) ?_
            refine va_get (D := (dC, dI)) (ci := 9) (v := .long (jI ((dd : Nat) : Int))) (C := RX11) (T := TX11) (N := 55) hx hb hts inX11 hown hK hP 0 rfl rfl 49 (by decide) (hts _ mw_1208) (fun _ h9 => h9) rfl dX11_near_47 ?_
            have hP9 := hP.sub (ws' := [(om k0 a I0 (vp_updL (vp_updL J0 48 (jI ((un : Nat) : Int))) 49 (jI ((dd : Nat) : Int)))), (oa (a 5) cI 201 st), (oa (a 6) cZ 201 tn), (oa (a 1) cI 201 kd), (oa (a 11) cI 201 mn), (oa (a 12) cI 8040 cx), (oa (a 13) cI 8040 cy), (oa (a 32) cI 8 S1)]) [0, 1, 2, 3, 4, 5, 6, 7] rfl
            have hD9 := hD.sub (ws' := [(om k0 a I0 (vp_updL (vp_updL J0 48 (jI ((un : Nat) : Int))) 49 (jI ((dd : Nat) : Int)))), (oa (a 5) cI 201 st), (oa (a 6) cZ 201 tn), (oa (a 1) cI 201 kd), (oa (a 11) cI 201 mn), (oa (a 12) cI 8040 cx), (oa (a 13) cI 8040 cy), (oa (a 32) cI 8 S1)]) [0, 1, 2, 3, 4, 5, 6, 7] (by decide) rfl
            rw [hQ9]
            exact W.lret (v := jI ((dd : Nat) : Int)) hx hb hr (fun t ht hW => ⟨⟨_, rfl, (jI ((dd : Nat) : Int)), un, dd, S1, rfl, by rw [ht]; exact hP9, hD9⟩, hS.F ht⟩) hS.2.2 dX11_near_50
          · have c_5 : w.toInt = 0 := zc_eq rfl (by decide) c_5
            refine lv_aload_n hx hb dX11_near_39 rfl (lv_at hl 0 rfl) ?_
            refine va_get (D := (dC, dI)) (ci := 9) (v := .long (jI ((un : Nat) : Int))) (C := RX11) (T := TX11) (N := 55) hx hb hts inX11 hown hK hP 0 rfl rfl 48 (by decide) (hts _ mw_1207) (fun _ h9 => h9) rfl dX11_near_40 ?_
            refine lv_goto (tgt := 50) hx hb dX11_near_43 (by decide) ?_
            have hP9 := hP.sub (ws' := [(om k0 a I0 (vp_updL (vp_updL J0 48 (jI ((un : Nat) : Int))) 49 (jI ((dd : Nat) : Int)))), (oa (a 5) cI 201 st), (oa (a 6) cZ 201 tn), (oa (a 1) cI 201 kd), (oa (a 11) cI 201 mn), (oa (a 12) cI 8040 cx), (oa (a 13) cI 8040 cy), (oa (a 32) cI 8 S1)]) [0, 1, 2, 3, 4, 5, 6, 7] rfl
            have hD9 := hD.sub (ws' := [(om k0 a I0 (vp_updL (vp_updL J0 48 (jI ((un : Nat) : Int))) 49 (jI ((dd : Nat) : Int)))), (oa (a 5) cI 201 st), (oa (a 6) cZ 201 tn), (oa (a 1) cI 201 kd), (oa (a 11) cI 201 mn), (oa (a 12) cI 8040 cx), (oa (a 13) cI 8040 cy), (oa (a 32) cI 8 S1)]) [0, 1, 2, 3, 4, 5, 6, 7] (by decide) rfl
            rw [hQ9]
            exact W.lret (v := jI ((un : Nat) : Int)) hx hb hr (fun t ht hW => ⟨⟨_, rfl, (jI ((un : Nat) : Int)), un, dd, S1, rfl, by rw [ht]; exact hP9, hD9⟩, hS.F ht⟩) hS.2.2 dX11_near_50
        · have c_4 : 1 < w.toInt := zc_nle rfl (by decide) c_4
          exfalso; omega
