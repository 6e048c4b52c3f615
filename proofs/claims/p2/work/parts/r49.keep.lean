set_option maxHeartbeats 4000000 in
set_option maxRecDepth 100000 in
theorem k_M_keep (l : Launch) (dC : Nat → ClassId) (dI : Nat → Nat → Nat) (cI cZ cF : ClassId) (sz : Nat) (k0 : Nat) (a : Nat → Nat) (I0 : Nat → Int32) (J0 : Nat → Int64) (i : Nat) (ft : Nat) (w0 : Nat) (cp : Nat) (cE : Nat) (kd : Nat → Int32) (st : Nat → Int32) (gb : Nat → Int32) (it : Nat → Int32) (pa : Nat → Int32) (pb : Nat → Int32) (rk : Nat → Int32) (wd : Nat → Int32) (tw : Nat → Int32) (tn : Nat → Int32) (mn : Nat → Int32) (cx : Nat → Int32) (cy : Nat → Int32) (sa : Nat → Int32) (sh : Nat → Int32) (hft : I0 0 = nI ft) (h200 : ft ≤ 200) (hi5 : i < 515) (hsa : sa i = nI w0) (hmn : ∀ f, f < ft → (tn f).toInt = 0 → ¬ (st f).toInt = 0 → mn f = nI (nN (mn f)) ∧ nN (mn f) ≤ 40) (hc1 : 1 ≤ cp) (hpw : pw cp cE) (hw0 : w0 ≤ 4096 * cp) (hfit : psN (nnF st tn mn) w0 ft ≤ 4096 * cE) (hmin : cE = cp ∨ 2048 * cE < psN (nnF st tn mn) w0 ft) (hcE : cE ≤ 512) : Met l yX11_keep (.code yX11_keep cX11_keep 5 none :: ws0) ({ frames := 1, cells := cE - cp, slots := 8192 * (cE - cp), locals := 23 } : Room) (va_Pc [.ref k0, .int (nI i)] (zPre (dC, dI) classes (zTy cI cZ cF) [(om k0 a I0 J0), (oa (a 1) cI 201 kd), (oa (a 5) cI 201 st), (oa (a 7) cI 201 gb), (oa (a 10) cI 201 it), (oa (a 8) cI 201 pa), (oa (a 9) cI 201 pb), (oa (a 2) cI 201 rk), (oa (a 3) cI 201 wd), (oa (a 4) cI 201 tw), (oa (a 6) cZ 201 tn), (oa (a 11) cI 201 mn), (oa (a 12) cI 8040 cx), (oa (a 13) cI 8040 cy), (oa (a 27) cI 516 sa), (oa (a 28) cI (4096 * cp) sh)] sz zXN)) (zQ none (fun t => ∃ (b1 : Nat), ∃ (sh1 : Nat → Int32), (sh1 w0 = nI ft) ∧ (∀ j, j < w0 → sh1 j = sh j) ∧ (∀ g, g < ft → ∀ j, j < 10 + 2 * nnF st tn mn g → sh1 (psN (nnF st tn mn) w0 g + j) = (shD kd st gb it pa pb rk wd tw (nnF st tn mn) cx cy) g j) ∧ (∀ j, psN (nnF st tn mn) w0 ft ≤ j → j < 4096 * cp → sh1 j = sh j) ∧ va_P (dC, dI) classes [(om k0 (va_up a 28 b1) (upd I0 41 (nI (psN (nnF st tn mn) w0 ft))) J0), (oa (a 1) cI 201 kd), (oa (a 5) cI 201 st), (oa (a 7) cI 201 gb), (oa (a 10) cI 201 it), (oa (a 8) cI 201 pa), (oa (a 9) cI 201 pb), (oa (a 2) cI 201 rk), (oa (a 3) cI 201 wd), (oa (a 4) cI 201 tw), (oa (a 6) cZ 201 tn), (oa (a 11) cI 201 mn), (oa (a 12) cI 8040 cx), (oa (a 13) cI 8040 cy), (oa (a 27) cI 516 (upd sa (i + 1) (nI (psN (nnF st tn mn) w0 ft)))), (oa b1 cI (4096 * cE) sh1)] t.heap ∧ va_D (va_A [(om k0 a I0 J0), (oa (a 1) cI 201 kd), (oa (a 5) cI 201 st), (oa (a 7) cI 201 gb), (oa (a 10) cI 201 it), (oa (a 8) cI 201 pa), (oa (a 9) cI 201 pb), (oa (a 2) cI 201 rk), (oa (a 3) cI 201 wd), (oa (a 4) cI 201 tw), (oa (a 6) cZ 201 tn), (oa (a 11) cI 201 mn), (oa (a 12) cI 8040 cx), (oa (a 13) cI 8040 cy), (oa (a 27) cI 516 sa), (oa (a 28) cI (4096 * cp) sh)] sz) [(om k0 (va_up a 28 b1) (upd I0 41 (nI (psN (nnF st tn mn) w0 ft))) J0), (oa (a 1) cI 201 kd), (oa (a 5) cI 201 st), (oa (a 7) cI 201 gb), (oa (a 10) cI 201 it), (oa (a 8) cI 201 pa), (oa (a 9) cI 201 pb), (oa (a 2) cI 201 rk), (oa (a 3) cI 201 wd), (oa (a 4) cI 201 tw), (oa (a 6) cZ 201 tn), (oa (a 11) cI 201 mn), (oa (a 12) cI 8040 cx), (oa (a 13) cI 8040 cy), (oa (a 27) cI 516 (upd sa (i + 1) (nI (psN (nnF st tn mn) w0 ft)))), (oa b1 cI (4096 * cE) sh1)]) (va_A [(om k0 a I0 J0), (oa (a 1) cI 201 kd), (oa (a 5) cI 201 st), (oa (a 7) cI 201 gb), (oa (a 10) cI 201 it), (oa (a 8) cI 201 pa), (oa (a 9) cI 201 pb), (oa (a 2) cI 201 rk), (oa (a 3) cI 201 wd), (oa (a 4) cI 201 tw), (oa (a 6) cZ 201 tn), (oa (a 11) cI 201 mn), (oa (a 12) cI 8040 cx), (oa (a 13) cI 8040 cy), (oa (a 27) cI 516 sa), (oa (a 28) cI (4096 * cp) sh)] sz)) (cE - cp) (8192 * (cE - cp)) (va_A [(om k0 a I0 J0), (oa (a 1) cI 201 kd), (oa (a 5) cI 201 st), (oa (a 7) cI 201 gb), (oa (a 10) cI 201 it), (oa (a 8) cI 201 pa), (oa (a 9) cI 201 pb), (oa (a 2) cI 201 rk), (oa (a 3) cI 201 wd), (oa (a 4) cI 201 tw), (oa (a 6) cZ 201 tn), (oa (a 11) cI 201 mn), (oa (a 12) cI 8040 cx), (oa (a 13) cI 8040 cy), (oa (a 27) cI 516 sa), (oa (a 28) cI (4096 * cp) sh)] sz) := by
  refine Met.ofW (cc := cX11_keep) (maxL := 5) (ret := none) (by decide) rfl ?_
  intro p e s m args below meth c s₁ B hml hv
  obtain ⟨rfl, hsz, hP, hK, hD0, hXN⟩ := hv
  have hx := B.exec
  have hb := B.bytes
  have hr := B.returns
  have hts0 := atoms_spec (ws := .code yX11_keep cX11_keep 5 none :: ws0) B.pre
  have hts : ∀ w9 ∈ ws0, w9.before ([.ref k0, .int (nI i)] : List Value).toArray s = true := fun w9 h => hts0 w9 (List.mem_cons_of_mem _ h)
  have hown : s.vm.findClass "ScaleShopModel" = some m.cls := findClass_of_methodNamed B.named
  have hlocks := B.notSynchronized
  subst hsz
  have hD := hD0.self (sz := s.heap.size)
  clear hD0
  generalize hAe : va_A [(om k0 a I0 J0), (oa (a 1) cI 201 kd), (oa (a 5) cI 201 st), (oa (a 7) cI 201 gb), (oa (a 10) cI 201 it), (oa (a 8) cI 201 pa), (oa (a 9) cI 201 pb), (oa (a 2) cI 201 rk), (oa (a 3) cI 201 wd), (oa (a 4) cI 201 tw), (oa (a 6) cZ 201 tn), (oa (a 11) cI 201 mn), (oa (a 12) cI 8040 cx), (oa (a 13) cI 8040 cy), (oa (a 27) cI 516 sa), (oa (a 28) cI (4096 * cp) sh)] s.heap.size = A at hD ⊢
  have hA : ∀ q : Nat, s.heap.size ≤ q → A q := fun q h => by rw [← hAe]; exact Or.inr h
  clear hAe
  have hS : va_S A s.heap s.heap [] := va_S.rf
  have hP : va_P (dC, dI) classes [(om k0 a I0 J0), (oa (a 1) cI 201 kd), (oa (a 5) cI 201 st), (oa (a 7) cI 201 gb), (oa (a 10) cI 201 it), (oa (a 8) cI 201 pa), (oa (a 9) cI 201 pb), (oa (a 2) cI 201 rk), (oa (a 3) cI 201 wd), (oa (a 4) cI 201 tw), (oa (a 6) cZ 201 tn), (oa (a 11) cI 201 mn), (oa (a 12) cI 8040 cx), (oa (a 13) cI 8040 cy), (oa (a 27) cI 516 sa), (oa (a 28) cI (4096 * cp) sh)] s.heap := hP
  obtain ⟨Q9, hQ9⟩ : ∃ Q9 : State → Prop, Q9 = MQ below (zQ none (fun t => ∃ (b1 : Nat), ∃ (sh1 : Nat → Int32), (sh1 w0 = nI ft) ∧ (∀ j, j < w0 → sh1 j = sh j) ∧ (∀ g, g < ft → ∀ j, j < 10 + 2 * nnF st tn mn g → sh1 (psN (nnF st tn mn) w0 g + j) = (shD kd st gb it pa pb rk wd tw (nnF st tn mn) cx cy) g j) ∧ (∀ j, psN (nnF st tn mn) w0 ft ≤ j → j < 4096 * cp → sh1 j = sh j) ∧ va_P (dC, dI) classes [(om k0 (va_up a 28 b1) (upd I0 41 (nI (psN (nnF st tn mn) w0 ft))) J0), (oa (a 1) cI 201 kd), (oa (a 5) cI 201 st), (oa (a 7) cI 201 gb), (oa (a 10) cI 201 it), (oa (a 8) cI 201 pa), (oa (a 9) cI 201 pb), (oa (a 2) cI 201 rk), (oa (a 3) cI 201 wd), (oa (a 4) cI 201 tw), (oa (a 6) cZ 201 tn), (oa (a 11) cI 201 mn), (oa (a 12) cI 8040 cx), (oa (a 13) cI 8040 cy), (oa (a 27) cI 516 (upd sa (i + 1) (nI (psN (nnF st tn mn) w0 ft)))), (oa b1 cI (4096 * cE) sh1)] t.heap ∧ va_D A [(om k0 (va_up a 28 b1) (upd I0 41 (nI (psN (nnF st tn mn) w0 ft))) J0), (oa (a 1) cI 201 kd), (oa (a 5) cI 201 st), (oa (a 7) cI 201 gb), (oa (a 10) cI 201 it), (oa (a 8) cI 201 pa), (oa (a 9) cI 201 pb), (oa (a 2) cI 201 rk), (oa (a 3) cI 201 wd), (oa (a 4) cI 201 tw), (oa (a 6) cZ 201 tn), (oa (a 11) cI 201 mn), (oa (a 12) cI 8040 cx), (oa (a 13) cI 8040 cy), (oa (a 27) cI 516 (upd sa (i + 1) (nI (psN (nnF st tn mn) w0 ft)))), (oa b1 cI (4096 * cE) sh1)]) A) ([.ref k0, .int (nI i)] : List Value).toArray s (cE - cp) (8192 * (cE - cp)) A := ⟨_, rfl⟩
  rw [← hQ9]
  have hl := lv_entry ([.ref k0, .int (nI i)]) (n := 5) (Nat.le_of_ble_eq_true rfl)
  rw [lg_entry_eq]
  generalize (lg_sl ([.ref k0, .int (nI i)]) ++ List.replicate (5 - (lg_sl ([.ref k0, .int (nI i)])).length) Slot.unset).toArray = ls at hl ⊢
  have hl : lv_has ls 5 [(0, .ref k0), (1, .int (nI i))] := hl
  refine lv_aload_n hx hb dX11_keep_0 rfl (lv_at hl 0 rfl) ?_
  refine lv_aload_n hx hb dX11_keep_1 rfl (lv_at hl 0 rfl) ?_
  refine va_get (D := (dC, dI)) (ci := 9) (v := .ref (a 27)) (C := RX11) (T := TX11) (N := 55) hx hb hts inX11 hown hK hP 0 rfl rfl 27 (by decide) (hts _ mw_1186) (fun _ h9 => h9) rfl dX11_keep_2 ?_
  refine lv_iload_n hx hb dX11_keep_5 rfl (lv_at hl 1 rfl) ?_
  refine z_iald hx hb hK hP 14 0 rfl rfl (e := i) rfl (by omega) (by omega) dX11_keep_6 ?_
  refine zz_i (v := nI w0) (hsa) ?_
  refine va_put (D := (dC, dI)) (ci := 9) (v := .int (nI w0)) (ty := .int) (C := RX11) (T := TX11) (N := 55) hx hb hts inX11 tyX11 tyX11_ok nmX11 hown hK hP hD hS 0 rfl rfl 41 (by decide) (hts _ mw_1200) (fun _ h9 => h9) rfl (by decide +kernel) rfl rfl (Nat.le_of_ble_eq_true rfl) dX11_keep_7 (fun H locs hP hD hS => ?_)
  have hP : va_P (dC, dI) classes [(om k0 a (upd I0 41 (nI w0)) J0), (oa (a 1) cI 201 kd), (oa (a 5) cI 201 st), (oa (a 7) cI 201 gb), (oa (a 10) cI 201 it), (oa (a 8) cI 201 pa), (oa (a 9) cI 201 pb), (oa (a 2) cI 201 rk), (oa (a 3) cI 201 wd), (oa (a 4) cI 201 tw), (oa (a 6) cZ 201 tn), (oa (a 11) cI 201 mn), (oa (a 12) cI 8040 cx), (oa (a 13) cI 8040 cy), (oa (a 27) cI 516 sa), (oa (a 28) cI (4096 * cp) sh)] H := hP
  have hD : va_D A [(om k0 a (upd I0 41 (nI w0)) J0), (oa (a 1) cI 201 kd), (oa (a 5) cI 201 st), (oa (a 7) cI 201 gb), (oa (a 10) cI 201 it), (oa (a 8) cI 201 pa), (oa (a 9) cI 201 pb), (oa (a 2) cI 201 rk), (oa (a 3) cI 201 wd), (oa (a 4) cI 201 tw), (oa (a 6) cZ 201 tn), (oa (a 11) cI 201 mn), (oa (a 12) cI 8040 cx), (oa (a 13) cI 8040 cy), (oa (a 27) cI 516 sa), (oa (a 28) cI (4096 * cp) sh)] := hD
  refine lv_aload_n hx hb dX11_keep_10 rfl (lv_at hl 0 rfl) ?_
  refine lv_aload_n hx hb dX11_keep_11 rfl (lv_at hl 0 rfl) ?_
  refine va_get (D := (dC, dI)) (ci := 9) (v := .int (I0 0)) (C := RX11) (T := TX11) (N := 55) hx hb hts inX11 hown hK hP 0 rfl rfl 0 (by decide) (hts _ mw_1159) (fun _ h9 => h9) rfl dX11_keep_12 ?_
  refine zz_i (v := nI ft) (hft) ?_
  have hmo0 := psN_ge (nnF st tn mn) w0 ft
  have hd0 := dc_pw hpw (w := w0) (by omega)
  have hPc := hP.sub (ws' := [(om k0 a (upd I0 41 (nI w0)) J0), (oa (a 28) cI (4096 * cp) sh)]) [0, 15] rfl
  have hDc := hD.sub (ws' := [(om k0 a (upd I0 41 (nI w0)) J0), (oa (a 28) cI (4096 * cp) sh)]) [0, 15] (by decide) rfl
  have hFc := va_free (wc := [(om k0 a (upd I0 41 (nI w0)) J0), (oa (a 28) cI (4096 * cp) sh)]) hD hS hA [0, 15] rfl
  refine zcall (st1 := []) (va_runV (As := [.int (nI ft)]) (rest := []) ⟨hx, hb, hml, hown, hts⟩ (k_M_write l dC dI cI cZ cF H.size k0 a (upd I0 41 (nI w0)) J0 w0 cp (nI ft) sh (rfl) (by omega) (by omega) (by omega)) (cwV 1 hts (zz_gV mw_1427 mw_1429 mw_51 mw_110 mc_yX11_write) rfl rfl rfl (by decide +kernel) ⟨Nat.le_of_ble_eq_true rfl, Nat.le_of_ble_eq_true rfl⟩) (zPV2 (q0 := 0) (ci := 9) hPc hDc hK hXN rfl rfl) rfl rfl hl.1 rfl (lv_room (Nat.le_of_ble_eq_true rfl)) dX11_keep_15 ⟨show (0 + (dc cp w0 - cp)) ≤ cE - cp by omega, show (0 + (8192 * (dc cp w0 - cp))) ≤ 8192 * (cE - cp) by omega⟩) hS hFc hFc rfl (fun t H1 locs ht hB hk1 hS => ?_)
  obtain ⟨b0, c0, sh0, hcc0, hwv0, hwk0, hwo0, hP1, hD1⟩ := hB
  rw [ht] at hP1
  obtain ⟨hP, hD⟩ := va_join (wr := [(oa (a 1) cI 201 kd), (oa (a 5) cI 201 st), (oa (a 7) cI 201 gb), (oa (a 10) cI 201 it), (oa (a 8) cI 201 pa), (oa (a 9) cI 201 pb), (oa (a 2) cI 201 rk), (oa (a 3) cI 201 wd), (oa (a 4) cI 201 tw), (oa (a 6) cZ 201 tn), (oa (a 11) cI 201 mn), (oa (a 12) cI 8040 cx), (oa (a 13) cI 8040 cy), (oa (a 27) cI 516 sa)]) (w1 := [(om k0 (va_up a 28 b0) (upd I0 41 (nI (w0 + 1))) J0), (oa b0 cI (4096 * c0) sh0)]) hP hD [0, 15] [1, 2, 3, 4, 5, 6, 7, 8, 9, 10, 11, 12, 13, 14] rfl rfl (by decide) (by decide) hk1 hFc hP1 hD1
  clear hk1 hPc hDc hFc hP1 hD1 ht
  generalize H1 = H at hP hS ⊢
  have hP : va_P (dC, dI) classes [(oa (a 1) cI 201 kd), (oa (a 5) cI 201 st), (oa (a 7) cI 201 gb), (oa (a 10) cI 201 it), (oa (a 8) cI 201 pa), (oa (a 9) cI 201 pb), (oa (a 2) cI 201 rk), (oa (a 3) cI 201 wd), (oa (a 4) cI 201 tw), (oa (a 6) cZ 201 tn), (oa (a 11) cI 201 mn), (oa (a 12) cI 8040 cx), (oa (a 13) cI 8040 cy), (oa (a 27) cI 516 sa), (om k0 (va_up a 28 b0) (upd I0 41 (nI (w0 + 1))) J0), (oa b0 cI (4096 * c0) sh0)] H := hP
  have hD : va_D A [(oa (a 1) cI 201 kd), (oa (a 5) cI 201 st), (oa (a 7) cI 201 gb), (oa (a 10) cI 201 it), (oa (a 8) cI 201 pa), (oa (a 9) cI 201 pb), (oa (a 2) cI 201 rk), (oa (a 3) cI 201 wd), (oa (a 4) cI 201 tw), (oa (a 6) cZ 201 tn), (oa (a 11) cI 201 mn), (oa (a 12) cI 8040 cx), (oa (a 13) cI 8040 cy), (oa (a 27) cI 516 sa), (om k0 (va_up a 28 b0) (upd I0 41 (nI (w0 + 1))) J0), (oa b0 cI (4096 * c0) sh0)] := hD
  have hV0 := KI_0 (D := (shD kd st gb it pa pb rk wd tw (nnF st tn mn) cx cy)) (nn := nnF st tn mn) hc1 hpw hw0 (by omega) hwv0 hwk0 hwo0 hcc0
  have hU0 := hV0.1
  refine lv_iconst (v := 0) hx hb dX11_keep_18 (by decide) ?_
  refine lv_istore_n (lv' := [(2, .int 0), (0, .ref k0), (1, .int (nI i))]) hx hb dX11_keep_19 rfl hl (by decide) rfl (fun ls hl => ?_)
  have hl_20 : ∀ (n9 : Nat) (q : Nat) (b1 : Nat) (c1 : Nat) (w : Nat) (sh1 : Nat → Int32) (H : Heap) (locs : List Loc) (ls : Array Slot), ft - q < n9 → (q ≤ ft) → (KI cp cE w0 (nI ft) (nnF st tn mn) (shD kd st gb it pa pb rk wd tw (nnF st tn mn) cx cy) sh q 0 sh1 c1 w) → va_P (dC, dI) classes [(oa (a 1) cI 201 kd), (oa (a 5) cI 201 st), (oa (a 7) cI 201 gb), (oa (a 10) cI 201 it), (oa (a 8) cI 201 pa), (oa (a 9) cI 201 pb), (oa (a 2) cI 201 rk), (oa (a 3) cI 201 wd), (oa (a 4) cI 201 tw), (oa (a 6) cZ 201 tn), (oa (a 11) cI 201 mn), (oa (a 12) cI 8040 cx), (oa (a 13) cI 8040 cy), (oa (a 27) cI 516 sa), (om k0 (va_up a 28 b1) (upd I0 41 (nI w)) J0), (oa b1 cI (4096 * c1) sh1)] H → va_D A [(oa (a 1) cI 201 kd), (oa (a 5) cI 201 st), (oa (a 7) cI 201 gb), (oa (a 10) cI 201 it), (oa (a 8) cI 201 pa), (oa (a 9) cI 201 pb), (oa (a 2) cI 201 rk), (oa (a 3) cI 201 wd), (oa (a 4) cI 201 tw), (oa (a 6) cZ 201 tn), (oa (a 11) cI 201 mn), (oa (a 12) cI 8040 cx), (oa (a 13) cI 8040 cy), (oa (a 27) cI 516 sa), (om k0 (va_up a 28 b1) (upd I0 41 (nI w)) J0), (oa b1 cI (4096 * c1) sh1)] → va_S A s.heap H locs → lv_has ls 5 [(2, .int (nI q)), (0, .ref k0), (1, .int (nI i))] → W p l e ((headSpec (.code yX11_keep cX11_keep 5 none :: ws0) ({ frames := 1, cells := cE - cp, slots := 8192 * (cE - cp), locals := 23 } : Room)).room) s m ([.ref k0, .int (nI i)] : List Value).toArray below meth c H locs (c1 - cp) (8192 * (c1 - cp)) Q9 (F0 m 20 ls []) := by
    intro n9
    induction n9 with
    | zero => intro q b1 c1 w sh1 H locs ls hm; exact absurd hm (Nat.not_lt_zero _)
    | succ n9 ih_20 =>
      intro q b1 c1 w sh1 H locs ls hm hq hV hP hD hS hl
      have hU := hV.1
      refine lv_iload_n hx hb dX11_keep_20 rfl (lv_at hl 0 rfl) ?_
      refine lv_aload_n hx hb dX11_keep_21 rfl (lv_at hl 1 rfl) ?_
      refine va_get (D := (dC, dI)) (ci := 9) (v := .int (I0 0)) (C := RX11) (T := TX11) (N := 55) hx hb hts inX11 hown hK hP 14 rfl rfl 0 (by decide) (hts _ mw_1159) (fun _ h9 => h9) rfl dX11_keep_22 ?_
      refine zz_i (v := nI ft) (hft) ?_
      refine lv_icmp_ge (tgt := 205) hx hb dX11_keep_25 (by decide) (fun c_1 => ?_) (fun c_1 => ?_)
      · have c_1 : ((ft : Nat) : Int) ≤ ((q : Nat) : Int) := zc_le (nI_toInt (by omega)) (nI_toInt (by omega)) c_1
        refine lv_aload_n hx hb dX11_keep_205 rfl (lv_at hl 1 rfl) ?_
        refine va_get (D := (dC, dI)) (ci := 9) (v := .ref (a 27)) (C := RX11) (T := TX11) (N := 55) hx hb hts inX11 hown hK hP 14 rfl rfl 27 (by decide) (hts _ mw_1186) (fun _ h9 => h9) rfl dX11_keep_206 ?_
        refine lv_iload_n hx hb dX11_keep_209 rfl (lv_at hl 2 rfl) ?_
        refine lv_iconst (v := 1) hx hb dX11_keep_210 (by decide) ?_
        refine lv_iadd hx hb dX11_keep_211 ?_
        refine zz_i (v := nI (i + 1)) (nI_add i 1) ?_
        refine lv_aload_n hx hb dX11_keep_212 rfl (lv_at hl 1 rfl) ?_
        refine va_get (D := (dC, dI)) (ci := 9) (v := .int (nI w)) (C := RX11) (T := TX11) (N := 55) hx hb hts inX11 hown hK hP 14 rfl rfl 41 (by decide) (hts _ mw_1200) (fun _ h9 => h9) rfl dX11_keep_213 ?_
        refine z_iast hx hb hK hP hD hS 13 0 rfl rfl (e := i + 1) (x := nI w) rfl (by omega) (by omega) dX11_keep_216 (fun H locs hP hD hS => ?_)
        have hP : va_P (dC, dI) classes [(oa (a 1) cI 201 kd), (oa (a 5) cI 201 st), (oa (a 7) cI 201 gb), (oa (a 10) cI 201 it), (oa (a 8) cI 201 pa), (oa (a 9) cI 201 pb), (oa (a 2) cI 201 rk), (oa (a 3) cI 201 wd), (oa (a 4) cI 201 tw), (oa (a 6) cZ 201 tn), (oa (a 11) cI 201 mn), (oa (a 12) cI 8040 cx), (oa (a 13) cI 8040 cy), (oa (a 27) cI 516 (upd sa (i + 1) (nI w))), (om k0 (va_up a 28 b1) (upd I0 41 (nI w)) J0), (oa b1 cI (4096 * c1) sh1)] H := hP
        have hD : va_D A [(oa (a 1) cI 201 kd), (oa (a 5) cI 201 st), (oa (a 7) cI 201 gb), (oa (a 10) cI 201 it), (oa (a 8) cI 201 pa), (oa (a 9) cI 201 pb), (oa (a 2) cI 201 rk), (oa (a 3) cI 201 wd), (oa (a 4) cI 201 tw), (oa (a 6) cZ 201 tn), (oa (a 11) cI 201 mn), (oa (a 12) cI 8040 cx), (oa (a 13) cI 8040 cy), (oa (a 27) cI 516 (upd sa (i + 1) (nI w))), (om k0 (va_up a 28 b1) (upd I0 41 (nI w)) J0), (oa b1 cI (4096 * c1) sh1)] := hD
        have hqe : q = ft := (by omega)
        rw [hqe] at hV
        have hU9 := hV.1
        have hce : c1 = cE := (by rcases hmin with h | h; omega; exact pw_end (e := psN (nnF st tn mn) w0 ft) hV.1.1 (by omega) (by omega))
        have hwe : w = psN (nnF st tn mn) w0 ft := hV.1.2.2.2.2
        have hP9 := hP.sub (ws' := [(om k0 (va_up a 28 b1) (upd I0 41 (nI w)) J0), (oa (a 1) cI 201 kd), (oa (a 5) cI 201 st), (oa (a 7) cI 201 gb), (oa (a 10) cI 201 it), (oa (a 8) cI 201 pa), (oa (a 9) cI 201 pb), (oa (a 2) cI 201 rk), (oa (a 3) cI 201 wd), (oa (a 4) cI 201 tw), (oa (a 6) cZ 201 tn), (oa (a 11) cI 201 mn), (oa (a 12) cI 8040 cx), (oa (a 13) cI 8040 cy), (oa (a 27) cI 516 (upd sa (i + 1) (nI w))), (oa b1 cI (4096 * c1) sh1)]) [14, 0, 1, 2, 3, 4, 5, 6, 7, 8, 9, 10, 11, 12, 13, 15] rfl
        have hD9 := hD.sub (ws' := [(om k0 (va_up a 28 b1) (upd I0 41 (nI w)) J0), (oa (a 1) cI 201 kd), (oa (a 5) cI 201 st), (oa (a 7) cI 201 gb), (oa (a 10) cI 201 it), (oa (a 8) cI 201 pa), (oa (a 9) cI 201 pb), (oa (a 2) cI 201 rk), (oa (a 3) cI 201 wd), (oa (a 4) cI 201 tw), (oa (a 6) cZ 201 tn), (oa (a 11) cI 201 mn), (oa (a 12) cI 8040 cx), (oa (a 13) cI 8040 cy), (oa (a 27) cI 516 (upd sa (i + 1) (nI w))), (oa b1 cI (4096 * c1) sh1)]) [14, 0, 1, 2, 3, 4, 5, 6, 7, 8, 9, 10, 11, 12, 13, 15] (by decide) rfl
        have hE9 : ([(om k0 (va_up a 28 b1) (upd I0 41 (nI w)) J0), (oa (a 1) cI 201 kd), (oa (a 5) cI 201 st), (oa (a 7) cI 201 gb), (oa (a 10) cI 201 it), (oa (a 8) cI 201 pa), (oa (a 9) cI 201 pb), (oa (a 2) cI 201 rk), (oa (a 3) cI 201 wd), (oa (a 4) cI 201 tw), (oa (a 6) cZ 201 tn), (oa (a 11) cI 201 mn), (oa (a 12) cI 8040 cx), (oa (a 13) cI 8040 cy), (oa (a 27) cI 516 (upd sa (i + 1) (nI w))), (oa b1 cI (4096 * c1) sh1)] : va_W) = [(om k0 (va_up a 28 b1) (upd I0 41 (nI (psN (nnF st tn mn) w0 ft))) J0), (oa (a 1) cI 201 kd), (oa (a 5) cI 201 st), (oa (a 7) cI 201 gb), (oa (a 10) cI 201 it), (oa (a 8) cI 201 pa), (oa (a 9) cI 201 pb), (oa (a 2) cI 201 rk), (oa (a 3) cI 201 wd), (oa (a 4) cI 201 tw), (oa (a 6) cZ 201 tn), (oa (a 11) cI 201 mn), (oa (a 12) cI 8040 cx), (oa (a 13) cI 8040 cy), (oa (a 27) cI 516 (upd sa (i + 1) (nI (psN (nnF st tn mn) w0 ft)))), (oa b1 cI (4096 * cE) sh1)] := by rw [hwe, hce]
        rw [hE9] at hP9 hD9
        refine W.widen (k := cE - cp) (n := 8192 * (cE - cp)) (by omega) (by omega) ?_
        rw [hQ9]
        exact W.vret hx hb hr (fun t ht hW => ⟨⟨rfl, b1, sh1, (hV.2.1), (hV.2.2.1), (hV.2.2.2.1), (fun j hj hc => hV.2.2.2.2.2 j (by omega) hc), by rw [ht]; exact hP9, hD9⟩, hS.F ht⟩) hS.2.2 dX11_keep_217
      · have c_1 : ((q : Nat) : Int) < ((ft : Nat) : Int) := zc_nle (nI_toInt (by omega)) (nI_toInt (by omega)) c_1
        have hmo := psN_mono (nnF st tn mn) w0 (f := q) (g := ft) (by omega)
        refine lv_aload_n hx hb dX11_keep_28 rfl (lv_at hl 1 rfl) ?_
        refine lv_aload_n hx hb dX11_keep_29 rfl (lv_at hl 1 rfl) ?_
        refine va_get (D := (dC, dI)) (ci := 9) (v := .ref (a 1)) (C := RX11) (T := TX11) (N := 55) hx hb hts inX11 hown hK hP 14 rfl rfl 1 (by decide) (hts _ mw_1160) (fun _ h9 => h9) rfl dX11_keep_30 ?_
        refine lv_iload_n hx hb dX11_keep_33 rfl (lv_at hl 0 rfl) ?_
        refine z_iald hx hb hK hP 0 0 rfl rfl (e := q) rfl (by omega) (by omega) dX11_keep_34 ?_
        have hd_0 := dc_pw hV.1.1 (w := w) (by omega)
        have hPc := hP.sub (ws' := [(om k0 (va_up a 28 b1) (upd I0 41 (nI w)) J0), (oa b1 cI (4096 * c1) sh1)]) [14, 15] rfl
        have hDc := hD.sub (ws' := [(om k0 (va_up a 28 b1) (upd I0 41 (nI w)) J0), (oa b1 cI (4096 * c1) sh1)]) [14, 15] (by decide) rfl
        have hFc := va_free (wc := [(om k0 (va_up a 28 b1) (upd I0 41 (nI w)) J0), (oa b1 cI (4096 * c1) sh1)]) hD hS hA [14, 15] rfl
        refine zcall (st1 := []) (va_runV (As := [.int (kd q)]) (rest := []) ⟨hx, hb, hml, hown, hts⟩ (k_M_write l dC dI cI cZ cF H.size k0 (va_up a 28 b1) (upd I0 41 (nI w)) J0 w c1 (kd q) sh1 (rfl) (by omega) (by omega) (by omega)) (cwV 1 hts (zz_gV mw_1427 mw_1429 mw_51 mw_110 mc_yX11_write) rfl rfl rfl (by decide +kernel) ⟨Nat.le_of_ble_eq_true rfl, Nat.le_of_ble_eq_true rfl⟩) (zPV2 (q0 := 0) (ci := 9) hPc hDc hK hXN rfl rfl) rfl rfl hl.1 rfl (lv_room (Nat.le_of_ble_eq_true rfl)) dX11_keep_35 ⟨show (c1 - cp + (dc c1 w - c1)) ≤ cE - cp by omega, show (8192 * (c1 - cp) + (8192 * (dc c1 w - c1))) ≤ 8192 * (cE - cp) by omega⟩) hS hFc hFc rfl (fun t H1 locs ht hB hk1 hS => ?_)
        obtain ⟨bb0, cc0, sv0, hcc_0, hwv_0, hwk_0, hwo_0, hP1, hD1⟩ := hB
        rw [ht] at hP1
        obtain ⟨hP, hD⟩ := va_join (wr := [(oa (a 1) cI 201 kd), (oa (a 5) cI 201 st), (oa (a 7) cI 201 gb), (oa (a 10) cI 201 it), (oa (a 8) cI 201 pa), (oa (a 9) cI 201 pb), (oa (a 2) cI 201 rk), (oa (a 3) cI 201 wd), (oa (a 4) cI 201 tw), (oa (a 6) cZ 201 tn), (oa (a 11) cI 201 mn), (oa (a 12) cI 8040 cx), (oa (a 13) cI 8040 cy), (oa (a 27) cI 516 sa)]) (w1 := [(om k0 (va_up a 28 bb0) (upd I0 41 (nI (w + 1))) J0), (oa bb0 cI (4096 * cc0) sv0)]) hP hD [14, 15] [0, 1, 2, 3, 4, 5, 6, 7, 8, 9, 10, 11, 12, 13] rfl rfl (by decide) (by decide) hk1 hFc hP1 hD1
        clear hk1 hPc hDc hFc hP1 hD1 ht
        generalize H1 = H at hP hS ⊢
        have hP : va_P (dC, dI) classes [(oa (a 1) cI 201 kd), (oa (a 5) cI 201 st), (oa (a 7) cI 201 gb), (oa (a 10) cI 201 it), (oa (a 8) cI 201 pa), (oa (a 9) cI 201 pb), (oa (a 2) cI 201 rk), (oa (a 3) cI 201 wd), (oa (a 4) cI 201 tw), (oa (a 6) cZ 201 tn), (oa (a 11) cI 201 mn), (oa (a 12) cI 8040 cx), (oa (a 13) cI 8040 cy), (oa (a 27) cI 516 sa), (om k0 (va_up a 28 bb0) (upd I0 41 (nI (w + 1))) J0), (oa bb0 cI (4096 * cc0) sv0)] H := hP
        have hD : va_D A [(oa (a 1) cI 201 kd), (oa (a 5) cI 201 st), (oa (a 7) cI 201 gb), (oa (a 10) cI 201 it), (oa (a 8) cI 201 pa), (oa (a 9) cI 201 pb), (oa (a 2) cI 201 rk), (oa (a 3) cI 201 wd), (oa (a 4) cI 201 tw), (oa (a 6) cZ 201 tn), (oa (a 11) cI 201 mn), (oa (a 12) cI 8040 cx), (oa (a 13) cI 8040 cy), (oa (a 27) cI 516 sa), (om k0 (va_up a 28 bb0) (upd I0 41 (nI (w + 1))) J0), (oa bb0 cI (4096 * cc0) sv0)] := hD
        have hV_0 := KI_s hc1 hV (by omega) hwv_0 hwk_0 hwo_0 hcc_0
        have hU_0 := hV_0.1
        refine lv_aload_n hx hb dX11_keep_38 rfl (lv_at hl 1 rfl) ?_
        refine lv_aload_n hx hb dX11_keep_39 rfl (lv_at hl 1 rfl) ?_
        refine va_get (D := (dC, dI)) (ci := 9) (v := .ref (a 5)) (C := RX11) (T := TX11) (N := 55) hx hb hts inX11 hown hK hP 14 rfl rfl 5 (by decide) (hts _ mw_1164) (fun _ h9 => h9) rfl dX11_keep_40 ?_
        refine lv_iload_n hx hb dX11_keep_43 rfl (lv_at hl 0 rfl) ?_
        refine z_iald hx hb hK hP 1 0 rfl rfl (e := q) rfl (by omega) (by omega) dX11_keep_44 ?_
        have hd_1 := dc_pw hV_0.1.1 (w := w + 1) (by omega)
        have hPc := hP.sub (ws' := [(om k0 (va_up a 28 bb0) (upd I0 41 (nI (w + 1))) J0), (oa bb0 cI (4096 * cc0) sv0)]) [14, 15] rfl
        have hDc := hD.sub (ws' := [(om k0 (va_up a 28 bb0) (upd I0 41 (nI (w + 1))) J0), (oa bb0 cI (4096 * cc0) sv0)]) [14, 15] (by decide) rfl
        have hFc := va_free (wc := [(om k0 (va_up a 28 bb0) (upd I0 41 (nI (w + 1))) J0), (oa bb0 cI (4096 * cc0) sv0)]) hD hS hA [14, 15] rfl
        refine zcall (st1 := []) (va_runV (As := [.int (st q)]) (rest := []) ⟨hx, hb, hml, hown, hts⟩ (k_M_write l dC dI cI cZ cF H.size k0 (va_up a 28 bb0) (upd I0 41 (nI (w + 1))) J0 (w + 1) cc0 (st q) sv0 (rfl) (by omega) (by omega) (by omega)) (cwV 1 hts (zz_gV mw_1427 mw_1429 mw_51 mw_110 mc_yX11_write) rfl rfl rfl (by decide +kernel) ⟨Nat.le_of_ble_eq_true rfl, Nat.le_of_ble_eq_true rfl⟩) (zPV2 (q0 := 0) (ci := 9) hPc hDc hK hXN rfl rfl) rfl rfl hl.1 rfl (lv_room (Nat.le_of_ble_eq_true rfl)) dX11_keep_45 ⟨show ((c1 - cp + (dc c1 w - c1)) + (dc cc0 (w + 1) - cc0)) ≤ cE - cp by omega, show ((8192 * (c1 - cp) + (8192 * (dc c1 w - c1))) + (8192 * (dc cc0 (w + 1) - cc0))) ≤ 8192 * (cE - cp) by omega⟩) hS hFc hFc rfl (fun t H1 locs ht hB hk1 hS => ?_)
        obtain ⟨bb1, cc1, sv1, hcc_1, hwv_1, hwk_1, hwo_1, hP1, hD1⟩ := hB
        rw [ht] at hP1
        obtain ⟨hP, hD⟩ := va_join (wr := [(oa (a 1) cI 201 kd), (oa (a 5) cI 201 st), (oa (a 7) cI 201 gb), (oa (a 10) cI 201 it), (oa (a 8) cI 201 pa), (oa (a 9) cI 201 pb), (oa (a 2) cI 201 rk), (oa (a 3) cI 201 wd), (oa (a 4) cI 201 tw), (oa (a 6) cZ 201 tn), (oa (a 11) cI 201 mn), (oa (a 12) cI 8040 cx), (oa (a 13) cI 8040 cy), (oa (a 27) cI 516 sa)]) (w1 := [(om k0 (va_up a 28 bb1) (upd I0 41 (nI ((w + 1) + 1))) J0), (oa bb1 cI (4096 * cc1) sv1)]) hP hD [14, 15] [0, 1, 2, 3, 4, 5, 6, 7, 8, 9, 10, 11, 12, 13] rfl rfl (by decide) (by decide) hk1 hFc hP1 hD1
        clear hk1 hPc hDc hFc hP1 hD1 ht
        generalize H1 = H at hP hS ⊢
        have hP : va_P (dC, dI) classes [(oa (a 1) cI 201 kd), (oa (a 5) cI 201 st), (oa (a 7) cI 201 gb), (oa (a 10) cI 201 it), (oa (a 8) cI 201 pa), (oa (a 9) cI 201 pb), (oa (a 2) cI 201 rk), (oa (a 3) cI 201 wd), (oa (a 4) cI 201 tw), (oa (a 6) cZ 201 tn), (oa (a 11) cI 201 mn), (oa (a 12) cI 8040 cx), (oa (a 13) cI 8040 cy), (oa (a 27) cI 516 sa), (om k0 (va_up a 28 bb1) (upd I0 41 (nI ((w + 1) + 1))) J0), (oa bb1 cI (4096 * cc1) sv1)] H := hP
        have hD : va_D A [(oa (a 1) cI 201 kd), (oa (a 5) cI 201 st), (oa (a 7) cI 201 gb), (oa (a 10) cI 201 it), (oa (a 8) cI 201 pa), (oa (a 9) cI 201 pb), (oa (a 2) cI 201 rk), (oa (a 3) cI 201 wd), (oa (a 4) cI 201 tw), (oa (a 6) cZ 201 tn), (oa (a 11) cI 201 mn), (oa (a 12) cI 8040 cx), (oa (a 13) cI 8040 cy), (oa (a 27) cI 516 sa), (om k0 (va_up a 28 bb1) (upd I0 41 (nI ((w + 1) + 1))) J0), (oa bb1 cI (4096 * cc1) sv1)] := hD
        have hV_1 := KI_s hc1 hV_0 (by omega) hwv_1 hwk_1 hwo_1 hcc_1
        have hU_1 := hV_1.1
        refine lv_aload_n hx hb dX11_keep_48 rfl (lv_at hl 1 rfl) ?_
        refine lv_aload_n hx hb dX11_keep_49 rfl (lv_at hl 1 rfl) ?_
        refine va_get (D := (dC, dI)) (ci := 9) (v := .ref (a 7)) (C := RX11) (T := TX11) (N := 55) hx hb hts inX11 hown hK hP 14 rfl rfl 7 (by decide) (hts _ mw_1166) (fun _ h9 => h9) rfl dX11_keep_50 ?_
        refine lv_iload_n hx hb dX11_keep_53 rfl (lv_at hl 0 rfl) ?_
        refine z_iald hx hb hK hP 2 0 rfl rfl (e := q) rfl (by omega) (by omega) dX11_keep_54 ?_
        have hd_2 := dc_pw hV_1.1.1 (w := w + 1 + 1) (by omega)
        have hPc := hP.sub (ws' := [(om k0 (va_up a 28 bb1) (upd I0 41 (nI ((w + 1) + 1))) J0), (oa bb1 cI (4096 * cc1) sv1)]) [14, 15] rfl
        have hDc := hD.sub (ws' := [(om k0 (va_up a 28 bb1) (upd I0 41 (nI ((w + 1) + 1))) J0), (oa bb1 cI (4096 * cc1) sv1)]) [14, 15] (by decide) rfl
        have hFc := va_free (wc := [(om k0 (va_up a 28 bb1) (upd I0 41 (nI ((w + 1) + 1))) J0), (oa bb1 cI (4096 * cc1) sv1)]) hD hS hA [14, 15] rfl
        refine zcall (st1 := []) (va_runV (As := [.int (gb q)]) (rest := []) ⟨hx, hb, hml, hown, hts⟩ (k_M_write l dC dI cI cZ cF H.size k0 (va_up a 28 bb1) (upd I0 41 (nI ((w + 1) + 1))) J0 ((w + 1) + 1) cc1 (gb q) sv1 (rfl) (by omega) (by omega) (by omega)) (cwV 1 hts (zz_gV mw_1427 mw_1429 mw_51 mw_110 mc_yX11_write) rfl rfl rfl (by decide +kernel) ⟨Nat.le_of_ble_eq_true rfl, Nat.le_of_ble_eq_true rfl⟩) (zPV2 (q0 := 0) (ci := 9) hPc hDc hK hXN rfl rfl) rfl rfl hl.1 rfl (lv_room (Nat.le_of_ble_eq_true rfl)) dX11_keep_55 ⟨show (((c1 - cp + (dc c1 w - c1)) + (dc cc0 (w + 1) - cc0)) + (dc cc1 ((w + 1) + 1) - cc1)) ≤ cE - cp by omega, show (((8192 * (c1 - cp) + (8192 * (dc c1 w - c1))) + (8192 * (dc cc0 (w + 1) - cc0))) + (8192 * (dc cc1 ((w + 1) + 1) - cc1))) ≤ 8192 * (cE - cp) by omega⟩) hS hFc hFc rfl (fun t H1 locs ht hB hk1 hS => ?_)
        obtain ⟨bb2, cc2, sv2, hcc_2, hwv_2, hwk_2, hwo_2, hP1, hD1⟩ := hB
        rw [ht] at hP1
        obtain ⟨hP, hD⟩ := va_join (wr := [(oa (a 1) cI 201 kd), (oa (a 5) cI 201 st), (oa (a 7) cI 201 gb), (oa (a 10) cI 201 it), (oa (a 8) cI 201 pa), (oa (a 9) cI 201 pb), (oa (a 2) cI 201 rk), (oa (a 3) cI 201 wd), (oa (a 4) cI 201 tw), (oa (a 6) cZ 201 tn), (oa (a 11) cI 201 mn), (oa (a 12) cI 8040 cx), (oa (a 13) cI 8040 cy), (oa (a 27) cI 516 sa)]) (w1 := [(om k0 (va_up a 28 bb2) (upd I0 41 (nI (((w + 1) + 1) + 1))) J0), (oa bb2 cI (4096 * cc2) sv2)]) hP hD [14, 15] [0, 1, 2, 3, 4, 5, 6, 7, 8, 9, 10, 11, 12, 13] rfl rfl (by decide) (by decide) hk1 hFc hP1 hD1
        clear hk1 hPc hDc hFc hP1 hD1 ht
        generalize H1 = H at hP hS ⊢
        have hP : va_P (dC, dI) classes [(oa (a 1) cI 201 kd), (oa (a 5) cI 201 st), (oa (a 7) cI 201 gb), (oa (a 10) cI 201 it), (oa (a 8) cI 201 pa), (oa (a 9) cI 201 pb), (oa (a 2) cI 201 rk), (oa (a 3) cI 201 wd), (oa (a 4) cI 201 tw), (oa (a 6) cZ 201 tn), (oa (a 11) cI 201 mn), (oa (a 12) cI 8040 cx), (oa (a 13) cI 8040 cy), (oa (a 27) cI 516 sa), (om k0 (va_up a 28 bb2) (upd I0 41 (nI (((w + 1) + 1) + 1))) J0), (oa bb2 cI (4096 * cc2) sv2)] H := hP
        have hD : va_D A [(oa (a 1) cI 201 kd), (oa (a 5) cI 201 st), (oa (a 7) cI 201 gb), (oa (a 10) cI 201 it), (oa (a 8) cI 201 pa), (oa (a 9) cI 201 pb), (oa (a 2) cI 201 rk), (oa (a 3) cI 201 wd), (oa (a 4) cI 201 tw), (oa (a 6) cZ 201 tn), (oa (a 11) cI 201 mn), (oa (a 12) cI 8040 cx), (oa (a 13) cI 8040 cy), (oa (a 27) cI 516 sa), (om k0 (va_up a 28 bb2) (upd I0 41 (nI (((w + 1) + 1) + 1))) J0), (oa bb2 cI (4096 * cc2) sv2)] := hD
        have hV_2 := KI_s hc1 hV_1 (by omega) hwv_2 hwk_2 hwo_2 hcc_2
        have hU_2 := hV_2.1
        refine lv_aload_n hx hb dX11_keep_58 rfl (lv_at hl 1 rfl) ?_
        refine lv_aload_n hx hb dX11_keep_59 rfl (lv_at hl 1 rfl) ?_
        refine va_get (D := (dC, dI)) (ci := 9) (v := .ref (a 10)) (C := RX11) (T := TX11) (N := 55) hx hb hts inX11 hown hK hP 14 rfl rfl 10 (by decide) (hts _ mw_1169) (fun _ h9 => h9) rfl dX11_keep_60 ?_
        refine lv_iload_n hx hb dX11_keep_63 rfl (lv_at hl 0 rfl) ?_
        refine z_iald hx hb hK hP 3 0 rfl rfl (e := q) rfl (by omega) (by omega) dX11_keep_64 ?_
        have hd_3 := dc_pw hV_2.1.1 (w := w + 1 + 1 + 1) (by omega)
        have hPc := hP.sub (ws' := [(om k0 (va_up a 28 bb2) (upd I0 41 (nI (((w + 1) + 1) + 1))) J0), (oa bb2 cI (4096 * cc2) sv2)]) [14, 15] rfl
        have hDc := hD.sub (ws' := [(om k0 (va_up a 28 bb2) (upd I0 41 (nI (((w + 1) + 1) + 1))) J0), (oa bb2 cI (4096 * cc2) sv2)]) [14, 15] (by decide) rfl
        have hFc := va_free (wc := [(om k0 (va_up a 28 bb2) (upd I0 41 (nI (((w + 1) + 1) + 1))) J0), (oa bb2 cI (4096 * cc2) sv2)]) hD hS hA [14, 15] rfl
        refine zcall (st1 := []) (va_runV (As := [.int (it q)]) (rest := []) ⟨hx, hb, hml, hown, hts⟩ (k_M_write l dC dI cI cZ cF H.size k0 (va_up a 28 bb2) (upd I0 41 (nI (((w + 1) + 1) + 1))) J0 (((w + 1) + 1) + 1) cc2 (it q) sv2 (rfl) (by omega) (by omega) (by omega)) (cwV 1 hts (zz_gV mw_1427 mw_1429 mw_51 mw_110 mc_yX11_write) rfl rfl rfl (by decide +kernel) ⟨Nat.le_of_ble_eq_true rfl, Nat.le_of_ble_eq_true rfl⟩) (zPV2 (q0 := 0) (ci := 9) hPc hDc hK hXN rfl rfl) rfl rfl hl.1 rfl (lv_room (Nat.le_of_ble_eq_true rfl)) dX11_keep_65 ⟨show ((((c1 - cp + (dc c1 w - c1)) + (dc cc0 (w + 1) - cc0)) + (dc cc1 ((w + 1) + 1) - cc1)) + (dc cc2 (((w + 1) + 1) + 1) - cc2)) ≤ cE - cp by omega, show ((((8192 * (c1 - cp) + (8192 * (dc c1 w - c1))) + (8192 * (dc cc0 (w + 1) - cc0))) + (8192 * (dc cc1 ((w + 1) + 1) - cc1))) + (8192 * (dc cc2 (((w + 1) + 1) + 1) - cc2))) ≤ 8192 * (cE - cp) by omega⟩) hS hFc hFc rfl (fun t H1 locs ht hB hk1 hS => ?_)
        obtain ⟨bb3, cc3, sv3, hcc_3, hwv_3, hwk_3, hwo_3, hP1, hD1⟩ := hB
        rw [ht] at hP1
        obtain ⟨hP, hD⟩ := va_join (wr := [(oa (a 1) cI 201 kd), (oa (a 5) cI 201 st), (oa (a 7) cI 201 gb), (oa (a 10) cI 201 it), (oa (a 8) cI 201 pa), (oa (a 9) cI 201 pb), (oa (a 2) cI 201 rk), (oa (a 3) cI 201 wd), (oa (a 4) cI 201 tw), (oa (a 6) cZ 201 tn), (oa (a 11) cI 201 mn), (oa (a 12) cI 8040 cx), (oa (a 13) cI 8040 cy), (oa (a 27) cI 516 sa)]) (w1 := [(om k0 (va_up a 28 bb3) (upd I0 41 (nI ((((w + 1) + 1) + 1) + 1))) J0), (oa bb3 cI (4096 * cc3) sv3)]) hP hD [14, 15] [0, 1, 2, 3, 4, 5, 6, 7, 8, 9, 10, 11, 12, 13] rfl rfl (by decide) (by decide) hk1 hFc hP1 hD1
        clear hk1 hPc hDc hFc hP1 hD1 ht
        generalize H1 = H at hP hS ⊢
        have hP : va_P (dC, dI) classes [(oa (a 1) cI 201 kd), (oa (a 5) cI 201 st), (oa (a 7) cI 201 gb), (oa (a 10) cI 201 it), (oa (a 8) cI 201 pa), (oa (a 9) cI 201 pb), (oa (a 2) cI 201 rk), (oa (a 3) cI 201 wd), (oa (a 4) cI 201 tw), (oa (a 6) cZ 201 tn), (oa (a 11) cI 201 mn), (oa (a 12) cI 8040 cx), (oa (a 13) cI 8040 cy), (oa (a 27) cI 516 sa), (om k0 (va_up a 28 bb3) (upd I0 41 (nI ((((w + 1) + 1) + 1) + 1))) J0), (oa bb3 cI (4096 * cc3) sv3)] H := hP
        have hD : va_D A [(oa (a 1) cI 201 kd), (oa (a 5) cI 201 st), (oa (a 7) cI 201 gb), (oa (a 10) cI 201 it), (oa (a 8) cI 201 pa), (oa (a 9) cI 201 pb), (oa (a 2) cI 201 rk), (oa (a 3) cI 201 wd), (oa (a 4) cI 201 tw), (oa (a 6) cZ 201 tn), (oa (a 11) cI 201 mn), (oa (a 12) cI 8040 cx), (oa (a 13) cI 8040 cy), (oa (a 27) cI 516 sa), (om k0 (va_up a 28 bb3) (upd I0 41 (nI ((((w + 1) + 1) + 1) + 1))) J0), (oa bb3 cI (4096 * cc3) sv3)] := hD
        have hV_3 := KI_s hc1 hV_2 (by omega) hwv_3 hwk_3 hwo_3 hcc_3
        have hU_3 := hV_3.1
        refine lv_aload_n hx hb dX11_keep_68 rfl (lv_at hl 1 rfl) ?_
        refine lv_aload_n hx hb dX11_keep_69 rfl (lv_at hl 1 rfl) ?_
        refine va_get (D := (dC, dI)) (ci := 9) (v := .ref (a 8)) (C := RX11) (T := TX11) (N := 55) hx hb hts inX11 hown hK hP 14 rfl rfl 8 (by decide) (hts _ mw_1167) (fun _ h9 => h9) rfl dX11_keep_70 ?_
        refine lv_iload_n hx hb dX11_keep_73 rfl (lv_at hl 0 rfl) ?_
        refine z_iald hx hb hK hP 4 0 rfl rfl (e := q) rfl (by omega) (by omega) dX11_keep_74 ?_
        have hd_4 := dc_pw hV_3.1.1 (w := w + 1 + 1 + 1 + 1) (by omega)
        have hPc := hP.sub (ws' := [(om k0 (va_up a 28 bb3) (upd I0 41 (nI ((((w + 1) + 1) + 1) + 1))) J0), (oa bb3 cI (4096 * cc3) sv3)]) [14, 15] rfl
        have hDc := hD.sub (ws' := [(om k0 (va_up a 28 bb3) (upd I0 41 (nI ((((w + 1) + 1) + 1) + 1))) J0), (oa bb3 cI (4096 * cc3) sv3)]) [14, 15] (by decide) rfl
        have hFc := va_free (wc := [(om k0 (va_up a 28 bb3) (upd I0 41 (nI ((((w + 1) + 1) + 1) + 1))) J0), (oa bb3 cI (4096 * cc3) sv3)]) hD hS hA [14, 15] rfl
        refine zcall (st1 := []) (va_runV (As := [.int (pa q)]) (rest := []) ⟨hx, hb, hml, hown, hts⟩ (k_M_write l dC dI cI cZ cF H.size k0 (va_up a 28 bb3) (upd I0 41 (nI ((((w + 1) + 1) + 1) + 1))) J0 ((((w + 1) + 1) + 1) + 1) cc3 (pa q) sv3 (rfl) (by omega) (by omega) (by omega)) (cwV 1 hts (zz_gV mw_1427 mw_1429 mw_51 mw_110 mc_yX11_write) rfl rfl rfl (by decide +kernel) ⟨Nat.le_of_ble_eq_true rfl, Nat.le_of_ble_eq_true rfl⟩) (zPV2 (q0 := 0) (ci := 9) hPc hDc hK hXN rfl rfl) rfl rfl hl.1 rfl (lv_room (Nat.le_of_ble_eq_true rfl)) dX11_keep_75 ⟨show (((((c1 - cp + (dc c1 w - c1)) + (dc cc0 (w + 1) - cc0)) + (dc cc1 ((w + 1) + 1) - cc1)) + (dc cc2 (((w + 1) + 1) + 1) - cc2)) + (dc cc3 ((((w + 1) + 1) + 1) + 1) - cc3)) ≤ cE - cp by omega, show (((((8192 * (c1 - cp) + (8192 * (dc c1 w - c1))) + (8192 * (dc cc0 (w + 1) - cc0))) + (8192 * (dc cc1 ((w + 1) + 1) - cc1))) + (8192 * (dc cc2 (((w + 1) + 1) + 1) - cc2))) + (8192 * (dc cc3 ((((w + 1) + 1) + 1) + 1) - cc3))) ≤ 8192 * (cE - cp) by omega⟩) hS hFc hFc rfl (fun t H1 locs ht hB hk1 hS => ?_)
        obtain ⟨bb4, cc4, sv4, hcc_4, hwv_4, hwk_4, hwo_4, hP1, hD1⟩ := hB
        rw [ht] at hP1
        obtain ⟨hP, hD⟩ := va_join (wr := [(oa (a 1) cI 201 kd), (oa (a 5) cI 201 st), (oa (a 7) cI 201 gb), (oa (a 10) cI 201 it), (oa (a 8) cI 201 pa), (oa (a 9) cI 201 pb), (oa (a 2) cI 201 rk), (oa (a 3) cI 201 wd), (oa (a 4) cI 201 tw), (oa (a 6) cZ 201 tn), (oa (a 11) cI 201 mn), (oa (a 12) cI 8040 cx), (oa (a 13) cI 8040 cy), (oa (a 27) cI 516 sa)]) (w1 := [(om k0 (va_up a 28 bb4) (upd I0 41 (nI (((((w + 1) + 1) + 1) + 1) + 1))) J0), (oa bb4 cI (4096 * cc4) sv4)]) hP hD [14, 15] [0, 1, 2, 3, 4, 5, 6, 7, 8, 9, 10, 11, 12, 13] rfl rfl (by decide) (by decide) hk1 hFc hP1 hD1
        clear hk1 hPc hDc hFc hP1 hD1 ht
        generalize H1 = H at hP hS ⊢
        have hP : va_P (dC, dI) classes [(oa (a 1) cI 201 kd), (oa (a 5) cI 201 st), (oa (a 7) cI 201 gb), (oa (a 10) cI 201 it), (oa (a 8) cI 201 pa), (oa (a 9) cI 201 pb), (oa (a 2) cI 201 rk), (oa (a 3) cI 201 wd), (oa (a 4) cI 201 tw), (oa (a 6) cZ 201 tn), (oa (a 11) cI 201 mn), (oa (a 12) cI 8040 cx), (oa (a 13) cI 8040 cy), (oa (a 27) cI 516 sa), (om k0 (va_up a 28 bb4) (upd I0 41 (nI (((((w + 1) + 1) + 1) + 1) + 1))) J0), (oa bb4 cI (4096 * cc4) sv4)] H := hP
        have hD : va_D A [(oa (a 1) cI 201 kd), (oa (a 5) cI 201 st), (oa (a 7) cI 201 gb), (oa (a 10) cI 201 it), (oa (a 8) cI 201 pa), (oa (a 9) cI 201 pb), (oa (a 2) cI 201 rk), (oa (a 3) cI 201 wd), (oa (a 4) cI 201 tw), (oa (a 6) cZ 201 tn), (oa (a 11) cI 201 mn), (oa (a 12) cI 8040 cx), (oa (a 13) cI 8040 cy), (oa (a 27) cI 516 sa), (om k0 (va_up a 28 bb4) (upd I0 41 (nI (((((w + 1) + 1) + 1) + 1) + 1))) J0), (oa bb4 cI (4096 * cc4) sv4)] := hD
        have hV_4 := KI_s hc1 hV_3 (by omega) hwv_4 hwk_4 hwo_4 hcc_4
        have hU_4 := hV_4.1
        refine lv_aload_n hx hb dX11_keep_78 rfl (lv_at hl 1 rfl) ?_
        refine lv_aload_n hx hb dX11_keep_79 rfl (lv_at hl 1 rfl) ?_
        refine va_get (D := (dC, dI)) (ci := 9) (v := .ref (a 9)) (C := RX11) (T := TX11) (N := 55) hx hb hts inX11 hown hK hP 14 rfl rfl 9 (by decide) (hts _ mw_1168) (fun _ h9 => h9) rfl dX11_keep_80 ?_
        refine lv_iload_n hx hb dX11_keep_83 rfl (lv_at hl 0 rfl) ?_
        refine z_iald hx hb hK hP 5 0 rfl rfl (e := q) rfl (by omega) (by omega) dX11_keep_84 ?_
        have hd_5 := dc_pw hV_4.1.1 (w := w + 1 + 1 + 1 + 1 + 1) (by omega)
        have hPc := hP.sub (ws' := [(om k0 (va_up a 28 bb4) (upd I0 41 (nI (((((w + 1) + 1) + 1) + 1) + 1))) J0), (oa bb4 cI (4096 * cc4) sv4)]) [14, 15] rfl
        have hDc := hD.sub (ws' := [(om k0 (va_up a 28 bb4) (upd I0 41 (nI (((((w + 1) + 1) + 1) + 1) + 1))) J0), (oa bb4 cI (4096 * cc4) sv4)]) [14, 15] (by decide) rfl
        have hFc := va_free (wc := [(om k0 (va_up a 28 bb4) (upd I0 41 (nI (((((w + 1) + 1) + 1) + 1) + 1))) J0), (oa bb4 cI (4096 * cc4) sv4)]) hD hS hA [14, 15] rfl
        refine zcall (st1 := []) (va_runV (As := [.int (pb q)]) (rest := []) ⟨hx, hb, hml, hown, hts⟩ (k_M_write l dC dI cI cZ cF H.size k0 (va_up a 28 bb4) (upd I0 41 (nI (((((w + 1) + 1) + 1) + 1) + 1))) J0 (((((w + 1) + 1) + 1) + 1) + 1) cc4 (pb q) sv4 (rfl) (by omega) (by omega) (by omega)) (cwV 1 hts (zz_gV mw_1427 mw_1429 mw_51 mw_110 mc_yX11_write) rfl rfl rfl (by decide +kernel) ⟨Nat.le_of_ble_eq_true rfl, Nat.le_of_ble_eq_true rfl⟩) (zPV2 (q0 := 0) (ci := 9) hPc hDc hK hXN rfl rfl) rfl rfl hl.1 rfl (lv_room (Nat.le_of_ble_eq_true rfl)) dX11_keep_85 ⟨show ((((((c1 - cp + (dc c1 w - c1)) + (dc cc0 (w + 1) - cc0)) + (dc cc1 ((w + 1) + 1) - cc1)) + (dc cc2 (((w + 1) + 1) + 1) - cc2)) + (dc cc3 ((((w + 1) + 1) + 1) + 1) - cc3)) + (dc cc4 (((((w + 1) + 1) + 1) + 1) + 1) - cc4)) ≤ cE - cp by omega, show ((((((8192 * (c1 - cp) + (8192 * (dc c1 w - c1))) + (8192 * (dc cc0 (w + 1) - cc0))) + (8192 * (dc cc1 ((w + 1) + 1) - cc1))) + (8192 * (dc cc2 (((w + 1) + 1) + 1) - cc2))) + (8192 * (dc cc3 ((((w + 1) + 1) + 1) + 1) - cc3))) + (8192 * (dc cc4 (((((w + 1) + 1) + 1) + 1) + 1) - cc4))) ≤ 8192 * (cE - cp) by omega⟩) hS hFc hFc rfl (fun t H1 locs ht hB hk1 hS => ?_)
        obtain ⟨bb5, cc5, sv5, hcc_5, hwv_5, hwk_5, hwo_5, hP1, hD1⟩ := hB
        rw [ht] at hP1
        obtain ⟨hP, hD⟩ := va_join (wr := [(oa (a 1) cI 201 kd), (oa (a 5) cI 201 st), (oa (a 7) cI 201 gb), (oa (a 10) cI 201 it), (oa (a 8) cI 201 pa), (oa (a 9) cI 201 pb), (oa (a 2) cI 201 rk), (oa (a 3) cI 201 wd), (oa (a 4) cI 201 tw), (oa (a 6) cZ 201 tn), (oa (a 11) cI 201 mn), (oa (a 12) cI 8040 cx), (oa (a 13) cI 8040 cy), (oa (a 27) cI 516 sa)]) (w1 := [(om k0 (va_up a 28 bb5) (upd I0 41 (nI ((((((w + 1) + 1) + 1) + 1) + 1) + 1))) J0), (oa bb5 cI (4096 * cc5) sv5)]) hP hD [14, 15] [0, 1, 2, 3, 4, 5, 6, 7, 8, 9, 10, 11, 12, 13] rfl rfl (by decide) (by decide) hk1 hFc hP1 hD1
        clear hk1 hPc hDc hFc hP1 hD1 ht
        generalize H1 = H at hP hS ⊢
        have hP : va_P (dC, dI) classes [(oa (a 1) cI 201 kd), (oa (a 5) cI 201 st), (oa (a 7) cI 201 gb), (oa (a 10) cI 201 it), (oa (a 8) cI 201 pa), (oa (a 9) cI 201 pb), (oa (a 2) cI 201 rk), (oa (a 3) cI 201 wd), (oa (a 4) cI 201 tw), (oa (a 6) cZ 201 tn), (oa (a 11) cI 201 mn), (oa (a 12) cI 8040 cx), (oa (a 13) cI 8040 cy), (oa (a 27) cI 516 sa), (om k0 (va_up a 28 bb5) (upd I0 41 (nI ((((((w + 1) + 1) + 1) + 1) + 1) + 1))) J0), (oa bb5 cI (4096 * cc5) sv5)] H := hP
        have hD : va_D A [(oa (a 1) cI 201 kd), (oa (a 5) cI 201 st), (oa (a 7) cI 201 gb), (oa (a 10) cI 201 it), (oa (a 8) cI 201 pa), (oa (a 9) cI 201 pb), (oa (a 2) cI 201 rk), (oa (a 3) cI 201 wd), (oa (a 4) cI 201 tw), (oa (a 6) cZ 201 tn), (oa (a 11) cI 201 mn), (oa (a 12) cI 8040 cx), (oa (a 13) cI 8040 cy), (oa (a 27) cI 516 sa), (om k0 (va_up a 28 bb5) (upd I0 41 (nI ((((((w + 1) + 1) + 1) + 1) + 1) + 1))) J0), (oa bb5 cI (4096 * cc5) sv5)] := hD
        have hV_5 := KI_s hc1 hV_4 (by omega) hwv_5 hwk_5 hwo_5 hcc_5
        have hU_5 := hV_5.1
        refine lv_aload_n hx hb dX11_keep_88 rfl (lv_at hl 1 rfl) ?_
        refine lv_aload_n hx hb dX11_keep_89 rfl (lv_at hl 1 rfl) ?_
        refine va_get (D := (dC, dI)) (ci := 9) (v := .ref (a 2)) (C := RX11) (T := TX11) (N := 55) hx hb hts inX11 hown hK hP 14 rfl rfl 2 (by decide) (hts _ mw_1161) (fun _ h9 => h9) rfl dX11_keep_90 ?_
        refine lv_iload_n hx hb dX11_keep_93 rfl (lv_at hl 0 rfl) ?_
        refine z_iald hx hb hK hP 6 0 rfl rfl (e := q) rfl (by omega) (by omega) dX11_keep_94 ?_
        have hd_6 := dc_pw hV_5.1.1 (w := w + 1 + 1 + 1 + 1 + 1 + 1) (by omega)
        have hPc := hP.sub (ws' := [(om k0 (va_up a 28 bb5) (upd I0 41 (nI ((((((w + 1) + 1) + 1) + 1) + 1) + 1))) J0), (oa bb5 cI (4096 * cc5) sv5)]) [14, 15] rfl
        have hDc := hD.sub (ws' := [(om k0 (va_up a 28 bb5) (upd I0 41 (nI ((((((w + 1) + 1) + 1) + 1) + 1) + 1))) J0), (oa bb5 cI (4096 * cc5) sv5)]) [14, 15] (by decide) rfl
        have hFc := va_free (wc := [(om k0 (va_up a 28 bb5) (upd I0 41 (nI ((((((w + 1) + 1) + 1) + 1) + 1) + 1))) J0), (oa bb5 cI (4096 * cc5) sv5)]) hD hS hA [14, 15] rfl
        refine zcall (st1 := []) (va_runV (As := [.int (rk q)]) (rest := []) ⟨hx, hb, hml, hown, hts⟩ (k_M_write l dC dI cI cZ cF H.size k0 (va_up a 28 bb5) (upd I0 41 (nI ((((((w + 1) + 1) + 1) + 1) + 1) + 1))) J0 ((((((w + 1) + 1) + 1) + 1) + 1) + 1) cc5 (rk q) sv5 (rfl) (by omega) (by omega) (by omega)) (cwV 1 hts (zz_gV mw_1427 mw_1429 mw_51 mw_110 mc_yX11_write) rfl rfl rfl (by decide +kernel) ⟨Nat.le_of_ble_eq_true rfl, Nat.le_of_ble_eq_true rfl⟩) (zPV2 (q0 := 0) (ci := 9) hPc hDc hK hXN rfl rfl) rfl rfl hl.1 rfl (lv_room (Nat.le_of_ble_eq_true rfl)) dX11_keep_95 ⟨show (((((((c1 - cp + (dc c1 w - c1)) + (dc cc0 (w + 1) - cc0)) + (dc cc1 ((w + 1) + 1) - cc1)) + (dc cc2 (((w + 1) + 1) + 1) - cc2)) + (dc cc3 ((((w + 1) + 1) + 1) + 1) - cc3)) + (dc cc4 (((((w + 1) + 1) + 1) + 1) + 1) - cc4)) + (dc cc5 ((((((w + 1) + 1) + 1) + 1) + 1) + 1) - cc5)) ≤ cE - cp by omega, show (((((((8192 * (c1 - cp) + (8192 * (dc c1 w - c1))) + (8192 * (dc cc0 (w + 1) - cc0))) + (8192 * (dc cc1 ((w + 1) + 1) - cc1))) + (8192 * (dc cc2 (((w + 1) + 1) + 1) - cc2))) + (8192 * (dc cc3 ((((w + 1) + 1) + 1) + 1) - cc3))) + (8192 * (dc cc4 (((((w + 1) + 1) + 1) + 1) + 1) - cc4))) + (8192 * (dc cc5 ((((((w + 1) + 1) + 1) + 1) + 1) + 1) - cc5))) ≤ 8192 * (cE - cp) by omega⟩) hS hFc hFc rfl (fun t H1 locs ht hB hk1 hS => ?_)
        obtain ⟨bb6, cc6, sv6, hcc_6, hwv_6, hwk_6, hwo_6, hP1, hD1⟩ := hB
        rw [ht] at hP1
        obtain ⟨hP, hD⟩ := va_join (wr := [(oa (a 1) cI 201 kd), (oa (a 5) cI 201 st), (oa (a 7) cI 201 gb), (oa (a 10) cI 201 it), (oa (a 8) cI 201 pa), (oa (a 9) cI 201 pb), (oa (a 2) cI 201 rk), (oa (a 3) cI 201 wd), (oa (a 4) cI 201 tw), (oa (a 6) cZ 201 tn), (oa (a 11) cI 201 mn), (oa (a 12) cI 8040 cx), (oa (a 13) cI 8040 cy), (oa (a 27) cI 516 sa)]) (w1 := [(om k0 (va_up a 28 bb6) (upd I0 41 (nI (((((((w + 1) + 1) + 1) + 1) + 1) + 1) + 1))) J0), (oa bb6 cI (4096 * cc6) sv6)]) hP hD [14, 15] [0, 1, 2, 3, 4, 5, 6, 7, 8, 9, 10, 11, 12, 13] rfl rfl (by decide) (by decide) hk1 hFc hP1 hD1
        clear hk1 hPc hDc hFc hP1 hD1 ht
        generalize H1 = H at hP hS ⊢
        have hP : va_P (dC, dI) classes [(oa (a 1) cI 201 kd), (oa (a 5) cI 201 st), (oa (a 7) cI 201 gb), (oa (a 10) cI 201 it), (oa (a 8) cI 201 pa), (oa (a 9) cI 201 pb), (oa (a 2) cI 201 rk), (oa (a 3) cI 201 wd), (oa (a 4) cI 201 tw), (oa (a 6) cZ 201 tn), (oa (a 11) cI 201 mn), (oa (a 12) cI 8040 cx), (oa (a 13) cI 8040 cy), (oa (a 27) cI 516 sa), (om k0 (va_up a 28 bb6) (upd I0 41 (nI (((((((w + 1) + 1) + 1) + 1) + 1) + 1) + 1))) J0), (oa bb6 cI (4096 * cc6) sv6)] H := hP
        have hD : va_D A [(oa (a 1) cI 201 kd), (oa (a 5) cI 201 st), (oa (a 7) cI 201 gb), (oa (a 10) cI 201 it), (oa (a 8) cI 201 pa), (oa (a 9) cI 201 pb), (oa (a 2) cI 201 rk), (oa (a 3) cI 201 wd), (oa (a 4) cI 201 tw), (oa (a 6) cZ 201 tn), (oa (a 11) cI 201 mn), (oa (a 12) cI 8040 cx), (oa (a 13) cI 8040 cy), (oa (a 27) cI 516 sa), (om k0 (va_up a 28 bb6) (upd I0 41 (nI (((((((w + 1) + 1) + 1) + 1) + 1) + 1) + 1))) J0), (oa bb6 cI (4096 * cc6) sv6)] := hD
        have hV_6 := KI_s hc1 hV_5 (by omega) hwv_6 hwk_6 hwo_6 hcc_6
        have hU_6 := hV_6.1
        refine lv_aload_n hx hb dX11_keep_98 rfl (lv_at hl 1 rfl) ?_
        refine lv_aload_n hx hb dX11_keep_99 rfl (lv_at hl 1 rfl) ?_
        refine va_get (D := (dC, dI)) (ci := 9) (v := .ref (a 3)) (C := RX11) (T := TX11) (N := 55) hx hb hts inX11 hown hK hP 14 rfl rfl 3 (by decide) (hts _ mw_1162) (fun _ h9 => h9) rfl dX11_keep_100 ?_
        refine lv_iload_n hx hb dX11_keep_103 rfl (lv_at hl 0 rfl) ?_
        refine z_iald hx hb hK hP 7 0 rfl rfl (e := q) rfl (by omega) (by omega) dX11_keep_104 ?_
        have hd_7 := dc_pw hV_6.1.1 (w := w + 1 + 1 + 1 + 1 + 1 + 1 + 1) (by omega)
        have hPc := hP.sub (ws' := [(om k0 (va_up a 28 bb6) (upd I0 41 (nI (((((((w + 1) + 1) + 1) + 1) + 1) + 1) + 1))) J0), (oa bb6 cI (4096 * cc6) sv6)]) [14, 15] rfl
        have hDc := hD.sub (ws' := [(om k0 (va_up a 28 bb6) (upd I0 41 (nI (((((((w + 1) + 1) + 1) + 1) + 1) + 1) + 1))) J0), (oa bb6 cI (4096 * cc6) sv6)]) [14, 15] (by decide) rfl
        have hFc := va_free (wc := [(om k0 (va_up a 28 bb6) (upd I0 41 (nI (((((((w + 1) + 1) + 1) + 1) + 1) + 1) + 1))) J0), (oa bb6 cI (4096 * cc6) sv6)]) hD hS hA [14, 15] rfl
        refine zcall (st1 := []) (va_runV (As := [.int (wd q)]) (rest := []) ⟨hx, hb, hml, hown, hts⟩ (k_M_write l dC dI cI cZ cF H.size k0 (va_up a 28 bb6) (upd I0 41 (nI (((((((w + 1) + 1) + 1) + 1) + 1) + 1) + 1))) J0 (((((((w + 1) + 1) + 1) + 1) + 1) + 1) + 1) cc6 (wd q) sv6 (rfl) (by omega) (by omega) (by omega)) (cwV 1 hts (zz_gV mw_1427 mw_1429 mw_51 mw_110 mc_yX11_write) rfl rfl rfl (by decide +kernel) ⟨Nat.le_of_ble_eq_true rfl, Nat.le_of_ble_eq_true rfl⟩) (zPV2 (q0 := 0) (ci := 9) hPc hDc hK hXN rfl rfl) rfl rfl hl.1 rfl (lv_room (Nat.le_of_ble_eq_true rfl)) dX11_keep_105 ⟨show ((((((((c1 - cp + (dc c1 w - c1)) + (dc cc0 (w + 1) - cc0)) + (dc cc1 ((w + 1) + 1) - cc1)) + (dc cc2 (((w + 1) + 1) + 1) - cc2)) + (dc cc3 ((((w + 1) + 1) + 1) + 1) - cc3)) + (dc cc4 (((((w + 1) + 1) + 1) + 1) + 1) - cc4)) + (dc cc5 ((((((w + 1) + 1) + 1) + 1) + 1) + 1) - cc5)) + (dc cc6 (((((((w + 1) + 1) + 1) + 1) + 1) + 1) + 1) - cc6)) ≤ cE - cp by omega, show ((((((((8192 * (c1 - cp) + (8192 * (dc c1 w - c1))) + (8192 * (dc cc0 (w + 1) - cc0))) + (8192 * (dc cc1 ((w + 1) + 1) - cc1))) + (8192 * (dc cc2 (((w + 1) + 1) + 1) - cc2))) + (8192 * (dc cc3 ((((w + 1) + 1) + 1) + 1) - cc3))) + (8192 * (dc cc4 (((((w + 1) + 1) + 1) + 1) + 1) - cc4))) + (8192 * (dc cc5 ((((((w + 1) + 1) + 1) + 1) + 1) + 1) - cc5))) + (8192 * (dc cc6 (((((((w + 1) + 1) + 1) + 1) + 1) + 1) + 1) - cc6))) ≤ 8192 * (cE - cp) by omega⟩) hS hFc hFc rfl (fun t H1 locs ht hB hk1 hS => ?_)
        obtain ⟨bb7, cc7, sv7, hcc_7, hwv_7, hwk_7, hwo_7, hP1, hD1⟩ := hB
        rw [ht] at hP1
        obtain ⟨hP, hD⟩ := va_join (wr := [(oa (a 1) cI 201 kd), (oa (a 5) cI 201 st), (oa (a 7) cI 201 gb), (oa (a 10) cI 201 it), (oa (a 8) cI 201 pa), (oa (a 9) cI 201 pb), (oa (a 2) cI 201 rk), (oa (a 3) cI 201 wd), (oa (a 4) cI 201 tw), (oa (a 6) cZ 201 tn), (oa (a 11) cI 201 mn), (oa (a 12) cI 8040 cx), (oa (a 13) cI 8040 cy), (oa (a 27) cI 516 sa)]) (w1 := [(om k0 (va_up a 28 bb7) (upd I0 41 (nI ((((((((w + 1) + 1) + 1) + 1) + 1) + 1) + 1) + 1))) J0), (oa bb7 cI (4096 * cc7) sv7)]) hP hD [14, 15] [0, 1, 2, 3, 4, 5, 6, 7, 8, 9, 10, 11, 12, 13] rfl rfl (by decide) (by decide) hk1 hFc hP1 hD1
        clear hk1 hPc hDc hFc hP1 hD1 ht
        generalize H1 = H at hP hS ⊢
        have hP : va_P (dC, dI) classes [(oa (a 1) cI 201 kd), (oa (a 5) cI 201 st), (oa (a 7) cI 201 gb), (oa (a 10) cI 201 it), (oa (a 8) cI 201 pa), (oa (a 9) cI 201 pb), (oa (a 2) cI 201 rk), (oa (a 3) cI 201 wd), (oa (a 4) cI 201 tw), (oa (a 6) cZ 201 tn), (oa (a 11) cI 201 mn), (oa (a 12) cI 8040 cx), (oa (a 13) cI 8040 cy), (oa (a 27) cI 516 sa), (om k0 (va_up a 28 bb7) (upd I0 41 (nI ((((((((w + 1) + 1) + 1) + 1) + 1) + 1) + 1) + 1))) J0), (oa bb7 cI (4096 * cc7) sv7)] H := hP
        have hD : va_D A [(oa (a 1) cI 201 kd), (oa (a 5) cI 201 st), (oa (a 7) cI 201 gb), (oa (a 10) cI 201 it), (oa (a 8) cI 201 pa), (oa (a 9) cI 201 pb), (oa (a 2) cI 201 rk), (oa (a 3) cI 201 wd), (oa (a 4) cI 201 tw), (oa (a 6) cZ 201 tn), (oa (a 11) cI 201 mn), (oa (a 12) cI 8040 cx), (oa (a 13) cI 8040 cy), (oa (a 27) cI 516 sa), (om k0 (va_up a 28 bb7) (upd I0 41 (nI ((((((((w + 1) + 1) + 1) + 1) + 1) + 1) + 1) + 1))) J0), (oa bb7 cI (4096 * cc7) sv7)] := hD
        have hV_7 := KI_s hc1 hV_6 (by omega) hwv_7 hwk_7 hwo_7 hcc_7
        have hU_7 := hV_7.1
        refine lv_aload_n hx hb dX11_keep_108 rfl (lv_at hl 1 rfl) ?_
        refine lv_aload_n hx hb dX11_keep_109 rfl (lv_at hl 1 rfl) ?_
        refine va_get (D := (dC, dI)) (ci := 9) (v := .ref (a 4)) (C := RX11) (T := TX11) (N := 55) hx hb hts inX11 hown hK hP 14 rfl rfl 4 (by decide) (hts _ mw_1163) (fun _ h9 => h9) rfl dX11_keep_110 ?_
        refine lv_iload_n hx hb dX11_keep_113 rfl (lv_at hl 0 rfl) ?_
        refine z_iald hx hb hK hP 8 0 rfl rfl (e := q) rfl (by omega) (by omega) dX11_keep_114 ?_
        have hd_8 := dc_pw hV_7.1.1 (w := w + 1 + 1 + 1 + 1 + 1 + 1 + 1 + 1) (by omega)
        have hPc := hP.sub (ws' := [(om k0 (va_up a 28 bb7) (upd I0 41 (nI ((((((((w + 1) + 1) + 1) + 1) + 1) + 1) + 1) + 1))) J0), (oa bb7 cI (4096 * cc7) sv7)]) [14, 15] rfl
        have hDc := hD.sub (ws' := [(om k0 (va_up a 28 bb7) (upd I0 41 (nI ((((((((w + 1) + 1) + 1) + 1) + 1) + 1) + 1) + 1))) J0), (oa bb7 cI (4096 * cc7) sv7)]) [14, 15] (by decide) rfl
        have hFc := va_free (wc := [(om k0 (va_up a 28 bb7) (upd I0 41 (nI ((((((((w + 1) + 1) + 1) + 1) + 1) + 1) + 1) + 1))) J0), (oa bb7 cI (4096 * cc7) sv7)]) hD hS hA [14, 15] rfl
        refine zcall (st1 := []) (va_runV (As := [.int (tw q)]) (rest := []) ⟨hx, hb, hml, hown, hts⟩ (k_M_write l dC dI cI cZ cF H.size k0 (va_up a 28 bb7) (upd I0 41 (nI ((((((((w + 1) + 1) + 1) + 1) + 1) + 1) + 1) + 1))) J0 ((((((((w + 1) + 1) + 1) + 1) + 1) + 1) + 1) + 1) cc7 (tw q) sv7 (rfl) (by omega) (by omega) (by omega)) (cwV 1 hts (zz_gV mw_1427 mw_1429 mw_51 mw_110 mc_yX11_write) rfl rfl rfl (by decide +kernel) ⟨Nat.le_of_ble_eq_true rfl, Nat.le_of_ble_eq_true rfl⟩) (zPV2 (q0 := 0) (ci := 9) hPc hDc hK hXN rfl rfl) rfl rfl hl.1 rfl (lv_room (Nat.le_of_ble_eq_true rfl)) dX11_keep_115 ⟨show (((((((((c1 - cp + (dc c1 w - c1)) + (dc cc0 (w + 1) - cc0)) + (dc cc1 ((w + 1) + 1) - cc1)) + (dc cc2 (((w + 1) + 1) + 1) - cc2)) + (dc cc3 ((((w + 1) + 1) + 1) + 1) - cc3)) + (dc cc4 (((((w + 1) + 1) + 1) + 1) + 1) - cc4)) + (dc cc5 ((((((w + 1) + 1) + 1) + 1) + 1) + 1) - cc5)) + (dc cc6 (((((((w + 1) + 1) + 1) + 1) + 1) + 1) + 1) - cc6)) + (dc cc7 ((((((((w + 1) + 1) + 1) + 1) + 1) + 1) + 1) + 1) - cc7)) ≤ cE - cp by omega, show (((((((((8192 * (c1 - cp) + (8192 * (dc c1 w - c1))) + (8192 * (dc cc0 (w + 1) - cc0))) + (8192 * (dc cc1 ((w + 1) + 1) - cc1))) + (8192 * (dc cc2 (((w + 1) + 1) + 1) - cc2))) + (8192 * (dc cc3 ((((w + 1) + 1) + 1) + 1) - cc3))) + (8192 * (dc cc4 (((((w + 1) + 1) + 1) + 1) + 1) - cc4))) + (8192 * (dc cc5 ((((((w + 1) + 1) + 1) + 1) + 1) + 1) - cc5))) + (8192 * (dc cc6 (((((((w + 1) + 1) + 1) + 1) + 1) + 1) + 1) - cc6))) + (8192 * (dc cc7 ((((((((w + 1) + 1) + 1) + 1) + 1) + 1) + 1) + 1) - cc7))) ≤ 8192 * (cE - cp) by omega⟩) hS hFc hFc rfl (fun t H1 locs ht hB hk1 hS => ?_)
        obtain ⟨bb8, cc8, sv8, hcc_8, hwv_8, hwk_8, hwo_8, hP1, hD1⟩ := hB
        rw [ht] at hP1
        obtain ⟨hP, hD⟩ := va_join (wr := [(oa (a 1) cI 201 kd), (oa (a 5) cI 201 st), (oa (a 7) cI 201 gb), (oa (a 10) cI 201 it), (oa (a 8) cI 201 pa), (oa (a 9) cI 201 pb), (oa (a 2) cI 201 rk), (oa (a 3) cI 201 wd), (oa (a 4) cI 201 tw), (oa (a 6) cZ 201 tn), (oa (a 11) cI 201 mn), (oa (a 12) cI 8040 cx), (oa (a 13) cI 8040 cy), (oa (a 27) cI 516 sa)]) (w1 := [(om k0 (va_up a 28 bb8) (upd I0 41 (nI (((((((((w + 1) + 1) + 1) + 1) + 1) + 1) + 1) + 1) + 1))) J0), (oa bb8 cI (4096 * cc8) sv8)]) hP hD [14, 15] [0, 1, 2, 3, 4, 5, 6, 7, 8, 9, 10, 11, 12, 13] rfl rfl (by decide) (by decide) hk1 hFc hP1 hD1
        clear hk1 hPc hDc hFc hP1 hD1 ht
        generalize H1 = H at hP hS ⊢
        have hP : va_P (dC, dI) classes [(oa (a 1) cI 201 kd), (oa (a 5) cI 201 st), (oa (a 7) cI 201 gb), (oa (a 10) cI 201 it), (oa (a 8) cI 201 pa), (oa (a 9) cI 201 pb), (oa (a 2) cI 201 rk), (oa (a 3) cI 201 wd), (oa (a 4) cI 201 tw), (oa (a 6) cZ 201 tn), (oa (a 11) cI 201 mn), (oa (a 12) cI 8040 cx), (oa (a 13) cI 8040 cy), (oa (a 27) cI 516 sa), (om k0 (va_up a 28 bb8) (upd I0 41 (nI (((((((((w + 1) + 1) + 1) + 1) + 1) + 1) + 1) + 1) + 1))) J0), (oa bb8 cI (4096 * cc8) sv8)] H := hP
        have hD : va_D A [(oa (a 1) cI 201 kd), (oa (a 5) cI 201 st), (oa (a 7) cI 201 gb), (oa (a 10) cI 201 it), (oa (a 8) cI 201 pa), (oa (a 9) cI 201 pb), (oa (a 2) cI 201 rk), (oa (a 3) cI 201 wd), (oa (a 4) cI 201 tw), (oa (a 6) cZ 201 tn), (oa (a 11) cI 201 mn), (oa (a 12) cI 8040 cx), (oa (a 13) cI 8040 cy), (oa (a 27) cI 516 sa), (om k0 (va_up a 28 bb8) (upd I0 41 (nI (((((((((w + 1) + 1) + 1) + 1) + 1) + 1) + 1) + 1) + 1))) J0), (oa bb8 cI (4096 * cc8) sv8)] := hD
        have hV_8 := KI_s hc1 hV_7 (by omega) hwv_8 hwk_8 hwo_8 hcc_8
        have hU_8 := hV_8.1
        refine lv_aload_n hx hb dX11_keep_118 rfl (lv_at hl 1 rfl) ?_
        have hj_2 : W p l e ((headSpec (.code yX11_keep cX11_keep 5 none :: ws0) ({ frames := 1, cells := cE - cp, slots := 8192 * (cE - cp), locals := 23 } : Room)).room) s m ([.ref k0, .int (nI i)] : List Value).toArray below meth c H locs (((((((((c1 - cp + (dc c1 w - c1)) + (dc cc0 (w + 1) - cc0)) + (dc cc1 ((w + 1) + 1) - cc1)) + (dc cc2 (((w + 1) + 1) + 1) - cc2)) + (dc cc3 ((((w + 1) + 1) + 1) + 1) - cc3)) + (dc cc4 (((((w + 1) + 1) + 1) + 1) + 1) - cc4)) + (dc cc5 ((((((w + 1) + 1) + 1) + 1) + 1) + 1) - cc5)) + (dc cc6 (((((((w + 1) + 1) + 1) + 1) + 1) + 1) + 1) - cc6)) + (dc cc7 ((((((((w + 1) + 1) + 1) + 1) + 1) + 1) + 1) + 1) - cc7)) (((((((((8192 * (c1 - cp) + (8192 * (dc c1 w - c1))) + (8192 * (dc cc0 (w + 1) - cc0))) + (8192 * (dc cc1 ((w + 1) + 1) - cc1))) + (8192 * (dc cc2 (((w + 1) + 1) + 1) - cc2))) + (8192 * (dc cc3 ((((w + 1) + 1) + 1) + 1) - cc3))) + (8192 * (dc cc4 (((((w + 1) + 1) + 1) + 1) + 1) - cc4))) + (8192 * (dc cc5 ((((((w + 1) + 1) + 1) + 1) + 1) + 1) - cc5))) + (8192 * (dc cc6 (((((((w + 1) + 1) + 1) + 1) + 1) + 1) + 1) - cc6))) + (8192 * (dc cc7 ((((((((w + 1) + 1) + 1) + 1) + 1) + 1) + 1) + 1) - cc7))) Q9 (F0 m 146 ls [.int (nI (nnF st tn mn q))]) := by
          refine lv_istore_n (lv' := [(3, .int (nI (nnF st tn mn q))), (2, .int (nI q)), (0, .ref k0), (1, .int (nI i))]) hx hb dX11_keep_146 rfl hl (by decide) rfl (fun ls hl => ?_)
          refine lv_aload_n hx hb dX11_keep_147 rfl (lv_at hl 2 rfl) ?_
          refine lv_iload_n hx hb dX11_keep_148 rfl (lv_at hl 0 rfl) ?_
          have hd_9 := dc_pw hV_8.1.1 (w := w + 1 + 1 + 1 + 1 + 1 + 1 + 1 + 1 + 1) (by omega)
          have hPc := hP.sub (ws' := [(om k0 (va_up a 28 bb8) (upd I0 41 (nI (((((((((w + 1) + 1) + 1) + 1) + 1) + 1) + 1) + 1) + 1))) J0), (oa bb8 cI (4096 * cc8) sv8)]) [14, 15] rfl
          have hDc := hD.sub (ws' := [(om k0 (va_up a 28 bb8) (upd I0 41 (nI (((((((((w + 1) + 1) + 1) + 1) + 1) + 1) + 1) + 1) + 1))) J0), (oa bb8 cI (4096 * cc8) sv8)]) [14, 15] (by decide) rfl
          have hFc := va_free (wc := [(om k0 (va_up a 28 bb8) (upd I0 41 (nI (((((((((w + 1) + 1) + 1) + 1) + 1) + 1) + 1) + 1) + 1))) J0), (oa bb8 cI (4096 * cc8) sv8)]) hD hS hA [14, 15] rfl
          refine zcall (st1 := []) (va_runV (As := [.int (nI (nnF st tn mn q))]) (rest := []) ⟨hx, hb, hml, hown, hts⟩ (k_M_write l dC dI cI cZ cF H.size k0 (va_up a 28 bb8) (upd I0 41 (nI (((((((((w + 1) + 1) + 1) + 1) + 1) + 1) + 1) + 1) + 1))) J0 (((((((((w + 1) + 1) + 1) + 1) + 1) + 1) + 1) + 1) + 1) cc8 (nI (nnF st tn mn q)) sv8 (rfl) (by omega) (by omega) (by omega)) (cwV 1 hts (zz_gV mw_1427 mw_1429 mw_51 mw_110 mc_yX11_write) rfl rfl rfl (by decide +kernel) ⟨Nat.le_of_ble_eq_true rfl, Nat.le_of_ble_eq_true rfl⟩) (zPV2 (q0 := 0) (ci := 9) hPc hDc hK hXN rfl rfl) rfl rfl hl.1 rfl (lv_room (Nat.le_of_ble_eq_true rfl)) dX11_keep_149 ⟨show ((((((((((c1 - cp + (dc c1 w - c1)) + (dc cc0 (w + 1) - cc0)) + (dc cc1 ((w + 1) + 1) - cc1)) + (dc cc2 (((w + 1) + 1) + 1) - cc2)) + (dc cc3 ((((w + 1) + 1) + 1) + 1) - cc3)) + (dc cc4 (((((w + 1) + 1) + 1) + 1) + 1) - cc4)) + (dc cc5 ((((((w + 1) + 1) + 1) + 1) + 1) + 1) - cc5)) + (dc cc6 (((((((w + 1) + 1) + 1) + 1) + 1) + 1) + 1) - cc6)) + (dc cc7 ((((((((w + 1) + 1) + 1) + 1) + 1) + 1) + 1) + 1) - cc7)) + (dc cc8 (((((((((w + 1) + 1) + 1) + 1) + 1) + 1) + 1) + 1) + 1) - cc8)) ≤ cE - cp by omega, show ((((((((((8192 * (c1 - cp) + (8192 * (dc c1 w - c1))) + (8192 * (dc cc0 (w + 1) - cc0))) + (8192 * (dc cc1 ((w + 1) + 1) - cc1))) + (8192 * (dc cc2 (((w + 1) + 1) + 1) - cc2))) + (8192 * (dc cc3 ((((w + 1) + 1) + 1) + 1) - cc3))) + (8192 * (dc cc4 (((((w + 1) + 1) + 1) + 1) + 1) - cc4))) + (8192 * (dc cc5 ((((((w + 1) + 1) + 1) + 1) + 1) + 1) - cc5))) + (8192 * (dc cc6 (((((((w + 1) + 1) + 1) + 1) + 1) + 1) + 1) - cc6))) + (8192 * (dc cc7 ((((((((w + 1) + 1) + 1) + 1) + 1) + 1) + 1) + 1) - cc7))) + (8192 * (dc cc8 (((((((((w + 1) + 1) + 1) + 1) + 1) + 1) + 1) + 1) + 1) - cc8))) ≤ 8192 * (cE - cp) by omega⟩) hS hFc hFc rfl (fun t H1 locs ht hB hk1 hS => ?_)
          obtain ⟨bb9, cc9, sv9, hcc_9, hwv_9, hwk_9, hwo_9, hP1, hD1⟩ := hB
          rw [ht] at hP1
          obtain ⟨hP, hD⟩ := va_join (wr := [(oa (a 1) cI 201 kd), (oa (a 5) cI 201 st), (oa (a 7) cI 201 gb), (oa (a 10) cI 201 it), (oa (a 8) cI 201 pa), (oa (a 9) cI 201 pb), (oa (a 2) cI 201 rk), (oa (a 3) cI 201 wd), (oa (a 4) cI 201 tw), (oa (a 6) cZ 201 tn), (oa (a 11) cI 201 mn), (oa (a 12) cI 8040 cx), (oa (a 13) cI 8040 cy), (oa (a 27) cI 516 sa)]) (w1 := [(om k0 (va_up a 28 bb9) (upd I0 41 (nI ((((((((((w + 1) + 1) + 1) + 1) + 1) + 1) + 1) + 1) + 1) + 1))) J0), (oa bb9 cI (4096 * cc9) sv9)]) hP hD [14, 15] [0, 1, 2, 3, 4, 5, 6, 7, 8, 9, 10, 11, 12, 13] rfl rfl (by decide) (by decide) hk1 hFc hP1 hD1
          clear hk1 hPc hDc hFc hP1 hD1 ht
          generalize H1 = H at hP hS ⊢
          have hP : va_P (dC, dI) classes [(oa (a 1) cI 201 kd), (oa (a 5) cI 201 st), (oa (a 7) cI 201 gb), (oa (a 10) cI 201 it), (oa (a 8) cI 201 pa), (oa (a 9) cI 201 pb), (oa (a 2) cI 201 rk), (oa (a 3) cI 201 wd), (oa (a 4) cI 201 tw), (oa (a 6) cZ 201 tn), (oa (a 11) cI 201 mn), (oa (a 12) cI 8040 cx), (oa (a 13) cI 8040 cy), (oa (a 27) cI 516 sa), (om k0 (va_up a 28 bb9) (upd I0 41 (nI ((((((((((w + 1) + 1) + 1) + 1) + 1) + 1) + 1) + 1) + 1) + 1))) J0), (oa bb9 cI (4096 * cc9) sv9)] H := hP
          have hD : va_D A [(oa (a 1) cI 201 kd), (oa (a 5) cI 201 st), (oa (a 7) cI 201 gb), (oa (a 10) cI 201 it), (oa (a 8) cI 201 pa), (oa (a 9) cI 201 pb), (oa (a 2) cI 201 rk), (oa (a 3) cI 201 wd), (oa (a 4) cI 201 tw), (oa (a 6) cZ 201 tn), (oa (a 11) cI 201 mn), (oa (a 12) cI 8040 cx), (oa (a 13) cI 8040 cy), (oa (a 27) cI 516 sa), (om k0 (va_up a 28 bb9) (upd I0 41 (nI ((((((((((w + 1) + 1) + 1) + 1) + 1) + 1) + 1) + 1) + 1) + 1))) J0), (oa bb9 cI (4096 * cc9) sv9)] := hD
          have hV_9 := KI_s hc1 hV_8 (by omega) hwv_9 hwk_9 hwo_9 hcc_9
          have hU_9 := hV_9.1
          refine lv_iconst (v := 0) hx hb dX11_keep_152 (by decide) ?_
          refine lv_istore (lv' := [(4, .int 0), (3, .int (nI (nnF st tn mn q))), (2, .int (nI q)), (0, .ref k0), (1, .int (nI i))]) hx hb dX11_keep_153 hl (by decide) rfl (fun ls hl => ?_)
          have hl_155 : ∀ (n9 : Nat) (k : Nat) (b2 : Nat) (c2 : Nat) (w2 : Nat) (sh2 : Nat → Int32) (H : Heap) (locs : List Loc) (ls : Array Slot), nnF st tn mn q - k < n9 → (k ≤ nnF st tn mn q) → (KI cp cE w0 (nI ft) (nnF st tn mn) (shD kd st gb it pa pb rk wd tw (nnF st tn mn) cx cy) sh q (10 + 2 * k) sh2 c2 w2) → va_P (dC, dI) classes [(oa (a 1) cI 201 kd), (oa (a 5) cI 201 st), (oa (a 7) cI 201 gb), (oa (a 10) cI 201 it), (oa (a 8) cI 201 pa), (oa (a 9) cI 201 pb), (oa (a 2) cI 201 rk), (oa (a 3) cI 201 wd), (oa (a 4) cI 201 tw), (oa (a 6) cZ 201 tn), (oa (a 11) cI 201 mn), (oa (a 12) cI 8040 cx), (oa (a 13) cI 8040 cy), (oa (a 27) cI 516 sa), (om k0 (va_up a 28 b2) (upd I0 41 (nI w2)) J0), (oa b2 cI (4096 * c2) sh2)] H → va_D A [(oa (a 1) cI 201 kd), (oa (a 5) cI 201 st), (oa (a 7) cI 201 gb), (oa (a 10) cI 201 it), (oa (a 8) cI 201 pa), (oa (a 9) cI 201 pb), (oa (a 2) cI 201 rk), (oa (a 3) cI 201 wd), (oa (a 4) cI 201 tw), (oa (a 6) cZ 201 tn), (oa (a 11) cI 201 mn), (oa (a 12) cI 8040 cx), (oa (a 13) cI 8040 cy), (oa (a 27) cI 516 sa), (om k0 (va_up a 28 b2) (upd I0 41 (nI w2)) J0), (oa b2 cI (4096 * c2) sh2)] → va_S A s.heap H locs → lv_has ls 5 [(4, .int (nI k)), (3, .int (nI (nnF st tn mn q))), (2, .int (nI q)), (0, .ref k0), (1, .int (nI i))] → W p l e ((headSpec (.code yX11_keep cX11_keep 5 none :: ws0) ({ frames := 1, cells := cE - cp, slots := 8192 * (cE - cp), locals := 23 } : Room)).room) s m ([.ref k0, .int (nI i)] : List Value).toArray below meth c H locs (c2 - cp) (8192 * (c2 - cp)) Q9 (F0 m 155 ls []) := by
            intro n9
            induction n9 with
            | zero => intro k b2 c2 w2 sh2 H locs ls hm; exact absurd hm (Nat.not_lt_zero _)
            | succ n9 ih_155 =>
              intro k b2 c2 w2 sh2 H locs ls hm hk hV2 hP hD hS hl
              have hU2 := hV2.1
              have hn40 : nnF st tn mn q ≤ 40 := (by unfold nnF; split; exact (hmn q (by omega) (by omega) (by omega)).2; omega)
              refine lv_iload hx hb dX11_keep_155 (lv_at hl 0 rfl) ?_
              refine lv_iload_n hx hb dX11_keep_157 rfl (lv_at hl 1 rfl) ?_
              refine lv_icmp_ge (tgt := 199) hx hb dX11_keep_158 (by decide) (fun c_3 => ?_) (fun c_3 => ?_)
              · have c_3 : ((nnF st tn mn q : Nat) : Int) ≤ ((k : Nat) : Int) := zc_le (nI_toInt (by omega)) (nI_toInt (by omega)) c_3
                refine lv_iinc (v := nI (q + 1)) (lv' := [(2, .int (nI (q + 1))), (4, .int (nI k)), (3, .int (nI (nnF st tn mn q))), (0, .ref k0), (1, .int (nI i))]) hx hb dX11_keep_199 hl (k := 2) rfl (nI_add q 1) (by decide) rfl (fun ls hl => ?_)
                refine lv_goto (tgt := 20) hx hb dX11_keep_202 (by decide) ?_
                refine W.widen (k := c2 - cp) (n := 8192 * (c2 - cp)) (by omega) (by omega) ?_
                exact ih_20 (q + 1) b2 c2 w2 sh2 H locs ls (by omega) (by omega) (KI_n hV2 (by omega)) hP hD hS (lv_sub hl [0, 3, 4] rfl)
              · have c_3 : ((k : Nat) : Int) < ((nnF st tn mn q : Nat) : Int) := zc_nle (nI_toInt (by omega)) (nI_toInt (by omega)) c_3
                have hdx := dc_pw hV2.1.1 (w := w2) (by omega)
                refine lv_aload_n hx hb dX11_keep_161 rfl (lv_at hl 3 rfl) ?_
                refine lv_aload_n hx hb dX11_keep_162 rfl (lv_at hl 3 rfl) ?_
                refine va_get (D := (dC, dI)) (ci := 9) (v := .ref (a 12)) (C := RX11) (T := TX11) (N := 55) hx hb hts inX11 hown hK hP 14 rfl rfl 12 (by decide) (hts _ mw_1171) (fun _ h9 => h9) rfl dX11_keep_163 ?_
                refine lv_bipush (v := 40) hx hb dX11_keep_166 (by decide) ?_
                refine lv_iload_n hx hb dX11_keep_168 rfl (lv_at hl 2 rfl) ?_
                refine lv_imul hx hb dX11_keep_169 ?_
                refine zz_i (v := nI (40 * q)) (pk_mul 40 q) ?_
                refine lv_iload hx hb dX11_keep_170 (lv_at hl 0 rfl) ?_
                refine lv_iadd hx hb dX11_keep_172 ?_
                refine zz_i (v := nI (40 * q + k)) (nI_add (40 * q) k) ?_
                refine z_iald hx hb hK hP 11 0 rfl rfl (e := 40 * q + k) rfl (by omega) (by omega) dX11_keep_173 ?_
                have hPc := hP.sub (ws' := [(om k0 (va_up a 28 b2) (upd I0 41 (nI w2)) J0), (oa b2 cI (4096 * c2) sh2)]) [14, 15] rfl
                have hDc := hD.sub (ws' := [(om k0 (va_up a 28 b2) (upd I0 41 (nI w2)) J0), (oa b2 cI (4096 * c2) sh2)]) [14, 15] (by decide) rfl
                have hFc := va_free (wc := [(om k0 (va_up a 28 b2) (upd I0 41 (nI w2)) J0), (oa b2 cI (4096 * c2) sh2)]) hD hS hA [14, 15] rfl
                refine zcall (st1 := []) (va_runV (As := [.int (cx (40 * q + k))]) (rest := []) ⟨hx, hb, hml, hown, hts⟩ (k_M_write l dC dI cI cZ cF H.size k0 (va_up a 28 b2) (upd I0 41 (nI w2)) J0 w2 c2 (cx (40 * q + k)) sh2 (rfl) (by omega) (by omega) (by omega)) (cwV 1 hts (zz_gV mw_1427 mw_1429 mw_51 mw_110 mc_yX11_write) rfl rfl rfl (by decide +kernel) ⟨Nat.le_of_ble_eq_true rfl, Nat.le_of_ble_eq_true rfl⟩) (zPV2 (q0 := 0) (ci := 9) hPc hDc hK hXN rfl rfl) rfl rfl hl.1 rfl (lv_room (Nat.le_of_ble_eq_true rfl)) dX11_keep_174 ⟨show (c2 - cp + (dc c2 w2 - c2)) ≤ cE - cp by omega, show (8192 * (c2 - cp) + (8192 * (dc c2 w2 - c2))) ≤ 8192 * (cE - cp) by omega⟩) hS hFc hFc rfl (fun t H1 locs ht hB hk1 hS => ?_)
                obtain ⟨bx, cx9, sx, hcx, hwvx, hwkx, hwox, hP1, hD1⟩ := hB
                rw [ht] at hP1
                obtain ⟨hP, hD⟩ := va_join (wr := [(oa (a 1) cI 201 kd), (oa (a 5) cI 201 st), (oa (a 7) cI 201 gb), (oa (a 10) cI 201 it), (oa (a 8) cI 201 pa), (oa (a 9) cI 201 pb), (oa (a 2) cI 201 rk), (oa (a 3) cI 201 wd), (oa (a 4) cI 201 tw), (oa (a 6) cZ 201 tn), (oa (a 11) cI 201 mn), (oa (a 12) cI 8040 cx), (oa (a 13) cI 8040 cy), (oa (a 27) cI 516 sa)]) (w1 := [(om k0 (va_up a 28 bx) (upd I0 41 (nI (w2 + 1))) J0), (oa bx cI (4096 * cx9) sx)]) hP hD [14, 15] [0, 1, 2, 3, 4, 5, 6, 7, 8, 9, 10, 11, 12, 13] rfl rfl (by decide) (by decide) hk1 hFc hP1 hD1
                clear hk1 hPc hDc hFc hP1 hD1 ht
                generalize H1 = H at hP hS ⊢
                have hP : va_P (dC, dI) classes [(oa (a 1) cI 201 kd), (oa (a 5) cI 201 st), (oa (a 7) cI 201 gb), (oa (a 10) cI 201 it), (oa (a 8) cI 201 pa), (oa (a 9) cI 201 pb), (oa (a 2) cI 201 rk), (oa (a 3) cI 201 wd), (oa (a 4) cI 201 tw), (oa (a 6) cZ 201 tn), (oa (a 11) cI 201 mn), (oa (a 12) cI 8040 cx), (oa (a 13) cI 8040 cy), (oa (a 27) cI 516 sa), (om k0 (va_up a 28 bx) (upd I0 41 (nI (w2 + 1))) J0), (oa bx cI (4096 * cx9) sx)] H := hP
                have hD : va_D A [(oa (a 1) cI 201 kd), (oa (a 5) cI 201 st), (oa (a 7) cI 201 gb), (oa (a 10) cI 201 it), (oa (a 8) cI 201 pa), (oa (a 9) cI 201 pb), (oa (a 2) cI 201 rk), (oa (a 3) cI 201 wd), (oa (a 4) cI 201 tw), (oa (a 6) cZ 201 tn), (oa (a 11) cI 201 mn), (oa (a 12) cI 8040 cx), (oa (a 13) cI 8040 cy), (oa (a 27) cI 516 sa), (om k0 (va_up a 28 bx) (upd I0 41 (nI (w2 + 1))) J0), (oa bx cI (4096 * cx9) sx)] := hD
                have hV3 := KI_s hc1 hV2 (by omega) (hwvx.trans (shD_x (by omega)).symm) hwkx hwox hcx
                have hU3 := hV3.1
                have hdy := dc_pw hV3.1.1 (w := w2 + 1) (by omega)
                refine lv_aload_n hx hb dX11_keep_177 rfl (lv_at hl 3 rfl) ?_
                refine lv_aload_n hx hb dX11_keep_178 rfl (lv_at hl 3 rfl) ?_
                refine va_get (D := (dC, dI)) (ci := 9) (v := .ref (a 13)) (C := RX11) (T := TX11) (N := 55) hx hb hts inX11 hown hK hP 14 rfl rfl 13 (by decide) (hts _ mw_1172) (fun _ h9 => h9) rfl dX11_keep_179 ?_
                refine lv_bipush (v := 40) hx hb dX11_keep_182 (by decide) ?_
                refine lv_iload_n hx hb dX11_keep_184 rfl (lv_at hl 2 rfl) ?_
                refine lv_imul hx hb dX11_keep_185 ?_
                refine zz_i (v := nI (40 * q)) (pk_mul 40 q) ?_
                refine lv_iload hx hb dX11_keep_186 (lv_at hl 0 rfl) ?_
                refine lv_iadd hx hb dX11_keep_188 ?_
                refine zz_i (v := nI (40 * q + k)) (nI_add (40 * q) k) ?_
                refine z_iald hx hb hK hP 12 0 rfl rfl (e := 40 * q + k) rfl (by omega) (by omega) dX11_keep_189 ?_
                have hPc := hP.sub (ws' := [(om k0 (va_up a 28 bx) (upd I0 41 (nI (w2 + 1))) J0), (oa bx cI (4096 * cx9) sx)]) [14, 15] rfl
                have hDc := hD.sub (ws' := [(om k0 (va_up a 28 bx) (upd I0 41 (nI (w2 + 1))) J0), (oa bx cI (4096 * cx9) sx)]) [14, 15] (by decide) rfl
                have hFc := va_free (wc := [(om k0 (va_up a 28 bx) (upd I0 41 (nI (w2 + 1))) J0), (oa bx cI (4096 * cx9) sx)]) hD hS hA [14, 15] rfl
                refine zcall (st1 := []) (va_runV (As := [.int (cy (40 * q + k))]) (rest := []) ⟨hx, hb, hml, hown, hts⟩ (k_M_write l dC dI cI cZ cF H.size k0 (va_up a 28 bx) (upd I0 41 (nI (w2 + 1))) J0 (w2 + 1) cx9 (cy (40 * q + k)) sx (rfl) (by omega) (by omega) (by omega)) (cwV 1 hts (zz_gV mw_1427 mw_1429 mw_51 mw_110 mc_yX11_write) rfl rfl rfl (by decide +kernel) ⟨Nat.le_of_ble_eq_true rfl, Nat.le_of_ble_eq_true rfl⟩) (zPV2 (q0 := 0) (ci := 9) hPc hDc hK hXN rfl rfl) rfl rfl hl.1 rfl (lv_room (Nat.le_of_ble_eq_true rfl)) dX11_keep_190 ⟨show ((c2 - cp + (dc c2 w2 - c2)) + (dc cx9 (w2 + 1) - cx9)) ≤ cE - cp by omega, show ((8192 * (c2 - cp) + (8192 * (dc c2 w2 - c2))) + (8192 * (dc cx9 (w2 + 1) - cx9))) ≤ 8192 * (cE - cp) by omega⟩) hS hFc hFc rfl (fun t H1 locs ht hB hk1 hS => ?_)
                obtain ⟨by9, cy9, sy, hcy, hwvy, hwky, hwoy, hP1, hD1⟩ := hB
                rw [ht] at hP1
                obtain ⟨hP, hD⟩ := va_join (wr := [(oa (a 1) cI 201 kd), (oa (a 5) cI 201 st), (oa (a 7) cI 201 gb), (oa (a 10) cI 201 it), (oa (a 8) cI 201 pa), (oa (a 9) cI 201 pb), (oa (a 2) cI 201 rk), (oa (a 3) cI 201 wd), (oa (a 4) cI 201 tw), (oa (a 6) cZ 201 tn), (oa (a 11) cI 201 mn), (oa (a 12) cI 8040 cx), (oa (a 13) cI 8040 cy), (oa (a 27) cI 516 sa)]) (w1 := [(om k0 (va_up a 28 by9) (upd I0 41 (nI ((w2 + 1) + 1))) J0), (oa by9 cI (4096 * cy9) sy)]) hP hD [14, 15] [0, 1, 2, 3, 4, 5, 6, 7, 8, 9, 10, 11, 12, 13] rfl rfl (by decide) (by decide) hk1 hFc hP1 hD1
                clear hk1 hPc hDc hFc hP1 hD1 ht
                generalize H1 = H at hP hS ⊢
                have hP : va_P (dC, dI) classes [(oa (a 1) cI 201 kd), (oa (a 5) cI 201 st), (oa (a 7) cI 201 gb), (oa (a 10) cI 201 it), (oa (a 8) cI 201 pa), (oa (a 9) cI 201 pb), (oa (a 2) cI 201 rk), (oa (a 3) cI 201 wd), (oa (a 4) cI 201 tw), (oa (a 6) cZ 201 tn), (oa (a 11) cI 201 mn), (oa (a 12) cI 8040 cx), (oa (a 13) cI 8040 cy), (oa (a 27) cI 516 sa), (om k0 (va_up a 28 by9) (upd I0 41 (nI ((w2 + 1) + 1))) J0), (oa by9 cI (4096 * cy9) sy)] H := hP
                have hD : va_D A [(oa (a 1) cI 201 kd), (oa (a 5) cI 201 st), (oa (a 7) cI 201 gb), (oa (a 10) cI 201 it), (oa (a 8) cI 201 pa), (oa (a 9) cI 201 pb), (oa (a 2) cI 201 rk), (oa (a 3) cI 201 wd), (oa (a 4) cI 201 tw), (oa (a 6) cZ 201 tn), (oa (a 11) cI 201 mn), (oa (a 12) cI 8040 cx), (oa (a 13) cI 8040 cy), (oa (a 27) cI 516 sa), (om k0 (va_up a 28 by9) (upd I0 41 (nI ((w2 + 1) + 1))) J0), (oa by9 cI (4096 * cy9) sy)] := hD
                have hV4 := KI_s hc1 hV3 (by omega) (hwvy.trans (shD_y (by omega)).symm) hwky hwoy hcy
                have hU4 := hV4.1
                refine lv_iinc (v := nI (k + 1)) (lv' := [(4, .int (nI (k + 1))), (3, .int (nI (nnF st tn mn q))), (2, .int (nI q)), (0, .ref k0), (1, .int (nI i))]) hx hb dX11_keep_193 hl (k := 0) rfl (nI_add k 1) (by decide) rfl (fun ls hl => ?_)
                refine lv_goto (tgt := 155) hx hb dX11_keep_196 (by decide) ?_
                refine W.widen (k := cy9 - cp) (n := 8192 * (cy9 - cp)) (by omega) (by omega) ?_
                exact ih_155 (k + 1) by9 cy9 ((w2 + 1) + 1) sy H locs ls (by omega) (by omega) (hV4) hP hD hS (lv_sub hl [0, 1, 2, 3, 4] rfl)
          refine W.widen (k := cc9 - cp) (n := 8192 * (cc9 - cp)) (by omega) (by omega) ?_
          exact hl_155 _ 0 bb9 cc9 ((((((((((w + 1) + 1) + 1) + 1) + 1) + 1) + 1) + 1) + 1) + 1) sv9 H locs ls (Nat.lt_succ_self _) (by omega) (hV_9) hP hD hS (lv_sub hl [0, 1, 2, 3, 4] rfl)
        refine va_get (D := (dC, dI)) (ci := 9) (v := .ref (a 6)) (C := RX11) (T := TX11) (N := 55) hx hb hts inX11 hown hK hP 14 rfl rfl 6 (by decide) (hts _ mw_1165) (fun _ h9 => h9) rfl dX11_keep_119 ?_
        refine lv_iload_n hx hb dX11_keep_122 rfl (lv_at hl 0 rfl) ?_
        refine z_zald hx hb hK hP 9 1 rfl rfl (e := q) rfl (by omega) (by omega) dX11_keep_123 ?_
        refine lv_if_ne (tgt := 136) hx hb dX11_keep_124 (by decide) (fun c_4 => ?_) (fun c_4 => ?_)
        · have c_4 : ¬ (tn q).toInt = 0 := zc_ne rfl (by decide) c_4
          refine lv_iconst (v := 0) hx hb dX11_keep_136 (by decide) ?_
          refine lv_goto (tgt := 146) hx hb dX11_keep_137 (by decide) ?_
          refine zz_i (v := nI (nnF st tn mn q)) (by unfold nnF; first | (rw [if_neg (by omega)]; rfl) | (rw [if_pos ⟨by omega, by omega⟩])) ?_
          exact hj_2 
        · have c_4 : (tn q).toInt = 0 := zc_eq rfl (by decide) c_4
          refine lv_aload_n hx hb dX11_keep_127 rfl (lv_at hl 1 rfl) ?_
          refine va_get (D := (dC, dI)) (ci := 9) (v := .ref (a 5)) (C := RX11) (T := TX11) (N := 55) hx hb hts inX11 hown hK hP 14 rfl rfl 5 (by decide) (hts _ mw_1164) (fun _ h9 => h9) rfl dX11_keep_128 ?_
          refine lv_iload_n hx hb dX11_keep_131 rfl (lv_at hl 0 rfl) ?_
          refine z_iald hx hb hK hP 1 0 rfl rfl (e := q) rfl (by omega) (by omega) dX11_keep_132 ?_
          refine lv_if_ne (tgt := 140) hx hb dX11_keep_133 (by decide) (fun c_5 => ?_) (fun c_5 => ?_)
          · have c_5 : ¬ (st q).toInt = 0 := zc_ne rfl (by decide) c_5
            have hm9 := hmn q (by omega) (by omega) (by omega)
            refine lv_aload_n hx hb dX11_keep_140 rfl (lv_at hl 1 rfl) ?_
            refine va_get (D := (dC, dI)) (ci := 9) (v := .ref (a 11)) (C := RX11) (T := TX11) (N := 55) hx hb hts inX11 hown hK hP 14 rfl rfl 11 (by decide) (hts _ mw_1170) (fun _ h9 => h9) rfl dX11_keep_141 ?_
            refine lv_iload_n hx hb dX11_keep_144 rfl (lv_at hl 0 rfl) ?_
            refine z_iald hx hb hK hP 10 0 rfl rfl (e := q) rfl (by omega) (by omega) dX11_keep_145 ?_
            refine zz_i (v := nI (nN (mn q))) (hm9.1) ?_
            refine zz_i (v := nI (nnF st tn mn q)) (by unfold nnF; first | (rw [if_neg (by omega)]; rfl) | (rw [if_pos ⟨by omega, by omega⟩])) ?_
            exact hj_2 
          · have c_5 : (st q).toInt = 0 := zc_eq rfl (by decide) c_5
            refine lv_iconst (v := 0) hx hb dX11_keep_136 (by decide) ?_
            refine lv_goto (tgt := 146) hx hb dX11_keep_137 (by decide) ?_
            refine zz_i (v := nI (nnF st tn mn q)) (by unfold nnF; first | (rw [if_neg (by omega)]; rfl) | (rw [if_pos ⟨by omega, by omega⟩])) ?_
            exact hj_2 
  refine W.widen (k := c0 - cp) (n := 8192 * (c0 - cp)) (by omega) (by omega) ?_
  exact hl_20 _ 0 b0 c0 (w0 + 1) sh0 H locs ls (Nat.lt_succ_self _) (by omega) (hV0) hP hD hS (lv_sub hl [0, 1, 2] rfl)
