set_option maxHeartbeats 4000000 in
set_option maxRecDepth 100000 in
theorem k_M_begins (l : Launch) (dC : Nat → ClassId) (dI : Nat → Nat → Nat) (cI cZ cF : ClassId) (sz : Nat) (k0 : Nat) (a : Nat → Nat) (I0 : Nat → Int32) (J0 : Nat → Int64) (dn : Nat) (bs : Nat) (ft : Nat) (w0 : Nat) (cp : Nat) (cE : Nat) (kd : Nat → Int32) (st : Nat → Int32) (gb : Nat → Int32) (it : Nat → Int32) (pa : Nat → Int32) (pb : Nat → Int32) (rk : Nat → Int32) (wd : Nat → Int32) (tw : Nat → Int32) (tn : Nat → Int32) (mn : Nat → Int32) (cx : Nat → Int32) (cy : Nat → Int32) (sa : Nat → Int32) (sh : Nat → Int32) (hft : I0 0 = nI ft) (h200 : ft ≤ 200) (hdn : I0 19 = nI dn) (hbs : I0 21 = nI bs) (hbd : bs ≤ dn) (hd512 : dn ≤ 512) (hi5 : (dn - bs) < 515) (hsa : sa (dn - bs) = nI w0) (hmn : ∀ f, f < ft → (tn f).toInt = 0 → ¬ (st f).toInt = 0 → mn f = nI (nN (mn f)) ∧ nN (mn f) ≤ 40) (hc1 : 1 ≤ cp) (hpw : pw cp cE) (hw0 : w0 ≤ 4096 * cp) (hfit : psN (nnF st tn mn) w0 ft ≤ 4096 * cE) (hmin : cE = cp ∨ 2048 * cE < psN (nnF st tn mn) w0 ft) (hcE : cE ≤ 512) : Met l yX11_begins (.code yX11_begins cX11_begins 1 none :: ws0) ({ frames := 2, cells := cE - cp, slots := 8192 * (cE - cp), locals := 47 } : Room) (va_Pc [.ref k0] (zPre (dC, dI) classes (zTy cI cZ cF) [(om k0 a I0 J0), (oa (a 1) cI 201 kd), (oa (a 5) cI 201 st), (oa (a 7) cI 201 gb), (oa (a 10) cI 201 it), (oa (a 8) cI 201 pa), (oa (a 9) cI 201 pb), (oa (a 2) cI 201 rk), (oa (a 3) cI 201 wd), (oa (a 4) cI 201 tw), (oa (a 6) cZ 201 tn), (oa (a 11) cI 201 mn), (oa (a 12) cI 8040 cx), (oa (a 13) cI 8040 cy), (oa (a 27) cI 516 sa), (oa (a 28) cI (4096 * cp) sh)] sz zXN)) (zQ none (fun t => ∃ (b1 : Nat), ∃ (sh1 : Nat → Int32), (sh1 w0 = nI ft) ∧ (∀ j, j < w0 → sh1 j = sh j) ∧ (∀ g, g < ft → ∀ j, j < 10 + 2 * nnF st tn mn g → sh1 (psN (nnF st tn mn) w0 g + j) = (shD kd st gb it pa pb rk wd tw (nnF st tn mn) cx cy) g j) ∧ (∀ j, psN (nnF st tn mn) w0 ft ≤ j → j < 4096 * cp → sh1 j = sh j) ∧ va_P (dC, dI) classes [(om k0 (va_up a 28 b1) (upd I0 41 (nI (psN (nnF st tn mn) w0 ft))) J0), (oa (a 1) cI 201 kd), (oa (a 5) cI 201 st), (oa (a 7) cI 201 gb), (oa (a 10) cI 201 it), (oa (a 8) cI 201 pa), (oa (a 9) cI 201 pb), (oa (a 2) cI 201 rk), (oa (a 3) cI 201 wd), (oa (a 4) cI 201 tw), (oa (a 6) cZ 201 tn), (oa (a 11) cI 201 mn), (oa (a 12) cI 8040 cx), (oa (a 13) cI 8040 cy), (oa (a 27) cI 516 (upd sa ((dn - bs) + 1) (nI (psN (nnF st tn mn) w0 ft)))), (oa b1 cI (4096 * cE) sh1)] t.heap ∧ va_D (va_A [(om k0 a I0 J0), (oa (a 1) cI 201 kd), (oa (a 5) cI 201 st), (oa (a 7) cI 201 gb), (oa (a 10) cI 201 it), (oa (a 8) cI 201 pa), (oa (a 9) cI 201 pb), (oa (a 2) cI 201 rk), (oa (a 3) cI 201 wd), (oa (a 4) cI 201 tw), (oa (a 6) cZ 201 tn), (oa (a 11) cI 201 mn), (oa (a 12) cI 8040 cx), (oa (a 13) cI 8040 cy), (oa (a 27) cI 516 sa), (oa (a 28) cI (4096 * cp) sh)] sz) [(om k0 (va_up a 28 b1) (upd I0 41 (nI (psN (nnF st tn mn) w0 ft))) J0), (oa (a 1) cI 201 kd), (oa (a 5) cI 201 st), (oa (a 7) cI 201 gb), (oa (a 10) cI 201 it), (oa (a 8) cI 201 pa), (oa (a 9) cI 201 pb), (oa (a 2) cI 201 rk), (oa (a 3) cI 201 wd), (oa (a 4) cI 201 tw), (oa (a 6) cZ 201 tn), (oa (a 11) cI 201 mn), (oa (a 12) cI 8040 cx), (oa (a 13) cI 8040 cy), (oa (a 27) cI 516 (upd sa ((dn - bs) + 1) (nI (psN (nnF st tn mn) w0 ft)))), (oa b1 cI (4096 * cE) sh1)]) (va_A [(om k0 a I0 J0), (oa (a 1) cI 201 kd), (oa (a 5) cI 201 st), (oa (a 7) cI 201 gb), (oa (a 10) cI 201 it), (oa (a 8) cI 201 pa), (oa (a 9) cI 201 pb), (oa (a 2) cI 201 rk), (oa (a 3) cI 201 wd), (oa (a 4) cI 201 tw), (oa (a 6) cZ 201 tn), (oa (a 11) cI 201 mn), (oa (a 12) cI 8040 cx), (oa (a 13) cI 8040 cy), (oa (a 27) cI 516 sa), (oa (a 28) cI (4096 * cp) sh)] sz)) (cE - cp) (8192 * (cE - cp)) (va_A [(om k0 a I0 J0), (oa (a 1) cI 201 kd), (oa (a 5) cI 201 st), (oa (a 7) cI 201 gb), (oa (a 10) cI 201 it), (oa (a 8) cI 201 pa), (oa (a 9) cI 201 pb), (oa (a 2) cI 201 rk), (oa (a 3) cI 201 wd), (oa (a 4) cI 201 tw), (oa (a 6) cZ 201 tn), (oa (a 11) cI 201 mn), (oa (a 12) cI 8040 cx), (oa (a 13) cI 8040 cy), (oa (a 27) cI 516 sa), (oa (a 28) cI (4096 * cp) sh)] sz) := by
  refine Met.ofW (cc := cX11_begins) (maxL := 1) (ret := none) (by decide) rfl ?_
  intro p e s m args below meth c s₁ B hml hv
  obtain ⟨rfl, hsz, hP, hK, hD0, hXN⟩ := hv
  have hx := B.exec
  have hb := B.bytes
  have hr := B.returns
  have hts0 := atoms_spec (ws := .code yX11_begins cX11_begins 1 none :: ws0) B.pre
  have hts : ∀ w9 ∈ ws0, w9.before ([.ref k0] : List Value).toArray s = true := fun w9 h => hts0 w9 (List.mem_cons_of_mem _ h)
  have hown : s.vm.findClass "ScaleShopModel" = some m.cls := findClass_of_methodNamed B.named
  have hlocks := B.notSynchronized
  subst hsz
  have hD := hD0.self (sz := s.heap.size)
  clear hD0
  generalize hAe : va_A [(om k0 a I0 J0), (oa (a 1) cI 201 kd), (oa (a 5) cI 201 st), (oa (a 7) cI 201 gb), (oa (a 10) cI 201 it), (oa (a 8) cI 201 pa), (oa (a 9) cI 201 pb), (oa (a 2) cI 201 rk), (oa (a 3) cI 201 wd), (oa (a 4) cI 201 tw), (oa (a 6) cZ 201 tn), (oa (a 11) cI 201 mn), (oa (a 12) cI 8040 cx), (oa (a 13) cI 8040 cy), (oa (a 27) cI 516 sa), (oa (a 28) cI (4096 * cp) sh)] s.heap.size = A at hD ⊢
  have hA : ∀ q : Nat, s.heap.size ≤ q → A q := fun q h => by rw [← hAe]; exact Or.inr h
  clear hAe
  have hS : va_S A s.heap s.heap [] := va_S.rf
  have hP : va_P (dC, dI) classes [(om k0 a I0 J0), (oa (a 1) cI 201 kd), (oa (a 5) cI 201 st), (oa (a 7) cI 201 gb), (oa (a 10) cI 201 it), (oa (a 8) cI 201 pa), (oa (a 9) cI 201 pb), (oa (a 2) cI 201 rk), (oa (a 3) cI 201 wd), (oa (a 4) cI 201 tw), (oa (a 6) cZ 201 tn), (oa (a 11) cI 201 mn), (oa (a 12) cI 8040 cx), (oa (a 13) cI 8040 cy), (oa (a 27) cI 516 sa), (oa (a 28) cI (4096 * cp) sh)] s.heap := hP
  obtain ⟨Q9, hQ9⟩ : ∃ Q9 : State → Prop, Q9 = MQ below (zQ none (fun t => ∃ (b1 : Nat), ∃ (sh1 : Nat → Int32), (sh1 w0 = nI ft) ∧ (∀ j, j < w0 → sh1 j = sh j) ∧ (∀ g, g < ft → ∀ j, j < 10 + 2 * nnF st tn mn g → sh1 (psN (nnF st tn mn) w0 g + j) = (shD kd st gb it pa pb rk wd tw (nnF st tn mn) cx cy) g j) ∧ (∀ j, psN (nnF st tn mn) w0 ft ≤ j → j < 4096 * cp → sh1 j = sh j) ∧ va_P (dC, dI) classes [(om k0 (va_up a 28 b1) (upd I0 41 (nI (psN (nnF st tn mn) w0 ft))) J0), (oa (a 1) cI 201 kd), (oa (a 5) cI 201 st), (oa (a 7) cI 201 gb), (oa (a 10) cI 201 it), (oa (a 8) cI 201 pa), (oa (a 9) cI 201 pb), (oa (a 2) cI 201 rk), (oa (a 3) cI 201 wd), (oa (a 4) cI 201 tw), (oa (a 6) cZ 201 tn), (oa (a 11) cI 201 mn), (oa (a 12) cI 8040 cx), (oa (a 13) cI 8040 cy), (oa (a 27) cI 516 (upd sa ((dn - bs) + 1) (nI (psN (nnF st tn mn) w0 ft)))), (oa b1 cI (4096 * cE) sh1)] t.heap ∧ va_D A [(om k0 (va_up a 28 b1) (upd I0 41 (nI (psN (nnF st tn mn) w0 ft))) J0), (oa (a 1) cI 201 kd), (oa (a 5) cI 201 st), (oa (a 7) cI 201 gb), (oa (a 10) cI 201 it), (oa (a 8) cI 201 pa), (oa (a 9) cI 201 pb), (oa (a 2) cI 201 rk), (oa (a 3) cI 201 wd), (oa (a 4) cI 201 tw), (oa (a 6) cZ 201 tn), (oa (a 11) cI 201 mn), (oa (a 12) cI 8040 cx), (oa (a 13) cI 8040 cy), (oa (a 27) cI 516 (upd sa ((dn - bs) + 1) (nI (psN (nnF st tn mn) w0 ft)))), (oa b1 cI (4096 * cE) sh1)]) A) ([.ref k0] : List Value).toArray s (cE - cp) (8192 * (cE - cp)) A := ⟨_, rfl⟩
  rw [← hQ9]
  have hl := lv_entry ([.ref k0]) (n := 1) (Nat.le_of_ble_eq_true rfl)
  rw [lg_entry_eq]
  generalize (lg_sl ([.ref k0]) ++ List.replicate (1 - (lg_sl ([.ref k0])).length) Slot.unset).toArray = ls at hl ⊢
  have hl : lv_has ls 1 [(0, .ref k0)] := hl
  refine lv_aload_n hx hb dX11_begins_0 rfl (lv_at hl 0 rfl) ?_
  refine lv_aload_n hx hb dX11_begins_1 rfl (lv_at hl 0 rfl) ?_
  refine va_get (D := (dC, dI)) (ci := 9) (v := .int (I0 19)) (C := RX11) (T := TX11) (N := 55) hx hb hts inX11 hown hK hP 0 rfl rfl 19 (by decide) (hts _ mw_1178) (fun _ h9 => h9) rfl dX11_begins_2 ?_
  refine zz_i (v := nI dn) (hdn) ?_
  refine lv_aload_n hx hb dX11_begins_5 rfl (lv_at hl 0 rfl) ?_
  refine va_get (D := (dC, dI)) (ci := 9) (v := .int (I0 21)) (C := RX11) (T := TX11) (N := 55) hx hb hts inX11 hown hK hP 0 rfl rfl 21 (by decide) (hts _ mw_1180) (fun _ h9 => h9) rfl dX11_begins_6 ?_
  refine zz_i (v := nI bs) (hbs) ?_
  refine lv_isub hx hb dX11_begins_9 ?_
  refine zz_i (v := nI (dn - bs)) (pk_sub (a := dn) (b := bs) (by omega)) ?_
  have hPc := hP.sub (ws' := [(om k0 a I0 J0), (oa (a 1) cI 201 kd), (oa (a 5) cI 201 st), (oa (a 7) cI 201 gb), (oa (a 10) cI 201 it), (oa (a 8) cI 201 pa), (oa (a 9) cI 201 pb), (oa (a 2) cI 201 rk), (oa (a 3) cI 201 wd), (oa (a 4) cI 201 tw), (oa (a 6) cZ 201 tn), (oa (a 11) cI 201 mn), (oa (a 12) cI 8040 cx), (oa (a 13) cI 8040 cy), (oa (a 27) cI 516 sa), (oa (a 28) cI (4096 * cp) sh)]) [0, 1, 2, 3, 4, 5, 6, 7, 8, 9, 10, 11, 12, 13, 14, 15] rfl
  have hDc := hD.sub (ws' := [(om k0 a I0 J0), (oa (a 1) cI 201 kd), (oa (a 5) cI 201 st), (oa (a 7) cI 201 gb), (oa (a 10) cI 201 it), (oa (a 8) cI 201 pa), (oa (a 9) cI 201 pb), (oa (a 2) cI 201 rk), (oa (a 3) cI 201 wd), (oa (a 4) cI 201 tw), (oa (a 6) cZ 201 tn), (oa (a 11) cI 201 mn), (oa (a 12) cI 8040 cx), (oa (a 13) cI 8040 cy), (oa (a 27) cI 516 sa), (oa (a 28) cI (4096 * cp) sh)]) [0, 1, 2, 3, 4, 5, 6, 7, 8, 9, 10, 11, 12, 13, 14, 15] (by decide) rfl
  have hFc := va_free (wc := [(om k0 a I0 J0), (oa (a 1) cI 201 kd), (oa (a 5) cI 201 st), (oa (a 7) cI 201 gb), (oa (a 10) cI 201 it), (oa (a 8) cI 201 pa), (oa (a 9) cI 201 pb), (oa (a 2) cI 201 rk), (oa (a 3) cI 201 wd), (oa (a 4) cI 201 tw), (oa (a 6) cZ 201 tn), (oa (a 11) cI 201 mn), (oa (a 12) cI 8040 cx), (oa (a 13) cI 8040 cy), (oa (a 27) cI 516 sa), (oa (a 28) cI (4096 * cp) sh)]) hD hS hA [0, 1, 2, 3, 4, 5, 6, 7, 8, 9, 10, 11, 12, 13, 14, 15] rfl
  refine zcall (st1 := []) (va_runV (As := [.int (nI (dn - bs))]) (rest := []) ⟨hx, hb, hml, hown, hts⟩ (k_M_keep l dC dI cI cZ cF s.heap.size k0 a I0 J0 (dn - bs) ft w0 cp cE kd st gb it pa pb rk wd tw tn mn cx cy sa sh (by assumption) (by omega) (by omega) (by assumption) (by assumption) (by omega) (by assumption) (by omega) (by assumption) (by assumption) (by omega)) (cwV 1 hts (zz_gV mw_1423 mw_1425 mw_50 mw_110 mc_yX11_keep) rfl rfl rfl (by decide +kernel) ⟨Nat.le_of_ble_eq_true rfl, Nat.le_of_ble_eq_true rfl⟩) (zPV2 (q0 := 0) (ci := 9) hPc hDc hK hXN rfl rfl) rfl rfl hl.1 rfl (lv_room (Nat.le_of_ble_eq_true rfl)) dX11_begins_10 ⟨show (0 + (cE - cp)) ≤ cE - cp by omega, show (0 + (8192 * (cE - cp))) ≤ 8192 * (cE - cp) by omega⟩) hS hFc hFc rfl (fun t H1 locs ht hB hk1 hS => ?_)
  obtain ⟨b1, sh1, hkf, hkl, hkb, hko, hP1, hD1⟩ := hB
  rw [ht] at hP1
  obtain ⟨hP, hD⟩ := va_join (wr := []) (w1 := [(om k0 (va_up a 28 b1) (upd I0 41 (nI (psN (nnF st tn mn) w0 ft))) J0), (oa (a 1) cI 201 kd), (oa (a 5) cI 201 st), (oa (a 7) cI 201 gb), (oa (a 10) cI 201 it), (oa (a 8) cI 201 pa), (oa (a 9) cI 201 pb), (oa (a 2) cI 201 rk), (oa (a 3) cI 201 wd), (oa (a 4) cI 201 tw), (oa (a 6) cZ 201 tn), (oa (a 11) cI 201 mn), (oa (a 12) cI 8040 cx), (oa (a 13) cI 8040 cy), (oa (a 27) cI 516 (upd sa ((dn - bs) + 1) (nI (psN (nnF st tn mn) w0 ft)))), (oa b1 cI (4096 * cE) sh1)]) hP hD [0, 1, 2, 3, 4, 5, 6, 7, 8, 9, 10, 11, 12, 13, 14, 15] [] rfl rfl (by decide) (by decide) hk1 hFc hP1 hD1
  clear hk1 hPc hDc hFc hP1 hD1 ht
  generalize H1 = H at hP hS ⊢
  have hP : va_P (dC, dI) classes [(om k0 (va_up a 28 b1) (upd I0 41 (nI (psN (nnF st tn mn) w0 ft))) J0), (oa (a 1) cI 201 kd), (oa (a 5) cI 201 st), (oa (a 7) cI 201 gb), (oa (a 10) cI 201 it), (oa (a 8) cI 201 pa), (oa (a 9) cI 201 pb), (oa (a 2) cI 201 rk), (oa (a 3) cI 201 wd), (oa (a 4) cI 201 tw), (oa (a 6) cZ 201 tn), (oa (a 11) cI 201 mn), (oa (a 12) cI 8040 cx), (oa (a 13) cI 8040 cy), (oa (a 27) cI 516 (upd sa ((dn - bs) + 1) (nI (psN (nnF st tn mn) w0 ft)))), (oa b1 cI (4096 * cE) sh1)] H := hP
  have hD : va_D A [(om k0 (va_up a 28 b1) (upd I0 41 (nI (psN (nnF st tn mn) w0 ft))) J0), (oa (a 1) cI 201 kd), (oa (a 5) cI 201 st), (oa (a 7) cI 201 gb), (oa (a 10) cI 201 it), (oa (a 8) cI 201 pa), (oa (a 9) cI 201 pb), (oa (a 2) cI 201 rk), (oa (a 3) cI 201 wd), (oa (a 4) cI 201 tw), (oa (a 6) cZ 201 tn), (oa (a 11) cI 201 mn), (oa (a 12) cI 8040 cx), (oa (a 13) cI 8040 cy), (oa (a 27) cI 516 (upd sa ((dn - bs) + 1) (nI (psN (nnF st tn mn) w0 ft)))), (oa b1 cI (4096 * cE) sh1)] := hD
  have hP9 := hP.sub (ws' := [(om k0 (va_up a 28 b1) (upd I0 41 (nI (psN (nnF st tn mn) w0 ft))) J0), (oa (a 1) cI 201 kd), (oa (a 5) cI 201 st), (oa (a 7) cI 201 gb), (oa (a 10) cI 201 it), (oa (a 8) cI 201 pa), (oa (a 9) cI 201 pb), (oa (a 2) cI 201 rk), (oa (a 3) cI 201 wd), (oa (a 4) cI 201 tw), (oa (a 6) cZ 201 tn), (oa (a 11) cI 201 mn), (oa (a 12) cI 8040 cx), (oa (a 13) cI 8040 cy), (oa (a 27) cI 516 (upd sa ((dn - bs) + 1) (nI (psN (nnF st tn mn) w0 ft)))), (oa b1 cI (4096 * cE) sh1)]) [0, 1, 2, 3, 4, 5, 6, 7, 8, 9, 10, 11, 12, 13, 14, 15] rfl
  have hD9 := hD.sub (ws' := [(om k0 (va_up a 28 b1) (upd I0 41 (nI (psN (nnF st tn mn) w0 ft))) J0), (oa (a 1) cI 201 kd), (oa (a 5) cI 201 st), (oa (a 7) cI 201 gb), (oa (a 10) cI 201 it), (oa (a 8) cI 201 pa), (oa (a 9) cI 201 pb), (oa (a 2) cI 201 rk), (oa (a 3) cI 201 wd), (oa (a 4) cI 201 tw), (oa (a 6) cZ 201 tn), (oa (a 11) cI 201 mn), (oa (a 12) cI 8040 cx), (oa (a 13) cI 8040 cy), (oa (a 27) cI 516 (upd sa ((dn - bs) + 1) (nI (psN (nnF st tn mn) w0 ft)))), (oa b1 cI (4096 * cE) sh1)]) [0, 1, 2, 3, 4, 5, 6, 7, 8, 9, 10, 11, 12, 13, 14, 15] (by decide) rfl
  refine W.widen (k := cE - cp) (n := 8192 * (cE - cp)) (by omega) (by omega) ?_
  rw [hQ9]
  exact W.vret hx hb hr (fun t ht hW => ⟨⟨rfl, b1, sh1, (hkf), (hkl), (hkb), (hko), by rw [ht]; exact hP9, hD9⟩, hS.F ht⟩) hS.2.2 dX11_begins_13
set_option maxHeartbeats 4000000 in
set_option maxRecDepth 100000 in
theorem k_M_ends (l : Launch) (dC : Nat → ClassId) (dI : Nat → Nat → Nat) (cI cZ cF : ClassId) (sz : Nat) (k0 : Nat) (a : Nat → Nat) (I0 : Nat → Int32) (J0 : Nat → Int64) (e1 : Int32) (e2 : Int32) (e3 : Int32) (dn : Nat) (bs : Nat) (ft : Nat) (w0 : Nat) (cp : Nat) (cE : Nat) (kd : Nat → Int32) (st : Nat → Int32) (gb : Nat → Int32) (it : Nat → Int32) (pa : Nat → Int32) (pb : Nat → Int32) (rk : Nat → Int32) (wd : Nat → Int32) (tw : Nat → Int32) (tn : Nat → Int32) (mn : Nat → Int32) (cx : Nat → Int32) (cy : Nat → Int32) (sa : Nat → Int32) (sh : Nat → Int32) (wh : Nat → Int32) (of9 : Nat → Int32) (we : Nat → Int32) (hft : I0 0 = nI ft) (h200 : ft ≤ 200) (hdn : I0 19 = nI dn) (hbs : I0 21 = nI bs) (hbd : bs ≤ dn) (hd512 : dn ≤ 512) (hi5 : (dn + 1 - bs) < 515) (hsa : sa (dn + 1 - bs) = nI w0) (hmn : ∀ f, f < ft → (tn f).toInt = 0 → ¬ (st f).toInt = 0 → mn f = nI (nN (mn f)) ∧ nN (mn f) ≤ 40) (hc1 : 1 ≤ cp) (hpw : pw cp cE) (hw0 : w0 ≤ 4096 * cp) (hfit : psN (nnF st tn mn) w0 ft ≤ 4096 * cE) (hmin : cE = cp ∨ 2048 * cE < psN (nnF st tn mn) w0 ft) (hcE : cE ≤ 512) : Met l yX11_ends (.code yX11_ends cX11_ends 4 (some .int) :: ws0) ({ frames := 2, cells := cE - cp, slots := 8192 * (cE - cp), locals := 47 } : Room) (va_Pc [.ref k0, .int e1, .int e2, .int e3] (zPre (dC, dI) classes (zTy cI cZ cF) [(om k0 a I0 J0), (oa (a 1) cI 201 kd), (oa (a 5) cI 201 st), (oa (a 7) cI 201 gb), (oa (a 10) cI 201 it), (oa (a 8) cI 201 pa), (oa (a 9) cI 201 pb), (oa (a 2) cI 201 rk), (oa (a 3) cI 201 wd), (oa (a 4) cI 201 tw), (oa (a 6) cZ 201 tn), (oa (a 11) cI 201 mn), (oa (a 12) cI 8040 cx), (oa (a 13) cI 8040 cy), (oa (a 27) cI 516 sa), (oa (a 28) cI (4096 * cp) sh), (oa (a 16) cI 514 wh), (oa (a 17) cI 514 of9), (oa (a 18) cI 514 we)] sz zXN)) (zQ (some (.int (nI (dn + 1)))) (fun t => ∃ (b1 : Nat), ∃ (sh1 : Nat → Int32), (sh1 w0 = nI ft) ∧ (∀ j, j < w0 → sh1 j = sh j) ∧ (∀ g, g < ft → ∀ j, j < 10 + 2 * nnF st tn mn g → sh1 (psN (nnF st tn mn) w0 g + j) = (shD kd st gb it pa pb rk wd tw (nnF st tn mn) cx cy) g j) ∧ (∀ j, psN (nnF st tn mn) w0 ft ≤ j → j < 4096 * cp → sh1 j = sh j) ∧ va_P (dC, dI) classes [(om k0 (va_up a 28 b1) (upd (upd (upd (upd I0 14 0) 19 (nI (dn + 1))) 20 0) 41 (nI (psN (nnF st tn mn) w0 ft))) J0), (oa (a 1) cI 201 kd), (oa (a 5) cI 201 st), (oa (a 7) cI 201 gb), (oa (a 10) cI 201 it), (oa (a 8) cI 201 pa), (oa (a 9) cI 201 pb), (oa (a 2) cI 201 rk), (oa (a 3) cI 201 wd), (oa (a 4) cI 201 tw), (oa (a 6) cZ 201 tn), (oa (a 11) cI 201 mn), (oa (a 12) cI 8040 cx), (oa (a 13) cI 8040 cy), (oa (a 27) cI 516 (upd sa ((dn + 1 - bs) + 1) (nI (psN (nnF st tn mn) w0 ft)))), (oa b1 cI (4096 * cE) sh1), (oa (a 16) cI 514 (upd wh (dn + 1) e1)), (oa (a 17) cI 514 (upd of9 (dn + 1) e2)), (oa (a 18) cI 514 (upd we (dn + 1) e3))] t.heap ∧ va_D (va_A [(om k0 a I0 J0), (oa (a 1) cI 201 kd), (oa (a 5) cI 201 st), (oa (a 7) cI 201 gb), (oa (a 10) cI 201 it), (oa (a 8) cI 201 pa), (oa (a 9) cI 201 pb), (oa (a 2) cI 201 rk), (oa (a 3) cI 201 wd), (oa (a 4) cI 201 tw), (oa (a 6) cZ 201 tn), (oa (a 11) cI 201 mn), (oa (a 12) cI 8040 cx), (oa (a 13) cI 8040 cy), (oa (a 27) cI 516 sa), (oa (a 28) cI (4096 * cp) sh), (oa (a 16) cI 514 wh), (oa (a 17) cI 514 of9), (oa (a 18) cI 514 we)] sz) [(om k0 (va_up a 28 b1) (upd (upd (upd (upd I0 14 0) 19 (nI (dn + 1))) 20 0) 41 (nI (psN (nnF st tn mn) w0 ft))) J0), (oa (a 1) cI 201 kd), (oa (a 5) cI 201 st), (oa (a 7) cI 201 gb), (oa (a 10) cI 201 it), (oa (a 8) cI 201 pa), (oa (a 9) cI 201 pb), (oa (a 2) cI 201 rk), (oa (a 3) cI 201 wd), (oa (a 4) cI 201 tw), (oa (a 6) cZ 201 tn), (oa (a 11) cI 201 mn), (oa (a 12) cI 8040 cx), (oa (a 13) cI 8040 cy), (oa (a 27) cI 516 (upd sa ((dn + 1 - bs) + 1) (nI (psN (nnF st tn mn) w0 ft)))), (oa b1 cI (4096 * cE) sh1), (oa (a 16) cI 514 (upd wh (dn + 1) e1)), (oa (a 17) cI 514 (upd of9 (dn + 1) e2)), (oa (a 18) cI 514 (upd we (dn + 1) e3))]) (va_A [(om k0 a I0 J0), (oa (a 1) cI 201 kd), (oa (a 5) cI 201 st), (oa (a 7) cI 201 gb), (oa (a 10) cI 201 it), (oa (a 8) cI 201 pa), (oa (a 9) cI 201 pb), (oa (a 2) cI 201 rk), (oa (a 3) cI 201 wd), (oa (a 4) cI 201 tw), (oa (a 6) cZ 201 tn), (oa (a 11) cI 201 mn), (oa (a 12) cI 8040 cx), (oa (a 13) cI 8040 cy), (oa (a 27) cI 516 sa), (oa (a 28) cI (4096 * cp) sh), (oa (a 16) cI 514 wh), (oa (a 17) cI 514 of9), (oa (a 18) cI 514 we)] sz)) (cE - cp) (8192 * (cE - cp)) (va_A [(om k0 a I0 J0), (oa (a 1) cI 201 kd), (oa (a 5) cI 201 st), (oa (a 7) cI 201 gb), (oa (a 10) cI 201 it), (oa (a 8) cI 201 pa), (oa (a 9) cI 201 pb), (oa (a 2) cI 201 rk), (oa (a 3) cI 201 wd), (oa (a 4) cI 201 tw), (oa (a 6) cZ 201 tn), (oa (a 11) cI 201 mn), (oa (a 12) cI 8040 cx), (oa (a 13) cI 8040 cy), (oa (a 27) cI 516 sa), (oa (a 28) cI (4096 * cp) sh), (oa (a 16) cI 514 wh), (oa (a 17) cI 514 of9), (oa (a 18) cI 514 we)] sz) := by
  refine Met.ofW (cc := cX11_ends) (maxL := 4) (ret := (some .int)) (by decide) rfl ?_
  intro p e s m args below meth c s₁ B hml hv
  obtain ⟨rfl, hsz, hP, hK, hD0, hXN⟩ := hv
  have hx := B.exec
  have hb := B.bytes
  have hr := B.returns
  have hts0 := atoms_spec (ws := .code yX11_ends cX11_ends 4 (some .int) :: ws0) B.pre
  have hts : ∀ w9 ∈ ws0, w9.before ([.ref k0, .int e1, .int e2, .int e3] : List Value).toArray s = true := fun w9 h => hts0 w9 (List.mem_cons_of_mem _ h)
  have hown : s.vm.findClass "ScaleShopModel" = some m.cls := findClass_of_methodNamed B.named
  have hlocks := B.notSynchronized
  subst hsz
  have hD := hD0.self (sz := s.heap.size)
  clear hD0
  generalize hAe : va_A [(om k0 a I0 J0), (oa (a 1) cI 201 kd), (oa (a 5) cI 201 st), (oa (a 7) cI 201 gb), (oa (a 10) cI 201 it), (oa (a 8) cI 201 pa), (oa (a 9) cI 201 pb), (oa (a 2) cI 201 rk), (oa (a 3) cI 201 wd), (oa (a 4) cI 201 tw), (oa (a 6) cZ 201 tn), (oa (a 11) cI 201 mn), (oa (a 12) cI 8040 cx), (oa (a 13) cI 8040 cy), (oa (a 27) cI 516 sa), (oa (a 28) cI (4096 * cp) sh), (oa (a 16) cI 514 wh), (oa (a 17) cI 514 of9), (oa (a 18) cI 514 we)] s.heap.size = A at hD ⊢
  have hA : ∀ q : Nat, s.heap.size ≤ q → A q := fun q h => by rw [← hAe]; exact Or.inr h
  clear hAe
  have hS : va_S A s.heap s.heap [] := va_S.rf
  have hP : va_P (dC, dI) classes [(om k0 a I0 J0), (oa (a 1) cI 201 kd), (oa (a 5) cI 201 st), (oa (a 7) cI 201 gb), (oa (a 10) cI 201 it), (oa (a 8) cI 201 pa), (oa (a 9) cI 201 pb), (oa (a 2) cI 201 rk), (oa (a 3) cI 201 wd), (oa (a 4) cI 201 tw), (oa (a 6) cZ 201 tn), (oa (a 11) cI 201 mn), (oa (a 12) cI 8040 cx), (oa (a 13) cI 8040 cy), (oa (a 27) cI 516 sa), (oa (a 28) cI (4096 * cp) sh), (oa (a 16) cI 514 wh), (oa (a 17) cI 514 of9), (oa (a 18) cI 514 we)] s.heap := hP
  obtain ⟨Q9, hQ9⟩ : ∃ Q9 : State → Prop, Q9 = MQ below (zQ (some (.int (nI (dn + 1)))) (fun t => ∃ (b1 : Nat), ∃ (sh1 : Nat → Int32), (sh1 w0 = nI ft) ∧ (∀ j, j < w0 → sh1 j = sh j) ∧ (∀ g, g < ft → ∀ j, j < 10 + 2 * nnF st tn mn g → sh1 (psN (nnF st tn mn) w0 g + j) = (shD kd st gb it pa pb rk wd tw (nnF st tn mn) cx cy) g j) ∧ (∀ j, psN (nnF st tn mn) w0 ft ≤ j → j < 4096 * cp → sh1 j = sh j) ∧ va_P (dC, dI) classes [(om k0 (va_up a 28 b1) (upd (upd (upd (upd I0 14 0) 19 (nI (dn + 1))) 20 0) 41 (nI (psN (nnF st tn mn) w0 ft))) J0), (oa (a 1) cI 201 kd), (oa (a 5) cI 201 st), (oa (a 7) cI 201 gb), (oa (a 10) cI 201 it), (oa (a 8) cI 201 pa), (oa (a 9) cI 201 pb), (oa (a 2) cI 201 rk), (oa (a 3) cI 201 wd), (oa (a 4) cI 201 tw), (oa (a 6) cZ 201 tn), (oa (a 11) cI 201 mn), (oa (a 12) cI 8040 cx), (oa (a 13) cI 8040 cy), (oa (a 27) cI 516 (upd sa ((dn + 1 - bs) + 1) (nI (psN (nnF st tn mn) w0 ft)))), (oa b1 cI (4096 * cE) sh1), (oa (a 16) cI 514 (upd wh (dn + 1) e1)), (oa (a 17) cI 514 (upd of9 (dn + 1) e2)), (oa (a 18) cI 514 (upd we (dn + 1) e3))] t.heap ∧ va_D A [(om k0 (va_up a 28 b1) (upd (upd (upd (upd I0 14 0) 19 (nI (dn + 1))) 20 0) 41 (nI (psN (nnF st tn mn) w0 ft))) J0), (oa (a 1) cI 201 kd), (oa (a 5) cI 201 st), (oa (a 7) cI 201 gb), (oa (a 10) cI 201 it), (oa (a 8) cI 201 pa), (oa (a 9) cI 201 pb), (oa (a 2) cI 201 rk), (oa (a 3) cI 201 wd), (oa (a 4) cI 201 tw), (oa (a 6) cZ 201 tn), (oa (a 11) cI 201 mn), (oa (a 12) cI 8040 cx), (oa (a 13) cI 8040 cy), (oa (a 27) cI 516 (upd sa ((dn + 1 - bs) + 1) (nI (psN (nnF st tn mn) w0 ft)))), (oa b1 cI (4096 * cE) sh1), (oa (a 16) cI 514 (upd wh (dn + 1) e1)), (oa (a 17) cI 514 (upd of9 (dn + 1) e2)), (oa (a 18) cI 514 (upd we (dn + 1) e3))]) A) ([.ref k0, .int e1, .int e2, .int e3] : List Value).toArray s (cE - cp) (8192 * (cE - cp)) A := ⟨_, rfl⟩
  rw [← hQ9]
  have hl := lv_entry ([.ref k0, .int e1, .int e2, .int e3]) (n := 4) (Nat.le_of_ble_eq_true rfl)
  rw [lg_entry_eq]
  generalize (lg_sl ([.ref k0, .int e1, .int e2, .int e3]) ++ List.replicate (4 - (lg_sl ([.ref k0, .int e1, .int e2, .int e3])).length) Slot.unset).toArray = ls at hl ⊢
  have hl : lv_has ls 4 [(0, .ref k0), (1, .int e1), (2, .int e2), (3, .int e3)] := hl
  refine lv_aload_n hx hb dX11_ends_0 rfl (lv_at hl 0 rfl) ?_
  refine lv_dup hx hb dX11_ends_1 rfl ?_
  refine va_get (D := (dC, dI)) (ci := 9) (v := .int (I0 19)) (C := RX11) (T := TX11) (N := 55) hx hb hts inX11 hown hK hP 0 rfl rfl 19 (by decide) (hts _ mw_1178) (fun _ h9 => h9) rfl dX11_ends_2 ?_
  refine zz_i (v := nI dn) (hdn) ?_
  refine lv_iconst (v := 1) hx hb dX11_ends_5 (by decide) ?_
  refine lv_iadd hx hb dX11_ends_6 ?_
  refine zz_i (v := nI (dn + 1)) (nI_add dn 1) ?_
  refine va_put (D := (dC, dI)) (ci := 9) (v := .int (nI (dn + 1))) (ty := .int) (C := RX11) (T := TX11) (N := 55) hx hb hts inX11 tyX11 tyX11_ok nmX11 hown hK hP hD hS 0 rfl rfl 19 (by decide) (hts _ mw_1178) (fun _ h9 => h9) rfl (by decide +kernel) rfl rfl (Nat.le_of_ble_eq_true rfl) dX11_ends_7 (fun H locs hP hD hS => ?_)
  have hP : va_P (dC, dI) classes [(om k0 a (upd I0 19 (nI (dn + 1))) J0), (oa (a 1) cI 201 kd), (oa (a 5) cI 201 st), (oa (a 7) cI 201 gb), (oa (a 10) cI 201 it), (oa (a 8) cI 201 pa), (oa (a 9) cI 201 pb), (oa (a 2) cI 201 rk), (oa (a 3) cI 201 wd), (oa (a 4) cI 201 tw), (oa (a 6) cZ 201 tn), (oa (a 11) cI 201 mn), (oa (a 12) cI 8040 cx), (oa (a 13) cI 8040 cy), (oa (a 27) cI 516 sa), (oa (a 28) cI (4096 * cp) sh), (oa (a 16) cI 514 wh), (oa (a 17) cI 514 of9), (oa (a 18) cI 514 we)] H := hP
  have hD : va_D A [(om k0 a (upd I0 19 (nI (dn + 1))) J0), (oa (a 1) cI 201 kd), (oa (a 5) cI 201 st), (oa (a 7) cI 201 gb), (oa (a 10) cI 201 it), (oa (a 8) cI 201 pa), (oa (a 9) cI 201 pb), (oa (a 2) cI 201 rk), (oa (a 3) cI 201 wd), (oa (a 4) cI 201 tw), (oa (a 6) cZ 201 tn), (oa (a 11) cI 201 mn), (oa (a 12) cI 8040 cx), (oa (a 13) cI 8040 cy), (oa (a 27) cI 516 sa), (oa (a 28) cI (4096 * cp) sh), (oa (a 16) cI 514 wh), (oa (a 17) cI 514 of9), (oa (a 18) cI 514 we)] := hD
  refine lv_aload_n hx hb dX11_ends_10 rfl (lv_at hl 0 rfl) ?_
  refine lv_iconst (v := 0) hx hb dX11_ends_11 (by decide) ?_
  refine va_put (D := (dC, dI)) (ci := 9) (v := .int 0) (ty := .int) (C := RX11) (T := TX11) (N := 55) hx hb hts inX11 tyX11 tyX11_ok nmX11 hown hK hP hD hS 0 rfl rfl 20 (by decide) (hts _ mw_1179) (fun _ h9 => h9) rfl (by decide +kernel) rfl rfl (Nat.le_of_ble_eq_true rfl) dX11_ends_12 (fun H locs hP hD hS => ?_)
  have hP : va_P (dC, dI) classes [(om k0 a (upd (upd I0 19 (nI (dn + 1))) 20 0) J0), (oa (a 1) cI 201 kd), (oa (a 5) cI 201 st), (oa (a 7) cI 201 gb), (oa (a 10) cI 201 it), (oa (a 8) cI 201 pa), (oa (a 9) cI 201 pb), (oa (a 2) cI 201 rk), (oa (a 3) cI 201 wd), (oa (a 4) cI 201 tw), (oa (a 6) cZ 201 tn), (oa (a 11) cI 201 mn), (oa (a 12) cI 8040 cx), (oa (a 13) cI 8040 cy), (oa (a 27) cI 516 sa), (oa (a 28) cI (4096 * cp) sh), (oa (a 16) cI 514 wh), (oa (a 17) cI 514 of9), (oa (a 18) cI 514 we)] H := hP
  have hD : va_D A [(om k0 a (upd (upd I0 19 (nI (dn + 1))) 20 0) J0), (oa (a 1) cI 201 kd), (oa (a 5) cI 201 st), (oa (a 7) cI 201 gb), (oa (a 10) cI 201 it), (oa (a 8) cI 201 pa), (oa (a 9) cI 201 pb), (oa (a 2) cI 201 rk), (oa (a 3) cI 201 wd), (oa (a 4) cI 201 tw), (oa (a 6) cZ 201 tn), (oa (a 11) cI 201 mn), (oa (a 12) cI 8040 cx), (oa (a 13) cI 8040 cy), (oa (a 27) cI 516 sa), (oa (a 28) cI (4096 * cp) sh), (oa (a 16) cI 514 wh), (oa (a 17) cI 514 of9), (oa (a 18) cI 514 we)] := hD
  refine lv_aload_n hx hb dX11_ends_15 rfl (lv_at hl 0 rfl) ?_
  refine va_get (D := (dC, dI)) (ci := 9) (v := .ref (a 16)) (C := RX11) (T := TX11) (N := 55) hx hb hts inX11 hown hK hP 0 rfl rfl 16 (by decide) (hts _ mw_1175) (fun _ h9 => h9) rfl dX11_ends_16 ?_
  refine lv_aload_n hx hb dX11_ends_19 rfl (lv_at hl 0 rfl) ?_
  refine va_get (D := (dC, dI)) (ci := 9) (v := .int (nI (dn + 1))) (C := RX11) (T := TX11) (N := 55) hx hb hts inX11 hown hK hP 0 rfl rfl 19 (by decide) (hts _ mw_1178) (fun _ h9 => h9) rfl dX11_ends_20 ?_
  refine lv_iload_n hx hb dX11_ends_23 rfl (lv_at hl 1 rfl) ?_
  refine z_iast hx hb hK hP hD hS 16 0 rfl rfl (e := dn + 1) (x := e1) rfl (by omega) (by omega) dX11_ends_24 (fun H locs hP hD hS => ?_)
  have hP : va_P (dC, dI) classes [(om k0 a (upd (upd I0 19 (nI (dn + 1))) 20 0) J0), (oa (a 1) cI 201 kd), (oa (a 5) cI 201 st), (oa (a 7) cI 201 gb), (oa (a 10) cI 201 it), (oa (a 8) cI 201 pa), (oa (a 9) cI 201 pb), (oa (a 2) cI 201 rk), (oa (a 3) cI 201 wd), (oa (a 4) cI 201 tw), (oa (a 6) cZ 201 tn), (oa (a 11) cI 201 mn), (oa (a 12) cI 8040 cx), (oa (a 13) cI 8040 cy), (oa (a 27) cI 516 sa), (oa (a 28) cI (4096 * cp) sh), (oa (a 16) cI 514 (upd wh (dn + 1) e1)), (oa (a 17) cI 514 of9), (oa (a 18) cI 514 we)] H := hP
  have hD : va_D A [(om k0 a (upd (upd I0 19 (nI (dn + 1))) 20 0) J0), (oa (a 1) cI 201 kd), (oa (a 5) cI 201 st), (oa (a 7) cI 201 gb), (oa (a 10) cI 201 it), (oa (a 8) cI 201 pa), (oa (a 9) cI 201 pb), (oa (a 2) cI 201 rk), (oa (a 3) cI 201 wd), (oa (a 4) cI 201 tw), (oa (a 6) cZ 201 tn), (oa (a 11) cI 201 mn), (oa (a 12) cI 8040 cx), (oa (a 13) cI 8040 cy), (oa (a 27) cI 516 sa), (oa (a 28) cI (4096 * cp) sh), (oa (a 16) cI 514 (upd wh (dn + 1) e1)), (oa (a 17) cI 514 of9), (oa (a 18) cI 514 we)] := hD
  refine lv_aload_n hx hb dX11_ends_25 rfl (lv_at hl 0 rfl) ?_
  refine va_get (D := (dC, dI)) (ci := 9) (v := .ref (a 17)) (C := RX11) (T := TX11) (N := 55) hx hb hts inX11 hown hK hP 0 rfl rfl 17 (by decide) (hts _ mw_1176) (fun _ h9 => h9) rfl dX11_ends_26 ?_
  refine lv_aload_n hx hb dX11_ends_29 rfl (lv_at hl 0 rfl) ?_
  refine va_get (D := (dC, dI)) (ci := 9) (v := .int (nI (dn + 1))) (C := RX11) (T := TX11) (N := 55) hx hb hts inX11 hown hK hP 0 rfl rfl 19 (by decide) (hts _ mw_1178) (fun _ h9 => h9) rfl dX11_ends_30 ?_
  refine lv_iload_n hx hb dX11_ends_33 rfl (lv_at hl 2 rfl) ?_
  refine z_iast hx hb hK hP hD hS 17 0 rfl rfl (e := dn + 1) (x := e2) rfl (by omega) (by omega) dX11_ends_34 (fun H locs hP hD hS => ?_)
  have hP : va_P (dC, dI) classes [(om k0 a (upd (upd I0 19 (nI (dn + 1))) 20 0) J0), (oa (a 1) cI 201 kd), (oa (a 5) cI 201 st), (oa (a 7) cI 201 gb), (oa (a 10) cI 201 it), (oa (a 8) cI 201 pa), (oa (a 9) cI 201 pb), (oa (a 2) cI 201 rk), (oa (a 3) cI 201 wd), (oa (a 4) cI 201 tw), (oa (a 6) cZ 201 tn), (oa (a 11) cI 201 mn), (oa (a 12) cI 8040 cx), (oa (a 13) cI 8040 cy), (oa (a 27) cI 516 sa), (oa (a 28) cI (4096 * cp) sh), (oa (a 16) cI 514 (upd wh (dn + 1) e1)), (oa (a 17) cI 514 (upd of9 (dn + 1) e2)), (oa (a 18) cI 514 we)] H := hP
  have hD : va_D A [(om k0 a (upd (upd I0 19 (nI (dn + 1))) 20 0) J0), (oa (a 1) cI 201 kd), (oa (a 5) cI 201 st), (oa (a 7) cI 201 gb), (oa (a 10) cI 201 it), (oa (a 8) cI 201 pa), (oa (a 9) cI 201 pb), (oa (a 2) cI 201 rk), (oa (a 3) cI 201 wd), (oa (a 4) cI 201 tw), (oa (a 6) cZ 201 tn), (oa (a 11) cI 201 mn), (oa (a 12) cI 8040 cx), (oa (a 13) cI 8040 cy), (oa (a 27) cI 516 sa), (oa (a 28) cI (4096 * cp) sh), (oa (a 16) cI 514 (upd wh (dn + 1) e1)), (oa (a 17) cI 514 (upd of9 (dn + 1) e2)), (oa (a 18) cI 514 we)] := hD
  refine lv_aload_n hx hb dX11_ends_35 rfl (lv_at hl 0 rfl) ?_
  refine va_get (D := (dC, dI)) (ci := 9) (v := .ref (a 18)) (C := RX11) (T := TX11) (N := 55) hx hb hts inX11 hown hK hP 0 rfl rfl 18 (by decide) (hts _ mw_1177) (fun _ h9 => h9) rfl dX11_ends_36 ?_
  refine lv_aload_n hx hb dX11_ends_39 rfl (lv_at hl 0 rfl) ?_
  refine va_get (D := (dC, dI)) (ci := 9) (v := .int (nI (dn + 1))) (C := RX11) (T := TX11) (N := 55) hx hb hts inX11 hown hK hP 0 rfl rfl 19 (by decide) (hts _ mw_1178) (fun _ h9 => h9) rfl dX11_ends_40 ?_
  refine lv_iload_n hx hb dX11_ends_43 rfl (lv_at hl 3 rfl) ?_
  refine z_iast hx hb hK hP hD hS 18 0 rfl rfl (e := dn + 1) (x := e3) rfl (by omega) (by omega) dX11_ends_44 (fun H locs hP hD hS => ?_)
  have hP : va_P (dC, dI) classes [(om k0 a (upd (upd I0 19 (nI (dn + 1))) 20 0) J0), (oa (a 1) cI 201 kd), (oa (a 5) cI 201 st), (oa (a 7) cI 201 gb), (oa (a 10) cI 201 it), (oa (a 8) cI 201 pa), (oa (a 9) cI 201 pb), (oa (a 2) cI 201 rk), (oa (a 3) cI 201 wd), (oa (a 4) cI 201 tw), (oa (a 6) cZ 201 tn), (oa (a 11) cI 201 mn), (oa (a 12) cI 8040 cx), (oa (a 13) cI 8040 cy), (oa (a 27) cI 516 sa), (oa (a 28) cI (4096 * cp) sh), (oa (a 16) cI 514 (upd wh (dn + 1) e1)), (oa (a 17) cI 514 (upd of9 (dn + 1) e2)), (oa (a 18) cI 514 (upd we (dn + 1) e3))] H := hP
  have hD : va_D A [(om k0 a (upd (upd I0 19 (nI (dn + 1))) 20 0) J0), (oa (a 1) cI 201 kd), (oa (a 5) cI 201 st), (oa (a 7) cI 201 gb), (oa (a 10) cI 201 it), (oa (a 8) cI 201 pa), (oa (a 9) cI 201 pb), (oa (a 2) cI 201 rk), (oa (a 3) cI 201 wd), (oa (a 4) cI 201 tw), (oa (a 6) cZ 201 tn), (oa (a 11) cI 201 mn), (oa (a 12) cI 8040 cx), (oa (a 13) cI 8040 cy), (oa (a 27) cI 516 sa), (oa (a 28) cI (4096 * cp) sh), (oa (a 16) cI 514 (upd wh (dn + 1) e1)), (oa (a 17) cI 514 (upd of9 (dn + 1) e2)), (oa (a 18) cI 514 (upd we (dn + 1) e3))] := hD
  refine lv_aload_n hx hb dX11_ends_45 rfl (lv_at hl 0 rfl) ?_
  refine lv_aload_n hx hb dX11_ends_46 rfl (lv_at hl 0 rfl) ?_
  refine va_get (D := (dC, dI)) (ci := 9) (v := .int (nI (dn + 1))) (C := RX11) (T := TX11) (N := 55) hx hb hts inX11 hown hK hP 0 rfl rfl 19 (by decide) (hts _ mw_1178) (fun _ h9 => h9) rfl dX11_ends_47 ?_
  refine lv_aload_n hx hb dX11_ends_50 rfl (lv_at hl 0 rfl) ?_
  refine va_get (D := (dC, dI)) (ci := 9) (v := .int (I0 21)) (C := RX11) (T := TX11) (N := 55) hx hb hts inX11 hown hK hP 0 rfl rfl 21 (by decide) (hts _ mw_1180) (fun _ h9 => h9) rfl dX11_ends_51 ?_
  refine zz_i (v := nI bs) (hbs) ?_
  refine lv_isub hx hb dX11_ends_54 ?_
  refine zz_i (v := nI ((dn + 1) - bs)) (pk_sub (a := dn + 1) (b := bs) (by omega)) ?_
  have hPc := hP.sub (ws' := [(om k0 a (upd (upd I0 19 (nI (dn + 1))) 20 0) J0), (oa (a 1) cI 201 kd), (oa (a 5) cI 201 st), (oa (a 7) cI 201 gb), (oa (a 10) cI 201 it), (oa (a 8) cI 201 pa), (oa (a 9) cI 201 pb), (oa (a 2) cI 201 rk), (oa (a 3) cI 201 wd), (oa (a 4) cI 201 tw), (oa (a 6) cZ 201 tn), (oa (a 11) cI 201 mn), (oa (a 12) cI 8040 cx), (oa (a 13) cI 8040 cy), (oa (a 27) cI 516 sa), (oa (a 28) cI (4096 * cp) sh)]) [0, 1, 2, 3, 4, 5, 6, 7, 8, 9, 10, 11, 12, 13, 14, 15] rfl
  have hDc := hD.sub (ws' := [(om k0 a (upd (upd I0 19 (nI (dn + 1))) 20 0) J0), (oa (a 1) cI 201 kd), (oa (a 5) cI 201 st), (oa (a 7) cI 201 gb), (oa (a 10) cI 201 it), (oa (a 8) cI 201 pa), (oa (a 9) cI 201 pb), (oa (a 2) cI 201 rk), (oa (a 3) cI 201 wd), (oa (a 4) cI 201 tw), (oa (a 6) cZ 201 tn), (oa (a 11) cI 201 mn), (oa (a 12) cI 8040 cx), (oa (a 13) cI 8040 cy), (oa (a 27) cI 516 sa), (oa (a 28) cI (4096 * cp) sh)]) [0, 1, 2, 3, 4, 5, 6, 7, 8, 9, 10, 11, 12, 13, 14, 15] (by decide) rfl
  have hFc := va_free (wc := [(om k0 a (upd (upd I0 19 (nI (dn + 1))) 20 0) J0), (oa (a 1) cI 201 kd), (oa (a 5) cI 201 st), (oa (a 7) cI 201 gb), (oa (a 10) cI 201 it), (oa (a 8) cI 201 pa), (oa (a 9) cI 201 pb), (oa (a 2) cI 201 rk), (oa (a 3) cI 201 wd), (oa (a 4) cI 201 tw), (oa (a 6) cZ 201 tn), (oa (a 11) cI 201 mn), (oa (a 12) cI 8040 cx), (oa (a 13) cI 8040 cy), (oa (a 27) cI 516 sa), (oa (a 28) cI (4096 * cp) sh)]) hD hS hA [0, 1, 2, 3, 4, 5, 6, 7, 8, 9, 10, 11, 12, 13, 14, 15] rfl
  refine zcall (st1 := []) (va_runV (As := [.int (nI ((dn + 1) - bs))]) (rest := []) ⟨hx, hb, hml, hown, hts⟩ (k_M_keep l dC dI cI cZ cF H.size k0 a (upd (upd I0 19 (nI (dn + 1))) 20 0) J0 ((dn + 1) - bs) ft w0 cp cE kd st gb it pa pb rk wd tw tn mn cx cy sa sh (by assumption) (by omega) (by omega) (by assumption) (by assumption) (by omega) (by assumption) (by omega) (by assumption) (by assumption) (by omega)) (cwV 1 hts (zz_gV mw_1423 mw_1425 mw_50 mw_110 mc_yX11_keep) rfl rfl rfl (by decide +kernel) ⟨Nat.le_of_ble_eq_true rfl, Nat.le_of_ble_eq_true rfl⟩) (zPV2 (q0 := 0) (ci := 9) hPc hDc hK hXN rfl rfl) rfl rfl hl.1 rfl (lv_room (Nat.le_of_ble_eq_true rfl)) dX11_ends_55 ⟨show (0 + (cE - cp)) ≤ cE - cp by omega, show (0 + (8192 * (cE - cp))) ≤ 8192 * (cE - cp) by omega⟩) hS hFc hFc rfl (fun t H1 locs ht hB hk1 hS => ?_)
  obtain ⟨b1, sh1, hkf, hkl, hkb, hko, hP1, hD1⟩ := hB
  rw [ht] at hP1
  obtain ⟨hP, hD⟩ := va_join (wr := [(oa (a 16) cI 514 (upd wh (dn + 1) e1)), (oa (a 17) cI 514 (upd of9 (dn + 1) e2)), (oa (a 18) cI 514 (upd we (dn + 1) e3))]) (w1 := [(om k0 (va_up a 28 b1) (upd (upd (upd I0 19 (nI (dn + 1))) 20 0) 41 (nI (psN (nnF st tn mn) w0 ft))) J0), (oa (a 1) cI 201 kd), (oa (a 5) cI 201 st), (oa (a 7) cI 201 gb), (oa (a 10) cI 201 it), (oa (a 8) cI 201 pa), (oa (a 9) cI 201 pb), (oa (a 2) cI 201 rk), (oa (a 3) cI 201 wd), (oa (a 4) cI 201 tw), (oa (a 6) cZ 201 tn), (oa (a 11) cI 201 mn), (oa (a 12) cI 8040 cx), (oa (a 13) cI 8040 cy), (oa (a 27) cI 516 (upd sa (((dn + 1) - bs) + 1) (nI (psN (nnF st tn mn) w0 ft)))), (oa b1 cI (4096 * cE) sh1)]) hP hD [0, 1, 2, 3, 4, 5, 6, 7, 8, 9, 10, 11, 12, 13, 14, 15] [16, 17, 18] rfl rfl (by decide) (by decide) hk1 hFc hP1 hD1
  clear hk1 hPc hDc hFc hP1 hD1 ht
  generalize H1 = H at hP hS ⊢
  have hP : va_P (dC, dI) classes [(oa (a 16) cI 514 (upd wh (dn + 1) e1)), (oa (a 17) cI 514 (upd of9 (dn + 1) e2)), (oa (a 18) cI 514 (upd we (dn + 1) e3)), (om k0 (va_up a 28 b1) (upd (upd (upd I0 19 (nI (dn + 1))) 20 0) 41 (nI (psN (nnF st tn mn) w0 ft))) J0), (oa (a 1) cI 201 kd), (oa (a 5) cI 201 st), (oa (a 7) cI 201 gb), (oa (a 10) cI 201 it), (oa (a 8) cI 201 pa), (oa (a 9) cI 201 pb), (oa (a 2) cI 201 rk), (oa (a 3) cI 201 wd), (oa (a 4) cI 201 tw), (oa (a 6) cZ 201 tn), (oa (a 11) cI 201 mn), (oa (a 12) cI 8040 cx), (oa (a 13) cI 8040 cy), (oa (a 27) cI 516 (upd sa (((dn + 1) - bs) + 1) (nI (psN (nnF st tn mn) w0 ft)))), (oa b1 cI (4096 * cE) sh1)] H := hP
  have hD : va_D A [(oa (a 16) cI 514 (upd wh (dn + 1) e1)), (oa (a 17) cI 514 (upd of9 (dn + 1) e2)), (oa (a 18) cI 514 (upd we (dn + 1) e3)), (om k0 (va_up a 28 b1) (upd (upd (upd I0 19 (nI (dn + 1))) 20 0) 41 (nI (psN (nnF st tn mn) w0 ft))) J0), (oa (a 1) cI 201 kd), (oa (a 5) cI 201 st), (oa (a 7) cI 201 gb), (oa (a 10) cI 201 it), (oa (a 8) cI 201 pa), (oa (a 9) cI 201 pb), (oa (a 2) cI 201 rk), (oa (a 3) cI 201 wd), (oa (a 4) cI 201 tw), (oa (a 6) cZ 201 tn), (oa (a 11) cI 201 mn), (oa (a 12) cI 8040 cx), (oa (a 13) cI 8040 cy), (oa (a 27) cI 516 (upd sa (((dn + 1) - bs) + 1) (nI (psN (nnF st tn mn) w0 ft)))), (oa b1 cI (4096 * cE) sh1)] := hD
  refine lv_aload_n hx hb dX11_ends_58 rfl (lv_at hl 0 rfl) ?_
  refine lv_iconst (v := 0) hx hb dX11_ends_59 (by decide) ?_
  refine va_put (D := (dC, dI)) (ci := 9) (v := .int 0) (ty := .int) (C := RX11) (T := TX11) (N := 55) hx hb hts inX11 tyX11 tyX11_ok nmX11 hown hK hP hD hS 3 rfl rfl 14 (by decide) (hts _ mw_1173) (fun _ h9 => h9) rfl (by decide +kernel) rfl rfl (Nat.le_of_ble_eq_true rfl) dX11_ends_60 (fun H locs hP hD hS => ?_)
  have hP : va_P (dC, dI) classes [(oa (a 16) cI 514 (upd wh (dn + 1) e1)), (oa (a 17) cI 514 (upd of9 (dn + 1) e2)), (oa (a 18) cI 514 (upd we (dn + 1) e3)), (om k0 (va_up a 28 b1) (upd (upd (upd (upd I0 14 0) 19 (nI (dn + 1))) 20 0) 41 (nI (psN (nnF st tn mn) w0 ft))) J0), (oa (a 1) cI 201 kd), (oa (a 5) cI 201 st), (oa (a 7) cI 201 gb), (oa (a 10) cI 201 it), (oa (a 8) cI 201 pa), (oa (a 9) cI 201 pb), (oa (a 2) cI 201 rk), (oa (a 3) cI 201 wd), (oa (a 4) cI 201 tw), (oa (a 6) cZ 201 tn), (oa (a 11) cI 201 mn), (oa (a 12) cI 8040 cx), (oa (a 13) cI 8040 cy), (oa (a 27) cI 516 (upd sa (((dn + 1) - bs) + 1) (nI (psN (nnF st tn mn) w0 ft)))), (oa b1 cI (4096 * cE) sh1)] H := hP
  have hD : va_D A [(oa (a 16) cI 514 (upd wh (dn + 1) e1)), (oa (a 17) cI 514 (upd of9 (dn + 1) e2)), (oa (a 18) cI 514 (upd we (dn + 1) e3)), (om k0 (va_up a 28 b1) (upd (upd (upd (upd I0 14 0) 19 (nI (dn + 1))) 20 0) 41 (nI (psN (nnF st tn mn) w0 ft))) J0), (oa (a 1) cI 201 kd), (oa (a 5) cI 201 st), (oa (a 7) cI 201 gb), (oa (a 10) cI 201 it), (oa (a 8) cI 201 pa), (oa (a 9) cI 201 pb), (oa (a 2) cI 201 rk), (oa (a 3) cI 201 wd), (oa (a 4) cI 201 tw), (oa (a 6) cZ 201 tn), (oa (a 11) cI 201 mn), (oa (a 12) cI 8040 cx), (oa (a 13) cI 8040 cy), (oa (a 27) cI 516 (upd sa (((dn + 1) - bs) + 1) (nI (psN (nnF st tn mn) w0 ft)))), (oa b1 cI (4096 * cE) sh1)] := hD
  refine lv_aload_n hx hb dX11_ends_63 rfl (lv_at hl 0 rfl) ?_
  refine va_get (D := (dC, dI)) (ci := 9) (v := .int (nI (dn + 1))) (C := RX11) (T := TX11) (N := 55) hx hb hts inX11 hown hK hP 3 rfl rfl 19 (by decide) (hts _ mw_1178) (fun _ h9 => h9) rfl dX11_ends_64 ?_
  have hP9 := hP.sub (ws' := [(om k0 (va_up a 28 b1) (upd (upd (upd (upd I0 14 0) 19 (nI (dn + 1))) 20 0) 41 (nI (psN (nnF st tn mn) w0 ft))) J0), (oa (a 1) cI 201 kd), (oa (a 5) cI 201 st), (oa (a 7) cI 201 gb), (oa (a 10) cI 201 it), (oa (a 8) cI 201 pa), (oa (a 9) cI 201 pb), (oa (a 2) cI 201 rk), (oa (a 3) cI 201 wd), (oa (a 4) cI 201 tw), (oa (a 6) cZ 201 tn), (oa (a 11) cI 201 mn), (oa (a 12) cI 8040 cx), (oa (a 13) cI 8040 cy), (oa (a 27) cI 516 (upd sa (((dn + 1) - bs) + 1) (nI (psN (nnF st tn mn) w0 ft)))), (oa b1 cI (4096 * cE) sh1), (oa (a 16) cI 514 (upd wh (dn + 1) e1)), (oa (a 17) cI 514 (upd of9 (dn + 1) e2)), (oa (a 18) cI 514 (upd we (dn + 1) e3))]) [3, 4, 5, 6, 7, 8, 9, 10, 11, 12, 13, 14, 15, 16, 17, 18, 0, 1, 2] rfl
  have hD9 := hD.sub (ws' := [(om k0 (va_up a 28 b1) (upd (upd (upd (upd I0 14 0) 19 (nI (dn + 1))) 20 0) 41 (nI (psN (nnF st tn mn) w0 ft))) J0), (oa (a 1) cI 201 kd), (oa (a 5) cI 201 st), (oa (a 7) cI 201 gb), (oa (a 10) cI 201 it), (oa (a 8) cI 201 pa), (oa (a 9) cI 201 pb), (oa (a 2) cI 201 rk), (oa (a 3) cI 201 wd), (oa (a 4) cI 201 tw), (oa (a 6) cZ 201 tn), (oa (a 11) cI 201 mn), (oa (a 12) cI 8040 cx), (oa (a 13) cI 8040 cy), (oa (a 27) cI 516 (upd sa (((dn + 1) - bs) + 1) (nI (psN (nnF st tn mn) w0 ft)))), (oa b1 cI (4096 * cE) sh1), (oa (a 16) cI 514 (upd wh (dn + 1) e1)), (oa (a 17) cI 514 (upd of9 (dn + 1) e2)), (oa (a 18) cI 514 (upd we (dn + 1) e3))]) [3, 4, 5, 6, 7, 8, 9, 10, 11, 12, 13, 14, 15, 16, 17, 18, 0, 1, 2] (by decide) rfl
  refine W.widen (k := cE - cp) (n := 8192 * (cE - cp)) (by omega) (by omega) ?_
  rw [hQ9]
  exact W.iret (v := nI (dn + 1)) hx hb hr (fun t ht hW => ⟨⟨rfl, b1, sh1, (hkf), (hkl), (hkb), (hko), by rw [ht]; exact hP9, hD9⟩, hS.F ht⟩) hS.2.2 dX11_ends_67
set_option maxHeartbeats 4000000 in
set_option maxRecDepth 100000 in
theorem k_M_lose (l : Launch) (dC : Nat → ClassId) (dI : Nat → Nat → Nat) (cI cZ cF : ClassId) (sz : Nat) (k0 : Nat) (a : Nat → Nat) (I0 : Nat → Int32) (J0 : Nat → Int64) (e1 : Int32) (e2 : Int32) (e3 : Int32) (e4 : Int32) (ln : Nat) (cl : Nat) (la : Nat → Int32) (lb : Nat → Int32) (lc : Nat → Int32) (ld : Nat → Int32) (hln : I0 26 = nI ln) (hlc : ln ≤ 64 * cl) (hcl1 : 1 ≤ cl) (hclm : cl ≤ 1000000) : Met l yX11_lose (.code yX11_lose cX11_lose 11 none :: ws0) ({ frames := 0, cells := 4 * (dl cl ln - cl), slots := 512 * (dl cl ln - cl), locals := 0 } : Room) (va_Pc [.ref k0, .int e1, .int e2, .int e3, .int e4] (zPre (dC, dI) classes (zTy cI cZ cF) [(om k0 a I0 J0), (oa (a 22) cI (64 * cl) la), (oa (a 23) cI (64 * cl) lb), (oa (a 24) cI (64 * cl) lc), (oa (a 25) cI (64 * cl) ld)] sz zXN)) (zQ none (fun t => ∃ (bl0 : Nat), ∃ (bl1 : Nat), ∃ (bl2 : Nat), ∃ (bl3 : Nat), ∃ (cl1 : Nat), ∃ (la1 : Nat → Int32), ∃ (lb1 : Nat → Int32), ∃ (lc1 : Nat → Int32), ∃ (ld1 : Nat → Int32), (cl1 = dl cl ln) ∧ (la1 ln = e1) ∧ (lb1 ln = e2) ∧ (lc1 ln = e3) ∧ (ld1 ln = e4) ∧ (∀ j, j < ln → la1 j = la j) ∧ (∀ j, j < ln → lb1 j = lb j) ∧ (∀ j, j < ln → lc1 j = lc j) ∧ (∀ j, j < ln → ld1 j = ld j) ∧ va_P (dC, dI) classes [(om k0 (va_up (va_up (va_up (va_up a 22 bl0) 23 bl1) 24 bl2) 25 bl3) (upd I0 26 (nI (ln + 1))) J0), (oa bl0 cI (64 * cl1) la1), (oa bl1 cI (64 * cl1) lb1), (oa bl2 cI (64 * cl1) lc1), (oa bl3 cI (64 * cl1) ld1)] t.heap ∧ va_D (va_A [(om k0 a I0 J0), (oa (a 22) cI (64 * cl) la), (oa (a 23) cI (64 * cl) lb), (oa (a 24) cI (64 * cl) lc), (oa (a 25) cI (64 * cl) ld)] sz) [(om k0 (va_up (va_up (va_up (va_up a 22 bl0) 23 bl1) 24 bl2) 25 bl3) (upd I0 26 (nI (ln + 1))) J0), (oa bl0 cI (64 * cl1) la1), (oa bl1 cI (64 * cl1) lb1), (oa bl2 cI (64 * cl1) lc1), (oa bl3 cI (64 * cl1) ld1)]) (va_A [(om k0 a I0 J0), (oa (a 22) cI (64 * cl) la), (oa (a 23) cI (64 * cl) lb), (oa (a 24) cI (64 * cl) lc), (oa (a 25) cI (64 * cl) ld)] sz)) (4 * (dl cl ln - cl)) (512 * (dl cl ln - cl)) (va_A [(om k0 a I0 J0), (oa (a 22) cI (64 * cl) la), (oa (a 23) cI (64 * cl) lb), (oa (a 24) cI (64 * cl) lc), (oa (a 25) cI (64 * cl) ld)] sz) := by
  refine Met.ofW (cc := cX11_lose) (maxL := 11) (ret := none) (by decide) rfl ?_
  intro p e s m args below meth c s₁ B hml hv
  obtain ⟨rfl, hsz, hP, hK, hD0, hXN⟩ := hv
  have hx := B.exec
  have hb := B.bytes
  have hr := B.returns
  have hts0 := atoms_spec (ws := .code yX11_lose cX11_lose 11 none :: ws0) B.pre
  have hts : ∀ w9 ∈ ws0, w9.before ([.ref k0, .int e1, .int e2, .int e3, .int e4] : List Value).toArray s = true := fun w9 h => hts0 w9 (List.mem_cons_of_mem _ h)
  have hown : s.vm.findClass "ScaleShopModel" = some m.cls := findClass_of_methodNamed B.named
  have hlocks := B.notSynchronized
  subst hsz
  have hD := hD0.self (sz := s.heap.size)
  clear hD0
  generalize hAe : va_A [(om k0 a I0 J0), (oa (a 22) cI (64 * cl) la), (oa (a 23) cI (64 * cl) lb), (oa (a 24) cI (64 * cl) lc), (oa (a 25) cI (64 * cl) ld)] s.heap.size = A at hD ⊢
  have hA : ∀ q : Nat, s.heap.size ≤ q → A q := fun q h => by rw [← hAe]; exact Or.inr h
  clear hAe
  have hS : va_S A s.heap s.heap [] := va_S.rf
  have hP : va_P (dC, dI) classes [(om k0 a I0 J0), (oa (a 22) cI (64 * cl) la), (oa (a 23) cI (64 * cl) lb), (oa (a 24) cI (64 * cl) lc), (oa (a 25) cI (64 * cl) ld)] s.heap := hP
  obtain ⟨Q9, hQ9⟩ : ∃ Q9 : State → Prop, Q9 = MQ below (zQ none (fun t => ∃ (bl0 : Nat), ∃ (bl1 : Nat), ∃ (bl2 : Nat), ∃ (bl3 : Nat), ∃ (cl1 : Nat), ∃ (la1 : Nat → Int32), ∃ (lb1 : Nat → Int32), ∃ (lc1 : Nat → Int32), ∃ (ld1 : Nat → Int32), (cl1 = dl cl ln) ∧ (la1 ln = e1) ∧ (lb1 ln = e2) ∧ (lc1 ln = e3) ∧ (ld1 ln = e4) ∧ (∀ j, j < ln → la1 j = la j) ∧ (∀ j, j < ln → lb1 j = lb j) ∧ (∀ j, j < ln → lc1 j = lc j) ∧ (∀ j, j < ln → ld1 j = ld j) ∧ va_P (dC, dI) classes [(om k0 (va_up (va_up (va_up (va_up a 22 bl0) 23 bl1) 24 bl2) 25 bl3) (upd I0 26 (nI (ln + 1))) J0), (oa bl0 cI (64 * cl1) la1), (oa bl1 cI (64 * cl1) lb1), (oa bl2 cI (64 * cl1) lc1), (oa bl3 cI (64 * cl1) ld1)] t.heap ∧ va_D A [(om k0 (va_up (va_up (va_up (va_up a 22 bl0) 23 bl1) 24 bl2) 25 bl3) (upd I0 26 (nI (ln + 1))) J0), (oa bl0 cI (64 * cl1) la1), (oa bl1 cI (64 * cl1) lb1), (oa bl2 cI (64 * cl1) lc1), (oa bl3 cI (64 * cl1) ld1)]) A) ([.ref k0, .int e1, .int e2, .int e3, .int e4] : List Value).toArray s (4 * (dl cl ln - cl)) (512 * (dl cl ln - cl)) A := ⟨_, rfl⟩
  rw [← hQ9]
  have hl := lv_entry ([.ref k0, .int e1, .int e2, .int e3, .int e4]) (n := 11) (Nat.le_of_ble_eq_true rfl)
  rw [lg_entry_eq]
  generalize (lg_sl ([.ref k0, .int e1, .int e2, .int e3, .int e4]) ++ List.replicate (11 - (lg_sl ([.ref k0, .int e1, .int e2, .int e3, .int e4])).length) Slot.unset).toArray = ls at hl ⊢
  have hl : lv_has ls 11 [(0, .ref k0), (1, .int e1), (2, .int e2), (3, .int e3), (4, .int e4)] := hl
  have hdl : dl cl ln = if ln = 64 * cl then 2 * cl else cl := rfl
  refine lv_aload_n hx hb dX11_lose_0 rfl (lv_at hl 0 rfl) ?_
  refine va_get (D := (dC, dI)) (ci := 9) (v := .int (I0 26)) (C := RX11) (T := TX11) (N := 55) hx hb hts inX11 hown hK hP 0 rfl rfl 26 (by decide) (hts _ mw_1185) (fun _ h9 => h9) rfl dX11_lose_1 ?_
  refine zz_i (v := nI ln) (hln) ?_
  refine lv_aload_n hx hb dX11_lose_4 rfl (lv_at hl 0 rfl) ?_
  refine va_get (D := (dC, dI)) (ci := 9) (v := .ref (a 23)) (C := RX11) (T := TX11) (N := 55) hx hb hts inX11 hown hK hP 0 rfl rfl 23 (by decide) (hts _ mw_1182) (fun _ h9 => h9) rfl dX11_lose_5 ?_
  refine va_alen (v := nI (64 * cl)) hx hb hK hP 2 0 rfl rfl rfl dX11_lose_8 ?_
  refine lv_icmp_ne (tgt := 134) hx hb dX11_lose_9 (by decide) (fun c_1 => ?_) (fun c_1 => ?_)
  · have c_1 : ¬ ((ln : Nat) : Int) = ((64 * cl : Nat) : Int) := zc_ne (nI_toInt (by omega)) (nI_toInt (by omega)) c_1
    refine lv_aload_n hx hb dX11_lose_134 rfl (lv_at hl 0 rfl) ?_
    refine va_get (D := (dC, dI)) (ci := 9) (v := .ref (a 22)) (C := RX11) (T := TX11) (N := 55) hx hb hts inX11 hown hK hP 0 rfl rfl 22 (by decide) (hts _ mw_1181) (fun _ h9 => h9) rfl dX11_lose_135 ?_
    refine lv_aload_n hx hb dX11_lose_138 rfl (lv_at hl 0 rfl) ?_
    refine va_get (D := (dC, dI)) (ci := 9) (v := .int (I0 26)) (C := RX11) (T := TX11) (N := 55) hx hb hts inX11 hown hK hP 0 rfl rfl 26 (by decide) (hts _ mw_1185) (fun _ h9 => h9) rfl dX11_lose_139 ?_
    refine zz_i (v := nI ln) (hln) ?_
    refine lv_iload_n hx hb dX11_lose_142 rfl (lv_at hl 1 rfl) ?_
    refine z_iast hx hb hK hP hD hS 1 0 rfl rfl (e := ln) (x := e1) rfl (by omega) (by omega) dX11_lose_143 (fun H locs hP hD hS => ?_)
    have hP : va_P (dC, dI) classes [(om k0 a I0 J0), (oa (a 22) cI (64 * cl) (upd la ln e1)), (oa (a 23) cI (64 * cl) lb), (oa (a 24) cI (64 * cl) lc), (oa (a 25) cI (64 * cl) ld)] H := hP
    have hD : va_D A [(om k0 a I0 J0), (oa (a 22) cI (64 * cl) (upd la ln e1)), (oa (a 23) cI (64 * cl) lb), (oa (a 24) cI (64 * cl) lc), (oa (a 25) cI (64 * cl) ld)] := hD
    refine lv_aload_n hx hb dX11_lose_144 rfl (lv_at hl 0 rfl) ?_
    refine va_get (D := (dC, dI)) (ci := 9) (v := .ref (a 23)) (C := RX11) (T := TX11) (N := 55) hx hb hts inX11 hown hK hP 0 rfl rfl 23 (by decide) (hts _ mw_1182) (fun _ h9 => h9) rfl dX11_lose_145 ?_
    refine lv_aload_n hx hb dX11_lose_148 rfl (lv_at hl 0 rfl) ?_
    refine va_get (D := (dC, dI)) (ci := 9) (v := .int (I0 26)) (C := RX11) (T := TX11) (N := 55) hx hb hts inX11 hown hK hP 0 rfl rfl 26 (by decide) (hts _ mw_1185) (fun _ h9 => h9) rfl dX11_lose_149 ?_
    refine zz_i (v := nI ln) (hln) ?_
    refine lv_iload_n hx hb dX11_lose_152 rfl (lv_at hl 2 rfl) ?_
    refine z_iast hx hb hK hP hD hS 2 0 rfl rfl (e := ln) (x := e2) rfl (by omega) (by omega) dX11_lose_153 (fun H locs hP hD hS => ?_)
    have hP : va_P (dC, dI) classes [(om k0 a I0 J0), (oa (a 22) cI (64 * cl) (upd la ln e1)), (oa (a 23) cI (64 * cl) (upd lb ln e2)), (oa (a 24) cI (64 * cl) lc), (oa (a 25) cI (64 * cl) ld)] H := hP
    have hD : va_D A [(om k0 a I0 J0), (oa (a 22) cI (64 * cl) (upd la ln e1)), (oa (a 23) cI (64 * cl) (upd lb ln e2)), (oa (a 24) cI (64 * cl) lc), (oa (a 25) cI (64 * cl) ld)] := hD
    refine lv_aload_n hx hb dX11_lose_154 rfl (lv_at hl 0 rfl) ?_
    refine va_get (D := (dC, dI)) (ci := 9) (v := .ref (a 24)) (C := RX11) (T := TX11) (N := 55) hx hb hts inX11 hown hK hP 0 rfl rfl 24 (by decide) (hts _ mw_1183) (fun _ h9 => h9) rfl dX11_lose_155 ?_
    refine lv_aload_n hx hb dX11_lose_158 rfl (lv_at hl 0 rfl) ?_
    refine va_get (D := (dC, dI)) (ci := 9) (v := .int (I0 26)) (C := RX11) (T := TX11) (N := 55) hx hb hts inX11 hown hK hP 0 rfl rfl 26 (by decide) (hts _ mw_1185) (fun _ h9 => h9) rfl dX11_lose_159 ?_
    refine zz_i (v := nI ln) (hln) ?_
    refine lv_iload_n hx hb dX11_lose_162 rfl (lv_at hl 3 rfl) ?_
    refine z_iast hx hb hK hP hD hS 3 0 rfl rfl (e := ln) (x := e3) rfl (by omega) (by omega) dX11_lose_163 (fun H locs hP hD hS => ?_)
    have hP : va_P (dC, dI) classes [(om k0 a I0 J0), (oa (a 22) cI (64 * cl) (upd la ln e1)), (oa (a 23) cI (64 * cl) (upd lb ln e2)), (oa (a 24) cI (64 * cl) (upd lc ln e3)), (oa (a 25) cI (64 * cl) ld)] H := hP
    have hD : va_D A [(om k0 a I0 J0), (oa (a 22) cI (64 * cl) (upd la ln e1)), (oa (a 23) cI (64 * cl) (upd lb ln e2)), (oa (a 24) cI (64 * cl) (upd lc ln e3)), (oa (a 25) cI (64 * cl) ld)] := hD
    refine lv_aload_n hx hb dX11_lose_164 rfl (lv_at hl 0 rfl) ?_
    refine va_get (D := (dC, dI)) (ci := 9) (v := .ref (a 25)) (C := RX11) (T := TX11) (N := 55) hx hb hts inX11 hown hK hP 0 rfl rfl 25 (by decide) (hts _ mw_1184) (fun _ h9 => h9) rfl dX11_lose_165 ?_
    refine lv_aload_n hx hb dX11_lose_168 rfl (lv_at hl 0 rfl) ?_
    refine va_get (D := (dC, dI)) (ci := 9) (v := .int (I0 26)) (C := RX11) (T := TX11) (N := 55) hx hb hts inX11 hown hK hP 0 rfl rfl 26 (by decide) (hts _ mw_1185) (fun _ h9 => h9) rfl dX11_lose_169 ?_
    refine zz_i (v := nI ln) (hln) ?_
    refine lv_iload hx hb dX11_lose_172 (lv_at hl 4 rfl) ?_
    refine z_iast hx hb hK hP hD hS 4 0 rfl rfl (e := ln) (x := e4) rfl (by omega) (by omega) dX11_lose_174 (fun H locs hP hD hS => ?_)
    have hP : va_P (dC, dI) classes [(om k0 a I0 J0), (oa (a 22) cI (64 * cl) (upd la ln e1)), (oa (a 23) cI (64 * cl) (upd lb ln e2)), (oa (a 24) cI (64 * cl) (upd lc ln e3)), (oa (a 25) cI (64 * cl) (upd ld ln e4))] H := hP
    have hD : va_D A [(om k0 a I0 J0), (oa (a 22) cI (64 * cl) (upd la ln e1)), (oa (a 23) cI (64 * cl) (upd lb ln e2)), (oa (a 24) cI (64 * cl) (upd lc ln e3)), (oa (a 25) cI (64 * cl) (upd ld ln e4))] := hD
    refine lv_aload_n hx hb dX11_lose_175 rfl (lv_at hl 0 rfl) ?_
    refine lv_dup hx hb dX11_lose_176 rfl ?_
    refine va_get (D := (dC, dI)) (ci := 9) (v := .int (I0 26)) (C := RX11) (T := TX11) (N := 55) hx hb hts inX11 hown hK hP 0 rfl rfl 26 (by decide) (hts _ mw_1185) (fun _ h9 => h9) rfl dX11_lose_177 ?_
    refine zz_i (v := nI ln) (hln) ?_
    refine lv_iconst (v := 1) hx hb dX11_lose_180 (by decide) ?_
    refine lv_iadd hx hb dX11_lose_181 ?_
    refine zz_i (v := nI (ln + 1)) (nI_add ln 1) ?_
    refine va_put (D := (dC, dI)) (ci := 9) (v := .int (nI (ln + 1))) (ty := .int) (C := RX11) (T := TX11) (N := 55) hx hb hts inX11 tyX11 tyX11_ok nmX11 hown hK hP hD hS 0 rfl rfl 26 (by decide) (hts _ mw_1185) (fun _ h9 => h9) rfl (by decide +kernel) rfl rfl (Nat.le_of_ble_eq_true rfl) dX11_lose_182 (fun H locs hP hD hS => ?_)
    have hP : va_P (dC, dI) classes [(om k0 a (upd I0 26 (nI (ln + 1))) J0), (oa (a 22) cI (64 * cl) (upd la ln e1)), (oa (a 23) cI (64 * cl) (upd lb ln e2)), (oa (a 24) cI (64 * cl) (upd lc ln e3)), (oa (a 25) cI (64 * cl) (upd ld ln e4))] H := hP
    have hD : va_D A [(om k0 a (upd I0 26 (nI (ln + 1))) J0), (oa (a 22) cI (64 * cl) (upd la ln e1)), (oa (a 23) cI (64 * cl) (upd lb ln e2)), (oa (a 24) cI (64 * cl) (upd lc ln e3)), (oa (a 25) cI (64 * cl) (upd ld ln e4))] := hD
    have hP9 := hP.sub (ws' := [(om k0 a (upd I0 26 (nI (ln + 1))) J0), (oa (a 22) cI (64 * cl) (upd la ln e1)), (oa (a 23) cI (64 * cl) (upd lb ln e2)), (oa (a 24) cI (64 * cl) (upd lc ln e3)), (oa (a 25) cI (64 * cl) (upd ld ln e4))]) [0, 1, 2, 3, 4] rfl
    have hD9 := hD.sub (ws' := [(om k0 a (upd I0 26 (nI (ln + 1))) J0), (oa (a 22) cI (64 * cl) (upd la ln e1)), (oa (a 23) cI (64 * cl) (upd lb ln e2)), (oa (a 24) cI (64 * cl) (upd lc ln e3)), (oa (a 25) cI (64 * cl) (upd ld ln e4))]) [0, 1, 2, 3, 4] (by decide) rfl
    refine W.widen (k := 4 * (dl cl ln - cl)) (n := 512 * (dl cl ln - cl)) (by omega) (by omega) ?_
    rw [hQ9]
    exact W.vret hx hb hr (fun t ht hW => ⟨⟨rfl, (a 22), (a 23), (a 24), (a 25), cl, (upd la ln e1), (upd lb ln e2), (upd lc ln e3), (upd ld ln e4), (by first | (rw [hdl, if_neg (by omega)]) | (rw [hdl])), (by exact up_at _ _ _), (by exact up_at _ _ _), (by exact up_at _ _ _), (by exact up_at _ _ _), (by first | exact up_lo (fun j hj => ha1 j (by omega)) (Nat.le_refl _) | exact up_lo (fun j hj => rfl) (Nat.le_refl _)), (by first | exact up_lo (fun j hj => ha2 j (by omega)) (Nat.le_refl _) | exact up_lo (fun j hj => rfl) (Nat.le_refl _)), (by first | exact up_lo (fun j hj => ha3 j (by omega)) (Nat.le_refl _) | exact up_lo (fun j hj => rfl) (Nat.le_refl _)), (by first | exact up_lo (fun j hj => ha4 j (by omega)) (Nat.le_refl _) | exact up_lo (fun j hj => rfl) (Nat.le_refl _)), by rw [ht]; exact hP9, hD9⟩, hS.F ht⟩) hS.2.2 dX11_lose_185
  · have c_1 : ((ln : Nat) : Int) = ((64 * cl : Nat) : Int) := zc_eq (nI_toInt (by omega)) (nI_toInt (by omega)) c_1
    have hle : ln = 64 * cl := (by omega)
    rw [if_pos hle] at hdl
    refine lv_iconst (v := 2) hx hb dX11_lose_12 (by decide) ?_
    refine lv_aload_n hx hb dX11_lose_13 rfl (lv_at hl 0 rfl) ?_
    refine va_get (D := (dC, dI)) (ci := 9) (v := .int (I0 26)) (C := RX11) (T := TX11) (N := 55) hx hb hts inX11 hown hK hP 0 rfl rfl 26 (by decide) (hts _ mw_1185) (fun _ h9 => h9) rfl dX11_lose_14 ?_
    refine zz_i (v := nI ln) (hln) ?_
    refine lv_imul hx hb dX11_lose_17 ?_
    refine zz_i (v := nI (2 * ln)) (pk_mul 2 ln) ?_
    refine zz_i (v := nI (64 * (2 * cl))) (zn_eq (by omega)) ?_
    refine lv_istore (lv' := [(5, .int (nI (64 * (2 * cl)))), (0, .ref k0), (1, .int e1), (2, .int e2), (3, .int e3), (4, .int e4)]) hx hb dX11_lose_18 hl (by decide) rfl (fun ls hl => ?_)
    refine lv_iload hx hb dX11_lose_20 (lv_at hl 0 rfl) ?_
    refine zz_newa (atype := .int) (a0 := (64 * (2 * cl), .inl (fun _ => 0))) hx hb (hts _ mw_195) (ty := .int) rfl hK hP hD hS hA (n := nI (64 * (2 * cl))) (N' := 64 * (2 * cl)) (cA := cI) 0 rfl (fun _ => rfl) (nI_pos (by omega)) (nI_clamp (by omega)) (show (64 * (2 * cl)) * 4 ≤ 536870912 by omega) (show 1 ≤ 4 * (dl cl ln - cl) by omega) (show (0 + (64 * (2 * cl))) ≤ 512 * (dl cl ln - cl) by omega) dX11_lose_22 (fun n1 H hP hD hS => ?_)
    have hP : va_P (dC, dI) classes [(om k0 a I0 J0), (oa (a 22) cI (64 * cl) la), (oa (a 23) cI (64 * cl) lb), (oa (a 24) cI (64 * cl) lc), (oa (a 25) cI (64 * cl) ld), (oa n1 cI (64 * (2 * cl)) (fun _ => 0))] H := hP
    have hD : va_D A [(om k0 a I0 J0), (oa (a 22) cI (64 * cl) la), (oa (a 23) cI (64 * cl) lb), (oa (a 24) cI (64 * cl) lc), (oa (a 25) cI (64 * cl) ld), (oa n1 cI (64 * (2 * cl)) (fun _ => 0))] := hD
    refine lv_astore (lv' := [(6, .ref n1), (5, .int (nI (64 * (2 * cl)))), (0, .ref k0), (1, .int e1), (2, .int e2), (3, .int e3), (4, .int e4)]) hx hb dX11_lose_24 hl (by decide) rfl (fun ls hl => ?_)
    refine lv_iload hx hb dX11_lose_26 (lv_at hl 1 rfl) ?_
    refine zz_newa (atype := .int) (a0 := (64 * (2 * cl), .inl (fun _ => 0))) hx hb (hts _ mw_195) (ty := .int) rfl hK hP hD hS hA (n := nI (64 * (2 * cl))) (N' := 64 * (2 * cl)) (cA := cI) 0 rfl (fun _ => rfl) (nI_pos (by omega)) (nI_clamp (by omega)) (show (64 * (2 * cl)) * 4 ≤ 536870912 by omega) (show 2 ≤ 4 * (dl cl ln - cl) by omega) (show ((0 + (64 * (2 * cl))) + (64 * (2 * cl))) ≤ 512 * (dl cl ln - cl) by omega) dX11_lose_28 (fun n2 H hP hD hS => ?_)
    have hP : va_P (dC, dI) classes [(om k0 a I0 J0), (oa (a 22) cI (64 * cl) la), (oa (a 23) cI (64 * cl) lb), (oa (a 24) cI (64 * cl) lc), (oa (a 25) cI (64 * cl) ld), (oa n1 cI (64 * (2 * cl)) (fun _ => 0)), (oa n2 cI (64 * (2 * cl)) (fun _ => 0))] H := hP
    have hD : va_D A [(om k0 a I0 J0), (oa (a 22) cI (64 * cl) la), (oa (a 23) cI (64 * cl) lb), (oa (a 24) cI (64 * cl) lc), (oa (a 25) cI (64 * cl) ld), (oa n1 cI (64 * (2 * cl)) (fun _ => 0)), (oa n2 cI (64 * (2 * cl)) (fun _ => 0))] := hD
    refine lv_astore (lv' := [(7, .ref n2), (6, .ref n1), (5, .int (nI (64 * (2 * cl)))), (0, .ref k0), (1, .int e1), (2, .int e2), (3, .int e3), (4, .int e4)]) hx hb dX11_lose_30 hl (by decide) rfl (fun ls hl => ?_)
    refine lv_iload hx hb dX11_lose_32 (lv_at hl 2 rfl) ?_
    refine zz_newa (atype := .int) (a0 := (64 * (2 * cl), .inl (fun _ => 0))) hx hb (hts _ mw_195) (ty := .int) rfl hK hP hD hS hA (n := nI (64 * (2 * cl))) (N' := 64 * (2 * cl)) (cA := cI) 0 rfl (fun _ => rfl) (nI_pos (by omega)) (nI_clamp (by omega)) (show (64 * (2 * cl)) * 4 ≤ 536870912 by omega) (show 3 ≤ 4 * (dl cl ln - cl) by omega) (show (((0 + (64 * (2 * cl))) + (64 * (2 * cl))) + (64 * (2 * cl))) ≤ 512 * (dl cl ln - cl) by omega) dX11_lose_34 (fun n3 H hP hD hS => ?_)
    have hP : va_P (dC, dI) classes [(om k0 a I0 J0), (oa (a 22) cI (64 * cl) la), (oa (a 23) cI (64 * cl) lb), (oa (a 24) cI (64 * cl) lc), (oa (a 25) cI (64 * cl) ld), (oa n1 cI (64 * (2 * cl)) (fun _ => 0)), (oa n2 cI (64 * (2 * cl)) (fun _ => 0)), (oa n3 cI (64 * (2 * cl)) (fun _ => 0))] H := hP
    have hD : va_D A [(om k0 a I0 J0), (oa (a 22) cI (64 * cl) la), (oa (a 23) cI (64 * cl) lb), (oa (a 24) cI (64 * cl) lc), (oa (a 25) cI (64 * cl) ld), (oa n1 cI (64 * (2 * cl)) (fun _ => 0)), (oa n2 cI (64 * (2 * cl)) (fun _ => 0)), (oa n3 cI (64 * (2 * cl)) (fun _ => 0))] := hD
    refine lv_astore (lv' := [(8, .ref n3), (7, .ref n2), (6, .ref n1), (5, .int (nI (64 * (2 * cl)))), (0, .ref k0), (1, .int e1), (2, .int e2), (3, .int e3), (4, .int e4)]) hx hb dX11_lose_36 hl (by decide) rfl (fun ls hl => ?_)
    refine lv_iload hx hb dX11_lose_38 (lv_at hl 3 rfl) ?_
    refine zz_newa (atype := .int) (a0 := (64 * (2 * cl), .inl (fun _ => 0))) hx hb (hts _ mw_195) (ty := .int) rfl hK hP hD hS hA (n := nI (64 * (2 * cl))) (N' := 64 * (2 * cl)) (cA := cI) 0 rfl (fun _ => rfl) (nI_pos (by omega)) (nI_clamp (by omega)) (show (64 * (2 * cl)) * 4 ≤ 536870912 by omega) (show 4 ≤ 4 * (dl cl ln - cl) by omega) (show ((((0 + (64 * (2 * cl))) + (64 * (2 * cl))) + (64 * (2 * cl))) + (64 * (2 * cl))) ≤ 512 * (dl cl ln - cl) by omega) dX11_lose_40 (fun n4 H hP hD hS => ?_)
    have hP : va_P (dC, dI) classes [(om k0 a I0 J0), (oa (a 22) cI (64 * cl) la), (oa (a 23) cI (64 * cl) lb), (oa (a 24) cI (64 * cl) lc), (oa (a 25) cI (64 * cl) ld), (oa n1 cI (64 * (2 * cl)) (fun _ => 0)), (oa n2 cI (64 * (2 * cl)) (fun _ => 0)), (oa n3 cI (64 * (2 * cl)) (fun _ => 0)), (oa n4 cI (64 * (2 * cl)) (fun _ => 0))] H := hP
    have hD : va_D A [(om k0 a I0 J0), (oa (a 22) cI (64 * cl) la), (oa (a 23) cI (64 * cl) lb), (oa (a 24) cI (64 * cl) lc), (oa (a 25) cI (64 * cl) ld), (oa n1 cI (64 * (2 * cl)) (fun _ => 0)), (oa n2 cI (64 * (2 * cl)) (fun _ => 0)), (oa n3 cI (64 * (2 * cl)) (fun _ => 0)), (oa n4 cI (64 * (2 * cl)) (fun _ => 0))] := hD
    refine lv_astore (lv' := [(9, .ref n4), (8, .ref n3), (7, .ref n2), (6, .ref n1), (5, .int (nI (64 * (2 * cl)))), (0, .ref k0), (1, .int e1), (2, .int e2), (3, .int e3), (4, .int e4)]) hx hb dX11_lose_42 hl (by decide) rfl (fun ls hl => ?_)
    refine lv_iconst (v := 0) hx hb dX11_lose_44 (by decide) ?_
    refine lv_istore (lv' := [(10, .int 0), (9, .ref n4), (8, .ref n3), (7, .ref n2), (6, .ref n1), (5, .int (nI (64 * (2 * cl)))), (0, .ref k0), (1, .int e1), (2, .int e2), (3, .int e3), (4, .int e4)]) hx hb dX11_lose_45 hl (by decide) rfl (fun ls hl => ?_)
    have hl_47 : ∀ (n9 : Nat) (k : Nat) (f1 : Nat → Int32) (f2 : Nat → Int32) (f3 : Nat → Int32) (f4 : Nat → Int32) (H : Heap) (locs : List Loc) (ls : Array Slot), ln - k < n9 → (k ≤ ln) → (∀ j, j < k → f1 j = la j) → (∀ j, j < k → f2 j = lb j) → (∀ j, j < k → f3 j = lc j) → (∀ j, j < k → f4 j = ld j) → va_P (dC, dI) classes [(om k0 a I0 J0), (oa (a 22) cI (64 * cl) la), (oa (a 23) cI (64 * cl) lb), (oa (a 24) cI (64 * cl) lc), (oa (a 25) cI (64 * cl) ld), (oa n1 cI (64 * (2 * cl)) f1), (oa n2 cI (64 * (2 * cl)) f2), (oa n3 cI (64 * (2 * cl)) f3), (oa n4 cI (64 * (2 * cl)) f4)] H → va_D A [(om k0 a I0 J0), (oa (a 22) cI (64 * cl) la), (oa (a 23) cI (64 * cl) lb), (oa (a 24) cI (64 * cl) lc), (oa (a 25) cI (64 * cl) ld), (oa n1 cI (64 * (2 * cl)) f1), (oa n2 cI (64 * (2 * cl)) f2), (oa n3 cI (64 * (2 * cl)) f3), (oa n4 cI (64 * (2 * cl)) f4)] → va_S A s.heap H locs → lv_has ls 11 [(10, .int (nI k)), (9, .ref n4), (8, .ref n3), (7, .ref n2), (6, .ref n1), (5, .int (nI (64 * (2 * cl)))), (0, .ref k0), (1, .int e1), (2, .int e2), (3, .int e3), (4, .int e4)] → W p l e ((headSpec (.code yX11_lose cX11_lose 11 none :: ws0) ({ frames := 0, cells := 4 * (dl cl ln - cl), slots := 512 * (dl cl ln - cl), locals := 0 } : Room)).room) s m ([.ref k0, .int e1, .int e2, .int e3, .int e4] : List Value).toArray below meth c H locs 4 ((((0 + (64 * (2 * cl))) + (64 * (2 * cl))) + (64 * (2 * cl))) + (64 * (2 * cl))) Q9 (F0 m 47 ls []) := by
      intro n9
      induction n9 with
      | zero => intro k f1 f2 f3 f4 H locs ls hm; exact absurd hm (Nat.not_lt_zero _)
      | succ n9 ih_47 =>
        intro k f1 f2 f3 f4 H locs ls hm hk ha1 ha2 ha3 ha4 hP hD hS hl
        refine lv_iload hx hb dX11_lose_47 (lv_at hl 0 rfl) ?_
        refine lv_aload_n hx hb dX11_lose_49 rfl (lv_at hl 6 rfl) ?_
        refine va_get (D := (dC, dI)) (ci := 9) (v := .int (I0 26)) (C := RX11) (T := TX11) (N := 55) hx hb hts inX11 hown hK hP 0 rfl rfl 26 (by decide) (hts _ mw_1185) (fun _ h9 => h9) rfl dX11_lose_50 ?_
        refine zz_i (v := nI ln) (hln) ?_
        refine lv_icmp_ge (tgt := 110) hx hb dX11_lose_53 (by decide) (fun c_2 => ?_) (fun c_2 => ?_)
        · have c_2 : ((ln : Nat) : Int) ≤ ((k : Nat) : Int) := zc_le (nI_toInt (by omega)) (nI_toInt (by omega)) c_2
          refine lv_aload_n hx hb dX11_lose_110 rfl (lv_at hl 6 rfl) ?_
          refine lv_aload hx hb dX11_lose_111 (lv_at hl 4 rfl) ?_
          refine va_put (D := (dC, dI)) (ci := 9) (v := .ref n1) (ty := .array .int) (C := RX11) (T := TX11) (N := 55) hx hb hts inX11 tyX11 tyX11_ok nmX11 hown hK hP hD hS 0 rfl rfl 22 (by decide) (hts _ mw_1181) (fun _ h9 => h9) rfl (by decide +kernel) rfl rfl (Nat.le_of_ble_eq_true rfl) dX11_lose_113 (fun H locs hP hD hS => ?_)
          have hP : va_P (dC, dI) classes [(om k0 (va_up a 22 n1) I0 J0), (oa (a 22) cI (64 * cl) la), (oa (a 23) cI (64 * cl) lb), (oa (a 24) cI (64 * cl) lc), (oa (a 25) cI (64 * cl) ld), (oa n1 cI (64 * (2 * cl)) f1), (oa n2 cI (64 * (2 * cl)) f2), (oa n3 cI (64 * (2 * cl)) f3), (oa n4 cI (64 * (2 * cl)) f4)] H := hP
          have hD : va_D A [(om k0 (va_up a 22 n1) I0 J0), (oa (a 22) cI (64 * cl) la), (oa (a 23) cI (64 * cl) lb), (oa (a 24) cI (64 * cl) lc), (oa (a 25) cI (64 * cl) ld), (oa n1 cI (64 * (2 * cl)) f1), (oa n2 cI (64 * (2 * cl)) f2), (oa n3 cI (64 * (2 * cl)) f3), (oa n4 cI (64 * (2 * cl)) f4)] := hD
          refine lv_aload_n hx hb dX11_lose_116 rfl (lv_at hl 6 rfl) ?_
          refine lv_aload hx hb dX11_lose_117 (lv_at hl 3 rfl) ?_
          refine va_put (D := (dC, dI)) (ci := 9) (v := .ref n2) (ty := .array .int) (C := RX11) (T := TX11) (N := 55) hx hb hts inX11 tyX11 tyX11_ok nmX11 hown hK hP hD hS 0 rfl rfl 23 (by decide) (hts _ mw_1182) (fun _ h9 => h9) rfl (by decide +kernel) rfl rfl (Nat.le_of_ble_eq_true rfl) dX11_lose_119 (fun H locs hP hD hS => ?_)
          have hP : va_P (dC, dI) classes [(om k0 (va_up (va_up a 22 n1) 23 n2) I0 J0), (oa (a 22) cI (64 * cl) la), (oa (a 23) cI (64 * cl) lb), (oa (a 24) cI (64 * cl) lc), (oa (a 25) cI (64 * cl) ld), (oa n1 cI (64 * (2 * cl)) f1), (oa n2 cI (64 * (2 * cl)) f2), (oa n3 cI (64 * (2 * cl)) f3), (oa n4 cI (64 * (2 * cl)) f4)] H := hP
          have hD : va_D A [(om k0 (va_up (va_up a 22 n1) 23 n2) I0 J0), (oa (a 22) cI (64 * cl) la), (oa (a 23) cI (64 * cl) lb), (oa (a 24) cI (64 * cl) lc), (oa (a 25) cI (64 * cl) ld), (oa n1 cI (64 * (2 * cl)) f1), (oa n2 cI (64 * (2 * cl)) f2), (oa n3 cI (64 * (2 * cl)) f3), (oa n4 cI (64 * (2 * cl)) f4)] := hD
          refine lv_aload_n hx hb dX11_lose_122 rfl (lv_at hl 6 rfl) ?_
          refine lv_aload hx hb dX11_lose_123 (lv_at hl 2 rfl) ?_
          refine va_put (D := (dC, dI)) (ci := 9) (v := .ref n3) (ty := .array .int) (C := RX11) (T := TX11) (N := 55) hx hb hts inX11 tyX11 tyX11_ok nmX11 hown hK hP hD hS 0 rfl rfl 24 (by decide) (hts _ mw_1183) (fun _ h9 => h9) rfl (by decide +kernel) rfl rfl (Nat.le_of_ble_eq_true rfl) dX11_lose_125 (fun H locs hP hD hS => ?_)
          have hP : va_P (dC, dI) classes [(om k0 (va_up (va_up (va_up a 22 n1) 23 n2) 24 n3) I0 J0), (oa (a 22) cI (64 * cl) la), (oa (a 23) cI (64 * cl) lb), (oa (a 24) cI (64 * cl) lc), (oa (a 25) cI (64 * cl) ld), (oa n1 cI (64 * (2 * cl)) f1), (oa n2 cI (64 * (2 * cl)) f2), (oa n3 cI (64 * (2 * cl)) f3), (oa n4 cI (64 * (2 * cl)) f4)] H := hP
          have hD : va_D A [(om k0 (va_up (va_up (va_up a 22 n1) 23 n2) 24 n3) I0 J0), (oa (a 22) cI (64 * cl) la), (oa (a 23) cI (64 * cl) lb), (oa (a 24) cI (64 * cl) lc), (oa (a 25) cI (64 * cl) ld), (oa n1 cI (64 * (2 * cl)) f1), (oa n2 cI (64 * (2 * cl)) f2), (oa n3 cI (64 * (2 * cl)) f3), (oa n4 cI (64 * (2 * cl)) f4)] := hD
          refine lv_aload_n hx hb dX11_lose_128 rfl (lv_at hl 6 rfl) ?_
          refine lv_aload hx hb dX11_lose_129 (lv_at hl 1 rfl) ?_
          refine va_put (D := (dC, dI)) (ci := 9) (v := .ref n4) (ty := .array .int) (C := RX11) (T := TX11) (N := 55) hx hb hts inX11 tyX11 tyX11_ok nmX11 hown hK hP hD hS 0 rfl rfl 25 (by decide) (hts _ mw_1184) (fun _ h9 => h9) rfl (by decide +kernel) rfl rfl (Nat.le_of_ble_eq_true rfl) dX11_lose_131 (fun H locs hP hD hS => ?_)
          have hP : va_P (dC, dI) classes [(om k0 (va_up (va_up (va_up (va_up a 22 n1) 23 n2) 24 n3) 25 n4) I0 J0), (oa (a 22) cI (64 * cl) la), (oa (a 23) cI (64 * cl) lb), (oa (a 24) cI (64 * cl) lc), (oa (a 25) cI (64 * cl) ld), (oa n1 cI (64 * (2 * cl)) f1), (oa n2 cI (64 * (2 * cl)) f2), (oa n3 cI (64 * (2 * cl)) f3), (oa n4 cI (64 * (2 * cl)) f4)] H := hP
          have hD : va_D A [(om k0 (va_up (va_up (va_up (va_up a 22 n1) 23 n2) 24 n3) 25 n4) I0 J0), (oa (a 22) cI (64 * cl) la), (oa (a 23) cI (64 * cl) lb), (oa (a 24) cI (64 * cl) lc), (oa (a 25) cI (64 * cl) ld), (oa n1 cI (64 * (2 * cl)) f1), (oa n2 cI (64 * (2 * cl)) f2), (oa n3 cI (64 * (2 * cl)) f3), (oa n4 cI (64 * (2 * cl)) f4)] := hD
          refine lv_aload_n hx hb dX11_lose_134 rfl (lv_at hl 6 rfl) ?_
          refine va_get (D := (dC, dI)) (ci := 9) (v := .ref n1) (C := RX11) (T := TX11) (N := 55) hx hb hts inX11 hown hK hP 0 rfl rfl 22 (by decide) (hts _ mw_1181) (fun _ h9 => h9) rfl dX11_lose_135 ?_
          refine lv_aload_n hx hb dX11_lose_138 rfl (lv_at hl 6 rfl) ?_
          refine va_get (D := (dC, dI)) (ci := 9) (v := .int (I0 26)) (C := RX11) (T := TX11) (N := 55) hx hb hts inX11 hown hK hP 0 rfl rfl 26 (by decide) (hts _ mw_1185) (fun _ h9 => h9) rfl dX11_lose_139 ?_
          refine zz_i (v := nI ln) (hln) ?_
          refine lv_iload_n hx hb dX11_lose_142 rfl (lv_at hl 7 rfl) ?_
          refine z_iast hx hb hK hP hD hS 5 0 rfl rfl (e := ln) (x := e1) rfl (by omega) (by omega) dX11_lose_143 (fun H locs hP hD hS => ?_)
          have hP : va_P (dC, dI) classes [(om k0 (va_up (va_up (va_up (va_up a 22 n1) 23 n2) 24 n3) 25 n4) I0 J0), (oa (a 22) cI (64 * cl) la), (oa (a 23) cI (64 * cl) lb), (oa (a 24) cI (64 * cl) lc), (oa (a 25) cI (64 * cl) ld), (oa n1 cI (64 * (2 * cl)) (upd f1 ln e1)), (oa n2 cI (64 * (2 * cl)) f2), (oa n3 cI (64 * (2 * cl)) f3), (oa n4 cI (64 * (2 * cl)) f4)] H := hP
          have hD : va_D A [(om k0 (va_up (va_up (va_up (va_up a 22 n1) 23 n2) 24 n3) 25 n4) I0 J0), (oa (a 22) cI (64 * cl) la), (oa (a 23) cI (64 * cl) lb), (oa (a 24) cI (64 * cl) lc), (oa (a 25) cI (64 * cl) ld), (oa n1 cI (64 * (2 * cl)) (upd f1 ln e1)), (oa n2 cI (64 * (2 * cl)) f2), (oa n3 cI (64 * (2 * cl)) f3), (oa n4 cI (64 * (2 * cl)) f4)] := hD
          refine lv_aload_n hx hb dX11_lose_144 rfl (lv_at hl 6 rfl) ?_
          refine va_get (D := (dC, dI)) (ci := 9) (v := .ref n2) (C := RX11) (T := TX11) (N := 55) hx hb hts inX11 hown hK hP 0 rfl rfl 23 (by decide) (hts _ mw_1182) (fun _ h9 => h9) rfl dX11_lose_145 ?_
          refine lv_aload_n hx hb dX11_lose_148 rfl (lv_at hl 6 rfl) ?_
          refine va_get (D := (dC, dI)) (ci := 9) (v := .int (I0 26)) (C := RX11) (T := TX11) (N := 55) hx hb hts inX11 hown hK hP 0 rfl rfl 26 (by decide) (hts _ mw_1185) (fun _ h9 => h9) rfl dX11_lose_149 ?_
          refine zz_i (v := nI ln) (hln) ?_
          refine lv_iload_n hx hb dX11_lose_152 rfl (lv_at hl 8 rfl) ?_
          refine z_iast hx hb hK hP hD hS 6 0 rfl rfl (e := ln) (x := e2) rfl (by omega) (by omega) dX11_lose_153 (fun H locs hP hD hS => ?_)
          have hP : va_P (dC, dI) classes [(om k0 (va_up (va_up (va_up (va_up a 22 n1) 23 n2) 24 n3) 25 n4) I0 J0), (oa (a 22) cI (64 * cl) la), (oa (a 23) cI (64 * cl) lb), (oa (a 24) cI (64 * cl) lc), (oa (a 25) cI (64 * cl) ld), (oa n1 cI (64 * (2 * cl)) (upd f1 ln e1)), (oa n2 cI (64 * (2 * cl)) (upd f2 ln e2)), (oa n3 cI (64 * (2 * cl)) f3), (oa n4 cI (64 * (2 * cl)) f4)] H := hP
          have hD : va_D A [(om k0 (va_up (va_up (va_up (va_up a 22 n1) 23 n2) 24 n3) 25 n4) I0 J0), (oa (a 22) cI (64 * cl) la), (oa (a 23) cI (64 * cl) lb), (oa (a 24) cI (64 * cl) lc), (oa (a 25) cI (64 * cl) ld), (oa n1 cI (64 * (2 * cl)) (upd f1 ln e1)), (oa n2 cI (64 * (2 * cl)) (upd f2 ln e2)), (oa n3 cI (64 * (2 * cl)) f3), (oa n4 cI (64 * (2 * cl)) f4)] := hD
          refine lv_aload_n hx hb dX11_lose_154 rfl (lv_at hl 6 rfl) ?_
          refine va_get (D := (dC, dI)) (ci := 9) (v := .ref n3) (C := RX11) (T := TX11) (N := 55) hx hb hts inX11 hown hK hP 0 rfl rfl 24 (by decide) (hts _ mw_1183) (fun _ h9 => h9) rfl dX11_lose_155 ?_
          refine lv_aload_n hx hb dX11_lose_158 rfl (lv_at hl 6 rfl) ?_
          refine va_get (D := (dC, dI)) (ci := 9) (v := .int (I0 26)) (C := RX11) (T := TX11) (N := 55) hx hb hts inX11 hown hK hP 0 rfl rfl 26 (by decide) (hts _ mw_1185) (fun _ h9 => h9) rfl dX11_lose_159 ?_
          refine zz_i (v := nI ln) (hln) ?_
          refine lv_iload_n hx hb dX11_lose_162 rfl (lv_at hl 9 rfl) ?_
          refine z_iast hx hb hK hP hD hS 7 0 rfl rfl (e := ln) (x := e3) rfl (by omega) (by omega) dX11_lose_163 (fun H locs hP hD hS => ?_)
          have hP : va_P (dC, dI) classes [(om k0 (va_up (va_up (va_up (va_up a 22 n1) 23 n2) 24 n3) 25 n4) I0 J0), (oa (a 22) cI (64 * cl) la), (oa (a 23) cI (64 * cl) lb), (oa (a 24) cI (64 * cl) lc), (oa (a 25) cI (64 * cl) ld), (oa n1 cI (64 * (2 * cl)) (upd f1 ln e1)), (oa n2 cI (64 * (2 * cl)) (upd f2 ln e2)), (oa n3 cI (64 * (2 * cl)) (upd f3 ln e3)), (oa n4 cI (64 * (2 * cl)) f4)] H := hP
          have hD : va_D A [(om k0 (va_up (va_up (va_up (va_up a 22 n1) 23 n2) 24 n3) 25 n4) I0 J0), (oa (a 22) cI (64 * cl) la), (oa (a 23) cI (64 * cl) lb), (oa (a 24) cI (64 * cl) lc), (oa (a 25) cI (64 * cl) ld), (oa n1 cI (64 * (2 * cl)) (upd f1 ln e1)), (oa n2 cI (64 * (2 * cl)) (upd f2 ln e2)), (oa n3 cI (64 * (2 * cl)) (upd f3 ln e3)), (oa n4 cI (64 * (2 * cl)) f4)] := hD
          refine lv_aload_n hx hb dX11_lose_164 rfl (lv_at hl 6 rfl) ?_
          refine va_get (D := (dC, dI)) (ci := 9) (v := .ref n4) (C := RX11) (T := TX11) (N := 55) hx hb hts inX11 hown hK hP 0 rfl rfl 25 (by decide) (hts _ mw_1184) (fun _ h9 => h9) rfl dX11_lose_165 ?_
          refine lv_aload_n hx hb dX11_lose_168 rfl (lv_at hl 6 rfl) ?_
          refine va_get (D := (dC, dI)) (ci := 9) (v := .int (I0 26)) (C := RX11) (T := TX11) (N := 55) hx hb hts inX11 hown hK hP 0 rfl rfl 26 (by decide) (hts _ mw_1185) (fun _ h9 => h9) rfl dX11_lose_169 ?_
          refine zz_i (v := nI ln) (hln) ?_
          refine lv_iload hx hb dX11_lose_172 (lv_at hl 10 rfl) ?_
          refine z_iast hx hb hK hP hD hS 8 0 rfl rfl (e := ln) (x := e4) rfl (by omega) (by omega) dX11_lose_174 (fun H locs hP hD hS => ?_)
          have hP : va_P (dC, dI) classes [(om k0 (va_up (va_up (va_up (va_up a 22 n1) 23 n2) 24 n3) 25 n4) I0 J0), (oa (a 22) cI (64 * cl) la), (oa (a 23) cI (64 * cl) lb), (oa (a 24) cI (64 * cl) lc), (oa (a 25) cI (64 * cl) ld), (oa n1 cI (64 * (2 * cl)) (upd f1 ln e1)), (oa n2 cI (64 * (2 * cl)) (upd f2 ln e2)), (oa n3 cI (64 * (2 * cl)) (upd f3 ln e3)), (oa n4 cI (64 * (2 * cl)) (upd f4 ln e4))] H := hP
          have hD : va_D A [(om k0 (va_up (va_up (va_up (va_up a 22 n1) 23 n2) 24 n3) 25 n4) I0 J0), (oa (a 22) cI (64 * cl) la), (oa (a 23) cI (64 * cl) lb), (oa (a 24) cI (64 * cl) lc), (oa (a 25) cI (64 * cl) ld), (oa n1 cI (64 * (2 * cl)) (upd f1 ln e1)), (oa n2 cI (64 * (2 * cl)) (upd f2 ln e2)), (oa n3 cI (64 * (2 * cl)) (upd f3 ln e3)), (oa n4 cI (64 * (2 * cl)) (upd f4 ln e4))] := hD
          refine lv_aload_n hx hb dX11_lose_175 rfl (lv_at hl 6 rfl) ?_
          refine lv_dup hx hb dX11_lose_176 rfl ?_
          refine va_get (D := (dC, dI)) (ci := 9) (v := .int (I0 26)) (C := RX11) (T := TX11) (N := 55) hx hb hts inX11 hown hK hP 0 rfl rfl 26 (by decide) (hts _ mw_1185) (fun _ h9 => h9) rfl dX11_lose_177 ?_
          refine zz_i (v := nI ln) (hln) ?_
          refine lv_iconst (v := 1) hx hb dX11_lose_180 (by decide) ?_
          refine lv_iadd hx hb dX11_lose_181 ?_
          refine zz_i (v := nI (ln + 1)) (nI_add ln 1) ?_
          refine va_put (D := (dC, dI)) (ci := 9) (v := .int (nI (ln + 1))) (ty := .int) (C := RX11) (T := TX11) (N := 55) hx hb hts inX11 tyX11 tyX11_ok nmX11 hown hK hP hD hS 0 rfl rfl 26 (by decide) (hts _ mw_1185) (fun _ h9 => h9) rfl (by decide +kernel) rfl rfl (Nat.le_of_ble_eq_true rfl) dX11_lose_182 (fun H locs hP hD hS => ?_)
          have hP : va_P (dC, dI) classes [(om k0 (va_up (va_up (va_up (va_up a 22 n1) 23 n2) 24 n3) 25 n4) (upd I0 26 (nI (ln + 1))) J0), (oa (a 22) cI (64 * cl) la), (oa (a 23) cI (64 * cl) lb), (oa (a 24) cI (64 * cl) lc), (oa (a 25) cI (64 * cl) ld), (oa n1 cI (64 * (2 * cl)) (upd f1 ln e1)), (oa n2 cI (64 * (2 * cl)) (upd f2 ln e2)), (oa n3 cI (64 * (2 * cl)) (upd f3 ln e3)), (oa n4 cI (64 * (2 * cl)) (upd f4 ln e4))] H := hP
          have hD : va_D A [(om k0 (va_up (va_up (va_up (va_up a 22 n1) 23 n2) 24 n3) 25 n4) (upd I0 26 (nI (ln + 1))) J0), (oa (a 22) cI (64 * cl) la), (oa (a 23) cI (64 * cl) lb), (oa (a 24) cI (64 * cl) lc), (oa (a 25) cI (64 * cl) ld), (oa n1 cI (64 * (2 * cl)) (upd f1 ln e1)), (oa n2 cI (64 * (2 * cl)) (upd f2 ln e2)), (oa n3 cI (64 * (2 * cl)) (upd f3 ln e3)), (oa n4 cI (64 * (2 * cl)) (upd f4 ln e4))] := hD
          have hP9 := hP.sub (ws' := [(om k0 (va_up (va_up (va_up (va_up a 22 n1) 23 n2) 24 n3) 25 n4) (upd I0 26 (nI (ln + 1))) J0), (oa n1 cI (64 * (2 * cl)) (upd f1 ln e1)), (oa n2 cI (64 * (2 * cl)) (upd f2 ln e2)), (oa n3 cI (64 * (2 * cl)) (upd f3 ln e3)), (oa n4 cI (64 * (2 * cl)) (upd f4 ln e4))]) [0, 5, 6, 7, 8] rfl
          have hD9 := hD.sub (ws' := [(om k0 (va_up (va_up (va_up (va_up a 22 n1) 23 n2) 24 n3) 25 n4) (upd I0 26 (nI (ln + 1))) J0), (oa n1 cI (64 * (2 * cl)) (upd f1 ln e1)), (oa n2 cI (64 * (2 * cl)) (upd f2 ln e2)), (oa n3 cI (64 * (2 * cl)) (upd f3 ln e3)), (oa n4 cI (64 * (2 * cl)) (upd f4 ln e4))]) [0, 5, 6, 7, 8] (by decide) rfl
          refine W.widen (k := 4 * (dl cl ln - cl)) (n := 512 * (dl cl ln - cl)) (by omega) (by omega) ?_
          rw [hQ9]
          exact W.vret hx hb hr (fun t ht hW => ⟨⟨rfl, n1, n2, n3, n4, (2 * cl), (upd f1 ln e1), (upd f2 ln e2), (upd f3 ln e3), (upd f4 ln e4), (by first | (rw [hdl, if_neg (by omega)]) | (rw [hdl])), (by exact up_at _ _ _), (by exact up_at _ _ _), (by exact up_at _ _ _), (by exact up_at _ _ _), (by first | exact up_lo (fun j hj => ha1 j (by omega)) (Nat.le_refl _) | exact up_lo (fun j hj => rfl) (Nat.le_refl _)), (by first | exact up_lo (fun j hj => ha2 j (by omega)) (Nat.le_refl _) | exact up_lo (fun j hj => rfl) (Nat.le_refl _)), (by first | exact up_lo (fun j hj => ha3 j (by omega)) (Nat.le_refl _) | exact up_lo (fun j hj => rfl) (Nat.le_refl _)), (by first | exact up_lo (fun j hj => ha4 j (by omega)) (Nat.le_refl _) | exact up_lo (fun j hj => rfl) (Nat.le_refl _)), by rw [ht]; exact hP9, hD9⟩, hS.F ht⟩) hS.2.2 dX11_lose_185
        · have c_2 : ((k : Nat) : Int) < ((ln : Nat) : Int) := zc_nle (nI_toInt (by omega)) (nI_toInt (by omega)) c_2
          refine lv_aload hx hb dX11_lose_56 (lv_at hl 4 rfl) ?_
          refine lv_iload hx hb dX11_lose_58 (lv_at hl 0 rfl) ?_
          refine lv_aload_n hx hb dX11_lose_60 rfl (lv_at hl 6 rfl) ?_
          refine va_get (D := (dC, dI)) (ci := 9) (v := .ref (a 22)) (C := RX11) (T := TX11) (N := 55) hx hb hts inX11 hown hK hP 0 rfl rfl 22 (by decide) (hts _ mw_1181) (fun _ h9 => h9) rfl dX11_lose_61 ?_
          refine lv_iload hx hb dX11_lose_64 (lv_at hl 0 rfl) ?_
          refine z_iald hx hb hK hP 1 0 rfl rfl (e := k) rfl (by omega) (by omega) dX11_lose_66 ?_
          refine z_iast hx hb hK hP hD hS 5 0 rfl rfl (e := k) (x := la k) rfl (by omega) (by omega) dX11_lose_67 (fun H locs hP hD hS => ?_)
          have hP : va_P (dC, dI) classes [(om k0 a I0 J0), (oa (a 22) cI (64 * cl) la), (oa (a 23) cI (64 * cl) lb), (oa (a 24) cI (64 * cl) lc), (oa (a 25) cI (64 * cl) ld), (oa n1 cI (64 * (2 * cl)) (upd f1 k (la k))), (oa n2 cI (64 * (2 * cl)) f2), (oa n3 cI (64 * (2 * cl)) f3), (oa n4 cI (64 * (2 * cl)) f4)] H := hP
          have hD : va_D A [(om k0 a I0 J0), (oa (a 22) cI (64 * cl) la), (oa (a 23) cI (64 * cl) lb), (oa (a 24) cI (64 * cl) lc), (oa (a 25) cI (64 * cl) ld), (oa n1 cI (64 * (2 * cl)) (upd f1 k (la k))), (oa n2 cI (64 * (2 * cl)) f2), (oa n3 cI (64 * (2 * cl)) f3), (oa n4 cI (64 * (2 * cl)) f4)] := hD
          refine lv_aload hx hb dX11_lose_68 (lv_at hl 3 rfl) ?_
          refine lv_iload hx hb dX11_lose_70 (lv_at hl 0 rfl) ?_
          refine lv_aload_n hx hb dX11_lose_72 rfl (lv_at hl 6 rfl) ?_
          refine va_get (D := (dC, dI)) (ci := 9) (v := .ref (a 23)) (C := RX11) (T := TX11) (N := 55) hx hb hts inX11 hown hK hP 0 rfl rfl 23 (by decide) (hts _ mw_1182) (fun _ h9 => h9) rfl dX11_lose_73 ?_
          refine lv_iload hx hb dX11_lose_76 (lv_at hl 0 rfl) ?_
          refine z_iald hx hb hK hP 2 0 rfl rfl (e := k) rfl (by omega) (by omega) dX11_lose_78 ?_
          refine z_iast hx hb hK hP hD hS 6 0 rfl rfl (e := k) (x := lb k) rfl (by omega) (by omega) dX11_lose_79 (fun H locs hP hD hS => ?_)
          have hP : va_P (dC, dI) classes [(om k0 a I0 J0), (oa (a 22) cI (64 * cl) la), (oa (a 23) cI (64 * cl) lb), (oa (a 24) cI (64 * cl) lc), (oa (a 25) cI (64 * cl) ld), (oa n1 cI (64 * (2 * cl)) (upd f1 k (la k))), (oa n2 cI (64 * (2 * cl)) (upd f2 k (lb k))), (oa n3 cI (64 * (2 * cl)) f3), (oa n4 cI (64 * (2 * cl)) f4)] H := hP
          have hD : va_D A [(om k0 a I0 J0), (oa (a 22) cI (64 * cl) la), (oa (a 23) cI (64 * cl) lb), (oa (a 24) cI (64 * cl) lc), (oa (a 25) cI (64 * cl) ld), (oa n1 cI (64 * (2 * cl)) (upd f1 k (la k))), (oa n2 cI (64 * (2 * cl)) (upd f2 k (lb k))), (oa n3 cI (64 * (2 * cl)) f3), (oa n4 cI (64 * (2 * cl)) f4)] := hD
          refine lv_aload hx hb dX11_lose_80 (lv_at hl 2 rfl) ?_
          refine lv_iload hx hb dX11_lose_82 (lv_at hl 0 rfl) ?_
          refine lv_aload_n hx hb dX11_lose_84 rfl (lv_at hl 6 rfl) ?_
          refine va_get (D := (dC, dI)) (ci := 9) (v := .ref (a 24)) (C := RX11) (T := TX11) (N := 55) hx hb hts inX11 hown hK hP 0 rfl rfl 24 (by decide) (hts _ mw_1183) (fun _ h9 => h9) rfl dX11_lose_85 ?_
          refine lv_iload hx hb dX11_lose_88 (lv_at hl 0 rfl) ?_
          refine z_iald hx hb hK hP 3 0 rfl rfl (e := k) rfl (by omega) (by omega) dX11_lose_90 ?_
          refine z_iast hx hb hK hP hD hS 7 0 rfl rfl (e := k) (x := lc k) rfl (by omega) (by omega) dX11_lose_91 (fun H locs hP hD hS => ?_)
          have hP : va_P (dC, dI) classes [(om k0 a I0 J0), (oa (a 22) cI (64 * cl) la), (oa (a 23) cI (64 * cl) lb), (oa (a 24) cI (64 * cl) lc), (oa (a 25) cI (64 * cl) ld), (oa n1 cI (64 * (2 * cl)) (upd f1 k (la k))), (oa n2 cI (64 * (2 * cl)) (upd f2 k (lb k))), (oa n3 cI (64 * (2 * cl)) (upd f3 k (lc k))), (oa n4 cI (64 * (2 * cl)) f4)] H := hP
          have hD : va_D A [(om k0 a I0 J0), (oa (a 22) cI (64 * cl) la), (oa (a 23) cI (64 * cl) lb), (oa (a 24) cI (64 * cl) lc), (oa (a 25) cI (64 * cl) ld), (oa n1 cI (64 * (2 * cl)) (upd f1 k (la k))), (oa n2 cI (64 * (2 * cl)) (upd f2 k (lb k))), (oa n3 cI (64 * (2 * cl)) (upd f3 k (lc k))), (oa n4 cI (64 * (2 * cl)) f4)] := hD
          refine lv_aload hx hb dX11_lose_92 (lv_at hl 1 rfl) ?_
          refine lv_iload hx hb dX11_lose_94 (lv_at hl 0 rfl) ?_
          refine lv_aload_n hx hb dX11_lose_96 rfl (lv_at hl 6 rfl) ?_
          refine va_get (D := (dC, dI)) (ci := 9) (v := .ref (a 25)) (C := RX11) (T := TX11) (N := 55) hx hb hts inX11 hown hK hP 0 rfl rfl 25 (by decide) (hts _ mw_1184) (fun _ h9 => h9) rfl dX11_lose_97 ?_
          refine lv_iload hx hb dX11_lose_100 (lv_at hl 0 rfl) ?_
          refine z_iald hx hb hK hP 4 0 rfl rfl (e := k) rfl (by omega) (by omega) dX11_lose_102 ?_
          refine z_iast hx hb hK hP hD hS 8 0 rfl rfl (e := k) (x := ld k) rfl (by omega) (by omega) dX11_lose_103 (fun H locs hP hD hS => ?_)
          have hP : va_P (dC, dI) classes [(om k0 a I0 J0), (oa (a 22) cI (64 * cl) la), (oa (a 23) cI (64 * cl) lb), (oa (a 24) cI (64 * cl) lc), (oa (a 25) cI (64 * cl) ld), (oa n1 cI (64 * (2 * cl)) (upd f1 k (la k))), (oa n2 cI (64 * (2 * cl)) (upd f2 k (lb k))), (oa n3 cI (64 * (2 * cl)) (upd f3 k (lc k))), (oa n4 cI (64 * (2 * cl)) (upd f4 k (ld k)))] H := hP
          have hD : va_D A [(om k0 a I0 J0), (oa (a 22) cI (64 * cl) la), (oa (a 23) cI (64 * cl) lb), (oa (a 24) cI (64 * cl) lc), (oa (a 25) cI (64 * cl) ld), (oa n1 cI (64 * (2 * cl)) (upd f1 k (la k))), (oa n2 cI (64 * (2 * cl)) (upd f2 k (lb k))), (oa n3 cI (64 * (2 * cl)) (upd f3 k (lc k))), (oa n4 cI (64 * (2 * cl)) (upd f4 k (ld k)))] := hD
          refine lv_iinc (v := nI (k + 1)) (lv' := [(10, .int (nI (k + 1))), (9, .ref n4), (8, .ref n3), (7, .ref n2), (6, .ref n1), (5, .int (nI (64 * (2 * cl)))), (0, .ref k0), (1, .int e1), (2, .int e2), (3, .int e3), (4, .int e4)]) hx hb dX11_lose_104 hl (k := 0) rfl (nI_add k 1) (by decide) rfl (fun ls hl => ?_)
          refine lv_goto (tgt := 47) hx hb dX11_lose_107 (by decide) ?_
          exact ih_47 (k + 1) (upd f1 k (la k)) (upd f2 k (lb k)) (upd f3 k (lc k)) (upd f4 k (ld k)) H locs ls (by omega) (by omega) (up_sn ha1 rfl) (up_sn ha2 rfl) (up_sn ha3 rfl) (up_sn ha4 rfl) hP hD hS (lv_sub hl [0, 1, 2, 3, 4, 5, 6, 7, 8, 9, 10] rfl)
    exact hl_47 _ 0 (fun _ => 0) (fun _ => 0) (fun _ => 0) (fun _ => 0) H [] ls (Nat.lt_succ_self _) (by omega) (by intro j hj; omega) (by intro j hj; omega) (by intro j hj; omega) (by intro j hj; omega) hP hD hS (lv_sub hl [0, 1, 2, 3, 4, 5, 6, 7, 8, 9, 10] rfl)
set_option maxHeartbeats 4000000 in
set_option maxRecDepth 100000 in
theorem k_M_squeeze (l : Launch) (dC : Nat → ClassId) (dI : Nat → Nat → Nat) (cI cZ cF : ClassId) (sz : Nat) (k0 : Nat) (a : Nat → Nat) (I0 : Nat → Int32) (J0 : Nat → Int64) (fr : Nat) (ln : Nat) (cl : Nat) (la : Nat → Int32) (lb : Nat → Int32) (lc : Nat → Int32) (ld : Nat → Int32) (hln : I0 26 = nI ln) (hlc : ln ≤ 64 * cl) (hcl1 : 1 ≤ cl) (hclm : cl ≤ 1000000) (hfr : fr ≤ 64000000) : Met l yX11_squeeze (.code yX11_squeeze cX11_squeeze 4 none :: ws0) ({ frames := 0, cells := 0, slots := 0, locals := 0 } : Room) (va_Pc [.ref k0, .int (nI fr)] (zPre (dC, dI) classes (zTy cI cZ cF) [(om k0 a I0 J0), (oa (a 22) cI (64 * cl) la), (oa (a 23) cI (64 * cl) lb), (oa (a 24) cI (64 * cl) lc), (oa (a 25) cI (64 * cl) ld)] sz zXN)) (zQ none (fun t => ∃ (t9 : Nat), ∃ (la1 : Nat → Int32), ∃ (lb1 : Nat → Int32), ∃ (lc1 : Nat → Int32), ∃ (ld1 : Nat → Int32), (t9 ≤ ln) ∧ (∀ j, j < t9 → ∃ i, i < ln ∧ lb1 j = lb i ∧ lc1 j = lc i) ∧ va_P (dC, dI) classes [(om k0 a (upd I0 26 (nI t9)) J0), (oa (a 22) cI (64 * cl) la1), (oa (a 23) cI (64 * cl) lb1), (oa (a 24) cI (64 * cl) lc1), (oa (a 25) cI (64 * cl) ld1)] t.heap ∧ va_D (va_A [(om k0 a I0 J0), (oa (a 22) cI (64 * cl) la), (oa (a 23) cI (64 * cl) lb), (oa (a 24) cI (64 * cl) lc), (oa (a 25) cI (64 * cl) ld)] sz) [(om k0 a (upd I0 26 (nI t9)) J0), (oa (a 22) cI (64 * cl) la1), (oa (a 23) cI (64 * cl) lb1), (oa (a 24) cI (64 * cl) lc1), (oa (a 25) cI (64 * cl) ld1)]) (va_A [(om k0 a I0 J0), (oa (a 22) cI (64 * cl) la), (oa (a 23) cI (64 * cl) lb), (oa (a 24) cI (64 * cl) lc), (oa (a 25) cI (64 * cl) ld)] sz)) 0 0 (va_A [(om k0 a I0 J0), (oa (a 22) cI (64 * cl) la), (oa (a 23) cI (64 * cl) lb), (oa (a 24) cI (64 * cl) lc), (oa (a 25) cI (64 * cl) ld)] sz) := by
  refine Met.ofW (cc := cX11_squeeze) (maxL := 4) (ret := none) (by decide) rfl ?_
  intro p e s m args below meth c s₁ B hml hv
  obtain ⟨rfl, hsz, hP, hK, hD0, hXN⟩ := hv
  have hx := B.exec
  have hb := B.bytes
  have hr := B.returns
  have hts0 := atoms_spec (ws := .code yX11_squeeze cX11_squeeze 4 none :: ws0) B.pre
  have hts : ∀ w9 ∈ ws0, w9.before ([.ref k0, .int (nI fr)] : List Value).toArray s = true := fun w9 h => hts0 w9 (List.mem_cons_of_mem _ h)
  have hown : s.vm.findClass "ScaleShopModel" = some m.cls := findClass_of_methodNamed B.named
  have hlocks := B.notSynchronized
  subst hsz
  have hD := hD0.self (sz := s.heap.size)
  clear hD0
  generalize hAe : va_A [(om k0 a I0 J0), (oa (a 22) cI (64 * cl) la), (oa (a 23) cI (64 * cl) lb), (oa (a 24) cI (64 * cl) lc), (oa (a 25) cI (64 * cl) ld)] s.heap.size = A at hD ⊢
  have hA : ∀ q : Nat, s.heap.size ≤ q → A q := fun q h => by rw [← hAe]; exact Or.inr h
  clear hAe
  have hS : va_S A s.heap s.heap [] := va_S.rf
  have hP : va_P (dC, dI) classes [(om k0 a I0 J0), (oa (a 22) cI (64 * cl) la), (oa (a 23) cI (64 * cl) lb), (oa (a 24) cI (64 * cl) lc), (oa (a 25) cI (64 * cl) ld)] s.heap := hP
  obtain ⟨Q9, hQ9⟩ : ∃ Q9 : State → Prop, Q9 = MQ below (zQ none (fun t => ∃ (t9 : Nat), ∃ (la1 : Nat → Int32), ∃ (lb1 : Nat → Int32), ∃ (lc1 : Nat → Int32), ∃ (ld1 : Nat → Int32), (t9 ≤ ln) ∧ (∀ j, j < t9 → ∃ i, i < ln ∧ lb1 j = lb i ∧ lc1 j = lc i) ∧ va_P (dC, dI) classes [(om k0 a (upd I0 26 (nI t9)) J0), (oa (a 22) cI (64 * cl) la1), (oa (a 23) cI (64 * cl) lb1), (oa (a 24) cI (64 * cl) lc1), (oa (a 25) cI (64 * cl) ld1)] t.heap ∧ va_D A [(om k0 a (upd I0 26 (nI t9)) J0), (oa (a 22) cI (64 * cl) la1), (oa (a 23) cI (64 * cl) lb1), (oa (a 24) cI (64 * cl) lc1), (oa (a 25) cI (64 * cl) ld1)]) A) ([.ref k0, .int (nI fr)] : List Value).toArray s 0 0 A := ⟨_, rfl⟩
  rw [← hQ9]
  have hl := lv_entry ([.ref k0, .int (nI fr)]) (n := 4) (Nat.le_of_ble_eq_true rfl)
  rw [lg_entry_eq]
  generalize (lg_sl ([.ref k0, .int (nI fr)]) ++ List.replicate (4 - (lg_sl ([.ref k0, .int (nI fr)])).length) Slot.unset).toArray = ls at hl ⊢
  have hl : lv_has ls 4 [(0, .ref k0), (1, .int (nI fr))] := hl
  refine lv_iconst (v := 0) hx hb dX11_squeeze_0 (by decide) ?_
  refine lv_istore_n (lv' := [(2, .int 0), (0, .ref k0), (1, .int (nI fr))]) hx hb dX11_squeeze_1 rfl hl (by decide) rfl (fun ls hl => ?_)
  refine lv_iconst (v := 0) hx hb dX11_squeeze_2 (by decide) ?_
  refine lv_istore_n (lv' := [(3, .int 0), (2, .int 0), (0, .ref k0), (1, .int (nI fr))]) hx hb dX11_squeeze_3 rfl hl (by decide) rfl (fun ls hl => ?_)
  have hl_4 : ∀ (n9 : Nat) (k : Nat) (t9 : Nat) (la1 : Nat → Int32) (lb1 : Nat → Int32) (lc1 : Nat → Int32) (ld1 : Nat → Int32) (H : Heap) (locs : List Loc) (ls : Array Slot), ln - k < n9 → (k ≤ ln) → (t9 ≤ k) → (∀ j, j < t9 → ∃ i, i < ln ∧ lb1 j = lb i ∧ lc1 j = lc i) → (∀ j, k ≤ j → lb1 j = lb j ∧ lc1 j = lc j) → va_P (dC, dI) classes [(om k0 a I0 J0), (oa (a 22) cI (64 * cl) la1), (oa (a 23) cI (64 * cl) lb1), (oa (a 24) cI (64 * cl) lc1), (oa (a 25) cI (64 * cl) ld1)] H → va_D A [(om k0 a I0 J0), (oa (a 22) cI (64 * cl) la1), (oa (a 23) cI (64 * cl) lb1), (oa (a 24) cI (64 * cl) lc1), (oa (a 25) cI (64 * cl) ld1)] → va_S A s.heap H locs → lv_has ls 4 [(3, .int (nI k)), (2, .int (nI t9)), (0, .ref k0), (1, .int (nI fr))] → W p l e ((headSpec (.code yX11_squeeze cX11_squeeze 4 none :: ws0) ({ frames := 0, cells := 0, slots := 0, locals := 0 } : Room)).room) s m ([.ref k0, .int (nI fr)] : List Value).toArray below meth c H locs 0 0 Q9 (F0 m 4 ls []) := by
    intro n9
    induction n9 with
    | zero => intro k t9 la1 lb1 lc1 ld1 H locs ls hm; exact absurd hm (Nat.not_lt_zero _)
    | succ n9 ih_4 =>
      intro k t9 la1 lb1 lc1 ld1 H locs ls hm hk ht hs hrr hP hD hS hl
      refine lv_iload_n hx hb dX11_squeeze_4 rfl (lv_at hl 0 rfl) ?_
      refine lv_aload_n hx hb dX11_squeeze_5 rfl (lv_at hl 2 rfl) ?_
      refine va_get (D := (dC, dI)) (ci := 9) (v := .int (I0 26)) (C := RX11) (T := TX11) (N := 55) hx hb hts inX11 hown hK hP 0 rfl rfl 26 (by decide) (hts _ mw_1185) (fun _ h9 => h9) rfl dX11_squeeze_6 ?_
      refine zz_i (v := nI ln) (hln) ?_
      refine lv_icmp_ge (tgt := 90) hx hb dX11_squeeze_9 (by decide) (fun c_1 => ?_) (fun c_1 => ?_)
      · have c_1 : ((ln : Nat) : Int) ≤ ((k : Nat) : Int) := zc_le (nI_toInt (by omega)) (nI_toInt (by omega)) c_1
        refine lv_aload_n hx hb dX11_squeeze_90 rfl (lv_at hl 2 rfl) ?_
        refine lv_iload_n hx hb dX11_squeeze_91 rfl (lv_at hl 1 rfl) ?_
        refine va_put (D := (dC, dI)) (ci := 9) (v := .int (nI t9)) (ty := .int) (C := RX11) (T := TX11) (N := 55) hx hb hts inX11 tyX11 tyX11_ok nmX11 hown hK hP hD hS 0 rfl rfl 26 (by decide) (hts _ mw_1185) (fun _ h9 => h9) rfl (by decide +kernel) rfl rfl (Nat.le_of_ble_eq_true rfl) dX11_squeeze_92 (fun H locs hP hD hS => ?_)
        have hP : va_P (dC, dI) classes [(om k0 a (upd I0 26 (nI t9)) J0), (oa (a 22) cI (64 * cl) la1), (oa (a 23) cI (64 * cl) lb1), (oa (a 24) cI (64 * cl) lc1), (oa (a 25) cI (64 * cl) ld1)] H := hP
        have hD : va_D A [(om k0 a (upd I0 26 (nI t9)) J0), (oa (a 22) cI (64 * cl) la1), (oa (a 23) cI (64 * cl) lb1), (oa (a 24) cI (64 * cl) lc1), (oa (a 25) cI (64 * cl) ld1)] := hD
        have hP9 := hP.sub (ws' := [(om k0 a (upd I0 26 (nI t9)) J0), (oa (a 22) cI (64 * cl) la1), (oa (a 23) cI (64 * cl) lb1), (oa (a 24) cI (64 * cl) lc1), (oa (a 25) cI (64 * cl) ld1)]) [0, 1, 2, 3, 4] rfl
        have hD9 := hD.sub (ws' := [(om k0 a (upd I0 26 (nI t9)) J0), (oa (a 22) cI (64 * cl) la1), (oa (a 23) cI (64 * cl) lb1), (oa (a 24) cI (64 * cl) lc1), (oa (a 25) cI (64 * cl) ld1)]) [0, 1, 2, 3, 4] (by decide) rfl
        rw [hQ9]
        exact W.vret hx hb hr (fun t ht hW => ⟨⟨rfl, t9, la1, lb1, lc1, ld1, (by omega), (hs), by rw [ht]; exact hP9, hD9⟩, hS.F ht⟩) hS.2.2 dX11_squeeze_95
      · have c_1 : ((k : Nat) : Int) < ((ln : Nat) : Int) := zc_nle (nI_toInt (by omega)) (nI_toInt (by omega)) c_1
        refine lv_iload_n hx hb dX11_squeeze_12 rfl (lv_at hl 0 rfl) ?_
        refine lv_iload_n hx hb dX11_squeeze_13 rfl (lv_at hl 3 rfl) ?_
        refine lv_icmp_ge (tgt := 33) hx hb dX11_squeeze_14 (by decide) (fun c_2 => ?_) (fun c_2 => ?_)
        · have c_2 : ((fr : Nat) : Int) ≤ ((k : Nat) : Int) := zc_le (nI_toInt (by omega)) (nI_toInt (by omega)) c_2
          refine lv_aload_n hx hb dX11_squeeze_33 rfl (lv_at hl 2 rfl) ?_
          refine va_get (D := (dC, dI)) (ci := 9) (v := .ref (a 22)) (C := RX11) (T := TX11) (N := 55) hx hb hts inX11 hown hK hP 0 rfl rfl 22 (by decide) (hts _ mw_1181) (fun _ h9 => h9) rfl dX11_squeeze_34 ?_
          refine lv_iload_n hx hb dX11_squeeze_37 rfl (lv_at hl 1 rfl) ?_
          refine lv_aload_n hx hb dX11_squeeze_38 rfl (lv_at hl 2 rfl) ?_
          refine va_get (D := (dC, dI)) (ci := 9) (v := .ref (a 22)) (C := RX11) (T := TX11) (N := 55) hx hb hts inX11 hown hK hP 0 rfl rfl 22 (by decide) (hts _ mw_1181) (fun _ h9 => h9) rfl dX11_squeeze_39 ?_
          refine lv_iload_n hx hb dX11_squeeze_42 rfl (lv_at hl 0 rfl) ?_
          refine z_iald hx hb hK hP 1 0 rfl rfl (e := k) rfl (by omega) (by omega) dX11_squeeze_43 ?_
          refine z_iast hx hb hK hP hD hS 1 0 rfl rfl (e := t9) (x := la1 k) rfl (by omega) (by omega) dX11_squeeze_44 (fun H locs hP hD hS => ?_)
          have hP : va_P (dC, dI) classes [(om k0 a I0 J0), (oa (a 22) cI (64 * cl) (upd la1 t9 (la1 k))), (oa (a 23) cI (64 * cl) lb1), (oa (a 24) cI (64 * cl) lc1), (oa (a 25) cI (64 * cl) ld1)] H := hP
          have hD : va_D A [(om k0 a I0 J0), (oa (a 22) cI (64 * cl) (upd la1 t9 (la1 k))), (oa (a 23) cI (64 * cl) lb1), (oa (a 24) cI (64 * cl) lc1), (oa (a 25) cI (64 * cl) ld1)] := hD
          refine lv_aload_n hx hb dX11_squeeze_45 rfl (lv_at hl 2 rfl) ?_
          refine va_get (D := (dC, dI)) (ci := 9) (v := .ref (a 23)) (C := RX11) (T := TX11) (N := 55) hx hb hts inX11 hown hK hP 0 rfl rfl 23 (by decide) (hts _ mw_1182) (fun _ h9 => h9) rfl dX11_squeeze_46 ?_
          refine lv_iload_n hx hb dX11_squeeze_49 rfl (lv_at hl 1 rfl) ?_
          refine lv_aload_n hx hb dX11_squeeze_50 rfl (lv_at hl 2 rfl) ?_
          refine va_get (D := (dC, dI)) (ci := 9) (v := .ref (a 23)) (C := RX11) (T := TX11) (N := 55) hx hb hts inX11 hown hK hP 0 rfl rfl 23 (by decide) (hts _ mw_1182) (fun _ h9 => h9) rfl dX11_squeeze_51 ?_
          refine lv_iload_n hx hb dX11_squeeze_54 rfl (lv_at hl 0 rfl) ?_
          refine z_iald hx hb hK hP 2 0 rfl rfl (e := k) rfl (by omega) (by omega) dX11_squeeze_55 ?_
          refine z_iast hx hb hK hP hD hS 2 0 rfl rfl (e := t9) (x := lb1 k) rfl (by omega) (by omega) dX11_squeeze_56 (fun H locs hP hD hS => ?_)
          have hP : va_P (dC, dI) classes [(om k0 a I0 J0), (oa (a 22) cI (64 * cl) (upd la1 t9 (la1 k))), (oa (a 23) cI (64 * cl) (upd lb1 t9 (lb1 k))), (oa (a 24) cI (64 * cl) lc1), (oa (a 25) cI (64 * cl) ld1)] H := hP
          have hD : va_D A [(om k0 a I0 J0), (oa (a 22) cI (64 * cl) (upd la1 t9 (la1 k))), (oa (a 23) cI (64 * cl) (upd lb1 t9 (lb1 k))), (oa (a 24) cI (64 * cl) lc1), (oa (a 25) cI (64 * cl) ld1)] := hD
          refine lv_aload_n hx hb dX11_squeeze_57 rfl (lv_at hl 2 rfl) ?_
          refine va_get (D := (dC, dI)) (ci := 9) (v := .ref (a 24)) (C := RX11) (T := TX11) (N := 55) hx hb hts inX11 hown hK hP 0 rfl rfl 24 (by decide) (hts _ mw_1183) (fun _ h9 => h9) rfl dX11_squeeze_58 ?_
          refine lv_iload_n hx hb dX11_squeeze_61 rfl (lv_at hl 1 rfl) ?_
          refine lv_aload_n hx hb dX11_squeeze_62 rfl (lv_at hl 2 rfl) ?_
          refine va_get (D := (dC, dI)) (ci := 9) (v := .ref (a 24)) (C := RX11) (T := TX11) (N := 55) hx hb hts inX11 hown hK hP 0 rfl rfl 24 (by decide) (hts _ mw_1183) (fun _ h9 => h9) rfl dX11_squeeze_63 ?_
          refine lv_iload_n hx hb dX11_squeeze_66 rfl (lv_at hl 0 rfl) ?_
          refine z_iald hx hb hK hP 3 0 rfl rfl (e := k) rfl (by omega) (by omega) dX11_squeeze_67 ?_
          refine z_iast hx hb hK hP hD hS 3 0 rfl rfl (e := t9) (x := lc1 k) rfl (by omega) (by omega) dX11_squeeze_68 (fun H locs hP hD hS => ?_)
          have hP : va_P (dC, dI) classes [(om k0 a I0 J0), (oa (a 22) cI (64 * cl) (upd la1 t9 (la1 k))), (oa (a 23) cI (64 * cl) (upd lb1 t9 (lb1 k))), (oa (a 24) cI (64 * cl) (upd lc1 t9 (lc1 k))), (oa (a 25) cI (64 * cl) ld1)] H := hP
          have hD : va_D A [(om k0 a I0 J0), (oa (a 22) cI (64 * cl) (upd la1 t9 (la1 k))), (oa (a 23) cI (64 * cl) (upd lb1 t9 (lb1 k))), (oa (a 24) cI (64 * cl) (upd lc1 t9 (lc1 k))), (oa (a 25) cI (64 * cl) ld1)] := hD
          refine lv_aload_n hx hb dX11_squeeze_69 rfl (lv_at hl 2 rfl) ?_
          refine va_get (D := (dC, dI)) (ci := 9) (v := .ref (a 25)) (C := RX11) (T := TX11) (N := 55) hx hb hts inX11 hown hK hP 0 rfl rfl 25 (by decide) (hts _ mw_1184) (fun _ h9 => h9) rfl dX11_squeeze_70 ?_
          refine lv_iload_n hx hb dX11_squeeze_73 rfl (lv_at hl 1 rfl) ?_
          refine lv_aload_n hx hb dX11_squeeze_74 rfl (lv_at hl 2 rfl) ?_
          refine va_get (D := (dC, dI)) (ci := 9) (v := .ref (a 25)) (C := RX11) (T := TX11) (N := 55) hx hb hts inX11 hown hK hP 0 rfl rfl 25 (by decide) (hts _ mw_1184) (fun _ h9 => h9) rfl dX11_squeeze_75 ?_
          refine lv_iload_n hx hb dX11_squeeze_78 rfl (lv_at hl 0 rfl) ?_
          refine z_iald hx hb hK hP 4 0 rfl rfl (e := k) rfl (by omega) (by omega) dX11_squeeze_79 ?_
          refine z_iast hx hb hK hP hD hS 4 0 rfl rfl (e := t9) (x := ld1 k) rfl (by omega) (by omega) dX11_squeeze_80 (fun H locs hP hD hS => ?_)
          have hP : va_P (dC, dI) classes [(om k0 a I0 J0), (oa (a 22) cI (64 * cl) (upd la1 t9 (la1 k))), (oa (a 23) cI (64 * cl) (upd lb1 t9 (lb1 k))), (oa (a 24) cI (64 * cl) (upd lc1 t9 (lc1 k))), (oa (a 25) cI (64 * cl) (upd ld1 t9 (ld1 k)))] H := hP
          have hD : va_D A [(om k0 a I0 J0), (oa (a 22) cI (64 * cl) (upd la1 t9 (la1 k))), (oa (a 23) cI (64 * cl) (upd lb1 t9 (lb1 k))), (oa (a 24) cI (64 * cl) (upd lc1 t9 (lc1 k))), (oa (a 25) cI (64 * cl) (upd ld1 t9 (ld1 k)))] := hD
          refine lv_iinc (v := nI (t9 + 1)) (lv' := [(2, .int (nI (t9 + 1))), (3, .int (nI k)), (0, .ref k0), (1, .int (nI fr))]) hx hb dX11_squeeze_81 hl (k := 1) rfl (nI_add t9 1) (by decide) rfl (fun ls hl => ?_)
          refine lv_iinc (v := nI (k + 1)) (lv' := [(3, .int (nI (k + 1))), (2, .int (nI (t9 + 1))), (0, .ref k0), (1, .int (nI fr))]) hx hb dX11_squeeze_84 hl (k := 1) rfl (nI_add k 1) (by decide) rfl (fun ls hl => ?_)
          refine lv_goto (tgt := 4) hx hb dX11_squeeze_87 (by decide) ?_
          exact ih_4 (k + 1) (t9 + 1) (upd la1 t9 (la1 k)) (upd lb1 t9 (lb1 k)) (upd lc1 t9 (lc1 k)) (upd ld1 t9 (ld1 k)) H locs ls (by omega) (by omega) (by omega) (by first | exact hs | (intro j hj; rcases Nat.lt_or_ge j t9 with h | h; simp only [upd, if_neg (show j ≠ t9 by omega)]; exact hs j h; rw [show j = t9 by omega]; simp only [upd, if_true]; exact ⟨k, by omega, (hrr k (Nat.le_refl _)).1, (hrr k (Nat.le_refl _)).2⟩)) (by intro j hj; first | exact hrr j (by omega) | (simp only [upd, if_neg (show j ≠ t9 by omega)]; exact hrr j (by omega))) hP hD hS (lv_sub hl [0, 1, 2, 3] rfl)
        · have c_2 : ((k : Nat) : Int) < ((fr : Nat) : Int) := zc_nle (nI_toInt (by omega)) (nI_toInt (by omega)) c_2
          refine lv_aload_n hx hb dX11_squeeze_17 rfl (lv_at hl 2 rfl) ?_
          refine va_get (D := (dC, dI)) (ci := 9) (v := .ref (a 25)) (C := RX11) (T := TX11) (N := 55) hx hb hts inX11 hown hK hP 0 rfl rfl 25 (by decide) (hts _ mw_1184) (fun _ h9 => h9) rfl dX11_squeeze_18 ?_
          refine lv_iload_n hx hb dX11_squeeze_21 rfl (lv_at hl 0 rfl) ?_
          refine z_iald hx hb hK hP 4 0 rfl rfl (e := k) rfl (by omega) (by omega) dX11_squeeze_22 ?_
          refine lv_aload_n hx hb dX11_squeeze_23 rfl (lv_at hl 2 rfl) ?_
          refine va_get (D := (dC, dI)) (ci := 9) (v := .int (I0 19)) (C := RX11) (T := TX11) (N := 55) hx hb hts inX11 hown hK hP 0 rfl rfl 19 (by decide) (hts _ mw_1178) (fun _ h9 => h9) rfl dX11_squeeze_24 ?_
          refine lv_icmp_le (tgt := 33) hx hb dX11_squeeze_27 (by decide) (fun c_3 => ?_) (fun c_3 => ?_)
          · have c_3 : (ld1 k).toInt ≤ (I0 19).toInt := zc_le rfl rfl c_3
            refine lv_aload_n hx hb dX11_squeeze_33 rfl (lv_at hl 2 rfl) ?_
            refine va_get (D := (dC, dI)) (ci := 9) (v := .ref (a 22)) (C := RX11) (T := TX11) (N := 55) hx hb hts inX11 hown hK hP 0 rfl rfl 22 (by decide) (hts _ mw_1181) (fun _ h9 => h9) rfl dX11_squeeze_34 ?_
            refine lv_iload_n hx hb dX11_squeeze_37 rfl (lv_at hl 1 rfl) ?_
            refine lv_aload_n hx hb dX11_squeeze_38 rfl (lv_at hl 2 rfl) ?_
            refine va_get (D := (dC, dI)) (ci := 9) (v := .ref (a 22)) (C := RX11) (T := TX11) (N := 55) hx hb hts inX11 hown hK hP 0 rfl rfl 22 (by decide) (hts _ mw_1181) (fun _ h9 => h9) rfl dX11_squeeze_39 ?_
            refine lv_iload_n hx hb dX11_squeeze_42 rfl (lv_at hl 0 rfl) ?_
            refine z_iald hx hb hK hP 1 0 rfl rfl (e := k) rfl (by omega) (by omega) dX11_squeeze_43 ?_
            refine z_iast hx hb hK hP hD hS 1 0 rfl rfl (e := t9) (x := la1 k) rfl (by omega) (by omega) dX11_squeeze_44 (fun H locs hP hD hS => ?_)
            have hP : va_P (dC, dI) classes [(om k0 a I0 J0), (oa (a 22) cI (64 * cl) (upd la1 t9 (la1 k))), (oa (a 23) cI (64 * cl) lb1), (oa (a 24) cI (64 * cl) lc1), (oa (a 25) cI (64 * cl) ld1)] H := hP
            have hD : va_D A [(om k0 a I0 J0), (oa (a 22) cI (64 * cl) (upd la1 t9 (la1 k))), (oa (a 23) cI (64 * cl) lb1), (oa (a 24) cI (64 * cl) lc1), (oa (a 25) cI (64 * cl) ld1)] := hD
            refine lv_aload_n hx hb dX11_squeeze_45 rfl (lv_at hl 2 rfl) ?_
            refine va_get (D := (dC, dI)) (ci := 9) (v := .ref (a 23)) (C := RX11) (T := TX11) (N := 55) hx hb hts inX11 hown hK hP 0 rfl rfl 23 (by decide) (hts _ mw_1182) (fun _ h9 => h9) rfl dX11_squeeze_46 ?_
            refine lv_iload_n hx hb dX11_squeeze_49 rfl (lv_at hl 1 rfl) ?_
            refine lv_aload_n hx hb dX11_squeeze_50 rfl (lv_at hl 2 rfl) ?_
            refine va_get (D := (dC, dI)) (ci := 9) (v := .ref (a 23)) (C := RX11) (T := TX11) (N := 55) hx hb hts inX11 hown hK hP 0 rfl rfl 23 (by decide) (hts _ mw_1182) (fun _ h9 => h9) rfl dX11_squeeze_51 ?_
            refine lv_iload_n hx hb dX11_squeeze_54 rfl (lv_at hl 0 rfl) ?_
            refine z_iald hx hb hK hP 2 0 rfl rfl (e := k) rfl (by omega) (by omega) dX11_squeeze_55 ?_
            refine z_iast hx hb hK hP hD hS 2 0 rfl rfl (e := t9) (x := lb1 k) rfl (by omega) (by omega) dX11_squeeze_56 (fun H locs hP hD hS => ?_)
            have hP : va_P (dC, dI) classes [(om k0 a I0 J0), (oa (a 22) cI (64 * cl) (upd la1 t9 (la1 k))), (oa (a 23) cI (64 * cl) (upd lb1 t9 (lb1 k))), (oa (a 24) cI (64 * cl) lc1), (oa (a 25) cI (64 * cl) ld1)] H := hP
            have hD : va_D A [(om k0 a I0 J0), (oa (a 22) cI (64 * cl) (upd la1 t9 (la1 k))), (oa (a 23) cI (64 * cl) (upd lb1 t9 (lb1 k))), (oa (a 24) cI (64 * cl) lc1), (oa (a 25) cI (64 * cl) ld1)] := hD
            refine lv_aload_n hx hb dX11_squeeze_57 rfl (lv_at hl 2 rfl) ?_
            refine va_get (D := (dC, dI)) (ci := 9) (v := .ref (a 24)) (C := RX11) (T := TX11) (N := 55) hx hb hts inX11 hown hK hP 0 rfl rfl 24 (by decide) (hts _ mw_1183) (fun _ h9 => h9) rfl dX11_squeeze_58 ?_
            refine lv_iload_n hx hb dX11_squeeze_61 rfl (lv_at hl 1 rfl) ?_
            refine lv_aload_n hx hb dX11_squeeze_62 rfl (lv_at hl 2 rfl) ?_
            refine va_get (D := (dC, dI)) (ci := 9) (v := .ref (a 24)) (C := RX11) (T := TX11) (N := 55) hx hb hts inX11 hown hK hP 0 rfl rfl 24 (by decide) (hts _ mw_1183) (fun _ h9 => h9) rfl dX11_squeeze_63 ?_
            refine lv_iload_n hx hb dX11_squeeze_66 rfl (lv_at hl 0 rfl) ?_
            refine z_iald hx hb hK hP 3 0 rfl rfl (e := k) rfl (by omega) (by omega) dX11_squeeze_67 ?_
            refine z_iast hx hb hK hP hD hS 3 0 rfl rfl (e := t9) (x := lc1 k) rfl (by omega) (by omega) dX11_squeeze_68 (fun H locs hP hD hS => ?_)
            have hP : va_P (dC, dI) classes [(om k0 a I0 J0), (oa (a 22) cI (64 * cl) (upd la1 t9 (la1 k))), (oa (a 23) cI (64 * cl) (upd lb1 t9 (lb1 k))), (oa (a 24) cI (64 * cl) (upd lc1 t9 (lc1 k))), (oa (a 25) cI (64 * cl) ld1)] H := hP
            have hD : va_D A [(om k0 a I0 J0), (oa (a 22) cI (64 * cl) (upd la1 t9 (la1 k))), (oa (a 23) cI (64 * cl) (upd lb1 t9 (lb1 k))), (oa (a 24) cI (64 * cl) (upd lc1 t9 (lc1 k))), (oa (a 25) cI (64 * cl) ld1)] := hD
            refine lv_aload_n hx hb dX11_squeeze_69 rfl (lv_at hl 2 rfl) ?_
            refine va_get (D := (dC, dI)) (ci := 9) (v := .ref (a 25)) (C := RX11) (T := TX11) (N := 55) hx hb hts inX11 hown hK hP 0 rfl rfl 25 (by decide) (hts _ mw_1184) (fun _ h9 => h9) rfl dX11_squeeze_70 ?_
            refine lv_iload_n hx hb dX11_squeeze_73 rfl (lv_at hl 1 rfl) ?_
            refine lv_aload_n hx hb dX11_squeeze_74 rfl (lv_at hl 2 rfl) ?_
            refine va_get (D := (dC, dI)) (ci := 9) (v := .ref (a 25)) (C := RX11) (T := TX11) (N := 55) hx hb hts inX11 hown hK hP 0 rfl rfl 25 (by decide) (hts _ mw_1184) (fun _ h9 => h9) rfl dX11_squeeze_75 ?_
            refine lv_iload_n hx hb dX11_squeeze_78 rfl (lv_at hl 0 rfl) ?_
            refine z_iald hx hb hK hP 4 0 rfl rfl (e := k) rfl (by omega) (by omega) dX11_squeeze_79 ?_
            refine z_iast hx hb hK hP hD hS 4 0 rfl rfl (e := t9) (x := ld1 k) rfl (by omega) (by omega) dX11_squeeze_80 (fun H locs hP hD hS => ?_)
            have hP : va_P (dC, dI) classes [(om k0 a I0 J0), (oa (a 22) cI (64 * cl) (upd la1 t9 (la1 k))), (oa (a 23) cI (64 * cl) (upd lb1 t9 (lb1 k))), (oa (a 24) cI (64 * cl) (upd lc1 t9 (lc1 k))), (oa (a 25) cI (64 * cl) (upd ld1 t9 (ld1 k)))] H := hP
            have hD : va_D A [(om k0 a I0 J0), (oa (a 22) cI (64 * cl) (upd la1 t9 (la1 k))), (oa (a 23) cI (64 * cl) (upd lb1 t9 (lb1 k))), (oa (a 24) cI (64 * cl) (upd lc1 t9 (lc1 k))), (oa (a 25) cI (64 * cl) (upd ld1 t9 (ld1 k)))] := hD
            refine lv_iinc (v := nI (t9 + 1)) (lv' := [(2, .int (nI (t9 + 1))), (3, .int (nI k)), (0, .ref k0), (1, .int (nI fr))]) hx hb dX11_squeeze_81 hl (k := 1) rfl (nI_add t9 1) (by decide) rfl (fun ls hl => ?_)
            refine lv_iinc (v := nI (k + 1)) (lv' := [(3, .int (nI (k + 1))), (2, .int (nI (t9 + 1))), (0, .ref k0), (1, .int (nI fr))]) hx hb dX11_squeeze_84 hl (k := 1) rfl (nI_add k 1) (by decide) rfl (fun ls hl => ?_)
            refine lv_goto (tgt := 4) hx hb dX11_squeeze_87 (by decide) ?_
            exact ih_4 (k + 1) (t9 + 1) (upd la1 t9 (la1 k)) (upd lb1 t9 (lb1 k)) (upd lc1 t9 (lc1 k)) (upd ld1 t9 (ld1 k)) H locs ls (by omega) (by omega) (by omega) (by first | exact hs | (intro j hj; rcases Nat.lt_or_ge j t9 with h | h; simp only [upd, if_neg (show j ≠ t9 by omega)]; exact hs j h; rw [show j = t9 by omega]; simp only [upd, if_true]; exact ⟨k, by omega, (hrr k (Nat.le_refl _)).1, (hrr k (Nat.le_refl _)).2⟩)) (by intro j hj; first | exact hrr j (by omega) | (simp only [upd, if_neg (show j ≠ t9 by omega)]; exact hrr j (by omega))) hP hD hS (lv_sub hl [0, 1, 2, 3] rfl)
          · have c_3 : (I0 19).toInt < (ld1 k).toInt := zc_nle rfl rfl c_3
            refine lv_goto (tgt := 84) hx hb dX11_squeeze_30 (by decide) ?_
            refine lv_iinc (v := nI (k + 1)) (lv' := [(3, .int (nI (k + 1))), (2, .int (nI t9)), (0, .ref k0), (1, .int (nI fr))]) hx hb dX11_squeeze_84 hl (k := 0) rfl (nI_add k 1) (by decide) rfl (fun ls hl => ?_)
            refine lv_goto (tgt := 4) hx hb dX11_squeeze_87 (by decide) ?_
            exact ih_4 (k + 1) t9 la1 lb1 lc1 ld1 H locs ls (by omega) (by omega) (by omega) (by first | exact hs | (intro j hj; rcases Nat.lt_or_ge j t9 with h | h; simp only [upd, if_neg (show j ≠ t9 by omega)]; exact hs j h; rw [show j = t9 by omega]; simp only [upd, if_true]; exact ⟨k, by omega, (hrr k (Nat.le_refl _)).1, (hrr k (Nat.le_refl _)).2⟩)) (by intro j hj; first | exact hrr j (by omega) | (simp only [upd, if_neg (show j ≠ t9 by omega)]; exact hrr j (by omega))) hP hD hS (lv_sub hl [0, 1, 2, 3] rfl)
  exact hl_4 _ 0 0 la lb lc ld s.heap [] ls (Nat.lt_succ_self _) (by omega) (by omega) (by intro j hj; omega) (by intro j hj; exact ⟨rfl, rfl⟩) hP hD hS (lv_sub hl [0, 1, 2, 3] rfl)
